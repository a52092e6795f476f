section
-- ===== PART A: goes FIRST, ahead of the names: the tables' words, and 'selects' of the private methods out of them =====
/-- a private method of a class that the tables say can be made, by its rows of tables_1 -/
def lw_okq (q : MethodName × Nat) : Prop := (q.1.cls ≠ "java/lang/invoke/MethodHandle" ∧ q.1.cls ≠ "java/lang/invoke/VarHandle") ∧ Cond.instantiable q.1.cls q.2 ∈ tables_1 ∧ Cond.privateMethod q.1 ∈ tables_1 ∧ Cond.instanceMethod q.1 ∈ tables_1
theorem lw_p0 : lw_okq (⟨"ClerkVotes", "noteStateBefore", "()V"⟩, 10) := ⟨⟨by decide +kernel, by decide +kernel⟩, List.mem_of_getElem? (i := 10) (by decide +kernel), List.mem_of_getElem? (i := 156) (by decide +kernel), List.mem_of_getElem? (i := 157) (by decide +kernel)⟩
theorem lw_p1 : lw_okq (⟨"ClerkVotes", "recorded", "(I)I"⟩, 10) := ⟨⟨by decide +kernel, by decide +kernel⟩, List.mem_of_getElem? (i := 10) (by decide +kernel), List.mem_of_getElem? (i := 180) (by decide +kernel), List.mem_of_getElem? (i := 181) (by decide +kernel)⟩
theorem lw_p2 : lw_okq (⟨"ClerkVotes$State", "isIll", "(I)Z"⟩, 14) := ⟨⟨by decide +kernel, by decide +kernel⟩, List.mem_of_getElem? (i := 18) (by decide +kernel), List.mem_of_getElem? (i := 209) (by decide +kernel), List.mem_of_getElem? (i := 210) (by decide +kernel)⟩
theorem lw_p3 : lw_okq (⟨"ClerkVotes$State", "sendToClerks", "(IIII)V"⟩, 14) := ⟨⟨by decide +kernel, by decide +kernel⟩, List.mem_of_getElem? (i := 18) (by decide +kernel), List.mem_of_getElem? (i := 213) (by decide +kernel), List.mem_of_getElem? (i := 214) (by decide +kernel)⟩
theorem lw_p4 : lw_okq (⟨"ClerkVotes$State", "vote", "(II)V"⟩, 14) := ⟨⟨by decide +kernel, by decide +kernel⟩, List.mem_of_getElem? (i := 18) (by decide +kernel), List.mem_of_getElem? (i := 241) (by decide +kernel), List.mem_of_getElem? (i := 242) (by decide +kernel)⟩
theorem lw_p5 : lw_okq (⟨"ClerkVotes$State", "stands", "(III)Z"⟩, 14) := ⟨⟨by decide +kernel, by decide +kernel⟩, List.mem_of_getElem? (i := 18) (by decide +kernel), List.mem_of_getElem? (i := 245) (by decide +kernel), List.mem_of_getElem? (i := 246) (by decide +kernel)⟩
theorem lw_p6 : lw_okq (⟨"ClerkVotes$State", "whoStand", "(II)I"⟩, 14) := ⟨⟨by decide +kernel, by decide +kernel⟩, List.mem_of_getElem? (i := 18) (by decide +kernel), List.mem_of_getElem? (i := 249) (by decide +kernel), List.mem_of_getElem? (i := 250) (by decide +kernel)⟩
theorem lw_p7 : lw_okq (⟨"ClerkVotes$State", "move", "(IIII)V"⟩, 14) := ⟨⟨by decide +kernel, by decide +kernel⟩, List.mem_of_getElem? (i := 18) (by decide +kernel), List.mem_of_getElem? (i := 253) (by decide +kernel), List.mem_of_getElem? (i := 254) (by decide +kernel)⟩
theorem lw_p8 : lw_okq (⟨"ClerkVotes$State", "takeYes", "(II)V"⟩, 14) := ⟨⟨by decide +kernel, by decide +kernel⟩, List.mem_of_getElem? (i := 18) (by decide +kernel), List.mem_of_getElem? (i := 257) (by decide +kernel), List.mem_of_getElem? (i := 258) (by decide +kernel)⟩
theorem lw_p9 : lw_okq (⟨"ClerkVotes$State", "answerAsBetween", "(II)V"⟩, 14) := ⟨⟨by decide +kernel, by decide +kernel⟩, List.mem_of_getElem? (i := 18) (by decide +kernel), List.mem_of_getElem? (i := 261) (by decide +kernel), List.mem_of_getElem? (i := 262) (by decide +kernel)⟩
theorem lw_p10 : lw_okq (⟨"ClerkVotes$State", "takeNo", "(II)V"⟩, 14) := ⟨⟨by decide +kernel, by decide +kernel⟩, List.mem_of_getElem? (i := 18) (by decide +kernel), List.mem_of_getElem? (i := 265) (by decide +kernel), List.mem_of_getElem? (i := 266) (by decide +kernel)⟩
theorem lw_p11 : lw_okq (⟨"ClerkVotes$State", "postFor", "(II)V"⟩, 14) := ⟨⟨by decide +kernel, by decide +kernel⟩, List.mem_of_getElem? (i := 18) (by decide +kernel), List.mem_of_getElem? (i := 269) (by decide +kernel), List.mem_of_getElem? (i := 270) (by decide +kernel)⟩
theorem lw_p12 : lw_okq (⟨"ClerkVotes$State", "tearFor", "(II)V"⟩, 14) := ⟨⟨by decide +kernel, by decide +kernel⟩, List.mem_of_getElem? (i := 18) (by decide +kernel), List.mem_of_getElem? (i := 273) (by decide +kernel), List.mem_of_getElem? (i := 274) (by decide +kernel)⟩
theorem lw_p13 : lw_okq (⟨"ClerkVotes$State", "takeReceipt", "(II)V"⟩, 14) := ⟨⟨by decide +kernel, by decide +kernel⟩, List.mem_of_getElem? (i := 18) (by decide +kernel), List.mem_of_getElem? (i := 277) (by decide +kernel), List.mem_of_getElem? (i := 278) (by decide +kernel)⟩
theorem lw_p14 : lw_okq (⟨"ClerkVotes$State", "answerAsElder", "(III)V"⟩, 14) := ⟨⟨by decide +kernel, by decide +kernel⟩, List.mem_of_getElem? (i := 18) (by decide +kernel), List.mem_of_getElem? (i := 281) (by decide +kernel), List.mem_of_getElem? (i := 282) (by decide +kernel)⟩
theorem lw_p15 : lw_okq (⟨"ClerkVotes$State", "forget", "(II)V"⟩, 14) := ⟨⟨by decide +kernel, by decide +kernel⟩, List.mem_of_getElem? (i := 18) (by decide +kernel), List.mem_of_getElem? (i := 316) (by decide +kernel), List.mem_of_getElem? (i := 317) (by decide +kernel)⟩
def lw_privs_1 : List (MethodName × Nat) := [(⟨"ClerkVotes", "noteStateBefore", "()V"⟩, 10), (⟨"ClerkVotes", "recorded", "(I)I"⟩, 10), (⟨"ClerkVotes$State", "isIll", "(I)Z"⟩, 14), (⟨"ClerkVotes$State", "sendToClerks", "(IIII)V"⟩, 14), (⟨"ClerkVotes$State", "vote", "(II)V"⟩, 14), (⟨"ClerkVotes$State", "stands", "(III)Z"⟩, 14), (⟨"ClerkVotes$State", "whoStand", "(II)I"⟩, 14), (⟨"ClerkVotes$State", "move", "(IIII)V"⟩, 14), (⟨"ClerkVotes$State", "takeYes", "(II)V"⟩, 14), (⟨"ClerkVotes$State", "answerAsBetween", "(II)V"⟩, 14), (⟨"ClerkVotes$State", "takeNo", "(II)V"⟩, 14), (⟨"ClerkVotes$State", "postFor", "(II)V"⟩, 14), (⟨"ClerkVotes$State", "tearFor", "(II)V"⟩, 14), (⟨"ClerkVotes$State", "takeReceipt", "(II)V"⟩, 14), (⟨"ClerkVotes$State", "answerAsElder", "(III)V"⟩, 14), (⟨"ClerkVotes$State", "forget", "(II)V"⟩, 14)]
theorem lw_r1 : ∀ q ∈ lw_privs_1, lw_okq q := List.forall_mem_cons.mpr ⟨lw_p0, List.forall_mem_cons.mpr ⟨lw_p1, List.forall_mem_cons.mpr ⟨lw_p2, List.forall_mem_cons.mpr ⟨lw_p3, List.forall_mem_cons.mpr ⟨lw_p4, List.forall_mem_cons.mpr ⟨lw_p5, List.forall_mem_cons.mpr ⟨lw_p6, List.forall_mem_cons.mpr ⟨lw_p7, List.forall_mem_cons.mpr ⟨lw_p8, List.forall_mem_cons.mpr ⟨lw_p9, List.forall_mem_cons.mpr ⟨lw_p10, List.forall_mem_cons.mpr ⟨lw_p11, List.forall_mem_cons.mpr ⟨lw_p12, List.forall_mem_cons.mpr ⟨lw_p13, List.forall_mem_cons.mpr ⟨lw_p14, List.forall_mem_cons.mpr ⟨lw_p15, fun _ h => absurd h List.not_mem_nil⟩⟩⟩⟩⟩⟩⟩⟩⟩⟩⟩⟩⟩⟩⟩⟩
theorem lw_p16 : lw_okq (⟨"ClerkVotes$State", "passTick", "()V"⟩, 14) := ⟨⟨by decide +kernel, by decide +kernel⟩, List.mem_of_getElem? (i := 18) (by decide +kernel), List.mem_of_getElem? (i := 342) (by decide +kernel), List.mem_of_getElem? (i := 343) (by decide +kernel)⟩
theorem lw_p17 : lw_okq (⟨"ClerkVotes$State", "pressOn", "(I)V"⟩, 14) := ⟨⟨by decide +kernel, by decide +kernel⟩, List.mem_of_getElem? (i := 18) (by decide +kernel), List.mem_of_getElem? (i := 346) (by decide +kernel), List.mem_of_getElem? (i := 347) (by decide +kernel)⟩
theorem lw_p18 : lw_okq (⟨"ClerkVotes$State", "isTimeAgain", "(II)Z"⟩, 14) := ⟨⟨by decide +kernel, by decide +kernel⟩, List.mem_of_getElem? (i := 18) (by decide +kernel), List.mem_of_getElem? (i := 350) (by decide +kernel), List.mem_of_getElem? (i := 351) (by decide +kernel)⟩
theorem lw_p19 : lw_okq (⟨"ClerkVotes$State", "askInDoubt", "(I)V"⟩, 14) := ⟨⟨by decide +kernel, by decide +kernel⟩, List.mem_of_getElem? (i := 18) (by decide +kernel), List.mem_of_getElem? (i := 354) (by decide +kernel), List.mem_of_getElem? (i := 355) (by decide +kernel)⟩
theorem lw_p20 : lw_okq (⟨"ClerkVotes$State", "dealsWithBoth", "(II)I"⟩, 14) := ⟨⟨by decide +kernel, by decide +kernel⟩, List.mem_of_getElem? (i := 18) (by decide +kernel), List.mem_of_getElem? (i := 412) (by decide +kernel), List.mem_of_getElem? (i := 413) (by decide +kernel)⟩
theorem lw_p21 : lw_okq (⟨"ClerkVotes$State", "isSettled", "(I)Z"⟩, 14) := ⟨⟨by decide +kernel, by decide +kernel⟩, List.mem_of_getElem? (i := 18) (by decide +kernel), List.mem_of_getElem? (i := 441) (by decide +kernel), List.mem_of_getElem? (i := 442) (by decide +kernel)⟩
theorem lw_p22 : lw_okq (⟨"ClerkVotes", "faultOfPad", "()I"⟩, 10) := ⟨⟨by decide +kernel, by decide +kernel⟩, List.mem_of_getElem? (i := 10) (by decide +kernel), List.mem_of_getElem? (i := 478) (by decide +kernel), List.mem_of_getElem? (i := 479) (by decide +kernel)⟩
theorem lw_p23 : lw_okq (⟨"ClerkVotes$OrderReader", "takesOrderEnd", "()Z"⟩, 4) := ⟨⟨by decide +kernel, by decide +kernel⟩, List.mem_of_getElem? (i := 98) (by decide +kernel), List.mem_of_getElem? (i := 490) (by decide +kernel), List.mem_of_getElem? (i := 491) (by decide +kernel)⟩
theorem lw_p24 : lw_okq (⟨"ClerkVotes$OrderReader", "takesLetter", "(I)Z"⟩, 4) := ⟨⟨by decide +kernel, by decide +kernel⟩, List.mem_of_getElem? (i := 98) (by decide +kernel), List.mem_of_getElem? (i := 498) (by decide +kernel), List.mem_of_getElem? (i := 499) (by decide +kernel)⟩
theorem lw_p25 : lw_okq (⟨"ClerkVotes$OrderReader", "takesRisingClerk", "(I)Z"⟩, 4) := ⟨⟨by decide +kernel, by decide +kernel⟩, List.mem_of_getElem? (i := 98) (by decide +kernel), List.mem_of_getElem? (i := 502) (by decide +kernel), List.mem_of_getElem? (i := 503) (by decide +kernel)⟩
theorem lw_p26 : lw_okq (⟨"ClerkVotes$OrderReader", "takesDigit", "(I)Z"⟩, 4) := ⟨⟨by decide +kernel, by decide +kernel⟩, List.mem_of_getElem? (i := 98) (by decide +kernel), List.mem_of_getElem? (i := 506) (by decide +kernel), List.mem_of_getElem? (i := 507) (by decide +kernel)⟩
theorem lw_p27 : lw_okq (⟨"ClerkVotes$OrderReader", "takesSomebody", "(I)Z"⟩, 4) := ⟨⟨by decide +kernel, by decide +kernel⟩, List.mem_of_getElem? (i := 98) (by decide +kernel), List.mem_of_getElem? (i := 510) (by decide +kernel), List.mem_of_getElem? (i := 511) (by decide +kernel)⟩
theorem lw_p28 : lw_okq (⟨"ClerkVotes$OrderReader", "takesSign", "(I)Z"⟩, 4) := ⟨⟨by decide +kernel, by decide +kernel⟩, List.mem_of_getElem? (i := 98) (by decide +kernel), List.mem_of_getElem? (i := 514) (by decide +kernel), List.mem_of_getElem? (i := 515) (by decide +kernel)⟩
theorem lw_p29 : lw_okq (⟨"ClerkVotes", "carryOutOrders", "()I"⟩, 10) := ⟨⟨by decide +kernel, by decide +kernel⟩, List.mem_of_getElem? (i := 10) (by decide +kernel), List.mem_of_getElem? (i := 523) (by decide +kernel), List.mem_of_getElem? (i := 524) (by decide +kernel)⟩
theorem lw_p30 : lw_okq (⟨"ClerkVotes", "carryOutOrder", "()I"⟩, 10) := ⟨⟨by decide +kernel, by decide +kernel⟩, List.mem_of_getElem? (i := 10) (by decide +kernel), List.mem_of_getElem? (i := 527) (by decide +kernel), List.mem_of_getElem? (i := 528) (by decide +kernel)⟩
theorem lw_p31 : lw_okq (⟨"ClerkVotesModel", "record", "()V"⟩, 13) := ⟨⟨by decide +kernel, by decide +kernel⟩, List.mem_of_getElem? (i := 544) (by decide +kernel), List.mem_of_getElem? (i := 598) (by decide +kernel), List.mem_of_getElem? (i := 599) (by decide +kernel)⟩
def lw_privs_2 : List (MethodName × Nat) := [(⟨"ClerkVotes$State", "passTick", "()V"⟩, 14), (⟨"ClerkVotes$State", "pressOn", "(I)V"⟩, 14), (⟨"ClerkVotes$State", "isTimeAgain", "(II)Z"⟩, 14), (⟨"ClerkVotes$State", "askInDoubt", "(I)V"⟩, 14), (⟨"ClerkVotes$State", "dealsWithBoth", "(II)I"⟩, 14), (⟨"ClerkVotes$State", "isSettled", "(I)Z"⟩, 14), (⟨"ClerkVotes", "faultOfPad", "()I"⟩, 10), (⟨"ClerkVotes$OrderReader", "takesOrderEnd", "()Z"⟩, 4), (⟨"ClerkVotes$OrderReader", "takesLetter", "(I)Z"⟩, 4), (⟨"ClerkVotes$OrderReader", "takesRisingClerk", "(I)Z"⟩, 4), (⟨"ClerkVotes$OrderReader", "takesDigit", "(I)Z"⟩, 4), (⟨"ClerkVotes$OrderReader", "takesSomebody", "(I)Z"⟩, 4), (⟨"ClerkVotes$OrderReader", "takesSign", "(I)Z"⟩, 4), (⟨"ClerkVotes", "carryOutOrders", "()I"⟩, 10), (⟨"ClerkVotes", "carryOutOrder", "()I"⟩, 10), (⟨"ClerkVotesModel", "record", "()V"⟩, 13)]
theorem lw_r2 : ∀ q ∈ lw_privs_2, lw_okq q := List.forall_mem_cons.mpr ⟨lw_p16, List.forall_mem_cons.mpr ⟨lw_p17, List.forall_mem_cons.mpr ⟨lw_p18, List.forall_mem_cons.mpr ⟨lw_p19, List.forall_mem_cons.mpr ⟨lw_p20, List.forall_mem_cons.mpr ⟨lw_p21, List.forall_mem_cons.mpr ⟨lw_p22, List.forall_mem_cons.mpr ⟨lw_p23, List.forall_mem_cons.mpr ⟨lw_p24, List.forall_mem_cons.mpr ⟨lw_p25, List.forall_mem_cons.mpr ⟨lw_p26, List.forall_mem_cons.mpr ⟨lw_p27, List.forall_mem_cons.mpr ⟨lw_p28, List.forall_mem_cons.mpr ⟨lw_p29, List.forall_mem_cons.mpr ⟨lw_p30, List.forall_mem_cons.mpr ⟨lw_p31, fun _ h => absurd h List.not_mem_nil⟩⟩⟩⟩⟩⟩⟩⟩⟩⟩⟩⟩⟩⟩⟩⟩
theorem lw_p32 : lw_okq (⟨"ClerkVotesModel", "isIll", "(I)Z"⟩, 13) := ⟨⟨by decide +kernel, by decide +kernel⟩, List.mem_of_getElem? (i := 544) (by decide +kernel), List.mem_of_getElem? (i := 610) (by decide +kernel), List.mem_of_getElem? (i := 611) (by decide +kernel)⟩
theorem lw_p33 : lw_okq (⟨"ClerkVotesModel", "book", "(III)V"⟩, 13) := ⟨⟨by decide +kernel, by decide +kernel⟩, List.mem_of_getElem? (i := 544) (by decide +kernel), List.mem_of_getElem? (i := 614) (by decide +kernel), List.mem_of_getElem? (i := 615) (by decide +kernel)⟩
theorem lw_p34 : lw_okq (⟨"ClerkVotesModel", "sendAll", "(IIII)V"⟩, 13) := ⟨⟨by decide +kernel, by decide +kernel⟩, List.mem_of_getElem? (i := 544) (by decide +kernel), List.mem_of_getElem? (i := 618) (by decide +kernel), List.mem_of_getElem? (i := 619) (by decide +kernel)⟩
theorem lw_p35 : lw_okq (⟨"ClerkVotesModel", "send", "(IIII)V"⟩, 13) := ⟨⟨by decide +kernel, by decide +kernel⟩, List.mem_of_getElem? (i := 544) (by decide +kernel), List.mem_of_getElem? (i := 625) (by decide +kernel), List.mem_of_getElem? (i := 626) (by decide +kernel)⟩
theorem lw_p36 : lw_okq (⟨"ClerkVotesModel", "isMessage", "(I)Z"⟩, 13) := ⟨⟨by decide +kernel, by decide +kernel⟩, List.mem_of_getElem? (i := 544) (by decide +kernel), List.mem_of_getElem? (i := 633) (by decide +kernel), List.mem_of_getElem? (i := 634) (by decide +kernel)⟩
theorem lw_p37 : lw_okq (⟨"ClerkVotesModel", "deliverNow", "(I)V"⟩, 13) := ⟨⟨by decide +kernel, by decide +kernel⟩, List.mem_of_getElem? (i := 544) (by decide +kernel), List.mem_of_getElem? (i := 637) (by decide +kernel), List.mem_of_getElem? (i := 638) (by decide +kernel)⟩
theorem lw_p38 : lw_okq (⟨"ClerkVotesModel", "drop", "(I)V"⟩, 13) := ⟨⟨by decide +kernel, by decide +kernel⟩, List.mem_of_getElem? (i := 544) (by decide +kernel), List.mem_of_getElem? (i := 641) (by decide +kernel), List.mem_of_getElem? (i := 642) (by decide +kernel)⟩
theorem lw_p39 : lw_okq (⟨"ClerkVotesModel", "get", "(III)V"⟩, 13) := ⟨⟨by decide +kernel, by decide +kernel⟩, List.mem_of_getElem? (i := 544) (by decide +kernel), List.mem_of_getElem? (i := 645) (by decide +kernel), List.mem_of_getElem? (i := 646) (by decide +kernel)⟩
theorem lw_p40 : lw_okq (⟨"ClerkVotesModel", "of", "(II)I"⟩, 13) := ⟨⟨by decide +kernel, by decide +kernel⟩, List.mem_of_getElem? (i := 544) (by decide +kernel), List.mem_of_getElem? (i := 649) (by decide +kernel), List.mem_of_getElem? (i := 650) (by decide +kernel)⟩
theorem lw_p41 : lw_okq (⟨"ClerkVotesModel", "answer", "(II)V"⟩, 13) := ⟨⟨by decide +kernel, by decide +kernel⟩, List.mem_of_getElem? (i := 544) (by decide +kernel), List.mem_of_getElem? (i := 653) (by decide +kernel), List.mem_of_getElem? (i := 654) (by decide +kernel)⟩
theorem lw_p42 : lw_okq (⟨"ClerkVotesModel", "tear", "(II)V"⟩, 13) := ⟨⟨by decide +kernel, by decide +kernel⟩, List.mem_of_getElem? (i := 544) (by decide +kernel), List.mem_of_getElem? (i := 657) (by decide +kernel), List.mem_of_getElem? (i := 658) (by decide +kernel)⟩
theorem lw_p43 : lw_okq (⟨"ClerkVotesModel", "getBy", "(IIII)V"⟩, 13) := ⟨⟨by decide +kernel, by decide +kernel⟩, List.mem_of_getElem? (i := 544) (by decide +kernel), List.mem_of_getElem? (i := 661) (by decide +kernel), List.mem_of_getElem? (i := 662) (by decide +kernel)⟩
theorem lw_p44 : lw_okq (⟨"ClerkVotesModel", "become", "(III)V"⟩, 13) := ⟨⟨by decide +kernel, by decide +kernel⟩, List.mem_of_getElem? (i := 544) (by decide +kernel), List.mem_of_getElem? (i := 665) (by decide +kernel), List.mem_of_getElem? (i := 666) (by decide +kernel)⟩
theorem lw_p45 : lw_okq (⟨"ClerkVotesModel", "loseNow", "(I)V"⟩, 13) := ⟨⟨by decide +kernel, by decide +kernel⟩, List.mem_of_getElem? (i := 544) (by decide +kernel), List.mem_of_getElem? (i := 673) (by decide +kernel), List.mem_of_getElem? (i := 674) (by decide +kernel)⟩
theorem lw_p46 : lw_okq (⟨"ClerkVotesModel", "isPart", "(II)Z"⟩, 13) := ⟨⟨by decide +kernel, by decide +kernel⟩, List.mem_of_getElem? (i := 544) (by decide +kernel), List.mem_of_getElem? (i := 685) (by decide +kernel), List.mem_of_getElem? (i := 686) (by decide +kernel)⟩
theorem lw_p47 : lw_okq (⟨"ClerkVotesModel", "ill", "()I"⟩, 13) := ⟨⟨by decide +kernel, by decide +kernel⟩, List.mem_of_getElem? (i := 544) (by decide +kernel), List.mem_of_getElem? (i := 689) (by decide +kernel), List.mem_of_getElem? (i := 690) (by decide +kernel)⟩
def lw_privs_3 : List (MethodName × Nat) := [(⟨"ClerkVotesModel", "isIll", "(I)Z"⟩, 13), (⟨"ClerkVotesModel", "book", "(III)V"⟩, 13), (⟨"ClerkVotesModel", "sendAll", "(IIII)V"⟩, 13), (⟨"ClerkVotesModel", "send", "(IIII)V"⟩, 13), (⟨"ClerkVotesModel", "isMessage", "(I)Z"⟩, 13), (⟨"ClerkVotesModel", "deliverNow", "(I)V"⟩, 13), (⟨"ClerkVotesModel", "drop", "(I)V"⟩, 13), (⟨"ClerkVotesModel", "get", "(III)V"⟩, 13), (⟨"ClerkVotesModel", "of", "(II)I"⟩, 13), (⟨"ClerkVotesModel", "answer", "(II)V"⟩, 13), (⟨"ClerkVotesModel", "tear", "(II)V"⟩, 13), (⟨"ClerkVotesModel", "getBy", "(IIII)V"⟩, 13), (⟨"ClerkVotesModel", "become", "(III)V"⟩, 13), (⟨"ClerkVotesModel", "loseNow", "(I)V"⟩, 13), (⟨"ClerkVotesModel", "isPart", "(II)Z"⟩, 13), (⟨"ClerkVotesModel", "ill", "()I"⟩, 13)]
theorem lw_r3 : ∀ q ∈ lw_privs_3, lw_okq q := List.forall_mem_cons.mpr ⟨lw_p32, List.forall_mem_cons.mpr ⟨lw_p33, List.forall_mem_cons.mpr ⟨lw_p34, List.forall_mem_cons.mpr ⟨lw_p35, List.forall_mem_cons.mpr ⟨lw_p36, List.forall_mem_cons.mpr ⟨lw_p37, List.forall_mem_cons.mpr ⟨lw_p38, List.forall_mem_cons.mpr ⟨lw_p39, List.forall_mem_cons.mpr ⟨lw_p40, List.forall_mem_cons.mpr ⟨lw_p41, List.forall_mem_cons.mpr ⟨lw_p42, List.forall_mem_cons.mpr ⟨lw_p43, List.forall_mem_cons.mpr ⟨lw_p44, List.forall_mem_cons.mpr ⟨lw_p45, List.forall_mem_cons.mpr ⟨lw_p46, List.forall_mem_cons.mpr ⟨lw_p47, fun _ h => absurd h List.not_mem_nil⟩⟩⟩⟩⟩⟩⟩⟩⟩⟩⟩⟩⟩⟩⟩⟩
theorem lw_p48 : lw_okq (⟨"ClerkVotesModel", "pass", "()V"⟩, 13) := ⟨⟨by decide +kernel, by decide +kernel⟩, List.mem_of_getElem? (i := 544) (by decide +kernel), List.mem_of_getElem? (i := 701) (by decide +kernel), List.mem_of_getElem? (i := 702) (by decide +kernel)⟩
theorem lw_p49 : lw_okq (⟨"ClerkVotesModel", "passBetween", "(I)V"⟩, 13) := ⟨⟨by decide +kernel, by decide +kernel⟩, List.mem_of_getElem? (i := 544) (by decide +kernel), List.mem_of_getElem? (i := 705) (by decide +kernel), List.mem_of_getElem? (i := 706) (by decide +kernel)⟩
theorem lw_p50 : lw_okq (⟨"ClerkVotesModel", "passClerk", "(II)V"⟩, 13) := ⟨⟨by decide +kernel, by decide +kernel⟩, List.mem_of_getElem? (i := 544) (by decide +kernel), List.mem_of_getElem? (i := 712) (by decide +kernel), List.mem_of_getElem? (i := 713) (by decide +kernel)⟩
theorem lw_p51 : lw_okq (⟨"ClerkVotesModel", "isDeal", "(I)Z"⟩, 13) := ⟨⟨by decide +kernel, by decide +kernel⟩, List.mem_of_getElem? (i := 544) (by decide +kernel), List.mem_of_getElem? (i := 720) (by decide +kernel), List.mem_of_getElem? (i := 721) (by decide +kernel)⟩
theorem lw_p52 : lw_okq (⟨"ClerkVotesModel", "clerksOf", "(II)I"⟩, 13) := ⟨⟨by decide +kernel, by decide +kernel⟩, List.mem_of_getElem? (i := 544) (by decide +kernel), List.mem_of_getElem? (i := 724) (by decide +kernel), List.mem_of_getElem? (i := 725) (by decide +kernel)⟩
theorem lw_p53 : lw_okq (⟨"ClerkVotesModel", "underwayTo", "(I)I"⟩, 13) := ⟨⟨by decide +kernel, by decide +kernel⟩, List.mem_of_getElem? (i := 544) (by decide +kernel), List.mem_of_getElem? (i := 740) (by decide +kernel), List.mem_of_getElem? (i := 741) (by decide +kernel)⟩
theorem lw_p54 : lw_okq (⟨"ClerkVotesModel", "dealsWith", "(I)I"⟩, 13) := ⟨⟨by decide +kernel, by decide +kernel⟩, List.mem_of_getElem? (i := 544) (by decide +kernel), List.mem_of_getElem? (i := 748) (by decide +kernel), List.mem_of_getElem? (i := 749) (by decide +kernel)⟩
theorem lw_p55 : lw_okq (⟨"ClerkVotesModel", "canAsk", "(II)Z"⟩, 13) := ⟨⟨by decide +kernel, by decide +kernel⟩, List.mem_of_getElem? (i := 544) (by decide +kernel), List.mem_of_getElem? (i := 760) (by decide +kernel), List.mem_of_getElem? (i := 761) (by decide +kernel)⟩
theorem lw_p56 : lw_okq (⟨"ClerkVotesModel", "keep", "()V"⟩, 13) := ⟨⟨by decide +kernel, by decide +kernel⟩, List.mem_of_getElem? (i := 544) (by decide +kernel), List.mem_of_getElem? (i := 768) (by decide +kernel), List.mem_of_getElem? (i := 769) (by decide +kernel)⟩
theorem lw_p57 : lw_okq (⟨"ClerkVotesModel", "roundsTo", "(I)I"⟩, 13) := ⟨⟨by decide +kernel, by decide +kernel⟩, List.mem_of_getElem? (i := 544) (by decide +kernel), List.mem_of_getElem? (i := 772) (by decide +kernel), List.mem_of_getElem? (i := 773) (by decide +kernel)⟩
theorem lw_p58 : lw_okq (⟨"ClerkVotesModel", "isSettled", "(I)Z"⟩, 13) := ⟨⟨by decide +kernel, by decide +kernel⟩, List.mem_of_getElem? (i := 544) (by decide +kernel), List.mem_of_getElem? (i := 776) (by decide +kernel), List.mem_of_getElem? (i := 777) (by decide +kernel)⟩
theorem lw_p59 : lw_okq (⟨"ClerkVotesModel", "goRound", "()V"⟩, 13) := ⟨⟨by decide +kernel, by decide +kernel⟩, List.mem_of_getElem? (i := 544) (by decide +kernel), List.mem_of_getElem? (i := 780) (by decide +kernel), List.mem_of_getElem? (i := 781) (by decide +kernel)⟩
theorem lw_p60 : lw_okq (⟨"ClerkVotesModel", "comeBack", "()V"⟩, 13) := ⟨⟨by decide +kernel, by decide +kernel⟩, List.mem_of_getElem? (i := 544) (by decide +kernel), List.mem_of_getElem? (i := 784) (by decide +kernel), List.mem_of_getElem? (i := 785) (by decide +kernel)⟩
theorem lw_p61 : lw_okq (⟨"ClerkVotesModel", "faultOf", "()I"⟩, 13) := ⟨⟨by decide +kernel, by decide +kernel⟩, List.mem_of_getElem? (i := 544) (by decide +kernel), List.mem_of_getElem? (i := 809) (by decide +kernel), List.mem_of_getElem? (i := 810) (by decide +kernel)⟩
theorem lw_p62 : lw_okq (⟨"ClerkVotesModel", "readOne", "()V"⟩, 13) := ⟨⟨by decide +kernel, by decide +kernel⟩, List.mem_of_getElem? (i := 544) (by decide +kernel), List.mem_of_getElem? (i := 813) (by decide +kernel), List.mem_of_getElem? (i := 814) (by decide +kernel)⟩
theorem lw_p63 : lw_okq (⟨"ClerkVotesModel", "sign", "()I"⟩, 13) := ⟨⟨by decide +kernel, by decide +kernel⟩, List.mem_of_getElem? (i := 544) (by decide +kernel), List.mem_of_getElem? (i := 817) (by decide +kernel), List.mem_of_getElem? (i := 818) (by decide +kernel)⟩
def lw_privs_4 : List (MethodName × Nat) := [(⟨"ClerkVotesModel", "pass", "()V"⟩, 13), (⟨"ClerkVotesModel", "passBetween", "(I)V"⟩, 13), (⟨"ClerkVotesModel", "passClerk", "(II)V"⟩, 13), (⟨"ClerkVotesModel", "isDeal", "(I)Z"⟩, 13), (⟨"ClerkVotesModel", "clerksOf", "(II)I"⟩, 13), (⟨"ClerkVotesModel", "underwayTo", "(I)I"⟩, 13), (⟨"ClerkVotesModel", "dealsWith", "(I)I"⟩, 13), (⟨"ClerkVotesModel", "canAsk", "(II)Z"⟩, 13), (⟨"ClerkVotesModel", "keep", "()V"⟩, 13), (⟨"ClerkVotesModel", "roundsTo", "(I)I"⟩, 13), (⟨"ClerkVotesModel", "isSettled", "(I)Z"⟩, 13), (⟨"ClerkVotesModel", "goRound", "()V"⟩, 13), (⟨"ClerkVotesModel", "comeBack", "()V"⟩, 13), (⟨"ClerkVotesModel", "faultOf", "()I"⟩, 13), (⟨"ClerkVotesModel", "readOne", "()V"⟩, 13), (⟨"ClerkVotesModel", "sign", "()I"⟩, 13)]
theorem lw_r4 : ∀ q ∈ lw_privs_4, lw_okq q := List.forall_mem_cons.mpr ⟨lw_p48, List.forall_mem_cons.mpr ⟨lw_p49, List.forall_mem_cons.mpr ⟨lw_p50, List.forall_mem_cons.mpr ⟨lw_p51, List.forall_mem_cons.mpr ⟨lw_p52, List.forall_mem_cons.mpr ⟨lw_p53, List.forall_mem_cons.mpr ⟨lw_p54, List.forall_mem_cons.mpr ⟨lw_p55, List.forall_mem_cons.mpr ⟨lw_p56, List.forall_mem_cons.mpr ⟨lw_p57, List.forall_mem_cons.mpr ⟨lw_p58, List.forall_mem_cons.mpr ⟨lw_p59, List.forall_mem_cons.mpr ⟨lw_p60, List.forall_mem_cons.mpr ⟨lw_p61, List.forall_mem_cons.mpr ⟨lw_p62, List.forall_mem_cons.mpr ⟨lw_p63, fun _ h => absurd h List.not_mem_nil⟩⟩⟩⟩⟩⟩⟩⟩⟩⟩⟩⟩⟩⟩⟩⟩
theorem lw_p64 : lw_okq (⟨"ClerkVotesModel", "clerks", "()I"⟩, 13) := ⟨⟨by decide +kernel, by decide +kernel⟩, List.mem_of_getElem? (i := 544) (by decide +kernel), List.mem_of_getElem? (i := 821) (by decide +kernel), List.mem_of_getElem? (i := 822) (by decide +kernel)⟩
theorem lw_p65 : lw_okq (⟨"ClerkVotesModel", "one", "(II)I"⟩, 13) := ⟨⟨by decide +kernel, by decide +kernel⟩, List.mem_of_getElem? (i := 544) (by decide +kernel), List.mem_of_getElem? (i := 825) (by decide +kernel), List.mem_of_getElem? (i := 826) (by decide +kernel)⟩
theorem lw_p66 : lw_okq (⟨"ClerkVotesModel", "number", "()I"⟩, 13) := ⟨⟨by decide +kernel, by decide +kernel⟩, List.mem_of_getElem? (i := 544) (by decide +kernel), List.mem_of_getElem? (i := 829) (by decide +kernel), List.mem_of_getElem? (i := 830) (by decide +kernel)⟩
theorem lw_p67 : lw_okq (⟨"ClerkVotesModel", "plus", "()I"⟩, 13) := ⟨⟨by decide +kernel, by decide +kernel⟩, List.mem_of_getElem? (i := 544) (by decide +kernel), List.mem_of_getElem? (i := 833) (by decide +kernel), List.mem_of_getElem? (i := 834) (by decide +kernel)⟩
theorem lw_p68 : lw_okq (⟨"ClerkVotesModel", "carry", "(I)I"⟩, 13) := ⟨⟨by decide +kernel, by decide +kernel⟩, List.mem_of_getElem? (i := 544) (by decide +kernel), List.mem_of_getElem? (i := 841) (by decide +kernel), List.mem_of_getElem? (i := 842) (by decide +kernel)⟩
def lw_privs_5 : List (MethodName × Nat) := [(⟨"ClerkVotesModel", "clerks", "()I"⟩, 13), (⟨"ClerkVotesModel", "one", "(II)I"⟩, 13), (⟨"ClerkVotesModel", "number", "()I"⟩, 13), (⟨"ClerkVotesModel", "plus", "()I"⟩, 13), (⟨"ClerkVotesModel", "carry", "(I)I"⟩, 13)]
theorem lw_r5 : ∀ q ∈ lw_privs_5, lw_okq q := List.forall_mem_cons.mpr ⟨lw_p64, List.forall_mem_cons.mpr ⟨lw_p65, List.forall_mem_cons.mpr ⟨lw_p66, List.forall_mem_cons.mpr ⟨lw_p67, List.forall_mem_cons.mpr ⟨lw_p68, fun _ h => absurd h List.not_mem_nil⟩⟩⟩⟩⟩
def lw_privs : List (MethodName × Nat) := lw_privs_1 ++ (lw_privs_2 ++ (lw_privs_3 ++ (lw_privs_4 ++ (lw_privs_5))))
def lw_tbl : List Cond := k2_sels lw_privs ++ tables_1
theorem lw_privs_ok : ∀ q ∈ lw_privs, lw_okq q := by
  show ∀ q ∈ lw_privs_1 ++ (lw_privs_2 ++ (lw_privs_3 ++ (lw_privs_4 ++ (lw_privs_5)))), lw_okq q
  exact List.forall_mem_append.mpr ⟨lw_r1, List.forall_mem_append.mpr ⟨lw_r2, List.forall_mem_append.mpr ⟨lw_r3, List.forall_mem_append.mpr ⟨lw_r4, lw_r5⟩⟩⟩⟩
/-! ===== BEGIN words of one list among another's, by their places ===== -/
theorem goodIn_r {big : List Cond} (ws : List Cond) (ps : List Nat) (hp : ws = ps.filterMap (fun i => big[i]?)) (h : ws.all goodWord = true) : GoodIn big ws := by
  intro w hw
  have h1 := List.all_eq_true.mp h w hw
  rw [hp] at hw
  obtain ⟨i, -, hi⟩ := List.mem_filterMap.mp hw
  have hm : w ∈ big := by first | exact List.mem_of_getElem? hi | exact List.getElem?_mem hi
  exact ⟨hm, good_of_word h1⟩
theorem goodIn_app {big a b : List Cond} (ha : GoodIn big a) (hb : GoodIn big b) : GoodIn big (a ++ b) := fun w h => (List.mem_append.mp h).elim (ha w) (hb w)
theorem goodIn_ca {big a b : List Cond} {c : Cond} (ha : GoodIn big (c :: a)) (hb : GoodIn big b) : GoodIn big (c :: (a ++ b)) := fun w h => (List.mem_cons.mp h).elim (fun e => ha w (List.mem_cons.mpr (Or.inl e))) (fun h => (List.mem_append.mp h).elim (fun h => ha w (List.mem_cons.mpr (Or.inr h))) (hb w))
theorem goodIn_sub {big ws : List Cond} (hm : ∀ w ∈ ws, w ∈ big) (h : ws.all goodWord = true) : GoodIn big ws := fun w hw => ⟨hm w hw, good_of_word (List.all_eq_true.mp h w hw)⟩
/-! ===== END ===== -/

/-! ===== BEGIN printed: names, fields, word lists, decode rows ===== -/
def RX0 : String := "ClerkVotes$OrderReader"
def TX0 : u_T := fun k => match k with
  | 0 => ("ClerkVotes$OrderReader", "expected", "I", false)
  | 1 => ("ClerkVotes$OrderReader", "letter", "I", false)
  | 2 => ("ClerkVotes$OrderReader", "value", "I", false)
  | _ => ("ClerkVotes$OrderReader", "willingness", "I", false)
def tyX0 : Nat → FieldType := fun k => match k with
  | 0 => .int
  | 1 => .int
  | 2 => .int
  | _ => .int
abbrev wsX00 : List Cond := u_ws RX0 TX0 4
theorem nmX0 : ∀ a, a < 4 → ∀ b, b < 4 → a ≠ b → (TX0 a).2.1 ≠ (TX0 b).2.1 := by decide +kernel
theorem tyX0_ok : ∀ k, k < 4 → parseFieldDescriptor (TX0 k).2.2.1 = some (tyX0 k) := by decide +kernel
abbrev cX0_init : ByteArray := prog_2_method_1_code
def yX0_init : MethodName := ⟨RX0, "<init>", "()V"⟩
abbrev cX0_begin : ByteArray := prog_2_method_2_code
def yX0_begin : MethodName := ⟨RX0, "begin", "()V"⟩
abbrev cX0_mayEnd : ByteArray := prog_2_method_3_code
def yX0_mayEnd : MethodName := ⟨RX0, "mayEnd", "()Z"⟩
abbrev cX0_takes : ByteArray := prog_2_method_4_code
def yX0_takes : MethodName := ⟨RX0, "takes", "(I)Z"⟩
abbrev cX0_takesOrderEnd : ByteArray := prog_2_method_5_code
def yX0_takesOrderEnd : MethodName := ⟨RX0, "takesOrderEnd", "()Z"⟩
abbrev cX0_takesLetter : ByteArray := prog_2_method_6_code
def yX0_takesLetter : MethodName := ⟨RX0, "takesLetter", "(I)Z"⟩
abbrev cX0_takesRisingClerk : ByteArray := prog_2_method_7_code
def yX0_takesRisingClerk : MethodName := ⟨RX0, "takesRisingClerk", "(I)Z"⟩
abbrev cX0_takesDigit : ByteArray := prog_2_method_8_code
def yX0_takesDigit : MethodName := ⟨RX0, "takesDigit", "(I)Z"⟩
abbrev cX0_takesSomebody : ByteArray := prog_2_method_9_code
def yX0_takesSomebody : MethodName := ⟨RX0, "takesSomebody", "(I)Z"⟩
abbrev cX0_takesSign : ByteArray := prog_2_method_10_code
def yX0_takesSign : MethodName := ⟨RX0, "takesSign", "(I)Z"⟩
def RX1 : String := "ClerkVotes$Row"
def TX1 : u_T := fun k => match k with
  | 0 => ("ClerkVotes$Row", "length", "I", false)
  | 1 => ("ClerkVotes$Row", "lost", "I", false)
  | 2 => ("ClerkVotes$Row", "parts", "[I", true)
  | 3 => ("ClerkVotes$Row", "deliveredTo", "[I", true)
  | _ => ("ClerkVotes$Row", "sentBy", "[I", true)
def tyX1 : Nat → FieldType := fun k => match k with
  | 0 => .int
  | 1 => .int
  | 2 => .array .int
  | 3 => .array .int
  | _ => .array .int
abbrev wsX10 : List Cond := u_ws RX1 TX1 5
theorem nmX1 : ∀ a, a < 5 → ∀ b, b < 5 → a ≠ b → (TX1 a).2.1 ≠ (TX1 b).2.1 := by decide +kernel
theorem tyX1_ok : ∀ k, k < 5 → parseFieldDescriptor (TX1 k).2.2.1 = some (tyX1 k) := by decide +kernel
abbrev cX1_init : ByteArray := prog_3_method_1_code
def yX1_init : MethodName := ⟨RX1, "<init>", "()V"⟩
abbrev cX1_copyFrom : ByteArray := prog_3_method_2_code
def yX1_copyFrom : MethodName := ⟨RX1, "copyFrom", "(LClerkVotes$Row;)V"⟩
abbrev cX1_has : ByteArray := prog_3_method_3_code
def yX1_has : MethodName := ⟨RX1, "has", "(I)Z"⟩
abbrev cX1_part : ByteArray := prog_3_method_4_code
def yX1_part : MethodName := ⟨RX1, "part", "(II)I"⟩
abbrev cX1_numberOfMessage : ByteArray := prog_3_method_5_code
def yX1_numberOfMessage : MethodName := ⟨RX1, "numberOfMessage", "(II)I"⟩
abbrev cX1_onTheirWayTo : ByteArray := prog_3_method_6_code
def yX1_onTheirWayTo : MethodName := ⟨RX1, "onTheirWayTo", "(I)I"⟩
abbrev cX1_delivered : ByteArray := prog_3_method_7_code
def yX1_delivered : MethodName := ⟨RX1, "delivered", "()I"⟩
abbrev cX1_send : ByteArray := prog_3_method_8_code
def yX1_send : MethodName := ⟨RX1, "send", "(IIII)V"⟩
abbrev cX1_repeat : ByteArray := prog_3_method_9_code
def yX1_repeat : MethodName := ⟨RX1, "repeat", "(I)V"⟩
abbrev cX1_remove : ByteArray := prog_3_method_10_code
def yX1_remove : MethodName := ⟨RX1, "remove", "(I)V"⟩
def RX2 : String := "ClerkVotes$State"
def TX2 : u_T := fun k => match k with
  | 0 => ("ClerkVotes$State", "tick", "I", false)
  | 1 => ("ClerkVotes$State", "illOnes", "I", false)
  | 2 => ("ClerkVotes$State", "unwillingOnes", "I", false)
  | 3 => ("ClerkVotes$State", "deals", "I", false)
  | 4 => ("ClerkVotes$State", "settings", "[I", true)
  | 5 => ("ClerkVotes$State", "row", "LClerkVotes$Row;", true)
  | 6 => ("ClerkVotes$State", "clerksOf", "[I", true)
  | 7 => ("ClerkVotes$State", "forBetween", "[I", true)
  | 8 => ("ClerkVotes$State", "openedIn", "[I", true)
  | 9 => ("ClerkVotes$State", "postSince", "[I", true)
  | 10 => ("ClerkVotes$State", "votes", "[I", true)
  | 11 => ("ClerkVotes$State", "receipts", "[I", true)
  | 12 => ("ClerkVotes$State", "standing", "[I", true)
  | _ => ("ClerkVotes$State", "readySince", "[I", true)
def tyX2 : Nat → FieldType := fun k => match k with
  | 0 => .int
  | 1 => .int
  | 2 => .int
  | 3 => .int
  | 4 => .array .int
  | 5 => .object "ClerkVotes$Row"
  | 6 => .array .int
  | 7 => .array .int
  | 8 => .array .int
  | 9 => .array .int
  | 10 => .array .int
  | 11 => .array .int
  | 12 => .array .int
  | _ => .array .int
abbrev wsX20 : List Cond := u_ws RX2 TX2 14
theorem nmX2 : ∀ a, a < 14 → ∀ b, b < 14 → a ≠ b → (TX2 a).2.1 ≠ (TX2 b).2.1 := by decide +kernel
theorem tyX2_ok : ∀ k, k < 14 → parseFieldDescriptor (TX2 k).2.2.1 = some (tyX2 k) := by decide +kernel
abbrev cX2_init : ByteArray := prog_4_method_1_code
def yX2_init : MethodName := ⟨RX2, "<init>", "()V"⟩
abbrev cX2_copyFrom : ByteArray := prog_4_method_2_code
def yX2_copyFrom : MethodName := ⟨RX2, "copyFrom", "(LClerkVotes$State;)V"⟩
abbrev cX2_isDeal : ByteArray := prog_4_method_3_code
def yX2_isDeal : MethodName := ⟨RX2, "isDeal", "(I)Z"⟩
abbrev cX2_isClerk : ByteArray := prog_4_method_4_code
def yX2_isClerk : MethodName := ⟨RX2, "isClerk", "(I)Z"⟩
abbrev cX2_isSomebody : ByteArray := prog_4_method_5_code
def yX2_isSomebody : MethodName := ⟨RX2, "isSomebody", "(I)Z"⟩
abbrev cX2_isIll : ByteArray := prog_4_method_6_code
def yX2_isIll : MethodName := ⟨RX2, "isIll", "(I)Z"⟩
abbrev cX2_whoStand : ByteArray := prog_4_method_7_code
def yX2_whoStand : MethodName := ⟨RX2, "whoStand", "(II)I"⟩
abbrev cX2_stands : ByteArray := prog_4_method_8_code
def yX2_stands : MethodName := ⟨RX2, "stands", "(III)Z"⟩
abbrev cX2_move : ByteArray := prog_4_method_9_code
def yX2_move : MethodName := ⟨RX2, "move", "(IIII)V"⟩
abbrev cX2_changeSetting : ByteArray := prog_4_method_10_code
def yX2_changeSetting : MethodName := ⟨RX2, "changeSetting", "(II)I"⟩
abbrev cX2_makeWilling : ByteArray := prog_4_method_11_code
def yX2_makeWilling : MethodName := ⟨RX2, "makeWilling", "(II)I"⟩
abbrev cX2_openDeal : ByteArray := prog_4_method_12_code
def yX2_openDeal : MethodName := ⟨RX2, "openDeal", "(I)I"⟩
abbrev cX2_dropMessage : ByteArray := prog_4_method_13_code
def yX2_dropMessage : MethodName := ⟨RX2, "dropMessage", "(I)I"⟩
abbrev cX2_repeatMessage : ByteArray := prog_4_method_14_code
def yX2_repeatMessage : MethodName := ⟨RX2, "repeatMessage", "(I)I"⟩
abbrev cX2_fallIll : ByteArray := prog_4_method_15_code
def yX2_fallIll : MethodName := ⟨RX2, "fallIll", "(I)I"⟩
abbrev cX2_forget : ByteArray := prog_4_method_16_code
def yX2_forget : MethodName := ⟨RX2, "forget", "(II)V"⟩
abbrev cX2_getWell : ByteArray := prog_4_method_17_code
def yX2_getWell : MethodName := ⟨RX2, "getWell", "(I)I"⟩
abbrev cX2_sendToClerks : ByteArray := prog_4_method_18_code
def yX2_sendToClerks : MethodName := ⟨RX2, "sendToClerks", "(IIII)V"⟩
abbrev cX2_handOver : ByteArray := prog_4_method_19_code
def yX2_handOver : MethodName := ⟨RX2, "handOver", "(I)I"⟩
abbrev cX2_vote : ByteArray := prog_4_method_20_code
def yX2_vote : MethodName := ⟨RX2, "vote", "(II)V"⟩
abbrev cX2_postFor : ByteArray := prog_4_method_21_code
def yX2_postFor : MethodName := ⟨RX2, "postFor", "(II)V"⟩
abbrev cX2_tearFor : ByteArray := prog_4_method_22_code
def yX2_tearFor : MethodName := ⟨RX2, "tearFor", "(II)V"⟩
abbrev cX2_answerAsElder : ByteArray := prog_4_method_23_code
def yX2_answerAsElder : MethodName := ⟨RX2, "answerAsElder", "(III)V"⟩
abbrev cX2_takeYes : ByteArray := prog_4_method_24_code
def yX2_takeYes : MethodName := ⟨RX2, "takeYes", "(II)V"⟩
abbrev cX2_takeNo : ByteArray := prog_4_method_25_code
def yX2_takeNo : MethodName := ⟨RX2, "takeNo", "(II)V"⟩
abbrev cX2_takeReceipt : ByteArray := prog_4_method_26_code
def yX2_takeReceipt : MethodName := ⟨RX2, "takeReceipt", "(II)V"⟩
abbrev cX2_answerAsBetween : ByteArray := prog_4_method_27_code
def yX2_answerAsBetween : MethodName := ⟨RX2, "answerAsBetween", "(II)V"⟩
abbrev cX2_passTicks : ByteArray := prog_4_method_28_code
def yX2_passTicks : MethodName := ⟨RX2, "passTicks", "(I)I"⟩
abbrev cX2_passTick : ByteArray := prog_4_method_29_code
def yX2_passTick : MethodName := ⟨RX2, "passTick", "()V"⟩
abbrev cX2_pressOn : ByteArray := prog_4_method_30_code
def yX2_pressOn : MethodName := ⟨RX2, "pressOn", "(I)V"⟩
abbrev cX2_askInDoubt : ByteArray := prog_4_method_31_code
def yX2_askInDoubt : MethodName := ⟨RX2, "askInDoubt", "(I)V"⟩
abbrev cX2_isTimeAgain : ByteArray := prog_4_method_32_code
def yX2_isTimeAgain : MethodName := ⟨RX2, "isTimeAgain", "(II)Z"⟩
abbrev cX2_passRound : ByteArray := prog_4_method_33_code
def yX2_passRound : MethodName := ⟨RX2, "passRound", "()V"⟩
abbrev cX2_roundsUntilSettled : ByteArray := prog_4_method_34_code
def yX2_roundsUntilSettled : MethodName := ⟨RX2, "roundsUntilSettled", "(I)I"⟩
abbrev cX2_isSettled : ByteArray := prog_4_method_35_code
def yX2_isSettled : MethodName := ⟨RX2, "isSettled", "(I)Z"⟩
abbrev cX2_numberOfDeal : ByteArray := prog_4_method_36_code
def yX2_numberOfDeal : MethodName := ⟨RX2, "numberOfDeal", "(II)I"⟩
abbrev cX2_standingFor : ByteArray := prog_4_method_37_code
def yX2_standingFor : MethodName := ⟨RX2, "standingFor", "(II)I"⟩
abbrev cX2_numberOfSomebody : ByteArray := prog_4_method_38_code
def yX2_numberOfSomebody : MethodName := ⟨RX2, "numberOfSomebody", "(II)I"⟩
abbrev cX2_numberOfAll : ByteArray := prog_4_method_39_code
def yX2_numberOfAll : MethodName := ⟨RX2, "numberOfAll", "(I)I"⟩
abbrev cX2_dealsWithBoth : ByteArray := prog_4_method_40_code
def yX2_dealsWithBoth : MethodName := ⟨RX2, "dealsWithBoth", "(II)I"⟩
abbrev cX2_whatIsSure : ByteArray := prog_4_method_41_code
def yX2_whatIsSure : MethodName := ⟨RX2, "whatIsSure", "(I)I"⟩
abbrev cX2_whoFindsOut : ByteArray := prog_4_method_42_code
def yX2_whoFindsOut : MethodName := ⟨RX2, "whoFindsOut", "(I)I"⟩
def RX3 : String := "ClerkVotes"
def TX3 : u_T := fun k => match k with
  | 0 => ("ClerkVotes", "now", "LClerkVotes$State;", true)
  | 1 => ("ClerkVotes", "trial", "LClerkVotes$State;", true)
  | 2 => ("ClerkVotes", "history", "[LClerkVotes$State;", true)
  | 3 => ("ClerkVotes", "nextInHistory", "I", false)
  | 4 => ("ClerkVotes", "undoable", "I", false)
  | 5 => ("ClerkVotes", "slots", "[LClerkVotes$State;", true)
  | 6 => ("ClerkVotes", "savedSlots", "I", false)
  | 7 => ("ClerkVotes", "pad", "[C", true)
  | 8 => ("ClerkVotes", "padLength", "I", false)
  | _ => ("ClerkVotes", "reader", "LClerkVotes$OrderReader;", true)
def tyX3 : Nat → FieldType := fun k => match k with
  | 0 => .object "ClerkVotes$State"
  | 1 => .object "ClerkVotes$State"
  | 2 => .array (.object "ClerkVotes$State")
  | 3 => .int
  | 4 => .int
  | 5 => .array (.object "ClerkVotes$State")
  | 6 => .int
  | 7 => .array .char
  | 8 => .int
  | _ => .object "ClerkVotes$OrderReader"
abbrev wsX30 : List Cond := u_ws RX3 TX3 10
theorem nmX3 : ∀ a, a < 10 → ∀ b, b < 10 → a ≠ b → (TX3 a).2.1 ≠ (TX3 b).2.1 := by decide +kernel
theorem tyX3_ok : ∀ k, k < 10 → parseFieldDescriptor (TX3 k).2.2.1 = some (tyX3 k) := by decide +kernel
abbrev cX3_init : ByteArray := prog_1_method_1_code
def yX3_init : MethodName := ⟨RX3, "<init>", "()V"⟩
abbrev cX3_set : ByteArray := prog_1_method_2_code
def yX3_set : MethodName := ⟨RX3, "set", "(II)I"⟩
abbrev cX3_willing : ByteArray := prog_1_method_3_code
def yX3_willing : MethodName := ⟨RX3, "willing", "(II)I"⟩
abbrev cX3_open : ByteArray := prog_1_method_4_code
def yX3_open : MethodName := ⟨RX3, "open", "(I)I"⟩
abbrev cX3_deliver : ByteArray := prog_1_method_5_code
def yX3_deliver : MethodName := ⟨RX3, "deliver", "(I)I"⟩
abbrev cX3_lose : ByteArray := prog_1_method_6_code
def yX3_lose : MethodName := ⟨RX3, "lose", "(I)I"⟩
abbrev cX3_twice : ByteArray := prog_1_method_7_code
def yX3_twice : MethodName := ⟨RX3, "twice", "(I)I"⟩
abbrev cX3_fall : ByteArray := prog_1_method_8_code
def yX3_fall : MethodName := ⟨RX3, "fall", "(I)I"⟩
abbrev cX3_rise : ByteArray := prog_1_method_9_code
def yX3_rise : MethodName := ⟨RX3, "rise", "(I)I"⟩
abbrev cX3_ticks : ByteArray := prog_1_method_10_code
def yX3_ticks : MethodName := ⟨RX3, "ticks", "(I)I"⟩
abbrev cX3_ofDeal : ByteArray := prog_1_method_11_code
def yX3_ofDeal : MethodName := ⟨RX3, "ofDeal", "(II)I"⟩
abbrev cX3_at : ByteArray := prog_1_method_12_code
def yX3_at : MethodName := ⟨RX3, "at", "(II)I"⟩
abbrev cX3_message : ByteArray := prog_1_method_13_code
def yX3_message : MethodName := ⟨RX3, "message", "(II)I"⟩
abbrev cX3_who : ByteArray := prog_1_method_14_code
def yX3_who : MethodName := ⟨RX3, "who", "(II)I"⟩
abbrev cX3_count : ByteArray := prog_1_method_15_code
def yX3_count : MethodName := ⟨RX3, "count", "(I)I"⟩
abbrev cX3_sure : ByteArray := prog_1_method_16_code
def yX3_sure : MethodName := ⟨RX3, "sure", "(I)I"⟩
abbrev cX3_couldAsk : ByteArray := prog_1_method_17_code
def yX3_couldAsk : MethodName := ⟨RX3, "couldAsk", "(I)I"⟩
abbrev cX3_settledIn : ByteArray := prog_1_method_18_code
def yX3_settledIn : MethodName := ⟨RX3, "settledIn", "(I)I"⟩
abbrev cX3_underwayIn : ByteArray := prog_1_method_19_code
def yX3_underwayIn : MethodName := ⟨RX3, "underwayIn", "(I)I"⟩
abbrev cX3_worstLoss : ByteArray := prog_1_method_20_code
def yX3_worstLoss : MethodName := ⟨RX3, "worstLoss", "(II)I"⟩
abbrev cX3_put : ByteArray := prog_1_method_21_code
def yX3_put : MethodName := ⟨RX3, "put", "(J)I"⟩
abbrev cX3_wipe : ByteArray := prog_1_method_22_code
def yX3_wipe : MethodName := ⟨RX3, "wipe", "()I"⟩
abbrev cX3_fault : ByteArray := prog_1_method_23_code
def yX3_fault : MethodName := ⟨RX3, "fault", "()I"⟩
abbrev cX3_carryOut : ByteArray := prog_1_method_24_code
def yX3_carryOut : MethodName := ⟨RX3, "carryOut", "()I"⟩
abbrev cX3_undo : ByteArray := prog_1_method_25_code
def yX3_undo : MethodName := ⟨RX3, "undo", "()I"⟩
abbrev cX3_save : ByteArray := prog_1_method_26_code
def yX3_save : MethodName := ⟨RX3, "save", "(I)I"⟩
abbrev cX3_restore : ByteArray := prog_1_method_27_code
def yX3_restore : MethodName := ⟨RX3, "restore", "(I)I"⟩
abbrev cX3_noteStateBefore : ByteArray := prog_1_method_28_code
def yX3_noteStateBefore : MethodName := ⟨RX3, "noteStateBefore", "()V"⟩
abbrev cX3_recorded : ByteArray := prog_1_method_29_code
def yX3_recorded : MethodName := ⟨RX3, "recorded", "(I)I"⟩
abbrev cX3_isIn : ByteArray := prog_1_method_30_code
def yX3_isIn : MethodName := ⟨RX3, "isIn", "(II)Z"⟩
abbrev cX3_codeAt : ByteArray := prog_1_method_31_code
def yX3_codeAt : MethodName := ⟨RX3, "codeAt", "(JI)I"⟩
abbrev cX3_charactersIn : ByteArray := prog_1_method_32_code
def yX3_charactersIn : MethodName := ⟨RX3, "charactersIn", "(J)I"⟩
abbrev cX3_faultOfPad : ByteArray := prog_1_method_33_code
def yX3_faultOfPad : MethodName := ⟨RX3, "faultOfPad", "()I"⟩
abbrev cX3_carryOutOrders : ByteArray := prog_1_method_34_code
def yX3_carryOutOrders : MethodName := ⟨RX3, "carryOutOrders", "()I"⟩
abbrev cX3_carryOutOrder : ByteArray := prog_1_method_35_code
def yX3_carryOutOrder : MethodName := ⟨RX3, "carryOutOrder", "()I"⟩
def RX4 : String := "ClerkVotesModel"
def TX4 : u_T := fun k => match k with
  | 0 => ("ClerkVotesModel", "now", "[I", true)
  | 1 => ("ClerkVotesModel", "kept", "[I", true)
  | 2 => ("ClerkVotesModel", "history", "[I", true)
  | 3 => ("ClerkVotesModel", "undos", "I", false)
  | 4 => ("ClerkVotesModel", "saved", "[I", true)
  | 5 => ("ClerkVotesModel", "isSaved", "[Z", true)
  | 6 => ("ClerkVotesModel", "pad", "[I", true)
  | 7 => ("ClerkVotesModel", "signs", "I", false)
  | 8 => ("ClerkVotesModel", "isInText", "Z", false)
  | 9 => ("ClerkVotesModel", "orders", "[I", true)
  | 10 => ("ClerkVotesModel", "read", "I", false)
  | 11 => ("ClerkVotesModel", "place", "I", false)
  | _ => ("ClerkVotesModel", "isWrong", "Z", false)
def tyX4 : Nat → FieldType := fun k => match k with
  | 0 => .array .int
  | 1 => .array .int
  | 2 => .array .int
  | 3 => .int
  | 4 => .array .int
  | 5 => .array .boolean
  | 6 => .array .int
  | 7 => .int
  | 8 => .boolean
  | 9 => .array .int
  | 10 => .int
  | 11 => .int
  | _ => .boolean
abbrev wsX40 : List Cond := u_ws RX4 TX4 13
theorem nmX4 : ∀ a, a < 13 → ∀ b, b < 13 → a ≠ b → (TX4 a).2.1 ≠ (TX4 b).2.1 := by decide +kernel
theorem tyX4_ok : ∀ k, k < 13 → parseFieldDescriptor (TX4 k).2.2.1 = some (tyX4 k) := by decide +kernel
abbrev cX4_init : ByteArray := prog_6_method_1_code
def yX4_init : MethodName := ⟨RX4, "<init>", "()V"⟩
abbrev cX4_in : ByteArray := prog_6_method_2_code
def yX4_in : MethodName := ⟨RX4, "in", "(III)Z"⟩
abbrev cX4_has : ByteArray := prog_6_method_3_code
def yX4_has : MethodName := ⟨RX4, "has", "(II)Z"⟩
abbrev cX4_record : ByteArray := prog_6_method_4_code
def yX4_record : MethodName := ⟨RX4, "record", "()V"⟩
abbrev cX4_keep : ByteArray := prog_6_method_5_code
def yX4_keep : MethodName := ⟨RX4, "keep", "()V"⟩
abbrev cX4_comeBack : ByteArray := prog_6_method_6_code
def yX4_comeBack : MethodName := ⟨RX4, "comeBack", "()V"⟩
abbrev cX4_of : ByteArray := prog_6_method_7_code
def yX4_of : MethodName := ⟨RX4, "of", "(II)I"⟩
abbrev cX4_book : ByteArray := prog_6_method_8_code
def yX4_book : MethodName := ⟨RX4, "book", "(III)V"⟩
abbrev cX4_isPart : ByteArray := prog_6_method_9_code
def yX4_isPart : MethodName := ⟨RX4, "isPart", "(II)Z"⟩
abbrev cX4_isIll : ByteArray := prog_6_method_10_code
def yX4_isIll : MethodName := ⟨RX4, "isIll", "(I)Z"⟩
abbrev cX4_send : ByteArray := prog_6_method_11_code
def yX4_send : MethodName := ⟨RX4, "send", "(IIII)V"⟩
abbrev cX4_sendAll : ByteArray := prog_6_method_12_code
def yX4_sendAll : MethodName := ⟨RX4, "sendAll", "(IIII)V"⟩
abbrev cX4_drop : ByteArray := prog_6_method_13_code
def yX4_drop : MethodName := ⟨RX4, "drop", "(I)V"⟩
abbrev cX4_answer : ByteArray := prog_6_method_14_code
def yX4_answer : MethodName := ⟨RX4, "answer", "(II)V"⟩
abbrev cX4_tear : ByteArray := prog_6_method_15_code
def yX4_tear : MethodName := ⟨RX4, "tear", "(II)V"⟩
abbrev cX4_get : ByteArray := prog_6_method_16_code
def yX4_get : MethodName := ⟨RX4, "get", "(III)V"⟩
abbrev cX4_become : ByteArray := prog_6_method_17_code
def yX4_become : MethodName := ⟨RX4, "become", "(III)V"⟩
abbrev cX4_getBy : ByteArray := prog_6_method_18_code
def yX4_getBy : MethodName := ⟨RX4, "getBy", "(IIII)V"⟩
abbrev cX4_deliverNow : ByteArray := prog_6_method_19_code
def yX4_deliverNow : MethodName := ⟨RX4, "deliverNow", "(I)V"⟩
abbrev cX4_isTime : ByteArray := prog_6_method_20_code
def yX4_isTime : MethodName := ⟨RX4, "isTime", "(II)Z"⟩
abbrev cX4_passBetween : ByteArray := prog_6_method_21_code
def yX4_passBetween : MethodName := ⟨RX4, "passBetween", "(I)V"⟩
abbrev cX4_passClerk : ByteArray := prog_6_method_22_code
def yX4_passClerk : MethodName := ⟨RX4, "passClerk", "(II)V"⟩
abbrev cX4_pass : ByteArray := prog_6_method_23_code
def yX4_pass : MethodName := ⟨RX4, "pass", "()V"⟩
abbrev cX4_set : ByteArray := prog_6_method_24_code
def yX4_set : MethodName := ⟨RX4, "set", "(II)I"⟩
abbrev cX4_willing : ByteArray := prog_6_method_25_code
def yX4_willing : MethodName := ⟨RX4, "willing", "(II)I"⟩
abbrev cX4_open : ByteArray := prog_6_method_26_code
def yX4_open : MethodName := ⟨RX4, "open", "(I)I"⟩
abbrev cX4_isMessage : ByteArray := prog_6_method_27_code
def yX4_isMessage : MethodName := ⟨RX4, "isMessage", "(I)Z"⟩
abbrev cX4_deliver : ByteArray := prog_6_method_28_code
def yX4_deliver : MethodName := ⟨RX4, "deliver", "(I)I"⟩
abbrev cX4_loseNow : ByteArray := prog_6_method_29_code
def yX4_loseNow : MethodName := ⟨RX4, "loseNow", "(I)V"⟩
abbrev cX4_lose : ByteArray := prog_6_method_30_code
def yX4_lose : MethodName := ⟨RX4, "lose", "(I)I"⟩
abbrev cX4_twice : ByteArray := prog_6_method_31_code
def yX4_twice : MethodName := ⟨RX4, "twice", "(I)I"⟩
abbrev cX4_ill : ByteArray := prog_6_method_32_code
def yX4_ill : MethodName := ⟨RX4, "ill", "()I"⟩
abbrev cX4_fall : ByteArray := prog_6_method_33_code
def yX4_fall : MethodName := ⟨RX4, "fall", "(I)I"⟩
abbrev cX4_rise : ByteArray := prog_6_method_34_code
def yX4_rise : MethodName := ⟨RX4, "rise", "(I)I"⟩
abbrev cX4_ticks : ByteArray := prog_6_method_35_code
def yX4_ticks : MethodName := ⟨RX4, "ticks", "(I)I"⟩
abbrev cX4_isDeal : ByteArray := prog_6_method_36_code
def yX4_isDeal : MethodName := ⟨RX4, "isDeal", "(I)Z"⟩
abbrev cX4_clerksOf : ByteArray := prog_6_method_37_code
def yX4_clerksOf : MethodName := ⟨RX4, "clerksOf", "(II)I"⟩
abbrev cX4_ofDeal : ByteArray := prog_6_method_38_code
def yX4_ofDeal : MethodName := ⟨RX4, "ofDeal", "(II)I"⟩
abbrev cX4_at : ByteArray := prog_6_method_39_code
def yX4_at : MethodName := ⟨RX4, "at", "(II)I"⟩
abbrev cX4_message : ByteArray := prog_6_method_40_code
def yX4_message : MethodName := ⟨RX4, "message", "(II)I"⟩
abbrev cX4_underwayTo : ByteArray := prog_6_method_41_code
def yX4_underwayTo : MethodName := ⟨RX4, "underwayTo", "(I)I"⟩
abbrev cX4_who : ByteArray := prog_6_method_42_code
def yX4_who : MethodName := ⟨RX4, "who", "(II)I"⟩
abbrev cX4_dealsWith : ByteArray := prog_6_method_43_code
def yX4_dealsWith : MethodName := ⟨RX4, "dealsWith", "(I)I"⟩
abbrev cX4_count : ByteArray := prog_6_method_44_code
def yX4_count : MethodName := ⟨RX4, "count", "(I)I"⟩
abbrev cX4_sure : ByteArray := prog_6_method_45_code
def yX4_sure : MethodName := ⟨RX4, "sure", "(I)I"⟩
abbrev cX4_canAsk : ByteArray := prog_6_method_46_code
def yX4_canAsk : MethodName := ⟨RX4, "canAsk", "(II)Z"⟩
abbrev cX4_couldAsk : ByteArray := prog_6_method_47_code
def yX4_couldAsk : MethodName := ⟨RX4, "couldAsk", "(I)I"⟩
abbrev cX4_isSettled : ByteArray := prog_6_method_48_code
def yX4_isSettled : MethodName := ⟨RX4, "isSettled", "(I)Z"⟩
abbrev cX4_goRound : ByteArray := prog_6_method_49_code
def yX4_goRound : MethodName := ⟨RX4, "goRound", "()V"⟩
abbrev cX4_roundsTo : ByteArray := prog_6_method_50_code
def yX4_roundsTo : MethodName := ⟨RX4, "roundsTo", "(I)I"⟩
abbrev cX4_settledIn : ByteArray := prog_6_method_51_code
def yX4_settledIn : MethodName := ⟨RX4, "settledIn", "(I)I"⟩
abbrev cX4_underwayIn : ByteArray := prog_6_method_52_code
def yX4_underwayIn : MethodName := ⟨RX4, "underwayIn", "(I)I"⟩
abbrev cX4_worstLoss : ByteArray := prog_6_method_53_code
def yX4_worstLoss : MethodName := ⟨RX4, "worstLoss", "(II)I"⟩
abbrev cX4_sign : ByteArray := prog_6_method_54_code
def yX4_sign : MethodName := ⟨RX4, "sign", "()I"⟩
abbrev cX4_one : ByteArray := prog_6_method_55_code
def yX4_one : MethodName := ⟨RX4, "one", "(II)I"⟩
abbrev cX4_number : ByteArray := prog_6_method_56_code
def yX4_number : MethodName := ⟨RX4, "number", "()I"⟩
abbrev cX4_clerks : ByteArray := prog_6_method_57_code
def yX4_clerks : MethodName := ⟨RX4, "clerks", "()I"⟩
abbrev cX4_plus : ByteArray := prog_6_method_58_code
def yX4_plus : MethodName := ⟨RX4, "plus", "()I"⟩
abbrev cX4_readOne : ByteArray := prog_6_method_59_code
def yX4_readOne : MethodName := ⟨RX4, "readOne", "()V"⟩
abbrev cX4_faultOf : ByteArray := prog_6_method_60_code
def yX4_faultOf : MethodName := ⟨RX4, "faultOf", "()I"⟩
abbrev cX4_put : ByteArray := prog_6_method_61_code
def yX4_put : MethodName := ⟨RX4, "put", "(J)I"⟩
abbrev cX4_wipe : ByteArray := prog_6_method_62_code
def yX4_wipe : MethodName := ⟨RX4, "wipe", "()I"⟩
abbrev cX4_fault : ByteArray := prog_6_method_63_code
def yX4_fault : MethodName := ⟨RX4, "fault", "()I"⟩
abbrev cX4_carry : ByteArray := prog_6_method_64_code
def yX4_carry : MethodName := ⟨RX4, "carry", "(I)I"⟩
abbrev cX4_carryOut : ByteArray := prog_6_method_65_code
def yX4_carryOut : MethodName := ⟨RX4, "carryOut", "()I"⟩
abbrev cX4_undo : ByteArray := prog_6_method_66_code
def yX4_undo : MethodName := ⟨RX4, "undo", "()I"⟩
abbrev cX4_save : ByteArray := prog_6_method_67_code
def yX4_save : MethodName := ⟨RX4, "save", "(I)I"⟩
abbrev cX4_restore : ByteArray := prog_6_method_68_code
def yX4_restore : MethodName := ⟨RX4, "restore", "(I)I"⟩
def RJ6 : String := "java/lang/Integer"
def TJ6 : u_T := fun k => match k with
  | _ => ("", "", "", false)
def tyJ6 : Nat → FieldType := fun k => match k with
  | _ => .int
abbrev wsJ60 : List Cond := u_ws RJ6 TJ6 0
theorem nmJ6 : ∀ a, a < 0 → ∀ b, b < 0 → a ≠ b → (TJ6 a).2.1 ≠ (TJ6 b).2.1 := by decide +kernel
theorem tyJ6_ok : ∀ k, k < 0 → parseFieldDescriptor (TJ6 k).2.2.1 = some (tyJ6 k) := by decide +kernel
abbrev cJ6_bitCount_0f7a4 : ByteArray := prog_7_method_49_code
def yJ6_bitCount_0f7a4 : MethodName := ⟨RJ6, "bitCount", "(I)I"⟩
def RJ9 : String := "java/lang/Math"
def TJ9 : u_T := fun k => match k with
  | _ => ("", "", "", false)
def tyJ9 : Nat → FieldType := fun k => match k with
  | _ => .int
abbrev wsJ90 : List Cond := u_ws RJ9 TJ9 0
theorem nmJ9 : ∀ a, a < 0 → ∀ b, b < 0 → a ≠ b → (TJ9 a).2.1 ≠ (TJ9 b).2.1 := by decide +kernel
theorem tyJ9_ok : ∀ k, k < 0 → parseFieldDescriptor (TJ9 k).2.2.1 = some (tyJ9 k) := by decide +kernel
abbrev cJ9_min_7cf53 : ByteArray := prog_8_method_69_code
def yJ9_min_7cf53 : MethodName := ⟨RJ9, "min", "(II)I"⟩
def RJ10 : String := "java/lang/System"
def TJ10 : u_T := fun k => match k with
  | _ => ("", "", "", false)
def tyJ10 : Nat → FieldType := fun k => match k with
  | _ => .int
abbrev wsJ100 : List Cond := u_ws RJ10 TJ10 0
theorem nmJ10 : ∀ a, a < 0 → ∀ b, b < 0 → a ≠ b → (TJ10 a).2.1 ≠ (TJ10 b).2.1 := by decide +kernel
theorem tyJ10_ok : ∀ k, k < 0 → parseFieldDescriptor (TJ10 k).2.2.1 = some (tyJ10 k) := by decide +kernel
def RL : String := "ClerkVotesLaw"
abbrev cL_law : ByteArray := code
def yL_law : MethodName := ⟨RL, "law", "([I)Z"⟩
def wsL_law_r1 : List Cond := [Cond.classLink RL 7 RX3, Cond.instantiable RX3 10, Cond.initialized RX3, Cond.classLink RL 10 RX4, Cond.instantiable RX4 13, Cond.initialized RX4, Cond.constantLong RL 91 (4294967295), Cond.methodLink RL 9 yX3_init, Cond.instanceMethod yX3_init, Cond.code yX3_init cX3_init 2 none, Cond.methodLink RX3 1 objectInit, Cond.instanceMethod objectInit, Cond.code objectInit ⟨#[0xb1]⟩ 1 none, Cond.classLink RX3 7 RX2, Cond.instantiable RX2 14, Cond.initialized RX2, Cond.fieldLink RX3 10 "ClerkVotes" "now" "LClerkVotes$State;", Cond.fieldLink RX3 16 "ClerkVotes" "trial" "LClerkVotes$State;", Cond.fieldLink RX3 19 "ClerkVotes" "history" "[LClerkVotes$State;", Cond.fieldLink RX3 23 "ClerkVotes" "slots" "[LClerkVotes$State;", Cond.arrayClass .char, Cond.fieldLink RX3 26 "ClerkVotes" "pad" "[C", Cond.classLink RX3 30 RX0, Cond.instantiable RX0 4]
def wsL_law_r2 : List Cond := [Cond.initialized RX0, Cond.fieldLink RX3 33 "ClerkVotes" "reader" "LClerkVotes$OrderReader;", Cond.instanceMethod yX2_init, Cond.code yX2_init cX2_init 1 none, Cond.methodLink RX2 3 objectInit, Cond.arrayClass .int, Cond.fieldLink RX2 9 "ClerkVotes$State" "settings" "[I", Cond.classLink RX2 15 RX1, Cond.instantiable RX1 5, Cond.initialized RX1, Cond.fieldLink RX2 18 "ClerkVotes$State" "row" "LClerkVotes$Row;", Cond.fieldLink RX2 22 "ClerkVotes$State" "clerksOf" "[I", Cond.fieldLink RX2 25 "ClerkVotes$State" "forBetween" "[I", Cond.fieldLink RX2 28 "ClerkVotes$State" "openedIn" "[I", Cond.fieldLink RX2 31 "ClerkVotes$State" "postSince" "[I", Cond.fieldLink RX2 34 "ClerkVotes$State" "votes" "[I", Cond.fieldLink RX2 37 "ClerkVotes$State" "receipts" "[I", Cond.fieldLink RX2 40 "ClerkVotes$State" "standing" "[I", Cond.fieldLink RX2 43 "ClerkVotes$State" "readySince" "[I", Cond.instanceMethod yX1_init, Cond.code yX1_init cX1_init 1 none, Cond.methodLink RX1 3 objectInit, Cond.fieldLink RX1 9 "ClerkVotes$Row" "parts" "[I", Cond.fieldLink RX1 15 "ClerkVotes$Row" "deliveredTo" "[I"]
def wsL_law_r3 : List Cond := [Cond.fieldLink RX1 18 "ClerkVotes$Row" "sentBy" "[I", Cond.instanceMethod yX0_init, Cond.code yX0_init cX0_init 1 none, Cond.methodLink RX0 3 objectInit, Cond.methodLink RL 12 yX4_init, Cond.instanceMethod yX4_init, Cond.code yX4_init cX4_init 2 none, Cond.methodLink RX4 1 objectInit, Cond.fieldLink RX4 7 "ClerkVotesModel" "now" "[I", Cond.fieldLink RX4 13 "ClerkVotesModel" "kept" "[I", Cond.fieldLink RX4 16 "ClerkVotesModel" "history" "[I", Cond.fieldLink RX4 19 "ClerkVotesModel" "saved" "[I", Cond.arrayClass .boolean, Cond.fieldLink RX4 22 "ClerkVotesModel" "isSaved" "[Z", Cond.fieldLink RX4 26 "ClerkVotesModel" "pad" "[I", Cond.fieldLink RX4 29 "ClerkVotesModel" "orders" "[I", Cond.methodLink RL 13 yX3_set, Cond.instanceMethod yX3_set, Cond.selects RX3 yX3_set yX3_set, Cond.code yX3_set cX3_set 3 (some .int), Cond.methodLink RX3 37 yX3_noteStateBefore, Cond.instanceMethod yX3_noteStateBefore, Cond.selects RX3 yX3_noteStateBefore yX3_noteStateBefore, Cond.code yX3_noteStateBefore cX3_noteStateBefore 1 none]
def wsL_law_r4 : List Cond := [Cond.fieldLink RX3 138 "ClerkVotes" "nextInHistory" "I", Cond.methodLink RX3 110 yX2_copyFrom, Cond.instanceMethod yX2_copyFrom, Cond.selects RX2 yX2_copyFrom yX2_copyFrom, Cond.code yX2_copyFrom cX2_copyFrom 2 none, Cond.fieldLink RX2 46 "ClerkVotes$State" "tick" "I", Cond.fieldLink RX2 50 "ClerkVotes$State" "illOnes" "I", Cond.fieldLink RX2 53 "ClerkVotes$State" "unwillingOnes" "I", Cond.fieldLink RX2 56 "ClerkVotes$State" "deals" "I", Cond.methodLink RX2 59 arraycopyName, Cond.native arraycopyName, Cond.static arraycopyName, Cond.initialized "java/lang/System", Cond.methodLink RX2 65 yX1_copyFrom, Cond.instanceMethod yX1_copyFrom, Cond.selects RX1 yX1_copyFrom yX1_copyFrom, Cond.code yX1_copyFrom cX1_copyFrom 2 none, Cond.fieldLink RX1 21 "ClerkVotes$Row" "length" "I", Cond.fieldLink RX1 25 "ClerkVotes$Row" "lost" "I", Cond.methodLink RX1 28 arraycopyName, Cond.methodLink RX3 40 yX2_changeSetting, Cond.instanceMethod yX2_changeSetting, Cond.selects RX2 yX2_changeSetting yX2_changeSetting, Cond.code yX2_changeSetting cX2_changeSetting 4 (some .int)]
def wsL_law_r5 : List Cond := [Cond.methodLink RX3 44 yX3_recorded, Cond.instanceMethod yX3_recorded, Cond.selects RX3 yX3_recorded yX3_recorded, Cond.code yX3_recorded cX3_recorded 2 (some .int), Cond.fieldLink RX3 94 "ClerkVotes" "undoable" "I", Cond.methodLink RX3 151 Lib.Math.min.name, Cond.static Lib.Math.min.name, Cond.initialized "java/lang/Math", Cond.code Lib.Math.min.name Lib.Math.min.code 2 (some .int), Cond.methodLink RL 17 yX4_set, Cond.instanceMethod yX4_set, Cond.selects RX4 yX4_set yX4_set, Cond.code yX4_set cX4_set 4 (some .int), Cond.methodLink RX4 95 yX4_in, Cond.static yX4_in, Cond.code yX4_in cX4_in 3 (some .boolean), Cond.methodLink RX4 99 yX4_record, Cond.instanceMethod yX4_record, Cond.selects RX4 yX4_record yX4_record, Cond.code yX4_record cX4_record 2 none, Cond.fieldLink RX4 32 "ClerkVotesModel" "isInText" "Z", Cond.fieldLink RX4 36 "ClerkVotesModel" "undos" "I", Cond.methodLink RL 18 yX3_willing, Cond.instanceMethod yX3_willing]
def wsL_law_r6 : List Cond := [Cond.selects RX3 yX3_willing yX3_willing, Cond.code yX3_willing cX3_willing 3 (some .int), Cond.methodLink RX3 48 yX2_makeWilling, Cond.instanceMethod yX2_makeWilling, Cond.selects RX2 yX2_makeWilling yX2_makeWilling, Cond.code yX2_makeWilling cX2_makeWilling 4 (some .int), Cond.methodLink RX2 83 yX2_isClerk, Cond.static yX2_isClerk, Cond.code yX2_isClerk cX2_isClerk 1 (some .boolean), Cond.static yX3_isIn, Cond.code yX3_isIn cX3_isIn 2 (some .boolean), Cond.methodLink RL 21 yX4_willing, Cond.instanceMethod yX4_willing, Cond.selects RX4 yX4_willing yX4_willing, Cond.code yX4_willing cX4_willing 4 (some .int), Cond.methodLink RL 22 yX3_open, Cond.instanceMethod yX3_open, Cond.selects RX3 yX3_open yX3_open, Cond.code yX3_open cX3_open 2 (some .int), Cond.methodLink RX3 51 yX2_openDeal, Cond.instanceMethod yX2_openDeal, Cond.selects RX2 yX2_openDeal yX2_openDeal, Cond.code yX2_openDeal cX2_openDeal 3 (some .int), Cond.methodLink RX2 87 yX2_isIll]
def wsL_law_r7 : List Cond := [Cond.instanceMethod yX2_isIll, Cond.selects RX2 yX2_isIll yX2_isIll, Cond.code yX2_isIll cX2_isIll 2 (some .boolean), Cond.methodLink RX2 90 yX2_sendToClerks, Cond.instanceMethod yX2_sendToClerks, Cond.selects RX2 yX2_sendToClerks yX2_sendToClerks, Cond.code yX2_sendToClerks cX2_sendToClerks 6 none, Cond.methodLink RX2 130 yX1_send, Cond.instanceMethod yX1_send, Cond.selects RX1 yX1_send yX1_send, Cond.code yX1_send cX1_send 6 none, Cond.methodLink RL 26 yX4_open, Cond.instanceMethod yX4_open, Cond.selects RX4 yX4_open yX4_open, Cond.code yX4_open cX4_open 3 (some .int), Cond.methodLink RX4 73 yX4_isIll, Cond.instanceMethod yX4_isIll, Cond.selects RX4 yX4_isIll yX4_isIll, Cond.code yX4_isIll cX4_isIll 2 (some .boolean), Cond.methodLink RX4 52 yX4_book, Cond.instanceMethod yX4_book, Cond.selects RX4 yX4_book yX4_book, Cond.code yX4_book cX4_book 4 none, Cond.methodLink RX4 56 yX4_sendAll]
def wsL_law_r8 : List Cond := [Cond.instanceMethod yX4_sendAll, Cond.selects RX4 yX4_sendAll yX4_sendAll, Cond.code yX4_sendAll cX4_sendAll 6 none, Cond.methodLink RX4 44 yX4_has, Cond.static yX4_has, Cond.code yX4_has cX4_has 2 (some .boolean), Cond.methodLink RX4 48 yX4_send, Cond.instanceMethod yX4_send, Cond.selects RX4 yX4_send yX4_send, Cond.code yX4_send cX4_send 6 none, Cond.methodLink RL 27 yX3_deliver, Cond.instanceMethod yX3_deliver, Cond.selects RX3 yX3_deliver yX3_deliver, Cond.code yX3_deliver cX3_deliver 2 (some .int), Cond.methodLink RX3 54 yX2_handOver, Cond.instanceMethod yX2_handOver, Cond.selects RX2 yX2_handOver yX2_handOver, Cond.code yX2_handOver cX2_handOver 6 (some .int), Cond.fieldLink RX2 101 "ClerkVotes$Row" "lost" "I", Cond.fieldLink RX2 104 "ClerkVotes$Row" "length" "I", Cond.fieldLink RX2 136 "ClerkVotes$Row" "deliveredTo" "[I", Cond.methodLink RX2 94 yX1_has, Cond.instanceMethod yX1_has, Cond.selects RX1 yX1_has yX1_has]
def wsL_law_r9 : List Cond := [Cond.code yX1_has cX1_has 2 (some .boolean), Cond.methodLink RX2 133 yX1_part, Cond.instanceMethod yX1_part, Cond.selects RX1 yX1_part yX1_part, Cond.code yX1_part cX1_part 3 (some .int), Cond.methodLink RX2 97 yX1_remove, Cond.instanceMethod yX1_remove, Cond.selects RX1 yX1_remove yX1_remove, Cond.code yX1_remove cX1_remove 3 none, Cond.methodLink RX2 139 yX2_vote, Cond.instanceMethod yX2_vote, Cond.selects RX2 yX2_vote yX2_vote, Cond.code yX2_vote cX2_vote 3 none, Cond.methodLink RX2 123 yX2_stands, Cond.instanceMethod yX2_stands, Cond.selects RX2 yX2_stands yX2_stands, Cond.code yX2_stands cX2_stands 4 (some .boolean), Cond.methodLink RX2 73 yX2_whoStand, Cond.instanceMethod yX2_whoStand, Cond.selects RX2 yX2_whoStand yX2_whoStand, Cond.code yX2_whoStand cX2_whoStand 3 (some .int), Cond.methodLink RX2 127 yX2_move, Cond.instanceMethod yX2_move, Cond.selects RX2 yX2_move yX2_move]
def wsL_law_r10 : List Cond := [Cond.code yX2_move cX2_move 5 none, Cond.methodLink RX2 142 yX2_takeYes, Cond.instanceMethod yX2_takeYes, Cond.selects RX2 yX2_takeYes yX2_takeYes, Cond.code yX2_takeYes cX2_takeYes 3 none, Cond.methodLink RX2 157 yX2_answerAsBetween, Cond.instanceMethod yX2_answerAsBetween, Cond.selects RX2 yX2_answerAsBetween yX2_answerAsBetween, Cond.code yX2_answerAsBetween cX2_answerAsBetween 3 none, Cond.methodLink RX2 145 yX2_takeNo, Cond.instanceMethod yX2_takeNo, Cond.selects RX2 yX2_takeNo yX2_takeNo, Cond.code yX2_takeNo cX2_takeNo 3 none, Cond.methodLink RX2 148 yX2_postFor, Cond.instanceMethod yX2_postFor, Cond.selects RX2 yX2_postFor yX2_postFor, Cond.code yX2_postFor cX2_postFor 3 none, Cond.methodLink RX2 151 yX2_tearFor, Cond.instanceMethod yX2_tearFor, Cond.selects RX2 yX2_tearFor yX2_tearFor, Cond.code yX2_tearFor cX2_tearFor 3 none, Cond.methodLink RX2 154 yX2_takeReceipt, Cond.instanceMethod yX2_takeReceipt, Cond.selects RX2 yX2_takeReceipt yX2_takeReceipt]
def wsL_law_r11 : List Cond := [Cond.code yX2_takeReceipt cX2_takeReceipt 3 none, Cond.methodLink RX2 160 yX2_answerAsElder, Cond.instanceMethod yX2_answerAsElder, Cond.selects RX2 yX2_answerAsElder yX2_answerAsElder, Cond.code yX2_answerAsElder cX2_answerAsElder 4 none, Cond.methodLink RL 30 yX4_deliver, Cond.instanceMethod yX4_deliver, Cond.selects RX4 yX4_deliver yX4_deliver, Cond.code yX4_deliver cX4_deliver 2 (some .int), Cond.methodLink RX4 102 yX4_isMessage, Cond.instanceMethod yX4_isMessage, Cond.selects RX4 yX4_isMessage yX4_isMessage, Cond.code yX4_isMessage cX4_isMessage 2 (some .boolean), Cond.methodLink RX4 105 yX4_deliverNow, Cond.instanceMethod yX4_deliverNow, Cond.selects RX4 yX4_deliverNow yX4_deliverNow, Cond.code yX4_deliverNow cX4_deliverNow 7 none, Cond.methodLink RX4 69 yX4_drop, Cond.instanceMethod yX4_drop, Cond.selects RX4 yX4_drop yX4_drop, Cond.code yX4_drop cX4_drop 3 none, Cond.methodLink RX4 77 yX4_get, Cond.instanceMethod yX4_get, Cond.selects RX4 yX4_get yX4_get]
def wsL_law_r12 : List Cond := [Cond.code yX4_get cX4_get 6 none, Cond.methodLink RX4 40 yX4_of, Cond.instanceMethod yX4_of, Cond.selects RX4 yX4_of yX4_of, Cond.code yX4_of cX4_of 3 (some .int), Cond.methodLink RX4 59 yX4_answer, Cond.instanceMethod yX4_answer, Cond.selects RX4 yX4_answer yX4_answer, Cond.code yX4_answer cX4_answer 4 none, Cond.methodLink RX4 63 yX4_tear, Cond.instanceMethod yX4_tear, Cond.selects RX4 yX4_tear yX4_tear, Cond.code yX4_tear cX4_tear 3 none, Cond.methodLink RX4 80 yX4_getBy, Cond.instanceMethod yX4_getBy, Cond.selects RX4 yX4_getBy yX4_getBy, Cond.code yX4_getBy cX4_getBy 6 none, Cond.methodLink RX4 66 yX4_become, Cond.instanceMethod yX4_become, Cond.selects RX4 yX4_become yX4_become, Cond.code yX4_become cX4_become 4 none, Cond.methodLink RL 31 yX3_lose, Cond.instanceMethod yX3_lose, Cond.selects RX3 yX3_lose yX3_lose]
def wsL_law_r13 : List Cond := [Cond.code yX3_lose cX3_lose 2 (some .int), Cond.methodLink RX3 57 yX2_dropMessage, Cond.instanceMethod yX2_dropMessage, Cond.selects RX2 yX2_dropMessage yX2_dropMessage, Cond.code yX2_dropMessage cX2_dropMessage 2 (some .int), Cond.methodLink RL 34 yX4_lose, Cond.instanceMethod yX4_lose, Cond.selects RX4 yX4_lose yX4_lose, Cond.code yX4_lose cX4_lose 2 (some .int), Cond.methodLink RX4 108 yX4_loseNow, Cond.instanceMethod yX4_loseNow, Cond.selects RX4 yX4_loseNow yX4_loseNow, Cond.code yX4_loseNow cX4_loseNow 2 none, Cond.methodLink RL 35 yX3_twice, Cond.instanceMethod yX3_twice, Cond.selects RX3 yX3_twice yX3_twice, Cond.code yX3_twice cX3_twice 2 (some .int), Cond.methodLink RX3 60 yX2_repeatMessage, Cond.instanceMethod yX2_repeatMessage, Cond.selects RX2 yX2_repeatMessage yX2_repeatMessage, Cond.code yX2_repeatMessage cX2_repeatMessage 2 (some .int), Cond.methodLink RX2 107 yX1_repeat, Cond.instanceMethod yX1_repeat, Cond.selects RX1 yX1_repeat yX1_repeat]
def wsL_law_r14 : List Cond := [Cond.code yX1_repeat cX1_repeat 2 none, Cond.methodLink RL 38 yX4_twice, Cond.instanceMethod yX4_twice, Cond.selects RX4 yX4_twice yX4_twice, Cond.code yX4_twice cX4_twice 3 (some .int), Cond.methodLink RL 39 yX3_fall, Cond.instanceMethod yX3_fall, Cond.selects RX3 yX3_fall yX3_fall, Cond.code yX3_fall cX3_fall 2 (some .int), Cond.methodLink RX3 63 yX2_fallIll, Cond.instanceMethod yX2_fallIll, Cond.selects RX2 yX2_fallIll yX2_fallIll, Cond.code yX2_fallIll cX2_fallIll 3 (some .int), Cond.methodLink RX2 110 yX2_isSomebody, Cond.static yX2_isSomebody, Cond.code yX2_isSomebody cX2_isSomebody 1 (some .boolean), Cond.methodLink RX2 113 yX2_forget, Cond.instanceMethod yX2_forget, Cond.selects RX2 yX2_forget yX2_forget, Cond.code yX2_forget cX2_forget 3 none, Cond.methodLink RX2 117 yJ6_bitCount_0f7a4, Cond.static yJ6_bitCount_0f7a4, Cond.initialized RJ6, Cond.code yJ6_bitCount_0f7a4 cJ6_bitCount_0f7a4 1 (some .int)]
def wsL_law_r15 : List Cond := [Cond.constant RJ6 265 (1431655765), Cond.constant RJ6 266 (858993459), Cond.constant RJ6 267 (252645135), Cond.methodLink RL 42 yX4_fall, Cond.instanceMethod yX4_fall, Cond.selects RX4 yX4_fall yX4_fall, Cond.code yX4_fall cX4_fall 3 (some .int), Cond.methodLink RX4 86 yX4_isPart, Cond.instanceMethod yX4_isPart, Cond.selects RX4 yX4_isPart yX4_isPart, Cond.code yX4_isPart cX4_isPart 3 (some .boolean), Cond.methodLink RX4 111 yX4_ill, Cond.instanceMethod yX4_ill, Cond.selects RX4 yX4_ill yX4_ill, Cond.code yX4_ill cX4_ill 3 (some .int), Cond.methodLink RL 43 yX3_rise, Cond.instanceMethod yX3_rise, Cond.selects RX3 yX3_rise yX3_rise, Cond.code yX3_rise cX3_rise 2 (some .int), Cond.methodLink RX3 66 yX2_getWell, Cond.instanceMethod yX2_getWell, Cond.selects RX2 yX2_getWell yX2_getWell, Cond.code yX2_getWell cX2_getWell 2 (some .int), Cond.methodLink RL 46 yX4_rise]
def wsL_law_r16 : List Cond := [Cond.instanceMethod yX4_rise, Cond.selects RX4 yX4_rise yX4_rise, Cond.code yX4_rise cX4_rise 2 (some .int), Cond.methodLink RL 47 yX3_ticks, Cond.instanceMethod yX3_ticks, Cond.selects RX3 yX3_ticks yX3_ticks, Cond.code yX3_ticks cX3_ticks 2 (some .int), Cond.methodLink RX3 69 yX2_passTicks, Cond.instanceMethod yX2_passTicks, Cond.selects RX2 yX2_passTicks yX2_passTicks, Cond.code yX2_passTicks cX2_passTicks 3 (some .int), Cond.methodLink RX2 164 yX2_passTick, Cond.instanceMethod yX2_passTick, Cond.selects RX2 yX2_passTick yX2_passTick, Cond.code yX2_passTick cX2_passTick 2 none, Cond.methodLink RX2 167 yX2_pressOn, Cond.instanceMethod yX2_pressOn, Cond.selects RX2 yX2_pressOn yX2_pressOn, Cond.code yX2_pressOn cX2_pressOn 2 none, Cond.methodLink RX2 173 yX2_isTimeAgain, Cond.instanceMethod yX2_isTimeAgain, Cond.selects RX2 yX2_isTimeAgain yX2_isTimeAgain, Cond.code yX2_isTimeAgain cX2_isTimeAgain 4 (some .boolean), Cond.methodLink RX2 170 yX2_askInDoubt]
def wsL_law_r17 : List Cond := [Cond.instanceMethod yX2_askInDoubt, Cond.selects RX2 yX2_askInDoubt yX2_askInDoubt, Cond.code yX2_askInDoubt cX2_askInDoubt 3 none, Cond.methodLink RL 50 yX4_ticks, Cond.instanceMethod yX4_ticks, Cond.selects RX4 yX4_ticks yX4_ticks, Cond.code yX4_ticks cX4_ticks 3 (some .int), Cond.methodLink RX4 115 yX4_pass, Cond.instanceMethod yX4_pass, Cond.selects RX4 yX4_pass yX4_pass, Cond.code yX4_pass cX4_pass 3 none, Cond.methodLink RX4 89 yX4_passBetween, Cond.instanceMethod yX4_passBetween, Cond.selects RX4 yX4_passBetween yX4_passBetween, Cond.code yX4_passBetween cX4_passBetween 3 none, Cond.methodLink RX4 83 yX4_isTime, Cond.static yX4_isTime, Cond.code yX4_isTime cX4_isTime 2 (some .boolean), Cond.methodLink RX4 92 yX4_passClerk, Cond.instanceMethod yX4_passClerk, Cond.selects RX4 yX4_passClerk yX4_passClerk, Cond.code yX4_passClerk cX4_passClerk 4 none, Cond.methodLink RL 51 yX3_ofDeal, Cond.instanceMethod yX3_ofDeal]
def wsL_law_r18 : List Cond := [Cond.selects RX3 yX3_ofDeal yX3_ofDeal, Cond.code yX3_ofDeal cX3_ofDeal 3 (some .int), Cond.methodLink RX3 72 yX2_numberOfDeal, Cond.instanceMethod yX2_numberOfDeal, Cond.selects RX2 yX2_numberOfDeal yX2_numberOfDeal, Cond.code yX2_numberOfDeal cX2_numberOfDeal 3 (some .int), Cond.methodLink RX2 185 yX2_isDeal, Cond.instanceMethod yX2_isDeal, Cond.selects RX2 yX2_isDeal yX2_isDeal, Cond.code yX2_isDeal cX2_isDeal 2 (some .boolean), Cond.methodLink RL 54 yX4_ofDeal, Cond.instanceMethod yX4_ofDeal, Cond.selects RX4 yX4_ofDeal yX4_ofDeal, Cond.code yX4_ofDeal cX4_ofDeal 3 (some .int), Cond.methodLink RX4 118 yX4_isDeal, Cond.instanceMethod yX4_isDeal, Cond.selects RX4 yX4_isDeal yX4_isDeal, Cond.code yX4_isDeal cX4_isDeal 2 (some .boolean), Cond.methodLink RX4 121 yX4_clerksOf, Cond.instanceMethod yX4_clerksOf, Cond.selects RX4 yX4_clerksOf yX4_clerksOf, Cond.code yX4_clerksOf cX4_clerksOf 5 (some .int), Cond.methodLink RL 55 yX3_at, Cond.instanceMethod yX3_at]
def wsL_law_r19 : List Cond := [Cond.selects RX3 yX3_at yX3_at, Cond.code yX3_at cX3_at 3 (some .int), Cond.methodLink RX3 75 yX2_standingFor, Cond.instanceMethod yX2_standingFor, Cond.selects RX2 yX2_standingFor yX2_standingFor, Cond.code yX2_standingFor cX2_standingFor 4 (some .int), Cond.methodLink RL 58 yX4_at, Cond.instanceMethod yX4_at, Cond.selects RX4 yX4_at yX4_at, Cond.code yX4_at cX4_at 3 (some .int), Cond.methodLink RL 59 yX3_message, Cond.instanceMethod yX3_message, Cond.selects RX3 yX3_message yX3_message, Cond.code yX3_message cX3_message 3 (some .int), Cond.fieldLink RX3 78 "ClerkVotes$State" "row" "LClerkVotes$Row;", Cond.methodLink RX3 82 yX1_numberOfMessage, Cond.instanceMethod yX1_numberOfMessage, Cond.selects RX1 yX1_numberOfMessage yX1_numberOfMessage, Cond.code yX1_numberOfMessage cX1_numberOfMessage 3 (some .int), Cond.methodLink RX1 34 yX1_has, Cond.methodLink RX1 38 yX1_part, Cond.methodLink RL 62 yX4_message, Cond.instanceMethod yX4_message, Cond.selects RX4 yX4_message yX4_message]
def wsL_law_r20 : List Cond := [Cond.code yX4_message cX4_message 3 (some .int), Cond.methodLink RL 63 yX3_who, Cond.instanceMethod yX3_who, Cond.selects RX3 yX3_who yX3_who, Cond.code yX3_who cX3_who 3 (some .int), Cond.methodLink RX3 87 yX2_numberOfSomebody, Cond.instanceMethod yX2_numberOfSomebody, Cond.selects RX2 yX2_numberOfSomebody yX2_numberOfSomebody, Cond.code yX2_numberOfSomebody cX2_numberOfSomebody 3 (some .int), Cond.fieldLink RX2 191 "ClerkVotes$Row" "sentBy" "[I", Cond.methodLink RX2 188 yX1_onTheirWayTo, Cond.instanceMethod yX1_onTheirWayTo, Cond.selects RX1 yX1_onTheirWayTo yX1_onTheirWayTo, Cond.code yX1_onTheirWayTo cX1_onTheirWayTo 4 (some .int), Cond.methodLink RL 66 yX4_who, Cond.instanceMethod yX4_who, Cond.selects RX4 yX4_who yX4_who, Cond.code yX4_who cX4_who 3 (some .int), Cond.methodLink RX4 124 yX4_underwayTo, Cond.instanceMethod yX4_underwayTo, Cond.selects RX4 yX4_underwayTo yX4_underwayTo, Cond.code yX4_underwayTo cX4_underwayTo 4 (some .int), Cond.methodLink RL 67 yX3_count, Cond.instanceMethod yX3_count]
def wsL_law_r21 : List Cond := [Cond.selects RX3 yX3_count yX3_count, Cond.code yX3_count cX3_count 2 (some .int), Cond.fieldLink RX3 90 "ClerkVotes" "padLength" "I", Cond.methodLink RX3 97 yX2_numberOfAll, Cond.instanceMethod yX2_numberOfAll, Cond.selects RX2 yX2_numberOfAll yX2_numberOfAll, Cond.code yX2_numberOfAll cX2_numberOfAll 2 (some .int), Cond.methodLink RX2 194 yX1_delivered, Cond.instanceMethod yX1_delivered, Cond.selects RX1 yX1_delivered yX1_delivered, Cond.code yX1_delivered cX1_delivered 3 (some .int), Cond.methodLink RX2 198 yX2_dealsWithBoth, Cond.instanceMethod yX2_dealsWithBoth, Cond.selects RX2 yX2_dealsWithBoth yX2_dealsWithBoth, Cond.code yX2_dealsWithBoth cX2_dealsWithBoth 5 (some .int), Cond.methodLink RL 70 yX4_count, Cond.instanceMethod yX4_count, Cond.selects RX4 yX4_count yX4_count, Cond.code yX4_count cX4_count 2 (some .int), Cond.fieldLink RX4 131 "ClerkVotesModel" "signs" "I", Cond.methodLink RX4 128 yX4_dealsWith, Cond.instanceMethod yX4_dealsWith, Cond.selects RX4 yX4_dealsWith yX4_dealsWith, Cond.code yX4_dealsWith cX4_dealsWith 6 (some .int)]
def wsL_law_r22 : List Cond := [Cond.methodLink RL 71 yX3_sure, Cond.instanceMethod yX3_sure, Cond.selects RX3 yX3_sure yX3_sure, Cond.code yX3_sure cX3_sure 2 (some .int), Cond.methodLink RX3 100 yX2_whatIsSure, Cond.instanceMethod yX2_whatIsSure, Cond.selects RX2 yX2_whatIsSure yX2_whatIsSure, Cond.code yX2_whatIsSure cX2_whatIsSure 2 (some .int), Cond.methodLink RL 74 yX4_sure, Cond.instanceMethod yX4_sure, Cond.selects RX4 yX4_sure yX4_sure, Cond.code yX4_sure cX4_sure 3 (some .int), Cond.methodLink RL 75 yX3_couldAsk, Cond.instanceMethod yX3_couldAsk, Cond.selects RX3 yX3_couldAsk yX3_couldAsk, Cond.code yX3_couldAsk cX3_couldAsk 2 (some .int), Cond.methodLink RX3 103 yX2_whoFindsOut, Cond.instanceMethod yX2_whoFindsOut, Cond.selects RX2 yX2_whoFindsOut yX2_whoFindsOut, Cond.code yX2_whoFindsOut cX2_whoFindsOut 6 (some .int), Cond.methodLink RL 78 yX4_couldAsk, Cond.instanceMethod yX4_couldAsk, Cond.selects RX4 yX4_couldAsk yX4_couldAsk, Cond.code yX4_couldAsk cX4_couldAsk 4 (some .int)]
def wsL_law_r23 : List Cond := [Cond.methodLink RX4 134 yX4_canAsk, Cond.instanceMethod yX4_canAsk, Cond.selects RX4 yX4_canAsk yX4_canAsk, Cond.code yX4_canAsk cX4_canAsk 5 (some .boolean), Cond.methodLink RL 79 yX3_settledIn, Cond.instanceMethod yX3_settledIn, Cond.selects RX3 yX3_settledIn yX3_settledIn, Cond.code yX3_settledIn cX3_settledIn 3 (some .int), Cond.methodLink RX3 106 yX2_isDeal, Cond.methodLink RX3 114 yX2_roundsUntilSettled, Cond.instanceMethod yX2_roundsUntilSettled, Cond.selects RX2 yX2_roundsUntilSettled yX2_roundsUntilSettled, Cond.code yX2_roundsUntilSettled cX2_roundsUntilSettled 3 (some .int), Cond.methodLink RX2 179 yX2_isSettled, Cond.instanceMethod yX2_isSettled, Cond.selects RX2 yX2_isSettled yX2_isSettled, Cond.code yX2_isSettled cX2_isSettled 2 (some .boolean), Cond.methodLink RX2 182 yX2_passRound, Cond.instanceMethod yX2_passRound, Cond.selects RX2 yX2_passRound yX2_passRound, Cond.code yX2_passRound cX2_passRound 3 none, Cond.methodLink RX2 176 yX2_handOver, Cond.methodLink RL 82 yX4_settledIn, Cond.instanceMethod yX4_settledIn]
def wsL_law_r24 : List Cond := [Cond.selects RX4 yX4_settledIn yX4_settledIn, Cond.code yX4_settledIn cX4_settledIn 3 (some .int), Cond.methodLink RX4 143 yX4_keep, Cond.instanceMethod yX4_keep, Cond.selects RX4 yX4_keep yX4_keep, Cond.code yX4_keep cX4_keep 2 none, Cond.methodLink RX4 146 yX4_roundsTo, Cond.instanceMethod yX4_roundsTo, Cond.selects RX4 yX4_roundsTo yX4_roundsTo, Cond.code yX4_roundsTo cX4_roundsTo 3 (some .int), Cond.methodLink RX4 137 yX4_isSettled, Cond.instanceMethod yX4_isSettled, Cond.selects RX4 yX4_isSettled yX4_isSettled, Cond.code yX4_isSettled cX4_isSettled 2 (some .boolean), Cond.methodLink RX4 140 yX4_goRound, Cond.instanceMethod yX4_goRound, Cond.selects RX4 yX4_goRound yX4_goRound, Cond.code yX4_goRound cX4_goRound 3 none, Cond.methodLink RX4 149 yX4_comeBack, Cond.instanceMethod yX4_comeBack, Cond.selects RX4 yX4_comeBack yX4_comeBack, Cond.code yX4_comeBack cX4_comeBack 2 none, Cond.methodLink RL 83 yX3_underwayIn, Cond.instanceMethod yX3_underwayIn]
def wsL_law_r25 : List Cond := [Cond.selects RX3 yX3_underwayIn yX3_underwayIn, Cond.code yX3_underwayIn cX3_underwayIn 3 (some .int), Cond.fieldLink RX3 120 "ClerkVotes$Row" "length" "I", Cond.methodLink RX3 117 yX2_passRound, Cond.methodLink RL 86 yX4_underwayIn, Cond.instanceMethod yX4_underwayIn, Cond.selects RX4 yX4_underwayIn yX4_underwayIn, Cond.code yX4_underwayIn cX4_underwayIn 3 (some .int), Cond.methodLink RL 87 yX3_worstLoss, Cond.instanceMethod yX3_worstLoss, Cond.selects RX3 yX3_worstLoss yX3_worstLoss, Cond.code yX3_worstLoss cX3_worstLoss 7 (some .int), Cond.methodLink RL 90 yX4_worstLoss, Cond.instanceMethod yX4_worstLoss, Cond.selects RX4 yX4_worstLoss yX4_worstLoss, Cond.code yX4_worstLoss cX4_worstLoss 8 (some .int), Cond.methodLink RL 93 yX3_put, Cond.instanceMethod yX3_put, Cond.selects RX3 yX3_put yX3_put, Cond.code yX3_put cX3_put 5 (some .int), Cond.methodLink RX3 123 yX3_charactersIn, Cond.static yX3_charactersIn, Cond.code yX3_charactersIn cX3_charactersIn 4 (some .int), Cond.methodLink RX3 127 yX3_codeAt]
def wsL_law_r26 : List Cond := [Cond.static yX3_codeAt, Cond.code yX3_codeAt cX3_codeAt 3 (some .int), Cond.constantLong RX3 156 (255), Cond.methodLink RL 97 yX4_put, Cond.instanceMethod yX4_put, Cond.selects RX4 yX4_put yX4_put, Cond.code yX4_put cX4_put 7 (some .int), Cond.constantLong RX4 179 (255), Cond.methodLink RL 98 yX3_wipe, Cond.instanceMethod yX3_wipe, Cond.selects RX3 yX3_wipe yX3_wipe, Cond.code yX3_wipe cX3_wipe 2 (some .int), Cond.methodLink RL 102 yX4_wipe, Cond.instanceMethod yX4_wipe, Cond.selects RX4 yX4_wipe yX4_wipe, Cond.code yX4_wipe cX4_wipe 2 (some .int), Cond.methodLink RL 103 yX3_fault, Cond.instanceMethod yX3_fault, Cond.selects RX3 yX3_fault yX3_fault, Cond.code yX3_fault cX3_fault 1 (some .int), Cond.methodLink RX3 131 yX3_faultOfPad, Cond.instanceMethod yX3_faultOfPad, Cond.selects RX3 yX3_faultOfPad yX3_faultOfPad, Cond.code yX3_faultOfPad cX3_faultOfPad 2 (some .int)]
def wsL_law_r27 : List Cond := [Cond.methodLink RX3 158 yX0_begin, Cond.instanceMethod yX0_begin, Cond.selects RX0 yX0_begin yX0_begin, Cond.code yX0_begin cX0_begin 1 none, Cond.fieldLink RX0 9 "ClerkVotes$OrderReader" "expected" "I", Cond.methodLink RX3 161 yX0_takes, Cond.instanceMethod yX0_takes, Cond.selects RX0 yX0_takes yX0_takes, Cond.code yX0_takes cX0_takes 2 (some .boolean), Cond.methodLink RX0 18 yX0_takesOrderEnd, Cond.instanceMethod yX0_takesOrderEnd, Cond.selects RX0 yX0_takesOrderEnd yX0_takesOrderEnd, Cond.code yX0_takesOrderEnd cX0_takesOrderEnd 1 (some .boolean), Cond.methodLink RX0 38 yX0_mayEnd, Cond.instanceMethod yX0_mayEnd, Cond.selects RX0 yX0_mayEnd yX0_mayEnd, Cond.code yX0_mayEnd cX0_mayEnd 1 (some .boolean), Cond.fieldLink RX0 15 "ClerkVotes$OrderReader" "value" "I", Cond.methodLink RX0 22 yX0_takesLetter, Cond.instanceMethod yX0_takesLetter, Cond.selects RX0 yX0_takesLetter yX0_takesLetter, Cond.code yX0_takesLetter cX0_takesLetter 2 (some .boolean), Cond.fieldLink RX0 41 "ClerkVotes$OrderReader" "letter" "I", Cond.methodLink RX0 26 yX0_takesRisingClerk]
def wsL_law_r28 : List Cond := [Cond.instanceMethod yX0_takesRisingClerk, Cond.selects RX0 yX0_takesRisingClerk yX0_takesRisingClerk, Cond.code yX0_takesRisingClerk cX0_takesRisingClerk 3 (some .boolean), Cond.methodLink RX0 29 yX0_takesDigit, Cond.instanceMethod yX0_takesDigit, Cond.selects RX0 yX0_takesDigit yX0_takesDigit, Cond.code yX0_takesDigit cX0_takesDigit 3 (some .boolean), Cond.methodLink RX0 32 yX0_takesSomebody, Cond.instanceMethod yX0_takesSomebody, Cond.selects RX0 yX0_takesSomebody yX0_takesSomebody, Cond.code yX0_takesSomebody cX0_takesSomebody 4 (some .boolean), Cond.methodLink RX0 35 yX0_takesSign, Cond.instanceMethod yX0_takesSign, Cond.selects RX0 yX0_takesSign yX0_takesSign, Cond.code yX0_takesSign cX0_takesSign 2 (some .boolean), Cond.fieldLink RX0 44 "ClerkVotes$OrderReader" "willingness" "I", Cond.methodLink RX3 164 yX0_mayEnd, Cond.methodLink RL 106 yX4_fault, Cond.instanceMethod yX4_fault, Cond.selects RX4 yX4_fault yX4_fault, Cond.code yX4_fault cX4_fault 1 (some .int), Cond.methodLink RX4 181 yX4_faultOf, Cond.instanceMethod yX4_faultOf, Cond.selects RX4 yX4_faultOf yX4_faultOf]
def wsL_law_r29 : List Cond := [Cond.code yX4_faultOf cX4_faultOf 1 (some .int), Cond.fieldLink RX4 152 "ClerkVotesModel" "place" "I", Cond.fieldLink RX4 164 "ClerkVotesModel" "read" "I", Cond.fieldLink RX4 158 "ClerkVotesModel" "isWrong" "Z", Cond.methodLink RX4 176 yX4_readOne, Cond.instanceMethod yX4_readOne, Cond.selects RX4 yX4_readOne yX4_readOne, Cond.code yX4_readOne cX4_readOne 3 none, Cond.methodLink RX4 155 yX4_sign, Cond.instanceMethod yX4_sign, Cond.selects RX4 yX4_sign yX4_sign, Cond.code yX4_sign cX4_sign 1 (some .int), Cond.methodLink RX4 167 yX4_clerks, Cond.instanceMethod yX4_clerks, Cond.selects RX4 yX4_clerks yX4_clerks, Cond.code yX4_clerks cX4_clerks 3 (some .int), Cond.methodLink RX4 161 yX4_one, Cond.instanceMethod yX4_one, Cond.selects RX4 yX4_one yX4_one, Cond.code yX4_one cX4_one 4 (some .int), Cond.methodLink RX4 170 yX4_number, Cond.instanceMethod yX4_number, Cond.selects RX4 yX4_number yX4_number, Cond.code yX4_number cX4_number 2 (some .int)]
def wsL_law_r30 : List Cond := [Cond.methodLink RX4 173 yX4_plus, Cond.instanceMethod yX4_plus, Cond.selects RX4 yX4_plus yX4_plus, Cond.code yX4_plus cX4_plus 2 (some .int), Cond.methodLink RL 107 yX3_carryOut, Cond.instanceMethod yX3_carryOut, Cond.selects RX3 yX3_carryOut yX3_carryOut, Cond.code yX3_carryOut cX3_carryOut 2 (some .int), Cond.methodLink RX3 135 yX3_carryOutOrders, Cond.instanceMethod yX3_carryOutOrders, Cond.selects RX3 yX3_carryOutOrders yX3_carryOutOrders, Cond.code yX3_carryOutOrders cX3_carryOutOrders 4 (some .int), Cond.methodLink RX3 168 yX3_carryOutOrder, Cond.instanceMethod yX3_carryOutOrder, Cond.selects RX3 yX3_carryOutOrder yX3_carryOutOrder, Cond.code yX3_carryOutOrder cX3_carryOutOrder 2 (some .int), Cond.fieldLink RX3 171 "ClerkVotes$OrderReader" "value" "I", Cond.fieldLink RX3 174 "ClerkVotes$OrderReader" "letter" "I", Cond.fieldLink RX3 177 "ClerkVotes$OrderReader" "willingness" "I", Cond.methodLink RL 110 yX4_carryOut, Cond.instanceMethod yX4_carryOut, Cond.selects RX4 yX4_carryOut yX4_carryOut, Cond.code yX4_carryOut cX4_carryOut 2 (some .int), Cond.methodLink RX4 205 yX4_carry]
def wsL_law_r31 : List Cond := [Cond.instanceMethod yX4_carry, Cond.selects RX4 yX4_carry yX4_carry, Cond.code yX4_carry cX4_carry 3 (some .int), Cond.methodLink RX4 184 yX4_open, Cond.methodLink RX4 187 yX4_deliver, Cond.methodLink RX4 190 yX4_lose, Cond.methodLink RX4 193 yX4_fall, Cond.methodLink RX4 196 yX4_rise, Cond.methodLink RX4 199 yX4_willing, Cond.methodLink RX4 202 yX4_ticks, Cond.methodLink RL 111 yX3_undo, Cond.instanceMethod yX3_undo, Cond.selects RX3 yX3_undo yX3_undo, Cond.code yX3_undo cX3_undo 1 (some .int), Cond.methodLink RL 114 yX4_undo, Cond.instanceMethod yX4_undo, Cond.selects RX4 yX4_undo yX4_undo, Cond.code yX4_undo cX4_undo 2 (some .int), Cond.methodLink RL 115 yX3_save, Cond.instanceMethod yX3_save, Cond.selects RX3 yX3_save yX3_save, Cond.code yX3_save cX3_save 2 (some .int), Cond.fieldLink RX3 141 "ClerkVotes" "savedSlots" "I", Cond.fieldLink RX3 144 "ClerkVotes$State" "tick" "I"]
def wsL_law_r32 : List Cond := [Cond.methodLink RL 118 yX4_save, Cond.instanceMethod yX4_save, Cond.selects RX4 yX4_save yX4_save, Cond.code yX4_save cX4_save 3 (some .int), Cond.methodLink RL 119 yX3_restore, Cond.instanceMethod yX3_restore, Cond.selects RX3 yX3_restore yX3_restore, Cond.code yX3_restore cX3_restore 2 (some .int), Cond.methodLink RX3 147 yX3_isIn, Cond.methodLink RL 122 yX4_restore, Cond.instanceMethod yX4_restore, Cond.selects RX4 yX4_restore yX4_restore, Cond.code yX4_restore cX4_restore 3 (some .int)]
def wsL_law : List Cond := (wsL_law_r1 ++ (wsL_law_r2 ++ (wsL_law_r3 ++ (wsL_law_r4 ++ (wsL_law_r5 ++ (wsL_law_r6 ++ (wsL_law_r7 ++ (wsL_law_r8 ++ (wsL_law_r9 ++ (wsL_law_r10 ++ (wsL_law_r11 ++ (wsL_law_r12 ++ (wsL_law_r13 ++ (wsL_law_r14 ++ (wsL_law_r15 ++ (wsL_law_r16 ++ (wsL_law_r17 ++ (wsL_law_r18 ++ (wsL_law_r19 ++ (wsL_law_r20 ++ (wsL_law_r21 ++ (wsL_law_r22 ++ (wsL_law_r23 ++ (wsL_law_r24 ++ (wsL_law_r25 ++ (wsL_law_r26 ++ (wsL_law_r27 ++ (wsL_law_r28 ++ (wsL_law_r29 ++ (wsL_law_r30 ++ (wsL_law_r31 ++ wsL_law_r32))))))))))))))))))))))))))))))) ++ wsX30 ++ wsX40 ++ wsX20 ++ wsX00 ++ wsX10 ++ ([] : List Cond)
theorem inlX0 : ∀ w ∈ wsX00, w ∈ wsL_law := fun _ h => List.mem_append_left _ (List.mem_append_left _ (List.mem_append_right _ h))
theorem inlX1 : ∀ w ∈ wsX10, w ∈ wsL_law := fun _ h => List.mem_append_left _ (List.mem_append_right _ h)
theorem inlX2 : ∀ w ∈ wsX20, w ∈ wsL_law := fun _ h => List.mem_append_left _ (List.mem_append_left _ (List.mem_append_left _ (List.mem_append_right _ h)))
theorem inlX3 : ∀ w ∈ wsX30, w ∈ wsL_law := fun _ h => List.mem_append_left _ (List.mem_append_left _ (List.mem_append_left _ (List.mem_append_left _ (List.mem_append_left _ (List.mem_append_right _ h)))))
theorem inlX4 : ∀ w ∈ wsX40, w ∈ wsL_law := fun _ h => List.mem_append_left _ (List.mem_append_left _ (List.mem_append_left _ (List.mem_append_left _ (List.mem_append_right _ h))))
abbrev vwCl : List vw_C := [(RX0, TX0, 4), (RX1, TX1, 5), (RX2, TX2, 14), (RX3, TX3, 10), (RX4, TX4, 13)]
theorem mem_pl {big ws : List Cond} (ps : List Nat) (h : ws.map some = ps.map (fun i => big[i]?)) : ∀ w ∈ ws, w ∈ big := by
  intro w hw
  have h1 : some w ∈ ws.map some := List.mem_map.mpr ⟨w, hw, rfl⟩
  rw [h] at h1
  obtain ⟨i, -, hi⟩ := List.mem_map.mp h1
  exact List.mem_of_getElem? hi
set_option maxRecDepth 20000 in
theorem tin_r1 : ∀ w ∈ wsL_law_r1, w ∈ lw_tbl := mem_pl [78, 79, 70, 612, 613, 74, 932, 80, 81, 82, 83, 84, 85, 86, 87, 71, 189, 190, 191, 194, 188, 196, 166, 167] (by decide +kernel)
set_option maxRecDepth 20000 in
theorem tgd_r1 : wsL_law_r1.all goodWord = true := by decide +kernel
set_option maxRecDepth 20000 in
theorem tin_r2 : ∀ w ∈ wsL_law_r2, w ∈ lw_tbl := mem_pl [73, 198, 89, 90, 91, 119, 125, 92, 93, 72, 126, 128, 129, 130, 131, 132, 133, 134, 135, 95, 96, 97, 103, 104] (by decide +kernel)
set_option maxRecDepth 20000 in
theorem tgd_r2 : wsL_law_r2.all goodWord = true := by decide +kernel
set_option maxRecDepth 20000 in
theorem tin_r3 : ∀ w ∈ wsL_law_r3, w ∈ lw_tbl := mem_pl [106, 169, 170, 171, 614, 615, 616, 617, 618, 619, 620, 622, 658, 623, 624, 627, 220, 221, 222, 223, 224, 226, 0, 227] (by decide +kernel)
set_option maxRecDepth 20000 in
theorem tgd_r3 : wsL_law_r3.all goodWord = true := by decide +kernel
set_option maxRecDepth 20000 in
theorem tin_r4 : ∀ w ∈ wsL_law_r4, w ∈ lw_tbl := mem_pl [192, 228, 229, 230, 231, 120, 122, 123, 124, 232, 234, 233, 75, 235, 236, 237, 238, 98, 101, 239, 240, 241, 242, 243] (by decide +kernel)
set_option maxRecDepth 20000 in
theorem tgd_r4 : wsL_law_r4.all goodWord = true := by decide +kernel
set_option maxRecDepth 20000 in
theorem tin_r5 : ∀ w ∈ wsL_law_r5, w ∈ lw_tbl := mem_pl [248, 250, 1, 251, 193, 252, 253, 76, 254, 659, 660, 661, 662, 663, 664, 665, 666, 668, 31, 669, 626, 621, 255, 256] (by decide +kernel)
set_option maxRecDepth 20000 in
theorem tgd_r5 : wsL_law_r5.all goodWord = true := by decide +kernel
set_option maxRecDepth 20000 in
theorem tin_r6 : ∀ w ∈ wsL_law_r6, w ∈ lw_tbl := mem_pl [257, 258, 259, 260, 261, 262, 263, 264, 265, 267, 268, 670, 671, 672, 673, 269, 270, 271, 272, 273, 274, 275, 276, 277] (by decide +kernel)
set_option maxRecDepth 20000 in
theorem tgd_r6 : wsL_law_r6.all goodWord = true := by decide +kernel
set_option maxRecDepth 20000 in
theorem tin_r7 : ∀ w ∈ wsL_law_r7, w ∈ lw_tbl := mem_pl [279, 2, 280, 281, 283, 3, 284, 285, 286, 287, 288, 674, 675, 676, 677, 678, 680, 32, 681, 682, 684, 33, 685, 686] (by decide +kernel)
set_option maxRecDepth 20000 in
theorem tgd_r7 : wsL_law_r7.all goodWord = true := by decide +kernel
set_option maxRecDepth 20000 in
theorem tin_r8 : ∀ w ∈ wsL_law_r8, w ∈ lw_tbl := mem_pl [688, 34, 689, 690, 691, 692, 693, 695, 35, 696, 289, 290, 291, 292, 293, 294, 295, 296, 102, 99, 105, 297, 298, 299] (by decide +kernel)
set_option maxRecDepth 20000 in
theorem tgd_r8 : wsL_law_r8.all goodWord = true := by decide +kernel
set_option maxRecDepth 20000 in
theorem tin_r9 : ∀ w ∈ wsL_law_r9, w ∈ lw_tbl := mem_pl [300, 301, 302, 303, 304, 305, 306, 307, 308, 309, 311, 4, 312, 313, 315, 5, 316, 317, 319, 6, 320, 321, 323, 7] (by decide +kernel)
set_option maxRecDepth 20000 in
theorem tgd_r9 : wsL_law_r9.all goodWord = true := by decide +kernel
set_option maxRecDepth 20000 in
theorem tin_r10 : ∀ w ∈ wsL_law_r10, w ∈ lw_tbl := mem_pl [324, 325, 327, 8, 328, 329, 331, 9, 332, 333, 335, 10, 336, 337, 339, 11, 340, 341, 343, 12, 344, 345, 347, 13] (by decide +kernel)
set_option maxRecDepth 20000 in
theorem tgd_r10 : wsL_law_r10.all goodWord = true := by decide +kernel
set_option maxRecDepth 20000 in
theorem tin_r11 : ∀ w ∈ wsL_law_r11, w ∈ lw_tbl := mem_pl [348, 349, 351, 14, 352, 697, 698, 699, 700, 701, 703, 36, 704, 705, 707, 37, 708, 709, 711, 38, 712, 713, 715, 39] (by decide +kernel)
set_option maxRecDepth 20000 in
theorem tgd_r11 : wsL_law_r11.all goodWord = true := by decide +kernel
set_option maxRecDepth 20000 in
theorem tin_r12 : ∀ w ∈ wsL_law_r12, w ∈ lw_tbl := mem_pl [716, 717, 719, 40, 720, 721, 723, 41, 724, 725, 727, 42, 728, 729, 731, 43, 732, 733, 735, 44, 736, 353, 354, 355] (by decide +kernel)
set_option maxRecDepth 20000 in
theorem tgd_r12 : wsL_law_r12.all goodWord = true := by decide +kernel
set_option maxRecDepth 20000 in
theorem tin_r13 : ∀ w ∈ wsL_law_r13, w ∈ lw_tbl := mem_pl [356, 357, 358, 359, 360, 737, 738, 739, 740, 741, 743, 45, 744, 361, 362, 363, 364, 365, 366, 367, 368, 369, 370, 371] (by decide +kernel)
set_option maxRecDepth 20000 in
theorem tgd_r13 : wsL_law_r13.all goodWord = true := by decide +kernel
set_option maxRecDepth 20000 in
theorem tin_r14 : ∀ w ∈ wsL_law_r14, w ∈ lw_tbl := mem_pl [372, 745, 746, 747, 748, 373, 374, 375, 376, 377, 378, 379, 380, 381, 382, 383, 384, 386, 15, 387, 388, 389, 77, 390] (by decide +kernel)
set_option maxRecDepth 20000 in
theorem tgd_r14 : wsL_law_r14.all goodWord = true := by decide +kernel
set_option maxRecDepth 20000 in
theorem tin_r15 : ∀ w ∈ wsL_law_r15, w ∈ lw_tbl := mem_pl [391, 392, 393, 749, 750, 751, 752, 753, 755, 46, 756, 757, 759, 47, 760, 394, 395, 396, 397, 398, 399, 400, 401, 761] (by decide +kernel)
set_option maxRecDepth 20000 in
theorem tgd_r15 : wsL_law_r15.all goodWord = true := by decide +kernel
set_option maxRecDepth 20000 in
theorem tin_r16 : ∀ w ∈ wsL_law_r16, w ∈ lw_tbl := mem_pl [762, 763, 764, 402, 403, 404, 405, 406, 407, 408, 409, 410, 412, 16, 413, 414, 416, 17, 417, 418, 420, 18, 421, 422] (by decide +kernel)
set_option maxRecDepth 20000 in
theorem tgd_r16 : wsL_law_r16.all goodWord = true := by decide +kernel
set_option maxRecDepth 20000 in
theorem tin_r17 : ∀ w ∈ wsL_law_r17, w ∈ lw_tbl := mem_pl [424, 19, 425, 765, 766, 767, 768, 769, 771, 48, 772, 773, 775, 49, 776, 777, 778, 779, 780, 782, 50, 783, 426, 427] (by decide +kernel)
set_option maxRecDepth 20000 in
theorem tgd_r17 : wsL_law_r17.all goodWord = true := by decide +kernel
set_option maxRecDepth 20000 in
theorem tin_r18 : ∀ w ∈ wsL_law_r18, w ∈ lw_tbl := mem_pl [428, 429, 430, 431, 432, 433, 434, 435, 436, 437, 784, 785, 786, 787, 788, 790, 51, 791, 792, 794, 52, 795, 438, 439] (by decide +kernel)
set_option maxRecDepth 20000 in
theorem tgd_r18 : wsL_law_r18.all goodWord = true := by decide +kernel
set_option maxRecDepth 20000 in
theorem tin_r19 : ∀ w ∈ wsL_law_r19, w ∈ lw_tbl := mem_pl [440, 441, 442, 443, 444, 445, 796, 797, 798, 799, 446, 447, 448, 449, 127, 450, 451, 452, 453, 454, 455, 800, 801, 802] (by decide +kernel)
set_option maxRecDepth 20000 in
theorem tgd_r19 : wsL_law_r19.all goodWord = true := by decide +kernel
set_option maxRecDepth 20000 in
theorem tin_r20 : ∀ w ∈ wsL_law_r20, w ∈ lw_tbl := mem_pl [803, 456, 457, 458, 459, 460, 461, 462, 463, 107, 464, 465, 466, 467, 804, 805, 806, 807, 808, 810, 53, 811, 468, 469] (by decide +kernel)
set_option maxRecDepth 20000 in
theorem tgd_r20 : wsL_law_r20.all goodWord = true := by decide +kernel
set_option maxRecDepth 20000 in
theorem tin_r21 : ∀ w ∈ wsL_law_r21, w ∈ lw_tbl := mem_pl [470, 471, 197, 472, 473, 474, 475, 476, 477, 478, 479, 480, 482, 20, 483, 812, 813, 814, 815, 625, 816, 818, 54, 819] (by decide +kernel)
set_option maxRecDepth 20000 in
theorem tgd_r21 : wsL_law_r21.all goodWord = true := by decide +kernel
set_option maxRecDepth 20000 in
theorem tin_r22 : ∀ w ∈ wsL_law_r22, w ∈ lw_tbl := mem_pl [484, 485, 486, 487, 488, 489, 490, 491, 820, 821, 822, 823, 492, 493, 494, 495, 496, 497, 498, 499, 824, 825, 826, 827] (by decide +kernel)
set_option maxRecDepth 20000 in
theorem tgd_r22 : wsL_law_r22.all goodWord = true := by decide +kernel
set_option maxRecDepth 20000 in
theorem tin_r23 : ∀ w ∈ wsL_law_r23, w ∈ lw_tbl := mem_pl [828, 830, 55, 831, 500, 501, 502, 503, 504, 505, 506, 507, 508, 509, 511, 21, 512, 513, 514, 515, 516, 517, 832, 833] (by decide +kernel)
set_option maxRecDepth 20000 in
theorem tgd_r23 : wsL_law_r23.all goodWord = true := by decide +kernel
set_option maxRecDepth 20000 in
theorem tin_r24 : ∀ w ∈ wsL_law_r24, w ∈ lw_tbl := mem_pl [834, 835, 836, 838, 56, 839, 840, 842, 57, 843, 844, 846, 58, 847, 848, 850, 59, 851, 852, 854, 60, 855, 518, 519] (by decide +kernel)
set_option maxRecDepth 20000 in
theorem tgd_r24 : wsL_law_r24.all goodWord = true := by decide +kernel
set_option maxRecDepth 20000 in
theorem tin_r25 : ∀ w ∈ wsL_law_r25, w ∈ lw_tbl := mem_pl [520, 521, 100, 522, 856, 857, 858, 859, 523, 524, 525, 526, 860, 861, 862, 863, 527, 528, 529, 530, 531, 532, 533, 534] (by decide +kernel)
set_option maxRecDepth 20000 in
theorem tgd_r25 : wsL_law_r25.all goodWord = true := by decide +kernel
set_option maxRecDepth 20000 in
theorem tin_r26 : ∀ w ∈ wsL_law_r26, w ∈ lw_tbl := mem_pl [535, 536, 537, 864, 865, 866, 867, 868, 538, 539, 540, 541, 869, 870, 871, 872, 542, 543, 544, 545, 546, 548, 22, 549] (by decide +kernel)
set_option maxRecDepth 20000 in
theorem tgd_r26 : wsL_law_r26.all goodWord = true := by decide +kernel
set_option maxRecDepth 20000 in
theorem tin_r27 : ∀ w ∈ wsL_law_r27, w ∈ lw_tbl := mem_pl [550, 551, 552, 553, 172, 554, 555, 556, 557, 558, 560, 23, 561, 562, 563, 564, 565, 175, 566, 568, 24, 569, 173, 570] (by decide +kernel)
set_option maxRecDepth 20000 in
theorem tgd_r27 : wsL_law_r27.all goodWord = true := by decide +kernel
set_option maxRecDepth 20000 in
theorem tin_r28 : ∀ w ∈ wsL_law_r28, w ∈ lw_tbl := mem_pl [572, 25, 573, 574, 576, 26, 577, 578, 580, 27, 581, 582, 584, 28, 585, 177, 586, 873, 874, 875, 876, 877, 879, 61] (by decide +kernel)
set_option maxRecDepth 20000 in
theorem tgd_r28 : wsL_law_r28.all goodWord = true := by decide +kernel
set_option maxRecDepth 20000 in
theorem tin_r29 : ∀ w ∈ wsL_law_r29, w ∈ lw_tbl := mem_pl [880, 629, 628, 630, 881, 883, 62, 884, 885, 887, 63, 888, 889, 891, 64, 892, 893, 895, 65, 896, 897, 899, 66, 900] (by decide +kernel)
set_option maxRecDepth 20000 in
theorem tgd_r29 : wsL_law_r29.all goodWord = true := by decide +kernel
set_option maxRecDepth 20000 in
theorem tin_r30 : ∀ w ∈ wsL_law_r30, w ∈ lw_tbl := mem_pl [901, 903, 67, 904, 587, 588, 589, 590, 591, 593, 29, 594, 595, 597, 30, 598, 176, 174, 178, 905, 906, 907, 908, 909] (by decide +kernel)
set_option maxRecDepth 20000 in
theorem tgd_r30 : wsL_law_r30.all goodWord = true := by decide +kernel
set_option maxRecDepth 20000 in
theorem tin_r31 : ∀ w ∈ wsL_law_r31, w ∈ lw_tbl := mem_pl [911, 68, 912, 913, 914, 915, 916, 917, 918, 919, 599, 600, 601, 602, 920, 921, 922, 923, 603, 604, 605, 606, 195, 121] (by decide +kernel)
set_option maxRecDepth 20000 in
theorem tgd_r31 : wsL_law_r31.all goodWord = true := by decide +kernel
set_option maxRecDepth 20000 in
theorem tin_r32 : ∀ w ∈ wsL_law_r32, w ∈ lw_tbl := mem_pl [924, 925, 926, 927, 607, 608, 609, 610, 611, 928, 929, 930, 931] (by decide +kernel)
set_option maxRecDepth 20000 in
theorem tgd_r32 : wsL_law_r32.all goodWord = true := by decide +kernel
set_option maxRecDepth 20000 in
theorem tin_wsX30 : ∀ w ∈ wsX30, w ∈ lw_tbl := mem_pl [199, 201, 203, 205, 207, 209, 211, 213, 215, 217] (by decide +kernel)
set_option maxRecDepth 20000 in
theorem tgd_wsX30 : wsX30.all goodWord = true := by decide +kernel
set_option maxRecDepth 20000 in
theorem tin_wsX40 : ∀ w ∈ wsX40, w ∈ lw_tbl := mem_pl [631, 633, 635, 637, 639, 641, 643, 645, 647, 649, 651, 653, 655] (by decide +kernel)
set_option maxRecDepth 20000 in
theorem tgd_wsX40 : wsX40.all goodWord = true := by decide +kernel
set_option maxRecDepth 20000 in
theorem tin_wsX20 : ∀ w ∈ wsX20, w ∈ lw_tbl := mem_pl [136, 138, 140, 142, 144, 146, 148, 150, 152, 154, 156, 158, 160, 162] (by decide +kernel)
set_option maxRecDepth 20000 in
theorem tgd_wsX20 : wsX20.all goodWord = true := by decide +kernel
set_option maxRecDepth 20000 in
theorem tin_wsX00 : ∀ w ∈ wsX00, w ∈ lw_tbl := mem_pl [179, 181, 183, 185] (by decide +kernel)
set_option maxRecDepth 20000 in
theorem tgd_wsX00 : wsX00.all goodWord = true := by decide +kernel
set_option maxRecDepth 20000 in
theorem tin_wsX10 : ∀ w ∈ wsX10, w ∈ lw_tbl := mem_pl [108, 110, 112, 114, 116] (by decide +kernel)
set_option maxRecDepth 20000 in
theorem tgd_wsX10 : wsX10.all goodWord = true := by decide +kernel
abbrev GW : List Cond := wsL_law
theorem GW_in : ∀ w ∈ GW, w ∈ lw_tbl := List.forall_mem_append.mpr ⟨List.forall_mem_append.mpr ⟨List.forall_mem_append.mpr ⟨List.forall_mem_append.mpr ⟨List.forall_mem_append.mpr ⟨List.forall_mem_append.mpr ⟨List.forall_mem_append.mpr ⟨tin_r1, List.forall_mem_append.mpr ⟨tin_r2, List.forall_mem_append.mpr ⟨tin_r3, List.forall_mem_append.mpr ⟨tin_r4, List.forall_mem_append.mpr ⟨tin_r5, List.forall_mem_append.mpr ⟨tin_r6, List.forall_mem_append.mpr ⟨tin_r7, List.forall_mem_append.mpr ⟨tin_r8, List.forall_mem_append.mpr ⟨tin_r9, List.forall_mem_append.mpr ⟨tin_r10, List.forall_mem_append.mpr ⟨tin_r11, List.forall_mem_append.mpr ⟨tin_r12, List.forall_mem_append.mpr ⟨tin_r13, List.forall_mem_append.mpr ⟨tin_r14, List.forall_mem_append.mpr ⟨tin_r15, List.forall_mem_append.mpr ⟨tin_r16, List.forall_mem_append.mpr ⟨tin_r17, List.forall_mem_append.mpr ⟨tin_r18, List.forall_mem_append.mpr ⟨tin_r19, List.forall_mem_append.mpr ⟨tin_r20, List.forall_mem_append.mpr ⟨tin_r21, List.forall_mem_append.mpr ⟨tin_r22, List.forall_mem_append.mpr ⟨tin_r23, List.forall_mem_append.mpr ⟨tin_r24, List.forall_mem_append.mpr ⟨tin_r25, List.forall_mem_append.mpr ⟨tin_r26, List.forall_mem_append.mpr ⟨tin_r27, List.forall_mem_append.mpr ⟨tin_r28, List.forall_mem_append.mpr ⟨tin_r29, List.forall_mem_append.mpr ⟨tin_r30, List.forall_mem_append.mpr ⟨tin_r31, tin_r32⟩⟩⟩⟩⟩⟩⟩⟩⟩⟩⟩⟩⟩⟩⟩⟩⟩⟩⟩⟩⟩⟩⟩⟩⟩⟩⟩⟩⟩⟩⟩, tin_wsX30⟩, tin_wsX40⟩, tin_wsX20⟩, tin_wsX00⟩, tin_wsX10⟩, fun _ h => absurd h List.not_mem_nil⟩
theorem all_app {a b : List Cond} (ha : a.all goodWord = true) (hb : b.all goodWord = true) : (a ++ b).all goodWord = true := by rw [List.all_append, ha, hb]; rfl
theorem GW_gd : GW.all goodWord = true := all_app (all_app (all_app (all_app (all_app (all_app (all_app (tgd_r1) (all_app (tgd_r2) (all_app (tgd_r3) (all_app (tgd_r4) (all_app (tgd_r5) (all_app (tgd_r6) (all_app (tgd_r7) (all_app (tgd_r8) (all_app (tgd_r9) (all_app (tgd_r10) (all_app (tgd_r11) (all_app (tgd_r12) (all_app (tgd_r13) (all_app (tgd_r14) (all_app (tgd_r15) (all_app (tgd_r16) (all_app (tgd_r17) (all_app (tgd_r18) (all_app (tgd_r19) (all_app (tgd_r20) (all_app (tgd_r21) (all_app (tgd_r22) (all_app (tgd_r23) (all_app (tgd_r24) (all_app (tgd_r25) (all_app (tgd_r26) (all_app (tgd_r27) (all_app (tgd_r28) (all_app (tgd_r29) (all_app (tgd_r30) (all_app (tgd_r31) (tgd_r32)))))))))))))))))))))))))))))))) (tgd_wsX30)) (tgd_wsX40)) (tgd_wsX20)) (tgd_wsX00)) (tgd_wsX10)) rfl
theorem inG_r1 : ∀ w ∈ wsL_law_r1, w ∈ GW := fun _ h => List.mem_append_left _ (List.mem_append_left _ (List.mem_append_left _ (List.mem_append_left _ (List.mem_append_left _ (List.mem_append_left _ (List.mem_append_left _ h))))))
theorem inG_r2 : ∀ w ∈ wsL_law_r2, w ∈ GW := fun _ h => List.mem_append_left _ (List.mem_append_left _ (List.mem_append_left _ (List.mem_append_left _ (List.mem_append_left _ (List.mem_append_left _ (List.mem_append_right _ (List.mem_append_left _ h)))))))
theorem inG_r3 : ∀ w ∈ wsL_law_r3, w ∈ GW := fun _ h => List.mem_append_left _ (List.mem_append_left _ (List.mem_append_left _ (List.mem_append_left _ (List.mem_append_left _ (List.mem_append_left _ (List.mem_append_right _ (List.mem_append_right _ (List.mem_append_left _ h))))))))
theorem inG_r4 : ∀ w ∈ wsL_law_r4, w ∈ GW := fun _ h => List.mem_append_left _ (List.mem_append_left _ (List.mem_append_left _ (List.mem_append_left _ (List.mem_append_left _ (List.mem_append_left _ (List.mem_append_right _ (List.mem_append_right _ (List.mem_append_right _ (List.mem_append_left _ h)))))))))
theorem inG_r5 : ∀ w ∈ wsL_law_r5, w ∈ GW := fun _ h => List.mem_append_left _ (List.mem_append_left _ (List.mem_append_left _ (List.mem_append_left _ (List.mem_append_left _ (List.mem_append_left _ (List.mem_append_right _ (List.mem_append_right _ (List.mem_append_right _ (List.mem_append_right _ (List.mem_append_left _ h))))))))))
theorem inG_r6 : ∀ w ∈ wsL_law_r6, w ∈ GW := fun _ h => List.mem_append_left _ (List.mem_append_left _ (List.mem_append_left _ (List.mem_append_left _ (List.mem_append_left _ (List.mem_append_left _ (List.mem_append_right _ (List.mem_append_right _ (List.mem_append_right _ (List.mem_append_right _ (List.mem_append_right _ (List.mem_append_left _ h)))))))))))
theorem inG_r7 : ∀ w ∈ wsL_law_r7, w ∈ GW := fun _ h => List.mem_append_left _ (List.mem_append_left _ (List.mem_append_left _ (List.mem_append_left _ (List.mem_append_left _ (List.mem_append_left _ (List.mem_append_right _ (List.mem_append_right _ (List.mem_append_right _ (List.mem_append_right _ (List.mem_append_right _ (List.mem_append_right _ (List.mem_append_left _ h))))))))))))
theorem inG_r8 : ∀ w ∈ wsL_law_r8, w ∈ GW := fun _ h => List.mem_append_left _ (List.mem_append_left _ (List.mem_append_left _ (List.mem_append_left _ (List.mem_append_left _ (List.mem_append_left _ (List.mem_append_right _ (List.mem_append_right _ (List.mem_append_right _ (List.mem_append_right _ (List.mem_append_right _ (List.mem_append_right _ (List.mem_append_right _ (List.mem_append_left _ h)))))))))))))
theorem inG_r9 : ∀ w ∈ wsL_law_r9, w ∈ GW := fun _ h => List.mem_append_left _ (List.mem_append_left _ (List.mem_append_left _ (List.mem_append_left _ (List.mem_append_left _ (List.mem_append_left _ (List.mem_append_right _ (List.mem_append_right _ (List.mem_append_right _ (List.mem_append_right _ (List.mem_append_right _ (List.mem_append_right _ (List.mem_append_right _ (List.mem_append_right _ (List.mem_append_left _ h))))))))))))))
theorem inG_r10 : ∀ w ∈ wsL_law_r10, w ∈ GW := fun _ h => List.mem_append_left _ (List.mem_append_left _ (List.mem_append_left _ (List.mem_append_left _ (List.mem_append_left _ (List.mem_append_left _ (List.mem_append_right _ (List.mem_append_right _ (List.mem_append_right _ (List.mem_append_right _ (List.mem_append_right _ (List.mem_append_right _ (List.mem_append_right _ (List.mem_append_right _ (List.mem_append_right _ (List.mem_append_left _ h)))))))))))))))
theorem inG_r11 : ∀ w ∈ wsL_law_r11, w ∈ GW := fun _ h => List.mem_append_left _ (List.mem_append_left _ (List.mem_append_left _ (List.mem_append_left _ (List.mem_append_left _ (List.mem_append_left _ (List.mem_append_right _ (List.mem_append_right _ (List.mem_append_right _ (List.mem_append_right _ (List.mem_append_right _ (List.mem_append_right _ (List.mem_append_right _ (List.mem_append_right _ (List.mem_append_right _ (List.mem_append_right _ (List.mem_append_left _ h))))))))))))))))
theorem inG_r12 : ∀ w ∈ wsL_law_r12, w ∈ GW := fun _ h => List.mem_append_left _ (List.mem_append_left _ (List.mem_append_left _ (List.mem_append_left _ (List.mem_append_left _ (List.mem_append_left _ (List.mem_append_right _ (List.mem_append_right _ (List.mem_append_right _ (List.mem_append_right _ (List.mem_append_right _ (List.mem_append_right _ (List.mem_append_right _ (List.mem_append_right _ (List.mem_append_right _ (List.mem_append_right _ (List.mem_append_right _ (List.mem_append_left _ h)))))))))))))))))
theorem inG_r13 : ∀ w ∈ wsL_law_r13, w ∈ GW := fun _ h => List.mem_append_left _ (List.mem_append_left _ (List.mem_append_left _ (List.mem_append_left _ (List.mem_append_left _ (List.mem_append_left _ (List.mem_append_right _ (List.mem_append_right _ (List.mem_append_right _ (List.mem_append_right _ (List.mem_append_right _ (List.mem_append_right _ (List.mem_append_right _ (List.mem_append_right _ (List.mem_append_right _ (List.mem_append_right _ (List.mem_append_right _ (List.mem_append_right _ (List.mem_append_left _ h))))))))))))))))))
theorem inG_r14 : ∀ w ∈ wsL_law_r14, w ∈ GW := fun _ h => List.mem_append_left _ (List.mem_append_left _ (List.mem_append_left _ (List.mem_append_left _ (List.mem_append_left _ (List.mem_append_left _ (List.mem_append_right _ (List.mem_append_right _ (List.mem_append_right _ (List.mem_append_right _ (List.mem_append_right _ (List.mem_append_right _ (List.mem_append_right _ (List.mem_append_right _ (List.mem_append_right _ (List.mem_append_right _ (List.mem_append_right _ (List.mem_append_right _ (List.mem_append_right _ (List.mem_append_left _ h)))))))))))))))))))
theorem inG_r15 : ∀ w ∈ wsL_law_r15, w ∈ GW := fun _ h => List.mem_append_left _ (List.mem_append_left _ (List.mem_append_left _ (List.mem_append_left _ (List.mem_append_left _ (List.mem_append_left _ (List.mem_append_right _ (List.mem_append_right _ (List.mem_append_right _ (List.mem_append_right _ (List.mem_append_right _ (List.mem_append_right _ (List.mem_append_right _ (List.mem_append_right _ (List.mem_append_right _ (List.mem_append_right _ (List.mem_append_right _ (List.mem_append_right _ (List.mem_append_right _ (List.mem_append_right _ (List.mem_append_left _ h))))))))))))))))))))
theorem inG_r16 : ∀ w ∈ wsL_law_r16, w ∈ GW := fun _ h => List.mem_append_left _ (List.mem_append_left _ (List.mem_append_left _ (List.mem_append_left _ (List.mem_append_left _ (List.mem_append_left _ (List.mem_append_right _ (List.mem_append_right _ (List.mem_append_right _ (List.mem_append_right _ (List.mem_append_right _ (List.mem_append_right _ (List.mem_append_right _ (List.mem_append_right _ (List.mem_append_right _ (List.mem_append_right _ (List.mem_append_right _ (List.mem_append_right _ (List.mem_append_right _ (List.mem_append_right _ (List.mem_append_right _ (List.mem_append_left _ h)))))))))))))))))))))
theorem inG_r17 : ∀ w ∈ wsL_law_r17, w ∈ GW := fun _ h => List.mem_append_left _ (List.mem_append_left _ (List.mem_append_left _ (List.mem_append_left _ (List.mem_append_left _ (List.mem_append_left _ (List.mem_append_right _ (List.mem_append_right _ (List.mem_append_right _ (List.mem_append_right _ (List.mem_append_right _ (List.mem_append_right _ (List.mem_append_right _ (List.mem_append_right _ (List.mem_append_right _ (List.mem_append_right _ (List.mem_append_right _ (List.mem_append_right _ (List.mem_append_right _ (List.mem_append_right _ (List.mem_append_right _ (List.mem_append_right _ (List.mem_append_left _ h))))))))))))))))))))))
theorem inG_r18 : ∀ w ∈ wsL_law_r18, w ∈ GW := fun _ h => List.mem_append_left _ (List.mem_append_left _ (List.mem_append_left _ (List.mem_append_left _ (List.mem_append_left _ (List.mem_append_left _ (List.mem_append_right _ (List.mem_append_right _ (List.mem_append_right _ (List.mem_append_right _ (List.mem_append_right _ (List.mem_append_right _ (List.mem_append_right _ (List.mem_append_right _ (List.mem_append_right _ (List.mem_append_right _ (List.mem_append_right _ (List.mem_append_right _ (List.mem_append_right _ (List.mem_append_right _ (List.mem_append_right _ (List.mem_append_right _ (List.mem_append_right _ (List.mem_append_left _ h)))))))))))))))))))))))
theorem inG_r19 : ∀ w ∈ wsL_law_r19, w ∈ GW := fun _ h => List.mem_append_left _ (List.mem_append_left _ (List.mem_append_left _ (List.mem_append_left _ (List.mem_append_left _ (List.mem_append_left _ (List.mem_append_right _ (List.mem_append_right _ (List.mem_append_right _ (List.mem_append_right _ (List.mem_append_right _ (List.mem_append_right _ (List.mem_append_right _ (List.mem_append_right _ (List.mem_append_right _ (List.mem_append_right _ (List.mem_append_right _ (List.mem_append_right _ (List.mem_append_right _ (List.mem_append_right _ (List.mem_append_right _ (List.mem_append_right _ (List.mem_append_right _ (List.mem_append_right _ (List.mem_append_left _ h))))))))))))))))))))))))
theorem inG_r20 : ∀ w ∈ wsL_law_r20, w ∈ GW := fun _ h => List.mem_append_left _ (List.mem_append_left _ (List.mem_append_left _ (List.mem_append_left _ (List.mem_append_left _ (List.mem_append_left _ (List.mem_append_right _ (List.mem_append_right _ (List.mem_append_right _ (List.mem_append_right _ (List.mem_append_right _ (List.mem_append_right _ (List.mem_append_right _ (List.mem_append_right _ (List.mem_append_right _ (List.mem_append_right _ (List.mem_append_right _ (List.mem_append_right _ (List.mem_append_right _ (List.mem_append_right _ (List.mem_append_right _ (List.mem_append_right _ (List.mem_append_right _ (List.mem_append_right _ (List.mem_append_right _ (List.mem_append_left _ h)))))))))))))))))))))))))
theorem inG_r21 : ∀ w ∈ wsL_law_r21, w ∈ GW := fun _ h => List.mem_append_left _ (List.mem_append_left _ (List.mem_append_left _ (List.mem_append_left _ (List.mem_append_left _ (List.mem_append_left _ (List.mem_append_right _ (List.mem_append_right _ (List.mem_append_right _ (List.mem_append_right _ (List.mem_append_right _ (List.mem_append_right _ (List.mem_append_right _ (List.mem_append_right _ (List.mem_append_right _ (List.mem_append_right _ (List.mem_append_right _ (List.mem_append_right _ (List.mem_append_right _ (List.mem_append_right _ (List.mem_append_right _ (List.mem_append_right _ (List.mem_append_right _ (List.mem_append_right _ (List.mem_append_right _ (List.mem_append_right _ (List.mem_append_left _ h))))))))))))))))))))))))))
theorem inG_r22 : ∀ w ∈ wsL_law_r22, w ∈ GW := fun _ h => List.mem_append_left _ (List.mem_append_left _ (List.mem_append_left _ (List.mem_append_left _ (List.mem_append_left _ (List.mem_append_left _ (List.mem_append_right _ (List.mem_append_right _ (List.mem_append_right _ (List.mem_append_right _ (List.mem_append_right _ (List.mem_append_right _ (List.mem_append_right _ (List.mem_append_right _ (List.mem_append_right _ (List.mem_append_right _ (List.mem_append_right _ (List.mem_append_right _ (List.mem_append_right _ (List.mem_append_right _ (List.mem_append_right _ (List.mem_append_right _ (List.mem_append_right _ (List.mem_append_right _ (List.mem_append_right _ (List.mem_append_right _ (List.mem_append_right _ (List.mem_append_left _ h)))))))))))))))))))))))))))
theorem inG_r23 : ∀ w ∈ wsL_law_r23, w ∈ GW := fun _ h => List.mem_append_left _ (List.mem_append_left _ (List.mem_append_left _ (List.mem_append_left _ (List.mem_append_left _ (List.mem_append_left _ (List.mem_append_right _ (List.mem_append_right _ (List.mem_append_right _ (List.mem_append_right _ (List.mem_append_right _ (List.mem_append_right _ (List.mem_append_right _ (List.mem_append_right _ (List.mem_append_right _ (List.mem_append_right _ (List.mem_append_right _ (List.mem_append_right _ (List.mem_append_right _ (List.mem_append_right _ (List.mem_append_right _ (List.mem_append_right _ (List.mem_append_right _ (List.mem_append_right _ (List.mem_append_right _ (List.mem_append_right _ (List.mem_append_right _ (List.mem_append_right _ (List.mem_append_left _ h))))))))))))))))))))))))))))
theorem inG_r24 : ∀ w ∈ wsL_law_r24, w ∈ GW := fun _ h => List.mem_append_left _ (List.mem_append_left _ (List.mem_append_left _ (List.mem_append_left _ (List.mem_append_left _ (List.mem_append_left _ (List.mem_append_right _ (List.mem_append_right _ (List.mem_append_right _ (List.mem_append_right _ (List.mem_append_right _ (List.mem_append_right _ (List.mem_append_right _ (List.mem_append_right _ (List.mem_append_right _ (List.mem_append_right _ (List.mem_append_right _ (List.mem_append_right _ (List.mem_append_right _ (List.mem_append_right _ (List.mem_append_right _ (List.mem_append_right _ (List.mem_append_right _ (List.mem_append_right _ (List.mem_append_right _ (List.mem_append_right _ (List.mem_append_right _ (List.mem_append_right _ (List.mem_append_right _ (List.mem_append_left _ h)))))))))))))))))))))))))))))
theorem inG_r25 : ∀ w ∈ wsL_law_r25, w ∈ GW := fun _ h => List.mem_append_left _ (List.mem_append_left _ (List.mem_append_left _ (List.mem_append_left _ (List.mem_append_left _ (List.mem_append_left _ (List.mem_append_right _ (List.mem_append_right _ (List.mem_append_right _ (List.mem_append_right _ (List.mem_append_right _ (List.mem_append_right _ (List.mem_append_right _ (List.mem_append_right _ (List.mem_append_right _ (List.mem_append_right _ (List.mem_append_right _ (List.mem_append_right _ (List.mem_append_right _ (List.mem_append_right _ (List.mem_append_right _ (List.mem_append_right _ (List.mem_append_right _ (List.mem_append_right _ (List.mem_append_right _ (List.mem_append_right _ (List.mem_append_right _ (List.mem_append_right _ (List.mem_append_right _ (List.mem_append_right _ (List.mem_append_left _ h))))))))))))))))))))))))))))))
theorem inG_r26 : ∀ w ∈ wsL_law_r26, w ∈ GW := fun _ h => List.mem_append_left _ (List.mem_append_left _ (List.mem_append_left _ (List.mem_append_left _ (List.mem_append_left _ (List.mem_append_left _ (List.mem_append_right _ (List.mem_append_right _ (List.mem_append_right _ (List.mem_append_right _ (List.mem_append_right _ (List.mem_append_right _ (List.mem_append_right _ (List.mem_append_right _ (List.mem_append_right _ (List.mem_append_right _ (List.mem_append_right _ (List.mem_append_right _ (List.mem_append_right _ (List.mem_append_right _ (List.mem_append_right _ (List.mem_append_right _ (List.mem_append_right _ (List.mem_append_right _ (List.mem_append_right _ (List.mem_append_right _ (List.mem_append_right _ (List.mem_append_right _ (List.mem_append_right _ (List.mem_append_right _ (List.mem_append_right _ (List.mem_append_left _ h)))))))))))))))))))))))))))))))
theorem inG_r27 : ∀ w ∈ wsL_law_r27, w ∈ GW := fun _ h => List.mem_append_left _ (List.mem_append_left _ (List.mem_append_left _ (List.mem_append_left _ (List.mem_append_left _ (List.mem_append_left _ (List.mem_append_right _ (List.mem_append_right _ (List.mem_append_right _ (List.mem_append_right _ (List.mem_append_right _ (List.mem_append_right _ (List.mem_append_right _ (List.mem_append_right _ (List.mem_append_right _ (List.mem_append_right _ (List.mem_append_right _ (List.mem_append_right _ (List.mem_append_right _ (List.mem_append_right _ (List.mem_append_right _ (List.mem_append_right _ (List.mem_append_right _ (List.mem_append_right _ (List.mem_append_right _ (List.mem_append_right _ (List.mem_append_right _ (List.mem_append_right _ (List.mem_append_right _ (List.mem_append_right _ (List.mem_append_right _ (List.mem_append_right _ (List.mem_append_left _ h))))))))))))))))))))))))))))))))
theorem inG_r28 : ∀ w ∈ wsL_law_r28, w ∈ GW := fun _ h => List.mem_append_left _ (List.mem_append_left _ (List.mem_append_left _ (List.mem_append_left _ (List.mem_append_left _ (List.mem_append_left _ (List.mem_append_right _ (List.mem_append_right _ (List.mem_append_right _ (List.mem_append_right _ (List.mem_append_right _ (List.mem_append_right _ (List.mem_append_right _ (List.mem_append_right _ (List.mem_append_right _ (List.mem_append_right _ (List.mem_append_right _ (List.mem_append_right _ (List.mem_append_right _ (List.mem_append_right _ (List.mem_append_right _ (List.mem_append_right _ (List.mem_append_right _ (List.mem_append_right _ (List.mem_append_right _ (List.mem_append_right _ (List.mem_append_right _ (List.mem_append_right _ (List.mem_append_right _ (List.mem_append_right _ (List.mem_append_right _ (List.mem_append_right _ (List.mem_append_right _ (List.mem_append_left _ h)))))))))))))))))))))))))))))))))
theorem inG_r29 : ∀ w ∈ wsL_law_r29, w ∈ GW := fun _ h => List.mem_append_left _ (List.mem_append_left _ (List.mem_append_left _ (List.mem_append_left _ (List.mem_append_left _ (List.mem_append_left _ (List.mem_append_right _ (List.mem_append_right _ (List.mem_append_right _ (List.mem_append_right _ (List.mem_append_right _ (List.mem_append_right _ (List.mem_append_right _ (List.mem_append_right _ (List.mem_append_right _ (List.mem_append_right _ (List.mem_append_right _ (List.mem_append_right _ (List.mem_append_right _ (List.mem_append_right _ (List.mem_append_right _ (List.mem_append_right _ (List.mem_append_right _ (List.mem_append_right _ (List.mem_append_right _ (List.mem_append_right _ (List.mem_append_right _ (List.mem_append_right _ (List.mem_append_right _ (List.mem_append_right _ (List.mem_append_right _ (List.mem_append_right _ (List.mem_append_right _ (List.mem_append_right _ (List.mem_append_left _ h))))))))))))))))))))))))))))))))))
theorem inG_r30 : ∀ w ∈ wsL_law_r30, w ∈ GW := fun _ h => List.mem_append_left _ (List.mem_append_left _ (List.mem_append_left _ (List.mem_append_left _ (List.mem_append_left _ (List.mem_append_left _ (List.mem_append_right _ (List.mem_append_right _ (List.mem_append_right _ (List.mem_append_right _ (List.mem_append_right _ (List.mem_append_right _ (List.mem_append_right _ (List.mem_append_right _ (List.mem_append_right _ (List.mem_append_right _ (List.mem_append_right _ (List.mem_append_right _ (List.mem_append_right _ (List.mem_append_right _ (List.mem_append_right _ (List.mem_append_right _ (List.mem_append_right _ (List.mem_append_right _ (List.mem_append_right _ (List.mem_append_right _ (List.mem_append_right _ (List.mem_append_right _ (List.mem_append_right _ (List.mem_append_right _ (List.mem_append_right _ (List.mem_append_right _ (List.mem_append_right _ (List.mem_append_right _ (List.mem_append_right _ (List.mem_append_left _ h)))))))))))))))))))))))))))))))))))
theorem inG_r31 : ∀ w ∈ wsL_law_r31, w ∈ GW := fun _ h => List.mem_append_left _ (List.mem_append_left _ (List.mem_append_left _ (List.mem_append_left _ (List.mem_append_left _ (List.mem_append_left _ (List.mem_append_right _ (List.mem_append_right _ (List.mem_append_right _ (List.mem_append_right _ (List.mem_append_right _ (List.mem_append_right _ (List.mem_append_right _ (List.mem_append_right _ (List.mem_append_right _ (List.mem_append_right _ (List.mem_append_right _ (List.mem_append_right _ (List.mem_append_right _ (List.mem_append_right _ (List.mem_append_right _ (List.mem_append_right _ (List.mem_append_right _ (List.mem_append_right _ (List.mem_append_right _ (List.mem_append_right _ (List.mem_append_right _ (List.mem_append_right _ (List.mem_append_right _ (List.mem_append_right _ (List.mem_append_right _ (List.mem_append_right _ (List.mem_append_right _ (List.mem_append_right _ (List.mem_append_right _ (List.mem_append_right _ (List.mem_append_left _ h))))))))))))))))))))))))))))))))))))
theorem inG_r32 : ∀ w ∈ wsL_law_r32, w ∈ GW := fun _ h => List.mem_append_left _ (List.mem_append_left _ (List.mem_append_left _ (List.mem_append_left _ (List.mem_append_left _ (List.mem_append_left _ (List.mem_append_right _ (List.mem_append_right _ (List.mem_append_right _ (List.mem_append_right _ (List.mem_append_right _ (List.mem_append_right _ (List.mem_append_right _ (List.mem_append_right _ (List.mem_append_right _ (List.mem_append_right _ (List.mem_append_right _ (List.mem_append_right _ (List.mem_append_right _ (List.mem_append_right _ (List.mem_append_right _ (List.mem_append_right _ (List.mem_append_right _ (List.mem_append_right _ (List.mem_append_right _ (List.mem_append_right _ (List.mem_append_right _ (List.mem_append_right _ (List.mem_append_right _ (List.mem_append_right _ (List.mem_append_right _ (List.mem_append_right _ (List.mem_append_right _ (List.mem_append_right _ (List.mem_append_right _ (List.mem_append_right _ (List.mem_append_right _ h))))))))))))))))))))))))))))))))))))
theorem mw_1_0 : Cond.classLink RL 7 RX3 ∈ GW := inG_r1 _ (List.mem_of_getElem? (i := 0) rfl)
theorem mw_1_1 : Cond.instantiable RX3 10 ∈ GW := inG_r1 _ (List.mem_of_getElem? (i := 1) rfl)
theorem mw_1_2 : Cond.initialized RX3 ∈ GW := inG_r1 _ (List.mem_of_getElem? (i := 2) rfl)
theorem mw_1_3 : Cond.classLink RL 10 RX4 ∈ GW := inG_r1 _ (List.mem_of_getElem? (i := 3) rfl)
theorem mw_1_4 : Cond.instantiable RX4 13 ∈ GW := inG_r1 _ (List.mem_of_getElem? (i := 4) rfl)
theorem mw_1_5 : Cond.initialized RX4 ∈ GW := inG_r1 _ (List.mem_of_getElem? (i := 5) rfl)
theorem mw_1_6 : Cond.constantLong RL 91 (4294967295) ∈ GW := inG_r1 _ (List.mem_of_getElem? (i := 6) rfl)
theorem mw_1_7 : Cond.methodLink RL 9 yX3_init ∈ GW := inG_r1 _ (List.mem_of_getElem? (i := 7) rfl)
theorem mw_1_8 : Cond.instanceMethod yX3_init ∈ GW := inG_r1 _ (List.mem_of_getElem? (i := 8) rfl)
theorem mw_1_9 : Cond.code yX3_init cX3_init 2 none ∈ GW := inG_r1 _ (List.mem_of_getElem? (i := 9) rfl)
theorem mw_1_10 : Cond.methodLink RX3 1 objectInit ∈ GW := inG_r1 _ (List.mem_of_getElem? (i := 10) rfl)
theorem mw_1_11 : Cond.instanceMethod objectInit ∈ GW := inG_r1 _ (List.mem_of_getElem? (i := 11) rfl)
theorem mw_1_12 : Cond.code objectInit ⟨#[0xb1]⟩ 1 none ∈ GW := inG_r1 _ (List.mem_of_getElem? (i := 12) rfl)
theorem mw_1_13 : Cond.classLink RX3 7 RX2 ∈ GW := inG_r1 _ (List.mem_of_getElem? (i := 13) rfl)
theorem mw_1_14 : Cond.instantiable RX2 14 ∈ GW := inG_r1 _ (List.mem_of_getElem? (i := 14) rfl)
theorem mw_1_15 : Cond.initialized RX2 ∈ GW := inG_r1 _ (List.mem_of_getElem? (i := 15) rfl)
theorem mw_1_16 : Cond.fieldLink RX3 10 "ClerkVotes" "now" "LClerkVotes$State;" ∈ GW := inG_r1 _ (List.mem_of_getElem? (i := 16) rfl)
theorem mw_1_17 : Cond.fieldLink RX3 16 "ClerkVotes" "trial" "LClerkVotes$State;" ∈ GW := inG_r1 _ (List.mem_of_getElem? (i := 17) rfl)
theorem mw_1_18 : Cond.fieldLink RX3 19 "ClerkVotes" "history" "[LClerkVotes$State;" ∈ GW := inG_r1 _ (List.mem_of_getElem? (i := 18) rfl)
theorem mw_1_19 : Cond.fieldLink RX3 23 "ClerkVotes" "slots" "[LClerkVotes$State;" ∈ GW := inG_r1 _ (List.mem_of_getElem? (i := 19) rfl)
theorem mw_1_20 : Cond.arrayClass .char ∈ GW := inG_r1 _ (List.mem_of_getElem? (i := 20) rfl)
theorem mw_1_21 : Cond.fieldLink RX3 26 "ClerkVotes" "pad" "[C" ∈ GW := inG_r1 _ (List.mem_of_getElem? (i := 21) rfl)
theorem mw_1_22 : Cond.classLink RX3 30 RX0 ∈ GW := inG_r1 _ (List.mem_of_getElem? (i := 22) rfl)
theorem mw_1_23 : Cond.instantiable RX0 4 ∈ GW := inG_r1 _ (List.mem_of_getElem? (i := 23) rfl)
theorem mw_2_0 : Cond.initialized RX0 ∈ GW := inG_r2 _ (List.mem_of_getElem? (i := 0) rfl)
theorem mw_2_1 : Cond.fieldLink RX3 33 "ClerkVotes" "reader" "LClerkVotes$OrderReader;" ∈ GW := inG_r2 _ (List.mem_of_getElem? (i := 1) rfl)
theorem mw_2_2 : Cond.instanceMethod yX2_init ∈ GW := inG_r2 _ (List.mem_of_getElem? (i := 2) rfl)
theorem mw_2_3 : Cond.code yX2_init cX2_init 1 none ∈ GW := inG_r2 _ (List.mem_of_getElem? (i := 3) rfl)
theorem mw_2_4 : Cond.methodLink RX2 3 objectInit ∈ GW := inG_r2 _ (List.mem_of_getElem? (i := 4) rfl)
theorem mw_2_5 : Cond.arrayClass .int ∈ GW := inG_r2 _ (List.mem_of_getElem? (i := 5) rfl)
theorem mw_2_6 : Cond.fieldLink RX2 9 "ClerkVotes$State" "settings" "[I" ∈ GW := inG_r2 _ (List.mem_of_getElem? (i := 6) rfl)
theorem mw_2_7 : Cond.classLink RX2 15 RX1 ∈ GW := inG_r2 _ (List.mem_of_getElem? (i := 7) rfl)
theorem mw_2_8 : Cond.instantiable RX1 5 ∈ GW := inG_r2 _ (List.mem_of_getElem? (i := 8) rfl)
theorem mw_2_9 : Cond.initialized RX1 ∈ GW := inG_r2 _ (List.mem_of_getElem? (i := 9) rfl)
theorem mw_2_10 : Cond.fieldLink RX2 18 "ClerkVotes$State" "row" "LClerkVotes$Row;" ∈ GW := inG_r2 _ (List.mem_of_getElem? (i := 10) rfl)
theorem mw_2_11 : Cond.fieldLink RX2 22 "ClerkVotes$State" "clerksOf" "[I" ∈ GW := inG_r2 _ (List.mem_of_getElem? (i := 11) rfl)
theorem mw_2_12 : Cond.fieldLink RX2 25 "ClerkVotes$State" "forBetween" "[I" ∈ GW := inG_r2 _ (List.mem_of_getElem? (i := 12) rfl)
theorem mw_2_13 : Cond.fieldLink RX2 28 "ClerkVotes$State" "openedIn" "[I" ∈ GW := inG_r2 _ (List.mem_of_getElem? (i := 13) rfl)
theorem mw_2_14 : Cond.fieldLink RX2 31 "ClerkVotes$State" "postSince" "[I" ∈ GW := inG_r2 _ (List.mem_of_getElem? (i := 14) rfl)
theorem mw_2_15 : Cond.fieldLink RX2 34 "ClerkVotes$State" "votes" "[I" ∈ GW := inG_r2 _ (List.mem_of_getElem? (i := 15) rfl)
theorem mw_2_16 : Cond.fieldLink RX2 37 "ClerkVotes$State" "receipts" "[I" ∈ GW := inG_r2 _ (List.mem_of_getElem? (i := 16) rfl)
theorem mw_2_17 : Cond.fieldLink RX2 40 "ClerkVotes$State" "standing" "[I" ∈ GW := inG_r2 _ (List.mem_of_getElem? (i := 17) rfl)
theorem mw_2_18 : Cond.fieldLink RX2 43 "ClerkVotes$State" "readySince" "[I" ∈ GW := inG_r2 _ (List.mem_of_getElem? (i := 18) rfl)
theorem mw_2_19 : Cond.instanceMethod yX1_init ∈ GW := inG_r2 _ (List.mem_of_getElem? (i := 19) rfl)
theorem mw_2_20 : Cond.code yX1_init cX1_init 1 none ∈ GW := inG_r2 _ (List.mem_of_getElem? (i := 20) rfl)
theorem mw_2_21 : Cond.methodLink RX1 3 objectInit ∈ GW := inG_r2 _ (List.mem_of_getElem? (i := 21) rfl)
theorem mw_2_22 : Cond.fieldLink RX1 9 "ClerkVotes$Row" "parts" "[I" ∈ GW := inG_r2 _ (List.mem_of_getElem? (i := 22) rfl)
theorem mw_2_23 : Cond.fieldLink RX1 15 "ClerkVotes$Row" "deliveredTo" "[I" ∈ GW := inG_r2 _ (List.mem_of_getElem? (i := 23) rfl)
theorem mw_3_0 : Cond.fieldLink RX1 18 "ClerkVotes$Row" "sentBy" "[I" ∈ GW := inG_r3 _ (List.mem_of_getElem? (i := 0) rfl)
theorem mw_3_1 : Cond.instanceMethod yX0_init ∈ GW := inG_r3 _ (List.mem_of_getElem? (i := 1) rfl)
theorem mw_3_2 : Cond.code yX0_init cX0_init 1 none ∈ GW := inG_r3 _ (List.mem_of_getElem? (i := 2) rfl)
theorem mw_3_3 : Cond.methodLink RX0 3 objectInit ∈ GW := inG_r3 _ (List.mem_of_getElem? (i := 3) rfl)
theorem mw_3_4 : Cond.methodLink RL 12 yX4_init ∈ GW := inG_r3 _ (List.mem_of_getElem? (i := 4) rfl)
theorem mw_3_5 : Cond.instanceMethod yX4_init ∈ GW := inG_r3 _ (List.mem_of_getElem? (i := 5) rfl)
theorem mw_3_6 : Cond.code yX4_init cX4_init 2 none ∈ GW := inG_r3 _ (List.mem_of_getElem? (i := 6) rfl)
theorem mw_3_7 : Cond.methodLink RX4 1 objectInit ∈ GW := inG_r3 _ (List.mem_of_getElem? (i := 7) rfl)
theorem mw_3_8 : Cond.fieldLink RX4 7 "ClerkVotesModel" "now" "[I" ∈ GW := inG_r3 _ (List.mem_of_getElem? (i := 8) rfl)
theorem mw_3_9 : Cond.fieldLink RX4 13 "ClerkVotesModel" "kept" "[I" ∈ GW := inG_r3 _ (List.mem_of_getElem? (i := 9) rfl)
theorem mw_3_10 : Cond.fieldLink RX4 16 "ClerkVotesModel" "history" "[I" ∈ GW := inG_r3 _ (List.mem_of_getElem? (i := 10) rfl)
theorem mw_3_11 : Cond.fieldLink RX4 19 "ClerkVotesModel" "saved" "[I" ∈ GW := inG_r3 _ (List.mem_of_getElem? (i := 11) rfl)
theorem mw_3_12 : Cond.arrayClass .boolean ∈ GW := inG_r3 _ (List.mem_of_getElem? (i := 12) rfl)
theorem mw_3_13 : Cond.fieldLink RX4 22 "ClerkVotesModel" "isSaved" "[Z" ∈ GW := inG_r3 _ (List.mem_of_getElem? (i := 13) rfl)
theorem mw_3_14 : Cond.fieldLink RX4 26 "ClerkVotesModel" "pad" "[I" ∈ GW := inG_r3 _ (List.mem_of_getElem? (i := 14) rfl)
theorem mw_3_15 : Cond.fieldLink RX4 29 "ClerkVotesModel" "orders" "[I" ∈ GW := inG_r3 _ (List.mem_of_getElem? (i := 15) rfl)
theorem mw_3_16 : Cond.methodLink RL 13 yX3_set ∈ GW := inG_r3 _ (List.mem_of_getElem? (i := 16) rfl)
theorem mw_3_17 : Cond.instanceMethod yX3_set ∈ GW := inG_r3 _ (List.mem_of_getElem? (i := 17) rfl)
theorem mw_3_18 : Cond.selects RX3 yX3_set yX3_set ∈ GW := inG_r3 _ (List.mem_of_getElem? (i := 18) rfl)
theorem mw_3_19 : Cond.code yX3_set cX3_set 3 (some .int) ∈ GW := inG_r3 _ (List.mem_of_getElem? (i := 19) rfl)
theorem mw_3_20 : Cond.methodLink RX3 37 yX3_noteStateBefore ∈ GW := inG_r3 _ (List.mem_of_getElem? (i := 20) rfl)
theorem mw_3_21 : Cond.instanceMethod yX3_noteStateBefore ∈ GW := inG_r3 _ (List.mem_of_getElem? (i := 21) rfl)
theorem mw_3_22 : Cond.selects RX3 yX3_noteStateBefore yX3_noteStateBefore ∈ GW := inG_r3 _ (List.mem_of_getElem? (i := 22) rfl)
theorem mw_3_23 : Cond.code yX3_noteStateBefore cX3_noteStateBefore 1 none ∈ GW := inG_r3 _ (List.mem_of_getElem? (i := 23) rfl)
theorem mw_4_0 : Cond.fieldLink RX3 138 "ClerkVotes" "nextInHistory" "I" ∈ GW := inG_r4 _ (List.mem_of_getElem? (i := 0) rfl)
theorem mw_4_1 : Cond.methodLink RX3 110 yX2_copyFrom ∈ GW := inG_r4 _ (List.mem_of_getElem? (i := 1) rfl)
theorem mw_4_2 : Cond.instanceMethod yX2_copyFrom ∈ GW := inG_r4 _ (List.mem_of_getElem? (i := 2) rfl)
theorem mw_4_3 : Cond.selects RX2 yX2_copyFrom yX2_copyFrom ∈ GW := inG_r4 _ (List.mem_of_getElem? (i := 3) rfl)
theorem mw_4_4 : Cond.code yX2_copyFrom cX2_copyFrom 2 none ∈ GW := inG_r4 _ (List.mem_of_getElem? (i := 4) rfl)
theorem mw_4_5 : Cond.fieldLink RX2 46 "ClerkVotes$State" "tick" "I" ∈ GW := inG_r4 _ (List.mem_of_getElem? (i := 5) rfl)
theorem mw_4_6 : Cond.fieldLink RX2 50 "ClerkVotes$State" "illOnes" "I" ∈ GW := inG_r4 _ (List.mem_of_getElem? (i := 6) rfl)
theorem mw_4_7 : Cond.fieldLink RX2 53 "ClerkVotes$State" "unwillingOnes" "I" ∈ GW := inG_r4 _ (List.mem_of_getElem? (i := 7) rfl)
theorem mw_4_8 : Cond.fieldLink RX2 56 "ClerkVotes$State" "deals" "I" ∈ GW := inG_r4 _ (List.mem_of_getElem? (i := 8) rfl)
theorem mw_4_9 : Cond.methodLink RX2 59 arraycopyName ∈ GW := inG_r4 _ (List.mem_of_getElem? (i := 9) rfl)
theorem mw_4_10 : Cond.native arraycopyName ∈ GW := inG_r4 _ (List.mem_of_getElem? (i := 10) rfl)
theorem mw_4_11 : Cond.static arraycopyName ∈ GW := inG_r4 _ (List.mem_of_getElem? (i := 11) rfl)
theorem mw_4_12 : Cond.initialized "java/lang/System" ∈ GW := inG_r4 _ (List.mem_of_getElem? (i := 12) rfl)
theorem mw_4_13 : Cond.methodLink RX2 65 yX1_copyFrom ∈ GW := inG_r4 _ (List.mem_of_getElem? (i := 13) rfl)
theorem mw_4_14 : Cond.instanceMethod yX1_copyFrom ∈ GW := inG_r4 _ (List.mem_of_getElem? (i := 14) rfl)
theorem mw_4_15 : Cond.selects RX1 yX1_copyFrom yX1_copyFrom ∈ GW := inG_r4 _ (List.mem_of_getElem? (i := 15) rfl)
theorem mw_4_16 : Cond.code yX1_copyFrom cX1_copyFrom 2 none ∈ GW := inG_r4 _ (List.mem_of_getElem? (i := 16) rfl)
theorem mw_4_17 : Cond.fieldLink RX1 21 "ClerkVotes$Row" "length" "I" ∈ GW := inG_r4 _ (List.mem_of_getElem? (i := 17) rfl)
theorem mw_4_18 : Cond.fieldLink RX1 25 "ClerkVotes$Row" "lost" "I" ∈ GW := inG_r4 _ (List.mem_of_getElem? (i := 18) rfl)
theorem mw_4_19 : Cond.methodLink RX1 28 arraycopyName ∈ GW := inG_r4 _ (List.mem_of_getElem? (i := 19) rfl)
theorem mw_4_20 : Cond.methodLink RX3 40 yX2_changeSetting ∈ GW := inG_r4 _ (List.mem_of_getElem? (i := 20) rfl)
theorem mw_4_21 : Cond.instanceMethod yX2_changeSetting ∈ GW := inG_r4 _ (List.mem_of_getElem? (i := 21) rfl)
theorem mw_4_22 : Cond.selects RX2 yX2_changeSetting yX2_changeSetting ∈ GW := inG_r4 _ (List.mem_of_getElem? (i := 22) rfl)
theorem mw_4_23 : Cond.code yX2_changeSetting cX2_changeSetting 4 (some .int) ∈ GW := inG_r4 _ (List.mem_of_getElem? (i := 23) rfl)
theorem mw_5_0 : Cond.methodLink RX3 44 yX3_recorded ∈ GW := inG_r5 _ (List.mem_of_getElem? (i := 0) rfl)
theorem mw_5_1 : Cond.instanceMethod yX3_recorded ∈ GW := inG_r5 _ (List.mem_of_getElem? (i := 1) rfl)
theorem mw_5_2 : Cond.selects RX3 yX3_recorded yX3_recorded ∈ GW := inG_r5 _ (List.mem_of_getElem? (i := 2) rfl)
theorem mw_5_3 : Cond.code yX3_recorded cX3_recorded 2 (some .int) ∈ GW := inG_r5 _ (List.mem_of_getElem? (i := 3) rfl)
theorem mw_5_4 : Cond.fieldLink RX3 94 "ClerkVotes" "undoable" "I" ∈ GW := inG_r5 _ (List.mem_of_getElem? (i := 4) rfl)
theorem mw_5_5 : Cond.methodLink RX3 151 Lib.Math.min.name ∈ GW := inG_r5 _ (List.mem_of_getElem? (i := 5) rfl)
theorem mw_5_6 : Cond.static Lib.Math.min.name ∈ GW := inG_r5 _ (List.mem_of_getElem? (i := 6) rfl)
theorem mw_5_7 : Cond.initialized "java/lang/Math" ∈ GW := inG_r5 _ (List.mem_of_getElem? (i := 7) rfl)
theorem mw_5_8 : Cond.code Lib.Math.min.name Lib.Math.min.code 2 (some .int) ∈ GW := inG_r5 _ (List.mem_of_getElem? (i := 8) rfl)
theorem mw_5_9 : Cond.methodLink RL 17 yX4_set ∈ GW := inG_r5 _ (List.mem_of_getElem? (i := 9) rfl)
theorem mw_5_10 : Cond.instanceMethod yX4_set ∈ GW := inG_r5 _ (List.mem_of_getElem? (i := 10) rfl)
theorem mw_5_11 : Cond.selects RX4 yX4_set yX4_set ∈ GW := inG_r5 _ (List.mem_of_getElem? (i := 11) rfl)
theorem mw_5_12 : Cond.code yX4_set cX4_set 4 (some .int) ∈ GW := inG_r5 _ (List.mem_of_getElem? (i := 12) rfl)
theorem mw_5_13 : Cond.methodLink RX4 95 yX4_in ∈ GW := inG_r5 _ (List.mem_of_getElem? (i := 13) rfl)
theorem mw_5_14 : Cond.static yX4_in ∈ GW := inG_r5 _ (List.mem_of_getElem? (i := 14) rfl)
theorem mw_5_15 : Cond.code yX4_in cX4_in 3 (some .boolean) ∈ GW := inG_r5 _ (List.mem_of_getElem? (i := 15) rfl)
theorem mw_5_16 : Cond.methodLink RX4 99 yX4_record ∈ GW := inG_r5 _ (List.mem_of_getElem? (i := 16) rfl)
theorem mw_5_17 : Cond.instanceMethod yX4_record ∈ GW := inG_r5 _ (List.mem_of_getElem? (i := 17) rfl)
theorem mw_5_18 : Cond.selects RX4 yX4_record yX4_record ∈ GW := inG_r5 _ (List.mem_of_getElem? (i := 18) rfl)
theorem mw_5_19 : Cond.code yX4_record cX4_record 2 none ∈ GW := inG_r5 _ (List.mem_of_getElem? (i := 19) rfl)
theorem mw_5_20 : Cond.fieldLink RX4 32 "ClerkVotesModel" "isInText" "Z" ∈ GW := inG_r5 _ (List.mem_of_getElem? (i := 20) rfl)
theorem mw_5_21 : Cond.fieldLink RX4 36 "ClerkVotesModel" "undos" "I" ∈ GW := inG_r5 _ (List.mem_of_getElem? (i := 21) rfl)
theorem mw_5_22 : Cond.methodLink RL 18 yX3_willing ∈ GW := inG_r5 _ (List.mem_of_getElem? (i := 22) rfl)
theorem mw_5_23 : Cond.instanceMethod yX3_willing ∈ GW := inG_r5 _ (List.mem_of_getElem? (i := 23) rfl)
theorem mw_6_0 : Cond.selects RX3 yX3_willing yX3_willing ∈ GW := inG_r6 _ (List.mem_of_getElem? (i := 0) rfl)
theorem mw_6_1 : Cond.code yX3_willing cX3_willing 3 (some .int) ∈ GW := inG_r6 _ (List.mem_of_getElem? (i := 1) rfl)
theorem mw_6_2 : Cond.methodLink RX3 48 yX2_makeWilling ∈ GW := inG_r6 _ (List.mem_of_getElem? (i := 2) rfl)
theorem mw_6_3 : Cond.instanceMethod yX2_makeWilling ∈ GW := inG_r6 _ (List.mem_of_getElem? (i := 3) rfl)
theorem mw_6_4 : Cond.selects RX2 yX2_makeWilling yX2_makeWilling ∈ GW := inG_r6 _ (List.mem_of_getElem? (i := 4) rfl)
theorem mw_6_5 : Cond.code yX2_makeWilling cX2_makeWilling 4 (some .int) ∈ GW := inG_r6 _ (List.mem_of_getElem? (i := 5) rfl)
theorem mw_6_6 : Cond.methodLink RX2 83 yX2_isClerk ∈ GW := inG_r6 _ (List.mem_of_getElem? (i := 6) rfl)
theorem mw_6_7 : Cond.static yX2_isClerk ∈ GW := inG_r6 _ (List.mem_of_getElem? (i := 7) rfl)
theorem mw_6_8 : Cond.code yX2_isClerk cX2_isClerk 1 (some .boolean) ∈ GW := inG_r6 _ (List.mem_of_getElem? (i := 8) rfl)
theorem mw_6_9 : Cond.static yX3_isIn ∈ GW := inG_r6 _ (List.mem_of_getElem? (i := 9) rfl)
theorem mw_6_10 : Cond.code yX3_isIn cX3_isIn 2 (some .boolean) ∈ GW := inG_r6 _ (List.mem_of_getElem? (i := 10) rfl)
theorem mw_6_11 : Cond.methodLink RL 21 yX4_willing ∈ GW := inG_r6 _ (List.mem_of_getElem? (i := 11) rfl)
theorem mw_6_12 : Cond.instanceMethod yX4_willing ∈ GW := inG_r6 _ (List.mem_of_getElem? (i := 12) rfl)
theorem mw_6_13 : Cond.selects RX4 yX4_willing yX4_willing ∈ GW := inG_r6 _ (List.mem_of_getElem? (i := 13) rfl)
theorem mw_6_14 : Cond.code yX4_willing cX4_willing 4 (some .int) ∈ GW := inG_r6 _ (List.mem_of_getElem? (i := 14) rfl)
theorem mw_6_15 : Cond.methodLink RL 22 yX3_open ∈ GW := inG_r6 _ (List.mem_of_getElem? (i := 15) rfl)
theorem mw_6_16 : Cond.instanceMethod yX3_open ∈ GW := inG_r6 _ (List.mem_of_getElem? (i := 16) rfl)
theorem mw_6_17 : Cond.selects RX3 yX3_open yX3_open ∈ GW := inG_r6 _ (List.mem_of_getElem? (i := 17) rfl)
theorem mw_6_18 : Cond.code yX3_open cX3_open 2 (some .int) ∈ GW := inG_r6 _ (List.mem_of_getElem? (i := 18) rfl)
theorem mw_6_19 : Cond.methodLink RX3 51 yX2_openDeal ∈ GW := inG_r6 _ (List.mem_of_getElem? (i := 19) rfl)
theorem mw_6_20 : Cond.instanceMethod yX2_openDeal ∈ GW := inG_r6 _ (List.mem_of_getElem? (i := 20) rfl)
theorem mw_6_21 : Cond.selects RX2 yX2_openDeal yX2_openDeal ∈ GW := inG_r6 _ (List.mem_of_getElem? (i := 21) rfl)
theorem mw_6_22 : Cond.code yX2_openDeal cX2_openDeal 3 (some .int) ∈ GW := inG_r6 _ (List.mem_of_getElem? (i := 22) rfl)
theorem mw_6_23 : Cond.methodLink RX2 87 yX2_isIll ∈ GW := inG_r6 _ (List.mem_of_getElem? (i := 23) rfl)
theorem mw_7_0 : Cond.instanceMethod yX2_isIll ∈ GW := inG_r7 _ (List.mem_of_getElem? (i := 0) rfl)
theorem mw_7_1 : Cond.selects RX2 yX2_isIll yX2_isIll ∈ GW := inG_r7 _ (List.mem_of_getElem? (i := 1) rfl)
theorem mw_7_2 : Cond.code yX2_isIll cX2_isIll 2 (some .boolean) ∈ GW := inG_r7 _ (List.mem_of_getElem? (i := 2) rfl)
theorem mw_7_3 : Cond.methodLink RX2 90 yX2_sendToClerks ∈ GW := inG_r7 _ (List.mem_of_getElem? (i := 3) rfl)
theorem mw_7_4 : Cond.instanceMethod yX2_sendToClerks ∈ GW := inG_r7 _ (List.mem_of_getElem? (i := 4) rfl)
theorem mw_7_5 : Cond.selects RX2 yX2_sendToClerks yX2_sendToClerks ∈ GW := inG_r7 _ (List.mem_of_getElem? (i := 5) rfl)
theorem mw_7_6 : Cond.code yX2_sendToClerks cX2_sendToClerks 6 none ∈ GW := inG_r7 _ (List.mem_of_getElem? (i := 6) rfl)
theorem mw_7_7 : Cond.methodLink RX2 130 yX1_send ∈ GW := inG_r7 _ (List.mem_of_getElem? (i := 7) rfl)
theorem mw_7_8 : Cond.instanceMethod yX1_send ∈ GW := inG_r7 _ (List.mem_of_getElem? (i := 8) rfl)
theorem mw_7_9 : Cond.selects RX1 yX1_send yX1_send ∈ GW := inG_r7 _ (List.mem_of_getElem? (i := 9) rfl)
theorem mw_7_10 : Cond.code yX1_send cX1_send 6 none ∈ GW := inG_r7 _ (List.mem_of_getElem? (i := 10) rfl)
theorem mw_7_11 : Cond.methodLink RL 26 yX4_open ∈ GW := inG_r7 _ (List.mem_of_getElem? (i := 11) rfl)
theorem mw_7_12 : Cond.instanceMethod yX4_open ∈ GW := inG_r7 _ (List.mem_of_getElem? (i := 12) rfl)
theorem mw_7_13 : Cond.selects RX4 yX4_open yX4_open ∈ GW := inG_r7 _ (List.mem_of_getElem? (i := 13) rfl)
theorem mw_7_14 : Cond.code yX4_open cX4_open 3 (some .int) ∈ GW := inG_r7 _ (List.mem_of_getElem? (i := 14) rfl)
theorem mw_7_15 : Cond.methodLink RX4 73 yX4_isIll ∈ GW := inG_r7 _ (List.mem_of_getElem? (i := 15) rfl)
theorem mw_7_16 : Cond.instanceMethod yX4_isIll ∈ GW := inG_r7 _ (List.mem_of_getElem? (i := 16) rfl)
theorem mw_7_17 : Cond.selects RX4 yX4_isIll yX4_isIll ∈ GW := inG_r7 _ (List.mem_of_getElem? (i := 17) rfl)
theorem mw_7_18 : Cond.code yX4_isIll cX4_isIll 2 (some .boolean) ∈ GW := inG_r7 _ (List.mem_of_getElem? (i := 18) rfl)
theorem mw_7_19 : Cond.methodLink RX4 52 yX4_book ∈ GW := inG_r7 _ (List.mem_of_getElem? (i := 19) rfl)
theorem mw_7_20 : Cond.instanceMethod yX4_book ∈ GW := inG_r7 _ (List.mem_of_getElem? (i := 20) rfl)
theorem mw_7_21 : Cond.selects RX4 yX4_book yX4_book ∈ GW := inG_r7 _ (List.mem_of_getElem? (i := 21) rfl)
theorem mw_7_22 : Cond.code yX4_book cX4_book 4 none ∈ GW := inG_r7 _ (List.mem_of_getElem? (i := 22) rfl)
theorem mw_7_23 : Cond.methodLink RX4 56 yX4_sendAll ∈ GW := inG_r7 _ (List.mem_of_getElem? (i := 23) rfl)
theorem mw_8_0 : Cond.instanceMethod yX4_sendAll ∈ GW := inG_r8 _ (List.mem_of_getElem? (i := 0) rfl)
theorem mw_8_1 : Cond.selects RX4 yX4_sendAll yX4_sendAll ∈ GW := inG_r8 _ (List.mem_of_getElem? (i := 1) rfl)
theorem mw_8_2 : Cond.code yX4_sendAll cX4_sendAll 6 none ∈ GW := inG_r8 _ (List.mem_of_getElem? (i := 2) rfl)
theorem mw_8_3 : Cond.methodLink RX4 44 yX4_has ∈ GW := inG_r8 _ (List.mem_of_getElem? (i := 3) rfl)
theorem mw_8_4 : Cond.static yX4_has ∈ GW := inG_r8 _ (List.mem_of_getElem? (i := 4) rfl)
theorem mw_8_5 : Cond.code yX4_has cX4_has 2 (some .boolean) ∈ GW := inG_r8 _ (List.mem_of_getElem? (i := 5) rfl)
theorem mw_8_6 : Cond.methodLink RX4 48 yX4_send ∈ GW := inG_r8 _ (List.mem_of_getElem? (i := 6) rfl)
theorem mw_8_7 : Cond.instanceMethod yX4_send ∈ GW := inG_r8 _ (List.mem_of_getElem? (i := 7) rfl)
theorem mw_8_8 : Cond.selects RX4 yX4_send yX4_send ∈ GW := inG_r8 _ (List.mem_of_getElem? (i := 8) rfl)
theorem mw_8_9 : Cond.code yX4_send cX4_send 6 none ∈ GW := inG_r8 _ (List.mem_of_getElem? (i := 9) rfl)
theorem mw_8_10 : Cond.methodLink RL 27 yX3_deliver ∈ GW := inG_r8 _ (List.mem_of_getElem? (i := 10) rfl)
theorem mw_8_11 : Cond.instanceMethod yX3_deliver ∈ GW := inG_r8 _ (List.mem_of_getElem? (i := 11) rfl)
theorem mw_8_12 : Cond.selects RX3 yX3_deliver yX3_deliver ∈ GW := inG_r8 _ (List.mem_of_getElem? (i := 12) rfl)
theorem mw_8_13 : Cond.code yX3_deliver cX3_deliver 2 (some .int) ∈ GW := inG_r8 _ (List.mem_of_getElem? (i := 13) rfl)
theorem mw_8_14 : Cond.methodLink RX3 54 yX2_handOver ∈ GW := inG_r8 _ (List.mem_of_getElem? (i := 14) rfl)
theorem mw_8_15 : Cond.instanceMethod yX2_handOver ∈ GW := inG_r8 _ (List.mem_of_getElem? (i := 15) rfl)
theorem mw_8_16 : Cond.selects RX2 yX2_handOver yX2_handOver ∈ GW := inG_r8 _ (List.mem_of_getElem? (i := 16) rfl)
theorem mw_8_17 : Cond.code yX2_handOver cX2_handOver 6 (some .int) ∈ GW := inG_r8 _ (List.mem_of_getElem? (i := 17) rfl)
theorem mw_8_18 : Cond.fieldLink RX2 101 "ClerkVotes$Row" "lost" "I" ∈ GW := inG_r8 _ (List.mem_of_getElem? (i := 18) rfl)
theorem mw_8_19 : Cond.fieldLink RX2 104 "ClerkVotes$Row" "length" "I" ∈ GW := inG_r8 _ (List.mem_of_getElem? (i := 19) rfl)
theorem mw_8_20 : Cond.fieldLink RX2 136 "ClerkVotes$Row" "deliveredTo" "[I" ∈ GW := inG_r8 _ (List.mem_of_getElem? (i := 20) rfl)
theorem mw_8_21 : Cond.methodLink RX2 94 yX1_has ∈ GW := inG_r8 _ (List.mem_of_getElem? (i := 21) rfl)
theorem mw_8_22 : Cond.instanceMethod yX1_has ∈ GW := inG_r8 _ (List.mem_of_getElem? (i := 22) rfl)
theorem mw_8_23 : Cond.selects RX1 yX1_has yX1_has ∈ GW := inG_r8 _ (List.mem_of_getElem? (i := 23) rfl)
theorem mw_9_0 : Cond.code yX1_has cX1_has 2 (some .boolean) ∈ GW := inG_r9 _ (List.mem_of_getElem? (i := 0) rfl)
theorem mw_9_1 : Cond.methodLink RX2 133 yX1_part ∈ GW := inG_r9 _ (List.mem_of_getElem? (i := 1) rfl)
theorem mw_9_2 : Cond.instanceMethod yX1_part ∈ GW := inG_r9 _ (List.mem_of_getElem? (i := 2) rfl)
theorem mw_9_3 : Cond.selects RX1 yX1_part yX1_part ∈ GW := inG_r9 _ (List.mem_of_getElem? (i := 3) rfl)
theorem mw_9_4 : Cond.code yX1_part cX1_part 3 (some .int) ∈ GW := inG_r9 _ (List.mem_of_getElem? (i := 4) rfl)
theorem mw_9_5 : Cond.methodLink RX2 97 yX1_remove ∈ GW := inG_r9 _ (List.mem_of_getElem? (i := 5) rfl)
theorem mw_9_6 : Cond.instanceMethod yX1_remove ∈ GW := inG_r9 _ (List.mem_of_getElem? (i := 6) rfl)
theorem mw_9_7 : Cond.selects RX1 yX1_remove yX1_remove ∈ GW := inG_r9 _ (List.mem_of_getElem? (i := 7) rfl)
theorem mw_9_8 : Cond.code yX1_remove cX1_remove 3 none ∈ GW := inG_r9 _ (List.mem_of_getElem? (i := 8) rfl)
theorem mw_9_9 : Cond.methodLink RX2 139 yX2_vote ∈ GW := inG_r9 _ (List.mem_of_getElem? (i := 9) rfl)
theorem mw_9_10 : Cond.instanceMethod yX2_vote ∈ GW := inG_r9 _ (List.mem_of_getElem? (i := 10) rfl)
theorem mw_9_11 : Cond.selects RX2 yX2_vote yX2_vote ∈ GW := inG_r9 _ (List.mem_of_getElem? (i := 11) rfl)
theorem mw_9_12 : Cond.code yX2_vote cX2_vote 3 none ∈ GW := inG_r9 _ (List.mem_of_getElem? (i := 12) rfl)
theorem mw_9_13 : Cond.methodLink RX2 123 yX2_stands ∈ GW := inG_r9 _ (List.mem_of_getElem? (i := 13) rfl)
theorem mw_9_14 : Cond.instanceMethod yX2_stands ∈ GW := inG_r9 _ (List.mem_of_getElem? (i := 14) rfl)
theorem mw_9_15 : Cond.selects RX2 yX2_stands yX2_stands ∈ GW := inG_r9 _ (List.mem_of_getElem? (i := 15) rfl)
theorem mw_9_16 : Cond.code yX2_stands cX2_stands 4 (some .boolean) ∈ GW := inG_r9 _ (List.mem_of_getElem? (i := 16) rfl)
theorem mw_9_17 : Cond.methodLink RX2 73 yX2_whoStand ∈ GW := inG_r9 _ (List.mem_of_getElem? (i := 17) rfl)
theorem mw_9_18 : Cond.instanceMethod yX2_whoStand ∈ GW := inG_r9 _ (List.mem_of_getElem? (i := 18) rfl)
theorem mw_9_19 : Cond.selects RX2 yX2_whoStand yX2_whoStand ∈ GW := inG_r9 _ (List.mem_of_getElem? (i := 19) rfl)
theorem mw_9_20 : Cond.code yX2_whoStand cX2_whoStand 3 (some .int) ∈ GW := inG_r9 _ (List.mem_of_getElem? (i := 20) rfl)
theorem mw_9_21 : Cond.methodLink RX2 127 yX2_move ∈ GW := inG_r9 _ (List.mem_of_getElem? (i := 21) rfl)
theorem mw_9_22 : Cond.instanceMethod yX2_move ∈ GW := inG_r9 _ (List.mem_of_getElem? (i := 22) rfl)
theorem mw_9_23 : Cond.selects RX2 yX2_move yX2_move ∈ GW := inG_r9 _ (List.mem_of_getElem? (i := 23) rfl)
theorem mw_10_0 : Cond.code yX2_move cX2_move 5 none ∈ GW := inG_r10 _ (List.mem_of_getElem? (i := 0) rfl)
theorem mw_10_1 : Cond.methodLink RX2 142 yX2_takeYes ∈ GW := inG_r10 _ (List.mem_of_getElem? (i := 1) rfl)
theorem mw_10_2 : Cond.instanceMethod yX2_takeYes ∈ GW := inG_r10 _ (List.mem_of_getElem? (i := 2) rfl)
theorem mw_10_3 : Cond.selects RX2 yX2_takeYes yX2_takeYes ∈ GW := inG_r10 _ (List.mem_of_getElem? (i := 3) rfl)
theorem mw_10_4 : Cond.code yX2_takeYes cX2_takeYes 3 none ∈ GW := inG_r10 _ (List.mem_of_getElem? (i := 4) rfl)
theorem mw_10_5 : Cond.methodLink RX2 157 yX2_answerAsBetween ∈ GW := inG_r10 _ (List.mem_of_getElem? (i := 5) rfl)
theorem mw_10_6 : Cond.instanceMethod yX2_answerAsBetween ∈ GW := inG_r10 _ (List.mem_of_getElem? (i := 6) rfl)
theorem mw_10_7 : Cond.selects RX2 yX2_answerAsBetween yX2_answerAsBetween ∈ GW := inG_r10 _ (List.mem_of_getElem? (i := 7) rfl)
theorem mw_10_8 : Cond.code yX2_answerAsBetween cX2_answerAsBetween 3 none ∈ GW := inG_r10 _ (List.mem_of_getElem? (i := 8) rfl)
theorem mw_10_9 : Cond.methodLink RX2 145 yX2_takeNo ∈ GW := inG_r10 _ (List.mem_of_getElem? (i := 9) rfl)
theorem mw_10_10 : Cond.instanceMethod yX2_takeNo ∈ GW := inG_r10 _ (List.mem_of_getElem? (i := 10) rfl)
theorem mw_10_11 : Cond.selects RX2 yX2_takeNo yX2_takeNo ∈ GW := inG_r10 _ (List.mem_of_getElem? (i := 11) rfl)
theorem mw_10_12 : Cond.code yX2_takeNo cX2_takeNo 3 none ∈ GW := inG_r10 _ (List.mem_of_getElem? (i := 12) rfl)
theorem mw_10_13 : Cond.methodLink RX2 148 yX2_postFor ∈ GW := inG_r10 _ (List.mem_of_getElem? (i := 13) rfl)
theorem mw_10_14 : Cond.instanceMethod yX2_postFor ∈ GW := inG_r10 _ (List.mem_of_getElem? (i := 14) rfl)
theorem mw_10_15 : Cond.selects RX2 yX2_postFor yX2_postFor ∈ GW := inG_r10 _ (List.mem_of_getElem? (i := 15) rfl)
theorem mw_10_16 : Cond.code yX2_postFor cX2_postFor 3 none ∈ GW := inG_r10 _ (List.mem_of_getElem? (i := 16) rfl)
theorem mw_10_17 : Cond.methodLink RX2 151 yX2_tearFor ∈ GW := inG_r10 _ (List.mem_of_getElem? (i := 17) rfl)
theorem mw_10_18 : Cond.instanceMethod yX2_tearFor ∈ GW := inG_r10 _ (List.mem_of_getElem? (i := 18) rfl)
theorem mw_10_19 : Cond.selects RX2 yX2_tearFor yX2_tearFor ∈ GW := inG_r10 _ (List.mem_of_getElem? (i := 19) rfl)
theorem mw_10_20 : Cond.code yX2_tearFor cX2_tearFor 3 none ∈ GW := inG_r10 _ (List.mem_of_getElem? (i := 20) rfl)
theorem mw_10_21 : Cond.methodLink RX2 154 yX2_takeReceipt ∈ GW := inG_r10 _ (List.mem_of_getElem? (i := 21) rfl)
theorem mw_10_22 : Cond.instanceMethod yX2_takeReceipt ∈ GW := inG_r10 _ (List.mem_of_getElem? (i := 22) rfl)
theorem mw_10_23 : Cond.selects RX2 yX2_takeReceipt yX2_takeReceipt ∈ GW := inG_r10 _ (List.mem_of_getElem? (i := 23) rfl)
theorem mw_11_0 : Cond.code yX2_takeReceipt cX2_takeReceipt 3 none ∈ GW := inG_r11 _ (List.mem_of_getElem? (i := 0) rfl)
theorem mw_11_1 : Cond.methodLink RX2 160 yX2_answerAsElder ∈ GW := inG_r11 _ (List.mem_of_getElem? (i := 1) rfl)
theorem mw_11_2 : Cond.instanceMethod yX2_answerAsElder ∈ GW := inG_r11 _ (List.mem_of_getElem? (i := 2) rfl)
theorem mw_11_3 : Cond.selects RX2 yX2_answerAsElder yX2_answerAsElder ∈ GW := inG_r11 _ (List.mem_of_getElem? (i := 3) rfl)
theorem mw_11_4 : Cond.code yX2_answerAsElder cX2_answerAsElder 4 none ∈ GW := inG_r11 _ (List.mem_of_getElem? (i := 4) rfl)
theorem mw_11_5 : Cond.methodLink RL 30 yX4_deliver ∈ GW := inG_r11 _ (List.mem_of_getElem? (i := 5) rfl)
theorem mw_11_6 : Cond.instanceMethod yX4_deliver ∈ GW := inG_r11 _ (List.mem_of_getElem? (i := 6) rfl)
theorem mw_11_7 : Cond.selects RX4 yX4_deliver yX4_deliver ∈ GW := inG_r11 _ (List.mem_of_getElem? (i := 7) rfl)
theorem mw_11_8 : Cond.code yX4_deliver cX4_deliver 2 (some .int) ∈ GW := inG_r11 _ (List.mem_of_getElem? (i := 8) rfl)
theorem mw_11_9 : Cond.methodLink RX4 102 yX4_isMessage ∈ GW := inG_r11 _ (List.mem_of_getElem? (i := 9) rfl)
theorem mw_11_10 : Cond.instanceMethod yX4_isMessage ∈ GW := inG_r11 _ (List.mem_of_getElem? (i := 10) rfl)
theorem mw_11_11 : Cond.selects RX4 yX4_isMessage yX4_isMessage ∈ GW := inG_r11 _ (List.mem_of_getElem? (i := 11) rfl)
theorem mw_11_12 : Cond.code yX4_isMessage cX4_isMessage 2 (some .boolean) ∈ GW := inG_r11 _ (List.mem_of_getElem? (i := 12) rfl)
theorem mw_11_13 : Cond.methodLink RX4 105 yX4_deliverNow ∈ GW := inG_r11 _ (List.mem_of_getElem? (i := 13) rfl)
theorem mw_11_14 : Cond.instanceMethod yX4_deliverNow ∈ GW := inG_r11 _ (List.mem_of_getElem? (i := 14) rfl)
theorem mw_11_15 : Cond.selects RX4 yX4_deliverNow yX4_deliverNow ∈ GW := inG_r11 _ (List.mem_of_getElem? (i := 15) rfl)
theorem mw_11_16 : Cond.code yX4_deliverNow cX4_deliverNow 7 none ∈ GW := inG_r11 _ (List.mem_of_getElem? (i := 16) rfl)
theorem mw_11_17 : Cond.methodLink RX4 69 yX4_drop ∈ GW := inG_r11 _ (List.mem_of_getElem? (i := 17) rfl)
theorem mw_11_18 : Cond.instanceMethod yX4_drop ∈ GW := inG_r11 _ (List.mem_of_getElem? (i := 18) rfl)
theorem mw_11_19 : Cond.selects RX4 yX4_drop yX4_drop ∈ GW := inG_r11 _ (List.mem_of_getElem? (i := 19) rfl)
theorem mw_11_20 : Cond.code yX4_drop cX4_drop 3 none ∈ GW := inG_r11 _ (List.mem_of_getElem? (i := 20) rfl)
theorem mw_11_21 : Cond.methodLink RX4 77 yX4_get ∈ GW := inG_r11 _ (List.mem_of_getElem? (i := 21) rfl)
theorem mw_11_22 : Cond.instanceMethod yX4_get ∈ GW := inG_r11 _ (List.mem_of_getElem? (i := 22) rfl)
theorem mw_11_23 : Cond.selects RX4 yX4_get yX4_get ∈ GW := inG_r11 _ (List.mem_of_getElem? (i := 23) rfl)
theorem mw_12_0 : Cond.code yX4_get cX4_get 6 none ∈ GW := inG_r12 _ (List.mem_of_getElem? (i := 0) rfl)
theorem mw_12_1 : Cond.methodLink RX4 40 yX4_of ∈ GW := inG_r12 _ (List.mem_of_getElem? (i := 1) rfl)
theorem mw_12_2 : Cond.instanceMethod yX4_of ∈ GW := inG_r12 _ (List.mem_of_getElem? (i := 2) rfl)
theorem mw_12_3 : Cond.selects RX4 yX4_of yX4_of ∈ GW := inG_r12 _ (List.mem_of_getElem? (i := 3) rfl)
theorem mw_12_4 : Cond.code yX4_of cX4_of 3 (some .int) ∈ GW := inG_r12 _ (List.mem_of_getElem? (i := 4) rfl)
theorem mw_12_5 : Cond.methodLink RX4 59 yX4_answer ∈ GW := inG_r12 _ (List.mem_of_getElem? (i := 5) rfl)
theorem mw_12_6 : Cond.instanceMethod yX4_answer ∈ GW := inG_r12 _ (List.mem_of_getElem? (i := 6) rfl)
theorem mw_12_7 : Cond.selects RX4 yX4_answer yX4_answer ∈ GW := inG_r12 _ (List.mem_of_getElem? (i := 7) rfl)
theorem mw_12_8 : Cond.code yX4_answer cX4_answer 4 none ∈ GW := inG_r12 _ (List.mem_of_getElem? (i := 8) rfl)
theorem mw_12_9 : Cond.methodLink RX4 63 yX4_tear ∈ GW := inG_r12 _ (List.mem_of_getElem? (i := 9) rfl)
theorem mw_12_10 : Cond.instanceMethod yX4_tear ∈ GW := inG_r12 _ (List.mem_of_getElem? (i := 10) rfl)
theorem mw_12_11 : Cond.selects RX4 yX4_tear yX4_tear ∈ GW := inG_r12 _ (List.mem_of_getElem? (i := 11) rfl)
theorem mw_12_12 : Cond.code yX4_tear cX4_tear 3 none ∈ GW := inG_r12 _ (List.mem_of_getElem? (i := 12) rfl)
theorem mw_12_13 : Cond.methodLink RX4 80 yX4_getBy ∈ GW := inG_r12 _ (List.mem_of_getElem? (i := 13) rfl)
theorem mw_12_14 : Cond.instanceMethod yX4_getBy ∈ GW := inG_r12 _ (List.mem_of_getElem? (i := 14) rfl)
theorem mw_12_15 : Cond.selects RX4 yX4_getBy yX4_getBy ∈ GW := inG_r12 _ (List.mem_of_getElem? (i := 15) rfl)
theorem mw_12_16 : Cond.code yX4_getBy cX4_getBy 6 none ∈ GW := inG_r12 _ (List.mem_of_getElem? (i := 16) rfl)
theorem mw_12_17 : Cond.methodLink RX4 66 yX4_become ∈ GW := inG_r12 _ (List.mem_of_getElem? (i := 17) rfl)
theorem mw_12_18 : Cond.instanceMethod yX4_become ∈ GW := inG_r12 _ (List.mem_of_getElem? (i := 18) rfl)
theorem mw_12_19 : Cond.selects RX4 yX4_become yX4_become ∈ GW := inG_r12 _ (List.mem_of_getElem? (i := 19) rfl)
theorem mw_12_20 : Cond.code yX4_become cX4_become 4 none ∈ GW := inG_r12 _ (List.mem_of_getElem? (i := 20) rfl)
theorem mw_12_21 : Cond.methodLink RL 31 yX3_lose ∈ GW := inG_r12 _ (List.mem_of_getElem? (i := 21) rfl)
theorem mw_12_22 : Cond.instanceMethod yX3_lose ∈ GW := inG_r12 _ (List.mem_of_getElem? (i := 22) rfl)
theorem mw_12_23 : Cond.selects RX3 yX3_lose yX3_lose ∈ GW := inG_r12 _ (List.mem_of_getElem? (i := 23) rfl)
theorem mw_13_0 : Cond.code yX3_lose cX3_lose 2 (some .int) ∈ GW := inG_r13 _ (List.mem_of_getElem? (i := 0) rfl)
theorem mw_13_1 : Cond.methodLink RX3 57 yX2_dropMessage ∈ GW := inG_r13 _ (List.mem_of_getElem? (i := 1) rfl)
theorem mw_13_2 : Cond.instanceMethod yX2_dropMessage ∈ GW := inG_r13 _ (List.mem_of_getElem? (i := 2) rfl)
theorem mw_13_3 : Cond.selects RX2 yX2_dropMessage yX2_dropMessage ∈ GW := inG_r13 _ (List.mem_of_getElem? (i := 3) rfl)
theorem mw_13_4 : Cond.code yX2_dropMessage cX2_dropMessage 2 (some .int) ∈ GW := inG_r13 _ (List.mem_of_getElem? (i := 4) rfl)
theorem mw_13_5 : Cond.methodLink RL 34 yX4_lose ∈ GW := inG_r13 _ (List.mem_of_getElem? (i := 5) rfl)
theorem mw_13_6 : Cond.instanceMethod yX4_lose ∈ GW := inG_r13 _ (List.mem_of_getElem? (i := 6) rfl)
theorem mw_13_7 : Cond.selects RX4 yX4_lose yX4_lose ∈ GW := inG_r13 _ (List.mem_of_getElem? (i := 7) rfl)
theorem mw_13_8 : Cond.code yX4_lose cX4_lose 2 (some .int) ∈ GW := inG_r13 _ (List.mem_of_getElem? (i := 8) rfl)
theorem mw_13_9 : Cond.methodLink RX4 108 yX4_loseNow ∈ GW := inG_r13 _ (List.mem_of_getElem? (i := 9) rfl)
theorem mw_13_10 : Cond.instanceMethod yX4_loseNow ∈ GW := inG_r13 _ (List.mem_of_getElem? (i := 10) rfl)
theorem mw_13_11 : Cond.selects RX4 yX4_loseNow yX4_loseNow ∈ GW := inG_r13 _ (List.mem_of_getElem? (i := 11) rfl)
theorem mw_13_12 : Cond.code yX4_loseNow cX4_loseNow 2 none ∈ GW := inG_r13 _ (List.mem_of_getElem? (i := 12) rfl)
theorem mw_13_13 : Cond.methodLink RL 35 yX3_twice ∈ GW := inG_r13 _ (List.mem_of_getElem? (i := 13) rfl)
theorem mw_13_14 : Cond.instanceMethod yX3_twice ∈ GW := inG_r13 _ (List.mem_of_getElem? (i := 14) rfl)
theorem mw_13_15 : Cond.selects RX3 yX3_twice yX3_twice ∈ GW := inG_r13 _ (List.mem_of_getElem? (i := 15) rfl)
theorem mw_13_16 : Cond.code yX3_twice cX3_twice 2 (some .int) ∈ GW := inG_r13 _ (List.mem_of_getElem? (i := 16) rfl)
theorem mw_13_17 : Cond.methodLink RX3 60 yX2_repeatMessage ∈ GW := inG_r13 _ (List.mem_of_getElem? (i := 17) rfl)
theorem mw_13_18 : Cond.instanceMethod yX2_repeatMessage ∈ GW := inG_r13 _ (List.mem_of_getElem? (i := 18) rfl)
theorem mw_13_19 : Cond.selects RX2 yX2_repeatMessage yX2_repeatMessage ∈ GW := inG_r13 _ (List.mem_of_getElem? (i := 19) rfl)
theorem mw_13_20 : Cond.code yX2_repeatMessage cX2_repeatMessage 2 (some .int) ∈ GW := inG_r13 _ (List.mem_of_getElem? (i := 20) rfl)
theorem mw_13_21 : Cond.methodLink RX2 107 yX1_repeat ∈ GW := inG_r13 _ (List.mem_of_getElem? (i := 21) rfl)
theorem mw_13_22 : Cond.instanceMethod yX1_repeat ∈ GW := inG_r13 _ (List.mem_of_getElem? (i := 22) rfl)
theorem mw_13_23 : Cond.selects RX1 yX1_repeat yX1_repeat ∈ GW := inG_r13 _ (List.mem_of_getElem? (i := 23) rfl)
theorem mw_14_0 : Cond.code yX1_repeat cX1_repeat 2 none ∈ GW := inG_r14 _ (List.mem_of_getElem? (i := 0) rfl)
theorem mw_14_1 : Cond.methodLink RL 38 yX4_twice ∈ GW := inG_r14 _ (List.mem_of_getElem? (i := 1) rfl)
theorem mw_14_2 : Cond.instanceMethod yX4_twice ∈ GW := inG_r14 _ (List.mem_of_getElem? (i := 2) rfl)
theorem mw_14_3 : Cond.selects RX4 yX4_twice yX4_twice ∈ GW := inG_r14 _ (List.mem_of_getElem? (i := 3) rfl)
theorem mw_14_4 : Cond.code yX4_twice cX4_twice 3 (some .int) ∈ GW := inG_r14 _ (List.mem_of_getElem? (i := 4) rfl)
theorem mw_14_5 : Cond.methodLink RL 39 yX3_fall ∈ GW := inG_r14 _ (List.mem_of_getElem? (i := 5) rfl)
theorem mw_14_6 : Cond.instanceMethod yX3_fall ∈ GW := inG_r14 _ (List.mem_of_getElem? (i := 6) rfl)
theorem mw_14_7 : Cond.selects RX3 yX3_fall yX3_fall ∈ GW := inG_r14 _ (List.mem_of_getElem? (i := 7) rfl)
theorem mw_14_8 : Cond.code yX3_fall cX3_fall 2 (some .int) ∈ GW := inG_r14 _ (List.mem_of_getElem? (i := 8) rfl)
theorem mw_14_9 : Cond.methodLink RX3 63 yX2_fallIll ∈ GW := inG_r14 _ (List.mem_of_getElem? (i := 9) rfl)
theorem mw_14_10 : Cond.instanceMethod yX2_fallIll ∈ GW := inG_r14 _ (List.mem_of_getElem? (i := 10) rfl)
theorem mw_14_11 : Cond.selects RX2 yX2_fallIll yX2_fallIll ∈ GW := inG_r14 _ (List.mem_of_getElem? (i := 11) rfl)
theorem mw_14_12 : Cond.code yX2_fallIll cX2_fallIll 3 (some .int) ∈ GW := inG_r14 _ (List.mem_of_getElem? (i := 12) rfl)
theorem mw_14_13 : Cond.methodLink RX2 110 yX2_isSomebody ∈ GW := inG_r14 _ (List.mem_of_getElem? (i := 13) rfl)
theorem mw_14_14 : Cond.static yX2_isSomebody ∈ GW := inG_r14 _ (List.mem_of_getElem? (i := 14) rfl)
theorem mw_14_15 : Cond.code yX2_isSomebody cX2_isSomebody 1 (some .boolean) ∈ GW := inG_r14 _ (List.mem_of_getElem? (i := 15) rfl)
theorem mw_14_16 : Cond.methodLink RX2 113 yX2_forget ∈ GW := inG_r14 _ (List.mem_of_getElem? (i := 16) rfl)
theorem mw_14_17 : Cond.instanceMethod yX2_forget ∈ GW := inG_r14 _ (List.mem_of_getElem? (i := 17) rfl)
theorem mw_14_18 : Cond.selects RX2 yX2_forget yX2_forget ∈ GW := inG_r14 _ (List.mem_of_getElem? (i := 18) rfl)
theorem mw_14_19 : Cond.code yX2_forget cX2_forget 3 none ∈ GW := inG_r14 _ (List.mem_of_getElem? (i := 19) rfl)
theorem mw_14_20 : Cond.methodLink RX2 117 yJ6_bitCount_0f7a4 ∈ GW := inG_r14 _ (List.mem_of_getElem? (i := 20) rfl)
theorem mw_14_21 : Cond.static yJ6_bitCount_0f7a4 ∈ GW := inG_r14 _ (List.mem_of_getElem? (i := 21) rfl)
theorem mw_14_22 : Cond.initialized RJ6 ∈ GW := inG_r14 _ (List.mem_of_getElem? (i := 22) rfl)
theorem mw_14_23 : Cond.code yJ6_bitCount_0f7a4 cJ6_bitCount_0f7a4 1 (some .int) ∈ GW := inG_r14 _ (List.mem_of_getElem? (i := 23) rfl)
theorem mw_15_0 : Cond.constant RJ6 265 (1431655765) ∈ GW := inG_r15 _ (List.mem_of_getElem? (i := 0) rfl)
theorem mw_15_1 : Cond.constant RJ6 266 (858993459) ∈ GW := inG_r15 _ (List.mem_of_getElem? (i := 1) rfl)
theorem mw_15_2 : Cond.constant RJ6 267 (252645135) ∈ GW := inG_r15 _ (List.mem_of_getElem? (i := 2) rfl)
theorem mw_15_3 : Cond.methodLink RL 42 yX4_fall ∈ GW := inG_r15 _ (List.mem_of_getElem? (i := 3) rfl)
theorem mw_15_4 : Cond.instanceMethod yX4_fall ∈ GW := inG_r15 _ (List.mem_of_getElem? (i := 4) rfl)
theorem mw_15_5 : Cond.selects RX4 yX4_fall yX4_fall ∈ GW := inG_r15 _ (List.mem_of_getElem? (i := 5) rfl)
theorem mw_15_6 : Cond.code yX4_fall cX4_fall 3 (some .int) ∈ GW := inG_r15 _ (List.mem_of_getElem? (i := 6) rfl)
theorem mw_15_7 : Cond.methodLink RX4 86 yX4_isPart ∈ GW := inG_r15 _ (List.mem_of_getElem? (i := 7) rfl)
theorem mw_15_8 : Cond.instanceMethod yX4_isPart ∈ GW := inG_r15 _ (List.mem_of_getElem? (i := 8) rfl)
theorem mw_15_9 : Cond.selects RX4 yX4_isPart yX4_isPart ∈ GW := inG_r15 _ (List.mem_of_getElem? (i := 9) rfl)
theorem mw_15_10 : Cond.code yX4_isPart cX4_isPart 3 (some .boolean) ∈ GW := inG_r15 _ (List.mem_of_getElem? (i := 10) rfl)
theorem mw_15_11 : Cond.methodLink RX4 111 yX4_ill ∈ GW := inG_r15 _ (List.mem_of_getElem? (i := 11) rfl)
theorem mw_15_12 : Cond.instanceMethod yX4_ill ∈ GW := inG_r15 _ (List.mem_of_getElem? (i := 12) rfl)
theorem mw_15_13 : Cond.selects RX4 yX4_ill yX4_ill ∈ GW := inG_r15 _ (List.mem_of_getElem? (i := 13) rfl)
theorem mw_15_14 : Cond.code yX4_ill cX4_ill 3 (some .int) ∈ GW := inG_r15 _ (List.mem_of_getElem? (i := 14) rfl)
theorem mw_15_15 : Cond.methodLink RL 43 yX3_rise ∈ GW := inG_r15 _ (List.mem_of_getElem? (i := 15) rfl)
theorem mw_15_16 : Cond.instanceMethod yX3_rise ∈ GW := inG_r15 _ (List.mem_of_getElem? (i := 16) rfl)
theorem mw_15_17 : Cond.selects RX3 yX3_rise yX3_rise ∈ GW := inG_r15 _ (List.mem_of_getElem? (i := 17) rfl)
theorem mw_15_18 : Cond.code yX3_rise cX3_rise 2 (some .int) ∈ GW := inG_r15 _ (List.mem_of_getElem? (i := 18) rfl)
theorem mw_15_19 : Cond.methodLink RX3 66 yX2_getWell ∈ GW := inG_r15 _ (List.mem_of_getElem? (i := 19) rfl)
theorem mw_15_20 : Cond.instanceMethod yX2_getWell ∈ GW := inG_r15 _ (List.mem_of_getElem? (i := 20) rfl)
theorem mw_15_21 : Cond.selects RX2 yX2_getWell yX2_getWell ∈ GW := inG_r15 _ (List.mem_of_getElem? (i := 21) rfl)
theorem mw_15_22 : Cond.code yX2_getWell cX2_getWell 2 (some .int) ∈ GW := inG_r15 _ (List.mem_of_getElem? (i := 22) rfl)
theorem mw_15_23 : Cond.methodLink RL 46 yX4_rise ∈ GW := inG_r15 _ (List.mem_of_getElem? (i := 23) rfl)
theorem mw_16_0 : Cond.instanceMethod yX4_rise ∈ GW := inG_r16 _ (List.mem_of_getElem? (i := 0) rfl)
theorem mw_16_1 : Cond.selects RX4 yX4_rise yX4_rise ∈ GW := inG_r16 _ (List.mem_of_getElem? (i := 1) rfl)
theorem mw_16_2 : Cond.code yX4_rise cX4_rise 2 (some .int) ∈ GW := inG_r16 _ (List.mem_of_getElem? (i := 2) rfl)
theorem mw_16_3 : Cond.methodLink RL 47 yX3_ticks ∈ GW := inG_r16 _ (List.mem_of_getElem? (i := 3) rfl)
theorem mw_16_4 : Cond.instanceMethod yX3_ticks ∈ GW := inG_r16 _ (List.mem_of_getElem? (i := 4) rfl)
theorem mw_16_5 : Cond.selects RX3 yX3_ticks yX3_ticks ∈ GW := inG_r16 _ (List.mem_of_getElem? (i := 5) rfl)
theorem mw_16_6 : Cond.code yX3_ticks cX3_ticks 2 (some .int) ∈ GW := inG_r16 _ (List.mem_of_getElem? (i := 6) rfl)
theorem mw_16_7 : Cond.methodLink RX3 69 yX2_passTicks ∈ GW := inG_r16 _ (List.mem_of_getElem? (i := 7) rfl)
theorem mw_16_8 : Cond.instanceMethod yX2_passTicks ∈ GW := inG_r16 _ (List.mem_of_getElem? (i := 8) rfl)
theorem mw_16_9 : Cond.selects RX2 yX2_passTicks yX2_passTicks ∈ GW := inG_r16 _ (List.mem_of_getElem? (i := 9) rfl)
theorem mw_16_10 : Cond.code yX2_passTicks cX2_passTicks 3 (some .int) ∈ GW := inG_r16 _ (List.mem_of_getElem? (i := 10) rfl)
theorem mw_16_11 : Cond.methodLink RX2 164 yX2_passTick ∈ GW := inG_r16 _ (List.mem_of_getElem? (i := 11) rfl)
theorem mw_16_12 : Cond.instanceMethod yX2_passTick ∈ GW := inG_r16 _ (List.mem_of_getElem? (i := 12) rfl)
theorem mw_16_13 : Cond.selects RX2 yX2_passTick yX2_passTick ∈ GW := inG_r16 _ (List.mem_of_getElem? (i := 13) rfl)
theorem mw_16_14 : Cond.code yX2_passTick cX2_passTick 2 none ∈ GW := inG_r16 _ (List.mem_of_getElem? (i := 14) rfl)
theorem mw_16_15 : Cond.methodLink RX2 167 yX2_pressOn ∈ GW := inG_r16 _ (List.mem_of_getElem? (i := 15) rfl)
theorem mw_16_16 : Cond.instanceMethod yX2_pressOn ∈ GW := inG_r16 _ (List.mem_of_getElem? (i := 16) rfl)
theorem mw_16_17 : Cond.selects RX2 yX2_pressOn yX2_pressOn ∈ GW := inG_r16 _ (List.mem_of_getElem? (i := 17) rfl)
theorem mw_16_18 : Cond.code yX2_pressOn cX2_pressOn 2 none ∈ GW := inG_r16 _ (List.mem_of_getElem? (i := 18) rfl)
theorem mw_16_19 : Cond.methodLink RX2 173 yX2_isTimeAgain ∈ GW := inG_r16 _ (List.mem_of_getElem? (i := 19) rfl)
theorem mw_16_20 : Cond.instanceMethod yX2_isTimeAgain ∈ GW := inG_r16 _ (List.mem_of_getElem? (i := 20) rfl)
theorem mw_16_21 : Cond.selects RX2 yX2_isTimeAgain yX2_isTimeAgain ∈ GW := inG_r16 _ (List.mem_of_getElem? (i := 21) rfl)
theorem mw_16_22 : Cond.code yX2_isTimeAgain cX2_isTimeAgain 4 (some .boolean) ∈ GW := inG_r16 _ (List.mem_of_getElem? (i := 22) rfl)
theorem mw_16_23 : Cond.methodLink RX2 170 yX2_askInDoubt ∈ GW := inG_r16 _ (List.mem_of_getElem? (i := 23) rfl)
theorem mw_17_0 : Cond.instanceMethod yX2_askInDoubt ∈ GW := inG_r17 _ (List.mem_of_getElem? (i := 0) rfl)
theorem mw_17_1 : Cond.selects RX2 yX2_askInDoubt yX2_askInDoubt ∈ GW := inG_r17 _ (List.mem_of_getElem? (i := 1) rfl)
theorem mw_17_2 : Cond.code yX2_askInDoubt cX2_askInDoubt 3 none ∈ GW := inG_r17 _ (List.mem_of_getElem? (i := 2) rfl)
theorem mw_17_3 : Cond.methodLink RL 50 yX4_ticks ∈ GW := inG_r17 _ (List.mem_of_getElem? (i := 3) rfl)
theorem mw_17_4 : Cond.instanceMethod yX4_ticks ∈ GW := inG_r17 _ (List.mem_of_getElem? (i := 4) rfl)
theorem mw_17_5 : Cond.selects RX4 yX4_ticks yX4_ticks ∈ GW := inG_r17 _ (List.mem_of_getElem? (i := 5) rfl)
theorem mw_17_6 : Cond.code yX4_ticks cX4_ticks 3 (some .int) ∈ GW := inG_r17 _ (List.mem_of_getElem? (i := 6) rfl)
theorem mw_17_7 : Cond.methodLink RX4 115 yX4_pass ∈ GW := inG_r17 _ (List.mem_of_getElem? (i := 7) rfl)
theorem mw_17_8 : Cond.instanceMethod yX4_pass ∈ GW := inG_r17 _ (List.mem_of_getElem? (i := 8) rfl)
theorem mw_17_9 : Cond.selects RX4 yX4_pass yX4_pass ∈ GW := inG_r17 _ (List.mem_of_getElem? (i := 9) rfl)
theorem mw_17_10 : Cond.code yX4_pass cX4_pass 3 none ∈ GW := inG_r17 _ (List.mem_of_getElem? (i := 10) rfl)
theorem mw_17_11 : Cond.methodLink RX4 89 yX4_passBetween ∈ GW := inG_r17 _ (List.mem_of_getElem? (i := 11) rfl)
theorem mw_17_12 : Cond.instanceMethod yX4_passBetween ∈ GW := inG_r17 _ (List.mem_of_getElem? (i := 12) rfl)
theorem mw_17_13 : Cond.selects RX4 yX4_passBetween yX4_passBetween ∈ GW := inG_r17 _ (List.mem_of_getElem? (i := 13) rfl)
theorem mw_17_14 : Cond.code yX4_passBetween cX4_passBetween 3 none ∈ GW := inG_r17 _ (List.mem_of_getElem? (i := 14) rfl)
theorem mw_17_15 : Cond.methodLink RX4 83 yX4_isTime ∈ GW := inG_r17 _ (List.mem_of_getElem? (i := 15) rfl)
theorem mw_17_16 : Cond.static yX4_isTime ∈ GW := inG_r17 _ (List.mem_of_getElem? (i := 16) rfl)
theorem mw_17_17 : Cond.code yX4_isTime cX4_isTime 2 (some .boolean) ∈ GW := inG_r17 _ (List.mem_of_getElem? (i := 17) rfl)
theorem mw_17_18 : Cond.methodLink RX4 92 yX4_passClerk ∈ GW := inG_r17 _ (List.mem_of_getElem? (i := 18) rfl)
theorem mw_17_19 : Cond.instanceMethod yX4_passClerk ∈ GW := inG_r17 _ (List.mem_of_getElem? (i := 19) rfl)
theorem mw_17_20 : Cond.selects RX4 yX4_passClerk yX4_passClerk ∈ GW := inG_r17 _ (List.mem_of_getElem? (i := 20) rfl)
theorem mw_17_21 : Cond.code yX4_passClerk cX4_passClerk 4 none ∈ GW := inG_r17 _ (List.mem_of_getElem? (i := 21) rfl)
theorem mw_17_22 : Cond.methodLink RL 51 yX3_ofDeal ∈ GW := inG_r17 _ (List.mem_of_getElem? (i := 22) rfl)
theorem mw_17_23 : Cond.instanceMethod yX3_ofDeal ∈ GW := inG_r17 _ (List.mem_of_getElem? (i := 23) rfl)
theorem mw_18_0 : Cond.selects RX3 yX3_ofDeal yX3_ofDeal ∈ GW := inG_r18 _ (List.mem_of_getElem? (i := 0) rfl)
theorem mw_18_1 : Cond.code yX3_ofDeal cX3_ofDeal 3 (some .int) ∈ GW := inG_r18 _ (List.mem_of_getElem? (i := 1) rfl)
theorem mw_18_2 : Cond.methodLink RX3 72 yX2_numberOfDeal ∈ GW := inG_r18 _ (List.mem_of_getElem? (i := 2) rfl)
theorem mw_18_3 : Cond.instanceMethod yX2_numberOfDeal ∈ GW := inG_r18 _ (List.mem_of_getElem? (i := 3) rfl)
theorem mw_18_4 : Cond.selects RX2 yX2_numberOfDeal yX2_numberOfDeal ∈ GW := inG_r18 _ (List.mem_of_getElem? (i := 4) rfl)
theorem mw_18_5 : Cond.code yX2_numberOfDeal cX2_numberOfDeal 3 (some .int) ∈ GW := inG_r18 _ (List.mem_of_getElem? (i := 5) rfl)
theorem mw_18_6 : Cond.methodLink RX2 185 yX2_isDeal ∈ GW := inG_r18 _ (List.mem_of_getElem? (i := 6) rfl)
theorem mw_18_7 : Cond.instanceMethod yX2_isDeal ∈ GW := inG_r18 _ (List.mem_of_getElem? (i := 7) rfl)
theorem mw_18_8 : Cond.selects RX2 yX2_isDeal yX2_isDeal ∈ GW := inG_r18 _ (List.mem_of_getElem? (i := 8) rfl)
theorem mw_18_9 : Cond.code yX2_isDeal cX2_isDeal 2 (some .boolean) ∈ GW := inG_r18 _ (List.mem_of_getElem? (i := 9) rfl)
theorem mw_18_10 : Cond.methodLink RL 54 yX4_ofDeal ∈ GW := inG_r18 _ (List.mem_of_getElem? (i := 10) rfl)
theorem mw_18_11 : Cond.instanceMethod yX4_ofDeal ∈ GW := inG_r18 _ (List.mem_of_getElem? (i := 11) rfl)
theorem mw_18_12 : Cond.selects RX4 yX4_ofDeal yX4_ofDeal ∈ GW := inG_r18 _ (List.mem_of_getElem? (i := 12) rfl)
theorem mw_18_13 : Cond.code yX4_ofDeal cX4_ofDeal 3 (some .int) ∈ GW := inG_r18 _ (List.mem_of_getElem? (i := 13) rfl)
theorem mw_18_14 : Cond.methodLink RX4 118 yX4_isDeal ∈ GW := inG_r18 _ (List.mem_of_getElem? (i := 14) rfl)
theorem mw_18_15 : Cond.instanceMethod yX4_isDeal ∈ GW := inG_r18 _ (List.mem_of_getElem? (i := 15) rfl)
theorem mw_18_16 : Cond.selects RX4 yX4_isDeal yX4_isDeal ∈ GW := inG_r18 _ (List.mem_of_getElem? (i := 16) rfl)
theorem mw_18_17 : Cond.code yX4_isDeal cX4_isDeal 2 (some .boolean) ∈ GW := inG_r18 _ (List.mem_of_getElem? (i := 17) rfl)
theorem mw_18_18 : Cond.methodLink RX4 121 yX4_clerksOf ∈ GW := inG_r18 _ (List.mem_of_getElem? (i := 18) rfl)
theorem mw_18_19 : Cond.instanceMethod yX4_clerksOf ∈ GW := inG_r18 _ (List.mem_of_getElem? (i := 19) rfl)
theorem mw_18_20 : Cond.selects RX4 yX4_clerksOf yX4_clerksOf ∈ GW := inG_r18 _ (List.mem_of_getElem? (i := 20) rfl)
theorem mw_18_21 : Cond.code yX4_clerksOf cX4_clerksOf 5 (some .int) ∈ GW := inG_r18 _ (List.mem_of_getElem? (i := 21) rfl)
theorem mw_18_22 : Cond.methodLink RL 55 yX3_at ∈ GW := inG_r18 _ (List.mem_of_getElem? (i := 22) rfl)
theorem mw_18_23 : Cond.instanceMethod yX3_at ∈ GW := inG_r18 _ (List.mem_of_getElem? (i := 23) rfl)
theorem mw_19_0 : Cond.selects RX3 yX3_at yX3_at ∈ GW := inG_r19 _ (List.mem_of_getElem? (i := 0) rfl)
theorem mw_19_1 : Cond.code yX3_at cX3_at 3 (some .int) ∈ GW := inG_r19 _ (List.mem_of_getElem? (i := 1) rfl)
theorem mw_19_2 : Cond.methodLink RX3 75 yX2_standingFor ∈ GW := inG_r19 _ (List.mem_of_getElem? (i := 2) rfl)
theorem mw_19_3 : Cond.instanceMethod yX2_standingFor ∈ GW := inG_r19 _ (List.mem_of_getElem? (i := 3) rfl)
theorem mw_19_4 : Cond.selects RX2 yX2_standingFor yX2_standingFor ∈ GW := inG_r19 _ (List.mem_of_getElem? (i := 4) rfl)
theorem mw_19_5 : Cond.code yX2_standingFor cX2_standingFor 4 (some .int) ∈ GW := inG_r19 _ (List.mem_of_getElem? (i := 5) rfl)
theorem mw_19_6 : Cond.methodLink RL 58 yX4_at ∈ GW := inG_r19 _ (List.mem_of_getElem? (i := 6) rfl)
theorem mw_19_7 : Cond.instanceMethod yX4_at ∈ GW := inG_r19 _ (List.mem_of_getElem? (i := 7) rfl)
theorem mw_19_8 : Cond.selects RX4 yX4_at yX4_at ∈ GW := inG_r19 _ (List.mem_of_getElem? (i := 8) rfl)
theorem mw_19_9 : Cond.code yX4_at cX4_at 3 (some .int) ∈ GW := inG_r19 _ (List.mem_of_getElem? (i := 9) rfl)
theorem mw_19_10 : Cond.methodLink RL 59 yX3_message ∈ GW := inG_r19 _ (List.mem_of_getElem? (i := 10) rfl)
theorem mw_19_11 : Cond.instanceMethod yX3_message ∈ GW := inG_r19 _ (List.mem_of_getElem? (i := 11) rfl)
theorem mw_19_12 : Cond.selects RX3 yX3_message yX3_message ∈ GW := inG_r19 _ (List.mem_of_getElem? (i := 12) rfl)
theorem mw_19_13 : Cond.code yX3_message cX3_message 3 (some .int) ∈ GW := inG_r19 _ (List.mem_of_getElem? (i := 13) rfl)
theorem mw_19_14 : Cond.fieldLink RX3 78 "ClerkVotes$State" "row" "LClerkVotes$Row;" ∈ GW := inG_r19 _ (List.mem_of_getElem? (i := 14) rfl)
theorem mw_19_15 : Cond.methodLink RX3 82 yX1_numberOfMessage ∈ GW := inG_r19 _ (List.mem_of_getElem? (i := 15) rfl)
theorem mw_19_16 : Cond.instanceMethod yX1_numberOfMessage ∈ GW := inG_r19 _ (List.mem_of_getElem? (i := 16) rfl)
theorem mw_19_17 : Cond.selects RX1 yX1_numberOfMessage yX1_numberOfMessage ∈ GW := inG_r19 _ (List.mem_of_getElem? (i := 17) rfl)
theorem mw_19_18 : Cond.code yX1_numberOfMessage cX1_numberOfMessage 3 (some .int) ∈ GW := inG_r19 _ (List.mem_of_getElem? (i := 18) rfl)
theorem mw_19_19 : Cond.methodLink RX1 34 yX1_has ∈ GW := inG_r19 _ (List.mem_of_getElem? (i := 19) rfl)
theorem mw_19_20 : Cond.methodLink RX1 38 yX1_part ∈ GW := inG_r19 _ (List.mem_of_getElem? (i := 20) rfl)
theorem mw_19_21 : Cond.methodLink RL 62 yX4_message ∈ GW := inG_r19 _ (List.mem_of_getElem? (i := 21) rfl)
theorem mw_19_22 : Cond.instanceMethod yX4_message ∈ GW := inG_r19 _ (List.mem_of_getElem? (i := 22) rfl)
theorem mw_19_23 : Cond.selects RX4 yX4_message yX4_message ∈ GW := inG_r19 _ (List.mem_of_getElem? (i := 23) rfl)
theorem mw_20_0 : Cond.code yX4_message cX4_message 3 (some .int) ∈ GW := inG_r20 _ (List.mem_of_getElem? (i := 0) rfl)
theorem mw_20_1 : Cond.methodLink RL 63 yX3_who ∈ GW := inG_r20 _ (List.mem_of_getElem? (i := 1) rfl)
theorem mw_20_2 : Cond.instanceMethod yX3_who ∈ GW := inG_r20 _ (List.mem_of_getElem? (i := 2) rfl)
theorem mw_20_3 : Cond.selects RX3 yX3_who yX3_who ∈ GW := inG_r20 _ (List.mem_of_getElem? (i := 3) rfl)
theorem mw_20_4 : Cond.code yX3_who cX3_who 3 (some .int) ∈ GW := inG_r20 _ (List.mem_of_getElem? (i := 4) rfl)
theorem mw_20_5 : Cond.methodLink RX3 87 yX2_numberOfSomebody ∈ GW := inG_r20 _ (List.mem_of_getElem? (i := 5) rfl)
theorem mw_20_6 : Cond.instanceMethod yX2_numberOfSomebody ∈ GW := inG_r20 _ (List.mem_of_getElem? (i := 6) rfl)
theorem mw_20_7 : Cond.selects RX2 yX2_numberOfSomebody yX2_numberOfSomebody ∈ GW := inG_r20 _ (List.mem_of_getElem? (i := 7) rfl)
theorem mw_20_8 : Cond.code yX2_numberOfSomebody cX2_numberOfSomebody 3 (some .int) ∈ GW := inG_r20 _ (List.mem_of_getElem? (i := 8) rfl)
theorem mw_20_9 : Cond.fieldLink RX2 191 "ClerkVotes$Row" "sentBy" "[I" ∈ GW := inG_r20 _ (List.mem_of_getElem? (i := 9) rfl)
theorem mw_20_10 : Cond.methodLink RX2 188 yX1_onTheirWayTo ∈ GW := inG_r20 _ (List.mem_of_getElem? (i := 10) rfl)
theorem mw_20_11 : Cond.instanceMethod yX1_onTheirWayTo ∈ GW := inG_r20 _ (List.mem_of_getElem? (i := 11) rfl)
theorem mw_20_12 : Cond.selects RX1 yX1_onTheirWayTo yX1_onTheirWayTo ∈ GW := inG_r20 _ (List.mem_of_getElem? (i := 12) rfl)
theorem mw_20_13 : Cond.code yX1_onTheirWayTo cX1_onTheirWayTo 4 (some .int) ∈ GW := inG_r20 _ (List.mem_of_getElem? (i := 13) rfl)
theorem mw_20_14 : Cond.methodLink RL 66 yX4_who ∈ GW := inG_r20 _ (List.mem_of_getElem? (i := 14) rfl)
theorem mw_20_15 : Cond.instanceMethod yX4_who ∈ GW := inG_r20 _ (List.mem_of_getElem? (i := 15) rfl)
theorem mw_20_16 : Cond.selects RX4 yX4_who yX4_who ∈ GW := inG_r20 _ (List.mem_of_getElem? (i := 16) rfl)
theorem mw_20_17 : Cond.code yX4_who cX4_who 3 (some .int) ∈ GW := inG_r20 _ (List.mem_of_getElem? (i := 17) rfl)
theorem mw_20_18 : Cond.methodLink RX4 124 yX4_underwayTo ∈ GW := inG_r20 _ (List.mem_of_getElem? (i := 18) rfl)
theorem mw_20_19 : Cond.instanceMethod yX4_underwayTo ∈ GW := inG_r20 _ (List.mem_of_getElem? (i := 19) rfl)
theorem mw_20_20 : Cond.selects RX4 yX4_underwayTo yX4_underwayTo ∈ GW := inG_r20 _ (List.mem_of_getElem? (i := 20) rfl)
theorem mw_20_21 : Cond.code yX4_underwayTo cX4_underwayTo 4 (some .int) ∈ GW := inG_r20 _ (List.mem_of_getElem? (i := 21) rfl)
theorem mw_20_22 : Cond.methodLink RL 67 yX3_count ∈ GW := inG_r20 _ (List.mem_of_getElem? (i := 22) rfl)
theorem mw_20_23 : Cond.instanceMethod yX3_count ∈ GW := inG_r20 _ (List.mem_of_getElem? (i := 23) rfl)
theorem mw_21_0 : Cond.selects RX3 yX3_count yX3_count ∈ GW := inG_r21 _ (List.mem_of_getElem? (i := 0) rfl)
theorem mw_21_1 : Cond.code yX3_count cX3_count 2 (some .int) ∈ GW := inG_r21 _ (List.mem_of_getElem? (i := 1) rfl)
theorem mw_21_2 : Cond.fieldLink RX3 90 "ClerkVotes" "padLength" "I" ∈ GW := inG_r21 _ (List.mem_of_getElem? (i := 2) rfl)
theorem mw_21_3 : Cond.methodLink RX3 97 yX2_numberOfAll ∈ GW := inG_r21 _ (List.mem_of_getElem? (i := 3) rfl)
theorem mw_21_4 : Cond.instanceMethod yX2_numberOfAll ∈ GW := inG_r21 _ (List.mem_of_getElem? (i := 4) rfl)
theorem mw_21_5 : Cond.selects RX2 yX2_numberOfAll yX2_numberOfAll ∈ GW := inG_r21 _ (List.mem_of_getElem? (i := 5) rfl)
theorem mw_21_6 : Cond.code yX2_numberOfAll cX2_numberOfAll 2 (some .int) ∈ GW := inG_r21 _ (List.mem_of_getElem? (i := 6) rfl)
theorem mw_21_7 : Cond.methodLink RX2 194 yX1_delivered ∈ GW := inG_r21 _ (List.mem_of_getElem? (i := 7) rfl)
theorem mw_21_8 : Cond.instanceMethod yX1_delivered ∈ GW := inG_r21 _ (List.mem_of_getElem? (i := 8) rfl)
theorem mw_21_9 : Cond.selects RX1 yX1_delivered yX1_delivered ∈ GW := inG_r21 _ (List.mem_of_getElem? (i := 9) rfl)
theorem mw_21_10 : Cond.code yX1_delivered cX1_delivered 3 (some .int) ∈ GW := inG_r21 _ (List.mem_of_getElem? (i := 10) rfl)
theorem mw_21_11 : Cond.methodLink RX2 198 yX2_dealsWithBoth ∈ GW := inG_r21 _ (List.mem_of_getElem? (i := 11) rfl)
theorem mw_21_12 : Cond.instanceMethod yX2_dealsWithBoth ∈ GW := inG_r21 _ (List.mem_of_getElem? (i := 12) rfl)
theorem mw_21_13 : Cond.selects RX2 yX2_dealsWithBoth yX2_dealsWithBoth ∈ GW := inG_r21 _ (List.mem_of_getElem? (i := 13) rfl)
theorem mw_21_14 : Cond.code yX2_dealsWithBoth cX2_dealsWithBoth 5 (some .int) ∈ GW := inG_r21 _ (List.mem_of_getElem? (i := 14) rfl)
theorem mw_21_15 : Cond.methodLink RL 70 yX4_count ∈ GW := inG_r21 _ (List.mem_of_getElem? (i := 15) rfl)
theorem mw_21_16 : Cond.instanceMethod yX4_count ∈ GW := inG_r21 _ (List.mem_of_getElem? (i := 16) rfl)
theorem mw_21_17 : Cond.selects RX4 yX4_count yX4_count ∈ GW := inG_r21 _ (List.mem_of_getElem? (i := 17) rfl)
theorem mw_21_18 : Cond.code yX4_count cX4_count 2 (some .int) ∈ GW := inG_r21 _ (List.mem_of_getElem? (i := 18) rfl)
theorem mw_21_19 : Cond.fieldLink RX4 131 "ClerkVotesModel" "signs" "I" ∈ GW := inG_r21 _ (List.mem_of_getElem? (i := 19) rfl)
theorem mw_21_20 : Cond.methodLink RX4 128 yX4_dealsWith ∈ GW := inG_r21 _ (List.mem_of_getElem? (i := 20) rfl)
theorem mw_21_21 : Cond.instanceMethod yX4_dealsWith ∈ GW := inG_r21 _ (List.mem_of_getElem? (i := 21) rfl)
theorem mw_21_22 : Cond.selects RX4 yX4_dealsWith yX4_dealsWith ∈ GW := inG_r21 _ (List.mem_of_getElem? (i := 22) rfl)
theorem mw_21_23 : Cond.code yX4_dealsWith cX4_dealsWith 6 (some .int) ∈ GW := inG_r21 _ (List.mem_of_getElem? (i := 23) rfl)
theorem mw_22_0 : Cond.methodLink RL 71 yX3_sure ∈ GW := inG_r22 _ (List.mem_of_getElem? (i := 0) rfl)
theorem mw_22_1 : Cond.instanceMethod yX3_sure ∈ GW := inG_r22 _ (List.mem_of_getElem? (i := 1) rfl)
theorem mw_22_2 : Cond.selects RX3 yX3_sure yX3_sure ∈ GW := inG_r22 _ (List.mem_of_getElem? (i := 2) rfl)
theorem mw_22_3 : Cond.code yX3_sure cX3_sure 2 (some .int) ∈ GW := inG_r22 _ (List.mem_of_getElem? (i := 3) rfl)
theorem mw_22_4 : Cond.methodLink RX3 100 yX2_whatIsSure ∈ GW := inG_r22 _ (List.mem_of_getElem? (i := 4) rfl)
theorem mw_22_5 : Cond.instanceMethod yX2_whatIsSure ∈ GW := inG_r22 _ (List.mem_of_getElem? (i := 5) rfl)
theorem mw_22_6 : Cond.selects RX2 yX2_whatIsSure yX2_whatIsSure ∈ GW := inG_r22 _ (List.mem_of_getElem? (i := 6) rfl)
theorem mw_22_7 : Cond.code yX2_whatIsSure cX2_whatIsSure 2 (some .int) ∈ GW := inG_r22 _ (List.mem_of_getElem? (i := 7) rfl)
theorem mw_22_8 : Cond.methodLink RL 74 yX4_sure ∈ GW := inG_r22 _ (List.mem_of_getElem? (i := 8) rfl)
theorem mw_22_9 : Cond.instanceMethod yX4_sure ∈ GW := inG_r22 _ (List.mem_of_getElem? (i := 9) rfl)
theorem mw_22_10 : Cond.selects RX4 yX4_sure yX4_sure ∈ GW := inG_r22 _ (List.mem_of_getElem? (i := 10) rfl)
theorem mw_22_11 : Cond.code yX4_sure cX4_sure 3 (some .int) ∈ GW := inG_r22 _ (List.mem_of_getElem? (i := 11) rfl)
theorem mw_22_12 : Cond.methodLink RL 75 yX3_couldAsk ∈ GW := inG_r22 _ (List.mem_of_getElem? (i := 12) rfl)
theorem mw_22_13 : Cond.instanceMethod yX3_couldAsk ∈ GW := inG_r22 _ (List.mem_of_getElem? (i := 13) rfl)
theorem mw_22_14 : Cond.selects RX3 yX3_couldAsk yX3_couldAsk ∈ GW := inG_r22 _ (List.mem_of_getElem? (i := 14) rfl)
theorem mw_22_15 : Cond.code yX3_couldAsk cX3_couldAsk 2 (some .int) ∈ GW := inG_r22 _ (List.mem_of_getElem? (i := 15) rfl)
theorem mw_22_16 : Cond.methodLink RX3 103 yX2_whoFindsOut ∈ GW := inG_r22 _ (List.mem_of_getElem? (i := 16) rfl)
theorem mw_22_17 : Cond.instanceMethod yX2_whoFindsOut ∈ GW := inG_r22 _ (List.mem_of_getElem? (i := 17) rfl)
theorem mw_22_18 : Cond.selects RX2 yX2_whoFindsOut yX2_whoFindsOut ∈ GW := inG_r22 _ (List.mem_of_getElem? (i := 18) rfl)
theorem mw_22_19 : Cond.code yX2_whoFindsOut cX2_whoFindsOut 6 (some .int) ∈ GW := inG_r22 _ (List.mem_of_getElem? (i := 19) rfl)
theorem mw_22_20 : Cond.methodLink RL 78 yX4_couldAsk ∈ GW := inG_r22 _ (List.mem_of_getElem? (i := 20) rfl)
theorem mw_22_21 : Cond.instanceMethod yX4_couldAsk ∈ GW := inG_r22 _ (List.mem_of_getElem? (i := 21) rfl)
theorem mw_22_22 : Cond.selects RX4 yX4_couldAsk yX4_couldAsk ∈ GW := inG_r22 _ (List.mem_of_getElem? (i := 22) rfl)
theorem mw_22_23 : Cond.code yX4_couldAsk cX4_couldAsk 4 (some .int) ∈ GW := inG_r22 _ (List.mem_of_getElem? (i := 23) rfl)
theorem mw_23_0 : Cond.methodLink RX4 134 yX4_canAsk ∈ GW := inG_r23 _ (List.mem_of_getElem? (i := 0) rfl)
theorem mw_23_1 : Cond.instanceMethod yX4_canAsk ∈ GW := inG_r23 _ (List.mem_of_getElem? (i := 1) rfl)
theorem mw_23_2 : Cond.selects RX4 yX4_canAsk yX4_canAsk ∈ GW := inG_r23 _ (List.mem_of_getElem? (i := 2) rfl)
theorem mw_23_3 : Cond.code yX4_canAsk cX4_canAsk 5 (some .boolean) ∈ GW := inG_r23 _ (List.mem_of_getElem? (i := 3) rfl)
theorem mw_23_4 : Cond.methodLink RL 79 yX3_settledIn ∈ GW := inG_r23 _ (List.mem_of_getElem? (i := 4) rfl)
theorem mw_23_5 : Cond.instanceMethod yX3_settledIn ∈ GW := inG_r23 _ (List.mem_of_getElem? (i := 5) rfl)
theorem mw_23_6 : Cond.selects RX3 yX3_settledIn yX3_settledIn ∈ GW := inG_r23 _ (List.mem_of_getElem? (i := 6) rfl)
theorem mw_23_7 : Cond.code yX3_settledIn cX3_settledIn 3 (some .int) ∈ GW := inG_r23 _ (List.mem_of_getElem? (i := 7) rfl)
theorem mw_23_8 : Cond.methodLink RX3 106 yX2_isDeal ∈ GW := inG_r23 _ (List.mem_of_getElem? (i := 8) rfl)
theorem mw_23_9 : Cond.methodLink RX3 114 yX2_roundsUntilSettled ∈ GW := inG_r23 _ (List.mem_of_getElem? (i := 9) rfl)
theorem mw_23_10 : Cond.instanceMethod yX2_roundsUntilSettled ∈ GW := inG_r23 _ (List.mem_of_getElem? (i := 10) rfl)
theorem mw_23_11 : Cond.selects RX2 yX2_roundsUntilSettled yX2_roundsUntilSettled ∈ GW := inG_r23 _ (List.mem_of_getElem? (i := 11) rfl)
theorem mw_23_12 : Cond.code yX2_roundsUntilSettled cX2_roundsUntilSettled 3 (some .int) ∈ GW := inG_r23 _ (List.mem_of_getElem? (i := 12) rfl)
theorem mw_23_13 : Cond.methodLink RX2 179 yX2_isSettled ∈ GW := inG_r23 _ (List.mem_of_getElem? (i := 13) rfl)
theorem mw_23_14 : Cond.instanceMethod yX2_isSettled ∈ GW := inG_r23 _ (List.mem_of_getElem? (i := 14) rfl)
theorem mw_23_15 : Cond.selects RX2 yX2_isSettled yX2_isSettled ∈ GW := inG_r23 _ (List.mem_of_getElem? (i := 15) rfl)
theorem mw_23_16 : Cond.code yX2_isSettled cX2_isSettled 2 (some .boolean) ∈ GW := inG_r23 _ (List.mem_of_getElem? (i := 16) rfl)
theorem mw_23_17 : Cond.methodLink RX2 182 yX2_passRound ∈ GW := inG_r23 _ (List.mem_of_getElem? (i := 17) rfl)
theorem mw_23_18 : Cond.instanceMethod yX2_passRound ∈ GW := inG_r23 _ (List.mem_of_getElem? (i := 18) rfl)
theorem mw_23_19 : Cond.selects RX2 yX2_passRound yX2_passRound ∈ GW := inG_r23 _ (List.mem_of_getElem? (i := 19) rfl)
theorem mw_23_20 : Cond.code yX2_passRound cX2_passRound 3 none ∈ GW := inG_r23 _ (List.mem_of_getElem? (i := 20) rfl)
theorem mw_23_21 : Cond.methodLink RX2 176 yX2_handOver ∈ GW := inG_r23 _ (List.mem_of_getElem? (i := 21) rfl)
theorem mw_23_22 : Cond.methodLink RL 82 yX4_settledIn ∈ GW := inG_r23 _ (List.mem_of_getElem? (i := 22) rfl)
theorem mw_23_23 : Cond.instanceMethod yX4_settledIn ∈ GW := inG_r23 _ (List.mem_of_getElem? (i := 23) rfl)
theorem mw_24_0 : Cond.selects RX4 yX4_settledIn yX4_settledIn ∈ GW := inG_r24 _ (List.mem_of_getElem? (i := 0) rfl)
theorem mw_24_1 : Cond.code yX4_settledIn cX4_settledIn 3 (some .int) ∈ GW := inG_r24 _ (List.mem_of_getElem? (i := 1) rfl)
theorem mw_24_2 : Cond.methodLink RX4 143 yX4_keep ∈ GW := inG_r24 _ (List.mem_of_getElem? (i := 2) rfl)
theorem mw_24_3 : Cond.instanceMethod yX4_keep ∈ GW := inG_r24 _ (List.mem_of_getElem? (i := 3) rfl)
theorem mw_24_4 : Cond.selects RX4 yX4_keep yX4_keep ∈ GW := inG_r24 _ (List.mem_of_getElem? (i := 4) rfl)
theorem mw_24_5 : Cond.code yX4_keep cX4_keep 2 none ∈ GW := inG_r24 _ (List.mem_of_getElem? (i := 5) rfl)
theorem mw_24_6 : Cond.methodLink RX4 146 yX4_roundsTo ∈ GW := inG_r24 _ (List.mem_of_getElem? (i := 6) rfl)
theorem mw_24_7 : Cond.instanceMethod yX4_roundsTo ∈ GW := inG_r24 _ (List.mem_of_getElem? (i := 7) rfl)
theorem mw_24_8 : Cond.selects RX4 yX4_roundsTo yX4_roundsTo ∈ GW := inG_r24 _ (List.mem_of_getElem? (i := 8) rfl)
theorem mw_24_9 : Cond.code yX4_roundsTo cX4_roundsTo 3 (some .int) ∈ GW := inG_r24 _ (List.mem_of_getElem? (i := 9) rfl)
theorem mw_24_10 : Cond.methodLink RX4 137 yX4_isSettled ∈ GW := inG_r24 _ (List.mem_of_getElem? (i := 10) rfl)
theorem mw_24_11 : Cond.instanceMethod yX4_isSettled ∈ GW := inG_r24 _ (List.mem_of_getElem? (i := 11) rfl)
theorem mw_24_12 : Cond.selects RX4 yX4_isSettled yX4_isSettled ∈ GW := inG_r24 _ (List.mem_of_getElem? (i := 12) rfl)
theorem mw_24_13 : Cond.code yX4_isSettled cX4_isSettled 2 (some .boolean) ∈ GW := inG_r24 _ (List.mem_of_getElem? (i := 13) rfl)
theorem mw_24_14 : Cond.methodLink RX4 140 yX4_goRound ∈ GW := inG_r24 _ (List.mem_of_getElem? (i := 14) rfl)
theorem mw_24_15 : Cond.instanceMethod yX4_goRound ∈ GW := inG_r24 _ (List.mem_of_getElem? (i := 15) rfl)
theorem mw_24_16 : Cond.selects RX4 yX4_goRound yX4_goRound ∈ GW := inG_r24 _ (List.mem_of_getElem? (i := 16) rfl)
theorem mw_24_17 : Cond.code yX4_goRound cX4_goRound 3 none ∈ GW := inG_r24 _ (List.mem_of_getElem? (i := 17) rfl)
theorem mw_24_18 : Cond.methodLink RX4 149 yX4_comeBack ∈ GW := inG_r24 _ (List.mem_of_getElem? (i := 18) rfl)
theorem mw_24_19 : Cond.instanceMethod yX4_comeBack ∈ GW := inG_r24 _ (List.mem_of_getElem? (i := 19) rfl)
theorem mw_24_20 : Cond.selects RX4 yX4_comeBack yX4_comeBack ∈ GW := inG_r24 _ (List.mem_of_getElem? (i := 20) rfl)
theorem mw_24_21 : Cond.code yX4_comeBack cX4_comeBack 2 none ∈ GW := inG_r24 _ (List.mem_of_getElem? (i := 21) rfl)
theorem mw_24_22 : Cond.methodLink RL 83 yX3_underwayIn ∈ GW := inG_r24 _ (List.mem_of_getElem? (i := 22) rfl)
theorem mw_24_23 : Cond.instanceMethod yX3_underwayIn ∈ GW := inG_r24 _ (List.mem_of_getElem? (i := 23) rfl)
theorem mw_25_0 : Cond.selects RX3 yX3_underwayIn yX3_underwayIn ∈ GW := inG_r25 _ (List.mem_of_getElem? (i := 0) rfl)
theorem mw_25_1 : Cond.code yX3_underwayIn cX3_underwayIn 3 (some .int) ∈ GW := inG_r25 _ (List.mem_of_getElem? (i := 1) rfl)
theorem mw_25_2 : Cond.fieldLink RX3 120 "ClerkVotes$Row" "length" "I" ∈ GW := inG_r25 _ (List.mem_of_getElem? (i := 2) rfl)
theorem mw_25_3 : Cond.methodLink RX3 117 yX2_passRound ∈ GW := inG_r25 _ (List.mem_of_getElem? (i := 3) rfl)
theorem mw_25_4 : Cond.methodLink RL 86 yX4_underwayIn ∈ GW := inG_r25 _ (List.mem_of_getElem? (i := 4) rfl)
theorem mw_25_5 : Cond.instanceMethod yX4_underwayIn ∈ GW := inG_r25 _ (List.mem_of_getElem? (i := 5) rfl)
theorem mw_25_6 : Cond.selects RX4 yX4_underwayIn yX4_underwayIn ∈ GW := inG_r25 _ (List.mem_of_getElem? (i := 6) rfl)
theorem mw_25_7 : Cond.code yX4_underwayIn cX4_underwayIn 3 (some .int) ∈ GW := inG_r25 _ (List.mem_of_getElem? (i := 7) rfl)
theorem mw_25_8 : Cond.methodLink RL 87 yX3_worstLoss ∈ GW := inG_r25 _ (List.mem_of_getElem? (i := 8) rfl)
theorem mw_25_9 : Cond.instanceMethod yX3_worstLoss ∈ GW := inG_r25 _ (List.mem_of_getElem? (i := 9) rfl)
theorem mw_25_10 : Cond.selects RX3 yX3_worstLoss yX3_worstLoss ∈ GW := inG_r25 _ (List.mem_of_getElem? (i := 10) rfl)
theorem mw_25_11 : Cond.code yX3_worstLoss cX3_worstLoss 7 (some .int) ∈ GW := inG_r25 _ (List.mem_of_getElem? (i := 11) rfl)
theorem mw_25_12 : Cond.methodLink RL 90 yX4_worstLoss ∈ GW := inG_r25 _ (List.mem_of_getElem? (i := 12) rfl)
theorem mw_25_13 : Cond.instanceMethod yX4_worstLoss ∈ GW := inG_r25 _ (List.mem_of_getElem? (i := 13) rfl)
theorem mw_25_14 : Cond.selects RX4 yX4_worstLoss yX4_worstLoss ∈ GW := inG_r25 _ (List.mem_of_getElem? (i := 14) rfl)
theorem mw_25_15 : Cond.code yX4_worstLoss cX4_worstLoss 8 (some .int) ∈ GW := inG_r25 _ (List.mem_of_getElem? (i := 15) rfl)
theorem mw_25_16 : Cond.methodLink RL 93 yX3_put ∈ GW := inG_r25 _ (List.mem_of_getElem? (i := 16) rfl)
theorem mw_25_17 : Cond.instanceMethod yX3_put ∈ GW := inG_r25 _ (List.mem_of_getElem? (i := 17) rfl)
theorem mw_25_18 : Cond.selects RX3 yX3_put yX3_put ∈ GW := inG_r25 _ (List.mem_of_getElem? (i := 18) rfl)
theorem mw_25_19 : Cond.code yX3_put cX3_put 5 (some .int) ∈ GW := inG_r25 _ (List.mem_of_getElem? (i := 19) rfl)
theorem mw_25_20 : Cond.methodLink RX3 123 yX3_charactersIn ∈ GW := inG_r25 _ (List.mem_of_getElem? (i := 20) rfl)
theorem mw_25_21 : Cond.static yX3_charactersIn ∈ GW := inG_r25 _ (List.mem_of_getElem? (i := 21) rfl)
theorem mw_25_22 : Cond.code yX3_charactersIn cX3_charactersIn 4 (some .int) ∈ GW := inG_r25 _ (List.mem_of_getElem? (i := 22) rfl)
theorem mw_25_23 : Cond.methodLink RX3 127 yX3_codeAt ∈ GW := inG_r25 _ (List.mem_of_getElem? (i := 23) rfl)
theorem mw_26_0 : Cond.static yX3_codeAt ∈ GW := inG_r26 _ (List.mem_of_getElem? (i := 0) rfl)
theorem mw_26_1 : Cond.code yX3_codeAt cX3_codeAt 3 (some .int) ∈ GW := inG_r26 _ (List.mem_of_getElem? (i := 1) rfl)
theorem mw_26_2 : Cond.constantLong RX3 156 (255) ∈ GW := inG_r26 _ (List.mem_of_getElem? (i := 2) rfl)
theorem mw_26_3 : Cond.methodLink RL 97 yX4_put ∈ GW := inG_r26 _ (List.mem_of_getElem? (i := 3) rfl)
theorem mw_26_4 : Cond.instanceMethod yX4_put ∈ GW := inG_r26 _ (List.mem_of_getElem? (i := 4) rfl)
theorem mw_26_5 : Cond.selects RX4 yX4_put yX4_put ∈ GW := inG_r26 _ (List.mem_of_getElem? (i := 5) rfl)
theorem mw_26_6 : Cond.code yX4_put cX4_put 7 (some .int) ∈ GW := inG_r26 _ (List.mem_of_getElem? (i := 6) rfl)
theorem mw_26_7 : Cond.constantLong RX4 179 (255) ∈ GW := inG_r26 _ (List.mem_of_getElem? (i := 7) rfl)
theorem mw_26_8 : Cond.methodLink RL 98 yX3_wipe ∈ GW := inG_r26 _ (List.mem_of_getElem? (i := 8) rfl)
theorem mw_26_9 : Cond.instanceMethod yX3_wipe ∈ GW := inG_r26 _ (List.mem_of_getElem? (i := 9) rfl)
theorem mw_26_10 : Cond.selects RX3 yX3_wipe yX3_wipe ∈ GW := inG_r26 _ (List.mem_of_getElem? (i := 10) rfl)
theorem mw_26_11 : Cond.code yX3_wipe cX3_wipe 2 (some .int) ∈ GW := inG_r26 _ (List.mem_of_getElem? (i := 11) rfl)
theorem mw_26_12 : Cond.methodLink RL 102 yX4_wipe ∈ GW := inG_r26 _ (List.mem_of_getElem? (i := 12) rfl)
theorem mw_26_13 : Cond.instanceMethod yX4_wipe ∈ GW := inG_r26 _ (List.mem_of_getElem? (i := 13) rfl)
theorem mw_26_14 : Cond.selects RX4 yX4_wipe yX4_wipe ∈ GW := inG_r26 _ (List.mem_of_getElem? (i := 14) rfl)
theorem mw_26_15 : Cond.code yX4_wipe cX4_wipe 2 (some .int) ∈ GW := inG_r26 _ (List.mem_of_getElem? (i := 15) rfl)
theorem mw_26_16 : Cond.methodLink RL 103 yX3_fault ∈ GW := inG_r26 _ (List.mem_of_getElem? (i := 16) rfl)
theorem mw_26_17 : Cond.instanceMethod yX3_fault ∈ GW := inG_r26 _ (List.mem_of_getElem? (i := 17) rfl)
theorem mw_26_18 : Cond.selects RX3 yX3_fault yX3_fault ∈ GW := inG_r26 _ (List.mem_of_getElem? (i := 18) rfl)
theorem mw_26_19 : Cond.code yX3_fault cX3_fault 1 (some .int) ∈ GW := inG_r26 _ (List.mem_of_getElem? (i := 19) rfl)
theorem mw_26_20 : Cond.methodLink RX3 131 yX3_faultOfPad ∈ GW := inG_r26 _ (List.mem_of_getElem? (i := 20) rfl)
theorem mw_26_21 : Cond.instanceMethod yX3_faultOfPad ∈ GW := inG_r26 _ (List.mem_of_getElem? (i := 21) rfl)
theorem mw_26_22 : Cond.selects RX3 yX3_faultOfPad yX3_faultOfPad ∈ GW := inG_r26 _ (List.mem_of_getElem? (i := 22) rfl)
theorem mw_26_23 : Cond.code yX3_faultOfPad cX3_faultOfPad 2 (some .int) ∈ GW := inG_r26 _ (List.mem_of_getElem? (i := 23) rfl)
theorem mw_27_0 : Cond.methodLink RX3 158 yX0_begin ∈ GW := inG_r27 _ (List.mem_of_getElem? (i := 0) rfl)
theorem mw_27_1 : Cond.instanceMethod yX0_begin ∈ GW := inG_r27 _ (List.mem_of_getElem? (i := 1) rfl)
theorem mw_27_2 : Cond.selects RX0 yX0_begin yX0_begin ∈ GW := inG_r27 _ (List.mem_of_getElem? (i := 2) rfl)
theorem mw_27_3 : Cond.code yX0_begin cX0_begin 1 none ∈ GW := inG_r27 _ (List.mem_of_getElem? (i := 3) rfl)
theorem mw_27_4 : Cond.fieldLink RX0 9 "ClerkVotes$OrderReader" "expected" "I" ∈ GW := inG_r27 _ (List.mem_of_getElem? (i := 4) rfl)
theorem mw_27_5 : Cond.methodLink RX3 161 yX0_takes ∈ GW := inG_r27 _ (List.mem_of_getElem? (i := 5) rfl)
theorem mw_27_6 : Cond.instanceMethod yX0_takes ∈ GW := inG_r27 _ (List.mem_of_getElem? (i := 6) rfl)
theorem mw_27_7 : Cond.selects RX0 yX0_takes yX0_takes ∈ GW := inG_r27 _ (List.mem_of_getElem? (i := 7) rfl)
theorem mw_27_8 : Cond.code yX0_takes cX0_takes 2 (some .boolean) ∈ GW := inG_r27 _ (List.mem_of_getElem? (i := 8) rfl)
theorem mw_27_9 : Cond.methodLink RX0 18 yX0_takesOrderEnd ∈ GW := inG_r27 _ (List.mem_of_getElem? (i := 9) rfl)
theorem mw_27_10 : Cond.instanceMethod yX0_takesOrderEnd ∈ GW := inG_r27 _ (List.mem_of_getElem? (i := 10) rfl)
theorem mw_27_11 : Cond.selects RX0 yX0_takesOrderEnd yX0_takesOrderEnd ∈ GW := inG_r27 _ (List.mem_of_getElem? (i := 11) rfl)
theorem mw_27_12 : Cond.code yX0_takesOrderEnd cX0_takesOrderEnd 1 (some .boolean) ∈ GW := inG_r27 _ (List.mem_of_getElem? (i := 12) rfl)
theorem mw_27_13 : Cond.methodLink RX0 38 yX0_mayEnd ∈ GW := inG_r27 _ (List.mem_of_getElem? (i := 13) rfl)
theorem mw_27_14 : Cond.instanceMethod yX0_mayEnd ∈ GW := inG_r27 _ (List.mem_of_getElem? (i := 14) rfl)
theorem mw_27_15 : Cond.selects RX0 yX0_mayEnd yX0_mayEnd ∈ GW := inG_r27 _ (List.mem_of_getElem? (i := 15) rfl)
theorem mw_27_16 : Cond.code yX0_mayEnd cX0_mayEnd 1 (some .boolean) ∈ GW := inG_r27 _ (List.mem_of_getElem? (i := 16) rfl)
theorem mw_27_17 : Cond.fieldLink RX0 15 "ClerkVotes$OrderReader" "value" "I" ∈ GW := inG_r27 _ (List.mem_of_getElem? (i := 17) rfl)
theorem mw_27_18 : Cond.methodLink RX0 22 yX0_takesLetter ∈ GW := inG_r27 _ (List.mem_of_getElem? (i := 18) rfl)
theorem mw_27_19 : Cond.instanceMethod yX0_takesLetter ∈ GW := inG_r27 _ (List.mem_of_getElem? (i := 19) rfl)
theorem mw_27_20 : Cond.selects RX0 yX0_takesLetter yX0_takesLetter ∈ GW := inG_r27 _ (List.mem_of_getElem? (i := 20) rfl)
theorem mw_27_21 : Cond.code yX0_takesLetter cX0_takesLetter 2 (some .boolean) ∈ GW := inG_r27 _ (List.mem_of_getElem? (i := 21) rfl)
theorem mw_27_22 : Cond.fieldLink RX0 41 "ClerkVotes$OrderReader" "letter" "I" ∈ GW := inG_r27 _ (List.mem_of_getElem? (i := 22) rfl)
theorem mw_27_23 : Cond.methodLink RX0 26 yX0_takesRisingClerk ∈ GW := inG_r27 _ (List.mem_of_getElem? (i := 23) rfl)
theorem mw_28_0 : Cond.instanceMethod yX0_takesRisingClerk ∈ GW := inG_r28 _ (List.mem_of_getElem? (i := 0) rfl)
theorem mw_28_1 : Cond.selects RX0 yX0_takesRisingClerk yX0_takesRisingClerk ∈ GW := inG_r28 _ (List.mem_of_getElem? (i := 1) rfl)
theorem mw_28_2 : Cond.code yX0_takesRisingClerk cX0_takesRisingClerk 3 (some .boolean) ∈ GW := inG_r28 _ (List.mem_of_getElem? (i := 2) rfl)
theorem mw_28_3 : Cond.methodLink RX0 29 yX0_takesDigit ∈ GW := inG_r28 _ (List.mem_of_getElem? (i := 3) rfl)
theorem mw_28_4 : Cond.instanceMethod yX0_takesDigit ∈ GW := inG_r28 _ (List.mem_of_getElem? (i := 4) rfl)
theorem mw_28_5 : Cond.selects RX0 yX0_takesDigit yX0_takesDigit ∈ GW := inG_r28 _ (List.mem_of_getElem? (i := 5) rfl)
theorem mw_28_6 : Cond.code yX0_takesDigit cX0_takesDigit 3 (some .boolean) ∈ GW := inG_r28 _ (List.mem_of_getElem? (i := 6) rfl)
theorem mw_28_7 : Cond.methodLink RX0 32 yX0_takesSomebody ∈ GW := inG_r28 _ (List.mem_of_getElem? (i := 7) rfl)
theorem mw_28_8 : Cond.instanceMethod yX0_takesSomebody ∈ GW := inG_r28 _ (List.mem_of_getElem? (i := 8) rfl)
theorem mw_28_9 : Cond.selects RX0 yX0_takesSomebody yX0_takesSomebody ∈ GW := inG_r28 _ (List.mem_of_getElem? (i := 9) rfl)
theorem mw_28_10 : Cond.code yX0_takesSomebody cX0_takesSomebody 4 (some .boolean) ∈ GW := inG_r28 _ (List.mem_of_getElem? (i := 10) rfl)
theorem mw_28_11 : Cond.methodLink RX0 35 yX0_takesSign ∈ GW := inG_r28 _ (List.mem_of_getElem? (i := 11) rfl)
theorem mw_28_12 : Cond.instanceMethod yX0_takesSign ∈ GW := inG_r28 _ (List.mem_of_getElem? (i := 12) rfl)
theorem mw_28_13 : Cond.selects RX0 yX0_takesSign yX0_takesSign ∈ GW := inG_r28 _ (List.mem_of_getElem? (i := 13) rfl)
theorem mw_28_14 : Cond.code yX0_takesSign cX0_takesSign 2 (some .boolean) ∈ GW := inG_r28 _ (List.mem_of_getElem? (i := 14) rfl)
theorem mw_28_15 : Cond.fieldLink RX0 44 "ClerkVotes$OrderReader" "willingness" "I" ∈ GW := inG_r28 _ (List.mem_of_getElem? (i := 15) rfl)
theorem mw_28_16 : Cond.methodLink RX3 164 yX0_mayEnd ∈ GW := inG_r28 _ (List.mem_of_getElem? (i := 16) rfl)
theorem mw_28_17 : Cond.methodLink RL 106 yX4_fault ∈ GW := inG_r28 _ (List.mem_of_getElem? (i := 17) rfl)
theorem mw_28_18 : Cond.instanceMethod yX4_fault ∈ GW := inG_r28 _ (List.mem_of_getElem? (i := 18) rfl)
theorem mw_28_19 : Cond.selects RX4 yX4_fault yX4_fault ∈ GW := inG_r28 _ (List.mem_of_getElem? (i := 19) rfl)
theorem mw_28_20 : Cond.code yX4_fault cX4_fault 1 (some .int) ∈ GW := inG_r28 _ (List.mem_of_getElem? (i := 20) rfl)
theorem mw_28_21 : Cond.methodLink RX4 181 yX4_faultOf ∈ GW := inG_r28 _ (List.mem_of_getElem? (i := 21) rfl)
theorem mw_28_22 : Cond.instanceMethod yX4_faultOf ∈ GW := inG_r28 _ (List.mem_of_getElem? (i := 22) rfl)
theorem mw_28_23 : Cond.selects RX4 yX4_faultOf yX4_faultOf ∈ GW := inG_r28 _ (List.mem_of_getElem? (i := 23) rfl)
theorem mw_29_0 : Cond.code yX4_faultOf cX4_faultOf 1 (some .int) ∈ GW := inG_r29 _ (List.mem_of_getElem? (i := 0) rfl)
theorem mw_29_1 : Cond.fieldLink RX4 152 "ClerkVotesModel" "place" "I" ∈ GW := inG_r29 _ (List.mem_of_getElem? (i := 1) rfl)
theorem mw_29_2 : Cond.fieldLink RX4 164 "ClerkVotesModel" "read" "I" ∈ GW := inG_r29 _ (List.mem_of_getElem? (i := 2) rfl)
theorem mw_29_3 : Cond.fieldLink RX4 158 "ClerkVotesModel" "isWrong" "Z" ∈ GW := inG_r29 _ (List.mem_of_getElem? (i := 3) rfl)
theorem mw_29_4 : Cond.methodLink RX4 176 yX4_readOne ∈ GW := inG_r29 _ (List.mem_of_getElem? (i := 4) rfl)
theorem mw_29_5 : Cond.instanceMethod yX4_readOne ∈ GW := inG_r29 _ (List.mem_of_getElem? (i := 5) rfl)
theorem mw_29_6 : Cond.selects RX4 yX4_readOne yX4_readOne ∈ GW := inG_r29 _ (List.mem_of_getElem? (i := 6) rfl)
theorem mw_29_7 : Cond.code yX4_readOne cX4_readOne 3 none ∈ GW := inG_r29 _ (List.mem_of_getElem? (i := 7) rfl)
theorem mw_29_8 : Cond.methodLink RX4 155 yX4_sign ∈ GW := inG_r29 _ (List.mem_of_getElem? (i := 8) rfl)
theorem mw_29_9 : Cond.instanceMethod yX4_sign ∈ GW := inG_r29 _ (List.mem_of_getElem? (i := 9) rfl)
theorem mw_29_10 : Cond.selects RX4 yX4_sign yX4_sign ∈ GW := inG_r29 _ (List.mem_of_getElem? (i := 10) rfl)
theorem mw_29_11 : Cond.code yX4_sign cX4_sign 1 (some .int) ∈ GW := inG_r29 _ (List.mem_of_getElem? (i := 11) rfl)
theorem mw_29_12 : Cond.methodLink RX4 167 yX4_clerks ∈ GW := inG_r29 _ (List.mem_of_getElem? (i := 12) rfl)
theorem mw_29_13 : Cond.instanceMethod yX4_clerks ∈ GW := inG_r29 _ (List.mem_of_getElem? (i := 13) rfl)
theorem mw_29_14 : Cond.selects RX4 yX4_clerks yX4_clerks ∈ GW := inG_r29 _ (List.mem_of_getElem? (i := 14) rfl)
theorem mw_29_15 : Cond.code yX4_clerks cX4_clerks 3 (some .int) ∈ GW := inG_r29 _ (List.mem_of_getElem? (i := 15) rfl)
theorem mw_29_16 : Cond.methodLink RX4 161 yX4_one ∈ GW := inG_r29 _ (List.mem_of_getElem? (i := 16) rfl)
theorem mw_29_17 : Cond.instanceMethod yX4_one ∈ GW := inG_r29 _ (List.mem_of_getElem? (i := 17) rfl)
theorem mw_29_18 : Cond.selects RX4 yX4_one yX4_one ∈ GW := inG_r29 _ (List.mem_of_getElem? (i := 18) rfl)
theorem mw_29_19 : Cond.code yX4_one cX4_one 4 (some .int) ∈ GW := inG_r29 _ (List.mem_of_getElem? (i := 19) rfl)
theorem mw_29_20 : Cond.methodLink RX4 170 yX4_number ∈ GW := inG_r29 _ (List.mem_of_getElem? (i := 20) rfl)
theorem mw_29_21 : Cond.instanceMethod yX4_number ∈ GW := inG_r29 _ (List.mem_of_getElem? (i := 21) rfl)
theorem mw_29_22 : Cond.selects RX4 yX4_number yX4_number ∈ GW := inG_r29 _ (List.mem_of_getElem? (i := 22) rfl)
theorem mw_29_23 : Cond.code yX4_number cX4_number 2 (some .int) ∈ GW := inG_r29 _ (List.mem_of_getElem? (i := 23) rfl)
theorem mw_30_0 : Cond.methodLink RX4 173 yX4_plus ∈ GW := inG_r30 _ (List.mem_of_getElem? (i := 0) rfl)
theorem mw_30_1 : Cond.instanceMethod yX4_plus ∈ GW := inG_r30 _ (List.mem_of_getElem? (i := 1) rfl)
theorem mw_30_2 : Cond.selects RX4 yX4_plus yX4_plus ∈ GW := inG_r30 _ (List.mem_of_getElem? (i := 2) rfl)
theorem mw_30_3 : Cond.code yX4_plus cX4_plus 2 (some .int) ∈ GW := inG_r30 _ (List.mem_of_getElem? (i := 3) rfl)
theorem mw_30_4 : Cond.methodLink RL 107 yX3_carryOut ∈ GW := inG_r30 _ (List.mem_of_getElem? (i := 4) rfl)
theorem mw_30_5 : Cond.instanceMethod yX3_carryOut ∈ GW := inG_r30 _ (List.mem_of_getElem? (i := 5) rfl)
theorem mw_30_6 : Cond.selects RX3 yX3_carryOut yX3_carryOut ∈ GW := inG_r30 _ (List.mem_of_getElem? (i := 6) rfl)
theorem mw_30_7 : Cond.code yX3_carryOut cX3_carryOut 2 (some .int) ∈ GW := inG_r30 _ (List.mem_of_getElem? (i := 7) rfl)
theorem mw_30_8 : Cond.methodLink RX3 135 yX3_carryOutOrders ∈ GW := inG_r30 _ (List.mem_of_getElem? (i := 8) rfl)
theorem mw_30_9 : Cond.instanceMethod yX3_carryOutOrders ∈ GW := inG_r30 _ (List.mem_of_getElem? (i := 9) rfl)
theorem mw_30_10 : Cond.selects RX3 yX3_carryOutOrders yX3_carryOutOrders ∈ GW := inG_r30 _ (List.mem_of_getElem? (i := 10) rfl)
theorem mw_30_11 : Cond.code yX3_carryOutOrders cX3_carryOutOrders 4 (some .int) ∈ GW := inG_r30 _ (List.mem_of_getElem? (i := 11) rfl)
theorem mw_30_12 : Cond.methodLink RX3 168 yX3_carryOutOrder ∈ GW := inG_r30 _ (List.mem_of_getElem? (i := 12) rfl)
theorem mw_30_13 : Cond.instanceMethod yX3_carryOutOrder ∈ GW := inG_r30 _ (List.mem_of_getElem? (i := 13) rfl)
theorem mw_30_14 : Cond.selects RX3 yX3_carryOutOrder yX3_carryOutOrder ∈ GW := inG_r30 _ (List.mem_of_getElem? (i := 14) rfl)
theorem mw_30_15 : Cond.code yX3_carryOutOrder cX3_carryOutOrder 2 (some .int) ∈ GW := inG_r30 _ (List.mem_of_getElem? (i := 15) rfl)
theorem mw_30_16 : Cond.fieldLink RX3 171 "ClerkVotes$OrderReader" "value" "I" ∈ GW := inG_r30 _ (List.mem_of_getElem? (i := 16) rfl)
theorem mw_30_17 : Cond.fieldLink RX3 174 "ClerkVotes$OrderReader" "letter" "I" ∈ GW := inG_r30 _ (List.mem_of_getElem? (i := 17) rfl)
theorem mw_30_18 : Cond.fieldLink RX3 177 "ClerkVotes$OrderReader" "willingness" "I" ∈ GW := inG_r30 _ (List.mem_of_getElem? (i := 18) rfl)
theorem mw_30_19 : Cond.methodLink RL 110 yX4_carryOut ∈ GW := inG_r30 _ (List.mem_of_getElem? (i := 19) rfl)
theorem mw_30_20 : Cond.instanceMethod yX4_carryOut ∈ GW := inG_r30 _ (List.mem_of_getElem? (i := 20) rfl)
theorem mw_30_21 : Cond.selects RX4 yX4_carryOut yX4_carryOut ∈ GW := inG_r30 _ (List.mem_of_getElem? (i := 21) rfl)
theorem mw_30_22 : Cond.code yX4_carryOut cX4_carryOut 2 (some .int) ∈ GW := inG_r30 _ (List.mem_of_getElem? (i := 22) rfl)
theorem mw_30_23 : Cond.methodLink RX4 205 yX4_carry ∈ GW := inG_r30 _ (List.mem_of_getElem? (i := 23) rfl)
theorem mw_31_0 : Cond.instanceMethod yX4_carry ∈ GW := inG_r31 _ (List.mem_of_getElem? (i := 0) rfl)
theorem mw_31_1 : Cond.selects RX4 yX4_carry yX4_carry ∈ GW := inG_r31 _ (List.mem_of_getElem? (i := 1) rfl)
theorem mw_31_2 : Cond.code yX4_carry cX4_carry 3 (some .int) ∈ GW := inG_r31 _ (List.mem_of_getElem? (i := 2) rfl)
theorem mw_31_3 : Cond.methodLink RX4 184 yX4_open ∈ GW := inG_r31 _ (List.mem_of_getElem? (i := 3) rfl)
theorem mw_31_4 : Cond.methodLink RX4 187 yX4_deliver ∈ GW := inG_r31 _ (List.mem_of_getElem? (i := 4) rfl)
theorem mw_31_5 : Cond.methodLink RX4 190 yX4_lose ∈ GW := inG_r31 _ (List.mem_of_getElem? (i := 5) rfl)
theorem mw_31_6 : Cond.methodLink RX4 193 yX4_fall ∈ GW := inG_r31 _ (List.mem_of_getElem? (i := 6) rfl)
theorem mw_31_7 : Cond.methodLink RX4 196 yX4_rise ∈ GW := inG_r31 _ (List.mem_of_getElem? (i := 7) rfl)
theorem mw_31_8 : Cond.methodLink RX4 199 yX4_willing ∈ GW := inG_r31 _ (List.mem_of_getElem? (i := 8) rfl)
theorem mw_31_9 : Cond.methodLink RX4 202 yX4_ticks ∈ GW := inG_r31 _ (List.mem_of_getElem? (i := 9) rfl)
theorem mw_31_10 : Cond.methodLink RL 111 yX3_undo ∈ GW := inG_r31 _ (List.mem_of_getElem? (i := 10) rfl)
theorem mw_31_11 : Cond.instanceMethod yX3_undo ∈ GW := inG_r31 _ (List.mem_of_getElem? (i := 11) rfl)
theorem mw_31_12 : Cond.selects RX3 yX3_undo yX3_undo ∈ GW := inG_r31 _ (List.mem_of_getElem? (i := 12) rfl)
theorem mw_31_13 : Cond.code yX3_undo cX3_undo 1 (some .int) ∈ GW := inG_r31 _ (List.mem_of_getElem? (i := 13) rfl)
theorem mw_31_14 : Cond.methodLink RL 114 yX4_undo ∈ GW := inG_r31 _ (List.mem_of_getElem? (i := 14) rfl)
theorem mw_31_15 : Cond.instanceMethod yX4_undo ∈ GW := inG_r31 _ (List.mem_of_getElem? (i := 15) rfl)
theorem mw_31_16 : Cond.selects RX4 yX4_undo yX4_undo ∈ GW := inG_r31 _ (List.mem_of_getElem? (i := 16) rfl)
theorem mw_31_17 : Cond.code yX4_undo cX4_undo 2 (some .int) ∈ GW := inG_r31 _ (List.mem_of_getElem? (i := 17) rfl)
theorem mw_31_18 : Cond.methodLink RL 115 yX3_save ∈ GW := inG_r31 _ (List.mem_of_getElem? (i := 18) rfl)
theorem mw_31_19 : Cond.instanceMethod yX3_save ∈ GW := inG_r31 _ (List.mem_of_getElem? (i := 19) rfl)
theorem mw_31_20 : Cond.selects RX3 yX3_save yX3_save ∈ GW := inG_r31 _ (List.mem_of_getElem? (i := 20) rfl)
theorem mw_31_21 : Cond.code yX3_save cX3_save 2 (some .int) ∈ GW := inG_r31 _ (List.mem_of_getElem? (i := 21) rfl)
theorem mw_31_22 : Cond.fieldLink RX3 141 "ClerkVotes" "savedSlots" "I" ∈ GW := inG_r31 _ (List.mem_of_getElem? (i := 22) rfl)
theorem mw_31_23 : Cond.fieldLink RX3 144 "ClerkVotes$State" "tick" "I" ∈ GW := inG_r31 _ (List.mem_of_getElem? (i := 23) rfl)
theorem mw_32_0 : Cond.methodLink RL 118 yX4_save ∈ GW := inG_r32 _ (List.mem_of_getElem? (i := 0) rfl)
theorem mw_32_1 : Cond.instanceMethod yX4_save ∈ GW := inG_r32 _ (List.mem_of_getElem? (i := 1) rfl)
theorem mw_32_2 : Cond.selects RX4 yX4_save yX4_save ∈ GW := inG_r32 _ (List.mem_of_getElem? (i := 2) rfl)
theorem mw_32_3 : Cond.code yX4_save cX4_save 3 (some .int) ∈ GW := inG_r32 _ (List.mem_of_getElem? (i := 3) rfl)
theorem mw_32_4 : Cond.methodLink RL 119 yX3_restore ∈ GW := inG_r32 _ (List.mem_of_getElem? (i := 4) rfl)
theorem mw_32_5 : Cond.instanceMethod yX3_restore ∈ GW := inG_r32 _ (List.mem_of_getElem? (i := 5) rfl)
theorem mw_32_6 : Cond.selects RX3 yX3_restore yX3_restore ∈ GW := inG_r32 _ (List.mem_of_getElem? (i := 6) rfl)
theorem mw_32_7 : Cond.code yX3_restore cX3_restore 2 (some .int) ∈ GW := inG_r32 _ (List.mem_of_getElem? (i := 7) rfl)
theorem mw_32_8 : Cond.methodLink RX3 147 yX3_isIn ∈ GW := inG_r32 _ (List.mem_of_getElem? (i := 8) rfl)
theorem mw_32_9 : Cond.methodLink RL 122 yX4_restore ∈ GW := inG_r32 _ (List.mem_of_getElem? (i := 9) rfl)
theorem mw_32_10 : Cond.instanceMethod yX4_restore ∈ GW := inG_r32 _ (List.mem_of_getElem? (i := 10) rfl)
theorem mw_32_11 : Cond.selects RX4 yX4_restore yX4_restore ∈ GW := inG_r32 _ (List.mem_of_getElem? (i := 11) rfl)
theorem mw_32_12 : Cond.code yX4_restore cX4_restore 3 (some .int) ∈ GW := inG_r32 _ (List.mem_of_getElem? (i := 12) rfl)
end
section
theorem dJ6_bitCount_0f7a4_0 : decode cJ6_bitCount_0f7a4 0 = .ok (.iload_n 0, 1) := by decide +kernel
theorem dJ6_bitCount_0f7a4_1 : decode cJ6_bitCount_0f7a4 1 = .ok (.iload_n 0, 1) := by decide +kernel
theorem dJ6_bitCount_0f7a4_2 : decode cJ6_bitCount_0f7a4 2 = .ok (.iconst 1, 1) := by decide +kernel
theorem dJ6_bitCount_0f7a4_3 : decode cJ6_bitCount_0f7a4 3 = .ok (.iushr, 1) := by decide +kernel
theorem dJ6_bitCount_0f7a4_4 : decode cJ6_bitCount_0f7a4 4 = .ok (.ldc_w 265, 3) := by decide +kernel
theorem dJ6_bitCount_0f7a4_7 : decode cJ6_bitCount_0f7a4 7 = .ok (.iand, 1) := by decide +kernel
theorem dJ6_bitCount_0f7a4_8 : decode cJ6_bitCount_0f7a4 8 = .ok (.isub, 1) := by decide +kernel
theorem dJ6_bitCount_0f7a4_9 : decode cJ6_bitCount_0f7a4 9 = .ok (.istore_n 0, 1) := by decide +kernel
theorem dJ6_bitCount_0f7a4_10 : decode cJ6_bitCount_0f7a4 10 = .ok (.iload_n 0, 1) := by decide +kernel
theorem dJ6_bitCount_0f7a4_11 : decode cJ6_bitCount_0f7a4 11 = .ok (.ldc_w 266, 3) := by decide +kernel
theorem dJ6_bitCount_0f7a4_14 : decode cJ6_bitCount_0f7a4 14 = .ok (.iand, 1) := by decide +kernel
theorem dJ6_bitCount_0f7a4_15 : decode cJ6_bitCount_0f7a4 15 = .ok (.iload_n 0, 1) := by decide +kernel
theorem dJ6_bitCount_0f7a4_16 : decode cJ6_bitCount_0f7a4 16 = .ok (.iconst 2, 1) := by decide +kernel
theorem dJ6_bitCount_0f7a4_17 : decode cJ6_bitCount_0f7a4 17 = .ok (.iushr, 1) := by decide +kernel
theorem dJ6_bitCount_0f7a4_18 : decode cJ6_bitCount_0f7a4 18 = .ok (.ldc_w 266, 3) := by decide +kernel
theorem dJ6_bitCount_0f7a4_21 : decode cJ6_bitCount_0f7a4 21 = .ok (.iand, 1) := by decide +kernel
theorem dJ6_bitCount_0f7a4_22 : decode cJ6_bitCount_0f7a4 22 = .ok (.iadd, 1) := by decide +kernel
theorem dJ6_bitCount_0f7a4_23 : decode cJ6_bitCount_0f7a4 23 = .ok (.istore_n 0, 1) := by decide +kernel
theorem dJ6_bitCount_0f7a4_24 : decode cJ6_bitCount_0f7a4 24 = .ok (.iload_n 0, 1) := by decide +kernel
theorem dJ6_bitCount_0f7a4_25 : decode cJ6_bitCount_0f7a4 25 = .ok (.iload_n 0, 1) := by decide +kernel
theorem dJ6_bitCount_0f7a4_26 : decode cJ6_bitCount_0f7a4 26 = .ok (.iconst 4, 1) := by decide +kernel
theorem dJ6_bitCount_0f7a4_27 : decode cJ6_bitCount_0f7a4 27 = .ok (.iushr, 1) := by decide +kernel
theorem dJ6_bitCount_0f7a4_28 : decode cJ6_bitCount_0f7a4 28 = .ok (.iadd, 1) := by decide +kernel
theorem dJ6_bitCount_0f7a4_29 : decode cJ6_bitCount_0f7a4 29 = .ok (.ldc_w 267, 3) := by decide +kernel
theorem dJ6_bitCount_0f7a4_32 : decode cJ6_bitCount_0f7a4 32 = .ok (.iand, 1) := by decide +kernel
theorem dJ6_bitCount_0f7a4_33 : decode cJ6_bitCount_0f7a4 33 = .ok (.istore_n 0, 1) := by decide +kernel
theorem dJ6_bitCount_0f7a4_34 : decode cJ6_bitCount_0f7a4 34 = .ok (.iload_n 0, 1) := by decide +kernel
theorem dJ6_bitCount_0f7a4_35 : decode cJ6_bitCount_0f7a4 35 = .ok (.iload_n 0, 1) := by decide +kernel
theorem dJ6_bitCount_0f7a4_36 : decode cJ6_bitCount_0f7a4 36 = .ok (.bipush 8, 2) := by decide +kernel
theorem dJ6_bitCount_0f7a4_38 : decode cJ6_bitCount_0f7a4 38 = .ok (.iushr, 1) := by decide +kernel
theorem dJ6_bitCount_0f7a4_39 : decode cJ6_bitCount_0f7a4 39 = .ok (.iadd, 1) := by decide +kernel
theorem dJ6_bitCount_0f7a4_40 : decode cJ6_bitCount_0f7a4 40 = .ok (.istore_n 0, 1) := by decide +kernel
theorem dJ6_bitCount_0f7a4_41 : decode cJ6_bitCount_0f7a4 41 = .ok (.iload_n 0, 1) := by decide +kernel
theorem dJ6_bitCount_0f7a4_42 : decode cJ6_bitCount_0f7a4 42 = .ok (.iload_n 0, 1) := by decide +kernel
theorem dJ6_bitCount_0f7a4_43 : decode cJ6_bitCount_0f7a4 43 = .ok (.bipush 16, 2) := by decide +kernel
theorem dJ6_bitCount_0f7a4_45 : decode cJ6_bitCount_0f7a4 45 = .ok (.iushr, 1) := by decide +kernel
theorem dJ6_bitCount_0f7a4_46 : decode cJ6_bitCount_0f7a4 46 = .ok (.iadd, 1) := by decide +kernel
theorem dJ6_bitCount_0f7a4_47 : decode cJ6_bitCount_0f7a4 47 = .ok (.istore_n 0, 1) := by decide +kernel
theorem dJ6_bitCount_0f7a4_48 : decode cJ6_bitCount_0f7a4 48 = .ok (.iload_n 0, 1) := by decide +kernel
theorem dJ6_bitCount_0f7a4_49 : decode cJ6_bitCount_0f7a4 49 = .ok (.bipush 63, 2) := by decide +kernel
theorem dJ6_bitCount_0f7a4_51 : decode cJ6_bitCount_0f7a4 51 = .ok (.iand, 1) := by decide +kernel
theorem dJ6_bitCount_0f7a4_52 : decode cJ6_bitCount_0f7a4 52 = .ok (.ireturn, 1) := by decide +kernel
theorem dJ9_min_7cf53_0 : decode cJ9_min_7cf53 0 = .ok (.iload_n 0, 1) := by decide +kernel
theorem dJ9_min_7cf53_1 : decode cJ9_min_7cf53 1 = .ok (.iload_n 1, 1) := by decide +kernel
theorem dJ9_min_7cf53_2 : decode cJ9_min_7cf53 2 = .ok (.if_icmp .gt 7, 3) := by decide +kernel
theorem dJ9_min_7cf53_5 : decode cJ9_min_7cf53 5 = .ok (.iload_n 0, 1) := by decide +kernel
theorem dJ9_min_7cf53_6 : decode cJ9_min_7cf53 6 = .ok (.goto 4, 3) := by decide +kernel
theorem dJ9_min_7cf53_9 : decode cJ9_min_7cf53 9 = .ok (.iload_n 1, 1) := by decide +kernel
theorem dJ9_min_7cf53_10 : decode cJ9_min_7cf53 10 = .ok (.ireturn, 1) := by decide +kernel
theorem dX0_init_0 : decode cX0_init 0 = .ok (.aload_n 0, 1) := by decide +kernel
theorem dX0_init_1 : decode cX0_init 1 = .ok (.invokespecial 3, 3) := by decide +kernel
theorem dX0_init_4 : decode cX0_init 4 = .ok (.return_, 1) := by decide +kernel
theorem dX0_begin_0 : decode cX0_begin 0 = .ok (.aload_n 0, 1) := by decide +kernel
theorem dX0_begin_1 : decode cX0_begin 1 = .ok (.iconst 0, 1) := by decide +kernel
theorem dX0_begin_2 : decode cX0_begin 2 = .ok (.putfield 9, 3) := by decide +kernel
theorem dX0_begin_5 : decode cX0_begin 5 = .ok (.return_, 1) := by decide +kernel
theorem dX0_mayEnd_0 : decode cX0_mayEnd 0 = .ok (.aload_n 0, 1) := by decide +kernel
theorem dX0_mayEnd_1 : decode cX0_mayEnd 1 = .ok (.getfield 9, 3) := by decide +kernel
theorem dX0_mayEnd_4 : decode cX0_mayEnd 4 = .ok (.lookupswitch 54 #[(1, 28), (2, 41)], 28) := by decide +kernel
theorem dX0_mayEnd_32 : decode cX0_mayEnd 32 = .ok (.aload_n 0, 1) := by decide +kernel
theorem dX0_mayEnd_33 : decode cX0_mayEnd 33 = .ok (.getfield 15, 3) := by decide +kernel
theorem dX0_mayEnd_36 : decode cX0_mayEnd 36 = .ok (.ifCond .le 7, 3) := by decide +kernel
theorem dX0_mayEnd_39 : decode cX0_mayEnd 39 = .ok (.iconst 1, 1) := by decide +kernel
theorem dX0_mayEnd_40 : decode cX0_mayEnd 40 = .ok (.goto 4, 3) := by decide +kernel
theorem dX0_mayEnd_43 : decode cX0_mayEnd 43 = .ok (.iconst 0, 1) := by decide +kernel
theorem dX0_mayEnd_44 : decode cX0_mayEnd 44 = .ok (.ireturn, 1) := by decide +kernel
theorem dX0_mayEnd_45 : decode cX0_mayEnd 45 = .ok (.aload_n 0, 1) := by decide +kernel
theorem dX0_mayEnd_46 : decode cX0_mayEnd 46 = .ok (.getfield 15, 3) := by decide +kernel
theorem dX0_mayEnd_49 : decode cX0_mayEnd 49 = .ok (.ifCond .lt 7, 3) := by decide +kernel
theorem dX0_mayEnd_52 : decode cX0_mayEnd 52 = .ok (.iconst 1, 1) := by decide +kernel
theorem dX0_mayEnd_53 : decode cX0_mayEnd 53 = .ok (.goto 4, 3) := by decide +kernel
theorem dX0_mayEnd_56 : decode cX0_mayEnd 56 = .ok (.iconst 0, 1) := by decide +kernel
theorem dX0_mayEnd_57 : decode cX0_mayEnd 57 = .ok (.ireturn, 1) := by decide +kernel
theorem dX0_mayEnd_58 : decode cX0_mayEnd 58 = .ok (.aload_n 0, 1) := by decide +kernel
theorem dX0_mayEnd_59 : decode cX0_mayEnd 59 = .ok (.getfield 9, 3) := by decide +kernel
theorem dX0_mayEnd_62 : decode cX0_mayEnd 62 = .ok (.iconst 5, 1) := by decide +kernel
theorem dX0_mayEnd_63 : decode cX0_mayEnd 63 = .ok (.if_icmp .ne 7, 3) := by decide +kernel
theorem dX0_mayEnd_66 : decode cX0_mayEnd 66 = .ok (.iconst 1, 1) := by decide +kernel
theorem dX0_mayEnd_67 : decode cX0_mayEnd 67 = .ok (.goto 4, 3) := by decide +kernel
theorem dX0_mayEnd_70 : decode cX0_mayEnd 70 = .ok (.iconst 0, 1) := by decide +kernel
theorem dX0_mayEnd_71 : decode cX0_mayEnd 71 = .ok (.ireturn, 1) := by decide +kernel
theorem dX0_takes_0 : decode cX0_takes 0 = .ok (.iload_n 1, 1) := by decide +kernel
theorem dX0_takes_1 : decode cX0_takes 1 = .ok (.bipush 59, 2) := by decide +kernel
theorem dX0_takes_3 : decode cX0_takes 3 = .ok (.if_icmp .ne 8, 3) := by decide +kernel
theorem dX0_takes_6 : decode cX0_takes 6 = .ok (.aload_n 0, 1) := by decide +kernel
theorem dX0_takes_7 : decode cX0_takes 7 = .ok (.invokevirtual 18, 3) := by decide +kernel
theorem dX0_takes_10 : decode cX0_takes 10 = .ok (.ireturn, 1) := by decide +kernel
theorem dX0_takes_11 : decode cX0_takes 11 = .ok (.aload_n 0, 1) := by decide +kernel
theorem dX0_takes_12 : decode cX0_takes 12 = .ok (.getfield 9, 3) := by decide +kernel
theorem dX0_takes_15 : decode cX0_takes 15 = .ok (.tableswitch 63 0 4 #[33, 39, 45, 51, 57], 33) := by decide +kernel
theorem dX0_takes_48 : decode cX0_takes 48 = .ok (.aload_n 0, 1) := by decide +kernel
theorem dX0_takes_49 : decode cX0_takes 49 = .ok (.iload_n 1, 1) := by decide +kernel
theorem dX0_takes_50 : decode cX0_takes 50 = .ok (.invokevirtual 22, 3) := by decide +kernel
theorem dX0_takes_53 : decode cX0_takes 53 = .ok (.ireturn, 1) := by decide +kernel
theorem dX0_takes_54 : decode cX0_takes 54 = .ok (.aload_n 0, 1) := by decide +kernel
theorem dX0_takes_55 : decode cX0_takes 55 = .ok (.iload_n 1, 1) := by decide +kernel
theorem dX0_takes_56 : decode cX0_takes 56 = .ok (.invokevirtual 26, 3) := by decide +kernel
theorem dX0_takes_59 : decode cX0_takes 59 = .ok (.ireturn, 1) := by decide +kernel
theorem dX0_takes_60 : decode cX0_takes 60 = .ok (.aload_n 0, 1) := by decide +kernel
theorem dX0_takes_61 : decode cX0_takes 61 = .ok (.iload_n 1, 1) := by decide +kernel
theorem dX0_takes_62 : decode cX0_takes 62 = .ok (.invokevirtual 29, 3) := by decide +kernel
theorem dX0_takes_65 : decode cX0_takes 65 = .ok (.ireturn, 1) := by decide +kernel
theorem dX0_takes_66 : decode cX0_takes 66 = .ok (.aload_n 0, 1) := by decide +kernel
theorem dX0_takes_67 : decode cX0_takes 67 = .ok (.iload_n 1, 1) := by decide +kernel
theorem dX0_takes_68 : decode cX0_takes 68 = .ok (.invokevirtual 32, 3) := by decide +kernel
theorem dX0_takes_71 : decode cX0_takes 71 = .ok (.ireturn, 1) := by decide +kernel
theorem dX0_takes_72 : decode cX0_takes 72 = .ok (.aload_n 0, 1) := by decide +kernel
theorem dX0_takes_73 : decode cX0_takes 73 = .ok (.iload_n 1, 1) := by decide +kernel
theorem dX0_takes_74 : decode cX0_takes 74 = .ok (.invokevirtual 35, 3) := by decide +kernel
theorem dX0_takes_77 : decode cX0_takes 77 = .ok (.ireturn, 1) := by decide +kernel
theorem dX0_takes_78 : decode cX0_takes 78 = .ok (.iconst 0, 1) := by decide +kernel
theorem dX0_takes_79 : decode cX0_takes 79 = .ok (.ireturn, 1) := by decide +kernel
theorem dX0_takesOrderEnd_0 : decode cX0_takesOrderEnd 0 = .ok (.aload_n 0, 1) := by decide +kernel
theorem dX0_takesOrderEnd_1 : decode cX0_takesOrderEnd 1 = .ok (.invokevirtual 38, 3) := by decide +kernel
theorem dX0_takesOrderEnd_4 : decode cX0_takesOrderEnd 4 = .ok (.ifCond .ne 5, 3) := by decide +kernel
theorem dX0_takesOrderEnd_7 : decode cX0_takesOrderEnd 7 = .ok (.iconst 0, 1) := by decide +kernel
theorem dX0_takesOrderEnd_8 : decode cX0_takesOrderEnd 8 = .ok (.ireturn, 1) := by decide +kernel
theorem dX0_takesOrderEnd_9 : decode cX0_takesOrderEnd 9 = .ok (.aload_n 0, 1) := by decide +kernel
theorem dX0_takesOrderEnd_10 : decode cX0_takesOrderEnd 10 = .ok (.iconst 0, 1) := by decide +kernel
theorem dX0_takesOrderEnd_11 : decode cX0_takesOrderEnd 11 = .ok (.putfield 9, 3) := by decide +kernel
theorem dX0_takesOrderEnd_14 : decode cX0_takesOrderEnd 14 = .ok (.iconst 1, 1) := by decide +kernel
theorem dX0_takesOrderEnd_15 : decode cX0_takesOrderEnd 15 = .ok (.ireturn, 1) := by decide +kernel
theorem dX0_takesLetter_0 : decode cX0_takesLetter 0 = .ok (.iload_n 1, 1) := by decide +kernel
theorem dX0_takesLetter_1 : decode cX0_takesLetter 1 = .ok (.tableswitch 133 100 120 #[112, 133, 133, 133, 133, 133, 133, 133, 112, 133, 133, 99, 133, 133, 125, 133, 112, 133, 133, 125, 125], 99) := by decide +kernel
theorem dX0_takesLetter_100 : decode cX0_takesLetter 100 = .ok (.aload_n 0, 1) := by decide +kernel
theorem dX0_takesLetter_101 : decode cX0_takesLetter 101 = .ok (.iconst 0, 1) := by decide +kernel
theorem dX0_takesLetter_102 : decode cX0_takesLetter 102 = .ok (.putfield 15, 3) := by decide +kernel
theorem dX0_takesLetter_105 : decode cX0_takesLetter 105 = .ok (.aload_n 0, 1) := by decide +kernel
theorem dX0_takesLetter_106 : decode cX0_takesLetter 106 = .ok (.iconst 1, 1) := by decide +kernel
theorem dX0_takesLetter_107 : decode cX0_takesLetter 107 = .ok (.putfield 9, 3) := by decide +kernel
theorem dX0_takesLetter_110 : decode cX0_takesLetter 110 = .ok (.goto 26, 3) := by decide +kernel
theorem dX0_takesLetter_113 : decode cX0_takesLetter 113 = .ok (.aload_n 0, 1) := by decide +kernel
theorem dX0_takesLetter_114 : decode cX0_takesLetter 114 = .ok (.iconst (-1), 1) := by decide +kernel
theorem dX0_takesLetter_115 : decode cX0_takesLetter 115 = .ok (.putfield 15, 3) := by decide +kernel
theorem dX0_takesLetter_118 : decode cX0_takesLetter 118 = .ok (.aload_n 0, 1) := by decide +kernel
theorem dX0_takesLetter_119 : decode cX0_takesLetter 119 = .ok (.iconst 2, 1) := by decide +kernel
theorem dX0_takesLetter_120 : decode cX0_takesLetter 120 = .ok (.putfield 9, 3) := by decide +kernel
theorem dX0_takesLetter_123 : decode cX0_takesLetter 123 = .ok (.goto 13, 3) := by decide +kernel
theorem dX0_takesLetter_126 : decode cX0_takesLetter 126 = .ok (.aload_n 0, 1) := by decide +kernel
theorem dX0_takesLetter_127 : decode cX0_takesLetter 127 = .ok (.iconst 3, 1) := by decide +kernel
theorem dX0_takesLetter_128 : decode cX0_takesLetter 128 = .ok (.putfield 9, 3) := by decide +kernel
theorem dX0_takesLetter_131 : decode cX0_takesLetter 131 = .ok (.goto 5, 3) := by decide +kernel
theorem dX0_takesLetter_134 : decode cX0_takesLetter 134 = .ok (.iconst 0, 1) := by decide +kernel
theorem dX0_takesLetter_135 : decode cX0_takesLetter 135 = .ok (.ireturn, 1) := by decide +kernel
theorem dX0_takesLetter_136 : decode cX0_takesLetter 136 = .ok (.aload_n 0, 1) := by decide +kernel
theorem dX0_takesLetter_137 : decode cX0_takesLetter 137 = .ok (.iload_n 1, 1) := by decide +kernel
theorem dX0_takesLetter_138 : decode cX0_takesLetter 138 = .ok (.putfield 41, 3) := by decide +kernel
theorem dX0_takesLetter_141 : decode cX0_takesLetter 141 = .ok (.iconst 1, 1) := by decide +kernel
theorem dX0_takesLetter_142 : decode cX0_takesLetter 142 = .ok (.ireturn, 1) := by decide +kernel
theorem dX0_takesRisingClerk_0 : decode cX0_takesRisingClerk 0 = .ok (.iload_n 1, 1) := by decide +kernel
theorem dX0_takesRisingClerk_1 : decode cX0_takesRisingClerk 1 = .ok (.bipush 48, 2) := by decide +kernel
theorem dX0_takesRisingClerk_3 : decode cX0_takesRisingClerk 3 = .ok (.isub, 1) := by decide +kernel
theorem dX0_takesRisingClerk_4 : decode cX0_takesRisingClerk 4 = .ok (.istore_n 2, 1) := by decide +kernel
theorem dX0_takesRisingClerk_5 : decode cX0_takesRisingClerk 5 = .ok (.iload_n 2, 1) := by decide +kernel
theorem dX0_takesRisingClerk_6 : decode cX0_takesRisingClerk 6 = .ok (.ifCond .lt 18, 3) := by decide +kernel
theorem dX0_takesRisingClerk_9 : decode cX0_takesRisingClerk 9 = .ok (.iload_n 2, 1) := by decide +kernel
theorem dX0_takesRisingClerk_10 : decode cX0_takesRisingClerk 10 = .ok (.iconst 4, 1) := by decide +kernel
theorem dX0_takesRisingClerk_11 : decode cX0_takesRisingClerk 11 = .ok (.if_icmp .ge 13, 3) := by decide +kernel
theorem dX0_takesRisingClerk_14 : decode cX0_takesRisingClerk 14 = .ok (.iconst 1, 1) := by decide +kernel
theorem dX0_takesRisingClerk_15 : decode cX0_takesRisingClerk 15 = .ok (.iload_n 2, 1) := by decide +kernel
theorem dX0_takesRisingClerk_16 : decode cX0_takesRisingClerk 16 = .ok (.ishl, 1) := by decide +kernel
theorem dX0_takesRisingClerk_17 : decode cX0_takesRisingClerk 17 = .ok (.aload_n 0, 1) := by decide +kernel
theorem dX0_takesRisingClerk_18 : decode cX0_takesRisingClerk 18 = .ok (.getfield 15, 3) := by decide +kernel
theorem dX0_takesRisingClerk_21 : decode cX0_takesRisingClerk 21 = .ok (.if_icmp .gt 5, 3) := by decide +kernel
theorem dX0_takesRisingClerk_24 : decode cX0_takesRisingClerk 24 = .ok (.iconst 0, 1) := by decide +kernel
theorem dX0_takesRisingClerk_25 : decode cX0_takesRisingClerk 25 = .ok (.ireturn, 1) := by decide +kernel
theorem dX0_takesRisingClerk_26 : decode cX0_takesRisingClerk 26 = .ok (.aload_n 0, 1) := by decide +kernel
theorem dX0_takesRisingClerk_27 : decode cX0_takesRisingClerk 27 = .ok (.dup, 1) := by decide +kernel
theorem dX0_takesRisingClerk_28 : decode cX0_takesRisingClerk 28 = .ok (.getfield 15, 3) := by decide +kernel
theorem dX0_takesRisingClerk_31 : decode cX0_takesRisingClerk 31 = .ok (.iconst 1, 1) := by decide +kernel
theorem dX0_takesRisingClerk_32 : decode cX0_takesRisingClerk 32 = .ok (.iload_n 2, 1) := by decide +kernel
theorem dX0_takesRisingClerk_33 : decode cX0_takesRisingClerk 33 = .ok (.ishl, 1) := by decide +kernel
theorem dX0_takesRisingClerk_34 : decode cX0_takesRisingClerk 34 = .ok (.ior, 1) := by decide +kernel
theorem dX0_takesRisingClerk_35 : decode cX0_takesRisingClerk 35 = .ok (.putfield 15, 3) := by decide +kernel
theorem dX0_takesRisingClerk_38 : decode cX0_takesRisingClerk 38 = .ok (.iconst 1, 1) := by decide +kernel
theorem dX0_takesRisingClerk_39 : decode cX0_takesRisingClerk 39 = .ok (.ireturn, 1) := by decide +kernel
theorem dX0_takesDigit_0 : decode cX0_takesDigit 0 = .ok (.iload_n 1, 1) := by decide +kernel
theorem dX0_takesDigit_1 : decode cX0_takesDigit 1 = .ok (.bipush 48, 2) := by decide +kernel
theorem dX0_takesDigit_3 : decode cX0_takesDigit 3 = .ok (.isub, 1) := by decide +kernel
theorem dX0_takesDigit_4 : decode cX0_takesDigit 4 = .ok (.istore_n 2, 1) := by decide +kernel
theorem dX0_takesDigit_5 : decode cX0_takesDigit 5 = .ok (.iload_n 2, 1) := by decide +kernel
theorem dX0_takesDigit_6 : decode cX0_takesDigit 6 = .ok (.ifCond .lt 25, 3) := by decide +kernel
theorem dX0_takesDigit_9 : decode cX0_takesDigit 9 = .ok (.iload_n 2, 1) := by decide +kernel
theorem dX0_takesDigit_10 : decode cX0_takesDigit 10 = .ok (.bipush 9, 2) := by decide +kernel
theorem dX0_takesDigit_12 : decode cX0_takesDigit 12 = .ok (.if_icmp .gt 19, 3) := by decide +kernel
theorem dX0_takesDigit_15 : decode cX0_takesDigit 15 = .ok (.aload_n 0, 1) := by decide +kernel
theorem dX0_takesDigit_16 : decode cX0_takesDigit 16 = .ok (.getfield 15, 3) := by decide +kernel
theorem dX0_takesDigit_19 : decode cX0_takesDigit 19 = .ok (.ifCond .eq 12, 3) := by decide +kernel
theorem dX0_takesDigit_22 : decode cX0_takesDigit 22 = .ok (.aload_n 0, 1) := by decide +kernel
theorem dX0_takesDigit_23 : decode cX0_takesDigit 23 = .ok (.getfield 15, 3) := by decide +kernel
theorem dX0_takesDigit_26 : decode cX0_takesDigit 26 = .ok (.bipush 9, 2) := by decide +kernel
theorem dX0_takesDigit_28 : decode cX0_takesDigit 28 = .ok (.if_icmp .le 5, 3) := by decide +kernel
theorem dX0_takesDigit_31 : decode cX0_takesDigit 31 = .ok (.iconst 0, 1) := by decide +kernel
theorem dX0_takesDigit_32 : decode cX0_takesDigit 32 = .ok (.ireturn, 1) := by decide +kernel
theorem dX0_takesDigit_33 : decode cX0_takesDigit 33 = .ok (.aload_n 0, 1) := by decide +kernel
theorem dX0_takesDigit_34 : decode cX0_takesDigit 34 = .ok (.aload_n 0, 1) := by decide +kernel
theorem dX0_takesDigit_35 : decode cX0_takesDigit 35 = .ok (.getfield 15, 3) := by decide +kernel
theorem dX0_takesDigit_38 : decode cX0_takesDigit 38 = .ok (.ifCond .ge 7, 3) := by decide +kernel
theorem dX0_takesDigit_41 : decode cX0_takesDigit 41 = .ok (.iload_n 2, 1) := by decide +kernel
theorem dX0_takesDigit_42 : decode cX0_takesDigit 42 = .ok (.goto 12, 3) := by decide +kernel
theorem dX0_takesDigit_45 : decode cX0_takesDigit 45 = .ok (.aload_n 0, 1) := by decide +kernel
theorem dX0_takesDigit_46 : decode cX0_takesDigit 46 = .ok (.getfield 15, 3) := by decide +kernel
theorem dX0_takesDigit_49 : decode cX0_takesDigit 49 = .ok (.bipush 10, 2) := by decide +kernel
theorem dX0_takesDigit_51 : decode cX0_takesDigit 51 = .ok (.imul, 1) := by decide +kernel
theorem dX0_takesDigit_52 : decode cX0_takesDigit 52 = .ok (.iload_n 2, 1) := by decide +kernel
theorem dX0_takesDigit_53 : decode cX0_takesDigit 53 = .ok (.iadd, 1) := by decide +kernel
theorem dX0_takesDigit_54 : decode cX0_takesDigit 54 = .ok (.putfield 15, 3) := by decide +kernel
theorem dX0_takesDigit_57 : decode cX0_takesDigit 57 = .ok (.iconst 1, 1) := by decide +kernel
theorem dX0_takesDigit_58 : decode cX0_takesDigit 58 = .ok (.ireturn, 1) := by decide +kernel
theorem dX0_takesSomebody_0 : decode cX0_takesSomebody 0 = .ok (.aload_n 0, 1) := by decide +kernel
theorem dX0_takesSomebody_1 : decode cX0_takesSomebody 1 = .ok (.getfield 41, 3) := by decide +kernel
theorem dX0_takesSomebody_4 : decode cX0_takesSomebody 4 = .ok (.bipush 119, 2) := by decide +kernel
theorem dX0_takesSomebody_6 : decode cX0_takesSomebody 6 = .ok (.if_icmp .ne 7, 3) := by decide +kernel
theorem dX0_takesSomebody_9 : decode cX0_takesSomebody 9 = .ok (.iconst 3, 1) := by decide +kernel
theorem dX0_takesSomebody_10 : decode cX0_takesSomebody 10 = .ok (.goto 4, 3) := by decide +kernel
theorem dX0_takesSomebody_13 : decode cX0_takesSomebody 13 = .ok (.iconst 4, 1) := by decide +kernel
theorem dX0_takesSomebody_14 : decode cX0_takesSomebody 14 = .ok (.istore_n 2, 1) := by decide +kernel
theorem dX0_takesSomebody_15 : decode cX0_takesSomebody 15 = .ok (.iload_n 1, 1) := by decide +kernel
theorem dX0_takesSomebody_16 : decode cX0_takesSomebody 16 = .ok (.bipush 48, 2) := by decide +kernel
theorem dX0_takesSomebody_18 : decode cX0_takesSomebody 18 = .ok (.isub, 1) := by decide +kernel
theorem dX0_takesSomebody_19 : decode cX0_takesSomebody 19 = .ok (.istore_n 3, 1) := by decide +kernel
theorem dX0_takesSomebody_20 : decode cX0_takesSomebody 20 = .ok (.iload_n 3, 1) := by decide +kernel
theorem dX0_takesSomebody_21 : decode cX0_takesSomebody 21 = .ok (.ifCond .lt 8, 3) := by decide +kernel
theorem dX0_takesSomebody_24 : decode cX0_takesSomebody 24 = .ok (.iload_n 3, 1) := by decide +kernel
theorem dX0_takesSomebody_25 : decode cX0_takesSomebody 25 = .ok (.iload_n 2, 1) := by decide +kernel
theorem dX0_takesSomebody_26 : decode cX0_takesSomebody 26 = .ok (.if_icmp .le 5, 3) := by decide +kernel
theorem dX0_takesSomebody_29 : decode cX0_takesSomebody 29 = .ok (.iconst 0, 1) := by decide +kernel
theorem dX0_takesSomebody_30 : decode cX0_takesSomebody 30 = .ok (.ireturn, 1) := by decide +kernel
theorem dX0_takesSomebody_31 : decode cX0_takesSomebody 31 = .ok (.aload_n 0, 1) := by decide +kernel
theorem dX0_takesSomebody_32 : decode cX0_takesSomebody 32 = .ok (.iload_n 3, 1) := by decide +kernel
theorem dX0_takesSomebody_33 : decode cX0_takesSomebody 33 = .ok (.putfield 15, 3) := by decide +kernel
theorem dX0_takesSomebody_36 : decode cX0_takesSomebody 36 = .ok (.aload_n 0, 1) := by decide +kernel
theorem dX0_takesSomebody_37 : decode cX0_takesSomebody 37 = .ok (.aload_n 0, 1) := by decide +kernel
theorem dX0_takesSomebody_38 : decode cX0_takesSomebody 38 = .ok (.getfield 41, 3) := by decide +kernel
theorem dX0_takesSomebody_41 : decode cX0_takesSomebody 41 = .ok (.bipush 119, 2) := by decide +kernel
theorem dX0_takesSomebody_43 : decode cX0_takesSomebody 43 = .ok (.if_icmp .ne 7, 3) := by decide +kernel
theorem dX0_takesSomebody_46 : decode cX0_takesSomebody 46 = .ok (.iconst 4, 1) := by decide +kernel
theorem dX0_takesSomebody_47 : decode cX0_takesSomebody 47 = .ok (.goto 4, 3) := by decide +kernel
theorem dX0_takesSomebody_50 : decode cX0_takesSomebody 50 = .ok (.iconst 5, 1) := by decide +kernel
theorem dX0_takesSomebody_51 : decode cX0_takesSomebody 51 = .ok (.putfield 9, 3) := by decide +kernel
theorem dX0_takesSomebody_54 : decode cX0_takesSomebody 54 = .ok (.iconst 1, 1) := by decide +kernel
theorem dX0_takesSomebody_55 : decode cX0_takesSomebody 55 = .ok (.ireturn, 1) := by decide +kernel
theorem dX0_takesSign_0 : decode cX0_takesSign 0 = .ok (.iload_n 1, 1) := by decide +kernel
theorem dX0_takesSign_1 : decode cX0_takesSign 1 = .ok (.bipush 43, 2) := by decide +kernel
theorem dX0_takesSign_3 : decode cX0_takesSign 3 = .ok (.if_icmp .eq 11, 3) := by decide +kernel
theorem dX0_takesSign_6 : decode cX0_takesSign 6 = .ok (.iload_n 1, 1) := by decide +kernel
theorem dX0_takesSign_7 : decode cX0_takesSign 7 = .ok (.bipush 45, 2) := by decide +kernel
theorem dX0_takesSign_9 : decode cX0_takesSign 9 = .ok (.if_icmp .eq 5, 3) := by decide +kernel
theorem dX0_takesSign_12 : decode cX0_takesSign 12 = .ok (.iconst 0, 1) := by decide +kernel
theorem dX0_takesSign_13 : decode cX0_takesSign 13 = .ok (.ireturn, 1) := by decide +kernel
theorem dX0_takesSign_14 : decode cX0_takesSign 14 = .ok (.aload_n 0, 1) := by decide +kernel
theorem dX0_takesSign_15 : decode cX0_takesSign 15 = .ok (.iload_n 1, 1) := by decide +kernel
theorem dX0_takesSign_16 : decode cX0_takesSign 16 = .ok (.bipush 43, 2) := by decide +kernel
theorem dX0_takesSign_18 : decode cX0_takesSign 18 = .ok (.if_icmp .ne 7, 3) := by decide +kernel
theorem dX0_takesSign_21 : decode cX0_takesSign 21 = .ok (.iconst 1, 1) := by decide +kernel
theorem dX0_takesSign_22 : decode cX0_takesSign 22 = .ok (.goto 4, 3) := by decide +kernel
theorem dX0_takesSign_25 : decode cX0_takesSign 25 = .ok (.iconst 0, 1) := by decide +kernel
theorem dX0_takesSign_26 : decode cX0_takesSign 26 = .ok (.putfield 44, 3) := by decide +kernel
theorem dX0_takesSign_29 : decode cX0_takesSign 29 = .ok (.aload_n 0, 1) := by decide +kernel
theorem dX0_takesSign_30 : decode cX0_takesSign 30 = .ok (.iconst 5, 1) := by decide +kernel
theorem dX0_takesSign_31 : decode cX0_takesSign 31 = .ok (.putfield 9, 3) := by decide +kernel
theorem dX0_takesSign_34 : decode cX0_takesSign 34 = .ok (.iconst 1, 1) := by decide +kernel
theorem dX0_takesSign_35 : decode cX0_takesSign 35 = .ok (.ireturn, 1) := by decide +kernel
theorem dX1_init_0 : decode cX1_init 0 = .ok (.aload_n 0, 1) := by decide +kernel
theorem dX1_init_1 : decode cX1_init 1 = .ok (.invokespecial 3, 3) := by decide +kernel
theorem dX1_init_4 : decode cX1_init 4 = .ok (.aload_n 0, 1) := by decide +kernel
theorem dX1_init_5 : decode cX1_init 5 = .ok (.sipush 240, 3) := by decide +kernel
theorem dX1_init_8 : decode cX1_init 8 = .ok (.newarray .int, 2) := by decide +kernel
theorem dX1_init_10 : decode cX1_init 10 = .ok (.putfield 9, 3) := by decide +kernel
theorem dX1_init_13 : decode cX1_init 13 = .ok (.aload_n 0, 1) := by decide +kernel
theorem dX1_init_14 : decode cX1_init 14 = .ok (.iconst 5, 1) := by decide +kernel
theorem dX1_init_15 : decode cX1_init 15 = .ok (.newarray .int, 2) := by decide +kernel
theorem dX1_init_17 : decode cX1_init 17 = .ok (.putfield 15, 3) := by decide +kernel
theorem dX1_init_20 : decode cX1_init 20 = .ok (.aload_n 0, 1) := by decide +kernel
theorem dX1_init_21 : decode cX1_init 21 = .ok (.iconst 5, 1) := by decide +kernel
theorem dX1_init_22 : decode cX1_init 22 = .ok (.newarray .int, 2) := by decide +kernel
theorem dX1_init_24 : decode cX1_init 24 = .ok (.putfield 18, 3) := by decide +kernel
theorem dX1_init_27 : decode cX1_init 27 = .ok (.return_, 1) := by decide +kernel
theorem dX1_copyFrom_0 : decode cX1_copyFrom 0 = .ok (.aload_n 0, 1) := by decide +kernel
theorem dX1_copyFrom_1 : decode cX1_copyFrom 1 = .ok (.aload_n 1, 1) := by decide +kernel
theorem dX1_copyFrom_2 : decode cX1_copyFrom 2 = .ok (.getfield 21, 3) := by decide +kernel
theorem dX1_copyFrom_5 : decode cX1_copyFrom 5 = .ok (.putfield 21, 3) := by decide +kernel
theorem dX1_copyFrom_8 : decode cX1_copyFrom 8 = .ok (.aload_n 0, 1) := by decide +kernel
theorem dX1_copyFrom_9 : decode cX1_copyFrom 9 = .ok (.aload_n 1, 1) := by decide +kernel
theorem dX1_copyFrom_10 : decode cX1_copyFrom 10 = .ok (.getfield 25, 3) := by decide +kernel
theorem dX1_copyFrom_13 : decode cX1_copyFrom 13 = .ok (.putfield 25, 3) := by decide +kernel
theorem dX1_copyFrom_16 : decode cX1_copyFrom 16 = .ok (.aload_n 1, 1) := by decide +kernel
theorem dX1_copyFrom_17 : decode cX1_copyFrom 17 = .ok (.getfield 9, 3) := by decide +kernel
theorem dX1_copyFrom_20 : decode cX1_copyFrom 20 = .ok (.iconst 0, 1) := by decide +kernel
theorem dX1_copyFrom_21 : decode cX1_copyFrom 21 = .ok (.aload_n 0, 1) := by decide +kernel
theorem dX1_copyFrom_22 : decode cX1_copyFrom 22 = .ok (.getfield 9, 3) := by decide +kernel
theorem dX1_copyFrom_25 : decode cX1_copyFrom 25 = .ok (.iconst 0, 1) := by decide +kernel
theorem dX1_copyFrom_26 : decode cX1_copyFrom 26 = .ok (.aload_n 0, 1) := by decide +kernel
theorem dX1_copyFrom_27 : decode cX1_copyFrom 27 = .ok (.getfield 9, 3) := by decide +kernel
theorem dX1_copyFrom_30 : decode cX1_copyFrom 30 = .ok (.arraylength, 1) := by decide +kernel
theorem dX1_copyFrom_31 : decode cX1_copyFrom 31 = .ok (.invokestatic 28, 3) := by decide +kernel
theorem dX1_copyFrom_34 : decode cX1_copyFrom 34 = .ok (.aload_n 1, 1) := by decide +kernel
theorem dX1_copyFrom_35 : decode cX1_copyFrom 35 = .ok (.getfield 15, 3) := by decide +kernel
theorem dX1_copyFrom_38 : decode cX1_copyFrom 38 = .ok (.iconst 0, 1) := by decide +kernel
theorem dX1_copyFrom_39 : decode cX1_copyFrom 39 = .ok (.aload_n 0, 1) := by decide +kernel
theorem dX1_copyFrom_40 : decode cX1_copyFrom 40 = .ok (.getfield 15, 3) := by decide +kernel
theorem dX1_copyFrom_43 : decode cX1_copyFrom 43 = .ok (.iconst 0, 1) := by decide +kernel
theorem dX1_copyFrom_44 : decode cX1_copyFrom 44 = .ok (.iconst 5, 1) := by decide +kernel
theorem dX1_copyFrom_45 : decode cX1_copyFrom 45 = .ok (.invokestatic 28, 3) := by decide +kernel
theorem dX1_copyFrom_48 : decode cX1_copyFrom 48 = .ok (.aload_n 1, 1) := by decide +kernel
theorem dX1_copyFrom_49 : decode cX1_copyFrom 49 = .ok (.getfield 18, 3) := by decide +kernel
theorem dX1_copyFrom_52 : decode cX1_copyFrom 52 = .ok (.iconst 0, 1) := by decide +kernel
theorem dX1_copyFrom_53 : decode cX1_copyFrom 53 = .ok (.aload_n 0, 1) := by decide +kernel
theorem dX1_copyFrom_54 : decode cX1_copyFrom 54 = .ok (.getfield 18, 3) := by decide +kernel
theorem dX1_copyFrom_57 : decode cX1_copyFrom 57 = .ok (.iconst 0, 1) := by decide +kernel
theorem dX1_copyFrom_58 : decode cX1_copyFrom 58 = .ok (.iconst 5, 1) := by decide +kernel
theorem dX1_copyFrom_59 : decode cX1_copyFrom 59 = .ok (.invokestatic 28, 3) := by decide +kernel
theorem dX1_copyFrom_62 : decode cX1_copyFrom 62 = .ok (.return_, 1) := by decide +kernel
theorem dX1_has_0 : decode cX1_has 0 = .ok (.iload_n 1, 1) := by decide +kernel
theorem dX1_has_1 : decode cX1_has 1 = .ok (.ifCond .lt 15, 3) := by decide +kernel
theorem dX1_has_4 : decode cX1_has 4 = .ok (.iload_n 1, 1) := by decide +kernel
theorem dX1_has_5 : decode cX1_has 5 = .ok (.aload_n 0, 1) := by decide +kernel
theorem dX1_has_6 : decode cX1_has 6 = .ok (.getfield 21, 3) := by decide +kernel
theorem dX1_has_9 : decode cX1_has 9 = .ok (.if_icmp .ge 7, 3) := by decide +kernel
theorem dX1_has_12 : decode cX1_has 12 = .ok (.iconst 1, 1) := by decide +kernel
theorem dX1_has_13 : decode cX1_has 13 = .ok (.goto 4, 3) := by decide +kernel
theorem dX1_has_16 : decode cX1_has 16 = .ok (.iconst 0, 1) := by decide +kernel
theorem dX1_has_17 : decode cX1_has 17 = .ok (.ireturn, 1) := by decide +kernel
theorem dX1_part_0 : decode cX1_part 0 = .ok (.aload_n 0, 1) := by decide +kernel
theorem dX1_part_1 : decode cX1_part 1 = .ok (.getfield 9, 3) := by decide +kernel
theorem dX1_part_4 : decode cX1_part 4 = .ok (.iload_n 1, 1) := by decide +kernel
theorem dX1_part_5 : decode cX1_part 5 = .ok (.iconst 4, 1) := by decide +kernel
theorem dX1_part_6 : decode cX1_part 6 = .ok (.imul, 1) := by decide +kernel
theorem dX1_part_7 : decode cX1_part 7 = .ok (.iload_n 2, 1) := by decide +kernel
theorem dX1_part_8 : decode cX1_part 8 = .ok (.iadd, 1) := by decide +kernel
theorem dX1_part_9 : decode cX1_part 9 = .ok (.iaload, 1) := by decide +kernel
theorem dX1_part_10 : decode cX1_part 10 = .ok (.ireturn, 1) := by decide +kernel
theorem dX1_numberOfMessage_0 : decode cX1_numberOfMessage 0 = .ok (.aload_n 0, 1) := by decide +kernel
theorem dX1_numberOfMessage_1 : decode cX1_numberOfMessage 1 = .ok (.iload_n 1, 1) := by decide +kernel
theorem dX1_numberOfMessage_2 : decode cX1_numberOfMessage 2 = .ok (.invokevirtual 34, 3) := by decide +kernel
theorem dX1_numberOfMessage_5 : decode cX1_numberOfMessage 5 = .ok (.ifCond .ne 5, 3) := by decide +kernel
theorem dX1_numberOfMessage_8 : decode cX1_numberOfMessage 8 = .ok (.iconst (-1), 1) := by decide +kernel
theorem dX1_numberOfMessage_9 : decode cX1_numberOfMessage 9 = .ok (.ireturn, 1) := by decide +kernel
theorem dX1_numberOfMessage_10 : decode cX1_numberOfMessage 10 = .ok (.iload_n 2, 1) := by decide +kernel
theorem dX1_numberOfMessage_11 : decode cX1_numberOfMessage 11 = .ok (.ifCond .lt 8, 3) := by decide +kernel
theorem dX1_numberOfMessage_14 : decode cX1_numberOfMessage 14 = .ok (.iload_n 2, 1) := by decide +kernel
theorem dX1_numberOfMessage_15 : decode cX1_numberOfMessage 15 = .ok (.iconst 4, 1) := by decide +kernel
theorem dX1_numberOfMessage_16 : decode cX1_numberOfMessage 16 = .ok (.if_icmp .lt 6, 3) := by decide +kernel
theorem dX1_numberOfMessage_19 : decode cX1_numberOfMessage 19 = .ok (.bipush (-2), 2) := by decide +kernel
theorem dX1_numberOfMessage_21 : decode cX1_numberOfMessage 21 = .ok (.ireturn, 1) := by decide +kernel
theorem dX1_numberOfMessage_22 : decode cX1_numberOfMessage 22 = .ok (.aload_n 0, 1) := by decide +kernel
theorem dX1_numberOfMessage_23 : decode cX1_numberOfMessage 23 = .ok (.iload_n 1, 1) := by decide +kernel
theorem dX1_numberOfMessage_24 : decode cX1_numberOfMessage 24 = .ok (.iload_n 2, 1) := by decide +kernel
theorem dX1_numberOfMessage_25 : decode cX1_numberOfMessage 25 = .ok (.invokevirtual 38, 3) := by decide +kernel
theorem dX1_numberOfMessage_28 : decode cX1_numberOfMessage 28 = .ok (.ireturn, 1) := by decide +kernel
theorem dX1_onTheirWayTo_0 : decode cX1_onTheirWayTo 0 = .ok (.iconst 0, 1) := by decide +kernel
theorem dX1_onTheirWayTo_1 : decode cX1_onTheirWayTo 1 = .ok (.istore_n 2, 1) := by decide +kernel
theorem dX1_onTheirWayTo_2 : decode cX1_onTheirWayTo 2 = .ok (.iconst 0, 1) := by decide +kernel
theorem dX1_onTheirWayTo_3 : decode cX1_onTheirWayTo 3 = .ok (.istore_n 3, 1) := by decide +kernel
theorem dX1_onTheirWayTo_4 : decode cX1_onTheirWayTo 4 = .ok (.iload_n 3, 1) := by decide +kernel
theorem dX1_onTheirWayTo_5 : decode cX1_onTheirWayTo 5 = .ok (.aload_n 0, 1) := by decide +kernel
theorem dX1_onTheirWayTo_6 : decode cX1_onTheirWayTo 6 = .ok (.getfield 21, 3) := by decide +kernel
theorem dX1_onTheirWayTo_9 : decode cX1_onTheirWayTo 9 = .ok (.if_icmp .ge 22, 3) := by decide +kernel
theorem dX1_onTheirWayTo_12 : decode cX1_onTheirWayTo 12 = .ok (.aload_n 0, 1) := by decide +kernel
theorem dX1_onTheirWayTo_13 : decode cX1_onTheirWayTo 13 = .ok (.iload_n 3, 1) := by decide +kernel
theorem dX1_onTheirWayTo_14 : decode cX1_onTheirWayTo 14 = .ok (.iconst 3, 1) := by decide +kernel
theorem dX1_onTheirWayTo_15 : decode cX1_onTheirWayTo 15 = .ok (.invokevirtual 38, 3) := by decide +kernel
theorem dX1_onTheirWayTo_18 : decode cX1_onTheirWayTo 18 = .ok (.iload_n 1, 1) := by decide +kernel
theorem dX1_onTheirWayTo_19 : decode cX1_onTheirWayTo 19 = .ok (.if_icmp .ne 6, 3) := by decide +kernel
theorem dX1_onTheirWayTo_22 : decode cX1_onTheirWayTo 22 = .ok (.iinc 2 1, 3) := by decide +kernel
theorem dX1_onTheirWayTo_25 : decode cX1_onTheirWayTo 25 = .ok (.iinc 3 1, 3) := by decide +kernel
theorem dX1_onTheirWayTo_28 : decode cX1_onTheirWayTo 28 = .ok (.goto (-24), 3) := by decide +kernel
theorem dX1_onTheirWayTo_31 : decode cX1_onTheirWayTo 31 = .ok (.iload_n 2, 1) := by decide +kernel
theorem dX1_onTheirWayTo_32 : decode cX1_onTheirWayTo 32 = .ok (.ireturn, 1) := by decide +kernel
theorem dX1_delivered_0 : decode cX1_delivered 0 = .ok (.iconst 0, 1) := by decide +kernel
theorem dX1_delivered_1 : decode cX1_delivered 1 = .ok (.istore_n 1, 1) := by decide +kernel
theorem dX1_delivered_2 : decode cX1_delivered 2 = .ok (.iconst 0, 1) := by decide +kernel
theorem dX1_delivered_3 : decode cX1_delivered 3 = .ok (.istore_n 2, 1) := by decide +kernel
theorem dX1_delivered_4 : decode cX1_delivered 4 = .ok (.iload_n 2, 1) := by decide +kernel
theorem dX1_delivered_5 : decode cX1_delivered 5 = .ok (.iconst 5, 1) := by decide +kernel
theorem dX1_delivered_6 : decode cX1_delivered 6 = .ok (.if_icmp .ge 18, 3) := by decide +kernel
theorem dX1_delivered_9 : decode cX1_delivered 9 = .ok (.iload_n 1, 1) := by decide +kernel
theorem dX1_delivered_10 : decode cX1_delivered 10 = .ok (.aload_n 0, 1) := by decide +kernel
theorem dX1_delivered_11 : decode cX1_delivered 11 = .ok (.getfield 15, 3) := by decide +kernel
theorem dX1_delivered_14 : decode cX1_delivered 14 = .ok (.iload_n 2, 1) := by decide +kernel
theorem dX1_delivered_15 : decode cX1_delivered 15 = .ok (.iaload, 1) := by decide +kernel
theorem dX1_delivered_16 : decode cX1_delivered 16 = .ok (.iadd, 1) := by decide +kernel
theorem dX1_delivered_17 : decode cX1_delivered 17 = .ok (.istore_n 1, 1) := by decide +kernel
theorem dX1_delivered_18 : decode cX1_delivered 18 = .ok (.iinc 2 1, 3) := by decide +kernel
theorem dX1_delivered_21 : decode cX1_delivered 21 = .ok (.goto (-17), 3) := by decide +kernel
theorem dX1_delivered_24 : decode cX1_delivered 24 = .ok (.iload_n 1, 1) := by decide +kernel
theorem dX1_delivered_25 : decode cX1_delivered 25 = .ok (.ireturn, 1) := by decide +kernel
theorem dX1_send_0 : decode cX1_send 0 = .ok (.aload_n 0, 1) := by decide +kernel
theorem dX1_send_1 : decode cX1_send 1 = .ok (.getfield 18, 3) := by decide +kernel
theorem dX1_send_4 : decode cX1_send 4 = .ok (.iload_n 3, 1) := by decide +kernel
theorem dX1_send_5 : decode cX1_send 5 = .ok (.dup2, 1) := by decide +kernel
theorem dX1_send_6 : decode cX1_send 6 = .ok (.iaload, 1) := by decide +kernel
theorem dX1_send_7 : decode cX1_send 7 = .ok (.iconst 1, 1) := by decide +kernel
theorem dX1_send_8 : decode cX1_send 8 = .ok (.iadd, 1) := by decide +kernel
theorem dX1_send_9 : decode cX1_send 9 = .ok (.iastore, 1) := by decide +kernel
theorem dX1_send_10 : decode cX1_send 10 = .ok (.aload_n 0, 1) := by decide +kernel
theorem dX1_send_11 : decode cX1_send 11 = .ok (.getfield 21, 3) := by decide +kernel
theorem dX1_send_14 : decode cX1_send 14 = .ok (.bipush 60, 2) := by decide +kernel
theorem dX1_send_16 : decode cX1_send 16 = .ok (.if_icmp .lt 14, 3) := by decide +kernel
theorem dX1_send_19 : decode cX1_send 19 = .ok (.aload_n 0, 1) := by decide +kernel
theorem dX1_send_20 : decode cX1_send 20 = .ok (.dup, 1) := by decide +kernel
theorem dX1_send_21 : decode cX1_send 21 = .ok (.getfield 25, 3) := by decide +kernel
theorem dX1_send_24 : decode cX1_send 24 = .ok (.iconst 1, 1) := by decide +kernel
theorem dX1_send_25 : decode cX1_send 25 = .ok (.iadd, 1) := by decide +kernel
theorem dX1_send_26 : decode cX1_send 26 = .ok (.putfield 25, 3) := by decide +kernel
theorem dX1_send_29 : decode cX1_send 29 = .ok (.return_, 1) := by decide +kernel
theorem dX1_send_30 : decode cX1_send 30 = .ok (.aload_n 0, 1) := by decide +kernel
theorem dX1_send_31 : decode cX1_send 31 = .ok (.getfield 21, 3) := by decide +kernel
theorem dX1_send_34 : decode cX1_send 34 = .ok (.iconst 4, 1) := by decide +kernel
theorem dX1_send_35 : decode cX1_send 35 = .ok (.imul, 1) := by decide +kernel
theorem dX1_send_36 : decode cX1_send 36 = .ok (.istore 5, 2) := by decide +kernel
theorem dX1_send_38 : decode cX1_send 38 = .ok (.aload_n 0, 1) := by decide +kernel
theorem dX1_send_39 : decode cX1_send 39 = .ok (.getfield 9, 3) := by decide +kernel
theorem dX1_send_42 : decode cX1_send 42 = .ok (.iload 5, 2) := by decide +kernel
theorem dX1_send_44 : decode cX1_send 44 = .ok (.iconst 0, 1) := by decide +kernel
theorem dX1_send_45 : decode cX1_send 45 = .ok (.iadd, 1) := by decide +kernel
theorem dX1_send_46 : decode cX1_send 46 = .ok (.iload_n 1, 1) := by decide +kernel
theorem dX1_send_47 : decode cX1_send 47 = .ok (.iastore, 1) := by decide +kernel
theorem dX1_send_48 : decode cX1_send 48 = .ok (.aload_n 0, 1) := by decide +kernel
theorem dX1_send_49 : decode cX1_send 49 = .ok (.getfield 9, 3) := by decide +kernel
theorem dX1_send_52 : decode cX1_send 52 = .ok (.iload 5, 2) := by decide +kernel
theorem dX1_send_54 : decode cX1_send 54 = .ok (.iconst 1, 1) := by decide +kernel
theorem dX1_send_55 : decode cX1_send 55 = .ok (.iadd, 1) := by decide +kernel
theorem dX1_send_56 : decode cX1_send 56 = .ok (.iload_n 2, 1) := by decide +kernel
theorem dX1_send_57 : decode cX1_send 57 = .ok (.iastore, 1) := by decide +kernel
theorem dX1_send_58 : decode cX1_send 58 = .ok (.aload_n 0, 1) := by decide +kernel
theorem dX1_send_59 : decode cX1_send 59 = .ok (.getfield 9, 3) := by decide +kernel
theorem dX1_send_62 : decode cX1_send 62 = .ok (.iload 5, 2) := by decide +kernel
theorem dX1_send_64 : decode cX1_send 64 = .ok (.iconst 2, 1) := by decide +kernel
theorem dX1_send_65 : decode cX1_send 65 = .ok (.iadd, 1) := by decide +kernel
theorem dX1_send_66 : decode cX1_send 66 = .ok (.iload_n 3, 1) := by decide +kernel
theorem dX1_send_67 : decode cX1_send 67 = .ok (.iastore, 1) := by decide +kernel
theorem dX1_send_68 : decode cX1_send 68 = .ok (.aload_n 0, 1) := by decide +kernel
theorem dX1_send_69 : decode cX1_send 69 = .ok (.getfield 9, 3) := by decide +kernel
theorem dX1_send_72 : decode cX1_send 72 = .ok (.iload 5, 2) := by decide +kernel
theorem dX1_send_74 : decode cX1_send 74 = .ok (.iconst 3, 1) := by decide +kernel
theorem dX1_send_75 : decode cX1_send 75 = .ok (.iadd, 1) := by decide +kernel
theorem dX1_send_76 : decode cX1_send 76 = .ok (.iload 4, 2) := by decide +kernel
theorem dX1_send_78 : decode cX1_send 78 = .ok (.iastore, 1) := by decide +kernel
theorem dX1_send_79 : decode cX1_send 79 = .ok (.aload_n 0, 1) := by decide +kernel
theorem dX1_send_80 : decode cX1_send 80 = .ok (.dup, 1) := by decide +kernel
theorem dX1_send_81 : decode cX1_send 81 = .ok (.getfield 21, 3) := by decide +kernel
theorem dX1_send_84 : decode cX1_send 84 = .ok (.iconst 1, 1) := by decide +kernel
theorem dX1_send_85 : decode cX1_send 85 = .ok (.iadd, 1) := by decide +kernel
theorem dX1_send_86 : decode cX1_send 86 = .ok (.putfield 21, 3) := by decide +kernel
theorem dX1_send_89 : decode cX1_send 89 = .ok (.return_, 1) := by decide +kernel
theorem dX1_repeat_0 : decode cX1_repeat 0 = .ok (.aload_n 0, 1) := by decide +kernel
theorem dX1_repeat_1 : decode cX1_repeat 1 = .ok (.getfield 9, 3) := by decide +kernel
theorem dX1_repeat_4 : decode cX1_repeat 4 = .ok (.iload_n 1, 1) := by decide +kernel
theorem dX1_repeat_5 : decode cX1_repeat 5 = .ok (.iconst 4, 1) := by decide +kernel
theorem dX1_repeat_6 : decode cX1_repeat 6 = .ok (.imul, 1) := by decide +kernel
theorem dX1_repeat_7 : decode cX1_repeat 7 = .ok (.aload_n 0, 1) := by decide +kernel
theorem dX1_repeat_8 : decode cX1_repeat 8 = .ok (.getfield 9, 3) := by decide +kernel
theorem dX1_repeat_11 : decode cX1_repeat 11 = .ok (.aload_n 0, 1) := by decide +kernel
theorem dX1_repeat_12 : decode cX1_repeat 12 = .ok (.getfield 21, 3) := by decide +kernel
theorem dX1_repeat_15 : decode cX1_repeat 15 = .ok (.iconst 4, 1) := by decide +kernel
theorem dX1_repeat_16 : decode cX1_repeat 16 = .ok (.imul, 1) := by decide +kernel
theorem dX1_repeat_17 : decode cX1_repeat 17 = .ok (.iconst 4, 1) := by decide +kernel
theorem dX1_repeat_18 : decode cX1_repeat 18 = .ok (.invokestatic 28, 3) := by decide +kernel
theorem dX1_repeat_21 : decode cX1_repeat 21 = .ok (.aload_n 0, 1) := by decide +kernel
theorem dX1_repeat_22 : decode cX1_repeat 22 = .ok (.dup, 1) := by decide +kernel
theorem dX1_repeat_23 : decode cX1_repeat 23 = .ok (.getfield 21, 3) := by decide +kernel
theorem dX1_repeat_26 : decode cX1_repeat 26 = .ok (.iconst 1, 1) := by decide +kernel
theorem dX1_repeat_27 : decode cX1_repeat 27 = .ok (.iadd, 1) := by decide +kernel
theorem dX1_repeat_28 : decode cX1_repeat 28 = .ok (.putfield 21, 3) := by decide +kernel
theorem dX1_repeat_31 : decode cX1_repeat 31 = .ok (.return_, 1) := by decide +kernel
theorem dX1_remove_0 : decode cX1_remove 0 = .ok (.iload_n 1, 1) := by decide +kernel
theorem dX1_remove_1 : decode cX1_remove 1 = .ok (.iconst 1, 1) := by decide +kernel
theorem dX1_remove_2 : decode cX1_remove 2 = .ok (.iadd, 1) := by decide +kernel
theorem dX1_remove_3 : decode cX1_remove 3 = .ok (.istore_n 2, 1) := by decide +kernel
theorem dX1_remove_4 : decode cX1_remove 4 = .ok (.aload_n 0, 1) := by decide +kernel
theorem dX1_remove_5 : decode cX1_remove 5 = .ok (.getfield 9, 3) := by decide +kernel
theorem dX1_remove_8 : decode cX1_remove 8 = .ok (.iload_n 2, 1) := by decide +kernel
theorem dX1_remove_9 : decode cX1_remove 9 = .ok (.iconst 4, 1) := by decide +kernel
theorem dX1_remove_10 : decode cX1_remove 10 = .ok (.imul, 1) := by decide +kernel
theorem dX1_remove_11 : decode cX1_remove 11 = .ok (.aload_n 0, 1) := by decide +kernel
theorem dX1_remove_12 : decode cX1_remove 12 = .ok (.getfield 9, 3) := by decide +kernel
theorem dX1_remove_15 : decode cX1_remove 15 = .ok (.iload_n 1, 1) := by decide +kernel
theorem dX1_remove_16 : decode cX1_remove 16 = .ok (.iconst 4, 1) := by decide +kernel
theorem dX1_remove_17 : decode cX1_remove 17 = .ok (.imul, 1) := by decide +kernel
theorem dX1_remove_18 : decode cX1_remove 18 = .ok (.aload_n 0, 1) := by decide +kernel
theorem dX1_remove_19 : decode cX1_remove 19 = .ok (.getfield 21, 3) := by decide +kernel
theorem dX1_remove_22 : decode cX1_remove 22 = .ok (.iload_n 2, 1) := by decide +kernel
theorem dX1_remove_23 : decode cX1_remove 23 = .ok (.isub, 1) := by decide +kernel
theorem dX1_remove_24 : decode cX1_remove 24 = .ok (.iconst 4, 1) := by decide +kernel
theorem dX1_remove_25 : decode cX1_remove 25 = .ok (.imul, 1) := by decide +kernel
theorem dX1_remove_26 : decode cX1_remove 26 = .ok (.invokestatic 28, 3) := by decide +kernel
theorem dX1_remove_29 : decode cX1_remove 29 = .ok (.aload_n 0, 1) := by decide +kernel
theorem dX1_remove_30 : decode cX1_remove 30 = .ok (.dup, 1) := by decide +kernel
theorem dX1_remove_31 : decode cX1_remove 31 = .ok (.getfield 21, 3) := by decide +kernel
theorem dX1_remove_34 : decode cX1_remove 34 = .ok (.iconst 1, 1) := by decide +kernel
theorem dX1_remove_35 : decode cX1_remove 35 = .ok (.isub, 1) := by decide +kernel
theorem dX1_remove_36 : decode cX1_remove 36 = .ok (.putfield 21, 3) := by decide +kernel
theorem dX1_remove_39 : decode cX1_remove 39 = .ok (.return_, 1) := by decide +kernel
theorem dX2_init_0 : decode cX2_init 0 = .ok (.aload_n 0, 1) := by decide +kernel
theorem dX2_init_1 : decode cX2_init 1 = .ok (.invokespecial 3, 3) := by decide +kernel
theorem dX2_init_4 : decode cX2_init 4 = .ok (.aload_n 0, 1) := by decide +kernel
theorem dX2_init_5 : decode cX2_init 5 = .ok (.iconst 4, 1) := by decide +kernel
theorem dX2_init_6 : decode cX2_init 6 = .ok (.newarray .int, 2) := by decide +kernel
theorem dX2_init_8 : decode cX2_init 8 = .ok (.dup, 1) := by decide +kernel
theorem dX2_init_9 : decode cX2_init 9 = .ok (.iconst 0, 1) := by decide +kernel
theorem dX2_init_10 : decode cX2_init 10 = .ok (.bipush 6, 2) := by decide +kernel
theorem dX2_init_12 : decode cX2_init 12 = .ok (.iastore, 1) := by decide +kernel
theorem dX2_init_13 : decode cX2_init 13 = .ok (.dup, 1) := by decide +kernel
theorem dX2_init_14 : decode cX2_init 14 = .ok (.iconst 1, 1) := by decide +kernel
theorem dX2_init_15 : decode cX2_init 15 = .ok (.iconst 4, 1) := by decide +kernel
theorem dX2_init_16 : decode cX2_init 16 = .ok (.iastore, 1) := by decide +kernel
theorem dX2_init_17 : decode cX2_init 17 = .ok (.dup, 1) := by decide +kernel
theorem dX2_init_18 : decode cX2_init 18 = .ok (.iconst 2, 1) := by decide +kernel
theorem dX2_init_19 : decode cX2_init 19 = .ok (.iconst 5, 1) := by decide +kernel
theorem dX2_init_20 : decode cX2_init 20 = .ok (.iastore, 1) := by decide +kernel
theorem dX2_init_21 : decode cX2_init 21 = .ok (.dup, 1) := by decide +kernel
theorem dX2_init_22 : decode cX2_init 22 = .ok (.iconst 3, 1) := by decide +kernel
theorem dX2_init_23 : decode cX2_init 23 = .ok (.iconst 0, 1) := by decide +kernel
theorem dX2_init_24 : decode cX2_init 24 = .ok (.iastore, 1) := by decide +kernel
theorem dX2_init_25 : decode cX2_init 25 = .ok (.putfield 9, 3) := by decide +kernel
theorem dX2_init_28 : decode cX2_init 28 = .ok (.aload_n 0, 1) := by decide +kernel
theorem dX2_init_29 : decode cX2_init 29 = .ok (.new 15, 3) := by decide +kernel
theorem dX2_init_32 : decode cX2_init 32 = .ok (.dup, 1) := by decide +kernel
theorem dX2_init_33 : decode cX2_init 33 = .ok (.invokespecial 17, 3) := by decide +kernel
theorem dX2_init_36 : decode cX2_init 36 = .ok (.putfield 18, 3) := by decide +kernel
theorem dX2_init_39 : decode cX2_init 39 = .ok (.aload_n 0, 1) := by decide +kernel
theorem dX2_init_40 : decode cX2_init 40 = .ok (.bipush 8, 2) := by decide +kernel
theorem dX2_init_42 : decode cX2_init 42 = .ok (.newarray .int, 2) := by decide +kernel
theorem dX2_init_44 : decode cX2_init 44 = .ok (.putfield 22, 3) := by decide +kernel
theorem dX2_init_47 : decode cX2_init 47 = .ok (.aload_n 0, 1) := by decide +kernel
theorem dX2_init_48 : decode cX2_init 48 = .ok (.bipush 8, 2) := by decide +kernel
theorem dX2_init_50 : decode cX2_init 50 = .ok (.newarray .int, 2) := by decide +kernel
theorem dX2_init_52 : decode cX2_init 52 = .ok (.putfield 25, 3) := by decide +kernel
theorem dX2_init_55 : decode cX2_init 55 = .ok (.aload_n 0, 1) := by decide +kernel
theorem dX2_init_56 : decode cX2_init 56 = .ok (.bipush 8, 2) := by decide +kernel
theorem dX2_init_58 : decode cX2_init 58 = .ok (.newarray .int, 2) := by decide +kernel
theorem dX2_init_60 : decode cX2_init 60 = .ok (.putfield 28, 3) := by decide +kernel
theorem dX2_init_63 : decode cX2_init 63 = .ok (.aload_n 0, 1) := by decide +kernel
theorem dX2_init_64 : decode cX2_init 64 = .ok (.bipush 8, 2) := by decide +kernel
theorem dX2_init_66 : decode cX2_init 66 = .ok (.newarray .int, 2) := by decide +kernel
theorem dX2_init_68 : decode cX2_init 68 = .ok (.putfield 31, 3) := by decide +kernel
theorem dX2_init_71 : decode cX2_init 71 = .ok (.aload_n 0, 1) := by decide +kernel
theorem dX2_init_72 : decode cX2_init 72 = .ok (.bipush 8, 2) := by decide +kernel
theorem dX2_init_74 : decode cX2_init 74 = .ok (.newarray .int, 2) := by decide +kernel
theorem dX2_init_76 : decode cX2_init 76 = .ok (.putfield 34, 3) := by decide +kernel
theorem dX2_init_79 : decode cX2_init 79 = .ok (.aload_n 0, 1) := by decide +kernel
theorem dX2_init_80 : decode cX2_init 80 = .ok (.bipush 8, 2) := by decide +kernel
theorem dX2_init_82 : decode cX2_init 82 = .ok (.newarray .int, 2) := by decide +kernel
theorem dX2_init_84 : decode cX2_init 84 = .ok (.putfield 37, 3) := by decide +kernel
theorem dX2_init_87 : decode cX2_init 87 = .ok (.aload_n 0, 1) := by decide +kernel
theorem dX2_init_88 : decode cX2_init 88 = .ok (.bipush 32, 2) := by decide +kernel
theorem dX2_init_90 : decode cX2_init 90 = .ok (.newarray .int, 2) := by decide +kernel
theorem dX2_init_92 : decode cX2_init 92 = .ok (.putfield 40, 3) := by decide +kernel
theorem dX2_init_95 : decode cX2_init 95 = .ok (.aload_n 0, 1) := by decide +kernel
theorem dX2_init_96 : decode cX2_init 96 = .ok (.bipush 32, 2) := by decide +kernel
theorem dX2_init_98 : decode cX2_init 98 = .ok (.newarray .int, 2) := by decide +kernel
theorem dX2_init_100 : decode cX2_init 100 = .ok (.putfield 43, 3) := by decide +kernel
theorem dX2_init_103 : decode cX2_init 103 = .ok (.return_, 1) := by decide +kernel
theorem dX2_copyFrom_0 : decode cX2_copyFrom 0 = .ok (.aload_n 0, 1) := by decide +kernel
theorem dX2_copyFrom_1 : decode cX2_copyFrom 1 = .ok (.aload_n 1, 1) := by decide +kernel
theorem dX2_copyFrom_2 : decode cX2_copyFrom 2 = .ok (.getfield 46, 3) := by decide +kernel
theorem dX2_copyFrom_5 : decode cX2_copyFrom 5 = .ok (.putfield 46, 3) := by decide +kernel
theorem dX2_copyFrom_8 : decode cX2_copyFrom 8 = .ok (.aload_n 0, 1) := by decide +kernel
theorem dX2_copyFrom_9 : decode cX2_copyFrom 9 = .ok (.aload_n 1, 1) := by decide +kernel
theorem dX2_copyFrom_10 : decode cX2_copyFrom 10 = .ok (.getfield 50, 3) := by decide +kernel
theorem dX2_copyFrom_13 : decode cX2_copyFrom 13 = .ok (.putfield 50, 3) := by decide +kernel
theorem dX2_copyFrom_16 : decode cX2_copyFrom 16 = .ok (.aload_n 0, 1) := by decide +kernel
theorem dX2_copyFrom_17 : decode cX2_copyFrom 17 = .ok (.aload_n 1, 1) := by decide +kernel
theorem dX2_copyFrom_18 : decode cX2_copyFrom 18 = .ok (.getfield 53, 3) := by decide +kernel
theorem dX2_copyFrom_21 : decode cX2_copyFrom 21 = .ok (.putfield 53, 3) := by decide +kernel
theorem dX2_copyFrom_24 : decode cX2_copyFrom 24 = .ok (.aload_n 0, 1) := by decide +kernel
theorem dX2_copyFrom_25 : decode cX2_copyFrom 25 = .ok (.aload_n 1, 1) := by decide +kernel
theorem dX2_copyFrom_26 : decode cX2_copyFrom 26 = .ok (.getfield 56, 3) := by decide +kernel
theorem dX2_copyFrom_29 : decode cX2_copyFrom 29 = .ok (.putfield 56, 3) := by decide +kernel
theorem dX2_copyFrom_32 : decode cX2_copyFrom 32 = .ok (.aload_n 1, 1) := by decide +kernel
theorem dX2_copyFrom_33 : decode cX2_copyFrom 33 = .ok (.getfield 9, 3) := by decide +kernel
theorem dX2_copyFrom_36 : decode cX2_copyFrom 36 = .ok (.iconst 0, 1) := by decide +kernel
theorem dX2_copyFrom_37 : decode cX2_copyFrom 37 = .ok (.aload_n 0, 1) := by decide +kernel
theorem dX2_copyFrom_38 : decode cX2_copyFrom 38 = .ok (.getfield 9, 3) := by decide +kernel
theorem dX2_copyFrom_41 : decode cX2_copyFrom 41 = .ok (.iconst 0, 1) := by decide +kernel
theorem dX2_copyFrom_42 : decode cX2_copyFrom 42 = .ok (.iconst 4, 1) := by decide +kernel
theorem dX2_copyFrom_43 : decode cX2_copyFrom 43 = .ok (.invokestatic 59, 3) := by decide +kernel
theorem dX2_copyFrom_46 : decode cX2_copyFrom 46 = .ok (.aload_n 0, 1) := by decide +kernel
theorem dX2_copyFrom_47 : decode cX2_copyFrom 47 = .ok (.getfield 18, 3) := by decide +kernel
theorem dX2_copyFrom_50 : decode cX2_copyFrom 50 = .ok (.aload_n 1, 1) := by decide +kernel
theorem dX2_copyFrom_51 : decode cX2_copyFrom 51 = .ok (.getfield 18, 3) := by decide +kernel
theorem dX2_copyFrom_54 : decode cX2_copyFrom 54 = .ok (.invokevirtual 65, 3) := by decide +kernel
theorem dX2_copyFrom_57 : decode cX2_copyFrom 57 = .ok (.aload_n 1, 1) := by decide +kernel
theorem dX2_copyFrom_58 : decode cX2_copyFrom 58 = .ok (.getfield 22, 3) := by decide +kernel
theorem dX2_copyFrom_61 : decode cX2_copyFrom 61 = .ok (.iconst 0, 1) := by decide +kernel
theorem dX2_copyFrom_62 : decode cX2_copyFrom 62 = .ok (.aload_n 0, 1) := by decide +kernel
theorem dX2_copyFrom_63 : decode cX2_copyFrom 63 = .ok (.getfield 22, 3) := by decide +kernel
theorem dX2_copyFrom_66 : decode cX2_copyFrom 66 = .ok (.iconst 0, 1) := by decide +kernel
theorem dX2_copyFrom_67 : decode cX2_copyFrom 67 = .ok (.bipush 8, 2) := by decide +kernel
theorem dX2_copyFrom_69 : decode cX2_copyFrom 69 = .ok (.invokestatic 59, 3) := by decide +kernel
theorem dX2_copyFrom_72 : decode cX2_copyFrom 72 = .ok (.aload_n 1, 1) := by decide +kernel
theorem dX2_copyFrom_73 : decode cX2_copyFrom 73 = .ok (.getfield 25, 3) := by decide +kernel
theorem dX2_copyFrom_76 : decode cX2_copyFrom 76 = .ok (.iconst 0, 1) := by decide +kernel
theorem dX2_copyFrom_77 : decode cX2_copyFrom 77 = .ok (.aload_n 0, 1) := by decide +kernel
theorem dX2_copyFrom_78 : decode cX2_copyFrom 78 = .ok (.getfield 25, 3) := by decide +kernel
theorem dX2_copyFrom_81 : decode cX2_copyFrom 81 = .ok (.iconst 0, 1) := by decide +kernel
theorem dX2_copyFrom_82 : decode cX2_copyFrom 82 = .ok (.bipush 8, 2) := by decide +kernel
theorem dX2_copyFrom_84 : decode cX2_copyFrom 84 = .ok (.invokestatic 59, 3) := by decide +kernel
theorem dX2_copyFrom_87 : decode cX2_copyFrom 87 = .ok (.aload_n 1, 1) := by decide +kernel
theorem dX2_copyFrom_88 : decode cX2_copyFrom 88 = .ok (.getfield 28, 3) := by decide +kernel
theorem dX2_copyFrom_91 : decode cX2_copyFrom 91 = .ok (.iconst 0, 1) := by decide +kernel
theorem dX2_copyFrom_92 : decode cX2_copyFrom 92 = .ok (.aload_n 0, 1) := by decide +kernel
theorem dX2_copyFrom_93 : decode cX2_copyFrom 93 = .ok (.getfield 28, 3) := by decide +kernel
theorem dX2_copyFrom_96 : decode cX2_copyFrom 96 = .ok (.iconst 0, 1) := by decide +kernel
theorem dX2_copyFrom_97 : decode cX2_copyFrom 97 = .ok (.bipush 8, 2) := by decide +kernel
theorem dX2_copyFrom_99 : decode cX2_copyFrom 99 = .ok (.invokestatic 59, 3) := by decide +kernel
theorem dX2_copyFrom_102 : decode cX2_copyFrom 102 = .ok (.aload_n 1, 1) := by decide +kernel
theorem dX2_copyFrom_103 : decode cX2_copyFrom 103 = .ok (.getfield 31, 3) := by decide +kernel
theorem dX2_copyFrom_106 : decode cX2_copyFrom 106 = .ok (.iconst 0, 1) := by decide +kernel
theorem dX2_copyFrom_107 : decode cX2_copyFrom 107 = .ok (.aload_n 0, 1) := by decide +kernel
theorem dX2_copyFrom_108 : decode cX2_copyFrom 108 = .ok (.getfield 31, 3) := by decide +kernel
theorem dX2_copyFrom_111 : decode cX2_copyFrom 111 = .ok (.iconst 0, 1) := by decide +kernel
theorem dX2_copyFrom_112 : decode cX2_copyFrom 112 = .ok (.bipush 8, 2) := by decide +kernel
theorem dX2_copyFrom_114 : decode cX2_copyFrom 114 = .ok (.invokestatic 59, 3) := by decide +kernel
theorem dX2_copyFrom_117 : decode cX2_copyFrom 117 = .ok (.aload_n 1, 1) := by decide +kernel
theorem dX2_copyFrom_118 : decode cX2_copyFrom 118 = .ok (.getfield 34, 3) := by decide +kernel
theorem dX2_copyFrom_121 : decode cX2_copyFrom 121 = .ok (.iconst 0, 1) := by decide +kernel
theorem dX2_copyFrom_122 : decode cX2_copyFrom 122 = .ok (.aload_n 0, 1) := by decide +kernel
theorem dX2_copyFrom_123 : decode cX2_copyFrom 123 = .ok (.getfield 34, 3) := by decide +kernel
theorem dX2_copyFrom_126 : decode cX2_copyFrom 126 = .ok (.iconst 0, 1) := by decide +kernel
theorem dX2_copyFrom_127 : decode cX2_copyFrom 127 = .ok (.bipush 8, 2) := by decide +kernel
theorem dX2_copyFrom_129 : decode cX2_copyFrom 129 = .ok (.invokestatic 59, 3) := by decide +kernel
theorem dX2_copyFrom_132 : decode cX2_copyFrom 132 = .ok (.aload_n 1, 1) := by decide +kernel
theorem dX2_copyFrom_133 : decode cX2_copyFrom 133 = .ok (.getfield 37, 3) := by decide +kernel
theorem dX2_copyFrom_136 : decode cX2_copyFrom 136 = .ok (.iconst 0, 1) := by decide +kernel
theorem dX2_copyFrom_137 : decode cX2_copyFrom 137 = .ok (.aload_n 0, 1) := by decide +kernel
theorem dX2_copyFrom_138 : decode cX2_copyFrom 138 = .ok (.getfield 37, 3) := by decide +kernel
theorem dX2_copyFrom_141 : decode cX2_copyFrom 141 = .ok (.iconst 0, 1) := by decide +kernel
theorem dX2_copyFrom_142 : decode cX2_copyFrom 142 = .ok (.bipush 8, 2) := by decide +kernel
theorem dX2_copyFrom_144 : decode cX2_copyFrom 144 = .ok (.invokestatic 59, 3) := by decide +kernel
theorem dX2_copyFrom_147 : decode cX2_copyFrom 147 = .ok (.aload_n 1, 1) := by decide +kernel
theorem dX2_copyFrom_148 : decode cX2_copyFrom 148 = .ok (.getfield 40, 3) := by decide +kernel
theorem dX2_copyFrom_151 : decode cX2_copyFrom 151 = .ok (.iconst 0, 1) := by decide +kernel
theorem dX2_copyFrom_152 : decode cX2_copyFrom 152 = .ok (.aload_n 0, 1) := by decide +kernel
theorem dX2_copyFrom_153 : decode cX2_copyFrom 153 = .ok (.getfield 40, 3) := by decide +kernel
theorem dX2_copyFrom_156 : decode cX2_copyFrom 156 = .ok (.iconst 0, 1) := by decide +kernel
theorem dX2_copyFrom_157 : decode cX2_copyFrom 157 = .ok (.bipush 32, 2) := by decide +kernel
theorem dX2_copyFrom_159 : decode cX2_copyFrom 159 = .ok (.invokestatic 59, 3) := by decide +kernel
theorem dX2_copyFrom_162 : decode cX2_copyFrom 162 = .ok (.aload_n 1, 1) := by decide +kernel
theorem dX2_copyFrom_163 : decode cX2_copyFrom 163 = .ok (.getfield 43, 3) := by decide +kernel
theorem dX2_copyFrom_166 : decode cX2_copyFrom 166 = .ok (.iconst 0, 1) := by decide +kernel
theorem dX2_copyFrom_167 : decode cX2_copyFrom 167 = .ok (.aload_n 0, 1) := by decide +kernel
theorem dX2_copyFrom_168 : decode cX2_copyFrom 168 = .ok (.getfield 43, 3) := by decide +kernel
theorem dX2_copyFrom_171 : decode cX2_copyFrom 171 = .ok (.iconst 0, 1) := by decide +kernel
theorem dX2_copyFrom_172 : decode cX2_copyFrom 172 = .ok (.bipush 32, 2) := by decide +kernel
theorem dX2_copyFrom_174 : decode cX2_copyFrom 174 = .ok (.invokestatic 59, 3) := by decide +kernel
theorem dX2_copyFrom_177 : decode cX2_copyFrom 177 = .ok (.return_, 1) := by decide +kernel
theorem dX2_isDeal_0 : decode cX2_isDeal 0 = .ok (.iload_n 1, 1) := by decide +kernel
theorem dX2_isDeal_1 : decode cX2_isDeal 1 = .ok (.ifCond .lt 15, 3) := by decide +kernel
theorem dX2_isDeal_4 : decode cX2_isDeal 4 = .ok (.iload_n 1, 1) := by decide +kernel
theorem dX2_isDeal_5 : decode cX2_isDeal 5 = .ok (.aload_n 0, 1) := by decide +kernel
theorem dX2_isDeal_6 : decode cX2_isDeal 6 = .ok (.getfield 56, 3) := by decide +kernel
theorem dX2_isDeal_9 : decode cX2_isDeal 9 = .ok (.if_icmp .ge 7, 3) := by decide +kernel
theorem dX2_isDeal_12 : decode cX2_isDeal 12 = .ok (.iconst 1, 1) := by decide +kernel
theorem dX2_isDeal_13 : decode cX2_isDeal 13 = .ok (.goto 4, 3) := by decide +kernel
theorem dX2_isDeal_16 : decode cX2_isDeal 16 = .ok (.iconst 0, 1) := by decide +kernel
theorem dX2_isDeal_17 : decode cX2_isDeal 17 = .ok (.ireturn, 1) := by decide +kernel
theorem dX2_isClerk_0 : decode cX2_isClerk 0 = .ok (.iload_n 0, 1) := by decide +kernel
theorem dX2_isClerk_1 : decode cX2_isClerk 1 = .ok (.ifCond .lt 12, 3) := by decide +kernel
theorem dX2_isClerk_4 : decode cX2_isClerk 4 = .ok (.iload_n 0, 1) := by decide +kernel
theorem dX2_isClerk_5 : decode cX2_isClerk 5 = .ok (.iconst 4, 1) := by decide +kernel
theorem dX2_isClerk_6 : decode cX2_isClerk 6 = .ok (.if_icmp .ge 7, 3) := by decide +kernel
theorem dX2_isClerk_9 : decode cX2_isClerk 9 = .ok (.iconst 1, 1) := by decide +kernel
theorem dX2_isClerk_10 : decode cX2_isClerk 10 = .ok (.goto 4, 3) := by decide +kernel
theorem dX2_isClerk_13 : decode cX2_isClerk 13 = .ok (.iconst 0, 1) := by decide +kernel
theorem dX2_isClerk_14 : decode cX2_isClerk 14 = .ok (.ireturn, 1) := by decide +kernel
theorem dX2_isSomebody_0 : decode cX2_isSomebody 0 = .ok (.iload_n 0, 1) := by decide +kernel
theorem dX2_isSomebody_1 : decode cX2_isSomebody 1 = .ok (.ifCond .lt 12, 3) := by decide +kernel
theorem dX2_isSomebody_4 : decode cX2_isSomebody 4 = .ok (.iload_n 0, 1) := by decide +kernel
theorem dX2_isSomebody_5 : decode cX2_isSomebody 5 = .ok (.iconst 5, 1) := by decide +kernel
theorem dX2_isSomebody_6 : decode cX2_isSomebody 6 = .ok (.if_icmp .ge 7, 3) := by decide +kernel
theorem dX2_isSomebody_9 : decode cX2_isSomebody 9 = .ok (.iconst 1, 1) := by decide +kernel
theorem dX2_isSomebody_10 : decode cX2_isSomebody 10 = .ok (.goto 4, 3) := by decide +kernel
theorem dX2_isSomebody_13 : decode cX2_isSomebody 13 = .ok (.iconst 0, 1) := by decide +kernel
theorem dX2_isSomebody_14 : decode cX2_isSomebody 14 = .ok (.ireturn, 1) := by decide +kernel
theorem dX2_isIll_0 : decode cX2_isIll 0 = .ok (.aload_n 0, 1) := by decide +kernel
theorem dX2_isIll_1 : decode cX2_isIll 1 = .ok (.getfield 50, 3) := by decide +kernel
theorem dX2_isIll_4 : decode cX2_isIll 4 = .ok (.iload_n 1, 1) := by decide +kernel
theorem dX2_isIll_5 : decode cX2_isIll 5 = .ok (.invokestatic 69, 3) := by decide +kernel
theorem dX2_isIll_8 : decode cX2_isIll 8 = .ok (.ireturn, 1) := by decide +kernel
theorem dX2_whoStand_0 : decode cX2_whoStand 0 = .ok (.aload_n 0, 1) := by decide +kernel
theorem dX2_whoStand_1 : decode cX2_whoStand 1 = .ok (.getfield 40, 3) := by decide +kernel
theorem dX2_whoStand_4 : decode cX2_whoStand 4 = .ok (.iload_n 1, 1) := by decide +kernel
theorem dX2_whoStand_5 : decode cX2_whoStand 5 = .ok (.iconst 4, 1) := by decide +kernel
theorem dX2_whoStand_6 : decode cX2_whoStand 6 = .ok (.imul, 1) := by decide +kernel
theorem dX2_whoStand_7 : decode cX2_whoStand 7 = .ok (.iload_n 2, 1) := by decide +kernel
theorem dX2_whoStand_8 : decode cX2_whoStand 8 = .ok (.iadd, 1) := by decide +kernel
theorem dX2_whoStand_9 : decode cX2_whoStand 9 = .ok (.iaload, 1) := by decide +kernel
theorem dX2_whoStand_10 : decode cX2_whoStand 10 = .ok (.ireturn, 1) := by decide +kernel
theorem dX2_stands_0 : decode cX2_stands 0 = .ok (.aload_n 0, 1) := by decide +kernel
theorem dX2_stands_1 : decode cX2_stands 1 = .ok (.iload_n 1, 1) := by decide +kernel
theorem dX2_stands_2 : decode cX2_stands 2 = .ok (.iload_n 3, 1) := by decide +kernel
theorem dX2_stands_3 : decode cX2_stands 3 = .ok (.invokevirtual 73, 3) := by decide +kernel
theorem dX2_stands_6 : decode cX2_stands 6 = .ok (.iload_n 2, 1) := by decide +kernel
theorem dX2_stands_7 : decode cX2_stands 7 = .ok (.invokestatic 69, 3) := by decide +kernel
theorem dX2_stands_10 : decode cX2_stands 10 = .ok (.ireturn, 1) := by decide +kernel
theorem dX2_move_0 : decode cX2_move 0 = .ok (.aload_n 0, 1) := by decide +kernel
theorem dX2_move_1 : decode cX2_move 1 = .ok (.getfield 40, 3) := by decide +kernel
theorem dX2_move_4 : decode cX2_move 4 = .ok (.iload_n 1, 1) := by decide +kernel
theorem dX2_move_5 : decode cX2_move 5 = .ok (.iconst 4, 1) := by decide +kernel
theorem dX2_move_6 : decode cX2_move 6 = .ok (.imul, 1) := by decide +kernel
theorem dX2_move_7 : decode cX2_move 7 = .ok (.iload_n 3, 1) := by decide +kernel
theorem dX2_move_8 : decode cX2_move 8 = .ok (.iadd, 1) := by decide +kernel
theorem dX2_move_9 : decode cX2_move 9 = .ok (.dup2, 1) := by decide +kernel
theorem dX2_move_10 : decode cX2_move 10 = .ok (.iaload, 1) := by decide +kernel
theorem dX2_move_11 : decode cX2_move 11 = .ok (.iconst 1, 1) := by decide +kernel
theorem dX2_move_12 : decode cX2_move 12 = .ok (.iload_n 2, 1) := by decide +kernel
theorem dX2_move_13 : decode cX2_move 13 = .ok (.ishl, 1) := by decide +kernel
theorem dX2_move_14 : decode cX2_move 14 = .ok (.iconst (-1), 1) := by decide +kernel
theorem dX2_move_15 : decode cX2_move 15 = .ok (.ixor, 1) := by decide +kernel
theorem dX2_move_16 : decode cX2_move 16 = .ok (.iand, 1) := by decide +kernel
theorem dX2_move_17 : decode cX2_move 17 = .ok (.iastore, 1) := by decide +kernel
theorem dX2_move_18 : decode cX2_move 18 = .ok (.aload_n 0, 1) := by decide +kernel
theorem dX2_move_19 : decode cX2_move 19 = .ok (.getfield 40, 3) := by decide +kernel
theorem dX2_move_22 : decode cX2_move 22 = .ok (.iload_n 1, 1) := by decide +kernel
theorem dX2_move_23 : decode cX2_move 23 = .ok (.iconst 4, 1) := by decide +kernel
theorem dX2_move_24 : decode cX2_move 24 = .ok (.imul, 1) := by decide +kernel
theorem dX2_move_25 : decode cX2_move 25 = .ok (.iload 4, 2) := by decide +kernel
theorem dX2_move_27 : decode cX2_move 27 = .ok (.iadd, 1) := by decide +kernel
theorem dX2_move_28 : decode cX2_move 28 = .ok (.dup2, 1) := by decide +kernel
theorem dX2_move_29 : decode cX2_move 29 = .ok (.iaload, 1) := by decide +kernel
theorem dX2_move_30 : decode cX2_move 30 = .ok (.iconst 1, 1) := by decide +kernel
theorem dX2_move_31 : decode cX2_move 31 = .ok (.iload_n 2, 1) := by decide +kernel
theorem dX2_move_32 : decode cX2_move 32 = .ok (.ishl, 1) := by decide +kernel
theorem dX2_move_33 : decode cX2_move 33 = .ok (.ior, 1) := by decide +kernel
theorem dX2_move_34 : decode cX2_move 34 = .ok (.iastore, 1) := by decide +kernel
theorem dX2_move_35 : decode cX2_move 35 = .ok (.return_, 1) := by decide +kernel
theorem dX2_changeSetting_0 : decode cX2_changeSetting 0 = .ok (.iload_n 1, 1) := by decide +kernel
theorem dX2_changeSetting_1 : decode cX2_changeSetting 1 = .ok (.ifCond .lt 26, 3) := by decide +kernel
theorem dX2_changeSetting_4 : decode cX2_changeSetting 4 = .ok (.iload_n 1, 1) := by decide +kernel
theorem dX2_changeSetting_5 : decode cX2_changeSetting 5 = .ok (.iconst 4, 1) := by decide +kernel
theorem dX2_changeSetting_6 : decode cX2_changeSetting 6 = .ok (.if_icmp .ge 21, 3) := by decide +kernel
theorem dX2_changeSetting_9 : decode cX2_changeSetting 9 = .ok (.iload_n 2, 1) := by decide +kernel
theorem dX2_changeSetting_10 : decode cX2_changeSetting 10 = .ok (.getstatic 77, 3) := by decide +kernel
theorem dX2_changeSetting_13 : decode cX2_changeSetting 13 = .ok (.iload_n 1, 1) := by decide +kernel
theorem dX2_changeSetting_14 : decode cX2_changeSetting 14 = .ok (.iaload, 1) := by decide +kernel
theorem dX2_changeSetting_15 : decode cX2_changeSetting 15 = .ok (.if_icmp .lt 12, 3) := by decide +kernel
theorem dX2_changeSetting_18 : decode cX2_changeSetting 18 = .ok (.iload_n 2, 1) := by decide +kernel
theorem dX2_changeSetting_19 : decode cX2_changeSetting 19 = .ok (.getstatic 80, 3) := by decide +kernel
theorem dX2_changeSetting_22 : decode cX2_changeSetting 22 = .ok (.iload_n 1, 1) := by decide +kernel
theorem dX2_changeSetting_23 : decode cX2_changeSetting 23 = .ok (.iaload, 1) := by decide +kernel
theorem dX2_changeSetting_24 : decode cX2_changeSetting 24 = .ok (.if_icmp .le 6, 3) := by decide +kernel
theorem dX2_changeSetting_27 : decode cX2_changeSetting 27 = .ok (.bipush (-2), 2) := by decide +kernel
theorem dX2_changeSetting_29 : decode cX2_changeSetting 29 = .ok (.ireturn, 1) := by decide +kernel
theorem dX2_changeSetting_30 : decode cX2_changeSetting 30 = .ok (.aload_n 0, 1) := by decide +kernel
theorem dX2_changeSetting_31 : decode cX2_changeSetting 31 = .ok (.getfield 9, 3) := by decide +kernel
theorem dX2_changeSetting_34 : decode cX2_changeSetting 34 = .ok (.iload_n 1, 1) := by decide +kernel
theorem dX2_changeSetting_35 : decode cX2_changeSetting 35 = .ok (.iaload, 1) := by decide +kernel
theorem dX2_changeSetting_36 : decode cX2_changeSetting 36 = .ok (.istore_n 3, 1) := by decide +kernel
theorem dX2_changeSetting_37 : decode cX2_changeSetting 37 = .ok (.aload_n 0, 1) := by decide +kernel
theorem dX2_changeSetting_38 : decode cX2_changeSetting 38 = .ok (.getfield 9, 3) := by decide +kernel
theorem dX2_changeSetting_41 : decode cX2_changeSetting 41 = .ok (.iload_n 1, 1) := by decide +kernel
theorem dX2_changeSetting_42 : decode cX2_changeSetting 42 = .ok (.iload_n 2, 1) := by decide +kernel
theorem dX2_changeSetting_43 : decode cX2_changeSetting 43 = .ok (.iastore, 1) := by decide +kernel
theorem dX2_changeSetting_44 : decode cX2_changeSetting 44 = .ok (.iload_n 3, 1) := by decide +kernel
theorem dX2_changeSetting_45 : decode cX2_changeSetting 45 = .ok (.ireturn, 1) := by decide +kernel
theorem dX2_makeWilling_0 : decode cX2_makeWilling 0 = .ok (.iload_n 1, 1) := by decide +kernel
theorem dX2_makeWilling_1 : decode cX2_makeWilling 1 = .ok (.invokestatic 83, 3) := by decide +kernel
theorem dX2_makeWilling_4 : decode cX2_makeWilling 4 = .ok (.ifCond .ne 5, 3) := by decide +kernel
theorem dX2_makeWilling_7 : decode cX2_makeWilling 7 = .ok (.iconst (-1), 1) := by decide +kernel
theorem dX2_makeWilling_8 : decode cX2_makeWilling 8 = .ok (.ireturn, 1) := by decide +kernel
theorem dX2_makeWilling_9 : decode cX2_makeWilling 9 = .ok (.iload_n 2, 1) := by decide +kernel
theorem dX2_makeWilling_10 : decode cX2_makeWilling 10 = .ok (.ifCond .eq 11, 3) := by decide +kernel
theorem dX2_makeWilling_13 : decode cX2_makeWilling 13 = .ok (.iload_n 2, 1) := by decide +kernel
theorem dX2_makeWilling_14 : decode cX2_makeWilling 14 = .ok (.iconst 1, 1) := by decide +kernel
theorem dX2_makeWilling_15 : decode cX2_makeWilling 15 = .ok (.if_icmp .eq 6, 3) := by decide +kernel
theorem dX2_makeWilling_18 : decode cX2_makeWilling 18 = .ok (.bipush (-2), 2) := by decide +kernel
theorem dX2_makeWilling_20 : decode cX2_makeWilling 20 = .ok (.ireturn, 1) := by decide +kernel
theorem dX2_makeWilling_21 : decode cX2_makeWilling 21 = .ok (.aload_n 0, 1) := by decide +kernel
theorem dX2_makeWilling_22 : decode cX2_makeWilling 22 = .ok (.getfield 53, 3) := by decide +kernel
theorem dX2_makeWilling_25 : decode cX2_makeWilling 25 = .ok (.iload_n 1, 1) := by decide +kernel
theorem dX2_makeWilling_26 : decode cX2_makeWilling 26 = .ok (.invokestatic 69, 3) := by decide +kernel
theorem dX2_makeWilling_29 : decode cX2_makeWilling 29 = .ok (.ifCond .eq 7, 3) := by decide +kernel
theorem dX2_makeWilling_32 : decode cX2_makeWilling 32 = .ok (.iconst 0, 1) := by decide +kernel
theorem dX2_makeWilling_33 : decode cX2_makeWilling 33 = .ok (.goto 4, 3) := by decide +kernel
theorem dX2_makeWilling_36 : decode cX2_makeWilling 36 = .ok (.iconst 1, 1) := by decide +kernel
theorem dX2_makeWilling_37 : decode cX2_makeWilling 37 = .ok (.istore_n 3, 1) := by decide +kernel
theorem dX2_makeWilling_38 : decode cX2_makeWilling 38 = .ok (.iload_n 2, 1) := by decide +kernel
theorem dX2_makeWilling_39 : decode cX2_makeWilling 39 = .ok (.iconst 1, 1) := by decide +kernel
theorem dX2_makeWilling_40 : decode cX2_makeWilling 40 = .ok (.if_icmp .ne 20, 3) := by decide +kernel
theorem dX2_makeWilling_43 : decode cX2_makeWilling 43 = .ok (.aload_n 0, 1) := by decide +kernel
theorem dX2_makeWilling_44 : decode cX2_makeWilling 44 = .ok (.dup, 1) := by decide +kernel
theorem dX2_makeWilling_45 : decode cX2_makeWilling 45 = .ok (.getfield 53, 3) := by decide +kernel
theorem dX2_makeWilling_48 : decode cX2_makeWilling 48 = .ok (.iconst 1, 1) := by decide +kernel
theorem dX2_makeWilling_49 : decode cX2_makeWilling 49 = .ok (.iload_n 1, 1) := by decide +kernel
theorem dX2_makeWilling_50 : decode cX2_makeWilling 50 = .ok (.ishl, 1) := by decide +kernel
theorem dX2_makeWilling_51 : decode cX2_makeWilling 51 = .ok (.iconst (-1), 1) := by decide +kernel
theorem dX2_makeWilling_52 : decode cX2_makeWilling 52 = .ok (.ixor, 1) := by decide +kernel
theorem dX2_makeWilling_53 : decode cX2_makeWilling 53 = .ok (.iand, 1) := by decide +kernel
theorem dX2_makeWilling_54 : decode cX2_makeWilling 54 = .ok (.putfield 53, 3) := by decide +kernel
theorem dX2_makeWilling_57 : decode cX2_makeWilling 57 = .ok (.goto 15, 3) := by decide +kernel
theorem dX2_makeWilling_60 : decode cX2_makeWilling 60 = .ok (.aload_n 0, 1) := by decide +kernel
theorem dX2_makeWilling_61 : decode cX2_makeWilling 61 = .ok (.dup, 1) := by decide +kernel
theorem dX2_makeWilling_62 : decode cX2_makeWilling 62 = .ok (.getfield 53, 3) := by decide +kernel
theorem dX2_makeWilling_65 : decode cX2_makeWilling 65 = .ok (.iconst 1, 1) := by decide +kernel
theorem dX2_makeWilling_66 : decode cX2_makeWilling 66 = .ok (.iload_n 1, 1) := by decide +kernel
theorem dX2_makeWilling_67 : decode cX2_makeWilling 67 = .ok (.ishl, 1) := by decide +kernel
theorem dX2_makeWilling_68 : decode cX2_makeWilling 68 = .ok (.ior, 1) := by decide +kernel
theorem dX2_makeWilling_69 : decode cX2_makeWilling 69 = .ok (.putfield 53, 3) := by decide +kernel
theorem dX2_makeWilling_72 : decode cX2_makeWilling 72 = .ok (.iload_n 3, 1) := by decide +kernel
theorem dX2_makeWilling_73 : decode cX2_makeWilling 73 = .ok (.ireturn, 1) := by decide +kernel
theorem dX2_openDeal_0 : decode cX2_openDeal 0 = .ok (.iload_n 1, 1) := by decide +kernel
theorem dX2_openDeal_1 : decode cX2_openDeal 1 = .ok (.iconst 1, 1) := by decide +kernel
theorem dX2_openDeal_2 : decode cX2_openDeal 2 = .ok (.if_icmp .lt 9, 3) := by decide +kernel
theorem dX2_openDeal_5 : decode cX2_openDeal 5 = .ok (.iload_n 1, 1) := by decide +kernel
theorem dX2_openDeal_6 : decode cX2_openDeal 6 = .ok (.bipush 15, 2) := by decide +kernel
theorem dX2_openDeal_8 : decode cX2_openDeal 8 = .ok (.if_icmp .le 6, 3) := by decide +kernel
theorem dX2_openDeal_11 : decode cX2_openDeal 11 = .ok (.bipush (-2), 2) := by decide +kernel
theorem dX2_openDeal_13 : decode cX2_openDeal 13 = .ok (.ireturn, 1) := by decide +kernel
theorem dX2_openDeal_14 : decode cX2_openDeal 14 = .ok (.aload_n 0, 1) := by decide +kernel
theorem dX2_openDeal_15 : decode cX2_openDeal 15 = .ok (.getfield 56, 3) := by decide +kernel
theorem dX2_openDeal_18 : decode cX2_openDeal 18 = .ok (.bipush 8, 2) := by decide +kernel
theorem dX2_openDeal_20 : decode cX2_openDeal 20 = .ok (.if_icmp .lt 6, 3) := by decide +kernel
theorem dX2_openDeal_23 : decode cX2_openDeal 23 = .ok (.bipush (-4), 2) := by decide +kernel
theorem dX2_openDeal_25 : decode cX2_openDeal 25 = .ok (.ireturn, 1) := by decide +kernel
theorem dX2_openDeal_26 : decode cX2_openDeal 26 = .ok (.aload_n 0, 1) := by decide +kernel
theorem dX2_openDeal_27 : decode cX2_openDeal 27 = .ok (.iconst 4, 1) := by decide +kernel
theorem dX2_openDeal_28 : decode cX2_openDeal 28 = .ok (.invokevirtual 87, 3) := by decide +kernel
theorem dX2_openDeal_31 : decode cX2_openDeal 31 = .ok (.ifCond .eq 6, 3) := by decide +kernel
theorem dX2_openDeal_34 : decode cX2_openDeal 34 = .ok (.bipush (-5), 2) := by decide +kernel
theorem dX2_openDeal_36 : decode cX2_openDeal 36 = .ok (.ireturn, 1) := by decide +kernel
theorem dX2_openDeal_37 : decode cX2_openDeal 37 = .ok (.aload_n 0, 1) := by decide +kernel
theorem dX2_openDeal_38 : decode cX2_openDeal 38 = .ok (.getfield 56, 3) := by decide +kernel
theorem dX2_openDeal_41 : decode cX2_openDeal 41 = .ok (.istore_n 2, 1) := by decide +kernel
theorem dX2_openDeal_42 : decode cX2_openDeal 42 = .ok (.aload_n 0, 1) := by decide +kernel
theorem dX2_openDeal_43 : decode cX2_openDeal 43 = .ok (.dup, 1) := by decide +kernel
theorem dX2_openDeal_44 : decode cX2_openDeal 44 = .ok (.getfield 56, 3) := by decide +kernel
theorem dX2_openDeal_47 : decode cX2_openDeal 47 = .ok (.iconst 1, 1) := by decide +kernel
theorem dX2_openDeal_48 : decode cX2_openDeal 48 = .ok (.iadd, 1) := by decide +kernel
theorem dX2_openDeal_49 : decode cX2_openDeal 49 = .ok (.putfield 56, 3) := by decide +kernel
theorem dX2_openDeal_52 : decode cX2_openDeal 52 = .ok (.aload_n 0, 1) := by decide +kernel
theorem dX2_openDeal_53 : decode cX2_openDeal 53 = .ok (.getfield 22, 3) := by decide +kernel
theorem dX2_openDeal_56 : decode cX2_openDeal 56 = .ok (.iload_n 2, 1) := by decide +kernel
theorem dX2_openDeal_57 : decode cX2_openDeal 57 = .ok (.iload_n 1, 1) := by decide +kernel
theorem dX2_openDeal_58 : decode cX2_openDeal 58 = .ok (.iastore, 1) := by decide +kernel
theorem dX2_openDeal_59 : decode cX2_openDeal 59 = .ok (.aload_n 0, 1) := by decide +kernel
theorem dX2_openDeal_60 : decode cX2_openDeal 60 = .ok (.getfield 28, 3) := by decide +kernel
theorem dX2_openDeal_63 : decode cX2_openDeal 63 = .ok (.iload_n 2, 1) := by decide +kernel
theorem dX2_openDeal_64 : decode cX2_openDeal 64 = .ok (.aload_n 0, 1) := by decide +kernel
theorem dX2_openDeal_65 : decode cX2_openDeal 65 = .ok (.getfield 46, 3) := by decide +kernel
theorem dX2_openDeal_68 : decode cX2_openDeal 68 = .ok (.iastore, 1) := by decide +kernel
theorem dX2_openDeal_69 : decode cX2_openDeal 69 = .ok (.aload_n 0, 1) := by decide +kernel
theorem dX2_openDeal_70 : decode cX2_openDeal 70 = .ok (.getfield 40, 3) := by decide +kernel
theorem dX2_openDeal_73 : decode cX2_openDeal 73 = .ok (.iload_n 2, 1) := by decide +kernel
theorem dX2_openDeal_74 : decode cX2_openDeal 74 = .ok (.iconst 4, 1) := by decide +kernel
theorem dX2_openDeal_75 : decode cX2_openDeal 75 = .ok (.imul, 1) := by decide +kernel
theorem dX2_openDeal_76 : decode cX2_openDeal 76 = .ok (.iconst 0, 1) := by decide +kernel
theorem dX2_openDeal_77 : decode cX2_openDeal 77 = .ok (.iadd, 1) := by decide +kernel
theorem dX2_openDeal_78 : decode cX2_openDeal 78 = .ok (.iload_n 1, 1) := by decide +kernel
theorem dX2_openDeal_79 : decode cX2_openDeal 79 = .ok (.iastore, 1) := by decide +kernel
theorem dX2_openDeal_80 : decode cX2_openDeal 80 = .ok (.aload_n 0, 1) := by decide +kernel
theorem dX2_openDeal_81 : decode cX2_openDeal 81 = .ok (.iconst 0, 1) := by decide +kernel
theorem dX2_openDeal_82 : decode cX2_openDeal 82 = .ok (.iload_n 2, 1) := by decide +kernel
theorem dX2_openDeal_83 : decode cX2_openDeal 83 = .ok (.iconst 4, 1) := by decide +kernel
theorem dX2_openDeal_84 : decode cX2_openDeal 84 = .ok (.iload_n 1, 1) := by decide +kernel
theorem dX2_openDeal_85 : decode cX2_openDeal 85 = .ok (.invokevirtual 90, 3) := by decide +kernel
theorem dX2_openDeal_88 : decode cX2_openDeal 88 = .ok (.iload_n 2, 1) := by decide +kernel
theorem dX2_openDeal_89 : decode cX2_openDeal 89 = .ok (.ireturn, 1) := by decide +kernel
theorem dX2_dropMessage_0 : decode cX2_dropMessage 0 = .ok (.aload_n 0, 1) := by decide +kernel
theorem dX2_dropMessage_1 : decode cX2_dropMessage 1 = .ok (.getfield 18, 3) := by decide +kernel
theorem dX2_dropMessage_4 : decode cX2_dropMessage 4 = .ok (.iload_n 1, 1) := by decide +kernel
theorem dX2_dropMessage_5 : decode cX2_dropMessage 5 = .ok (.invokevirtual 94, 3) := by decide +kernel
theorem dX2_dropMessage_8 : decode cX2_dropMessage 8 = .ok (.ifCond .ne 5, 3) := by decide +kernel
theorem dX2_dropMessage_11 : decode cX2_dropMessage 11 = .ok (.iconst (-1), 1) := by decide +kernel
theorem dX2_dropMessage_12 : decode cX2_dropMessage 12 = .ok (.ireturn, 1) := by decide +kernel
theorem dX2_dropMessage_13 : decode cX2_dropMessage 13 = .ok (.aload_n 0, 1) := by decide +kernel
theorem dX2_dropMessage_14 : decode cX2_dropMessage 14 = .ok (.getfield 18, 3) := by decide +kernel
theorem dX2_dropMessage_17 : decode cX2_dropMessage 17 = .ok (.iload_n 1, 1) := by decide +kernel
theorem dX2_dropMessage_18 : decode cX2_dropMessage 18 = .ok (.invokevirtual 97, 3) := by decide +kernel
theorem dX2_dropMessage_21 : decode cX2_dropMessage 21 = .ok (.aload_n 0, 1) := by decide +kernel
theorem dX2_dropMessage_22 : decode cX2_dropMessage 22 = .ok (.getfield 18, 3) := by decide +kernel
theorem dX2_dropMessage_25 : decode cX2_dropMessage 25 = .ok (.dup, 1) := by decide +kernel
theorem dX2_dropMessage_26 : decode cX2_dropMessage 26 = .ok (.getfield 101, 3) := by decide +kernel
theorem dX2_dropMessage_29 : decode cX2_dropMessage 29 = .ok (.iconst 1, 1) := by decide +kernel
theorem dX2_dropMessage_30 : decode cX2_dropMessage 30 = .ok (.iadd, 1) := by decide +kernel
theorem dX2_dropMessage_31 : decode cX2_dropMessage 31 = .ok (.putfield 101, 3) := by decide +kernel
theorem dX2_dropMessage_34 : decode cX2_dropMessage 34 = .ok (.aload_n 0, 1) := by decide +kernel
theorem dX2_dropMessage_35 : decode cX2_dropMessage 35 = .ok (.getfield 18, 3) := by decide +kernel
theorem dX2_dropMessage_38 : decode cX2_dropMessage 38 = .ok (.getfield 104, 3) := by decide +kernel
theorem dX2_dropMessage_41 : decode cX2_dropMessage 41 = .ok (.ireturn, 1) := by decide +kernel
theorem dX2_repeatMessage_0 : decode cX2_repeatMessage 0 = .ok (.aload_n 0, 1) := by decide +kernel
theorem dX2_repeatMessage_1 : decode cX2_repeatMessage 1 = .ok (.getfield 18, 3) := by decide +kernel
theorem dX2_repeatMessage_4 : decode cX2_repeatMessage 4 = .ok (.iload_n 1, 1) := by decide +kernel
theorem dX2_repeatMessage_5 : decode cX2_repeatMessage 5 = .ok (.invokevirtual 94, 3) := by decide +kernel
theorem dX2_repeatMessage_8 : decode cX2_repeatMessage 8 = .ok (.ifCond .ne 5, 3) := by decide +kernel
theorem dX2_repeatMessage_11 : decode cX2_repeatMessage 11 = .ok (.iconst (-1), 1) := by decide +kernel
theorem dX2_repeatMessage_12 : decode cX2_repeatMessage 12 = .ok (.ireturn, 1) := by decide +kernel
theorem dX2_repeatMessage_13 : decode cX2_repeatMessage 13 = .ok (.aload_n 0, 1) := by decide +kernel
theorem dX2_repeatMessage_14 : decode cX2_repeatMessage 14 = .ok (.getfield 18, 3) := by decide +kernel
theorem dX2_repeatMessage_17 : decode cX2_repeatMessage 17 = .ok (.getfield 104, 3) := by decide +kernel
theorem dX2_repeatMessage_20 : decode cX2_repeatMessage 20 = .ok (.bipush 60, 2) := by decide +kernel
theorem dX2_repeatMessage_22 : decode cX2_repeatMessage 22 = .ok (.if_icmp .lt 6, 3) := by decide +kernel
theorem dX2_repeatMessage_25 : decode cX2_repeatMessage 25 = .ok (.bipush (-4), 2) := by decide +kernel
theorem dX2_repeatMessage_27 : decode cX2_repeatMessage 27 = .ok (.ireturn, 1) := by decide +kernel
theorem dX2_repeatMessage_28 : decode cX2_repeatMessage 28 = .ok (.aload_n 0, 1) := by decide +kernel
theorem dX2_repeatMessage_29 : decode cX2_repeatMessage 29 = .ok (.getfield 18, 3) := by decide +kernel
theorem dX2_repeatMessage_32 : decode cX2_repeatMessage 32 = .ok (.iload_n 1, 1) := by decide +kernel
theorem dX2_repeatMessage_33 : decode cX2_repeatMessage 33 = .ok (.invokevirtual 107, 3) := by decide +kernel
theorem dX2_repeatMessage_36 : decode cX2_repeatMessage 36 = .ok (.aload_n 0, 1) := by decide +kernel
theorem dX2_repeatMessage_37 : decode cX2_repeatMessage 37 = .ok (.getfield 18, 3) := by decide +kernel
theorem dX2_repeatMessage_40 : decode cX2_repeatMessage 40 = .ok (.getfield 104, 3) := by decide +kernel
theorem dX2_repeatMessage_43 : decode cX2_repeatMessage 43 = .ok (.ireturn, 1) := by decide +kernel
theorem dX2_fallIll_0 : decode cX2_fallIll 0 = .ok (.iload_n 1, 1) := by decide +kernel
theorem dX2_fallIll_1 : decode cX2_fallIll 1 = .ok (.invokestatic 110, 3) := by decide +kernel
theorem dX2_fallIll_4 : decode cX2_fallIll 4 = .ok (.ifCond .ne 5, 3) := by decide +kernel
theorem dX2_fallIll_7 : decode cX2_fallIll 7 = .ok (.iconst (-1), 1) := by decide +kernel
theorem dX2_fallIll_8 : decode cX2_fallIll 8 = .ok (.ireturn, 1) := by decide +kernel
theorem dX2_fallIll_9 : decode cX2_fallIll 9 = .ok (.aload_n 0, 1) := by decide +kernel
theorem dX2_fallIll_10 : decode cX2_fallIll 10 = .ok (.iload_n 1, 1) := by decide +kernel
theorem dX2_fallIll_11 : decode cX2_fallIll 11 = .ok (.invokevirtual 87, 3) := by decide +kernel
theorem dX2_fallIll_14 : decode cX2_fallIll 14 = .ok (.ifCond .eq 6, 3) := by decide +kernel
theorem dX2_fallIll_17 : decode cX2_fallIll 17 = .ok (.bipush (-5), 2) := by decide +kernel
theorem dX2_fallIll_19 : decode cX2_fallIll 19 = .ok (.ireturn, 1) := by decide +kernel
theorem dX2_fallIll_20 : decode cX2_fallIll 20 = .ok (.aload_n 0, 1) := by decide +kernel
theorem dX2_fallIll_21 : decode cX2_fallIll 21 = .ok (.dup, 1) := by decide +kernel
theorem dX2_fallIll_22 : decode cX2_fallIll 22 = .ok (.getfield 50, 3) := by decide +kernel
theorem dX2_fallIll_25 : decode cX2_fallIll 25 = .ok (.iconst 1, 1) := by decide +kernel
theorem dX2_fallIll_26 : decode cX2_fallIll 26 = .ok (.iload_n 1, 1) := by decide +kernel
theorem dX2_fallIll_27 : decode cX2_fallIll 27 = .ok (.ishl, 1) := by decide +kernel
theorem dX2_fallIll_28 : decode cX2_fallIll 28 = .ok (.ior, 1) := by decide +kernel
theorem dX2_fallIll_29 : decode cX2_fallIll 29 = .ok (.putfield 50, 3) := by decide +kernel
theorem dX2_fallIll_32 : decode cX2_fallIll 32 = .ok (.iconst 0, 1) := by decide +kernel
theorem dX2_fallIll_33 : decode cX2_fallIll 33 = .ok (.istore_n 2, 1) := by decide +kernel
theorem dX2_fallIll_34 : decode cX2_fallIll 34 = .ok (.iload_n 2, 1) := by decide +kernel
theorem dX2_fallIll_35 : decode cX2_fallIll 35 = .ok (.aload_n 0, 1) := by decide +kernel
theorem dX2_fallIll_36 : decode cX2_fallIll 36 = .ok (.getfield 56, 3) := by decide +kernel
theorem dX2_fallIll_39 : decode cX2_fallIll 39 = .ok (.if_icmp .ge 15, 3) := by decide +kernel
theorem dX2_fallIll_42 : decode cX2_fallIll 42 = .ok (.aload_n 0, 1) := by decide +kernel
theorem dX2_fallIll_43 : decode cX2_fallIll 43 = .ok (.iload_n 2, 1) := by decide +kernel
theorem dX2_fallIll_44 : decode cX2_fallIll 44 = .ok (.iload_n 1, 1) := by decide +kernel
theorem dX2_fallIll_45 : decode cX2_fallIll 45 = .ok (.invokevirtual 113, 3) := by decide +kernel
theorem dX2_fallIll_48 : decode cX2_fallIll 48 = .ok (.iinc 2 1, 3) := by decide +kernel
theorem dX2_fallIll_51 : decode cX2_fallIll 51 = .ok (.goto (-17), 3) := by decide +kernel
theorem dX2_fallIll_54 : decode cX2_fallIll 54 = .ok (.aload_n 0, 1) := by decide +kernel
theorem dX2_fallIll_55 : decode cX2_fallIll 55 = .ok (.getfield 50, 3) := by decide +kernel
theorem dX2_fallIll_58 : decode cX2_fallIll 58 = .ok (.invokestatic 117, 3) := by decide +kernel
theorem dX2_fallIll_61 : decode cX2_fallIll 61 = .ok (.ireturn, 1) := by decide +kernel
theorem dX2_forget_0 : decode cX2_forget 0 = .ok (.iload_n 2, 1) := by decide +kernel
theorem dX2_forget_1 : decode cX2_forget 1 = .ok (.iconst 4, 1) := by decide +kernel
theorem dX2_forget_2 : decode cX2_forget 2 = .ok (.if_icmp .eq 24, 3) := by decide +kernel
theorem dX2_forget_5 : decode cX2_forget 5 = .ok (.aload_n 0, 1) := by decide +kernel
theorem dX2_forget_6 : decode cX2_forget 6 = .ok (.iload_n 1, 1) := by decide +kernel
theorem dX2_forget_7 : decode cX2_forget 7 = .ok (.iload_n 2, 1) := by decide +kernel
theorem dX2_forget_8 : decode cX2_forget 8 = .ok (.iconst 0, 1) := by decide +kernel
theorem dX2_forget_9 : decode cX2_forget 9 = .ok (.invokevirtual 123, 3) := by decide +kernel
theorem dX2_forget_12 : decode cX2_forget 12 = .ok (.ifCond .eq 50, 3) := by decide +kernel
theorem dX2_forget_15 : decode cX2_forget 15 = .ok (.aload_n 0, 1) := by decide +kernel
theorem dX2_forget_16 : decode cX2_forget 16 = .ok (.iload_n 1, 1) := by decide +kernel
theorem dX2_forget_17 : decode cX2_forget 17 = .ok (.iload_n 2, 1) := by decide +kernel
theorem dX2_forget_18 : decode cX2_forget 18 = .ok (.iconst 0, 1) := by decide +kernel
theorem dX2_forget_19 : decode cX2_forget 19 = .ok (.iconst 3, 1) := by decide +kernel
theorem dX2_forget_20 : decode cX2_forget 20 = .ok (.invokevirtual 127, 3) := by decide +kernel
theorem dX2_forget_23 : decode cX2_forget 23 = .ok (.goto 39, 3) := by decide +kernel
theorem dX2_forget_26 : decode cX2_forget 26 = .ok (.aload_n 0, 1) := by decide +kernel
theorem dX2_forget_27 : decode cX2_forget 27 = .ok (.getfield 25, 3) := by decide +kernel
theorem dX2_forget_30 : decode cX2_forget 30 = .ok (.iload_n 1, 1) := by decide +kernel
theorem dX2_forget_31 : decode cX2_forget 31 = .ok (.iaload, 1) := by decide +kernel
theorem dX2_forget_32 : decode cX2_forget 32 = .ok (.ifCond .ne 13, 3) := by decide +kernel
theorem dX2_forget_35 : decode cX2_forget 35 = .ok (.aload_n 0, 1) := by decide +kernel
theorem dX2_forget_36 : decode cX2_forget 36 = .ok (.getfield 25, 3) := by decide +kernel
theorem dX2_forget_39 : decode cX2_forget 39 = .ok (.iload_n 1, 1) := by decide +kernel
theorem dX2_forget_40 : decode cX2_forget 40 = .ok (.iconst 2, 1) := by decide +kernel
theorem dX2_forget_41 : decode cX2_forget 41 = .ok (.iastore, 1) := by decide +kernel
theorem dX2_forget_42 : decode cX2_forget 42 = .ok (.goto 20, 3) := by decide +kernel
theorem dX2_forget_45 : decode cX2_forget 45 = .ok (.aload_n 0, 1) := by decide +kernel
theorem dX2_forget_46 : decode cX2_forget 46 = .ok (.getfield 25, 3) := by decide +kernel
theorem dX2_forget_49 : decode cX2_forget 49 = .ok (.iload_n 1, 1) := by decide +kernel
theorem dX2_forget_50 : decode cX2_forget 50 = .ok (.iaload, 1) := by decide +kernel
theorem dX2_forget_51 : decode cX2_forget 51 = .ok (.iconst 1, 1) := by decide +kernel
theorem dX2_forget_52 : decode cX2_forget 52 = .ok (.if_icmp .ne 10, 3) := by decide +kernel
theorem dX2_forget_55 : decode cX2_forget 55 = .ok (.aload_n 0, 1) := by decide +kernel
theorem dX2_forget_56 : decode cX2_forget 56 = .ok (.getfield 37, 3) := by decide +kernel
theorem dX2_forget_59 : decode cX2_forget 59 = .ok (.iload_n 1, 1) := by decide +kernel
theorem dX2_forget_60 : decode cX2_forget 60 = .ok (.iconst 0, 1) := by decide +kernel
theorem dX2_forget_61 : decode cX2_forget 61 = .ok (.iastore, 1) := by decide +kernel
theorem dX2_forget_62 : decode cX2_forget 62 = .ok (.return_, 1) := by decide +kernel
theorem dX2_getWell_0 : decode cX2_getWell 0 = .ok (.iload_n 1, 1) := by decide +kernel
theorem dX2_getWell_1 : decode cX2_getWell 1 = .ok (.invokestatic 110, 3) := by decide +kernel
theorem dX2_getWell_4 : decode cX2_getWell 4 = .ok (.ifCond .ne 5, 3) := by decide +kernel
theorem dX2_getWell_7 : decode cX2_getWell 7 = .ok (.iconst (-1), 1) := by decide +kernel
theorem dX2_getWell_8 : decode cX2_getWell 8 = .ok (.ireturn, 1) := by decide +kernel
theorem dX2_getWell_9 : decode cX2_getWell 9 = .ok (.aload_n 0, 1) := by decide +kernel
theorem dX2_getWell_10 : decode cX2_getWell 10 = .ok (.iload_n 1, 1) := by decide +kernel
theorem dX2_getWell_11 : decode cX2_getWell 11 = .ok (.invokevirtual 87, 3) := by decide +kernel
theorem dX2_getWell_14 : decode cX2_getWell 14 = .ok (.ifCond .ne 6, 3) := by decide +kernel
theorem dX2_getWell_17 : decode cX2_getWell 17 = .ok (.bipush (-5), 2) := by decide +kernel
theorem dX2_getWell_19 : decode cX2_getWell 19 = .ok (.ireturn, 1) := by decide +kernel
theorem dX2_getWell_20 : decode cX2_getWell 20 = .ok (.aload_n 0, 1) := by decide +kernel
theorem dX2_getWell_21 : decode cX2_getWell 21 = .ok (.dup, 1) := by decide +kernel
theorem dX2_getWell_22 : decode cX2_getWell 22 = .ok (.getfield 50, 3) := by decide +kernel
theorem dX2_getWell_25 : decode cX2_getWell 25 = .ok (.iconst 1, 1) := by decide +kernel
theorem dX2_getWell_26 : decode cX2_getWell 26 = .ok (.iload_n 1, 1) := by decide +kernel
theorem dX2_getWell_27 : decode cX2_getWell 27 = .ok (.ishl, 1) := by decide +kernel
theorem dX2_getWell_28 : decode cX2_getWell 28 = .ok (.iconst (-1), 1) := by decide +kernel
theorem dX2_getWell_29 : decode cX2_getWell 29 = .ok (.ixor, 1) := by decide +kernel
theorem dX2_getWell_30 : decode cX2_getWell 30 = .ok (.iand, 1) := by decide +kernel
theorem dX2_getWell_31 : decode cX2_getWell 31 = .ok (.putfield 50, 3) := by decide +kernel
theorem dX2_getWell_34 : decode cX2_getWell 34 = .ok (.aload_n 0, 1) := by decide +kernel
theorem dX2_getWell_35 : decode cX2_getWell 35 = .ok (.getfield 50, 3) := by decide +kernel
theorem dX2_getWell_38 : decode cX2_getWell 38 = .ok (.invokestatic 117, 3) := by decide +kernel
theorem dX2_getWell_41 : decode cX2_getWell 41 = .ok (.ireturn, 1) := by decide +kernel
theorem dX2_sendToClerks_0 : decode cX2_sendToClerks 0 = .ok (.iconst 0, 1) := by decide +kernel
theorem dX2_sendToClerks_1 : decode cX2_sendToClerks 1 = .ok (.istore 5, 2) := by decide +kernel
theorem dX2_sendToClerks_3 : decode cX2_sendToClerks 3 = .ok (.iload 5, 2) := by decide +kernel
theorem dX2_sendToClerks_5 : decode cX2_sendToClerks 5 = .ok (.iconst 4, 1) := by decide +kernel
theorem dX2_sendToClerks_6 : decode cX2_sendToClerks 6 = .ok (.if_icmp .ge 31, 3) := by decide +kernel
theorem dX2_sendToClerks_9 : decode cX2_sendToClerks 9 = .ok (.iload 4, 2) := by decide +kernel
theorem dX2_sendToClerks_11 : decode cX2_sendToClerks 11 = .ok (.iload 5, 2) := by decide +kernel
theorem dX2_sendToClerks_13 : decode cX2_sendToClerks 13 = .ok (.invokestatic 69, 3) := by decide +kernel
theorem dX2_sendToClerks_16 : decode cX2_sendToClerks 16 = .ok (.ifCond .eq 15, 3) := by decide +kernel
theorem dX2_sendToClerks_19 : decode cX2_sendToClerks 19 = .ok (.aload_n 0, 1) := by decide +kernel
theorem dX2_sendToClerks_20 : decode cX2_sendToClerks 20 = .ok (.getfield 18, 3) := by decide +kernel
theorem dX2_sendToClerks_23 : decode cX2_sendToClerks 23 = .ok (.iload_n 1, 1) := by decide +kernel
theorem dX2_sendToClerks_24 : decode cX2_sendToClerks 24 = .ok (.iload_n 2, 1) := by decide +kernel
theorem dX2_sendToClerks_25 : decode cX2_sendToClerks 25 = .ok (.iload_n 3, 1) := by decide +kernel
theorem dX2_sendToClerks_26 : decode cX2_sendToClerks 26 = .ok (.iload 5, 2) := by decide +kernel
theorem dX2_sendToClerks_28 : decode cX2_sendToClerks 28 = .ok (.invokevirtual 130, 3) := by decide +kernel
theorem dX2_sendToClerks_31 : decode cX2_sendToClerks 31 = .ok (.iinc 5 1, 3) := by decide +kernel
theorem dX2_sendToClerks_34 : decode cX2_sendToClerks 34 = .ok (.goto (-31), 3) := by decide +kernel
theorem dX2_sendToClerks_37 : decode cX2_sendToClerks 37 = .ok (.return_, 1) := by decide +kernel
theorem dX2_handOver_0 : decode cX2_handOver 0 = .ok (.aload_n 0, 1) := by decide +kernel
theorem dX2_handOver_1 : decode cX2_handOver 1 = .ok (.getfield 18, 3) := by decide +kernel
theorem dX2_handOver_4 : decode cX2_handOver 4 = .ok (.iload_n 1, 1) := by decide +kernel
theorem dX2_handOver_5 : decode cX2_handOver 5 = .ok (.invokevirtual 94, 3) := by decide +kernel
theorem dX2_handOver_8 : decode cX2_handOver 8 = .ok (.ifCond .ne 5, 3) := by decide +kernel
theorem dX2_handOver_11 : decode cX2_handOver 11 = .ok (.iconst (-1), 1) := by decide +kernel
theorem dX2_handOver_12 : decode cX2_handOver 12 = .ok (.ireturn, 1) := by decide +kernel
theorem dX2_handOver_13 : decode cX2_handOver 13 = .ok (.aload_n 0, 1) := by decide +kernel
theorem dX2_handOver_14 : decode cX2_handOver 14 = .ok (.getfield 18, 3) := by decide +kernel
theorem dX2_handOver_17 : decode cX2_handOver 17 = .ok (.iload_n 1, 1) := by decide +kernel
theorem dX2_handOver_18 : decode cX2_handOver 18 = .ok (.iconst 0, 1) := by decide +kernel
theorem dX2_handOver_19 : decode cX2_handOver 19 = .ok (.invokevirtual 133, 3) := by decide +kernel
theorem dX2_handOver_22 : decode cX2_handOver 22 = .ok (.istore_n 2, 1) := by decide +kernel
theorem dX2_handOver_23 : decode cX2_handOver 23 = .ok (.aload_n 0, 1) := by decide +kernel
theorem dX2_handOver_24 : decode cX2_handOver 24 = .ok (.getfield 18, 3) := by decide +kernel
theorem dX2_handOver_27 : decode cX2_handOver 27 = .ok (.iload_n 1, 1) := by decide +kernel
theorem dX2_handOver_28 : decode cX2_handOver 28 = .ok (.iconst 1, 1) := by decide +kernel
theorem dX2_handOver_29 : decode cX2_handOver 29 = .ok (.invokevirtual 133, 3) := by decide +kernel
theorem dX2_handOver_32 : decode cX2_handOver 32 = .ok (.istore_n 3, 1) := by decide +kernel
theorem dX2_handOver_33 : decode cX2_handOver 33 = .ok (.aload_n 0, 1) := by decide +kernel
theorem dX2_handOver_34 : decode cX2_handOver 34 = .ok (.getfield 18, 3) := by decide +kernel
theorem dX2_handOver_37 : decode cX2_handOver 37 = .ok (.iload_n 1, 1) := by decide +kernel
theorem dX2_handOver_38 : decode cX2_handOver 38 = .ok (.iconst 2, 1) := by decide +kernel
theorem dX2_handOver_39 : decode cX2_handOver 39 = .ok (.invokevirtual 133, 3) := by decide +kernel
theorem dX2_handOver_42 : decode cX2_handOver 42 = .ok (.istore 4, 2) := by decide +kernel
theorem dX2_handOver_44 : decode cX2_handOver 44 = .ok (.aload_n 0, 1) := by decide +kernel
theorem dX2_handOver_45 : decode cX2_handOver 45 = .ok (.getfield 18, 3) := by decide +kernel
theorem dX2_handOver_48 : decode cX2_handOver 48 = .ok (.iload_n 1, 1) := by decide +kernel
theorem dX2_handOver_49 : decode cX2_handOver 49 = .ok (.iconst 3, 1) := by decide +kernel
theorem dX2_handOver_50 : decode cX2_handOver 50 = .ok (.invokevirtual 133, 3) := by decide +kernel
theorem dX2_handOver_53 : decode cX2_handOver 53 = .ok (.istore 5, 2) := by decide +kernel
theorem dX2_handOver_55 : decode cX2_handOver 55 = .ok (.aload_n 0, 1) := by decide +kernel
theorem dX2_handOver_56 : decode cX2_handOver 56 = .ok (.getfield 18, 3) := by decide +kernel
theorem dX2_handOver_59 : decode cX2_handOver 59 = .ok (.iload_n 1, 1) := by decide +kernel
theorem dX2_handOver_60 : decode cX2_handOver 60 = .ok (.invokevirtual 97, 3) := by decide +kernel
theorem dX2_handOver_63 : decode cX2_handOver 63 = .ok (.aload_n 0, 1) := by decide +kernel
theorem dX2_handOver_64 : decode cX2_handOver 64 = .ok (.iload 5, 2) := by decide +kernel
theorem dX2_handOver_66 : decode cX2_handOver 66 = .ok (.invokevirtual 87, 3) := by decide +kernel
theorem dX2_handOver_69 : decode cX2_handOver 69 = .ok (.ifCond .eq 24, 3) := by decide +kernel
theorem dX2_handOver_72 : decode cX2_handOver 72 = .ok (.aload_n 0, 1) := by decide +kernel
theorem dX2_handOver_73 : decode cX2_handOver 73 = .ok (.getfield 18, 3) := by decide +kernel
theorem dX2_handOver_76 : decode cX2_handOver 76 = .ok (.dup, 1) := by decide +kernel
theorem dX2_handOver_77 : decode cX2_handOver 77 = .ok (.getfield 101, 3) := by decide +kernel
theorem dX2_handOver_80 : decode cX2_handOver 80 = .ok (.iconst 1, 1) := by decide +kernel
theorem dX2_handOver_81 : decode cX2_handOver 81 = .ok (.iadd, 1) := by decide +kernel
theorem dX2_handOver_82 : decode cX2_handOver 82 = .ok (.putfield 101, 3) := by decide +kernel
theorem dX2_handOver_85 : decode cX2_handOver 85 = .ok (.aload_n 0, 1) := by decide +kernel
theorem dX2_handOver_86 : decode cX2_handOver 86 = .ok (.getfield 18, 3) := by decide +kernel
theorem dX2_handOver_89 : decode cX2_handOver 89 = .ok (.getfield 104, 3) := by decide +kernel
theorem dX2_handOver_92 : decode cX2_handOver 92 = .ok (.ireturn, 1) := by decide +kernel
theorem dX2_handOver_93 : decode cX2_handOver 93 = .ok (.aload_n 0, 1) := by decide +kernel
theorem dX2_handOver_94 : decode cX2_handOver 94 = .ok (.getfield 18, 3) := by decide +kernel
theorem dX2_handOver_97 : decode cX2_handOver 97 = .ok (.getfield 136, 3) := by decide +kernel
theorem dX2_handOver_100 : decode cX2_handOver 100 = .ok (.iload 5, 2) := by decide +kernel
theorem dX2_handOver_102 : decode cX2_handOver 102 = .ok (.dup2, 1) := by decide +kernel
theorem dX2_handOver_103 : decode cX2_handOver 103 = .ok (.iaload, 1) := by decide +kernel
theorem dX2_handOver_104 : decode cX2_handOver 104 = .ok (.iconst 1, 1) := by decide +kernel
theorem dX2_handOver_105 : decode cX2_handOver 105 = .ok (.iadd, 1) := by decide +kernel
theorem dX2_handOver_106 : decode cX2_handOver 106 = .ok (.iastore, 1) := by decide +kernel
theorem dX2_handOver_107 : decode cX2_handOver 107 = .ok (.iload_n 2, 1) := by decide +kernel
theorem dX2_handOver_108 : decode cX2_handOver 108 = .ok (.tableswitch 100 0 5 #[40, 50, 60, 70, 80, 90], 40) := by decide +kernel
theorem dX2_handOver_148 : decode cX2_handOver 148 = .ok (.aload_n 0, 1) := by decide +kernel
theorem dX2_handOver_149 : decode cX2_handOver 149 = .ok (.iload_n 3, 1) := by decide +kernel
theorem dX2_handOver_150 : decode cX2_handOver 150 = .ok (.iload 5, 2) := by decide +kernel
theorem dX2_handOver_152 : decode cX2_handOver 152 = .ok (.invokevirtual 139, 3) := by decide +kernel
theorem dX2_handOver_155 : decode cX2_handOver 155 = .ok (.goto 78, 3) := by decide +kernel
theorem dX2_handOver_158 : decode cX2_handOver 158 = .ok (.aload_n 0, 1) := by decide +kernel
theorem dX2_handOver_159 : decode cX2_handOver 159 = .ok (.iload_n 3, 1) := by decide +kernel
theorem dX2_handOver_160 : decode cX2_handOver 160 = .ok (.iload 4, 2) := by decide +kernel
theorem dX2_handOver_162 : decode cX2_handOver 162 = .ok (.invokevirtual 142, 3) := by decide +kernel
theorem dX2_handOver_165 : decode cX2_handOver 165 = .ok (.goto 68, 3) := by decide +kernel
theorem dX2_handOver_168 : decode cX2_handOver 168 = .ok (.aload_n 0, 1) := by decide +kernel
theorem dX2_handOver_169 : decode cX2_handOver 169 = .ok (.iload_n 3, 1) := by decide +kernel
theorem dX2_handOver_170 : decode cX2_handOver 170 = .ok (.iload 4, 2) := by decide +kernel
theorem dX2_handOver_172 : decode cX2_handOver 172 = .ok (.invokevirtual 145, 3) := by decide +kernel
theorem dX2_handOver_175 : decode cX2_handOver 175 = .ok (.goto 58, 3) := by decide +kernel
theorem dX2_handOver_178 : decode cX2_handOver 178 = .ok (.aload_n 0, 1) := by decide +kernel
theorem dX2_handOver_179 : decode cX2_handOver 179 = .ok (.iload_n 3, 1) := by decide +kernel
theorem dX2_handOver_180 : decode cX2_handOver 180 = .ok (.iload 5, 2) := by decide +kernel
theorem dX2_handOver_182 : decode cX2_handOver 182 = .ok (.invokevirtual 148, 3) := by decide +kernel
theorem dX2_handOver_185 : decode cX2_handOver 185 = .ok (.goto 48, 3) := by decide +kernel
theorem dX2_handOver_188 : decode cX2_handOver 188 = .ok (.aload_n 0, 1) := by decide +kernel
theorem dX2_handOver_189 : decode cX2_handOver 189 = .ok (.iload_n 3, 1) := by decide +kernel
theorem dX2_handOver_190 : decode cX2_handOver 190 = .ok (.iload 5, 2) := by decide +kernel
theorem dX2_handOver_192 : decode cX2_handOver 192 = .ok (.invokevirtual 151, 3) := by decide +kernel
theorem dX2_handOver_195 : decode cX2_handOver 195 = .ok (.goto 38, 3) := by decide +kernel
theorem dX2_handOver_198 : decode cX2_handOver 198 = .ok (.aload_n 0, 1) := by decide +kernel
theorem dX2_handOver_199 : decode cX2_handOver 199 = .ok (.iload_n 3, 1) := by decide +kernel
theorem dX2_handOver_200 : decode cX2_handOver 200 = .ok (.iload 4, 2) := by decide +kernel
theorem dX2_handOver_202 : decode cX2_handOver 202 = .ok (.invokevirtual 154, 3) := by decide +kernel
theorem dX2_handOver_205 : decode cX2_handOver 205 = .ok (.goto 28, 3) := by decide +kernel
theorem dX2_handOver_208 : decode cX2_handOver 208 = .ok (.iload 5, 2) := by decide +kernel
theorem dX2_handOver_210 : decode cX2_handOver 210 = .ok (.iconst 4, 1) := by decide +kernel
theorem dX2_handOver_211 : decode cX2_handOver 211 = .ok (.if_icmp .ne 13, 3) := by decide +kernel
theorem dX2_handOver_214 : decode cX2_handOver 214 = .ok (.aload_n 0, 1) := by decide +kernel
theorem dX2_handOver_215 : decode cX2_handOver 215 = .ok (.iload_n 3, 1) := by decide +kernel
theorem dX2_handOver_216 : decode cX2_handOver 216 = .ok (.iload 4, 2) := by decide +kernel
theorem dX2_handOver_218 : decode cX2_handOver 218 = .ok (.invokevirtual 157, 3) := by decide +kernel
theorem dX2_handOver_221 : decode cX2_handOver 221 = .ok (.goto 12, 3) := by decide +kernel
theorem dX2_handOver_224 : decode cX2_handOver 224 = .ok (.aload_n 0, 1) := by decide +kernel
theorem dX2_handOver_225 : decode cX2_handOver 225 = .ok (.iload_n 3, 1) := by decide +kernel
theorem dX2_handOver_226 : decode cX2_handOver 226 = .ok (.iload 5, 2) := by decide +kernel
theorem dX2_handOver_228 : decode cX2_handOver 228 = .ok (.iload 4, 2) := by decide +kernel
theorem dX2_handOver_230 : decode cX2_handOver 230 = .ok (.invokevirtual 160, 3) := by decide +kernel
theorem dX2_handOver_233 : decode cX2_handOver 233 = .ok (.aload_n 0, 1) := by decide +kernel
theorem dX2_handOver_234 : decode cX2_handOver 234 = .ok (.getfield 18, 3) := by decide +kernel
theorem dX2_handOver_237 : decode cX2_handOver 237 = .ok (.getfield 104, 3) := by decide +kernel
theorem dX2_handOver_240 : decode cX2_handOver 240 = .ok (.ireturn, 1) := by decide +kernel
theorem dX2_vote_0 : decode cX2_vote 0 = .ok (.aload_n 0, 1) := by decide +kernel
theorem dX2_vote_1 : decode cX2_vote 1 = .ok (.iload_n 1, 1) := by decide +kernel
theorem dX2_vote_2 : decode cX2_vote 2 = .ok (.iload_n 2, 1) := by decide +kernel
theorem dX2_vote_3 : decode cX2_vote 3 = .ok (.iconst 0, 1) := by decide +kernel
theorem dX2_vote_4 : decode cX2_vote 4 = .ok (.invokevirtual 123, 3) := by decide +kernel
theorem dX2_vote_7 : decode cX2_vote 7 = .ok (.ifCond .eq 47, 3) := by decide +kernel
theorem dX2_vote_10 : decode cX2_vote 10 = .ok (.aload_n 0, 1) := by decide +kernel
theorem dX2_vote_11 : decode cX2_vote 11 = .ok (.getfield 53, 3) := by decide +kernel
theorem dX2_vote_14 : decode cX2_vote 14 = .ok (.iload_n 2, 1) := by decide +kernel
theorem dX2_vote_15 : decode cX2_vote 15 = .ok (.invokestatic 69, 3) := by decide +kernel
theorem dX2_vote_18 : decode cX2_vote 18 = .ok (.ifCond .eq 14, 3) := by decide +kernel
theorem dX2_vote_21 : decode cX2_vote 21 = .ok (.aload_n 0, 1) := by decide +kernel
theorem dX2_vote_22 : decode cX2_vote 22 = .ok (.iload_n 1, 1) := by decide +kernel
theorem dX2_vote_23 : decode cX2_vote 23 = .ok (.iload_n 2, 1) := by decide +kernel
theorem dX2_vote_24 : decode cX2_vote 24 = .ok (.iconst 0, 1) := by decide +kernel
theorem dX2_vote_25 : decode cX2_vote 25 = .ok (.iconst 3, 1) := by decide +kernel
theorem dX2_vote_26 : decode cX2_vote 26 = .ok (.invokevirtual 127, 3) := by decide +kernel
theorem dX2_vote_29 : decode cX2_vote 29 = .ok (.goto 25, 3) := by decide +kernel
theorem dX2_vote_32 : decode cX2_vote 32 = .ok (.aload_n 0, 1) := by decide +kernel
theorem dX2_vote_33 : decode cX2_vote 33 = .ok (.iload_n 1, 1) := by decide +kernel
theorem dX2_vote_34 : decode cX2_vote 34 = .ok (.iload_n 2, 1) := by decide +kernel
theorem dX2_vote_35 : decode cX2_vote 35 = .ok (.iconst 0, 1) := by decide +kernel
theorem dX2_vote_36 : decode cX2_vote 36 = .ok (.iconst 1, 1) := by decide +kernel
theorem dX2_vote_37 : decode cX2_vote 37 = .ok (.invokevirtual 127, 3) := by decide +kernel
theorem dX2_vote_40 : decode cX2_vote 40 = .ok (.aload_n 0, 1) := by decide +kernel
theorem dX2_vote_41 : decode cX2_vote 41 = .ok (.getfield 43, 3) := by decide +kernel
theorem dX2_vote_44 : decode cX2_vote 44 = .ok (.iload_n 1, 1) := by decide +kernel
theorem dX2_vote_45 : decode cX2_vote 45 = .ok (.iconst 4, 1) := by decide +kernel
theorem dX2_vote_46 : decode cX2_vote 46 = .ok (.imul, 1) := by decide +kernel
theorem dX2_vote_47 : decode cX2_vote 47 = .ok (.iload_n 2, 1) := by decide +kernel
theorem dX2_vote_48 : decode cX2_vote 48 = .ok (.iadd, 1) := by decide +kernel
theorem dX2_vote_49 : decode cX2_vote 49 = .ok (.aload_n 0, 1) := by decide +kernel
theorem dX2_vote_50 : decode cX2_vote 50 = .ok (.getfield 46, 3) := by decide +kernel
theorem dX2_vote_53 : decode cX2_vote 53 = .ok (.iastore, 1) := by decide +kernel
theorem dX2_vote_54 : decode cX2_vote 54 = .ok (.aload_n 0, 1) := by decide +kernel
theorem dX2_vote_55 : decode cX2_vote 55 = .ok (.iload_n 1, 1) := by decide +kernel
theorem dX2_vote_56 : decode cX2_vote 56 = .ok (.iload_n 2, 1) := by decide +kernel
theorem dX2_vote_57 : decode cX2_vote 57 = .ok (.iconst 1, 1) := by decide +kernel
theorem dX2_vote_58 : decode cX2_vote 58 = .ok (.invokevirtual 123, 3) := by decide +kernel
theorem dX2_vote_61 : decode cX2_vote 61 = .ok (.ifCond .eq 17, 3) := by decide +kernel
theorem dX2_vote_64 : decode cX2_vote 64 = .ok (.aload_n 0, 1) := by decide +kernel
theorem dX2_vote_65 : decode cX2_vote 65 = .ok (.getfield 18, 3) := by decide +kernel
theorem dX2_vote_68 : decode cX2_vote 68 = .ok (.iconst 1, 1) := by decide +kernel
theorem dX2_vote_69 : decode cX2_vote 69 = .ok (.iload_n 1, 1) := by decide +kernel
theorem dX2_vote_70 : decode cX2_vote 70 = .ok (.iload_n 2, 1) := by decide +kernel
theorem dX2_vote_71 : decode cX2_vote 71 = .ok (.iconst 4, 1) := by decide +kernel
theorem dX2_vote_72 : decode cX2_vote 72 = .ok (.invokevirtual 130, 3) := by decide +kernel
theorem dX2_vote_75 : decode cX2_vote 75 = .ok (.goto 24, 3) := by decide +kernel
theorem dX2_vote_78 : decode cX2_vote 78 = .ok (.aload_n 0, 1) := by decide +kernel
theorem dX2_vote_79 : decode cX2_vote 79 = .ok (.iload_n 1, 1) := by decide +kernel
theorem dX2_vote_80 : decode cX2_vote 80 = .ok (.iload_n 2, 1) := by decide +kernel
theorem dX2_vote_81 : decode cX2_vote 81 = .ok (.iconst 3, 1) := by decide +kernel
theorem dX2_vote_82 : decode cX2_vote 82 = .ok (.invokevirtual 123, 3) := by decide +kernel
theorem dX2_vote_85 : decode cX2_vote 85 = .ok (.ifCond .eq 14, 3) := by decide +kernel
theorem dX2_vote_88 : decode cX2_vote 88 = .ok (.aload_n 0, 1) := by decide +kernel
theorem dX2_vote_89 : decode cX2_vote 89 = .ok (.getfield 18, 3) := by decide +kernel
theorem dX2_vote_92 : decode cX2_vote 92 = .ok (.iconst 2, 1) := by decide +kernel
theorem dX2_vote_93 : decode cX2_vote 93 = .ok (.iload_n 1, 1) := by decide +kernel
theorem dX2_vote_94 : decode cX2_vote 94 = .ok (.iload_n 2, 1) := by decide +kernel
theorem dX2_vote_95 : decode cX2_vote 95 = .ok (.iconst 4, 1) := by decide +kernel
theorem dX2_vote_96 : decode cX2_vote 96 = .ok (.invokevirtual 130, 3) := by decide +kernel
theorem dX2_vote_99 : decode cX2_vote 99 = .ok (.return_, 1) := by decide +kernel
theorem dX2_postFor_0 : decode cX2_postFor 0 = .ok (.aload_n 0, 1) := by decide +kernel
theorem dX2_postFor_1 : decode cX2_postFor 1 = .ok (.iload_n 1, 1) := by decide +kernel
theorem dX2_postFor_2 : decode cX2_postFor 2 = .ok (.iload_n 2, 1) := by decide +kernel
theorem dX2_postFor_3 : decode cX2_postFor 3 = .ok (.iconst 1, 1) := by decide +kernel
theorem dX2_postFor_4 : decode cX2_postFor 4 = .ok (.invokevirtual 123, 3) := by decide +kernel
theorem dX2_postFor_7 : decode cX2_postFor 7 = .ok (.ifCond .eq 11, 3) := by decide +kernel
theorem dX2_postFor_10 : decode cX2_postFor 10 = .ok (.aload_n 0, 1) := by decide +kernel
theorem dX2_postFor_11 : decode cX2_postFor 11 = .ok (.iload_n 1, 1) := by decide +kernel
theorem dX2_postFor_12 : decode cX2_postFor 12 = .ok (.iload_n 2, 1) := by decide +kernel
theorem dX2_postFor_13 : decode cX2_postFor 13 = .ok (.iconst 1, 1) := by decide +kernel
theorem dX2_postFor_14 : decode cX2_postFor 14 = .ok (.iconst 2, 1) := by decide +kernel
theorem dX2_postFor_15 : decode cX2_postFor 15 = .ok (.invokevirtual 127, 3) := by decide +kernel
theorem dX2_postFor_18 : decode cX2_postFor 18 = .ok (.aload_n 0, 1) := by decide +kernel
theorem dX2_postFor_19 : decode cX2_postFor 19 = .ok (.iload_n 1, 1) := by decide +kernel
theorem dX2_postFor_20 : decode cX2_postFor 20 = .ok (.iload_n 2, 1) := by decide +kernel
theorem dX2_postFor_21 : decode cX2_postFor 21 = .ok (.iconst 2, 1) := by decide +kernel
theorem dX2_postFor_22 : decode cX2_postFor 22 = .ok (.invokevirtual 123, 3) := by decide +kernel
theorem dX2_postFor_25 : decode cX2_postFor 25 = .ok (.ifCond .eq 14, 3) := by decide +kernel
theorem dX2_postFor_28 : decode cX2_postFor 28 = .ok (.aload_n 0, 1) := by decide +kernel
theorem dX2_postFor_29 : decode cX2_postFor 29 = .ok (.getfield 18, 3) := by decide +kernel
theorem dX2_postFor_32 : decode cX2_postFor 32 = .ok (.iconst 5, 1) := by decide +kernel
theorem dX2_postFor_33 : decode cX2_postFor 33 = .ok (.iload_n 1, 1) := by decide +kernel
theorem dX2_postFor_34 : decode cX2_postFor 34 = .ok (.iload_n 2, 1) := by decide +kernel
theorem dX2_postFor_35 : decode cX2_postFor 35 = .ok (.iconst 4, 1) := by decide +kernel
theorem dX2_postFor_36 : decode cX2_postFor 36 = .ok (.invokevirtual 130, 3) := by decide +kernel
theorem dX2_postFor_39 : decode cX2_postFor 39 = .ok (.return_, 1) := by decide +kernel
theorem dX2_tearFor_0 : decode cX2_tearFor 0 = .ok (.aload_n 0, 1) := by decide +kernel
theorem dX2_tearFor_1 : decode cX2_tearFor 1 = .ok (.iload_n 1, 1) := by decide +kernel
theorem dX2_tearFor_2 : decode cX2_tearFor 2 = .ok (.iload_n 2, 1) := by decide +kernel
theorem dX2_tearFor_3 : decode cX2_tearFor 3 = .ok (.iconst 0, 1) := by decide +kernel
theorem dX2_tearFor_4 : decode cX2_tearFor 4 = .ok (.invokevirtual 123, 3) := by decide +kernel
theorem dX2_tearFor_7 : decode cX2_tearFor 7 = .ok (.ifCond .eq 14, 3) := by decide +kernel
theorem dX2_tearFor_10 : decode cX2_tearFor 10 = .ok (.aload_n 0, 1) := by decide +kernel
theorem dX2_tearFor_11 : decode cX2_tearFor 11 = .ok (.iload_n 1, 1) := by decide +kernel
theorem dX2_tearFor_12 : decode cX2_tearFor 12 = .ok (.iload_n 2, 1) := by decide +kernel
theorem dX2_tearFor_13 : decode cX2_tearFor 13 = .ok (.iconst 0, 1) := by decide +kernel
theorem dX2_tearFor_14 : decode cX2_tearFor 14 = .ok (.iconst 3, 1) := by decide +kernel
theorem dX2_tearFor_15 : decode cX2_tearFor 15 = .ok (.invokevirtual 127, 3) := by decide +kernel
theorem dX2_tearFor_18 : decode cX2_tearFor 18 = .ok (.goto 21, 3) := by decide +kernel
theorem dX2_tearFor_21 : decode cX2_tearFor 21 = .ok (.aload_n 0, 1) := by decide +kernel
theorem dX2_tearFor_22 : decode cX2_tearFor 22 = .ok (.iload_n 1, 1) := by decide +kernel
theorem dX2_tearFor_23 : decode cX2_tearFor 23 = .ok (.iload_n 2, 1) := by decide +kernel
theorem dX2_tearFor_24 : decode cX2_tearFor 24 = .ok (.iconst 1, 1) := by decide +kernel
theorem dX2_tearFor_25 : decode cX2_tearFor 25 = .ok (.invokevirtual 123, 3) := by decide +kernel
theorem dX2_tearFor_28 : decode cX2_tearFor 28 = .ok (.ifCond .eq 11, 3) := by decide +kernel
theorem dX2_tearFor_31 : decode cX2_tearFor 31 = .ok (.aload_n 0, 1) := by decide +kernel
theorem dX2_tearFor_32 : decode cX2_tearFor 32 = .ok (.iload_n 1, 1) := by decide +kernel
theorem dX2_tearFor_33 : decode cX2_tearFor 33 = .ok (.iload_n 2, 1) := by decide +kernel
theorem dX2_tearFor_34 : decode cX2_tearFor 34 = .ok (.iconst 1, 1) := by decide +kernel
theorem dX2_tearFor_35 : decode cX2_tearFor 35 = .ok (.iconst 3, 1) := by decide +kernel
theorem dX2_tearFor_36 : decode cX2_tearFor 36 = .ok (.invokevirtual 127, 3) := by decide +kernel
theorem dX2_tearFor_39 : decode cX2_tearFor 39 = .ok (.return_, 1) := by decide +kernel
theorem dX2_answerAsElder_0 : decode cX2_answerAsElder 0 = .ok (.aload_n 0, 1) := by decide +kernel
theorem dX2_answerAsElder_1 : decode cX2_answerAsElder 1 = .ok (.iload_n 1, 1) := by decide +kernel
theorem dX2_answerAsElder_2 : decode cX2_answerAsElder 2 = .ok (.iload_n 2, 1) := by decide +kernel
theorem dX2_answerAsElder_3 : decode cX2_answerAsElder 3 = .ok (.iconst 0, 1) := by decide +kernel
theorem dX2_answerAsElder_4 : decode cX2_answerAsElder 4 = .ok (.invokevirtual 123, 3) := by decide +kernel
theorem dX2_answerAsElder_7 : decode cX2_answerAsElder 7 = .ok (.ifCond .eq 11, 3) := by decide +kernel
theorem dX2_answerAsElder_10 : decode cX2_answerAsElder 10 = .ok (.aload_n 0, 1) := by decide +kernel
theorem dX2_answerAsElder_11 : decode cX2_answerAsElder 11 = .ok (.iload_n 1, 1) := by decide +kernel
theorem dX2_answerAsElder_12 : decode cX2_answerAsElder 12 = .ok (.iload_n 2, 1) := by decide +kernel
theorem dX2_answerAsElder_13 : decode cX2_answerAsElder 13 = .ok (.iconst 0, 1) := by decide +kernel
theorem dX2_answerAsElder_14 : decode cX2_answerAsElder 14 = .ok (.iconst 3, 1) := by decide +kernel
theorem dX2_answerAsElder_15 : decode cX2_answerAsElder 15 = .ok (.invokevirtual 127, 3) := by decide +kernel
theorem dX2_answerAsElder_18 : decode cX2_answerAsElder 18 = .ok (.aload_n 0, 1) := by decide +kernel
theorem dX2_answerAsElder_19 : decode cX2_answerAsElder 19 = .ok (.iload_n 1, 1) := by decide +kernel
theorem dX2_answerAsElder_20 : decode cX2_answerAsElder 20 = .ok (.iload_n 2, 1) := by decide +kernel
theorem dX2_answerAsElder_21 : decode cX2_answerAsElder 21 = .ok (.iconst 2, 1) := by decide +kernel
theorem dX2_answerAsElder_22 : decode cX2_answerAsElder 22 = .ok (.invokevirtual 123, 3) := by decide +kernel
theorem dX2_answerAsElder_25 : decode cX2_answerAsElder 25 = .ok (.ifCond .eq 17, 3) := by decide +kernel
theorem dX2_answerAsElder_28 : decode cX2_answerAsElder 28 = .ok (.aload_n 0, 1) := by decide +kernel
theorem dX2_answerAsElder_29 : decode cX2_answerAsElder 29 = .ok (.getfield 18, 3) := by decide +kernel
theorem dX2_answerAsElder_32 : decode cX2_answerAsElder 32 = .ok (.iconst 3, 1) := by decide +kernel
theorem dX2_answerAsElder_33 : decode cX2_answerAsElder 33 = .ok (.iload_n 1, 1) := by decide +kernel
theorem dX2_answerAsElder_34 : decode cX2_answerAsElder 34 = .ok (.iload_n 2, 1) := by decide +kernel
theorem dX2_answerAsElder_35 : decode cX2_answerAsElder 35 = .ok (.iload_n 3, 1) := by decide +kernel
theorem dX2_answerAsElder_36 : decode cX2_answerAsElder 36 = .ok (.invokevirtual 130, 3) := by decide +kernel
theorem dX2_answerAsElder_39 : decode cX2_answerAsElder 39 = .ok (.goto 24, 3) := by decide +kernel
theorem dX2_answerAsElder_42 : decode cX2_answerAsElder 42 = .ok (.aload_n 0, 1) := by decide +kernel
theorem dX2_answerAsElder_43 : decode cX2_answerAsElder 43 = .ok (.iload_n 1, 1) := by decide +kernel
theorem dX2_answerAsElder_44 : decode cX2_answerAsElder 44 = .ok (.iload_n 2, 1) := by decide +kernel
theorem dX2_answerAsElder_45 : decode cX2_answerAsElder 45 = .ok (.iconst 3, 1) := by decide +kernel
theorem dX2_answerAsElder_46 : decode cX2_answerAsElder 46 = .ok (.invokevirtual 123, 3) := by decide +kernel
theorem dX2_answerAsElder_49 : decode cX2_answerAsElder 49 = .ok (.ifCond .eq 14, 3) := by decide +kernel
theorem dX2_answerAsElder_52 : decode cX2_answerAsElder 52 = .ok (.aload_n 0, 1) := by decide +kernel
theorem dX2_answerAsElder_53 : decode cX2_answerAsElder 53 = .ok (.getfield 18, 3) := by decide +kernel
theorem dX2_answerAsElder_56 : decode cX2_answerAsElder 56 = .ok (.iconst 4, 1) := by decide +kernel
theorem dX2_answerAsElder_57 : decode cX2_answerAsElder 57 = .ok (.iload_n 1, 1) := by decide +kernel
theorem dX2_answerAsElder_58 : decode cX2_answerAsElder 58 = .ok (.iload_n 2, 1) := by decide +kernel
theorem dX2_answerAsElder_59 : decode cX2_answerAsElder 59 = .ok (.iload_n 3, 1) := by decide +kernel
theorem dX2_answerAsElder_60 : decode cX2_answerAsElder 60 = .ok (.invokevirtual 130, 3) := by decide +kernel
theorem dX2_answerAsElder_63 : decode cX2_answerAsElder 63 = .ok (.return_, 1) := by decide +kernel
theorem dX2_takeYes_0 : decode cX2_takeYes 0 = .ok (.aload_n 0, 1) := by decide +kernel
theorem dX2_takeYes_1 : decode cX2_takeYes 1 = .ok (.getfield 25, 3) := by decide +kernel
theorem dX2_takeYes_4 : decode cX2_takeYes 4 = .ok (.iload_n 1, 1) := by decide +kernel
theorem dX2_takeYes_5 : decode cX2_takeYes 5 = .ok (.iaload, 1) := by decide +kernel
theorem dX2_takeYes_6 : decode cX2_takeYes 6 = .ok (.ifCond .eq 10, 3) := by decide +kernel
theorem dX2_takeYes_9 : decode cX2_takeYes 9 = .ok (.aload_n 0, 1) := by decide +kernel
theorem dX2_takeYes_10 : decode cX2_takeYes 10 = .ok (.iload_n 1, 1) := by decide +kernel
theorem dX2_takeYes_11 : decode cX2_takeYes 11 = .ok (.iload_n 2, 1) := by decide +kernel
theorem dX2_takeYes_12 : decode cX2_takeYes 12 = .ok (.invokevirtual 157, 3) := by decide +kernel
theorem dX2_takeYes_15 : decode cX2_takeYes 15 = .ok (.return_, 1) := by decide +kernel
theorem dX2_takeYes_16 : decode cX2_takeYes 16 = .ok (.aload_n 0, 1) := by decide +kernel
theorem dX2_takeYes_17 : decode cX2_takeYes 17 = .ok (.getfield 34, 3) := by decide +kernel
theorem dX2_takeYes_20 : decode cX2_takeYes 20 = .ok (.iload_n 1, 1) := by decide +kernel
theorem dX2_takeYes_21 : decode cX2_takeYes 21 = .ok (.dup2, 1) := by decide +kernel
theorem dX2_takeYes_22 : decode cX2_takeYes 22 = .ok (.iaload, 1) := by decide +kernel
theorem dX2_takeYes_23 : decode cX2_takeYes 23 = .ok (.iconst 1, 1) := by decide +kernel
theorem dX2_takeYes_24 : decode cX2_takeYes 24 = .ok (.iload_n 2, 1) := by decide +kernel
theorem dX2_takeYes_25 : decode cX2_takeYes 25 = .ok (.ishl, 1) := by decide +kernel
theorem dX2_takeYes_26 : decode cX2_takeYes 26 = .ok (.ior, 1) := by decide +kernel
theorem dX2_takeYes_27 : decode cX2_takeYes 27 = .ok (.iastore, 1) := by decide +kernel
theorem dX2_takeYes_28 : decode cX2_takeYes 28 = .ok (.aload_n 0, 1) := by decide +kernel
theorem dX2_takeYes_29 : decode cX2_takeYes 29 = .ok (.getfield 34, 3) := by decide +kernel
theorem dX2_takeYes_32 : decode cX2_takeYes 32 = .ok (.iload_n 1, 1) := by decide +kernel
theorem dX2_takeYes_33 : decode cX2_takeYes 33 = .ok (.iaload, 1) := by decide +kernel
theorem dX2_takeYes_34 : decode cX2_takeYes 34 = .ok (.aload_n 0, 1) := by decide +kernel
theorem dX2_takeYes_35 : decode cX2_takeYes 35 = .ok (.getfield 22, 3) := by decide +kernel
theorem dX2_takeYes_38 : decode cX2_takeYes 38 = .ok (.iload_n 1, 1) := by decide +kernel
theorem dX2_takeYes_39 : decode cX2_takeYes 39 = .ok (.iaload, 1) := by decide +kernel
theorem dX2_takeYes_40 : decode cX2_takeYes 40 = .ok (.if_icmp .ne 33, 3) := by decide +kernel
theorem dX2_takeYes_43 : decode cX2_takeYes 43 = .ok (.aload_n 0, 1) := by decide +kernel
theorem dX2_takeYes_44 : decode cX2_takeYes 44 = .ok (.getfield 25, 3) := by decide +kernel
theorem dX2_takeYes_47 : decode cX2_takeYes 47 = .ok (.iload_n 1, 1) := by decide +kernel
theorem dX2_takeYes_48 : decode cX2_takeYes 48 = .ok (.iconst 1, 1) := by decide +kernel
theorem dX2_takeYes_49 : decode cX2_takeYes 49 = .ok (.iastore, 1) := by decide +kernel
theorem dX2_takeYes_50 : decode cX2_takeYes 50 = .ok (.aload_n 0, 1) := by decide +kernel
theorem dX2_takeYes_51 : decode cX2_takeYes 51 = .ok (.getfield 31, 3) := by decide +kernel
theorem dX2_takeYes_54 : decode cX2_takeYes 54 = .ok (.iload_n 1, 1) := by decide +kernel
theorem dX2_takeYes_55 : decode cX2_takeYes 55 = .ok (.aload_n 0, 1) := by decide +kernel
theorem dX2_takeYes_56 : decode cX2_takeYes 56 = .ok (.getfield 46, 3) := by decide +kernel
theorem dX2_takeYes_59 : decode cX2_takeYes 59 = .ok (.iastore, 1) := by decide +kernel
theorem dX2_takeYes_60 : decode cX2_takeYes 60 = .ok (.aload_n 0, 1) := by decide +kernel
theorem dX2_takeYes_61 : decode cX2_takeYes 61 = .ok (.iconst 3, 1) := by decide +kernel
theorem dX2_takeYes_62 : decode cX2_takeYes 62 = .ok (.iload_n 1, 1) := by decide +kernel
theorem dX2_takeYes_63 : decode cX2_takeYes 63 = .ok (.iconst 4, 1) := by decide +kernel
theorem dX2_takeYes_64 : decode cX2_takeYes 64 = .ok (.aload_n 0, 1) := by decide +kernel
theorem dX2_takeYes_65 : decode cX2_takeYes 65 = .ok (.getfield 22, 3) := by decide +kernel
theorem dX2_takeYes_68 : decode cX2_takeYes 68 = .ok (.iload_n 1, 1) := by decide +kernel
theorem dX2_takeYes_69 : decode cX2_takeYes 69 = .ok (.iaload, 1) := by decide +kernel
theorem dX2_takeYes_70 : decode cX2_takeYes 70 = .ok (.invokevirtual 90, 3) := by decide +kernel
theorem dX2_takeYes_73 : decode cX2_takeYes 73 = .ok (.return_, 1) := by decide +kernel
theorem dX2_takeNo_0 : decode cX2_takeNo 0 = .ok (.aload_n 0, 1) := by decide +kernel
theorem dX2_takeNo_1 : decode cX2_takeNo 1 = .ok (.getfield 25, 3) := by decide +kernel
theorem dX2_takeNo_4 : decode cX2_takeNo 4 = .ok (.iload_n 1, 1) := by decide +kernel
theorem dX2_takeNo_5 : decode cX2_takeNo 5 = .ok (.iaload, 1) := by decide +kernel
theorem dX2_takeNo_6 : decode cX2_takeNo 6 = .ok (.ifCond .ne 29, 3) := by decide +kernel
theorem dX2_takeNo_9 : decode cX2_takeNo 9 = .ok (.aload_n 0, 1) := by decide +kernel
theorem dX2_takeNo_10 : decode cX2_takeNo 10 = .ok (.getfield 25, 3) := by decide +kernel
theorem dX2_takeNo_13 : decode cX2_takeNo 13 = .ok (.iload_n 1, 1) := by decide +kernel
theorem dX2_takeNo_14 : decode cX2_takeNo 14 = .ok (.iconst 2, 1) := by decide +kernel
theorem dX2_takeNo_15 : decode cX2_takeNo 15 = .ok (.iastore, 1) := by decide +kernel
theorem dX2_takeNo_16 : decode cX2_takeNo 16 = .ok (.aload_n 0, 1) := by decide +kernel
theorem dX2_takeNo_17 : decode cX2_takeNo 17 = .ok (.iconst 4, 1) := by decide +kernel
theorem dX2_takeNo_18 : decode cX2_takeNo 18 = .ok (.iload_n 1, 1) := by decide +kernel
theorem dX2_takeNo_19 : decode cX2_takeNo 19 = .ok (.iconst 4, 1) := by decide +kernel
theorem dX2_takeNo_20 : decode cX2_takeNo 20 = .ok (.aload_n 0, 1) := by decide +kernel
theorem dX2_takeNo_21 : decode cX2_takeNo 21 = .ok (.getfield 22, 3) := by decide +kernel
theorem dX2_takeNo_24 : decode cX2_takeNo 24 = .ok (.iload_n 1, 1) := by decide +kernel
theorem dX2_takeNo_25 : decode cX2_takeNo 25 = .ok (.iaload, 1) := by decide +kernel
theorem dX2_takeNo_26 : decode cX2_takeNo 26 = .ok (.iconst 1, 1) := by decide +kernel
theorem dX2_takeNo_27 : decode cX2_takeNo 27 = .ok (.iload_n 2, 1) := by decide +kernel
theorem dX2_takeNo_28 : decode cX2_takeNo 28 = .ok (.ishl, 1) := by decide +kernel
theorem dX2_takeNo_29 : decode cX2_takeNo 29 = .ok (.iconst (-1), 1) := by decide +kernel
theorem dX2_takeNo_30 : decode cX2_takeNo 30 = .ok (.ixor, 1) := by decide +kernel
theorem dX2_takeNo_31 : decode cX2_takeNo 31 = .ok (.iand, 1) := by decide +kernel
theorem dX2_takeNo_32 : decode cX2_takeNo 32 = .ok (.invokevirtual 90, 3) := by decide +kernel
theorem dX2_takeNo_35 : decode cX2_takeNo 35 = .ok (.return_, 1) := by decide +kernel
theorem dX2_takeReceipt_0 : decode cX2_takeReceipt 0 = .ok (.aload_n 0, 1) := by decide +kernel
theorem dX2_takeReceipt_1 : decode cX2_takeReceipt 1 = .ok (.getfield 25, 3) := by decide +kernel
theorem dX2_takeReceipt_4 : decode cX2_takeReceipt 4 = .ok (.iload_n 1, 1) := by decide +kernel
theorem dX2_takeReceipt_5 : decode cX2_takeReceipt 5 = .ok (.iaload, 1) := by decide +kernel
theorem dX2_takeReceipt_6 : decode cX2_takeReceipt 6 = .ok (.iconst 1, 1) := by decide +kernel
theorem dX2_takeReceipt_7 : decode cX2_takeReceipt 7 = .ok (.if_icmp .eq 4, 3) := by decide +kernel
theorem dX2_takeReceipt_10 : decode cX2_takeReceipt 10 = .ok (.return_, 1) := by decide +kernel
theorem dX2_takeReceipt_11 : decode cX2_takeReceipt 11 = .ok (.aload_n 0, 1) := by decide +kernel
theorem dX2_takeReceipt_12 : decode cX2_takeReceipt 12 = .ok (.getfield 37, 3) := by decide +kernel
theorem dX2_takeReceipt_15 : decode cX2_takeReceipt 15 = .ok (.iload_n 1, 1) := by decide +kernel
theorem dX2_takeReceipt_16 : decode cX2_takeReceipt 16 = .ok (.dup2, 1) := by decide +kernel
theorem dX2_takeReceipt_17 : decode cX2_takeReceipt 17 = .ok (.iaload, 1) := by decide +kernel
theorem dX2_takeReceipt_18 : decode cX2_takeReceipt 18 = .ok (.iconst 1, 1) := by decide +kernel
theorem dX2_takeReceipt_19 : decode cX2_takeReceipt 19 = .ok (.iload_n 2, 1) := by decide +kernel
theorem dX2_takeReceipt_20 : decode cX2_takeReceipt 20 = .ok (.ishl, 1) := by decide +kernel
theorem dX2_takeReceipt_21 : decode cX2_takeReceipt 21 = .ok (.ior, 1) := by decide +kernel
theorem dX2_takeReceipt_22 : decode cX2_takeReceipt 22 = .ok (.iastore, 1) := by decide +kernel
theorem dX2_takeReceipt_23 : decode cX2_takeReceipt 23 = .ok (.aload_n 0, 1) := by decide +kernel
theorem dX2_takeReceipt_24 : decode cX2_takeReceipt 24 = .ok (.getfield 37, 3) := by decide +kernel
theorem dX2_takeReceipt_27 : decode cX2_takeReceipt 27 = .ok (.iload_n 1, 1) := by decide +kernel
theorem dX2_takeReceipt_28 : decode cX2_takeReceipt 28 = .ok (.iaload, 1) := by decide +kernel
theorem dX2_takeReceipt_29 : decode cX2_takeReceipt 29 = .ok (.aload_n 0, 1) := by decide +kernel
theorem dX2_takeReceipt_30 : decode cX2_takeReceipt 30 = .ok (.getfield 22, 3) := by decide +kernel
theorem dX2_takeReceipt_33 : decode cX2_takeReceipt 33 = .ok (.iload_n 1, 1) := by decide +kernel
theorem dX2_takeReceipt_34 : decode cX2_takeReceipt 34 = .ok (.iaload, 1) := by decide +kernel
theorem dX2_takeReceipt_35 : decode cX2_takeReceipt 35 = .ok (.if_icmp .ne 10, 3) := by decide +kernel
theorem dX2_takeReceipt_38 : decode cX2_takeReceipt 38 = .ok (.aload_n 0, 1) := by decide +kernel
theorem dX2_takeReceipt_39 : decode cX2_takeReceipt 39 = .ok (.getfield 25, 3) := by decide +kernel
theorem dX2_takeReceipt_42 : decode cX2_takeReceipt 42 = .ok (.iload_n 1, 1) := by decide +kernel
theorem dX2_takeReceipt_43 : decode cX2_takeReceipt 43 = .ok (.iconst 3, 1) := by decide +kernel
theorem dX2_takeReceipt_44 : decode cX2_takeReceipt 44 = .ok (.iastore, 1) := by decide +kernel
theorem dX2_takeReceipt_45 : decode cX2_takeReceipt 45 = .ok (.return_, 1) := by decide +kernel
theorem dX2_answerAsBetween_0 : decode cX2_answerAsBetween 0 = .ok (.aload_n 0, 1) := by decide +kernel
theorem dX2_answerAsBetween_1 : decode cX2_answerAsBetween 1 = .ok (.getfield 25, 3) := by decide +kernel
theorem dX2_answerAsBetween_4 : decode cX2_answerAsBetween 4 = .ok (.iload_n 1, 1) := by decide +kernel
theorem dX2_answerAsBetween_5 : decode cX2_answerAsBetween 5 = .ok (.iaload, 1) := by decide +kernel
theorem dX2_answerAsBetween_6 : decode cX2_answerAsBetween 6 = .ok (.iconst 2, 1) := by decide +kernel
theorem dX2_answerAsBetween_7 : decode cX2_answerAsBetween 7 = .ok (.if_icmp .ne 17, 3) := by decide +kernel
theorem dX2_answerAsBetween_10 : decode cX2_answerAsBetween 10 = .ok (.aload_n 0, 1) := by decide +kernel
theorem dX2_answerAsBetween_11 : decode cX2_answerAsBetween 11 = .ok (.getfield 18, 3) := by decide +kernel
theorem dX2_answerAsBetween_14 : decode cX2_answerAsBetween 14 = .ok (.iconst 4, 1) := by decide +kernel
theorem dX2_answerAsBetween_15 : decode cX2_answerAsBetween 15 = .ok (.iload_n 1, 1) := by decide +kernel
theorem dX2_answerAsBetween_16 : decode cX2_answerAsBetween 16 = .ok (.iconst 4, 1) := by decide +kernel
theorem dX2_answerAsBetween_17 : decode cX2_answerAsBetween 17 = .ok (.iload_n 2, 1) := by decide +kernel
theorem dX2_answerAsBetween_18 : decode cX2_answerAsBetween 18 = .ok (.invokevirtual 130, 3) := by decide +kernel
theorem dX2_answerAsBetween_21 : decode cX2_answerAsBetween 21 = .ok (.goto 23, 3) := by decide +kernel
theorem dX2_answerAsBetween_24 : decode cX2_answerAsBetween 24 = .ok (.aload_n 0, 1) := by decide +kernel
theorem dX2_answerAsBetween_25 : decode cX2_answerAsBetween 25 = .ok (.getfield 25, 3) := by decide +kernel
theorem dX2_answerAsBetween_28 : decode cX2_answerAsBetween 28 = .ok (.iload_n 1, 1) := by decide +kernel
theorem dX2_answerAsBetween_29 : decode cX2_answerAsBetween 29 = .ok (.iaload, 1) := by decide +kernel
theorem dX2_answerAsBetween_30 : decode cX2_answerAsBetween 30 = .ok (.ifCond .eq 14, 3) := by decide +kernel
theorem dX2_answerAsBetween_33 : decode cX2_answerAsBetween 33 = .ok (.aload_n 0, 1) := by decide +kernel
theorem dX2_answerAsBetween_34 : decode cX2_answerAsBetween 34 = .ok (.getfield 18, 3) := by decide +kernel
theorem dX2_answerAsBetween_37 : decode cX2_answerAsBetween 37 = .ok (.iconst 3, 1) := by decide +kernel
theorem dX2_answerAsBetween_38 : decode cX2_answerAsBetween 38 = .ok (.iload_n 1, 1) := by decide +kernel
theorem dX2_answerAsBetween_39 : decode cX2_answerAsBetween 39 = .ok (.iconst 4, 1) := by decide +kernel
theorem dX2_answerAsBetween_40 : decode cX2_answerAsBetween 40 = .ok (.iload_n 2, 1) := by decide +kernel
theorem dX2_answerAsBetween_41 : decode cX2_answerAsBetween 41 = .ok (.invokevirtual 130, 3) := by decide +kernel
theorem dX2_answerAsBetween_44 : decode cX2_answerAsBetween 44 = .ok (.return_, 1) := by decide +kernel
theorem dX2_passTicks_0 : decode cX2_passTicks 0 = .ok (.iload_n 1, 1) := by decide +kernel
theorem dX2_passTicks_1 : decode cX2_passTicks 1 = .ok (.iconst 1, 1) := by decide +kernel
theorem dX2_passTicks_2 : decode cX2_passTicks 2 = .ok (.if_icmp .lt 9, 3) := by decide +kernel
theorem dX2_passTicks_5 : decode cX2_passTicks 5 = .ok (.iload_n 1, 1) := by decide +kernel
theorem dX2_passTicks_6 : decode cX2_passTicks 6 = .ok (.bipush 100, 2) := by decide +kernel
theorem dX2_passTicks_8 : decode cX2_passTicks 8 = .ok (.if_icmp .le 6, 3) := by decide +kernel
theorem dX2_passTicks_11 : decode cX2_passTicks 11 = .ok (.bipush (-2), 2) := by decide +kernel
theorem dX2_passTicks_13 : decode cX2_passTicks 13 = .ok (.ireturn, 1) := by decide +kernel
theorem dX2_passTicks_14 : decode cX2_passTicks 14 = .ok (.iconst 0, 1) := by decide +kernel
theorem dX2_passTicks_15 : decode cX2_passTicks 15 = .ok (.istore_n 2, 1) := by decide +kernel
theorem dX2_passTicks_16 : decode cX2_passTicks 16 = .ok (.iload_n 2, 1) := by decide +kernel
theorem dX2_passTicks_17 : decode cX2_passTicks 17 = .ok (.iload_n 1, 1) := by decide +kernel
theorem dX2_passTicks_18 : decode cX2_passTicks 18 = .ok (.if_icmp .ge 13, 3) := by decide +kernel
theorem dX2_passTicks_21 : decode cX2_passTicks 21 = .ok (.aload_n 0, 1) := by decide +kernel
theorem dX2_passTicks_22 : decode cX2_passTicks 22 = .ok (.invokevirtual 164, 3) := by decide +kernel
theorem dX2_passTicks_25 : decode cX2_passTicks 25 = .ok (.iinc 2 1, 3) := by decide +kernel
theorem dX2_passTicks_28 : decode cX2_passTicks 28 = .ok (.goto (-12), 3) := by decide +kernel
theorem dX2_passTicks_31 : decode cX2_passTicks 31 = .ok (.aload_n 0, 1) := by decide +kernel
theorem dX2_passTicks_32 : decode cX2_passTicks 32 = .ok (.getfield 46, 3) := by decide +kernel
theorem dX2_passTicks_35 : decode cX2_passTicks 35 = .ok (.ireturn, 1) := by decide +kernel
theorem dX2_passTick_0 : decode cX2_passTick 0 = .ok (.aload_n 0, 1) := by decide +kernel
theorem dX2_passTick_1 : decode cX2_passTick 1 = .ok (.iconst 4, 1) := by decide +kernel
theorem dX2_passTick_2 : decode cX2_passTick 2 = .ok (.invokevirtual 87, 3) := by decide +kernel
theorem dX2_passTick_5 : decode cX2_passTick 5 = .ok (.ifCond .ne 24, 3) := by decide +kernel
theorem dX2_passTick_8 : decode cX2_passTick 8 = .ok (.iconst 0, 1) := by decide +kernel
theorem dX2_passTick_9 : decode cX2_passTick 9 = .ok (.istore_n 1, 1) := by decide +kernel
theorem dX2_passTick_10 : decode cX2_passTick 10 = .ok (.iload_n 1, 1) := by decide +kernel
theorem dX2_passTick_11 : decode cX2_passTick 11 = .ok (.aload_n 0, 1) := by decide +kernel
theorem dX2_passTick_12 : decode cX2_passTick 12 = .ok (.getfield 56, 3) := by decide +kernel
theorem dX2_passTick_15 : decode cX2_passTick 15 = .ok (.if_icmp .ge 14, 3) := by decide +kernel
theorem dX2_passTick_18 : decode cX2_passTick 18 = .ok (.aload_n 0, 1) := by decide +kernel
theorem dX2_passTick_19 : decode cX2_passTick 19 = .ok (.iload_n 1, 1) := by decide +kernel
theorem dX2_passTick_20 : decode cX2_passTick 20 = .ok (.invokevirtual 167, 3) := by decide +kernel
theorem dX2_passTick_23 : decode cX2_passTick 23 = .ok (.iinc 1 1, 3) := by decide +kernel
theorem dX2_passTick_26 : decode cX2_passTick 26 = .ok (.goto (-16), 3) := by decide +kernel
theorem dX2_passTick_29 : decode cX2_passTick 29 = .ok (.iconst 0, 1) := by decide +kernel
theorem dX2_passTick_30 : decode cX2_passTick 30 = .ok (.istore_n 1, 1) := by decide +kernel
theorem dX2_passTick_31 : decode cX2_passTick 31 = .ok (.iload_n 1, 1) := by decide +kernel
theorem dX2_passTick_32 : decode cX2_passTick 32 = .ok (.iconst 4, 1) := by decide +kernel
theorem dX2_passTick_33 : decode cX2_passTick 33 = .ok (.if_icmp .ge 22, 3) := by decide +kernel
theorem dX2_passTick_36 : decode cX2_passTick 36 = .ok (.aload_n 0, 1) := by decide +kernel
theorem dX2_passTick_37 : decode cX2_passTick 37 = .ok (.iload_n 1, 1) := by decide +kernel
theorem dX2_passTick_38 : decode cX2_passTick 38 = .ok (.invokevirtual 87, 3) := by decide +kernel
theorem dX2_passTick_41 : decode cX2_passTick 41 = .ok (.ifCond .ne 8, 3) := by decide +kernel
theorem dX2_passTick_44 : decode cX2_passTick 44 = .ok (.aload_n 0, 1) := by decide +kernel
theorem dX2_passTick_45 : decode cX2_passTick 45 = .ok (.iload_n 1, 1) := by decide +kernel
theorem dX2_passTick_46 : decode cX2_passTick 46 = .ok (.invokevirtual 170, 3) := by decide +kernel
theorem dX2_passTick_49 : decode cX2_passTick 49 = .ok (.iinc 1 1, 3) := by decide +kernel
theorem dX2_passTick_52 : decode cX2_passTick 52 = .ok (.goto (-21), 3) := by decide +kernel
theorem dX2_passTick_55 : decode cX2_passTick 55 = .ok (.aload_n 0, 1) := by decide +kernel
theorem dX2_passTick_56 : decode cX2_passTick 56 = .ok (.dup, 1) := by decide +kernel
theorem dX2_passTick_57 : decode cX2_passTick 57 = .ok (.getfield 46, 3) := by decide +kernel
theorem dX2_passTick_60 : decode cX2_passTick 60 = .ok (.iconst 1, 1) := by decide +kernel
theorem dX2_passTick_61 : decode cX2_passTick 61 = .ok (.iadd, 1) := by decide +kernel
theorem dX2_passTick_62 : decode cX2_passTick 62 = .ok (.putfield 46, 3) := by decide +kernel
theorem dX2_passTick_65 : decode cX2_passTick 65 = .ok (.return_, 1) := by decide +kernel
theorem dX2_pressOn_0 : decode cX2_pressOn 0 = .ok (.aload_n 0, 1) := by decide +kernel
theorem dX2_pressOn_1 : decode cX2_pressOn 1 = .ok (.getfield 25, 3) := by decide +kernel
theorem dX2_pressOn_4 : decode cX2_pressOn 4 = .ok (.iload_n 1, 1) := by decide +kernel
theorem dX2_pressOn_5 : decode cX2_pressOn 5 = .ok (.iaload, 1) := by decide +kernel
theorem dX2_pressOn_6 : decode cX2_pressOn 6 = .ok (.ifCond .ne 46, 3) := by decide +kernel
theorem dX2_pressOn_9 : decode cX2_pressOn 9 = .ok (.aload_n 0, 1) := by decide +kernel
theorem dX2_pressOn_10 : decode cX2_pressOn 10 = .ok (.getfield 46, 3) := by decide +kernel
theorem dX2_pressOn_13 : decode cX2_pressOn 13 = .ok (.aload_n 0, 1) := by decide +kernel
theorem dX2_pressOn_14 : decode cX2_pressOn 14 = .ok (.getfield 28, 3) := by decide +kernel
theorem dX2_pressOn_17 : decode cX2_pressOn 17 = .ok (.iload_n 1, 1) := by decide +kernel
theorem dX2_pressOn_18 : decode cX2_pressOn 18 = .ok (.iaload, 1) := by decide +kernel
theorem dX2_pressOn_19 : decode cX2_pressOn 19 = .ok (.isub, 1) := by decide +kernel
theorem dX2_pressOn_20 : decode cX2_pressOn 20 = .ok (.aload_n 0, 1) := by decide +kernel
theorem dX2_pressOn_21 : decode cX2_pressOn 21 = .ok (.getfield 9, 3) := by decide +kernel
theorem dX2_pressOn_24 : decode cX2_pressOn 24 = .ok (.iconst 0, 1) := by decide +kernel
theorem dX2_pressOn_25 : decode cX2_pressOn 25 = .ok (.iaload, 1) := by decide +kernel
theorem dX2_pressOn_26 : decode cX2_pressOn 26 = .ok (.if_icmp .lt 77, 3) := by decide +kernel
theorem dX2_pressOn_29 : decode cX2_pressOn 29 = .ok (.aload_n 0, 1) := by decide +kernel
theorem dX2_pressOn_30 : decode cX2_pressOn 30 = .ok (.getfield 25, 3) := by decide +kernel
theorem dX2_pressOn_33 : decode cX2_pressOn 33 = .ok (.iload_n 1, 1) := by decide +kernel
theorem dX2_pressOn_34 : decode cX2_pressOn 34 = .ok (.iconst 2, 1) := by decide +kernel
theorem dX2_pressOn_35 : decode cX2_pressOn 35 = .ok (.iastore, 1) := by decide +kernel
theorem dX2_pressOn_36 : decode cX2_pressOn 36 = .ok (.aload_n 0, 1) := by decide +kernel
theorem dX2_pressOn_37 : decode cX2_pressOn 37 = .ok (.iconst 4, 1) := by decide +kernel
theorem dX2_pressOn_38 : decode cX2_pressOn 38 = .ok (.iload_n 1, 1) := by decide +kernel
theorem dX2_pressOn_39 : decode cX2_pressOn 39 = .ok (.iconst 4, 1) := by decide +kernel
theorem dX2_pressOn_40 : decode cX2_pressOn 40 = .ok (.aload_n 0, 1) := by decide +kernel
theorem dX2_pressOn_41 : decode cX2_pressOn 41 = .ok (.getfield 22, 3) := by decide +kernel
theorem dX2_pressOn_44 : decode cX2_pressOn 44 = .ok (.iload_n 1, 1) := by decide +kernel
theorem dX2_pressOn_45 : decode cX2_pressOn 45 = .ok (.iaload, 1) := by decide +kernel
theorem dX2_pressOn_46 : decode cX2_pressOn 46 = .ok (.invokevirtual 90, 3) := by decide +kernel
theorem dX2_pressOn_49 : decode cX2_pressOn 49 = .ok (.goto 54, 3) := by decide +kernel
theorem dX2_pressOn_52 : decode cX2_pressOn 52 = .ok (.aload_n 0, 1) := by decide +kernel
theorem dX2_pressOn_53 : decode cX2_pressOn 53 = .ok (.getfield 25, 3) := by decide +kernel
theorem dX2_pressOn_56 : decode cX2_pressOn 56 = .ok (.iload_n 1, 1) := by decide +kernel
theorem dX2_pressOn_57 : decode cX2_pressOn 57 = .ok (.iaload, 1) := by decide +kernel
theorem dX2_pressOn_58 : decode cX2_pressOn 58 = .ok (.iconst 1, 1) := by decide +kernel
theorem dX2_pressOn_59 : decode cX2_pressOn 59 = .ok (.if_icmp .ne 44, 3) := by decide +kernel
theorem dX2_pressOn_62 : decode cX2_pressOn 62 = .ok (.aload_n 0, 1) := by decide +kernel
theorem dX2_pressOn_63 : decode cX2_pressOn 63 = .ok (.aload_n 0, 1) := by decide +kernel
theorem dX2_pressOn_64 : decode cX2_pressOn 64 = .ok (.getfield 31, 3) := by decide +kernel
theorem dX2_pressOn_67 : decode cX2_pressOn 67 = .ok (.iload_n 1, 1) := by decide +kernel
theorem dX2_pressOn_68 : decode cX2_pressOn 68 = .ok (.iaload, 1) := by decide +kernel
theorem dX2_pressOn_69 : decode cX2_pressOn 69 = .ok (.aload_n 0, 1) := by decide +kernel
theorem dX2_pressOn_70 : decode cX2_pressOn 70 = .ok (.getfield 9, 3) := by decide +kernel
theorem dX2_pressOn_73 : decode cX2_pressOn 73 = .ok (.iconst 2, 1) := by decide +kernel
theorem dX2_pressOn_74 : decode cX2_pressOn 74 = .ok (.iaload, 1) := by decide +kernel
theorem dX2_pressOn_75 : decode cX2_pressOn 75 = .ok (.invokevirtual 173, 3) := by decide +kernel
theorem dX2_pressOn_78 : decode cX2_pressOn 78 = .ok (.ifCond .eq 25, 3) := by decide +kernel
theorem dX2_pressOn_81 : decode cX2_pressOn 81 = .ok (.aload_n 0, 1) := by decide +kernel
theorem dX2_pressOn_82 : decode cX2_pressOn 82 = .ok (.iconst 3, 1) := by decide +kernel
theorem dX2_pressOn_83 : decode cX2_pressOn 83 = .ok (.iload_n 1, 1) := by decide +kernel
theorem dX2_pressOn_84 : decode cX2_pressOn 84 = .ok (.iconst 4, 1) := by decide +kernel
theorem dX2_pressOn_85 : decode cX2_pressOn 85 = .ok (.aload_n 0, 1) := by decide +kernel
theorem dX2_pressOn_86 : decode cX2_pressOn 86 = .ok (.getfield 22, 3) := by decide +kernel
theorem dX2_pressOn_89 : decode cX2_pressOn 89 = .ok (.iload_n 1, 1) := by decide +kernel
theorem dX2_pressOn_90 : decode cX2_pressOn 90 = .ok (.iaload, 1) := by decide +kernel
theorem dX2_pressOn_91 : decode cX2_pressOn 91 = .ok (.aload_n 0, 1) := by decide +kernel
theorem dX2_pressOn_92 : decode cX2_pressOn 92 = .ok (.getfield 37, 3) := by decide +kernel
theorem dX2_pressOn_95 : decode cX2_pressOn 95 = .ok (.iload_n 1, 1) := by decide +kernel
theorem dX2_pressOn_96 : decode cX2_pressOn 96 = .ok (.iaload, 1) := by decide +kernel
theorem dX2_pressOn_97 : decode cX2_pressOn 97 = .ok (.iconst (-1), 1) := by decide +kernel
theorem dX2_pressOn_98 : decode cX2_pressOn 98 = .ok (.ixor, 1) := by decide +kernel
theorem dX2_pressOn_99 : decode cX2_pressOn 99 = .ok (.iand, 1) := by decide +kernel
theorem dX2_pressOn_100 : decode cX2_pressOn 100 = .ok (.invokevirtual 90, 3) := by decide +kernel
theorem dX2_pressOn_103 : decode cX2_pressOn 103 = .ok (.return_, 1) := by decide +kernel
theorem dX2_askInDoubt_0 : decode cX2_askInDoubt 0 = .ok (.iconst 0, 1) := by decide +kernel
theorem dX2_askInDoubt_1 : decode cX2_askInDoubt 1 = .ok (.istore_n 2, 1) := by decide +kernel
theorem dX2_askInDoubt_2 : decode cX2_askInDoubt 2 = .ok (.iload_n 2, 1) := by decide +kernel
theorem dX2_askInDoubt_3 : decode cX2_askInDoubt 3 = .ok (.aload_n 0, 1) := by decide +kernel
theorem dX2_askInDoubt_4 : decode cX2_askInDoubt 4 = .ok (.getfield 56, 3) := by decide +kernel
theorem dX2_askInDoubt_7 : decode cX2_askInDoubt 7 = .ok (.if_icmp .ge 84, 3) := by decide +kernel
theorem dX2_askInDoubt_10 : decode cX2_askInDoubt 10 = .ok (.aload_n 0, 1) := by decide +kernel
theorem dX2_askInDoubt_11 : decode cX2_askInDoubt 11 = .ok (.iload_n 2, 1) := by decide +kernel
theorem dX2_askInDoubt_12 : decode cX2_askInDoubt 12 = .ok (.iload_n 1, 1) := by decide +kernel
theorem dX2_askInDoubt_13 : decode cX2_askInDoubt 13 = .ok (.iconst 1, 1) := by decide +kernel
theorem dX2_askInDoubt_14 : decode cX2_askInDoubt 14 = .ok (.invokevirtual 123, 3) := by decide +kernel
theorem dX2_askInDoubt_17 : decode cX2_askInDoubt 17 = .ok (.ifCond .eq 68, 3) := by decide +kernel
theorem dX2_askInDoubt_20 : decode cX2_askInDoubt 20 = .ok (.aload_n 0, 1) := by decide +kernel
theorem dX2_askInDoubt_21 : decode cX2_askInDoubt 21 = .ok (.aload_n 0, 1) := by decide +kernel
theorem dX2_askInDoubt_22 : decode cX2_askInDoubt 22 = .ok (.getfield 43, 3) := by decide +kernel
theorem dX2_askInDoubt_25 : decode cX2_askInDoubt 25 = .ok (.iload_n 2, 1) := by decide +kernel
theorem dX2_askInDoubt_26 : decode cX2_askInDoubt 26 = .ok (.iconst 4, 1) := by decide +kernel
theorem dX2_askInDoubt_27 : decode cX2_askInDoubt 27 = .ok (.imul, 1) := by decide +kernel
theorem dX2_askInDoubt_28 : decode cX2_askInDoubt 28 = .ok (.iload_n 1, 1) := by decide +kernel
theorem dX2_askInDoubt_29 : decode cX2_askInDoubt 29 = .ok (.iadd, 1) := by decide +kernel
theorem dX2_askInDoubt_30 : decode cX2_askInDoubt 30 = .ok (.iaload, 1) := by decide +kernel
theorem dX2_askInDoubt_31 : decode cX2_askInDoubt 31 = .ok (.aload_n 0, 1) := by decide +kernel
theorem dX2_askInDoubt_32 : decode cX2_askInDoubt 32 = .ok (.getfield 9, 3) := by decide +kernel
theorem dX2_askInDoubt_35 : decode cX2_askInDoubt 35 = .ok (.iconst 1, 1) := by decide +kernel
theorem dX2_askInDoubt_36 : decode cX2_askInDoubt 36 = .ok (.iaload, 1) := by decide +kernel
theorem dX2_askInDoubt_37 : decode cX2_askInDoubt 37 = .ok (.invokevirtual 173, 3) := by decide +kernel
theorem dX2_askInDoubt_40 : decode cX2_askInDoubt 40 = .ok (.ifCond .eq 45, 3) := by decide +kernel
theorem dX2_askInDoubt_43 : decode cX2_askInDoubt 43 = .ok (.aload_n 0, 1) := by decide +kernel
theorem dX2_askInDoubt_44 : decode cX2_askInDoubt 44 = .ok (.getfield 18, 3) := by decide +kernel
theorem dX2_askInDoubt_47 : decode cX2_askInDoubt 47 = .ok (.bipush 6, 2) := by decide +kernel
theorem dX2_askInDoubt_49 : decode cX2_askInDoubt 49 = .ok (.iload_n 2, 1) := by decide +kernel
theorem dX2_askInDoubt_50 : decode cX2_askInDoubt 50 = .ok (.iload_n 1, 1) := by decide +kernel
theorem dX2_askInDoubt_51 : decode cX2_askInDoubt 51 = .ok (.iconst 4, 1) := by decide +kernel
theorem dX2_askInDoubt_52 : decode cX2_askInDoubt 52 = .ok (.invokevirtual 130, 3) := by decide +kernel
theorem dX2_askInDoubt_55 : decode cX2_askInDoubt 55 = .ok (.aload_n 0, 1) := by decide +kernel
theorem dX2_askInDoubt_56 : decode cX2_askInDoubt 56 = .ok (.getfield 9, 3) := by decide +kernel
theorem dX2_askInDoubt_59 : decode cX2_askInDoubt 59 = .ok (.iconst 3, 1) := by decide +kernel
theorem dX2_askInDoubt_60 : decode cX2_askInDoubt 60 = .ok (.iaload, 1) := by decide +kernel
theorem dX2_askInDoubt_61 : decode cX2_askInDoubt 61 = .ok (.iconst 1, 1) := by decide +kernel
theorem dX2_askInDoubt_62 : decode cX2_askInDoubt 62 = .ok (.if_icmp .ne 23, 3) := by decide +kernel
theorem dX2_askInDoubt_65 : decode cX2_askInDoubt 65 = .ok (.aload_n 0, 1) := by decide +kernel
theorem dX2_askInDoubt_66 : decode cX2_askInDoubt 66 = .ok (.bipush 6, 2) := by decide +kernel
theorem dX2_askInDoubt_68 : decode cX2_askInDoubt 68 = .ok (.iload_n 2, 1) := by decide +kernel
theorem dX2_askInDoubt_69 : decode cX2_askInDoubt 69 = .ok (.iload_n 1, 1) := by decide +kernel
theorem dX2_askInDoubt_70 : decode cX2_askInDoubt 70 = .ok (.aload_n 0, 1) := by decide +kernel
theorem dX2_askInDoubt_71 : decode cX2_askInDoubt 71 = .ok (.getfield 22, 3) := by decide +kernel
theorem dX2_askInDoubt_74 : decode cX2_askInDoubt 74 = .ok (.iload_n 2, 1) := by decide +kernel
theorem dX2_askInDoubt_75 : decode cX2_askInDoubt 75 = .ok (.iaload, 1) := by decide +kernel
theorem dX2_askInDoubt_76 : decode cX2_askInDoubt 76 = .ok (.iconst 1, 1) := by decide +kernel
theorem dX2_askInDoubt_77 : decode cX2_askInDoubt 77 = .ok (.iload_n 1, 1) := by decide +kernel
theorem dX2_askInDoubt_78 : decode cX2_askInDoubt 78 = .ok (.ishl, 1) := by decide +kernel
theorem dX2_askInDoubt_79 : decode cX2_askInDoubt 79 = .ok (.iconst (-1), 1) := by decide +kernel
theorem dX2_askInDoubt_80 : decode cX2_askInDoubt 80 = .ok (.ixor, 1) := by decide +kernel
theorem dX2_askInDoubt_81 : decode cX2_askInDoubt 81 = .ok (.iand, 1) := by decide +kernel
theorem dX2_askInDoubt_82 : decode cX2_askInDoubt 82 = .ok (.invokevirtual 90, 3) := by decide +kernel
theorem dX2_askInDoubt_85 : decode cX2_askInDoubt 85 = .ok (.iinc 2 1, 3) := by decide +kernel
theorem dX2_askInDoubt_88 : decode cX2_askInDoubt 88 = .ok (.goto (-86), 3) := by decide +kernel
theorem dX2_askInDoubt_91 : decode cX2_askInDoubt 91 = .ok (.return_, 1) := by decide +kernel
theorem dX2_isTimeAgain_0 : decode cX2_isTimeAgain 0 = .ok (.aload_n 0, 1) := by decide +kernel
theorem dX2_isTimeAgain_1 : decode cX2_isTimeAgain 1 = .ok (.getfield 46, 3) := by decide +kernel
theorem dX2_isTimeAgain_4 : decode cX2_isTimeAgain 4 = .ok (.iload_n 1, 1) := by decide +kernel
theorem dX2_isTimeAgain_5 : decode cX2_isTimeAgain 5 = .ok (.isub, 1) := by decide +kernel
theorem dX2_isTimeAgain_6 : decode cX2_isTimeAgain 6 = .ok (.istore_n 3, 1) := by decide +kernel
theorem dX2_isTimeAgain_7 : decode cX2_isTimeAgain 7 = .ok (.iload_n 2, 1) := by decide +kernel
theorem dX2_isTimeAgain_8 : decode cX2_isTimeAgain 8 = .ok (.ifCond .le 17, 3) := by decide +kernel
theorem dX2_isTimeAgain_11 : decode cX2_isTimeAgain 11 = .ok (.iload_n 3, 1) := by decide +kernel
theorem dX2_isTimeAgain_12 : decode cX2_isTimeAgain 12 = .ok (.ifCond .le 13, 3) := by decide +kernel
theorem dX2_isTimeAgain_15 : decode cX2_isTimeAgain 15 = .ok (.iload_n 3, 1) := by decide +kernel
theorem dX2_isTimeAgain_16 : decode cX2_isTimeAgain 16 = .ok (.iload_n 2, 1) := by decide +kernel
theorem dX2_isTimeAgain_17 : decode cX2_isTimeAgain 17 = .ok (.irem, 1) := by decide +kernel
theorem dX2_isTimeAgain_18 : decode cX2_isTimeAgain 18 = .ok (.ifCond .ne 7, 3) := by decide +kernel
theorem dX2_isTimeAgain_21 : decode cX2_isTimeAgain 21 = .ok (.iconst 1, 1) := by decide +kernel
theorem dX2_isTimeAgain_22 : decode cX2_isTimeAgain 22 = .ok (.goto 4, 3) := by decide +kernel
theorem dX2_isTimeAgain_25 : decode cX2_isTimeAgain 25 = .ok (.iconst 0, 1) := by decide +kernel
theorem dX2_isTimeAgain_26 : decode cX2_isTimeAgain 26 = .ok (.ireturn, 1) := by decide +kernel
theorem dX2_passRound_0 : decode cX2_passRound 0 = .ok (.aload_n 0, 1) := by decide +kernel
theorem dX2_passRound_1 : decode cX2_passRound 1 = .ok (.getfield 18, 3) := by decide +kernel
theorem dX2_passRound_4 : decode cX2_passRound 4 = .ok (.getfield 104, 3) := by decide +kernel
theorem dX2_passRound_7 : decode cX2_passRound 7 = .ok (.istore_n 1, 1) := by decide +kernel
theorem dX2_passRound_8 : decode cX2_passRound 8 = .ok (.iconst 0, 1) := by decide +kernel
theorem dX2_passRound_9 : decode cX2_passRound 9 = .ok (.istore_n 2, 1) := by decide +kernel
theorem dX2_passRound_10 : decode cX2_passRound 10 = .ok (.iload_n 2, 1) := by decide +kernel
theorem dX2_passRound_11 : decode cX2_passRound 11 = .ok (.iload_n 1, 1) := by decide +kernel
theorem dX2_passRound_12 : decode cX2_passRound 12 = .ok (.if_icmp .ge 15, 3) := by decide +kernel
theorem dX2_passRound_15 : decode cX2_passRound 15 = .ok (.aload_n 0, 1) := by decide +kernel
theorem dX2_passRound_16 : decode cX2_passRound 16 = .ok (.iconst 0, 1) := by decide +kernel
theorem dX2_passRound_17 : decode cX2_passRound 17 = .ok (.invokevirtual 176, 3) := by decide +kernel
theorem dX2_passRound_20 : decode cX2_passRound 20 = .ok (.pop, 1) := by decide +kernel
theorem dX2_passRound_21 : decode cX2_passRound 21 = .ok (.iinc 2 1, 3) := by decide +kernel
theorem dX2_passRound_24 : decode cX2_passRound 24 = .ok (.goto (-14), 3) := by decide +kernel
theorem dX2_passRound_27 : decode cX2_passRound 27 = .ok (.aload_n 0, 1) := by decide +kernel
theorem dX2_passRound_28 : decode cX2_passRound 28 = .ok (.invokevirtual 164, 3) := by decide +kernel
theorem dX2_passRound_31 : decode cX2_passRound 31 = .ok (.return_, 1) := by decide +kernel
theorem dX2_roundsUntilSettled_0 : decode cX2_roundsUntilSettled 0 = .ok (.iconst 0, 1) := by decide +kernel
theorem dX2_roundsUntilSettled_1 : decode cX2_roundsUntilSettled 1 = .ok (.istore_n 2, 1) := by decide +kernel
theorem dX2_roundsUntilSettled_2 : decode cX2_roundsUntilSettled 2 = .ok (.iload_n 2, 1) := by decide +kernel
theorem dX2_roundsUntilSettled_3 : decode cX2_roundsUntilSettled 3 = .ok (.sipush 200, 3) := by decide +kernel
theorem dX2_roundsUntilSettled_6 : decode cX2_roundsUntilSettled 6 = .ok (.if_icmp .gt 23, 3) := by decide +kernel
theorem dX2_roundsUntilSettled_9 : decode cX2_roundsUntilSettled 9 = .ok (.aload_n 0, 1) := by decide +kernel
theorem dX2_roundsUntilSettled_10 : decode cX2_roundsUntilSettled 10 = .ok (.iload_n 1, 1) := by decide +kernel
theorem dX2_roundsUntilSettled_11 : decode cX2_roundsUntilSettled 11 = .ok (.invokevirtual 179, 3) := by decide +kernel
theorem dX2_roundsUntilSettled_14 : decode cX2_roundsUntilSettled 14 = .ok (.ifCond .eq 5, 3) := by decide +kernel
theorem dX2_roundsUntilSettled_17 : decode cX2_roundsUntilSettled 17 = .ok (.iload_n 2, 1) := by decide +kernel
theorem dX2_roundsUntilSettled_18 : decode cX2_roundsUntilSettled 18 = .ok (.ireturn, 1) := by decide +kernel
theorem dX2_roundsUntilSettled_19 : decode cX2_roundsUntilSettled 19 = .ok (.aload_n 0, 1) := by decide +kernel
theorem dX2_roundsUntilSettled_20 : decode cX2_roundsUntilSettled 20 = .ok (.invokevirtual 182, 3) := by decide +kernel
theorem dX2_roundsUntilSettled_23 : decode cX2_roundsUntilSettled 23 = .ok (.iinc 2 1, 3) := by decide +kernel
theorem dX2_roundsUntilSettled_26 : decode cX2_roundsUntilSettled 26 = .ok (.goto (-24), 3) := by decide +kernel
theorem dX2_roundsUntilSettled_29 : decode cX2_roundsUntilSettled 29 = .ok (.sipush 201, 3) := by decide +kernel
theorem dX2_roundsUntilSettled_32 : decode cX2_roundsUntilSettled 32 = .ok (.ireturn, 1) := by decide +kernel
theorem dX2_isSettled_0 : decode cX2_isSettled 0 = .ok (.aload_n 0, 1) := by decide +kernel
theorem dX2_isSettled_1 : decode cX2_isSettled 1 = .ok (.iload_n 1, 1) := by decide +kernel
theorem dX2_isSettled_2 : decode cX2_isSettled 2 = .ok (.iconst 0, 1) := by decide +kernel
theorem dX2_isSettled_3 : decode cX2_isSettled 3 = .ok (.invokevirtual 73, 3) := by decide +kernel
theorem dX2_isSettled_6 : decode cX2_isSettled 6 = .ok (.ifCond .ne 16, 3) := by decide +kernel
theorem dX2_isSettled_9 : decode cX2_isSettled 9 = .ok (.aload_n 0, 1) := by decide +kernel
theorem dX2_isSettled_10 : decode cX2_isSettled 10 = .ok (.iload_n 1, 1) := by decide +kernel
theorem dX2_isSettled_11 : decode cX2_isSettled 11 = .ok (.iconst 1, 1) := by decide +kernel
theorem dX2_isSettled_12 : decode cX2_isSettled 12 = .ok (.invokevirtual 73, 3) := by decide +kernel
theorem dX2_isSettled_15 : decode cX2_isSettled 15 = .ok (.ifCond .ne 7, 3) := by decide +kernel
theorem dX2_isSettled_18 : decode cX2_isSettled 18 = .ok (.iconst 1, 1) := by decide +kernel
theorem dX2_isSettled_19 : decode cX2_isSettled 19 = .ok (.goto 4, 3) := by decide +kernel
theorem dX2_isSettled_22 : decode cX2_isSettled 22 = .ok (.iconst 0, 1) := by decide +kernel
theorem dX2_isSettled_23 : decode cX2_isSettled 23 = .ok (.ireturn, 1) := by decide +kernel
theorem dX2_numberOfDeal_0 : decode cX2_numberOfDeal 0 = .ok (.aload_n 0, 1) := by decide +kernel
theorem dX2_numberOfDeal_1 : decode cX2_numberOfDeal 1 = .ok (.iload_n 1, 1) := by decide +kernel
theorem dX2_numberOfDeal_2 : decode cX2_numberOfDeal 2 = .ok (.invokevirtual 185, 3) := by decide +kernel
theorem dX2_numberOfDeal_5 : decode cX2_numberOfDeal 5 = .ok (.ifCond .ne 5, 3) := by decide +kernel
theorem dX2_numberOfDeal_8 : decode cX2_numberOfDeal 8 = .ok (.iconst (-1), 1) := by decide +kernel
theorem dX2_numberOfDeal_9 : decode cX2_numberOfDeal 9 = .ok (.ireturn, 1) := by decide +kernel
theorem dX2_numberOfDeal_10 : decode cX2_numberOfDeal 10 = .ok (.iload_n 2, 1) := by decide +kernel
theorem dX2_numberOfDeal_11 : decode cX2_numberOfDeal 11 = .ok (.tableswitch 112 0 8 #[49, 56, 63, 70, 77, 84, 91, 98, 105], 49) := by decide +kernel
theorem dX2_numberOfDeal_60 : decode cX2_numberOfDeal 60 = .ok (.aload_n 0, 1) := by decide +kernel
theorem dX2_numberOfDeal_61 : decode cX2_numberOfDeal 61 = .ok (.getfield 22, 3) := by decide +kernel
theorem dX2_numberOfDeal_64 : decode cX2_numberOfDeal 64 = .ok (.iload_n 1, 1) := by decide +kernel
theorem dX2_numberOfDeal_65 : decode cX2_numberOfDeal 65 = .ok (.iaload, 1) := by decide +kernel
theorem dX2_numberOfDeal_66 : decode cX2_numberOfDeal 66 = .ok (.ireturn, 1) := by decide +kernel
theorem dX2_numberOfDeal_67 : decode cX2_numberOfDeal 67 = .ok (.aload_n 0, 1) := by decide +kernel
theorem dX2_numberOfDeal_68 : decode cX2_numberOfDeal 68 = .ok (.getfield 25, 3) := by decide +kernel
theorem dX2_numberOfDeal_71 : decode cX2_numberOfDeal 71 = .ok (.iload_n 1, 1) := by decide +kernel
theorem dX2_numberOfDeal_72 : decode cX2_numberOfDeal 72 = .ok (.iaload, 1) := by decide +kernel
theorem dX2_numberOfDeal_73 : decode cX2_numberOfDeal 73 = .ok (.ireturn, 1) := by decide +kernel
theorem dX2_numberOfDeal_74 : decode cX2_numberOfDeal 74 = .ok (.aload_n 0, 1) := by decide +kernel
theorem dX2_numberOfDeal_75 : decode cX2_numberOfDeal 75 = .ok (.getfield 28, 3) := by decide +kernel
theorem dX2_numberOfDeal_78 : decode cX2_numberOfDeal 78 = .ok (.iload_n 1, 1) := by decide +kernel
theorem dX2_numberOfDeal_79 : decode cX2_numberOfDeal 79 = .ok (.iaload, 1) := by decide +kernel
theorem dX2_numberOfDeal_80 : decode cX2_numberOfDeal 80 = .ok (.ireturn, 1) := by decide +kernel
theorem dX2_numberOfDeal_81 : decode cX2_numberOfDeal 81 = .ok (.aload_n 0, 1) := by decide +kernel
theorem dX2_numberOfDeal_82 : decode cX2_numberOfDeal 82 = .ok (.getfield 34, 3) := by decide +kernel
theorem dX2_numberOfDeal_85 : decode cX2_numberOfDeal 85 = .ok (.iload_n 1, 1) := by decide +kernel
theorem dX2_numberOfDeal_86 : decode cX2_numberOfDeal 86 = .ok (.iaload, 1) := by decide +kernel
theorem dX2_numberOfDeal_87 : decode cX2_numberOfDeal 87 = .ok (.ireturn, 1) := by decide +kernel
theorem dX2_numberOfDeal_88 : decode cX2_numberOfDeal 88 = .ok (.aload_n 0, 1) := by decide +kernel
theorem dX2_numberOfDeal_89 : decode cX2_numberOfDeal 89 = .ok (.getfield 37, 3) := by decide +kernel
theorem dX2_numberOfDeal_92 : decode cX2_numberOfDeal 92 = .ok (.iload_n 1, 1) := by decide +kernel
theorem dX2_numberOfDeal_93 : decode cX2_numberOfDeal 93 = .ok (.iaload, 1) := by decide +kernel
theorem dX2_numberOfDeal_94 : decode cX2_numberOfDeal 94 = .ok (.ireturn, 1) := by decide +kernel
theorem dX2_numberOfDeal_95 : decode cX2_numberOfDeal 95 = .ok (.aload_n 0, 1) := by decide +kernel
theorem dX2_numberOfDeal_96 : decode cX2_numberOfDeal 96 = .ok (.iload_n 1, 1) := by decide +kernel
theorem dX2_numberOfDeal_97 : decode cX2_numberOfDeal 97 = .ok (.iconst 0, 1) := by decide +kernel
theorem dX2_numberOfDeal_98 : decode cX2_numberOfDeal 98 = .ok (.invokevirtual 73, 3) := by decide +kernel
theorem dX2_numberOfDeal_101 : decode cX2_numberOfDeal 101 = .ok (.ireturn, 1) := by decide +kernel
theorem dX2_numberOfDeal_102 : decode cX2_numberOfDeal 102 = .ok (.aload_n 0, 1) := by decide +kernel
theorem dX2_numberOfDeal_103 : decode cX2_numberOfDeal 103 = .ok (.iload_n 1, 1) := by decide +kernel
theorem dX2_numberOfDeal_104 : decode cX2_numberOfDeal 104 = .ok (.iconst 1, 1) := by decide +kernel
theorem dX2_numberOfDeal_105 : decode cX2_numberOfDeal 105 = .ok (.invokevirtual 73, 3) := by decide +kernel
theorem dX2_numberOfDeal_108 : decode cX2_numberOfDeal 108 = .ok (.ireturn, 1) := by decide +kernel
theorem dX2_numberOfDeal_109 : decode cX2_numberOfDeal 109 = .ok (.aload_n 0, 1) := by decide +kernel
theorem dX2_numberOfDeal_110 : decode cX2_numberOfDeal 110 = .ok (.iload_n 1, 1) := by decide +kernel
theorem dX2_numberOfDeal_111 : decode cX2_numberOfDeal 111 = .ok (.iconst 2, 1) := by decide +kernel
theorem dX2_numberOfDeal_112 : decode cX2_numberOfDeal 112 = .ok (.invokevirtual 73, 3) := by decide +kernel
theorem dX2_numberOfDeal_115 : decode cX2_numberOfDeal 115 = .ok (.ireturn, 1) := by decide +kernel
theorem dX2_numberOfDeal_116 : decode cX2_numberOfDeal 116 = .ok (.aload_n 0, 1) := by decide +kernel
theorem dX2_numberOfDeal_117 : decode cX2_numberOfDeal 117 = .ok (.iload_n 1, 1) := by decide +kernel
theorem dX2_numberOfDeal_118 : decode cX2_numberOfDeal 118 = .ok (.iconst 3, 1) := by decide +kernel
theorem dX2_numberOfDeal_119 : decode cX2_numberOfDeal 119 = .ok (.invokevirtual 73, 3) := by decide +kernel
theorem dX2_numberOfDeal_122 : decode cX2_numberOfDeal 122 = .ok (.ireturn, 1) := by decide +kernel
theorem dX2_numberOfDeal_123 : decode cX2_numberOfDeal 123 = .ok (.bipush (-2), 2) := by decide +kernel
theorem dX2_numberOfDeal_125 : decode cX2_numberOfDeal 125 = .ok (.ireturn, 1) := by decide +kernel
theorem dX2_standingFor_0 : decode cX2_standingFor 0 = .ok (.aload_n 0, 1) := by decide +kernel
theorem dX2_standingFor_1 : decode cX2_standingFor 1 = .ok (.iload_n 1, 1) := by decide +kernel
theorem dX2_standingFor_2 : decode cX2_standingFor 2 = .ok (.invokevirtual 185, 3) := by decide +kernel
theorem dX2_standingFor_5 : decode cX2_standingFor 5 = .ok (.ifCond .eq 10, 3) := by decide +kernel
theorem dX2_standingFor_8 : decode cX2_standingFor 8 = .ok (.iload_n 2, 1) := by decide +kernel
theorem dX2_standingFor_9 : decode cX2_standingFor 9 = .ok (.invokestatic 83, 3) := by decide +kernel
theorem dX2_standingFor_12 : decode cX2_standingFor 12 = .ok (.ifCond .ne 5, 3) := by decide +kernel
theorem dX2_standingFor_15 : decode cX2_standingFor 15 = .ok (.iconst (-1), 1) := by decide +kernel
theorem dX2_standingFor_16 : decode cX2_standingFor 16 = .ok (.ireturn, 1) := by decide +kernel
theorem dX2_standingFor_17 : decode cX2_standingFor 17 = .ok (.iconst 0, 1) := by decide +kernel
theorem dX2_standingFor_18 : decode cX2_standingFor 18 = .ok (.istore_n 3, 1) := by decide +kernel
theorem dX2_standingFor_19 : decode cX2_standingFor 19 = .ok (.iload_n 3, 1) := by decide +kernel
theorem dX2_standingFor_20 : decode cX2_standingFor 20 = .ok (.iconst 4, 1) := by decide +kernel
theorem dX2_standingFor_21 : decode cX2_standingFor 21 = .ok (.if_icmp .ge 21, 3) := by decide +kernel
theorem dX2_standingFor_24 : decode cX2_standingFor 24 = .ok (.aload_n 0, 1) := by decide +kernel
theorem dX2_standingFor_25 : decode cX2_standingFor 25 = .ok (.iload_n 1, 1) := by decide +kernel
theorem dX2_standingFor_26 : decode cX2_standingFor 26 = .ok (.iload_n 2, 1) := by decide +kernel
theorem dX2_standingFor_27 : decode cX2_standingFor 27 = .ok (.iload_n 3, 1) := by decide +kernel
theorem dX2_standingFor_28 : decode cX2_standingFor 28 = .ok (.invokevirtual 123, 3) := by decide +kernel
theorem dX2_standingFor_31 : decode cX2_standingFor 31 = .ok (.ifCond .eq 5, 3) := by decide +kernel
theorem dX2_standingFor_34 : decode cX2_standingFor 34 = .ok (.iload_n 3, 1) := by decide +kernel
theorem dX2_standingFor_35 : decode cX2_standingFor 35 = .ok (.ireturn, 1) := by decide +kernel
theorem dX2_standingFor_36 : decode cX2_standingFor 36 = .ok (.iinc 3 1, 3) := by decide +kernel
theorem dX2_standingFor_39 : decode cX2_standingFor 39 = .ok (.goto (-20), 3) := by decide +kernel
theorem dX2_standingFor_42 : decode cX2_standingFor 42 = .ok (.bipush (-6), 2) := by decide +kernel
theorem dX2_standingFor_44 : decode cX2_standingFor 44 = .ok (.ireturn, 1) := by decide +kernel
theorem dX2_numberOfSomebody_0 : decode cX2_numberOfSomebody 0 = .ok (.iload_n 1, 1) := by decide +kernel
theorem dX2_numberOfSomebody_1 : decode cX2_numberOfSomebody 1 = .ok (.invokestatic 110, 3) := by decide +kernel
theorem dX2_numberOfSomebody_4 : decode cX2_numberOfSomebody 4 = .ok (.ifCond .ne 5, 3) := by decide +kernel
theorem dX2_numberOfSomebody_7 : decode cX2_numberOfSomebody 7 = .ok (.iconst (-1), 1) := by decide +kernel
theorem dX2_numberOfSomebody_8 : decode cX2_numberOfSomebody 8 = .ok (.ireturn, 1) := by decide +kernel
theorem dX2_numberOfSomebody_9 : decode cX2_numberOfSomebody 9 = .ok (.iload_n 2, 1) := by decide +kernel
theorem dX2_numberOfSomebody_10 : decode cX2_numberOfSomebody 10 = .ok (.tableswitch 94 0 4 #[34, 48, 65, 74, 84], 34) := by decide +kernel
theorem dX2_numberOfSomebody_44 : decode cX2_numberOfSomebody 44 = .ok (.aload_n 0, 1) := by decide +kernel
theorem dX2_numberOfSomebody_45 : decode cX2_numberOfSomebody 45 = .ok (.iload_n 1, 1) := by decide +kernel
theorem dX2_numberOfSomebody_46 : decode cX2_numberOfSomebody 46 = .ok (.invokevirtual 87, 3) := by decide +kernel
theorem dX2_numberOfSomebody_49 : decode cX2_numberOfSomebody 49 = .ok (.ifCond .eq 7, 3) := by decide +kernel
theorem dX2_numberOfSomebody_52 : decode cX2_numberOfSomebody 52 = .ok (.iconst 1, 1) := by decide +kernel
theorem dX2_numberOfSomebody_53 : decode cX2_numberOfSomebody 53 = .ok (.goto 4, 3) := by decide +kernel
theorem dX2_numberOfSomebody_56 : decode cX2_numberOfSomebody 56 = .ok (.iconst 0, 1) := by decide +kernel
theorem dX2_numberOfSomebody_57 : decode cX2_numberOfSomebody 57 = .ok (.ireturn, 1) := by decide +kernel
theorem dX2_numberOfSomebody_58 : decode cX2_numberOfSomebody 58 = .ok (.aload_n 0, 1) := by decide +kernel
theorem dX2_numberOfSomebody_59 : decode cX2_numberOfSomebody 59 = .ok (.getfield 53, 3) := by decide +kernel
theorem dX2_numberOfSomebody_62 : decode cX2_numberOfSomebody 62 = .ok (.iload_n 1, 1) := by decide +kernel
theorem dX2_numberOfSomebody_63 : decode cX2_numberOfSomebody 63 = .ok (.invokestatic 69, 3) := by decide +kernel
theorem dX2_numberOfSomebody_66 : decode cX2_numberOfSomebody 66 = .ok (.ifCond .eq 7, 3) := by decide +kernel
theorem dX2_numberOfSomebody_69 : decode cX2_numberOfSomebody 69 = .ok (.iconst 0, 1) := by decide +kernel
theorem dX2_numberOfSomebody_70 : decode cX2_numberOfSomebody 70 = .ok (.goto 4, 3) := by decide +kernel
theorem dX2_numberOfSomebody_73 : decode cX2_numberOfSomebody 73 = .ok (.iconst 1, 1) := by decide +kernel
theorem dX2_numberOfSomebody_74 : decode cX2_numberOfSomebody 74 = .ok (.ireturn, 1) := by decide +kernel
theorem dX2_numberOfSomebody_75 : decode cX2_numberOfSomebody 75 = .ok (.aload_n 0, 1) := by decide +kernel
theorem dX2_numberOfSomebody_76 : decode cX2_numberOfSomebody 76 = .ok (.getfield 18, 3) := by decide +kernel
theorem dX2_numberOfSomebody_79 : decode cX2_numberOfSomebody 79 = .ok (.iload_n 1, 1) := by decide +kernel
theorem dX2_numberOfSomebody_80 : decode cX2_numberOfSomebody 80 = .ok (.invokevirtual 188, 3) := by decide +kernel
theorem dX2_numberOfSomebody_83 : decode cX2_numberOfSomebody 83 = .ok (.ireturn, 1) := by decide +kernel
theorem dX2_numberOfSomebody_84 : decode cX2_numberOfSomebody 84 = .ok (.aload_n 0, 1) := by decide +kernel
theorem dX2_numberOfSomebody_85 : decode cX2_numberOfSomebody 85 = .ok (.getfield 18, 3) := by decide +kernel
theorem dX2_numberOfSomebody_88 : decode cX2_numberOfSomebody 88 = .ok (.getfield 136, 3) := by decide +kernel
theorem dX2_numberOfSomebody_91 : decode cX2_numberOfSomebody 91 = .ok (.iload_n 1, 1) := by decide +kernel
theorem dX2_numberOfSomebody_92 : decode cX2_numberOfSomebody 92 = .ok (.iaload, 1) := by decide +kernel
theorem dX2_numberOfSomebody_93 : decode cX2_numberOfSomebody 93 = .ok (.ireturn, 1) := by decide +kernel
theorem dX2_numberOfSomebody_94 : decode cX2_numberOfSomebody 94 = .ok (.aload_n 0, 1) := by decide +kernel
theorem dX2_numberOfSomebody_95 : decode cX2_numberOfSomebody 95 = .ok (.getfield 18, 3) := by decide +kernel
theorem dX2_numberOfSomebody_98 : decode cX2_numberOfSomebody 98 = .ok (.getfield 191, 3) := by decide +kernel
theorem dX2_numberOfSomebody_101 : decode cX2_numberOfSomebody 101 = .ok (.iload_n 1, 1) := by decide +kernel
theorem dX2_numberOfSomebody_102 : decode cX2_numberOfSomebody 102 = .ok (.iaload, 1) := by decide +kernel
theorem dX2_numberOfSomebody_103 : decode cX2_numberOfSomebody 103 = .ok (.ireturn, 1) := by decide +kernel
theorem dX2_numberOfSomebody_104 : decode cX2_numberOfSomebody 104 = .ok (.bipush (-2), 2) := by decide +kernel
theorem dX2_numberOfSomebody_106 : decode cX2_numberOfSomebody 106 = .ok (.ireturn, 1) := by decide +kernel
theorem dX2_numberOfAll_0 : decode cX2_numberOfAll 0 = .ok (.iload_n 1, 1) := by decide +kernel
theorem dX2_numberOfAll_1 : decode cX2_numberOfAll 1 = .ok (.tableswitch 154 0 13 #[71, 76, 81, 89, 97, 154, 154, 105, 112, 119, 126, 133, 140, 147], 71) := by decide +kernel
theorem dX2_numberOfAll_72 : decode cX2_numberOfAll 72 = .ok (.aload_n 0, 1) := by decide +kernel
theorem dX2_numberOfAll_73 : decode cX2_numberOfAll 73 = .ok (.getfield 46, 3) := by decide +kernel
theorem dX2_numberOfAll_76 : decode cX2_numberOfAll 76 = .ok (.ireturn, 1) := by decide +kernel
theorem dX2_numberOfAll_77 : decode cX2_numberOfAll 77 = .ok (.aload_n 0, 1) := by decide +kernel
theorem dX2_numberOfAll_78 : decode cX2_numberOfAll 78 = .ok (.getfield 56, 3) := by decide +kernel
theorem dX2_numberOfAll_81 : decode cX2_numberOfAll 81 = .ok (.ireturn, 1) := by decide +kernel
theorem dX2_numberOfAll_82 : decode cX2_numberOfAll 82 = .ok (.aload_n 0, 1) := by decide +kernel
theorem dX2_numberOfAll_83 : decode cX2_numberOfAll 83 = .ok (.getfield 18, 3) := by decide +kernel
theorem dX2_numberOfAll_86 : decode cX2_numberOfAll 86 = .ok (.getfield 104, 3) := by decide +kernel
theorem dX2_numberOfAll_89 : decode cX2_numberOfAll 89 = .ok (.ireturn, 1) := by decide +kernel
theorem dX2_numberOfAll_90 : decode cX2_numberOfAll 90 = .ok (.aload_n 0, 1) := by decide +kernel
theorem dX2_numberOfAll_91 : decode cX2_numberOfAll 91 = .ok (.getfield 18, 3) := by decide +kernel
theorem dX2_numberOfAll_94 : decode cX2_numberOfAll 94 = .ok (.invokevirtual 194, 3) := by decide +kernel
theorem dX2_numberOfAll_97 : decode cX2_numberOfAll 97 = .ok (.ireturn, 1) := by decide +kernel
theorem dX2_numberOfAll_98 : decode cX2_numberOfAll 98 = .ok (.aload_n 0, 1) := by decide +kernel
theorem dX2_numberOfAll_99 : decode cX2_numberOfAll 99 = .ok (.getfield 18, 3) := by decide +kernel
theorem dX2_numberOfAll_102 : decode cX2_numberOfAll 102 = .ok (.getfield 101, 3) := by decide +kernel
theorem dX2_numberOfAll_105 : decode cX2_numberOfAll 105 = .ok (.ireturn, 1) := by decide +kernel
theorem dX2_numberOfAll_106 : decode cX2_numberOfAll 106 = .ok (.aload_n 0, 1) := by decide +kernel
theorem dX2_numberOfAll_107 : decode cX2_numberOfAll 107 = .ok (.getfield 9, 3) := by decide +kernel
theorem dX2_numberOfAll_110 : decode cX2_numberOfAll 110 = .ok (.iconst 0, 1) := by decide +kernel
theorem dX2_numberOfAll_111 : decode cX2_numberOfAll 111 = .ok (.iaload, 1) := by decide +kernel
theorem dX2_numberOfAll_112 : decode cX2_numberOfAll 112 = .ok (.ireturn, 1) := by decide +kernel
theorem dX2_numberOfAll_113 : decode cX2_numberOfAll 113 = .ok (.aload_n 0, 1) := by decide +kernel
theorem dX2_numberOfAll_114 : decode cX2_numberOfAll 114 = .ok (.getfield 9, 3) := by decide +kernel
theorem dX2_numberOfAll_117 : decode cX2_numberOfAll 117 = .ok (.iconst 1, 1) := by decide +kernel
theorem dX2_numberOfAll_118 : decode cX2_numberOfAll 118 = .ok (.iaload, 1) := by decide +kernel
theorem dX2_numberOfAll_119 : decode cX2_numberOfAll 119 = .ok (.ireturn, 1) := by decide +kernel
theorem dX2_numberOfAll_120 : decode cX2_numberOfAll 120 = .ok (.aload_n 0, 1) := by decide +kernel
theorem dX2_numberOfAll_121 : decode cX2_numberOfAll 121 = .ok (.getfield 9, 3) := by decide +kernel
theorem dX2_numberOfAll_124 : decode cX2_numberOfAll 124 = .ok (.iconst 2, 1) := by decide +kernel
theorem dX2_numberOfAll_125 : decode cX2_numberOfAll 125 = .ok (.iaload, 1) := by decide +kernel
theorem dX2_numberOfAll_126 : decode cX2_numberOfAll 126 = .ok (.ireturn, 1) := by decide +kernel
theorem dX2_numberOfAll_127 : decode cX2_numberOfAll 127 = .ok (.aload_n 0, 1) := by decide +kernel
theorem dX2_numberOfAll_128 : decode cX2_numberOfAll 128 = .ok (.getfield 9, 3) := by decide +kernel
theorem dX2_numberOfAll_131 : decode cX2_numberOfAll 131 = .ok (.iconst 3, 1) := by decide +kernel
theorem dX2_numberOfAll_132 : decode cX2_numberOfAll 132 = .ok (.iaload, 1) := by decide +kernel
theorem dX2_numberOfAll_133 : decode cX2_numberOfAll 133 = .ok (.ireturn, 1) := by decide +kernel
theorem dX2_numberOfAll_134 : decode cX2_numberOfAll 134 = .ok (.aload_n 0, 1) := by decide +kernel
theorem dX2_numberOfAll_135 : decode cX2_numberOfAll 135 = .ok (.iconst 2, 1) := by decide +kernel
theorem dX2_numberOfAll_136 : decode cX2_numberOfAll 136 = .ok (.iconst 2, 1) := by decide +kernel
theorem dX2_numberOfAll_137 : decode cX2_numberOfAll 137 = .ok (.invokevirtual 198, 3) := by decide +kernel
theorem dX2_numberOfAll_140 : decode cX2_numberOfAll 140 = .ok (.ireturn, 1) := by decide +kernel
theorem dX2_numberOfAll_141 : decode cX2_numberOfAll 141 = .ok (.aload_n 0, 1) := by decide +kernel
theorem dX2_numberOfAll_142 : decode cX2_numberOfAll 142 = .ok (.iconst 3, 1) := by decide +kernel
theorem dX2_numberOfAll_143 : decode cX2_numberOfAll 143 = .ok (.iconst 3, 1) := by decide +kernel
theorem dX2_numberOfAll_144 : decode cX2_numberOfAll 144 = .ok (.invokevirtual 198, 3) := by decide +kernel
theorem dX2_numberOfAll_147 : decode cX2_numberOfAll 147 = .ok (.ireturn, 1) := by decide +kernel
theorem dX2_numberOfAll_148 : decode cX2_numberOfAll 148 = .ok (.aload_n 0, 1) := by decide +kernel
theorem dX2_numberOfAll_149 : decode cX2_numberOfAll 149 = .ok (.iconst 2, 1) := by decide +kernel
theorem dX2_numberOfAll_150 : decode cX2_numberOfAll 150 = .ok (.iconst 3, 1) := by decide +kernel
theorem dX2_numberOfAll_151 : decode cX2_numberOfAll 151 = .ok (.invokevirtual 198, 3) := by decide +kernel
theorem dX2_numberOfAll_154 : decode cX2_numberOfAll 154 = .ok (.ireturn, 1) := by decide +kernel
theorem dX2_numberOfAll_155 : decode cX2_numberOfAll 155 = .ok (.bipush (-2), 2) := by decide +kernel
theorem dX2_numberOfAll_157 : decode cX2_numberOfAll 157 = .ok (.ireturn, 1) := by decide +kernel
theorem dX2_dealsWithBoth_0 : decode cX2_dealsWithBoth 0 = .ok (.iconst 0, 1) := by decide +kernel
theorem dX2_dealsWithBoth_1 : decode cX2_dealsWithBoth 1 = .ok (.istore_n 3, 1) := by decide +kernel
theorem dX2_dealsWithBoth_2 : decode cX2_dealsWithBoth 2 = .ok (.iconst 0, 1) := by decide +kernel
theorem dX2_dealsWithBoth_3 : decode cX2_dealsWithBoth 3 = .ok (.istore 4, 2) := by decide +kernel
theorem dX2_dealsWithBoth_5 : decode cX2_dealsWithBoth 5 = .ok (.iload 4, 2) := by decide +kernel
theorem dX2_dealsWithBoth_7 : decode cX2_dealsWithBoth 7 = .ok (.aload_n 0, 1) := by decide +kernel
theorem dX2_dealsWithBoth_8 : decode cX2_dealsWithBoth 8 = .ok (.getfield 56, 3) := by decide +kernel
theorem dX2_dealsWithBoth_11 : decode cX2_dealsWithBoth 11 = .ok (.if_icmp .ge 32, 3) := by decide +kernel
theorem dX2_dealsWithBoth_14 : decode cX2_dealsWithBoth 14 = .ok (.aload_n 0, 1) := by decide +kernel
theorem dX2_dealsWithBoth_15 : decode cX2_dealsWithBoth 15 = .ok (.iload 4, 2) := by decide +kernel
theorem dX2_dealsWithBoth_17 : decode cX2_dealsWithBoth 17 = .ok (.iload_n 1, 1) := by decide +kernel
theorem dX2_dealsWithBoth_18 : decode cX2_dealsWithBoth 18 = .ok (.invokevirtual 73, 3) := by decide +kernel
theorem dX2_dealsWithBoth_21 : decode cX2_dealsWithBoth 21 = .ok (.ifCond .eq 16, 3) := by decide +kernel
theorem dX2_dealsWithBoth_24 : decode cX2_dealsWithBoth 24 = .ok (.aload_n 0, 1) := by decide +kernel
theorem dX2_dealsWithBoth_25 : decode cX2_dealsWithBoth 25 = .ok (.iload 4, 2) := by decide +kernel
theorem dX2_dealsWithBoth_27 : decode cX2_dealsWithBoth 27 = .ok (.iload_n 2, 1) := by decide +kernel
theorem dX2_dealsWithBoth_28 : decode cX2_dealsWithBoth 28 = .ok (.invokevirtual 73, 3) := by decide +kernel
theorem dX2_dealsWithBoth_31 : decode cX2_dealsWithBoth 31 = .ok (.ifCond .eq 6, 3) := by decide +kernel
theorem dX2_dealsWithBoth_34 : decode cX2_dealsWithBoth 34 = .ok (.iinc 3 1, 3) := by decide +kernel
theorem dX2_dealsWithBoth_37 : decode cX2_dealsWithBoth 37 = .ok (.iinc 4 1, 3) := by decide +kernel
theorem dX2_dealsWithBoth_40 : decode cX2_dealsWithBoth 40 = .ok (.goto (-35), 3) := by decide +kernel
theorem dX2_dealsWithBoth_43 : decode cX2_dealsWithBoth 43 = .ok (.iload_n 3, 1) := by decide +kernel
theorem dX2_dealsWithBoth_44 : decode cX2_dealsWithBoth 44 = .ok (.ireturn, 1) := by decide +kernel
theorem dX2_whatIsSure_0 : decode cX2_whatIsSure 0 = .ok (.aload_n 0, 1) := by decide +kernel
theorem dX2_whatIsSure_1 : decode cX2_whatIsSure 1 = .ok (.iload_n 1, 1) := by decide +kernel
theorem dX2_whatIsSure_2 : decode cX2_whatIsSure 2 = .ok (.invokevirtual 185, 3) := by decide +kernel
theorem dX2_whatIsSure_5 : decode cX2_whatIsSure 5 = .ok (.ifCond .ne 5, 3) := by decide +kernel
theorem dX2_whatIsSure_8 : decode cX2_whatIsSure 8 = .ok (.iconst (-1), 1) := by decide +kernel
theorem dX2_whatIsSure_9 : decode cX2_whatIsSure 9 = .ok (.ireturn, 1) := by decide +kernel
theorem dX2_whatIsSure_10 : decode cX2_whatIsSure 10 = .ok (.aload_n 0, 1) := by decide +kernel
theorem dX2_whatIsSure_11 : decode cX2_whatIsSure 11 = .ok (.getfield 25, 3) := by decide +kernel
theorem dX2_whatIsSure_14 : decode cX2_whatIsSure 14 = .ok (.iload_n 1, 1) := by decide +kernel
theorem dX2_whatIsSure_15 : decode cX2_whatIsSure 15 = .ok (.iaload, 1) := by decide +kernel
theorem dX2_whatIsSure_16 : decode cX2_whatIsSure 16 = .ok (.iconst 1, 1) := by decide +kernel
theorem dX2_whatIsSure_17 : decode cX2_whatIsSure 17 = .ok (.if_icmp .eq 13, 3) := by decide +kernel
theorem dX2_whatIsSure_20 : decode cX2_whatIsSure 20 = .ok (.aload_n 0, 1) := by decide +kernel
theorem dX2_whatIsSure_21 : decode cX2_whatIsSure 21 = .ok (.getfield 25, 3) := by decide +kernel
theorem dX2_whatIsSure_24 : decode cX2_whatIsSure 24 = .ok (.iload_n 1, 1) := by decide +kernel
theorem dX2_whatIsSure_25 : decode cX2_whatIsSure 25 = .ok (.iaload, 1) := by decide +kernel
theorem dX2_whatIsSure_26 : decode cX2_whatIsSure 26 = .ok (.iconst 3, 1) := by decide +kernel
theorem dX2_whatIsSure_27 : decode cX2_whatIsSure 27 = .ok (.if_icmp .ne 5, 3) := by decide +kernel
theorem dX2_whatIsSure_30 : decode cX2_whatIsSure 30 = .ok (.iconst 1, 1) := by decide +kernel
theorem dX2_whatIsSure_31 : decode cX2_whatIsSure 31 = .ok (.ireturn, 1) := by decide +kernel
theorem dX2_whatIsSure_32 : decode cX2_whatIsSure 32 = .ok (.aload_n 0, 1) := by decide +kernel
theorem dX2_whatIsSure_33 : decode cX2_whatIsSure 33 = .ok (.getfield 25, 3) := by decide +kernel
theorem dX2_whatIsSure_36 : decode cX2_whatIsSure 36 = .ok (.iload_n 1, 1) := by decide +kernel
theorem dX2_whatIsSure_37 : decode cX2_whatIsSure 37 = .ok (.iaload, 1) := by decide +kernel
theorem dX2_whatIsSure_38 : decode cX2_whatIsSure 38 = .ok (.iconst 2, 1) := by decide +kernel
theorem dX2_whatIsSure_39 : decode cX2_whatIsSure 39 = .ok (.if_icmp .eq 12, 3) := by decide +kernel
theorem dX2_whatIsSure_42 : decode cX2_whatIsSure 42 = .ok (.aload_n 0, 1) := by decide +kernel
theorem dX2_whatIsSure_43 : decode cX2_whatIsSure 43 = .ok (.iload_n 1, 1) := by decide +kernel
theorem dX2_whatIsSure_44 : decode cX2_whatIsSure 44 = .ok (.iconst 3, 1) := by decide +kernel
theorem dX2_whatIsSure_45 : decode cX2_whatIsSure 45 = .ok (.invokevirtual 73, 3) := by decide +kernel
theorem dX2_whatIsSure_48 : decode cX2_whatIsSure 48 = .ok (.ifCond .eq 7, 3) := by decide +kernel
theorem dX2_whatIsSure_51 : decode cX2_whatIsSure 51 = .ok (.iconst 2, 1) := by decide +kernel
theorem dX2_whatIsSure_52 : decode cX2_whatIsSure 52 = .ok (.goto 4, 3) := by decide +kernel
theorem dX2_whatIsSure_55 : decode cX2_whatIsSure 55 = .ok (.iconst 0, 1) := by decide +kernel
theorem dX2_whatIsSure_56 : decode cX2_whatIsSure 56 = .ok (.ireturn, 1) := by decide +kernel
theorem dX2_whoFindsOut_0 : decode cX2_whoFindsOut 0 = .ok (.aload_n 0, 1) := by decide +kernel
theorem dX2_whoFindsOut_1 : decode cX2_whoFindsOut 1 = .ok (.iload_n 1, 1) := by decide +kernel
theorem dX2_whoFindsOut_2 : decode cX2_whoFindsOut 2 = .ok (.invokevirtual 185, 3) := by decide +kernel
theorem dX2_whoFindsOut_5 : decode cX2_whoFindsOut 5 = .ok (.ifCond .ne 5, 3) := by decide +kernel
theorem dX2_whoFindsOut_8 : decode cX2_whoFindsOut 8 = .ok (.iconst (-1), 1) := by decide +kernel
theorem dX2_whoFindsOut_9 : decode cX2_whoFindsOut 9 = .ok (.ireturn, 1) := by decide +kernel
theorem dX2_whoFindsOut_10 : decode cX2_whoFindsOut 10 = .ok (.aload_n 0, 1) := by decide +kernel
theorem dX2_whoFindsOut_11 : decode cX2_whoFindsOut 11 = .ok (.iload_n 1, 1) := by decide +kernel
theorem dX2_whoFindsOut_12 : decode cX2_whoFindsOut 12 = .ok (.iconst 1, 1) := by decide +kernel
theorem dX2_whoFindsOut_13 : decode cX2_whoFindsOut 13 = .ok (.invokevirtual 73, 3) := by decide +kernel
theorem dX2_whoFindsOut_16 : decode cX2_whoFindsOut 16 = .ok (.istore_n 2, 1) := by decide +kernel
theorem dX2_whoFindsOut_17 : decode cX2_whoFindsOut 17 = .ok (.aload_n 0, 1) := by decide +kernel
theorem dX2_whoFindsOut_18 : decode cX2_whoFindsOut 18 = .ok (.getfield 22, 3) := by decide +kernel
theorem dX2_whoFindsOut_21 : decode cX2_whoFindsOut 21 = .ok (.iload_n 1, 1) := by decide +kernel
theorem dX2_whoFindsOut_22 : decode cX2_whoFindsOut 22 = .ok (.iaload, 1) := by decide +kernel
theorem dX2_whoFindsOut_23 : decode cX2_whoFindsOut 23 = .ok (.iload_n 2, 1) := by decide +kernel
theorem dX2_whoFindsOut_24 : decode cX2_whoFindsOut 24 = .ok (.iconst (-1), 1) := by decide +kernel
theorem dX2_whoFindsOut_25 : decode cX2_whoFindsOut 25 = .ok (.ixor, 1) := by decide +kernel
theorem dX2_whoFindsOut_26 : decode cX2_whoFindsOut 26 = .ok (.iand, 1) := by decide +kernel
theorem dX2_whoFindsOut_27 : decode cX2_whoFindsOut 27 = .ok (.aload_n 0, 1) := by decide +kernel
theorem dX2_whoFindsOut_28 : decode cX2_whoFindsOut 28 = .ok (.getfield 50, 3) := by decide +kernel
theorem dX2_whoFindsOut_31 : decode cX2_whoFindsOut 31 = .ok (.iconst (-1), 1) := by decide +kernel
theorem dX2_whoFindsOut_32 : decode cX2_whoFindsOut 32 = .ok (.ixor, 1) := by decide +kernel
theorem dX2_whoFindsOut_33 : decode cX2_whoFindsOut 33 = .ok (.iand, 1) := by decide +kernel
theorem dX2_whoFindsOut_34 : decode cX2_whoFindsOut 34 = .ok (.istore_n 3, 1) := by decide +kernel
theorem dX2_whoFindsOut_35 : decode cX2_whoFindsOut 35 = .ok (.aload_n 0, 1) := by decide +kernel
theorem dX2_whoFindsOut_36 : decode cX2_whoFindsOut 36 = .ok (.iconst 4, 1) := by decide +kernel
theorem dX2_whoFindsOut_37 : decode cX2_whoFindsOut 37 = .ok (.invokevirtual 87, 3) := by decide +kernel
theorem dX2_whoFindsOut_40 : decode cX2_whoFindsOut 40 = .ok (.ifCond .ne 16, 3) := by decide +kernel
theorem dX2_whoFindsOut_43 : decode cX2_whoFindsOut 43 = .ok (.aload_n 0, 1) := by decide +kernel
theorem dX2_whoFindsOut_44 : decode cX2_whoFindsOut 44 = .ok (.getfield 25, 3) := by decide +kernel
theorem dX2_whoFindsOut_47 : decode cX2_whoFindsOut 47 = .ok (.iload_n 1, 1) := by decide +kernel
theorem dX2_whoFindsOut_48 : decode cX2_whoFindsOut 48 = .ok (.iaload, 1) := by decide +kernel
theorem dX2_whoFindsOut_49 : decode cX2_whoFindsOut 49 = .ok (.ifCond .eq 7, 3) := by decide +kernel
theorem dX2_whoFindsOut_52 : decode cX2_whoFindsOut 52 = .ok (.iconst 1, 1) := by decide +kernel
theorem dX2_whoFindsOut_53 : decode cX2_whoFindsOut 53 = .ok (.goto 4, 3) := by decide +kernel
theorem dX2_whoFindsOut_56 : decode cX2_whoFindsOut 56 = .ok (.iconst 0, 1) := by decide +kernel
theorem dX2_whoFindsOut_57 : decode cX2_whoFindsOut 57 = .ok (.istore 4, 2) := by decide +kernel
theorem dX2_whoFindsOut_59 : decode cX2_whoFindsOut 59 = .ok (.aload_n 0, 1) := by decide +kernel
theorem dX2_whoFindsOut_60 : decode cX2_whoFindsOut 60 = .ok (.getfield 9, 3) := by decide +kernel
theorem dX2_whoFindsOut_63 : decode cX2_whoFindsOut 63 = .ok (.iconst 3, 1) := by decide +kernel
theorem dX2_whoFindsOut_64 : decode cX2_whoFindsOut 64 = .ok (.iaload, 1) := by decide +kernel
theorem dX2_whoFindsOut_65 : decode cX2_whoFindsOut 65 = .ok (.iconst 1, 1) := by decide +kernel
theorem dX2_whoFindsOut_66 : decode cX2_whoFindsOut 66 = .ok (.if_icmp .ne 11, 3) := by decide +kernel
theorem dX2_whoFindsOut_69 : decode cX2_whoFindsOut 69 = .ok (.iload_n 3, 1) := by decide +kernel
theorem dX2_whoFindsOut_70 : decode cX2_whoFindsOut 70 = .ok (.ifCond .eq 7, 3) := by decide +kernel
theorem dX2_whoFindsOut_73 : decode cX2_whoFindsOut 73 = .ok (.iconst 1, 1) := by decide +kernel
theorem dX2_whoFindsOut_74 : decode cX2_whoFindsOut 74 = .ok (.goto 4, 3) := by decide +kernel
theorem dX2_whoFindsOut_77 : decode cX2_whoFindsOut 77 = .ok (.iconst 0, 1) := by decide +kernel
theorem dX2_whoFindsOut_78 : decode cX2_whoFindsOut 78 = .ok (.istore 5, 2) := by decide +kernel
theorem dX2_whoFindsOut_80 : decode cX2_whoFindsOut 80 = .ok (.iload 4, 2) := by decide +kernel
theorem dX2_whoFindsOut_82 : decode cX2_whoFindsOut 82 = .ok (.ifCond .ne 8, 3) := by decide +kernel
theorem dX2_whoFindsOut_85 : decode cX2_whoFindsOut 85 = .ok (.iload 5, 2) := by decide +kernel
theorem dX2_whoFindsOut_87 : decode cX2_whoFindsOut 87 = .ok (.ifCond .eq 14, 3) := by decide +kernel
theorem dX2_whoFindsOut_90 : decode cX2_whoFindsOut 90 = .ok (.iload_n 2, 1) := by decide +kernel
theorem dX2_whoFindsOut_91 : decode cX2_whoFindsOut 91 = .ok (.aload_n 0, 1) := by decide +kernel
theorem dX2_whoFindsOut_92 : decode cX2_whoFindsOut 92 = .ok (.getfield 50, 3) := by decide +kernel
theorem dX2_whoFindsOut_95 : decode cX2_whoFindsOut 95 = .ok (.iconst (-1), 1) := by decide +kernel
theorem dX2_whoFindsOut_96 : decode cX2_whoFindsOut 96 = .ok (.ixor, 1) := by decide +kernel
theorem dX2_whoFindsOut_97 : decode cX2_whoFindsOut 97 = .ok (.iand, 1) := by decide +kernel
theorem dX2_whoFindsOut_98 : decode cX2_whoFindsOut 98 = .ok (.goto 4, 3) := by decide +kernel
theorem dX2_whoFindsOut_101 : decode cX2_whoFindsOut 101 = .ok (.iconst 0, 1) := by decide +kernel
theorem dX2_whoFindsOut_102 : decode cX2_whoFindsOut 102 = .ok (.ireturn, 1) := by decide +kernel
theorem dX3_init_0 : decode cX3_init 0 = .ok (.aload_n 0, 1) := by decide +kernel
theorem dX3_init_1 : decode cX3_init 1 = .ok (.invokespecial 1, 3) := by decide +kernel
theorem dX3_init_4 : decode cX3_init 4 = .ok (.aload_n 0, 1) := by decide +kernel
theorem dX3_init_5 : decode cX3_init 5 = .ok (.new 7, 3) := by decide +kernel
theorem dX3_init_8 : decode cX3_init 8 = .ok (.dup, 1) := by decide +kernel
theorem dX3_init_9 : decode cX3_init 9 = .ok (.invokespecial 9, 3) := by decide +kernel
theorem dX3_init_12 : decode cX3_init 12 = .ok (.putfield 10, 3) := by decide +kernel
theorem dX3_init_15 : decode cX3_init 15 = .ok (.aload_n 0, 1) := by decide +kernel
theorem dX3_init_16 : decode cX3_init 16 = .ok (.new 7, 3) := by decide +kernel
theorem dX3_init_19 : decode cX3_init 19 = .ok (.dup, 1) := by decide +kernel
theorem dX3_init_20 : decode cX3_init 20 = .ok (.invokespecial 9, 3) := by decide +kernel
theorem dX3_init_23 : decode cX3_init 23 = .ok (.putfield 16, 3) := by decide +kernel
theorem dX3_init_26 : decode cX3_init 26 = .ok (.aload_n 0, 1) := by decide +kernel
theorem dX3_init_27 : decode cX3_init 27 = .ok (.bipush 7, 2) := by decide +kernel
theorem dX3_init_29 : decode cX3_init 29 = .ok (.anewarray 7, 3) := by decide +kernel
theorem dX3_init_32 : decode cX3_init 32 = .ok (.putfield 19, 3) := by decide +kernel
theorem dX3_init_35 : decode cX3_init 35 = .ok (.aload_n 0, 1) := by decide +kernel
theorem dX3_init_36 : decode cX3_init 36 = .ok (.iconst 2, 1) := by decide +kernel
theorem dX3_init_37 : decode cX3_init 37 = .ok (.anewarray 7, 3) := by decide +kernel
theorem dX3_init_40 : decode cX3_init 40 = .ok (.putfield 23, 3) := by decide +kernel
theorem dX3_init_43 : decode cX3_init 43 = .ok (.aload_n 0, 1) := by decide +kernel
theorem dX3_init_44 : decode cX3_init 44 = .ok (.bipush 60, 2) := by decide +kernel
theorem dX3_init_46 : decode cX3_init 46 = .ok (.newarray .char, 2) := by decide +kernel
theorem dX3_init_48 : decode cX3_init 48 = .ok (.putfield 26, 3) := by decide +kernel
theorem dX3_init_51 : decode cX3_init 51 = .ok (.aload_n 0, 1) := by decide +kernel
theorem dX3_init_52 : decode cX3_init 52 = .ok (.new 30, 3) := by decide +kernel
theorem dX3_init_55 : decode cX3_init 55 = .ok (.dup, 1) := by decide +kernel
theorem dX3_init_56 : decode cX3_init 56 = .ok (.invokespecial 32, 3) := by decide +kernel
theorem dX3_init_59 : decode cX3_init 59 = .ok (.putfield 33, 3) := by decide +kernel
theorem dX3_init_62 : decode cX3_init 62 = .ok (.iconst 0, 1) := by decide +kernel
theorem dX3_init_63 : decode cX3_init 63 = .ok (.istore_n 1, 1) := by decide +kernel
theorem dX3_init_64 : decode cX3_init 64 = .ok (.iload_n 1, 1) := by decide +kernel
theorem dX3_init_65 : decode cX3_init 65 = .ok (.aload_n 0, 1) := by decide +kernel
theorem dX3_init_66 : decode cX3_init 66 = .ok (.getfield 19, 3) := by decide +kernel
theorem dX3_init_69 : decode cX3_init 69 = .ok (.arraylength, 1) := by decide +kernel
theorem dX3_init_70 : decode cX3_init 70 = .ok (.if_icmp .ge 22, 3) := by decide +kernel
theorem dX3_init_73 : decode cX3_init 73 = .ok (.aload_n 0, 1) := by decide +kernel
theorem dX3_init_74 : decode cX3_init 74 = .ok (.getfield 19, 3) := by decide +kernel
theorem dX3_init_77 : decode cX3_init 77 = .ok (.iload_n 1, 1) := by decide +kernel
theorem dX3_init_78 : decode cX3_init 78 = .ok (.new 7, 3) := by decide +kernel
theorem dX3_init_81 : decode cX3_init 81 = .ok (.dup, 1) := by decide +kernel
theorem dX3_init_82 : decode cX3_init 82 = .ok (.invokespecial 9, 3) := by decide +kernel
theorem dX3_init_85 : decode cX3_init 85 = .ok (.aastore, 1) := by decide +kernel
theorem dX3_init_86 : decode cX3_init 86 = .ok (.iinc 1 1, 3) := by decide +kernel
theorem dX3_init_89 : decode cX3_init 89 = .ok (.goto (-25), 3) := by decide +kernel
theorem dX3_init_92 : decode cX3_init 92 = .ok (.iconst 0, 1) := by decide +kernel
theorem dX3_init_93 : decode cX3_init 93 = .ok (.istore_n 1, 1) := by decide +kernel
theorem dX3_init_94 : decode cX3_init 94 = .ok (.iload_n 1, 1) := by decide +kernel
theorem dX3_init_95 : decode cX3_init 95 = .ok (.aload_n 0, 1) := by decide +kernel
theorem dX3_init_96 : decode cX3_init 96 = .ok (.getfield 23, 3) := by decide +kernel
theorem dX3_init_99 : decode cX3_init 99 = .ok (.arraylength, 1) := by decide +kernel
theorem dX3_init_100 : decode cX3_init 100 = .ok (.if_icmp .ge 22, 3) := by decide +kernel
theorem dX3_init_103 : decode cX3_init 103 = .ok (.aload_n 0, 1) := by decide +kernel
theorem dX3_init_104 : decode cX3_init 104 = .ok (.getfield 23, 3) := by decide +kernel
theorem dX3_init_107 : decode cX3_init 107 = .ok (.iload_n 1, 1) := by decide +kernel
theorem dX3_init_108 : decode cX3_init 108 = .ok (.new 7, 3) := by decide +kernel
theorem dX3_init_111 : decode cX3_init 111 = .ok (.dup, 1) := by decide +kernel
theorem dX3_init_112 : decode cX3_init 112 = .ok (.invokespecial 9, 3) := by decide +kernel
theorem dX3_init_115 : decode cX3_init 115 = .ok (.aastore, 1) := by decide +kernel
theorem dX3_init_116 : decode cX3_init 116 = .ok (.iinc 1 1, 3) := by decide +kernel
theorem dX3_init_119 : decode cX3_init 119 = .ok (.goto (-25), 3) := by decide +kernel
theorem dX3_init_122 : decode cX3_init 122 = .ok (.return_, 1) := by decide +kernel
theorem dX3_set_0 : decode cX3_set 0 = .ok (.aload_n 0, 1) := by decide +kernel
theorem dX3_set_1 : decode cX3_set 1 = .ok (.invokevirtual 37, 3) := by decide +kernel
theorem dX3_set_4 : decode cX3_set 4 = .ok (.aload_n 0, 1) := by decide +kernel
theorem dX3_set_5 : decode cX3_set 5 = .ok (.aload_n 0, 1) := by decide +kernel
theorem dX3_set_6 : decode cX3_set 6 = .ok (.getfield 10, 3) := by decide +kernel
theorem dX3_set_9 : decode cX3_set 9 = .ok (.iload_n 1, 1) := by decide +kernel
theorem dX3_set_10 : decode cX3_set 10 = .ok (.iload_n 2, 1) := by decide +kernel
theorem dX3_set_11 : decode cX3_set 11 = .ok (.invokevirtual 40, 3) := by decide +kernel
theorem dX3_set_14 : decode cX3_set 14 = .ok (.invokevirtual 44, 3) := by decide +kernel
theorem dX3_set_17 : decode cX3_set 17 = .ok (.ireturn, 1) := by decide +kernel
theorem dX3_willing_0 : decode cX3_willing 0 = .ok (.aload_n 0, 1) := by decide +kernel
theorem dX3_willing_1 : decode cX3_willing 1 = .ok (.invokevirtual 37, 3) := by decide +kernel
theorem dX3_willing_4 : decode cX3_willing 4 = .ok (.aload_n 0, 1) := by decide +kernel
theorem dX3_willing_5 : decode cX3_willing 5 = .ok (.aload_n 0, 1) := by decide +kernel
theorem dX3_willing_6 : decode cX3_willing 6 = .ok (.getfield 10, 3) := by decide +kernel
theorem dX3_willing_9 : decode cX3_willing 9 = .ok (.iload_n 1, 1) := by decide +kernel
theorem dX3_willing_10 : decode cX3_willing 10 = .ok (.iload_n 2, 1) := by decide +kernel
theorem dX3_willing_11 : decode cX3_willing 11 = .ok (.invokevirtual 48, 3) := by decide +kernel
theorem dX3_willing_14 : decode cX3_willing 14 = .ok (.invokevirtual 44, 3) := by decide +kernel
theorem dX3_willing_17 : decode cX3_willing 17 = .ok (.ireturn, 1) := by decide +kernel
theorem dX3_open_0 : decode cX3_open 0 = .ok (.aload_n 0, 1) := by decide +kernel
theorem dX3_open_1 : decode cX3_open 1 = .ok (.invokevirtual 37, 3) := by decide +kernel
theorem dX3_open_4 : decode cX3_open 4 = .ok (.aload_n 0, 1) := by decide +kernel
theorem dX3_open_5 : decode cX3_open 5 = .ok (.aload_n 0, 1) := by decide +kernel
theorem dX3_open_6 : decode cX3_open 6 = .ok (.getfield 10, 3) := by decide +kernel
theorem dX3_open_9 : decode cX3_open 9 = .ok (.iload_n 1, 1) := by decide +kernel
theorem dX3_open_10 : decode cX3_open 10 = .ok (.invokevirtual 51, 3) := by decide +kernel
theorem dX3_open_13 : decode cX3_open 13 = .ok (.invokevirtual 44, 3) := by decide +kernel
theorem dX3_open_16 : decode cX3_open 16 = .ok (.ireturn, 1) := by decide +kernel
theorem dX3_deliver_0 : decode cX3_deliver 0 = .ok (.aload_n 0, 1) := by decide +kernel
theorem dX3_deliver_1 : decode cX3_deliver 1 = .ok (.invokevirtual 37, 3) := by decide +kernel
theorem dX3_deliver_4 : decode cX3_deliver 4 = .ok (.aload_n 0, 1) := by decide +kernel
theorem dX3_deliver_5 : decode cX3_deliver 5 = .ok (.aload_n 0, 1) := by decide +kernel
theorem dX3_deliver_6 : decode cX3_deliver 6 = .ok (.getfield 10, 3) := by decide +kernel
theorem dX3_deliver_9 : decode cX3_deliver 9 = .ok (.iload_n 1, 1) := by decide +kernel
theorem dX3_deliver_10 : decode cX3_deliver 10 = .ok (.invokevirtual 54, 3) := by decide +kernel
theorem dX3_deliver_13 : decode cX3_deliver 13 = .ok (.invokevirtual 44, 3) := by decide +kernel
theorem dX3_deliver_16 : decode cX3_deliver 16 = .ok (.ireturn, 1) := by decide +kernel
theorem dX3_lose_0 : decode cX3_lose 0 = .ok (.aload_n 0, 1) := by decide +kernel
theorem dX3_lose_1 : decode cX3_lose 1 = .ok (.invokevirtual 37, 3) := by decide +kernel
theorem dX3_lose_4 : decode cX3_lose 4 = .ok (.aload_n 0, 1) := by decide +kernel
theorem dX3_lose_5 : decode cX3_lose 5 = .ok (.aload_n 0, 1) := by decide +kernel
theorem dX3_lose_6 : decode cX3_lose 6 = .ok (.getfield 10, 3) := by decide +kernel
theorem dX3_lose_9 : decode cX3_lose 9 = .ok (.iload_n 1, 1) := by decide +kernel
theorem dX3_lose_10 : decode cX3_lose 10 = .ok (.invokevirtual 57, 3) := by decide +kernel
theorem dX3_lose_13 : decode cX3_lose 13 = .ok (.invokevirtual 44, 3) := by decide +kernel
theorem dX3_lose_16 : decode cX3_lose 16 = .ok (.ireturn, 1) := by decide +kernel
theorem dX3_twice_0 : decode cX3_twice 0 = .ok (.aload_n 0, 1) := by decide +kernel
theorem dX3_twice_1 : decode cX3_twice 1 = .ok (.invokevirtual 37, 3) := by decide +kernel
theorem dX3_twice_4 : decode cX3_twice 4 = .ok (.aload_n 0, 1) := by decide +kernel
theorem dX3_twice_5 : decode cX3_twice 5 = .ok (.aload_n 0, 1) := by decide +kernel
theorem dX3_twice_6 : decode cX3_twice 6 = .ok (.getfield 10, 3) := by decide +kernel
theorem dX3_twice_9 : decode cX3_twice 9 = .ok (.iload_n 1, 1) := by decide +kernel
theorem dX3_twice_10 : decode cX3_twice 10 = .ok (.invokevirtual 60, 3) := by decide +kernel
theorem dX3_twice_13 : decode cX3_twice 13 = .ok (.invokevirtual 44, 3) := by decide +kernel
theorem dX3_twice_16 : decode cX3_twice 16 = .ok (.ireturn, 1) := by decide +kernel
theorem dX3_fall_0 : decode cX3_fall 0 = .ok (.aload_n 0, 1) := by decide +kernel
theorem dX3_fall_1 : decode cX3_fall 1 = .ok (.invokevirtual 37, 3) := by decide +kernel
theorem dX3_fall_4 : decode cX3_fall 4 = .ok (.aload_n 0, 1) := by decide +kernel
theorem dX3_fall_5 : decode cX3_fall 5 = .ok (.aload_n 0, 1) := by decide +kernel
theorem dX3_fall_6 : decode cX3_fall 6 = .ok (.getfield 10, 3) := by decide +kernel
theorem dX3_fall_9 : decode cX3_fall 9 = .ok (.iload_n 1, 1) := by decide +kernel
theorem dX3_fall_10 : decode cX3_fall 10 = .ok (.invokevirtual 63, 3) := by decide +kernel
theorem dX3_fall_13 : decode cX3_fall 13 = .ok (.invokevirtual 44, 3) := by decide +kernel
theorem dX3_fall_16 : decode cX3_fall 16 = .ok (.ireturn, 1) := by decide +kernel
theorem dX3_rise_0 : decode cX3_rise 0 = .ok (.aload_n 0, 1) := by decide +kernel
theorem dX3_rise_1 : decode cX3_rise 1 = .ok (.invokevirtual 37, 3) := by decide +kernel
theorem dX3_rise_4 : decode cX3_rise 4 = .ok (.aload_n 0, 1) := by decide +kernel
theorem dX3_rise_5 : decode cX3_rise 5 = .ok (.aload_n 0, 1) := by decide +kernel
theorem dX3_rise_6 : decode cX3_rise 6 = .ok (.getfield 10, 3) := by decide +kernel
theorem dX3_rise_9 : decode cX3_rise 9 = .ok (.iload_n 1, 1) := by decide +kernel
theorem dX3_rise_10 : decode cX3_rise 10 = .ok (.invokevirtual 66, 3) := by decide +kernel
theorem dX3_rise_13 : decode cX3_rise 13 = .ok (.invokevirtual 44, 3) := by decide +kernel
theorem dX3_rise_16 : decode cX3_rise 16 = .ok (.ireturn, 1) := by decide +kernel
theorem dX3_ticks_0 : decode cX3_ticks 0 = .ok (.aload_n 0, 1) := by decide +kernel
theorem dX3_ticks_1 : decode cX3_ticks 1 = .ok (.invokevirtual 37, 3) := by decide +kernel
theorem dX3_ticks_4 : decode cX3_ticks 4 = .ok (.aload_n 0, 1) := by decide +kernel
theorem dX3_ticks_5 : decode cX3_ticks 5 = .ok (.aload_n 0, 1) := by decide +kernel
theorem dX3_ticks_6 : decode cX3_ticks 6 = .ok (.getfield 10, 3) := by decide +kernel
theorem dX3_ticks_9 : decode cX3_ticks 9 = .ok (.iload_n 1, 1) := by decide +kernel
theorem dX3_ticks_10 : decode cX3_ticks 10 = .ok (.invokevirtual 69, 3) := by decide +kernel
theorem dX3_ticks_13 : decode cX3_ticks 13 = .ok (.invokevirtual 44, 3) := by decide +kernel
theorem dX3_ticks_16 : decode cX3_ticks 16 = .ok (.ireturn, 1) := by decide +kernel
theorem dX3_ofDeal_0 : decode cX3_ofDeal 0 = .ok (.aload_n 0, 1) := by decide +kernel
theorem dX3_ofDeal_1 : decode cX3_ofDeal 1 = .ok (.getfield 10, 3) := by decide +kernel
theorem dX3_ofDeal_4 : decode cX3_ofDeal 4 = .ok (.iload_n 1, 1) := by decide +kernel
theorem dX3_ofDeal_5 : decode cX3_ofDeal 5 = .ok (.iload_n 2, 1) := by decide +kernel
theorem dX3_ofDeal_6 : decode cX3_ofDeal 6 = .ok (.invokevirtual 72, 3) := by decide +kernel
theorem dX3_ofDeal_9 : decode cX3_ofDeal 9 = .ok (.ireturn, 1) := by decide +kernel
theorem dX3_at_0 : decode cX3_at 0 = .ok (.aload_n 0, 1) := by decide +kernel
theorem dX3_at_1 : decode cX3_at 1 = .ok (.getfield 10, 3) := by decide +kernel
theorem dX3_at_4 : decode cX3_at 4 = .ok (.iload_n 1, 1) := by decide +kernel
theorem dX3_at_5 : decode cX3_at 5 = .ok (.iload_n 2, 1) := by decide +kernel
theorem dX3_at_6 : decode cX3_at 6 = .ok (.invokevirtual 75, 3) := by decide +kernel
theorem dX3_at_9 : decode cX3_at 9 = .ok (.ireturn, 1) := by decide +kernel
theorem dX3_message_0 : decode cX3_message 0 = .ok (.aload_n 0, 1) := by decide +kernel
theorem dX3_message_1 : decode cX3_message 1 = .ok (.getfield 10, 3) := by decide +kernel
theorem dX3_message_4 : decode cX3_message 4 = .ok (.getfield 78, 3) := by decide +kernel
theorem dX3_message_7 : decode cX3_message 7 = .ok (.iload_n 1, 1) := by decide +kernel
theorem dX3_message_8 : decode cX3_message 8 = .ok (.iload_n 2, 1) := by decide +kernel
theorem dX3_message_9 : decode cX3_message 9 = .ok (.invokevirtual 82, 3) := by decide +kernel
theorem dX3_message_12 : decode cX3_message 12 = .ok (.ireturn, 1) := by decide +kernel
theorem dX3_who_0 : decode cX3_who 0 = .ok (.aload_n 0, 1) := by decide +kernel
theorem dX3_who_1 : decode cX3_who 1 = .ok (.getfield 10, 3) := by decide +kernel
theorem dX3_who_4 : decode cX3_who 4 = .ok (.iload_n 1, 1) := by decide +kernel
theorem dX3_who_5 : decode cX3_who 5 = .ok (.iload_n 2, 1) := by decide +kernel
theorem dX3_who_6 : decode cX3_who 6 = .ok (.invokevirtual 87, 3) := by decide +kernel
theorem dX3_who_9 : decode cX3_who 9 = .ok (.ireturn, 1) := by decide +kernel
theorem dX3_count_0 : decode cX3_count 0 = .ok (.iload_n 1, 1) := by decide +kernel
theorem dX3_count_1 : decode cX3_count 1 = .ok (.lookupswitch 37 #[(5, 27), (6, 32)], 27) := by decide +kernel
theorem dX3_count_28 : decode cX3_count 28 = .ok (.aload_n 0, 1) := by decide +kernel
theorem dX3_count_29 : decode cX3_count 29 = .ok (.getfield 90, 3) := by decide +kernel
theorem dX3_count_32 : decode cX3_count 32 = .ok (.ireturn, 1) := by decide +kernel
theorem dX3_count_33 : decode cX3_count 33 = .ok (.aload_n 0, 1) := by decide +kernel
theorem dX3_count_34 : decode cX3_count 34 = .ok (.getfield 94, 3) := by decide +kernel
theorem dX3_count_37 : decode cX3_count 37 = .ok (.ireturn, 1) := by decide +kernel
theorem dX3_count_38 : decode cX3_count 38 = .ok (.aload_n 0, 1) := by decide +kernel
theorem dX3_count_39 : decode cX3_count 39 = .ok (.getfield 10, 3) := by decide +kernel
theorem dX3_count_42 : decode cX3_count 42 = .ok (.iload_n 1, 1) := by decide +kernel
theorem dX3_count_43 : decode cX3_count 43 = .ok (.invokevirtual 97, 3) := by decide +kernel
theorem dX3_count_46 : decode cX3_count 46 = .ok (.ireturn, 1) := by decide +kernel
theorem dX3_sure_0 : decode cX3_sure 0 = .ok (.aload_n 0, 1) := by decide +kernel
theorem dX3_sure_1 : decode cX3_sure 1 = .ok (.getfield 10, 3) := by decide +kernel
theorem dX3_sure_4 : decode cX3_sure 4 = .ok (.iload_n 1, 1) := by decide +kernel
theorem dX3_sure_5 : decode cX3_sure 5 = .ok (.invokevirtual 100, 3) := by decide +kernel
theorem dX3_sure_8 : decode cX3_sure 8 = .ok (.ireturn, 1) := by decide +kernel
theorem dX3_couldAsk_0 : decode cX3_couldAsk 0 = .ok (.aload_n 0, 1) := by decide +kernel
theorem dX3_couldAsk_1 : decode cX3_couldAsk 1 = .ok (.getfield 10, 3) := by decide +kernel
theorem dX3_couldAsk_4 : decode cX3_couldAsk 4 = .ok (.iload_n 1, 1) := by decide +kernel
theorem dX3_couldAsk_5 : decode cX3_couldAsk 5 = .ok (.invokevirtual 103, 3) := by decide +kernel
theorem dX3_couldAsk_8 : decode cX3_couldAsk 8 = .ok (.ireturn, 1) := by decide +kernel
theorem dX3_settledIn_0 : decode cX3_settledIn 0 = .ok (.aload_n 0, 1) := by decide +kernel
theorem dX3_settledIn_1 : decode cX3_settledIn 1 = .ok (.getfield 10, 3) := by decide +kernel
theorem dX3_settledIn_4 : decode cX3_settledIn 4 = .ok (.iload_n 1, 1) := by decide +kernel
theorem dX3_settledIn_5 : decode cX3_settledIn 5 = .ok (.invokevirtual 106, 3) := by decide +kernel
theorem dX3_settledIn_8 : decode cX3_settledIn 8 = .ok (.ifCond .ne 5, 3) := by decide +kernel
theorem dX3_settledIn_11 : decode cX3_settledIn 11 = .ok (.iconst (-1), 1) := by decide +kernel
theorem dX3_settledIn_12 : decode cX3_settledIn 12 = .ok (.ireturn, 1) := by decide +kernel
theorem dX3_settledIn_13 : decode cX3_settledIn 13 = .ok (.aload_n 0, 1) := by decide +kernel
theorem dX3_settledIn_14 : decode cX3_settledIn 14 = .ok (.getfield 16, 3) := by decide +kernel
theorem dX3_settledIn_17 : decode cX3_settledIn 17 = .ok (.aload_n 0, 1) := by decide +kernel
theorem dX3_settledIn_18 : decode cX3_settledIn 18 = .ok (.getfield 10, 3) := by decide +kernel
theorem dX3_settledIn_21 : decode cX3_settledIn 21 = .ok (.invokevirtual 110, 3) := by decide +kernel
theorem dX3_settledIn_24 : decode cX3_settledIn 24 = .ok (.aload_n 0, 1) := by decide +kernel
theorem dX3_settledIn_25 : decode cX3_settledIn 25 = .ok (.getfield 16, 3) := by decide +kernel
theorem dX3_settledIn_28 : decode cX3_settledIn 28 = .ok (.iload_n 1, 1) := by decide +kernel
theorem dX3_settledIn_29 : decode cX3_settledIn 29 = .ok (.invokevirtual 114, 3) := by decide +kernel
theorem dX3_settledIn_32 : decode cX3_settledIn 32 = .ok (.istore_n 2, 1) := by decide +kernel
theorem dX3_settledIn_33 : decode cX3_settledIn 33 = .ok (.iload_n 2, 1) := by decide +kernel
theorem dX3_settledIn_34 : decode cX3_settledIn 34 = .ok (.sipush 200, 3) := by decide +kernel
theorem dX3_settledIn_37 : decode cX3_settledIn 37 = .ok (.if_icmp .le 8, 3) := by decide +kernel
theorem dX3_settledIn_40 : decode cX3_settledIn 40 = .ok (.bipush (-6), 2) := by decide +kernel
theorem dX3_settledIn_42 : decode cX3_settledIn 42 = .ok (.goto 4, 3) := by decide +kernel
theorem dX3_settledIn_45 : decode cX3_settledIn 45 = .ok (.iload_n 2, 1) := by decide +kernel
theorem dX3_settledIn_46 : decode cX3_settledIn 46 = .ok (.ireturn, 1) := by decide +kernel
theorem dX3_underwayIn_0 : decode cX3_underwayIn 0 = .ok (.iload_n 1, 1) := by decide +kernel
theorem dX3_underwayIn_1 : decode cX3_underwayIn 1 = .ok (.iconst 1, 1) := by decide +kernel
theorem dX3_underwayIn_2 : decode cX3_underwayIn 2 = .ok (.if_icmp .lt 9, 3) := by decide +kernel
theorem dX3_underwayIn_5 : decode cX3_underwayIn 5 = .ok (.iload_n 1, 1) := by decide +kernel
theorem dX3_underwayIn_6 : decode cX3_underwayIn 6 = .ok (.bipush 50, 2) := by decide +kernel
theorem dX3_underwayIn_8 : decode cX3_underwayIn 8 = .ok (.if_icmp .le 6, 3) := by decide +kernel
theorem dX3_underwayIn_11 : decode cX3_underwayIn 11 = .ok (.bipush (-2), 2) := by decide +kernel
theorem dX3_underwayIn_13 : decode cX3_underwayIn 13 = .ok (.ireturn, 1) := by decide +kernel
theorem dX3_underwayIn_14 : decode cX3_underwayIn 14 = .ok (.aload_n 0, 1) := by decide +kernel
theorem dX3_underwayIn_15 : decode cX3_underwayIn 15 = .ok (.getfield 16, 3) := by decide +kernel
theorem dX3_underwayIn_18 : decode cX3_underwayIn 18 = .ok (.aload_n 0, 1) := by decide +kernel
theorem dX3_underwayIn_19 : decode cX3_underwayIn 19 = .ok (.getfield 10, 3) := by decide +kernel
theorem dX3_underwayIn_22 : decode cX3_underwayIn 22 = .ok (.invokevirtual 110, 3) := by decide +kernel
theorem dX3_underwayIn_25 : decode cX3_underwayIn 25 = .ok (.iconst 0, 1) := by decide +kernel
theorem dX3_underwayIn_26 : decode cX3_underwayIn 26 = .ok (.istore_n 2, 1) := by decide +kernel
theorem dX3_underwayIn_27 : decode cX3_underwayIn 27 = .ok (.iload_n 2, 1) := by decide +kernel
theorem dX3_underwayIn_28 : decode cX3_underwayIn 28 = .ok (.iload_n 1, 1) := by decide +kernel
theorem dX3_underwayIn_29 : decode cX3_underwayIn 29 = .ok (.if_icmp .ge 16, 3) := by decide +kernel
theorem dX3_underwayIn_32 : decode cX3_underwayIn 32 = .ok (.aload_n 0, 1) := by decide +kernel
theorem dX3_underwayIn_33 : decode cX3_underwayIn 33 = .ok (.getfield 16, 3) := by decide +kernel
theorem dX3_underwayIn_36 : decode cX3_underwayIn 36 = .ok (.invokevirtual 117, 3) := by decide +kernel
theorem dX3_underwayIn_39 : decode cX3_underwayIn 39 = .ok (.iinc 2 1, 3) := by decide +kernel
theorem dX3_underwayIn_42 : decode cX3_underwayIn 42 = .ok (.goto (-15), 3) := by decide +kernel
theorem dX3_underwayIn_45 : decode cX3_underwayIn 45 = .ok (.aload_n 0, 1) := by decide +kernel
theorem dX3_underwayIn_46 : decode cX3_underwayIn 46 = .ok (.getfield 16, 3) := by decide +kernel
theorem dX3_underwayIn_49 : decode cX3_underwayIn 49 = .ok (.getfield 78, 3) := by decide +kernel
theorem dX3_underwayIn_52 : decode cX3_underwayIn 52 = .ok (.getfield 120, 3) := by decide +kernel
theorem dX3_underwayIn_55 : decode cX3_underwayIn 55 = .ok (.ireturn, 1) := by decide +kernel
theorem dX3_worstLoss_0 : decode cX3_worstLoss 0 = .ok (.aload_n 0, 1) := by decide +kernel
theorem dX3_worstLoss_1 : decode cX3_worstLoss 1 = .ok (.getfield 10, 3) := by decide +kernel
theorem dX3_worstLoss_4 : decode cX3_worstLoss 4 = .ok (.iload_n 1, 1) := by decide +kernel
theorem dX3_worstLoss_5 : decode cX3_worstLoss 5 = .ok (.invokevirtual 106, 3) := by decide +kernel
theorem dX3_worstLoss_8 : decode cX3_worstLoss 8 = .ok (.ifCond .ne 5, 3) := by decide +kernel
theorem dX3_worstLoss_11 : decode cX3_worstLoss 11 = .ok (.iconst (-1), 1) := by decide +kernel
theorem dX3_worstLoss_12 : decode cX3_worstLoss 12 = .ok (.ireturn, 1) := by decide +kernel
theorem dX3_worstLoss_13 : decode cX3_worstLoss 13 = .ok (.iload_n 2, 1) := by decide +kernel
theorem dX3_worstLoss_14 : decode cX3_worstLoss 14 = .ok (.ifCond .eq 11, 3) := by decide +kernel
theorem dX3_worstLoss_17 : decode cX3_worstLoss 17 = .ok (.iload_n 2, 1) := by decide +kernel
theorem dX3_worstLoss_18 : decode cX3_worstLoss 18 = .ok (.iconst 1, 1) := by decide +kernel
theorem dX3_worstLoss_19 : decode cX3_worstLoss 19 = .ok (.if_icmp .eq 6, 3) := by decide +kernel
theorem dX3_worstLoss_22 : decode cX3_worstLoss 22 = .ok (.bipush (-2), 2) := by decide +kernel
theorem dX3_worstLoss_24 : decode cX3_worstLoss 24 = .ok (.ireturn, 1) := by decide +kernel
theorem dX3_worstLoss_25 : decode cX3_worstLoss 25 = .ok (.bipush (-6), 2) := by decide +kernel
theorem dX3_worstLoss_27 : decode cX3_worstLoss 27 = .ok (.istore_n 3, 1) := by decide +kernel
theorem dX3_worstLoss_28 : decode cX3_worstLoss 28 = .ok (.bipush (-6), 2) := by decide +kernel
theorem dX3_worstLoss_30 : decode cX3_worstLoss 30 = .ok (.istore 4, 2) := by decide +kernel
theorem dX3_worstLoss_32 : decode cX3_worstLoss 32 = .ok (.iconst 0, 1) := by decide +kernel
theorem dX3_worstLoss_33 : decode cX3_worstLoss 33 = .ok (.istore 5, 2) := by decide +kernel
theorem dX3_worstLoss_35 : decode cX3_worstLoss 35 = .ok (.iload 5, 2) := by decide +kernel
theorem dX3_worstLoss_37 : decode cX3_worstLoss 37 = .ok (.aload_n 0, 1) := by decide +kernel
theorem dX3_worstLoss_38 : decode cX3_worstLoss 38 = .ok (.getfield 10, 3) := by decide +kernel
theorem dX3_worstLoss_41 : decode cX3_worstLoss 41 = .ok (.getfield 78, 3) := by decide +kernel
theorem dX3_worstLoss_44 : decode cX3_worstLoss 44 = .ok (.getfield 120, 3) := by decide +kernel
theorem dX3_worstLoss_47 : decode cX3_worstLoss 47 = .ok (.if_icmp .ge 62, 3) := by decide +kernel
theorem dX3_worstLoss_50 : decode cX3_worstLoss 50 = .ok (.iload 4, 2) := by decide +kernel
theorem dX3_worstLoss_52 : decode cX3_worstLoss 52 = .ok (.sipush 200, 3) := by decide +kernel
theorem dX3_worstLoss_55 : decode cX3_worstLoss 55 = .ok (.if_icmp .gt 54, 3) := by decide +kernel
theorem dX3_worstLoss_58 : decode cX3_worstLoss 58 = .ok (.aload_n 0, 1) := by decide +kernel
theorem dX3_worstLoss_59 : decode cX3_worstLoss 59 = .ok (.getfield 16, 3) := by decide +kernel
theorem dX3_worstLoss_62 : decode cX3_worstLoss 62 = .ok (.aload_n 0, 1) := by decide +kernel
theorem dX3_worstLoss_63 : decode cX3_worstLoss 63 = .ok (.getfield 10, 3) := by decide +kernel
theorem dX3_worstLoss_66 : decode cX3_worstLoss 66 = .ok (.invokevirtual 110, 3) := by decide +kernel
theorem dX3_worstLoss_69 : decode cX3_worstLoss 69 = .ok (.aload_n 0, 1) := by decide +kernel
theorem dX3_worstLoss_70 : decode cX3_worstLoss 70 = .ok (.getfield 16, 3) := by decide +kernel
theorem dX3_worstLoss_73 : decode cX3_worstLoss 73 = .ok (.iload 5, 2) := by decide +kernel
theorem dX3_worstLoss_75 : decode cX3_worstLoss 75 = .ok (.invokevirtual 57, 3) := by decide +kernel
theorem dX3_worstLoss_78 : decode cX3_worstLoss 78 = .ok (.pop, 1) := by decide +kernel
theorem dX3_worstLoss_79 : decode cX3_worstLoss 79 = .ok (.aload_n 0, 1) := by decide +kernel
theorem dX3_worstLoss_80 : decode cX3_worstLoss 80 = .ok (.getfield 16, 3) := by decide +kernel
theorem dX3_worstLoss_83 : decode cX3_worstLoss 83 = .ok (.iload_n 1, 1) := by decide +kernel
theorem dX3_worstLoss_84 : decode cX3_worstLoss 84 = .ok (.invokevirtual 114, 3) := by decide +kernel
theorem dX3_worstLoss_87 : decode cX3_worstLoss 87 = .ok (.istore 6, 2) := by decide +kernel
theorem dX3_worstLoss_89 : decode cX3_worstLoss 89 = .ok (.iload 6, 2) := by decide +kernel
theorem dX3_worstLoss_91 : decode cX3_worstLoss 91 = .ok (.iload 4, 2) := by decide +kernel
theorem dX3_worstLoss_93 : decode cX3_worstLoss 93 = .ok (.if_icmp .le 10, 3) := by decide +kernel
theorem dX3_worstLoss_96 : decode cX3_worstLoss 96 = .ok (.iload 6, 2) := by decide +kernel
theorem dX3_worstLoss_98 : decode cX3_worstLoss 98 = .ok (.istore 4, 2) := by decide +kernel
theorem dX3_worstLoss_100 : decode cX3_worstLoss 100 = .ok (.iload 5, 2) := by decide +kernel
theorem dX3_worstLoss_102 : decode cX3_worstLoss 102 = .ok (.istore_n 3, 1) := by decide +kernel
theorem dX3_worstLoss_103 : decode cX3_worstLoss 103 = .ok (.iinc 5 1, 3) := by decide +kernel
theorem dX3_worstLoss_106 : decode cX3_worstLoss 106 = .ok (.goto (-71), 3) := by decide +kernel
theorem dX3_worstLoss_109 : decode cX3_worstLoss 109 = .ok (.iload_n 2, 1) := by decide +kernel
theorem dX3_worstLoss_110 : decode cX3_worstLoss 110 = .ok (.ifCond .ne 7, 3) := by decide +kernel
theorem dX3_worstLoss_113 : decode cX3_worstLoss 113 = .ok (.iload_n 3, 1) := by decide +kernel
theorem dX3_worstLoss_114 : decode cX3_worstLoss 114 = .ok (.goto 5, 3) := by decide +kernel
theorem dX3_worstLoss_117 : decode cX3_worstLoss 117 = .ok (.iload 4, 2) := by decide +kernel
theorem dX3_worstLoss_119 : decode cX3_worstLoss 119 = .ok (.ireturn, 1) := by decide +kernel
theorem dX3_put_0 : decode cX3_put 0 = .ok (.lload_n 1, 1) := by decide +kernel
theorem dX3_put_1 : decode cX3_put 1 = .ok (.invokestatic 123, 3) := by decide +kernel
theorem dX3_put_4 : decode cX3_put 4 = .ok (.istore_n 3, 1) := by decide +kernel
theorem dX3_put_5 : decode cX3_put 5 = .ok (.iload_n 3, 1) := by decide +kernel
theorem dX3_put_6 : decode cX3_put 6 = .ok (.ifCond .ne 6, 3) := by decide +kernel
theorem dX3_put_9 : decode cX3_put 9 = .ok (.bipush (-2), 2) := by decide +kernel
theorem dX3_put_11 : decode cX3_put 11 = .ok (.ireturn, 1) := by decide +kernel
theorem dX3_put_12 : decode cX3_put 12 = .ok (.aload_n 0, 1) := by decide +kernel
theorem dX3_put_13 : decode cX3_put 13 = .ok (.getfield 90, 3) := by decide +kernel
theorem dX3_put_16 : decode cX3_put 16 = .ok (.iload_n 3, 1) := by decide +kernel
theorem dX3_put_17 : decode cX3_put 17 = .ok (.iadd, 1) := by decide +kernel
theorem dX3_put_18 : decode cX3_put 18 = .ok (.bipush 60, 2) := by decide +kernel
theorem dX3_put_20 : decode cX3_put 20 = .ok (.if_icmp .le 6, 3) := by decide +kernel
theorem dX3_put_23 : decode cX3_put 23 = .ok (.bipush (-4), 2) := by decide +kernel
theorem dX3_put_25 : decode cX3_put 25 = .ok (.ireturn, 1) := by decide +kernel
theorem dX3_put_26 : decode cX3_put 26 = .ok (.aload_n 0, 1) := by decide +kernel
theorem dX3_put_27 : decode cX3_put 27 = .ok (.dup, 1) := by decide +kernel
theorem dX3_put_28 : decode cX3_put 28 = .ok (.getfield 90, 3) := by decide +kernel
theorem dX3_put_31 : decode cX3_put 31 = .ok (.iload_n 3, 1) := by decide +kernel
theorem dX3_put_32 : decode cX3_put 32 = .ok (.iadd, 1) := by decide +kernel
theorem dX3_put_33 : decode cX3_put 33 = .ok (.putfield 90, 3) := by decide +kernel
theorem dX3_put_36 : decode cX3_put 36 = .ok (.iconst 0, 1) := by decide +kernel
theorem dX3_put_37 : decode cX3_put 37 = .ok (.istore 4, 2) := by decide +kernel
theorem dX3_put_39 : decode cX3_put 39 = .ok (.iload 4, 2) := by decide +kernel
theorem dX3_put_41 : decode cX3_put 41 = .ok (.iload_n 3, 1) := by decide +kernel
theorem dX3_put_42 : decode cX3_put 42 = .ok (.if_icmp .ge 30, 3) := by decide +kernel
theorem dX3_put_45 : decode cX3_put 45 = .ok (.aload_n 0, 1) := by decide +kernel
theorem dX3_put_46 : decode cX3_put 46 = .ok (.getfield 26, 3) := by decide +kernel
theorem dX3_put_49 : decode cX3_put 49 = .ok (.aload_n 0, 1) := by decide +kernel
theorem dX3_put_50 : decode cX3_put 50 = .ok (.getfield 90, 3) := by decide +kernel
theorem dX3_put_53 : decode cX3_put 53 = .ok (.iconst 1, 1) := by decide +kernel
theorem dX3_put_54 : decode cX3_put 54 = .ok (.isub, 1) := by decide +kernel
theorem dX3_put_55 : decode cX3_put 55 = .ok (.iload 4, 2) := by decide +kernel
theorem dX3_put_57 : decode cX3_put 57 = .ok (.isub, 1) := by decide +kernel
theorem dX3_put_58 : decode cX3_put 58 = .ok (.lload_n 1, 1) := by decide +kernel
theorem dX3_put_59 : decode cX3_put 59 = .ok (.iload 4, 2) := by decide +kernel
theorem dX3_put_61 : decode cX3_put 61 = .ok (.invokestatic 127, 3) := by decide +kernel
theorem dX3_put_64 : decode cX3_put 64 = .ok (.i2c, 1) := by decide +kernel
theorem dX3_put_65 : decode cX3_put 65 = .ok (.castore, 1) := by decide +kernel
theorem dX3_put_66 : decode cX3_put 66 = .ok (.iinc 4 1, 3) := by decide +kernel
theorem dX3_put_69 : decode cX3_put 69 = .ok (.goto (-30), 3) := by decide +kernel
theorem dX3_put_72 : decode cX3_put 72 = .ok (.aload_n 0, 1) := by decide +kernel
theorem dX3_put_73 : decode cX3_put 73 = .ok (.getfield 90, 3) := by decide +kernel
theorem dX3_put_76 : decode cX3_put 76 = .ok (.ireturn, 1) := by decide +kernel
theorem dX3_wipe_0 : decode cX3_wipe 0 = .ok (.aload_n 0, 1) := by decide +kernel
theorem dX3_wipe_1 : decode cX3_wipe 1 = .ok (.getfield 90, 3) := by decide +kernel
theorem dX3_wipe_4 : decode cX3_wipe 4 = .ok (.istore_n 1, 1) := by decide +kernel
theorem dX3_wipe_5 : decode cX3_wipe 5 = .ok (.aload_n 0, 1) := by decide +kernel
theorem dX3_wipe_6 : decode cX3_wipe 6 = .ok (.iconst 0, 1) := by decide +kernel
theorem dX3_wipe_7 : decode cX3_wipe 7 = .ok (.putfield 90, 3) := by decide +kernel
theorem dX3_wipe_10 : decode cX3_wipe 10 = .ok (.iload_n 1, 1) := by decide +kernel
theorem dX3_wipe_11 : decode cX3_wipe 11 = .ok (.ireturn, 1) := by decide +kernel
theorem dX3_fault_0 : decode cX3_fault 0 = .ok (.aload_n 0, 1) := by decide +kernel
theorem dX3_fault_1 : decode cX3_fault 1 = .ok (.invokevirtual 131, 3) := by decide +kernel
theorem dX3_fault_4 : decode cX3_fault 4 = .ok (.ireturn, 1) := by decide +kernel
theorem dX3_carryOut_0 : decode cX3_carryOut 0 = .ok (.aload_n 0, 1) := by decide +kernel
theorem dX3_carryOut_1 : decode cX3_carryOut 1 = .ok (.invokevirtual 131, 3) := by decide +kernel
theorem dX3_carryOut_4 : decode cX3_carryOut 4 = .ok (.bipush (-6), 2) := by decide +kernel
theorem dX3_carryOut_6 : decode cX3_carryOut 6 = .ok (.if_icmp .eq 6, 3) := by decide +kernel
theorem dX3_carryOut_9 : decode cX3_carryOut 9 = .ok (.bipush (-3), 2) := by decide +kernel
theorem dX3_carryOut_11 : decode cX3_carryOut 11 = .ok (.ireturn, 1) := by decide +kernel
theorem dX3_carryOut_12 : decode cX3_carryOut 12 = .ok (.aload_n 0, 1) := by decide +kernel
theorem dX3_carryOut_13 : decode cX3_carryOut 13 = .ok (.invokevirtual 37, 3) := by decide +kernel
theorem dX3_carryOut_16 : decode cX3_carryOut 16 = .ok (.aload_n 0, 1) := by decide +kernel
theorem dX3_carryOut_17 : decode cX3_carryOut 17 = .ok (.invokevirtual 135, 3) := by decide +kernel
theorem dX3_carryOut_20 : decode cX3_carryOut 20 = .ok (.istore_n 1, 1) := by decide +kernel
theorem dX3_carryOut_21 : decode cX3_carryOut 21 = .ok (.aload_n 0, 1) := by decide +kernel
theorem dX3_carryOut_22 : decode cX3_carryOut 22 = .ok (.iconst 0, 1) := by decide +kernel
theorem dX3_carryOut_23 : decode cX3_carryOut 23 = .ok (.putfield 90, 3) := by decide +kernel
theorem dX3_carryOut_26 : decode cX3_carryOut 26 = .ok (.aload_n 0, 1) := by decide +kernel
theorem dX3_carryOut_27 : decode cX3_carryOut 27 = .ok (.iload_n 1, 1) := by decide +kernel
theorem dX3_carryOut_28 : decode cX3_carryOut 28 = .ok (.invokevirtual 44, 3) := by decide +kernel
theorem dX3_carryOut_31 : decode cX3_carryOut 31 = .ok (.ireturn, 1) := by decide +kernel
theorem dX3_undo_0 : decode cX3_undo 0 = .ok (.aload_n 0, 1) := by decide +kernel
theorem dX3_undo_1 : decode cX3_undo 1 = .ok (.getfield 94, 3) := by decide +kernel
theorem dX3_undo_4 : decode cX3_undo 4 = .ok (.ifCond .ne 6, 3) := by decide +kernel
theorem dX3_undo_7 : decode cX3_undo 7 = .ok (.bipush (-5), 2) := by decide +kernel
theorem dX3_undo_9 : decode cX3_undo 9 = .ok (.ireturn, 1) := by decide +kernel
theorem dX3_undo_10 : decode cX3_undo 10 = .ok (.aload_n 0, 1) := by decide +kernel
theorem dX3_undo_11 : decode cX3_undo 11 = .ok (.aload_n 0, 1) := by decide +kernel
theorem dX3_undo_12 : decode cX3_undo 12 = .ok (.getfield 138, 3) := by decide +kernel
theorem dX3_undo_15 : decode cX3_undo 15 = .ok (.ifCond .ne 8, 3) := by decide +kernel
theorem dX3_undo_18 : decode cX3_undo 18 = .ok (.bipush 6, 2) := by decide +kernel
theorem dX3_undo_20 : decode cX3_undo 20 = .ok (.goto 9, 3) := by decide +kernel
theorem dX3_undo_23 : decode cX3_undo 23 = .ok (.aload_n 0, 1) := by decide +kernel
theorem dX3_undo_24 : decode cX3_undo 24 = .ok (.getfield 138, 3) := by decide +kernel
theorem dX3_undo_27 : decode cX3_undo 27 = .ok (.iconst 1, 1) := by decide +kernel
theorem dX3_undo_28 : decode cX3_undo 28 = .ok (.isub, 1) := by decide +kernel
theorem dX3_undo_29 : decode cX3_undo 29 = .ok (.putfield 138, 3) := by decide +kernel
theorem dX3_undo_32 : decode cX3_undo 32 = .ok (.aload_n 0, 1) := by decide +kernel
theorem dX3_undo_33 : decode cX3_undo 33 = .ok (.getfield 10, 3) := by decide +kernel
theorem dX3_undo_36 : decode cX3_undo 36 = .ok (.aload_n 0, 1) := by decide +kernel
theorem dX3_undo_37 : decode cX3_undo 37 = .ok (.getfield 19, 3) := by decide +kernel
theorem dX3_undo_40 : decode cX3_undo 40 = .ok (.aload_n 0, 1) := by decide +kernel
theorem dX3_undo_41 : decode cX3_undo 41 = .ok (.getfield 138, 3) := by decide +kernel
theorem dX3_undo_44 : decode cX3_undo 44 = .ok (.aaload, 1) := by decide +kernel
theorem dX3_undo_45 : decode cX3_undo 45 = .ok (.invokevirtual 110, 3) := by decide +kernel
theorem dX3_undo_48 : decode cX3_undo 48 = .ok (.aload_n 0, 1) := by decide +kernel
theorem dX3_undo_49 : decode cX3_undo 49 = .ok (.dup, 1) := by decide +kernel
theorem dX3_undo_50 : decode cX3_undo 50 = .ok (.getfield 94, 3) := by decide +kernel
theorem dX3_undo_53 : decode cX3_undo 53 = .ok (.iconst 1, 1) := by decide +kernel
theorem dX3_undo_54 : decode cX3_undo 54 = .ok (.isub, 1) := by decide +kernel
theorem dX3_undo_55 : decode cX3_undo 55 = .ok (.putfield 94, 3) := by decide +kernel
theorem dX3_undo_58 : decode cX3_undo 58 = .ok (.aload_n 0, 1) := by decide +kernel
theorem dX3_undo_59 : decode cX3_undo 59 = .ok (.getfield 94, 3) := by decide +kernel
theorem dX3_undo_62 : decode cX3_undo 62 = .ok (.ireturn, 1) := by decide +kernel
theorem dX3_save_0 : decode cX3_save 0 = .ok (.iload_n 1, 1) := by decide +kernel
theorem dX3_save_1 : decode cX3_save 1 = .ok (.ifCond .lt 8, 3) := by decide +kernel
theorem dX3_save_4 : decode cX3_save 4 = .ok (.iload_n 1, 1) := by decide +kernel
theorem dX3_save_5 : decode cX3_save 5 = .ok (.iconst 2, 1) := by decide +kernel
theorem dX3_save_6 : decode cX3_save 6 = .ok (.if_icmp .lt 6, 3) := by decide +kernel
theorem dX3_save_9 : decode cX3_save 9 = .ok (.bipush (-2), 2) := by decide +kernel
theorem dX3_save_11 : decode cX3_save 11 = .ok (.ireturn, 1) := by decide +kernel
theorem dX3_save_12 : decode cX3_save 12 = .ok (.aload_n 0, 1) := by decide +kernel
theorem dX3_save_13 : decode cX3_save 13 = .ok (.getfield 23, 3) := by decide +kernel
theorem dX3_save_16 : decode cX3_save 16 = .ok (.iload_n 1, 1) := by decide +kernel
theorem dX3_save_17 : decode cX3_save 17 = .ok (.aaload, 1) := by decide +kernel
theorem dX3_save_18 : decode cX3_save 18 = .ok (.aload_n 0, 1) := by decide +kernel
theorem dX3_save_19 : decode cX3_save 19 = .ok (.getfield 10, 3) := by decide +kernel
theorem dX3_save_22 : decode cX3_save 22 = .ok (.invokevirtual 110, 3) := by decide +kernel
theorem dX3_save_25 : decode cX3_save 25 = .ok (.aload_n 0, 1) := by decide +kernel
theorem dX3_save_26 : decode cX3_save 26 = .ok (.dup, 1) := by decide +kernel
theorem dX3_save_27 : decode cX3_save 27 = .ok (.getfield 141, 3) := by decide +kernel
theorem dX3_save_30 : decode cX3_save 30 = .ok (.iconst 1, 1) := by decide +kernel
theorem dX3_save_31 : decode cX3_save 31 = .ok (.iload_n 1, 1) := by decide +kernel
theorem dX3_save_32 : decode cX3_save 32 = .ok (.ishl, 1) := by decide +kernel
theorem dX3_save_33 : decode cX3_save 33 = .ok (.ior, 1) := by decide +kernel
theorem dX3_save_34 : decode cX3_save 34 = .ok (.putfield 141, 3) := by decide +kernel
theorem dX3_save_37 : decode cX3_save 37 = .ok (.aload_n 0, 1) := by decide +kernel
theorem dX3_save_38 : decode cX3_save 38 = .ok (.getfield 10, 3) := by decide +kernel
theorem dX3_save_41 : decode cX3_save 41 = .ok (.getfield 144, 3) := by decide +kernel
theorem dX3_save_44 : decode cX3_save 44 = .ok (.ireturn, 1) := by decide +kernel
theorem dX3_restore_0 : decode cX3_restore 0 = .ok (.iload_n 1, 1) := by decide +kernel
theorem dX3_restore_1 : decode cX3_restore 1 = .ok (.ifCond .lt 8, 3) := by decide +kernel
theorem dX3_restore_4 : decode cX3_restore 4 = .ok (.iload_n 1, 1) := by decide +kernel
theorem dX3_restore_5 : decode cX3_restore 5 = .ok (.iconst 2, 1) := by decide +kernel
theorem dX3_restore_6 : decode cX3_restore 6 = .ok (.if_icmp .lt 6, 3) := by decide +kernel
theorem dX3_restore_9 : decode cX3_restore 9 = .ok (.bipush (-2), 2) := by decide +kernel
theorem dX3_restore_11 : decode cX3_restore 11 = .ok (.ireturn, 1) := by decide +kernel
theorem dX3_restore_12 : decode cX3_restore 12 = .ok (.aload_n 0, 1) := by decide +kernel
theorem dX3_restore_13 : decode cX3_restore 13 = .ok (.getfield 141, 3) := by decide +kernel
theorem dX3_restore_16 : decode cX3_restore 16 = .ok (.iload_n 1, 1) := by decide +kernel
theorem dX3_restore_17 : decode cX3_restore 17 = .ok (.invokestatic 147, 3) := by decide +kernel
theorem dX3_restore_20 : decode cX3_restore 20 = .ok (.ifCond .ne 6, 3) := by decide +kernel
theorem dX3_restore_23 : decode cX3_restore 23 = .ok (.bipush (-5), 2) := by decide +kernel
theorem dX3_restore_25 : decode cX3_restore 25 = .ok (.ireturn, 1) := by decide +kernel
theorem dX3_restore_26 : decode cX3_restore 26 = .ok (.aload_n 0, 1) := by decide +kernel
theorem dX3_restore_27 : decode cX3_restore 27 = .ok (.invokevirtual 37, 3) := by decide +kernel
theorem dX3_restore_30 : decode cX3_restore 30 = .ok (.aload_n 0, 1) := by decide +kernel
theorem dX3_restore_31 : decode cX3_restore 31 = .ok (.getfield 10, 3) := by decide +kernel
theorem dX3_restore_34 : decode cX3_restore 34 = .ok (.aload_n 0, 1) := by decide +kernel
theorem dX3_restore_35 : decode cX3_restore 35 = .ok (.getfield 23, 3) := by decide +kernel
theorem dX3_restore_38 : decode cX3_restore 38 = .ok (.iload_n 1, 1) := by decide +kernel
theorem dX3_restore_39 : decode cX3_restore 39 = .ok (.aaload, 1) := by decide +kernel
theorem dX3_restore_40 : decode cX3_restore 40 = .ok (.invokevirtual 110, 3) := by decide +kernel
theorem dX3_restore_43 : decode cX3_restore 43 = .ok (.aload_n 0, 1) := by decide +kernel
theorem dX3_restore_44 : decode cX3_restore 44 = .ok (.aload_n 0, 1) := by decide +kernel
theorem dX3_restore_45 : decode cX3_restore 45 = .ok (.getfield 10, 3) := by decide +kernel
theorem dX3_restore_48 : decode cX3_restore 48 = .ok (.getfield 144, 3) := by decide +kernel
theorem dX3_restore_51 : decode cX3_restore 51 = .ok (.invokevirtual 44, 3) := by decide +kernel
theorem dX3_restore_54 : decode cX3_restore 54 = .ok (.ireturn, 1) := by decide +kernel
theorem dX3_noteStateBefore_0 : decode cX3_noteStateBefore 0 = .ok (.aload_n 0, 1) := by decide +kernel
theorem dX3_noteStateBefore_1 : decode cX3_noteStateBefore 1 = .ok (.getfield 19, 3) := by decide +kernel
theorem dX3_noteStateBefore_4 : decode cX3_noteStateBefore 4 = .ok (.aload_n 0, 1) := by decide +kernel
theorem dX3_noteStateBefore_5 : decode cX3_noteStateBefore 5 = .ok (.getfield 138, 3) := by decide +kernel
theorem dX3_noteStateBefore_8 : decode cX3_noteStateBefore 8 = .ok (.aaload, 1) := by decide +kernel
theorem dX3_noteStateBefore_9 : decode cX3_noteStateBefore 9 = .ok (.aload_n 0, 1) := by decide +kernel
theorem dX3_noteStateBefore_10 : decode cX3_noteStateBefore 10 = .ok (.getfield 10, 3) := by decide +kernel
theorem dX3_noteStateBefore_13 : decode cX3_noteStateBefore 13 = .ok (.invokevirtual 110, 3) := by decide +kernel
theorem dX3_noteStateBefore_16 : decode cX3_noteStateBefore 16 = .ok (.return_, 1) := by decide +kernel
theorem dX3_recorded_0 : decode cX3_recorded 0 = .ok (.iload_n 1, 1) := by decide +kernel
theorem dX3_recorded_1 : decode cX3_recorded 1 = .ok (.ifCond .lt 41, 3) := by decide +kernel
theorem dX3_recorded_4 : decode cX3_recorded 4 = .ok (.aload_n 0, 1) := by decide +kernel
theorem dX3_recorded_5 : decode cX3_recorded 5 = .ok (.aload_n 0, 1) := by decide +kernel
theorem dX3_recorded_6 : decode cX3_recorded 6 = .ok (.getfield 138, 3) := by decide +kernel
theorem dX3_recorded_9 : decode cX3_recorded 9 = .ok (.bipush 6, 2) := by decide +kernel
theorem dX3_recorded_11 : decode cX3_recorded 11 = .ok (.if_icmp .ne 7, 3) := by decide +kernel
theorem dX3_recorded_14 : decode cX3_recorded 14 = .ok (.iconst 0, 1) := by decide +kernel
theorem dX3_recorded_15 : decode cX3_recorded 15 = .ok (.goto 9, 3) := by decide +kernel
theorem dX3_recorded_18 : decode cX3_recorded 18 = .ok (.aload_n 0, 1) := by decide +kernel
theorem dX3_recorded_19 : decode cX3_recorded 19 = .ok (.getfield 138, 3) := by decide +kernel
theorem dX3_recorded_22 : decode cX3_recorded 22 = .ok (.iconst 1, 1) := by decide +kernel
theorem dX3_recorded_23 : decode cX3_recorded 23 = .ok (.iadd, 1) := by decide +kernel
theorem dX3_recorded_24 : decode cX3_recorded 24 = .ok (.putfield 138, 3) := by decide +kernel
theorem dX3_recorded_27 : decode cX3_recorded 27 = .ok (.aload_n 0, 1) := by decide +kernel
theorem dX3_recorded_28 : decode cX3_recorded 28 = .ok (.aload_n 0, 1) := by decide +kernel
theorem dX3_recorded_29 : decode cX3_recorded 29 = .ok (.getfield 94, 3) := by decide +kernel
theorem dX3_recorded_32 : decode cX3_recorded 32 = .ok (.iconst 1, 1) := by decide +kernel
theorem dX3_recorded_33 : decode cX3_recorded 33 = .ok (.iadd, 1) := by decide +kernel
theorem dX3_recorded_34 : decode cX3_recorded 34 = .ok (.bipush 6, 2) := by decide +kernel
theorem dX3_recorded_36 : decode cX3_recorded 36 = .ok (.invokestatic 151, 3) := by decide +kernel
theorem dX3_recorded_39 : decode cX3_recorded 39 = .ok (.putfield 94, 3) := by decide +kernel
theorem dX3_recorded_42 : decode cX3_recorded 42 = .ok (.iload_n 1, 1) := by decide +kernel
theorem dX3_recorded_43 : decode cX3_recorded 43 = .ok (.ireturn, 1) := by decide +kernel
theorem dX3_isIn_0 : decode cX3_isIn 0 = .ok (.iload_n 0, 1) := by decide +kernel
theorem dX3_isIn_1 : decode cX3_isIn 1 = .ok (.iload_n 1, 1) := by decide +kernel
theorem dX3_isIn_2 : decode cX3_isIn 2 = .ok (.ishr, 1) := by decide +kernel
theorem dX3_isIn_3 : decode cX3_isIn 3 = .ok (.iconst 1, 1) := by decide +kernel
theorem dX3_isIn_4 : decode cX3_isIn 4 = .ok (.iand, 1) := by decide +kernel
theorem dX3_isIn_5 : decode cX3_isIn 5 = .ok (.iconst 1, 1) := by decide +kernel
theorem dX3_isIn_6 : decode cX3_isIn 6 = .ok (.if_icmp .ne 7, 3) := by decide +kernel
theorem dX3_isIn_9 : decode cX3_isIn 9 = .ok (.iconst 1, 1) := by decide +kernel
theorem dX3_isIn_10 : decode cX3_isIn 10 = .ok (.goto 4, 3) := by decide +kernel
theorem dX3_isIn_13 : decode cX3_isIn 13 = .ok (.iconst 0, 1) := by decide +kernel
theorem dX3_isIn_14 : decode cX3_isIn 14 = .ok (.ireturn, 1) := by decide +kernel
theorem dX3_codeAt_0 : decode cX3_codeAt 0 = .ok (.lload_n 0, 1) := by decide +kernel
theorem dX3_codeAt_1 : decode cX3_codeAt 1 = .ok (.bipush 8, 2) := by decide +kernel
theorem dX3_codeAt_3 : decode cX3_codeAt 3 = .ok (.iload_n 2, 1) := by decide +kernel
theorem dX3_codeAt_4 : decode cX3_codeAt 4 = .ok (.imul, 1) := by decide +kernel
theorem dX3_codeAt_5 : decode cX3_codeAt 5 = .ok (.lushr, 1) := by decide +kernel
theorem dX3_codeAt_6 : decode cX3_codeAt 6 = .ok (.ldc2_w 156, 3) := by decide +kernel
theorem dX3_codeAt_9 : decode cX3_codeAt 9 = .ok (.land, 1) := by decide +kernel
theorem dX3_codeAt_10 : decode cX3_codeAt 10 = .ok (.l2i, 1) := by decide +kernel
theorem dX3_codeAt_11 : decode cX3_codeAt 11 = .ok (.ireturn, 1) := by decide +kernel
theorem dX3_charactersIn_0 : decode cX3_charactersIn 0 = .ok (.iconst 0, 1) := by decide +kernel
theorem dX3_charactersIn_1 : decode cX3_charactersIn 1 = .ok (.istore_n 2, 1) := by decide +kernel
theorem dX3_charactersIn_2 : decode cX3_charactersIn 2 = .ok (.iload_n 2, 1) := by decide +kernel
theorem dX3_charactersIn_3 : decode cX3_charactersIn 3 = .ok (.bipush 8, 2) := by decide +kernel
theorem dX3_charactersIn_5 : decode cX3_charactersIn 5 = .ok (.if_icmp .ge 50, 3) := by decide +kernel
theorem dX3_charactersIn_8 : decode cX3_charactersIn 8 = .ok (.lload_n 0, 1) := by decide +kernel
theorem dX3_charactersIn_9 : decode cX3_charactersIn 9 = .ok (.iload_n 2, 1) := by decide +kernel
theorem dX3_charactersIn_10 : decode cX3_charactersIn 10 = .ok (.invokestatic 127, 3) := by decide +kernel
theorem dX3_charactersIn_13 : decode cX3_charactersIn 13 = .ok (.istore_n 3, 1) := by decide +kernel
theorem dX3_charactersIn_14 : decode cX3_charactersIn 14 = .ok (.iload_n 3, 1) := by decide +kernel
theorem dX3_charactersIn_15 : decode cX3_charactersIn 15 = .ok (.ifCond .ne 20, 3) := by decide +kernel
theorem dX3_charactersIn_18 : decode cX3_charactersIn 18 = .ok (.lload_n 0, 1) := by decide +kernel
theorem dX3_charactersIn_19 : decode cX3_charactersIn 19 = .ok (.bipush 8, 2) := by decide +kernel
theorem dX3_charactersIn_21 : decode cX3_charactersIn 21 = .ok (.iload_n 2, 1) := by decide +kernel
theorem dX3_charactersIn_22 : decode cX3_charactersIn 22 = .ok (.imul, 1) := by decide +kernel
theorem dX3_charactersIn_23 : decode cX3_charactersIn 23 = .ok (.lushr, 1) := by decide +kernel
theorem dX3_charactersIn_24 : decode cX3_charactersIn 24 = .ok (.lconst 0, 1) := by decide +kernel
theorem dX3_charactersIn_25 : decode cX3_charactersIn 25 = .ok (.lcmp, 1) := by decide +kernel
theorem dX3_charactersIn_26 : decode cX3_charactersIn 26 = .ok (.ifCond .ne 7, 3) := by decide +kernel
theorem dX3_charactersIn_29 : decode cX3_charactersIn 29 = .ok (.iload_n 2, 1) := by decide +kernel
theorem dX3_charactersIn_30 : decode cX3_charactersIn 30 = .ok (.goto 4, 3) := by decide +kernel
theorem dX3_charactersIn_33 : decode cX3_charactersIn 33 = .ok (.iconst 0, 1) := by decide +kernel
theorem dX3_charactersIn_34 : decode cX3_charactersIn 34 = .ok (.ireturn, 1) := by decide +kernel
theorem dX3_charactersIn_35 : decode cX3_charactersIn 35 = .ok (.iload_n 3, 1) := by decide +kernel
theorem dX3_charactersIn_36 : decode cX3_charactersIn 36 = .ok (.bipush 33, 2) := by decide +kernel
theorem dX3_charactersIn_38 : decode cX3_charactersIn 38 = .ok (.if_icmp .lt 9, 3) := by decide +kernel
theorem dX3_charactersIn_41 : decode cX3_charactersIn 41 = .ok (.iload_n 3, 1) := by decide +kernel
theorem dX3_charactersIn_42 : decode cX3_charactersIn 42 = .ok (.bipush 126, 2) := by decide +kernel
theorem dX3_charactersIn_44 : decode cX3_charactersIn 44 = .ok (.if_icmp .le 5, 3) := by decide +kernel
theorem dX3_charactersIn_47 : decode cX3_charactersIn 47 = .ok (.iconst 0, 1) := by decide +kernel
theorem dX3_charactersIn_48 : decode cX3_charactersIn 48 = .ok (.ireturn, 1) := by decide +kernel
theorem dX3_charactersIn_49 : decode cX3_charactersIn 49 = .ok (.iinc 2 1, 3) := by decide +kernel
theorem dX3_charactersIn_52 : decode cX3_charactersIn 52 = .ok (.goto (-50), 3) := by decide +kernel
theorem dX3_charactersIn_55 : decode cX3_charactersIn 55 = .ok (.bipush 8, 2) := by decide +kernel
theorem dX3_charactersIn_57 : decode cX3_charactersIn 57 = .ok (.ireturn, 1) := by decide +kernel
theorem dX3_faultOfPad_0 : decode cX3_faultOfPad 0 = .ok (.aload_n 0, 1) := by decide +kernel
theorem dX3_faultOfPad_1 : decode cX3_faultOfPad 1 = .ok (.getfield 33, 3) := by decide +kernel
theorem dX3_faultOfPad_4 : decode cX3_faultOfPad 4 = .ok (.invokevirtual 158, 3) := by decide +kernel
theorem dX3_faultOfPad_7 : decode cX3_faultOfPad 7 = .ok (.iconst 0, 1) := by decide +kernel
theorem dX3_faultOfPad_8 : decode cX3_faultOfPad 8 = .ok (.istore_n 1, 1) := by decide +kernel
theorem dX3_faultOfPad_9 : decode cX3_faultOfPad 9 = .ok (.iload_n 1, 1) := by decide +kernel
theorem dX3_faultOfPad_10 : decode cX3_faultOfPad 10 = .ok (.aload_n 0, 1) := by decide +kernel
theorem dX3_faultOfPad_11 : decode cX3_faultOfPad 11 = .ok (.getfield 90, 3) := by decide +kernel
theorem dX3_faultOfPad_14 : decode cX3_faultOfPad 14 = .ok (.if_icmp .ge 27, 3) := by decide +kernel
theorem dX3_faultOfPad_17 : decode cX3_faultOfPad 17 = .ok (.aload_n 0, 1) := by decide +kernel
theorem dX3_faultOfPad_18 : decode cX3_faultOfPad 18 = .ok (.getfield 33, 3) := by decide +kernel
theorem dX3_faultOfPad_21 : decode cX3_faultOfPad 21 = .ok (.aload_n 0, 1) := by decide +kernel
theorem dX3_faultOfPad_22 : decode cX3_faultOfPad 22 = .ok (.getfield 26, 3) := by decide +kernel
theorem dX3_faultOfPad_25 : decode cX3_faultOfPad 25 = .ok (.iload_n 1, 1) := by decide +kernel
theorem dX3_faultOfPad_26 : decode cX3_faultOfPad 26 = .ok (.caload, 1) := by decide +kernel
theorem dX3_faultOfPad_27 : decode cX3_faultOfPad 27 = .ok (.invokevirtual 161, 3) := by decide +kernel
theorem dX3_faultOfPad_30 : decode cX3_faultOfPad 30 = .ok (.ifCond .ne 5, 3) := by decide +kernel
theorem dX3_faultOfPad_33 : decode cX3_faultOfPad 33 = .ok (.iload_n 1, 1) := by decide +kernel
theorem dX3_faultOfPad_34 : decode cX3_faultOfPad 34 = .ok (.ireturn, 1) := by decide +kernel
theorem dX3_faultOfPad_35 : decode cX3_faultOfPad 35 = .ok (.iinc 1 1, 3) := by decide +kernel
theorem dX3_faultOfPad_38 : decode cX3_faultOfPad 38 = .ok (.goto (-29), 3) := by decide +kernel
theorem dX3_faultOfPad_41 : decode cX3_faultOfPad 41 = .ok (.aload_n 0, 1) := by decide +kernel
theorem dX3_faultOfPad_42 : decode cX3_faultOfPad 42 = .ok (.getfield 33, 3) := by decide +kernel
theorem dX3_faultOfPad_45 : decode cX3_faultOfPad 45 = .ok (.invokevirtual 164, 3) := by decide +kernel
theorem dX3_faultOfPad_48 : decode cX3_faultOfPad 48 = .ok (.ifCond .eq 8, 3) := by decide +kernel
theorem dX3_faultOfPad_51 : decode cX3_faultOfPad 51 = .ok (.bipush (-6), 2) := by decide +kernel
theorem dX3_faultOfPad_53 : decode cX3_faultOfPad 53 = .ok (.goto 7, 3) := by decide +kernel
theorem dX3_faultOfPad_56 : decode cX3_faultOfPad 56 = .ok (.aload_n 0, 1) := by decide +kernel
theorem dX3_faultOfPad_57 : decode cX3_faultOfPad 57 = .ok (.getfield 90, 3) := by decide +kernel
theorem dX3_faultOfPad_60 : decode cX3_faultOfPad 60 = .ok (.ireturn, 1) := by decide +kernel
theorem dX3_carryOutOrders_0 : decode cX3_carryOutOrders 0 = .ok (.iconst 0, 1) := by decide +kernel
theorem dX3_carryOutOrders_1 : decode cX3_carryOutOrders 1 = .ok (.istore_n 1, 1) := by decide +kernel
theorem dX3_carryOutOrders_2 : decode cX3_carryOutOrders 2 = .ok (.aload_n 0, 1) := by decide +kernel
theorem dX3_carryOutOrders_3 : decode cX3_carryOutOrders 3 = .ok (.getfield 33, 3) := by decide +kernel
theorem dX3_carryOutOrders_6 : decode cX3_carryOutOrders 6 = .ok (.invokevirtual 158, 3) := by decide +kernel
theorem dX3_carryOutOrders_9 : decode cX3_carryOutOrders 9 = .ok (.iconst 0, 1) := by decide +kernel
theorem dX3_carryOutOrders_10 : decode cX3_carryOutOrders 10 = .ok (.istore_n 2, 1) := by decide +kernel
theorem dX3_carryOutOrders_11 : decode cX3_carryOutOrders 11 = .ok (.iload_n 2, 1) := by decide +kernel
theorem dX3_carryOutOrders_12 : decode cX3_carryOutOrders 12 = .ok (.aload_n 0, 1) := by decide +kernel
theorem dX3_carryOutOrders_13 : decode cX3_carryOutOrders 13 = .ok (.getfield 90, 3) := by decide +kernel
theorem dX3_carryOutOrders_16 : decode cX3_carryOutOrders 16 = .ok (.if_icmp .gt 72, 3) := by decide +kernel
theorem dX3_carryOutOrders_19 : decode cX3_carryOutOrders 19 = .ok (.iload_n 2, 1) := by decide +kernel
theorem dX3_carryOutOrders_20 : decode cX3_carryOutOrders 20 = .ok (.aload_n 0, 1) := by decide +kernel
theorem dX3_carryOutOrders_21 : decode cX3_carryOutOrders 21 = .ok (.getfield 90, 3) := by decide +kernel
theorem dX3_carryOutOrders_24 : decode cX3_carryOutOrders 24 = .ok (.if_icmp .eq 14, 3) := by decide +kernel
theorem dX3_carryOutOrders_27 : decode cX3_carryOutOrders 27 = .ok (.aload_n 0, 1) := by decide +kernel
theorem dX3_carryOutOrders_28 : decode cX3_carryOutOrders 28 = .ok (.getfield 26, 3) := by decide +kernel
theorem dX3_carryOutOrders_31 : decode cX3_carryOutOrders 31 = .ok (.iload_n 2, 1) := by decide +kernel
theorem dX3_carryOutOrders_32 : decode cX3_carryOutOrders 32 = .ok (.caload, 1) := by decide +kernel
theorem dX3_carryOutOrders_33 : decode cX3_carryOutOrders 33 = .ok (.bipush 59, 2) := by decide +kernel
theorem dX3_carryOutOrders_35 : decode cX3_carryOutOrders 35 = .ok (.if_icmp .ne 7, 3) := by decide +kernel
theorem dX3_carryOutOrders_38 : decode cX3_carryOutOrders 38 = .ok (.iconst 1, 1) := by decide +kernel
theorem dX3_carryOutOrders_39 : decode cX3_carryOutOrders 39 = .ok (.goto 4, 3) := by decide +kernel
theorem dX3_carryOutOrders_42 : decode cX3_carryOutOrders 42 = .ok (.iconst 0, 1) := by decide +kernel
theorem dX3_carryOutOrders_43 : decode cX3_carryOutOrders 43 = .ok (.istore_n 3, 1) := by decide +kernel
theorem dX3_carryOutOrders_44 : decode cX3_carryOutOrders 44 = .ok (.iload_n 3, 1) := by decide +kernel
theorem dX3_carryOutOrders_45 : decode cX3_carryOutOrders 45 = .ok (.ifCond .eq 15, 3) := by decide +kernel
theorem dX3_carryOutOrders_48 : decode cX3_carryOutOrders 48 = .ok (.aload_n 0, 1) := by decide +kernel
theorem dX3_carryOutOrders_49 : decode cX3_carryOutOrders 49 = .ok (.invokevirtual 168, 3) := by decide +kernel
theorem dX3_carryOutOrders_52 : decode cX3_carryOutOrders 52 = .ok (.ifCond .ge 5, 3) := by decide +kernel
theorem dX3_carryOutOrders_55 : decode cX3_carryOutOrders 55 = .ok (.iload_n 1, 1) := by decide +kernel
theorem dX3_carryOutOrders_56 : decode cX3_carryOutOrders 56 = .ok (.ireturn, 1) := by decide +kernel
theorem dX3_carryOutOrders_57 : decode cX3_carryOutOrders 57 = .ok (.iinc 1 1, 3) := by decide +kernel
theorem dX3_carryOutOrders_60 : decode cX3_carryOutOrders 60 = .ok (.iload_n 2, 1) := by decide +kernel
theorem dX3_carryOutOrders_61 : decode cX3_carryOutOrders 61 = .ok (.aload_n 0, 1) := by decide +kernel
theorem dX3_carryOutOrders_62 : decode cX3_carryOutOrders 62 = .ok (.getfield 90, 3) := by decide +kernel
theorem dX3_carryOutOrders_65 : decode cX3_carryOutOrders 65 = .ok (.if_icmp .ge 17, 3) := by decide +kernel
theorem dX3_carryOutOrders_68 : decode cX3_carryOutOrders 68 = .ok (.aload_n 0, 1) := by decide +kernel
theorem dX3_carryOutOrders_69 : decode cX3_carryOutOrders 69 = .ok (.getfield 33, 3) := by decide +kernel
theorem dX3_carryOutOrders_72 : decode cX3_carryOutOrders 72 = .ok (.aload_n 0, 1) := by decide +kernel
theorem dX3_carryOutOrders_73 : decode cX3_carryOutOrders 73 = .ok (.getfield 26, 3) := by decide +kernel
theorem dX3_carryOutOrders_76 : decode cX3_carryOutOrders 76 = .ok (.iload_n 2, 1) := by decide +kernel
theorem dX3_carryOutOrders_77 : decode cX3_carryOutOrders 77 = .ok (.caload, 1) := by decide +kernel
theorem dX3_carryOutOrders_78 : decode cX3_carryOutOrders 78 = .ok (.invokevirtual 161, 3) := by decide +kernel
theorem dX3_carryOutOrders_81 : decode cX3_carryOutOrders 81 = .ok (.pop, 1) := by decide +kernel
theorem dX3_carryOutOrders_82 : decode cX3_carryOutOrders 82 = .ok (.iinc 2 1, 3) := by decide +kernel
theorem dX3_carryOutOrders_85 : decode cX3_carryOutOrders 85 = .ok (.goto (-74), 3) := by decide +kernel
theorem dX3_carryOutOrders_88 : decode cX3_carryOutOrders 88 = .ok (.iload_n 1, 1) := by decide +kernel
theorem dX3_carryOutOrders_89 : decode cX3_carryOutOrders 89 = .ok (.ireturn, 1) := by decide +kernel
theorem dX3_carryOutOrder_0 : decode cX3_carryOutOrder 0 = .ok (.aload_n 0, 1) := by decide +kernel
theorem dX3_carryOutOrder_1 : decode cX3_carryOutOrder 1 = .ok (.getfield 33, 3) := by decide +kernel
theorem dX3_carryOutOrder_4 : decode cX3_carryOutOrder 4 = .ok (.getfield 171, 3) := by decide +kernel
theorem dX3_carryOutOrder_7 : decode cX3_carryOutOrder 7 = .ok (.istore_n 1, 1) := by decide +kernel
theorem dX3_carryOutOrder_8 : decode cX3_carryOutOrder 8 = .ok (.aload_n 0, 1) := by decide +kernel
theorem dX3_carryOutOrder_9 : decode cX3_carryOutOrder 9 = .ok (.getfield 33, 3) := by decide +kernel
theorem dX3_carryOutOrder_12 : decode cX3_carryOutOrder 12 = .ok (.getfield 174, 3) := by decide +kernel
theorem dX3_carryOutOrder_15 : decode cX3_carryOutOrder 15 = .ok (.lookupswitch 118 #[(100, 66), (108, 75), (111, 57), (114, 93), (119, 102), (120, 84)], 57) := by decide +kernel
theorem dX3_carryOutOrder_72 : decode cX3_carryOutOrder 72 = .ok (.aload_n 0, 1) := by decide +kernel
theorem dX3_carryOutOrder_73 : decode cX3_carryOutOrder 73 = .ok (.getfield 10, 3) := by decide +kernel
theorem dX3_carryOutOrder_76 : decode cX3_carryOutOrder 76 = .ok (.iload_n 1, 1) := by decide +kernel
theorem dX3_carryOutOrder_77 : decode cX3_carryOutOrder 77 = .ok (.invokevirtual 51, 3) := by decide +kernel
theorem dX3_carryOutOrder_80 : decode cX3_carryOutOrder 80 = .ok (.ireturn, 1) := by decide +kernel
theorem dX3_carryOutOrder_81 : decode cX3_carryOutOrder 81 = .ok (.aload_n 0, 1) := by decide +kernel
theorem dX3_carryOutOrder_82 : decode cX3_carryOutOrder 82 = .ok (.getfield 10, 3) := by decide +kernel
theorem dX3_carryOutOrder_85 : decode cX3_carryOutOrder 85 = .ok (.iload_n 1, 1) := by decide +kernel
theorem dX3_carryOutOrder_86 : decode cX3_carryOutOrder 86 = .ok (.invokevirtual 54, 3) := by decide +kernel
theorem dX3_carryOutOrder_89 : decode cX3_carryOutOrder 89 = .ok (.ireturn, 1) := by decide +kernel
theorem dX3_carryOutOrder_90 : decode cX3_carryOutOrder 90 = .ok (.aload_n 0, 1) := by decide +kernel
theorem dX3_carryOutOrder_91 : decode cX3_carryOutOrder 91 = .ok (.getfield 10, 3) := by decide +kernel
theorem dX3_carryOutOrder_94 : decode cX3_carryOutOrder 94 = .ok (.iload_n 1, 1) := by decide +kernel
theorem dX3_carryOutOrder_95 : decode cX3_carryOutOrder 95 = .ok (.invokevirtual 57, 3) := by decide +kernel
theorem dX3_carryOutOrder_98 : decode cX3_carryOutOrder 98 = .ok (.ireturn, 1) := by decide +kernel
theorem dX3_carryOutOrder_99 : decode cX3_carryOutOrder 99 = .ok (.aload_n 0, 1) := by decide +kernel
theorem dX3_carryOutOrder_100 : decode cX3_carryOutOrder 100 = .ok (.getfield 10, 3) := by decide +kernel
theorem dX3_carryOutOrder_103 : decode cX3_carryOutOrder 103 = .ok (.iload_n 1, 1) := by decide +kernel
theorem dX3_carryOutOrder_104 : decode cX3_carryOutOrder 104 = .ok (.invokevirtual 63, 3) := by decide +kernel
theorem dX3_carryOutOrder_107 : decode cX3_carryOutOrder 107 = .ok (.ireturn, 1) := by decide +kernel
theorem dX3_carryOutOrder_108 : decode cX3_carryOutOrder 108 = .ok (.aload_n 0, 1) := by decide +kernel
theorem dX3_carryOutOrder_109 : decode cX3_carryOutOrder 109 = .ok (.getfield 10, 3) := by decide +kernel
theorem dX3_carryOutOrder_112 : decode cX3_carryOutOrder 112 = .ok (.iload_n 1, 1) := by decide +kernel
theorem dX3_carryOutOrder_113 : decode cX3_carryOutOrder 113 = .ok (.invokevirtual 66, 3) := by decide +kernel
theorem dX3_carryOutOrder_116 : decode cX3_carryOutOrder 116 = .ok (.ireturn, 1) := by decide +kernel
theorem dX3_carryOutOrder_117 : decode cX3_carryOutOrder 117 = .ok (.aload_n 0, 1) := by decide +kernel
theorem dX3_carryOutOrder_118 : decode cX3_carryOutOrder 118 = .ok (.getfield 10, 3) := by decide +kernel
theorem dX3_carryOutOrder_121 : decode cX3_carryOutOrder 121 = .ok (.iload_n 1, 1) := by decide +kernel
theorem dX3_carryOutOrder_122 : decode cX3_carryOutOrder 122 = .ok (.aload_n 0, 1) := by decide +kernel
theorem dX3_carryOutOrder_123 : decode cX3_carryOutOrder 123 = .ok (.getfield 33, 3) := by decide +kernel
theorem dX3_carryOutOrder_126 : decode cX3_carryOutOrder 126 = .ok (.getfield 177, 3) := by decide +kernel
theorem dX3_carryOutOrder_129 : decode cX3_carryOutOrder 129 = .ok (.invokevirtual 48, 3) := by decide +kernel
theorem dX3_carryOutOrder_132 : decode cX3_carryOutOrder 132 = .ok (.ireturn, 1) := by decide +kernel
theorem dX3_carryOutOrder_133 : decode cX3_carryOutOrder 133 = .ok (.aload_n 0, 1) := by decide +kernel
theorem dX3_carryOutOrder_134 : decode cX3_carryOutOrder 134 = .ok (.getfield 10, 3) := by decide +kernel
theorem dX3_carryOutOrder_137 : decode cX3_carryOutOrder 137 = .ok (.iload_n 1, 1) := by decide +kernel
theorem dX3_carryOutOrder_138 : decode cX3_carryOutOrder 138 = .ok (.invokevirtual 69, 3) := by decide +kernel
theorem dX3_carryOutOrder_141 : decode cX3_carryOutOrder 141 = .ok (.ireturn, 1) := by decide +kernel
end
section
theorem dX4_init_0 : decode cX4_init 0 = .ok (.aload_n 0, 1) := by decide +kernel
theorem dX4_init_1 : decode cX4_init 1 = .ok (.invokespecial 1, 3) := by decide +kernel
theorem dX4_init_4 : decode cX4_init 4 = .ok (.aload_n 0, 1) := by decide +kernel
theorem dX4_init_5 : decode cX4_init 5 = .ok (.sipush 390, 3) := by decide +kernel
theorem dX4_init_8 : decode cX4_init 8 = .ok (.newarray .int, 2) := by decide +kernel
theorem dX4_init_10 : decode cX4_init 10 = .ok (.putfield 7, 3) := by decide +kernel
theorem dX4_init_13 : decode cX4_init 13 = .ok (.aload_n 0, 1) := by decide +kernel
theorem dX4_init_14 : decode cX4_init 14 = .ok (.sipush 390, 3) := by decide +kernel
theorem dX4_init_17 : decode cX4_init 17 = .ok (.newarray .int, 2) := by decide +kernel
theorem dX4_init_19 : decode cX4_init 19 = .ok (.putfield 13, 3) := by decide +kernel
theorem dX4_init_22 : decode cX4_init 22 = .ok (.aload_n 0, 1) := by decide +kernel
theorem dX4_init_23 : decode cX4_init 23 = .ok (.sipush 2340, 3) := by decide +kernel
theorem dX4_init_26 : decode cX4_init 26 = .ok (.newarray .int, 2) := by decide +kernel
theorem dX4_init_28 : decode cX4_init 28 = .ok (.putfield 16, 3) := by decide +kernel
theorem dX4_init_31 : decode cX4_init 31 = .ok (.aload_n 0, 1) := by decide +kernel
theorem dX4_init_32 : decode cX4_init 32 = .ok (.sipush 780, 3) := by decide +kernel
theorem dX4_init_35 : decode cX4_init 35 = .ok (.newarray .int, 2) := by decide +kernel
theorem dX4_init_37 : decode cX4_init 37 = .ok (.putfield 19, 3) := by decide +kernel
theorem dX4_init_40 : decode cX4_init 40 = .ok (.aload_n 0, 1) := by decide +kernel
theorem dX4_init_41 : decode cX4_init 41 = .ok (.iconst 2, 1) := by decide +kernel
theorem dX4_init_42 : decode cX4_init 42 = .ok (.newarray .boolean, 2) := by decide +kernel
theorem dX4_init_44 : decode cX4_init 44 = .ok (.putfield 22, 3) := by decide +kernel
theorem dX4_init_47 : decode cX4_init 47 = .ok (.aload_n 0, 1) := by decide +kernel
theorem dX4_init_48 : decode cX4_init 48 = .ok (.bipush 60, 2) := by decide +kernel
theorem dX4_init_50 : decode cX4_init 50 = .ok (.newarray .int, 2) := by decide +kernel
theorem dX4_init_52 : decode cX4_init 52 = .ok (.putfield 26, 3) := by decide +kernel
theorem dX4_init_55 : decode cX4_init 55 = .ok (.aload_n 0, 1) := by decide +kernel
theorem dX4_init_56 : decode cX4_init 56 = .ok (.sipush 180, 3) := by decide +kernel
theorem dX4_init_59 : decode cX4_init 59 = .ok (.newarray .int, 2) := by decide +kernel
theorem dX4_init_61 : decode cX4_init 61 = .ok (.putfield 29, 3) := by decide +kernel
theorem dX4_init_64 : decode cX4_init 64 = .ok (.aload_n 0, 1) := by decide +kernel
theorem dX4_init_65 : decode cX4_init 65 = .ok (.getfield 7, 3) := by decide +kernel
theorem dX4_init_68 : decode cX4_init 68 = .ok (.iconst 0, 1) := by decide +kernel
theorem dX4_init_69 : decode cX4_init 69 = .ok (.bipush 6, 2) := by decide +kernel
theorem dX4_init_71 : decode cX4_init 71 = .ok (.iastore, 1) := by decide +kernel
theorem dX4_init_72 : decode cX4_init 72 = .ok (.aload_n 0, 1) := by decide +kernel
theorem dX4_init_73 : decode cX4_init 73 = .ok (.getfield 7, 3) := by decide +kernel
theorem dX4_init_76 : decode cX4_init 76 = .ok (.iconst 1, 1) := by decide +kernel
theorem dX4_init_77 : decode cX4_init 77 = .ok (.iconst 4, 1) := by decide +kernel
theorem dX4_init_78 : decode cX4_init 78 = .ok (.iastore, 1) := by decide +kernel
theorem dX4_init_79 : decode cX4_init 79 = .ok (.aload_n 0, 1) := by decide +kernel
theorem dX4_init_80 : decode cX4_init 80 = .ok (.getfield 7, 3) := by decide +kernel
theorem dX4_init_83 : decode cX4_init 83 = .ok (.iconst 2, 1) := by decide +kernel
theorem dX4_init_84 : decode cX4_init 84 = .ok (.iconst 5, 1) := by decide +kernel
theorem dX4_init_85 : decode cX4_init 85 = .ok (.iastore, 1) := by decide +kernel
theorem dX4_init_86 : decode cX4_init 86 = .ok (.iconst 0, 1) := by decide +kernel
theorem dX4_init_87 : decode cX4_init 87 = .ok (.istore_n 1, 1) := by decide +kernel
theorem dX4_init_88 : decode cX4_init 88 = .ok (.iload_n 1, 1) := by decide +kernel
theorem dX4_init_89 : decode cX4_init 89 = .ok (.iconst 4, 1) := by decide +kernel
theorem dX4_init_90 : decode cX4_init 90 = .ok (.if_icmp .ge 19, 3) := by decide +kernel
theorem dX4_init_93 : decode cX4_init 93 = .ok (.aload_n 0, 1) := by decide +kernel
theorem dX4_init_94 : decode cX4_init 94 = .ok (.getfield 7, 3) := by decide +kernel
theorem dX4_init_97 : decode cX4_init 97 = .ok (.bipush 15, 2) := by decide +kernel
theorem dX4_init_99 : decode cX4_init 99 = .ok (.iload_n 1, 1) := by decide +kernel
theorem dX4_init_100 : decode cX4_init 100 = .ok (.iadd, 1) := by decide +kernel
theorem dX4_init_101 : decode cX4_init 101 = .ok (.iconst 1, 1) := by decide +kernel
theorem dX4_init_102 : decode cX4_init 102 = .ok (.iastore, 1) := by decide +kernel
theorem dX4_init_103 : decode cX4_init 103 = .ok (.iinc 1 1, 3) := by decide +kernel
theorem dX4_init_106 : decode cX4_init 106 = .ok (.goto (-18), 3) := by decide +kernel
theorem dX4_init_109 : decode cX4_init 109 = .ok (.return_, 1) := by decide +kernel
theorem dX4_in_0 : decode cX4_in 0 = .ok (.iload_n 0, 1) := by decide +kernel
theorem dX4_in_1 : decode cX4_in 1 = .ok (.iload_n 1, 1) := by decide +kernel
theorem dX4_in_2 : decode cX4_in 2 = .ok (.if_icmp .lt 12, 3) := by decide +kernel
theorem dX4_in_5 : decode cX4_in 5 = .ok (.iload_n 0, 1) := by decide +kernel
theorem dX4_in_6 : decode cX4_in 6 = .ok (.iload_n 2, 1) := by decide +kernel
theorem dX4_in_7 : decode cX4_in 7 = .ok (.if_icmp .gt 7, 3) := by decide +kernel
theorem dX4_in_10 : decode cX4_in 10 = .ok (.iconst 1, 1) := by decide +kernel
theorem dX4_in_11 : decode cX4_in 11 = .ok (.goto 4, 3) := by decide +kernel
theorem dX4_in_14 : decode cX4_in 14 = .ok (.iconst 0, 1) := by decide +kernel
theorem dX4_in_15 : decode cX4_in 15 = .ok (.ireturn, 1) := by decide +kernel
theorem dX4_has_0 : decode cX4_has 0 = .ok (.iload_n 0, 1) := by decide +kernel
theorem dX4_has_1 : decode cX4_has 1 = .ok (.iload_n 1, 1) := by decide +kernel
theorem dX4_has_2 : decode cX4_has 2 = .ok (.ishr, 1) := by decide +kernel
theorem dX4_has_3 : decode cX4_has 3 = .ok (.iconst 1, 1) := by decide +kernel
theorem dX4_has_4 : decode cX4_has 4 = .ok (.iand, 1) := by decide +kernel
theorem dX4_has_5 : decode cX4_has 5 = .ok (.iconst 1, 1) := by decide +kernel
theorem dX4_has_6 : decode cX4_has 6 = .ok (.if_icmp .ne 7, 3) := by decide +kernel
theorem dX4_has_9 : decode cX4_has 9 = .ok (.iconst 1, 1) := by decide +kernel
theorem dX4_has_10 : decode cX4_has 10 = .ok (.goto 4, 3) := by decide +kernel
theorem dX4_has_13 : decode cX4_has 13 = .ok (.iconst 0, 1) := by decide +kernel
theorem dX4_has_14 : decode cX4_has 14 = .ok (.ireturn, 1) := by decide +kernel
theorem dX4_record_0 : decode cX4_record 0 = .ok (.aload_n 0, 1) := by decide +kernel
theorem dX4_record_1 : decode cX4_record 1 = .ok (.getfield 32, 3) := by decide +kernel
theorem dX4_record_4 : decode cX4_record 4 = .ok (.ifCond .eq 4, 3) := by decide +kernel
theorem dX4_record_7 : decode cX4_record 7 = .ok (.return_, 1) := by decide +kernel
theorem dX4_record_8 : decode cX4_record 8 = .ok (.aload_n 0, 1) := by decide +kernel
theorem dX4_record_9 : decode cX4_record 9 = .ok (.getfield 36, 3) := by decide +kernel
theorem dX4_record_12 : decode cX4_record 12 = .ok (.bipush 6, 2) := by decide +kernel
theorem dX4_record_14 : decode cX4_record 14 = .ok (.if_icmp .ne 39, 3) := by decide +kernel
theorem dX4_record_17 : decode cX4_record 17 = .ok (.iconst 0, 1) := by decide +kernel
theorem dX4_record_18 : decode cX4_record 18 = .ok (.istore_n 1, 1) := by decide +kernel
theorem dX4_record_19 : decode cX4_record 19 = .ok (.iload_n 1, 1) := by decide +kernel
theorem dX4_record_20 : decode cX4_record 20 = .ok (.sipush 1950, 3) := by decide +kernel
theorem dX4_record_23 : decode cX4_record 23 = .ok (.if_icmp .ge 25, 3) := by decide +kernel
theorem dX4_record_26 : decode cX4_record 26 = .ok (.aload_n 0, 1) := by decide +kernel
theorem dX4_record_27 : decode cX4_record 27 = .ok (.getfield 16, 3) := by decide +kernel
theorem dX4_record_30 : decode cX4_record 30 = .ok (.iload_n 1, 1) := by decide +kernel
theorem dX4_record_31 : decode cX4_record 31 = .ok (.aload_n 0, 1) := by decide +kernel
theorem dX4_record_32 : decode cX4_record 32 = .ok (.getfield 16, 3) := by decide +kernel
theorem dX4_record_35 : decode cX4_record 35 = .ok (.iload_n 1, 1) := by decide +kernel
theorem dX4_record_36 : decode cX4_record 36 = .ok (.sipush 390, 3) := by decide +kernel
theorem dX4_record_39 : decode cX4_record 39 = .ok (.iadd, 1) := by decide +kernel
theorem dX4_record_40 : decode cX4_record 40 = .ok (.iaload, 1) := by decide +kernel
theorem dX4_record_41 : decode cX4_record 41 = .ok (.iastore, 1) := by decide +kernel
theorem dX4_record_42 : decode cX4_record 42 = .ok (.iinc 1 1, 3) := by decide +kernel
theorem dX4_record_45 : decode cX4_record 45 = .ok (.goto (-26), 3) := by decide +kernel
theorem dX4_record_48 : decode cX4_record 48 = .ok (.aload_n 0, 1) := by decide +kernel
theorem dX4_record_49 : decode cX4_record 49 = .ok (.iconst 5, 1) := by decide +kernel
theorem dX4_record_50 : decode cX4_record 50 = .ok (.putfield 36, 3) := by decide +kernel
theorem dX4_record_53 : decode cX4_record 53 = .ok (.iconst 0, 1) := by decide +kernel
theorem dX4_record_54 : decode cX4_record 54 = .ok (.istore_n 1, 1) := by decide +kernel
theorem dX4_record_55 : decode cX4_record 55 = .ok (.iload_n 1, 1) := by decide +kernel
theorem dX4_record_56 : decode cX4_record 56 = .ok (.sipush 390, 3) := by decide +kernel
theorem dX4_record_59 : decode cX4_record 59 = .ok (.if_icmp .ge 30, 3) := by decide +kernel
theorem dX4_record_62 : decode cX4_record 62 = .ok (.aload_n 0, 1) := by decide +kernel
theorem dX4_record_63 : decode cX4_record 63 = .ok (.getfield 16, 3) := by decide +kernel
theorem dX4_record_66 : decode cX4_record 66 = .ok (.aload_n 0, 1) := by decide +kernel
theorem dX4_record_67 : decode cX4_record 67 = .ok (.getfield 36, 3) := by decide +kernel
theorem dX4_record_70 : decode cX4_record 70 = .ok (.sipush 390, 3) := by decide +kernel
theorem dX4_record_73 : decode cX4_record 73 = .ok (.imul, 1) := by decide +kernel
theorem dX4_record_74 : decode cX4_record 74 = .ok (.iload_n 1, 1) := by decide +kernel
theorem dX4_record_75 : decode cX4_record 75 = .ok (.iadd, 1) := by decide +kernel
theorem dX4_record_76 : decode cX4_record 76 = .ok (.aload_n 0, 1) := by decide +kernel
theorem dX4_record_77 : decode cX4_record 77 = .ok (.getfield 7, 3) := by decide +kernel
theorem dX4_record_80 : decode cX4_record 80 = .ok (.iload_n 1, 1) := by decide +kernel
theorem dX4_record_81 : decode cX4_record 81 = .ok (.iaload, 1) := by decide +kernel
theorem dX4_record_82 : decode cX4_record 82 = .ok (.iastore, 1) := by decide +kernel
theorem dX4_record_83 : decode cX4_record 83 = .ok (.iinc 1 1, 3) := by decide +kernel
theorem dX4_record_86 : decode cX4_record 86 = .ok (.goto (-31), 3) := by decide +kernel
theorem dX4_record_89 : decode cX4_record 89 = .ok (.aload_n 0, 1) := by decide +kernel
theorem dX4_record_90 : decode cX4_record 90 = .ok (.dup, 1) := by decide +kernel
theorem dX4_record_91 : decode cX4_record 91 = .ok (.getfield 36, 3) := by decide +kernel
theorem dX4_record_94 : decode cX4_record 94 = .ok (.iconst 1, 1) := by decide +kernel
theorem dX4_record_95 : decode cX4_record 95 = .ok (.iadd, 1) := by decide +kernel
theorem dX4_record_96 : decode cX4_record 96 = .ok (.putfield 36, 3) := by decide +kernel
theorem dX4_record_99 : decode cX4_record 99 = .ok (.return_, 1) := by decide +kernel
theorem dX4_keep_0 : decode cX4_keep 0 = .ok (.iconst 0, 1) := by decide +kernel
theorem dX4_keep_1 : decode cX4_keep 1 = .ok (.istore_n 1, 1) := by decide +kernel
theorem dX4_keep_2 : decode cX4_keep 2 = .ok (.iload_n 1, 1) := by decide +kernel
theorem dX4_keep_3 : decode cX4_keep 3 = .ok (.sipush 390, 3) := by decide +kernel
theorem dX4_keep_6 : decode cX4_keep 6 = .ok (.if_icmp .ge 21, 3) := by decide +kernel
theorem dX4_keep_9 : decode cX4_keep 9 = .ok (.aload_n 0, 1) := by decide +kernel
theorem dX4_keep_10 : decode cX4_keep 10 = .ok (.getfield 13, 3) := by decide +kernel
theorem dX4_keep_13 : decode cX4_keep 13 = .ok (.iload_n 1, 1) := by decide +kernel
theorem dX4_keep_14 : decode cX4_keep 14 = .ok (.aload_n 0, 1) := by decide +kernel
theorem dX4_keep_15 : decode cX4_keep 15 = .ok (.getfield 7, 3) := by decide +kernel
theorem dX4_keep_18 : decode cX4_keep 18 = .ok (.iload_n 1, 1) := by decide +kernel
theorem dX4_keep_19 : decode cX4_keep 19 = .ok (.iaload, 1) := by decide +kernel
theorem dX4_keep_20 : decode cX4_keep 20 = .ok (.iastore, 1) := by decide +kernel
theorem dX4_keep_21 : decode cX4_keep 21 = .ok (.iinc 1 1, 3) := by decide +kernel
theorem dX4_keep_24 : decode cX4_keep 24 = .ok (.goto (-22), 3) := by decide +kernel
theorem dX4_keep_27 : decode cX4_keep 27 = .ok (.return_, 1) := by decide +kernel
theorem dX4_comeBack_0 : decode cX4_comeBack 0 = .ok (.iconst 0, 1) := by decide +kernel
theorem dX4_comeBack_1 : decode cX4_comeBack 1 = .ok (.istore_n 1, 1) := by decide +kernel
theorem dX4_comeBack_2 : decode cX4_comeBack 2 = .ok (.iload_n 1, 1) := by decide +kernel
theorem dX4_comeBack_3 : decode cX4_comeBack 3 = .ok (.sipush 390, 3) := by decide +kernel
theorem dX4_comeBack_6 : decode cX4_comeBack 6 = .ok (.if_icmp .ge 21, 3) := by decide +kernel
theorem dX4_comeBack_9 : decode cX4_comeBack 9 = .ok (.aload_n 0, 1) := by decide +kernel
theorem dX4_comeBack_10 : decode cX4_comeBack 10 = .ok (.getfield 7, 3) := by decide +kernel
theorem dX4_comeBack_13 : decode cX4_comeBack 13 = .ok (.iload_n 1, 1) := by decide +kernel
theorem dX4_comeBack_14 : decode cX4_comeBack 14 = .ok (.aload_n 0, 1) := by decide +kernel
theorem dX4_comeBack_15 : decode cX4_comeBack 15 = .ok (.getfield 13, 3) := by decide +kernel
theorem dX4_comeBack_18 : decode cX4_comeBack 18 = .ok (.iload_n 1, 1) := by decide +kernel
theorem dX4_comeBack_19 : decode cX4_comeBack 19 = .ok (.iaload, 1) := by decide +kernel
theorem dX4_comeBack_20 : decode cX4_comeBack 20 = .ok (.iastore, 1) := by decide +kernel
theorem dX4_comeBack_21 : decode cX4_comeBack 21 = .ok (.iinc 1 1, 3) := by decide +kernel
theorem dX4_comeBack_24 : decode cX4_comeBack 24 = .ok (.goto (-22), 3) := by decide +kernel
theorem dX4_comeBack_27 : decode cX4_comeBack 27 = .ok (.return_, 1) := by decide +kernel
theorem dX4_of_0 : decode cX4_of 0 = .ok (.aload_n 0, 1) := by decide +kernel
theorem dX4_of_1 : decode cX4_of 1 = .ok (.getfield 7, 3) := by decide +kernel
theorem dX4_of_4 : decode cX4_of 4 = .ok (.bipush 30, 2) := by decide +kernel
theorem dX4_of_6 : decode cX4_of 6 = .ok (.bipush 14, 2) := by decide +kernel
theorem dX4_of_8 : decode cX4_of 8 = .ok (.iload_n 1, 1) := by decide +kernel
theorem dX4_of_9 : decode cX4_of 9 = .ok (.imul, 1) := by decide +kernel
theorem dX4_of_10 : decode cX4_of 10 = .ok (.iadd, 1) := by decide +kernel
theorem dX4_of_11 : decode cX4_of 11 = .ok (.iload_n 2, 1) := by decide +kernel
theorem dX4_of_12 : decode cX4_of 12 = .ok (.iadd, 1) := by decide +kernel
theorem dX4_of_13 : decode cX4_of 13 = .ok (.iaload, 1) := by decide +kernel
theorem dX4_of_14 : decode cX4_of 14 = .ok (.ireturn, 1) := by decide +kernel
theorem dX4_book_0 : decode cX4_book 0 = .ok (.aload_n 0, 1) := by decide +kernel
theorem dX4_book_1 : decode cX4_book 1 = .ok (.getfield 7, 3) := by decide +kernel
theorem dX4_book_4 : decode cX4_book 4 = .ok (.bipush 30, 2) := by decide +kernel
theorem dX4_book_6 : decode cX4_book 6 = .ok (.bipush 14, 2) := by decide +kernel
theorem dX4_book_8 : decode cX4_book 8 = .ok (.iload_n 1, 1) := by decide +kernel
theorem dX4_book_9 : decode cX4_book 9 = .ok (.imul, 1) := by decide +kernel
theorem dX4_book_10 : decode cX4_book 10 = .ok (.iadd, 1) := by decide +kernel
theorem dX4_book_11 : decode cX4_book 11 = .ok (.iload_n 2, 1) := by decide +kernel
theorem dX4_book_12 : decode cX4_book 12 = .ok (.iadd, 1) := by decide +kernel
theorem dX4_book_13 : decode cX4_book 13 = .ok (.iload_n 3, 1) := by decide +kernel
theorem dX4_book_14 : decode cX4_book 14 = .ok (.iastore, 1) := by decide +kernel
theorem dX4_book_15 : decode cX4_book 15 = .ok (.return_, 1) := by decide +kernel
theorem dX4_isPart_0 : decode cX4_isPart 0 = .ok (.aload_n 0, 1) := by decide +kernel
theorem dX4_isPart_1 : decode cX4_isPart 1 = .ok (.iload_n 1, 1) := by decide +kernel
theorem dX4_isPart_2 : decode cX4_isPart 2 = .ok (.iconst 0, 1) := by decide +kernel
theorem dX4_isPart_3 : decode cX4_isPart 3 = .ok (.invokevirtual 40, 3) := by decide +kernel
theorem dX4_isPart_6 : decode cX4_isPart 6 = .ok (.iload_n 2, 1) := by decide +kernel
theorem dX4_isPart_7 : decode cX4_isPart 7 = .ok (.invokestatic 44, 3) := by decide +kernel
theorem dX4_isPart_10 : decode cX4_isPart 10 = .ok (.ireturn, 1) := by decide +kernel
theorem dX4_isIll_0 : decode cX4_isIll 0 = .ok (.aload_n 0, 1) := by decide +kernel
theorem dX4_isIll_1 : decode cX4_isIll 1 = .ok (.getfield 7, 3) := by decide +kernel
theorem dX4_isIll_4 : decode cX4_isIll 4 = .ok (.bipush 10, 2) := by decide +kernel
theorem dX4_isIll_6 : decode cX4_isIll 6 = .ok (.iload_n 1, 1) := by decide +kernel
theorem dX4_isIll_7 : decode cX4_isIll 7 = .ok (.iadd, 1) := by decide +kernel
theorem dX4_isIll_8 : decode cX4_isIll 8 = .ok (.iaload, 1) := by decide +kernel
theorem dX4_isIll_9 : decode cX4_isIll 9 = .ok (.iconst 1, 1) := by decide +kernel
theorem dX4_isIll_10 : decode cX4_isIll 10 = .ok (.if_icmp .ne 7, 3) := by decide +kernel
theorem dX4_isIll_13 : decode cX4_isIll 13 = .ok (.iconst 1, 1) := by decide +kernel
theorem dX4_isIll_14 : decode cX4_isIll 14 = .ok (.goto 4, 3) := by decide +kernel
theorem dX4_isIll_17 : decode cX4_isIll 17 = .ok (.iconst 0, 1) := by decide +kernel
theorem dX4_isIll_18 : decode cX4_isIll 18 = .ok (.ireturn, 1) := by decide +kernel
theorem dX4_send_0 : decode cX4_send 0 = .ok (.aload_n 0, 1) := by decide +kernel
theorem dX4_send_1 : decode cX4_send 1 = .ok (.getfield 7, 3) := by decide +kernel
theorem dX4_send_4 : decode cX4_send 4 = .ok (.bipush 25, 2) := by decide +kernel
theorem dX4_send_6 : decode cX4_send 6 = .ok (.iload_n 3, 1) := by decide +kernel
theorem dX4_send_7 : decode cX4_send 7 = .ok (.iadd, 1) := by decide +kernel
theorem dX4_send_8 : decode cX4_send 8 = .ok (.dup2, 1) := by decide +kernel
theorem dX4_send_9 : decode cX4_send 9 = .ok (.iaload, 1) := by decide +kernel
theorem dX4_send_10 : decode cX4_send 10 = .ok (.iconst 1, 1) := by decide +kernel
theorem dX4_send_11 : decode cX4_send 11 = .ok (.iadd, 1) := by decide +kernel
theorem dX4_send_12 : decode cX4_send 12 = .ok (.iastore, 1) := by decide +kernel
theorem dX4_send_13 : decode cX4_send 13 = .ok (.aload_n 0, 1) := by decide +kernel
theorem dX4_send_14 : decode cX4_send 14 = .ok (.getfield 7, 3) := by decide +kernel
theorem dX4_send_17 : decode cX4_send 17 = .ok (.bipush 6, 2) := by decide +kernel
theorem dX4_send_19 : decode cX4_send 19 = .ok (.iaload, 1) := by decide +kernel
theorem dX4_send_20 : decode cX4_send 20 = .ok (.bipush 60, 2) := by decide +kernel
theorem dX4_send_22 : decode cX4_send 22 = .ok (.if_icmp .ne 15, 3) := by decide +kernel
theorem dX4_send_25 : decode cX4_send 25 = .ok (.aload_n 0, 1) := by decide +kernel
theorem dX4_send_26 : decode cX4_send 26 = .ok (.getfield 7, 3) := by decide +kernel
theorem dX4_send_29 : decode cX4_send 29 = .ok (.bipush 8, 2) := by decide +kernel
theorem dX4_send_31 : decode cX4_send 31 = .ok (.dup2, 1) := by decide +kernel
theorem dX4_send_32 : decode cX4_send 32 = .ok (.iaload, 1) := by decide +kernel
theorem dX4_send_33 : decode cX4_send 33 = .ok (.iconst 1, 1) := by decide +kernel
theorem dX4_send_34 : decode cX4_send 34 = .ok (.iadd, 1) := by decide +kernel
theorem dX4_send_35 : decode cX4_send 35 = .ok (.iastore, 1) := by decide +kernel
theorem dX4_send_36 : decode cX4_send 36 = .ok (.return_, 1) := by decide +kernel
theorem dX4_send_37 : decode cX4_send 37 = .ok (.sipush 150, 3) := by decide +kernel
theorem dX4_send_40 : decode cX4_send 40 = .ok (.iconst 4, 1) := by decide +kernel
theorem dX4_send_41 : decode cX4_send 41 = .ok (.aload_n 0, 1) := by decide +kernel
theorem dX4_send_42 : decode cX4_send 42 = .ok (.getfield 7, 3) := by decide +kernel
theorem dX4_send_45 : decode cX4_send 45 = .ok (.bipush 6, 2) := by decide +kernel
theorem dX4_send_47 : decode cX4_send 47 = .ok (.iaload, 1) := by decide +kernel
theorem dX4_send_48 : decode cX4_send 48 = .ok (.imul, 1) := by decide +kernel
theorem dX4_send_49 : decode cX4_send 49 = .ok (.iadd, 1) := by decide +kernel
theorem dX4_send_50 : decode cX4_send 50 = .ok (.istore 5, 2) := by decide +kernel
theorem dX4_send_52 : decode cX4_send 52 = .ok (.aload_n 0, 1) := by decide +kernel
theorem dX4_send_53 : decode cX4_send 53 = .ok (.getfield 7, 3) := by decide +kernel
theorem dX4_send_56 : decode cX4_send 56 = .ok (.iload 5, 2) := by decide +kernel
theorem dX4_send_58 : decode cX4_send 58 = .ok (.iload_n 1, 1) := by decide +kernel
theorem dX4_send_59 : decode cX4_send 59 = .ok (.iastore, 1) := by decide +kernel
theorem dX4_send_60 : decode cX4_send 60 = .ok (.aload_n 0, 1) := by decide +kernel
theorem dX4_send_61 : decode cX4_send 61 = .ok (.getfield 7, 3) := by decide +kernel
theorem dX4_send_64 : decode cX4_send 64 = .ok (.iload 5, 2) := by decide +kernel
theorem dX4_send_66 : decode cX4_send 66 = .ok (.iconst 1, 1) := by decide +kernel
theorem dX4_send_67 : decode cX4_send 67 = .ok (.iadd, 1) := by decide +kernel
theorem dX4_send_68 : decode cX4_send 68 = .ok (.iload_n 2, 1) := by decide +kernel
theorem dX4_send_69 : decode cX4_send 69 = .ok (.iastore, 1) := by decide +kernel
theorem dX4_send_70 : decode cX4_send 70 = .ok (.aload_n 0, 1) := by decide +kernel
theorem dX4_send_71 : decode cX4_send 71 = .ok (.getfield 7, 3) := by decide +kernel
theorem dX4_send_74 : decode cX4_send 74 = .ok (.iload 5, 2) := by decide +kernel
theorem dX4_send_76 : decode cX4_send 76 = .ok (.iconst 2, 1) := by decide +kernel
theorem dX4_send_77 : decode cX4_send 77 = .ok (.iadd, 1) := by decide +kernel
theorem dX4_send_78 : decode cX4_send 78 = .ok (.iload_n 3, 1) := by decide +kernel
theorem dX4_send_79 : decode cX4_send 79 = .ok (.iastore, 1) := by decide +kernel
theorem dX4_send_80 : decode cX4_send 80 = .ok (.aload_n 0, 1) := by decide +kernel
theorem dX4_send_81 : decode cX4_send 81 = .ok (.getfield 7, 3) := by decide +kernel
theorem dX4_send_84 : decode cX4_send 84 = .ok (.iload 5, 2) := by decide +kernel
theorem dX4_send_86 : decode cX4_send 86 = .ok (.iconst 3, 1) := by decide +kernel
theorem dX4_send_87 : decode cX4_send 87 = .ok (.iadd, 1) := by decide +kernel
theorem dX4_send_88 : decode cX4_send 88 = .ok (.iload 4, 2) := by decide +kernel
theorem dX4_send_90 : decode cX4_send 90 = .ok (.iastore, 1) := by decide +kernel
theorem dX4_send_91 : decode cX4_send 91 = .ok (.aload_n 0, 1) := by decide +kernel
theorem dX4_send_92 : decode cX4_send 92 = .ok (.getfield 7, 3) := by decide +kernel
theorem dX4_send_95 : decode cX4_send 95 = .ok (.bipush 6, 2) := by decide +kernel
theorem dX4_send_97 : decode cX4_send 97 = .ok (.dup2, 1) := by decide +kernel
theorem dX4_send_98 : decode cX4_send 98 = .ok (.iaload, 1) := by decide +kernel
theorem dX4_send_99 : decode cX4_send 99 = .ok (.iconst 1, 1) := by decide +kernel
theorem dX4_send_100 : decode cX4_send 100 = .ok (.iadd, 1) := by decide +kernel
theorem dX4_send_101 : decode cX4_send 101 = .ok (.iastore, 1) := by decide +kernel
theorem dX4_send_102 : decode cX4_send 102 = .ok (.return_, 1) := by decide +kernel
theorem dX4_sendAll_0 : decode cX4_sendAll 0 = .ok (.iconst 0, 1) := by decide +kernel
theorem dX4_sendAll_1 : decode cX4_sendAll 1 = .ok (.istore 5, 2) := by decide +kernel
theorem dX4_sendAll_3 : decode cX4_sendAll 3 = .ok (.iload 5, 2) := by decide +kernel
theorem dX4_sendAll_5 : decode cX4_sendAll 5 = .ok (.iconst 4, 1) := by decide +kernel
theorem dX4_sendAll_6 : decode cX4_sendAll 6 = .ok (.if_icmp .ge 28, 3) := by decide +kernel
theorem dX4_sendAll_9 : decode cX4_sendAll 9 = .ok (.iload 4, 2) := by decide +kernel
theorem dX4_sendAll_11 : decode cX4_sendAll 11 = .ok (.iload 5, 2) := by decide +kernel
theorem dX4_sendAll_13 : decode cX4_sendAll 13 = .ok (.invokestatic 44, 3) := by decide +kernel
theorem dX4_sendAll_16 : decode cX4_sendAll 16 = .ok (.ifCond .eq 12, 3) := by decide +kernel
theorem dX4_sendAll_19 : decode cX4_sendAll 19 = .ok (.aload_n 0, 1) := by decide +kernel
theorem dX4_sendAll_20 : decode cX4_sendAll 20 = .ok (.iload_n 1, 1) := by decide +kernel
theorem dX4_sendAll_21 : decode cX4_sendAll 21 = .ok (.iload_n 2, 1) := by decide +kernel
theorem dX4_sendAll_22 : decode cX4_sendAll 22 = .ok (.iload_n 3, 1) := by decide +kernel
theorem dX4_sendAll_23 : decode cX4_sendAll 23 = .ok (.iload 5, 2) := by decide +kernel
theorem dX4_sendAll_25 : decode cX4_sendAll 25 = .ok (.invokevirtual 48, 3) := by decide +kernel
theorem dX4_sendAll_28 : decode cX4_sendAll 28 = .ok (.iinc 5 1, 3) := by decide +kernel
theorem dX4_sendAll_31 : decode cX4_sendAll 31 = .ok (.goto (-28), 3) := by decide +kernel
theorem dX4_sendAll_34 : decode cX4_sendAll 34 = .ok (.return_, 1) := by decide +kernel
theorem dX4_drop_0 : decode cX4_drop 0 = .ok (.aload_n 0, 1) := by decide +kernel
theorem dX4_drop_1 : decode cX4_drop 1 = .ok (.getfield 7, 3) := by decide +kernel
theorem dX4_drop_4 : decode cX4_drop 4 = .ok (.bipush 6, 2) := by decide +kernel
theorem dX4_drop_6 : decode cX4_drop 6 = .ok (.dup2, 1) := by decide +kernel
theorem dX4_drop_7 : decode cX4_drop 7 = .ok (.iaload, 1) := by decide +kernel
theorem dX4_drop_8 : decode cX4_drop 8 = .ok (.iconst 1, 1) := by decide +kernel
theorem dX4_drop_9 : decode cX4_drop 9 = .ok (.isub, 1) := by decide +kernel
theorem dX4_drop_10 : decode cX4_drop 10 = .ok (.iastore, 1) := by decide +kernel
theorem dX4_drop_11 : decode cX4_drop 11 = .ok (.sipush 150, 3) := by decide +kernel
theorem dX4_drop_14 : decode cX4_drop 14 = .ok (.iconst 4, 1) := by decide +kernel
theorem dX4_drop_15 : decode cX4_drop 15 = .ok (.iload_n 1, 1) := by decide +kernel
theorem dX4_drop_16 : decode cX4_drop 16 = .ok (.imul, 1) := by decide +kernel
theorem dX4_drop_17 : decode cX4_drop 17 = .ok (.iadd, 1) := by decide +kernel
theorem dX4_drop_18 : decode cX4_drop 18 = .ok (.istore_n 2, 1) := by decide +kernel
theorem dX4_drop_19 : decode cX4_drop 19 = .ok (.iload_n 2, 1) := by decide +kernel
theorem dX4_drop_20 : decode cX4_drop 20 = .ok (.sipush 150, 3) := by decide +kernel
theorem dX4_drop_23 : decode cX4_drop 23 = .ok (.iconst 4, 1) := by decide +kernel
theorem dX4_drop_24 : decode cX4_drop 24 = .ok (.aload_n 0, 1) := by decide +kernel
theorem dX4_drop_25 : decode cX4_drop 25 = .ok (.getfield 7, 3) := by decide +kernel
theorem dX4_drop_28 : decode cX4_drop 28 = .ok (.bipush 6, 2) := by decide +kernel
theorem dX4_drop_30 : decode cX4_drop 30 = .ok (.iaload, 1) := by decide +kernel
theorem dX4_drop_31 : decode cX4_drop 31 = .ok (.imul, 1) := by decide +kernel
theorem dX4_drop_32 : decode cX4_drop 32 = .ok (.iadd, 1) := by decide +kernel
theorem dX4_drop_33 : decode cX4_drop 33 = .ok (.if_icmp .ge 23, 3) := by decide +kernel
theorem dX4_drop_36 : decode cX4_drop 36 = .ok (.aload_n 0, 1) := by decide +kernel
theorem dX4_drop_37 : decode cX4_drop 37 = .ok (.getfield 7, 3) := by decide +kernel
theorem dX4_drop_40 : decode cX4_drop 40 = .ok (.iload_n 2, 1) := by decide +kernel
theorem dX4_drop_41 : decode cX4_drop 41 = .ok (.aload_n 0, 1) := by decide +kernel
theorem dX4_drop_42 : decode cX4_drop 42 = .ok (.getfield 7, 3) := by decide +kernel
theorem dX4_drop_45 : decode cX4_drop 45 = .ok (.iload_n 2, 1) := by decide +kernel
theorem dX4_drop_46 : decode cX4_drop 46 = .ok (.iconst 4, 1) := by decide +kernel
theorem dX4_drop_47 : decode cX4_drop 47 = .ok (.iadd, 1) := by decide +kernel
theorem dX4_drop_48 : decode cX4_drop 48 = .ok (.iaload, 1) := by decide +kernel
theorem dX4_drop_49 : decode cX4_drop 49 = .ok (.iastore, 1) := by decide +kernel
theorem dX4_drop_50 : decode cX4_drop 50 = .ok (.iinc 2 1, 3) := by decide +kernel
theorem dX4_drop_53 : decode cX4_drop 53 = .ok (.goto (-34), 3) := by decide +kernel
theorem dX4_drop_56 : decode cX4_drop 56 = .ok (.return_, 1) := by decide +kernel
theorem dX4_answer_0 : decode cX4_answer 0 = .ok (.aload_n 0, 1) := by decide +kernel
theorem dX4_answer_1 : decode cX4_answer 1 = .ok (.iload_n 1, 1) := by decide +kernel
theorem dX4_answer_2 : decode cX4_answer 2 = .ok (.iconst 1, 1) := by decide +kernel
theorem dX4_answer_3 : decode cX4_answer 3 = .ok (.invokevirtual 40, 3) := by decide +kernel
theorem dX4_answer_6 : decode cX4_answer 6 = .ok (.istore_n 3, 1) := by decide +kernel
theorem dX4_answer_7 : decode cX4_answer 7 = .ok (.iload_n 3, 1) := by decide +kernel
theorem dX4_answer_8 : decode cX4_answer 8 = .ok (.iconst 1, 1) := by decide +kernel
theorem dX4_answer_9 : decode cX4_answer 9 = .ok (.if_icmp .eq 8, 3) := by decide +kernel
theorem dX4_answer_12 : decode cX4_answer 12 = .ok (.iload_n 3, 1) := by decide +kernel
theorem dX4_answer_13 : decode cX4_answer 13 = .ok (.iconst 3, 1) := by decide +kernel
theorem dX4_answer_14 : decode cX4_answer 14 = .ok (.if_icmp .ne 14, 3) := by decide +kernel
theorem dX4_answer_17 : decode cX4_answer 17 = .ok (.aload_n 0, 1) := by decide +kernel
theorem dX4_answer_18 : decode cX4_answer 18 = .ok (.iconst 3, 1) := by decide +kernel
theorem dX4_answer_19 : decode cX4_answer 19 = .ok (.iload_n 1, 1) := by decide +kernel
theorem dX4_answer_20 : decode cX4_answer 20 = .ok (.iconst 4, 1) := by decide +kernel
theorem dX4_answer_21 : decode cX4_answer 21 = .ok (.iload_n 2, 1) := by decide +kernel
theorem dX4_answer_22 : decode cX4_answer 22 = .ok (.invokevirtual 48, 3) := by decide +kernel
theorem dX4_answer_25 : decode cX4_answer 25 = .ok (.goto 16, 3) := by decide +kernel
theorem dX4_answer_28 : decode cX4_answer 28 = .ok (.iload_n 3, 1) := by decide +kernel
theorem dX4_answer_29 : decode cX4_answer 29 = .ok (.iconst 2, 1) := by decide +kernel
theorem dX4_answer_30 : decode cX4_answer 30 = .ok (.if_icmp .ne 11, 3) := by decide +kernel
theorem dX4_answer_33 : decode cX4_answer 33 = .ok (.aload_n 0, 1) := by decide +kernel
theorem dX4_answer_34 : decode cX4_answer 34 = .ok (.iconst 4, 1) := by decide +kernel
theorem dX4_answer_35 : decode cX4_answer 35 = .ok (.iload_n 1, 1) := by decide +kernel
theorem dX4_answer_36 : decode cX4_answer 36 = .ok (.iconst 4, 1) := by decide +kernel
theorem dX4_answer_37 : decode cX4_answer 37 = .ok (.iload_n 2, 1) := by decide +kernel
theorem dX4_answer_38 : decode cX4_answer 38 = .ok (.invokevirtual 48, 3) := by decide +kernel
theorem dX4_answer_41 : decode cX4_answer 41 = .ok (.return_, 1) := by decide +kernel
theorem dX4_tear_0 : decode cX4_tear 0 = .ok (.aload_n 0, 1) := by decide +kernel
theorem dX4_tear_1 : decode cX4_tear 1 = .ok (.iload_n 1, 1) := by decide +kernel
theorem dX4_tear_2 : decode cX4_tear 2 = .ok (.iconst 1, 1) := by decide +kernel
theorem dX4_tear_3 : decode cX4_tear 3 = .ok (.iconst 2, 1) := by decide +kernel
theorem dX4_tear_4 : decode cX4_tear 4 = .ok (.invokevirtual 52, 3) := by decide +kernel
theorem dX4_tear_7 : decode cX4_tear 7 = .ok (.aload_n 0, 1) := by decide +kernel
theorem dX4_tear_8 : decode cX4_tear 8 = .ok (.iconst 4, 1) := by decide +kernel
theorem dX4_tear_9 : decode cX4_tear 9 = .ok (.iload_n 1, 1) := by decide +kernel
theorem dX4_tear_10 : decode cX4_tear 10 = .ok (.iconst 4, 1) := by decide +kernel
theorem dX4_tear_11 : decode cX4_tear 11 = .ok (.iload_n 2, 1) := by decide +kernel
theorem dX4_tear_12 : decode cX4_tear 12 = .ok (.invokevirtual 56, 3) := by decide +kernel
theorem dX4_tear_15 : decode cX4_tear 15 = .ok (.return_, 1) := by decide +kernel
theorem dX4_get_0 : decode cX4_get 0 = .ok (.aload_n 0, 1) := by decide +kernel
theorem dX4_get_1 : decode cX4_get 1 = .ok (.iload_n 2, 1) := by decide +kernel
theorem dX4_get_2 : decode cX4_get 2 = .ok (.iconst 1, 1) := by decide +kernel
theorem dX4_get_3 : decode cX4_get 3 = .ok (.invokevirtual 40, 3) := by decide +kernel
theorem dX4_get_6 : decode cX4_get 6 = .ok (.istore 4, 2) := by decide +kernel
theorem dX4_get_8 : decode cX4_get 8 = .ok (.aload_n 0, 1) := by decide +kernel
theorem dX4_get_9 : decode cX4_get 9 = .ok (.iload_n 2, 1) := by decide +kernel
theorem dX4_get_10 : decode cX4_get 10 = .ok (.iconst 0, 1) := by decide +kernel
theorem dX4_get_11 : decode cX4_get 11 = .ok (.invokevirtual 40, 3) := by decide +kernel
theorem dX4_get_14 : decode cX4_get 14 = .ok (.istore 5, 2) := by decide +kernel
theorem dX4_get_16 : decode cX4_get 16 = .ok (.iload_n 1, 1) := by decide +kernel
theorem dX4_get_17 : decode cX4_get 17 = .ok (.tableswitch 173 1 5 #[35, 105, 173, 173, 126], 35) := by decide +kernel
theorem dX4_get_52 : decode cX4_get 52 = .ok (.iload 4, 2) := by decide +kernel
theorem dX4_get_54 : decode cX4_get 54 = .ok (.ifCond .eq 10, 3) := by decide +kernel
theorem dX4_get_57 : decode cX4_get 57 = .ok (.aload_n 0, 1) := by decide +kernel
theorem dX4_get_58 : decode cX4_get 58 = .ok (.iload_n 2, 1) := by decide +kernel
theorem dX4_get_59 : decode cX4_get 59 = .ok (.iload_n 3, 1) := by decide +kernel
theorem dX4_get_60 : decode cX4_get 60 = .ok (.invokevirtual 59, 3) := by decide +kernel
theorem dX4_get_63 : decode cX4_get 63 = .ok (.return_, 1) := by decide +kernel
theorem dX4_get_64 : decode cX4_get 64 = .ok (.aload_n 0, 1) := by decide +kernel
theorem dX4_get_65 : decode cX4_get 65 = .ok (.iload_n 2, 1) := by decide +kernel
theorem dX4_get_66 : decode cX4_get 66 = .ok (.iconst 4, 1) := by decide +kernel
theorem dX4_get_67 : decode cX4_get 67 = .ok (.aload_n 0, 1) := by decide +kernel
theorem dX4_get_68 : decode cX4_get 68 = .ok (.iload_n 2, 1) := by decide +kernel
theorem dX4_get_69 : decode cX4_get 69 = .ok (.iconst 4, 1) := by decide +kernel
theorem dX4_get_70 : decode cX4_get 70 = .ok (.invokevirtual 40, 3) := by decide +kernel
theorem dX4_get_73 : decode cX4_get 73 = .ok (.iconst 1, 1) := by decide +kernel
theorem dX4_get_74 : decode cX4_get 74 = .ok (.iload_n 3, 1) := by decide +kernel
theorem dX4_get_75 : decode cX4_get 75 = .ok (.ishl, 1) := by decide +kernel
theorem dX4_get_76 : decode cX4_get 76 = .ok (.ior, 1) := by decide +kernel
theorem dX4_get_77 : decode cX4_get 77 = .ok (.invokevirtual 52, 3) := by decide +kernel
theorem dX4_get_80 : decode cX4_get 80 = .ok (.aload_n 0, 1) := by decide +kernel
theorem dX4_get_81 : decode cX4_get 81 = .ok (.iload_n 2, 1) := by decide +kernel
theorem dX4_get_82 : decode cX4_get 82 = .ok (.iconst 4, 1) := by decide +kernel
theorem dX4_get_83 : decode cX4_get 83 = .ok (.invokevirtual 40, 3) := by decide +kernel
theorem dX4_get_86 : decode cX4_get 86 = .ok (.iload 5, 2) := by decide +kernel
theorem dX4_get_88 : decode cX4_get 88 = .ok (.if_icmp .ne 108, 3) := by decide +kernel
theorem dX4_get_91 : decode cX4_get 91 = .ok (.aload_n 0, 1) := by decide +kernel
theorem dX4_get_92 : decode cX4_get 92 = .ok (.iload_n 2, 1) := by decide +kernel
theorem dX4_get_93 : decode cX4_get 93 = .ok (.iconst 1, 1) := by decide +kernel
theorem dX4_get_94 : decode cX4_get 94 = .ok (.iconst 1, 1) := by decide +kernel
theorem dX4_get_95 : decode cX4_get 95 = .ok (.invokevirtual 52, 3) := by decide +kernel
theorem dX4_get_98 : decode cX4_get 98 = .ok (.aload_n 0, 1) := by decide +kernel
theorem dX4_get_99 : decode cX4_get 99 = .ok (.iload_n 2, 1) := by decide +kernel
theorem dX4_get_100 : decode cX4_get 100 = .ok (.iconst 3, 1) := by decide +kernel
theorem dX4_get_101 : decode cX4_get 101 = .ok (.aload_n 0, 1) := by decide +kernel
theorem dX4_get_102 : decode cX4_get 102 = .ok (.getfield 7, 3) := by decide +kernel
theorem dX4_get_105 : decode cX4_get 105 = .ok (.iconst 4, 1) := by decide +kernel
theorem dX4_get_106 : decode cX4_get 106 = .ok (.iaload, 1) := by decide +kernel
theorem dX4_get_107 : decode cX4_get 107 = .ok (.invokevirtual 52, 3) := by decide +kernel
theorem dX4_get_110 : decode cX4_get 110 = .ok (.aload_n 0, 1) := by decide +kernel
theorem dX4_get_111 : decode cX4_get 111 = .ok (.iconst 3, 1) := by decide +kernel
theorem dX4_get_112 : decode cX4_get 112 = .ok (.iload_n 2, 1) := by decide +kernel
theorem dX4_get_113 : decode cX4_get 113 = .ok (.iconst 4, 1) := by decide +kernel
theorem dX4_get_114 : decode cX4_get 114 = .ok (.iload 5, 2) := by decide +kernel
theorem dX4_get_116 : decode cX4_get 116 = .ok (.invokevirtual 56, 3) := by decide +kernel
theorem dX4_get_119 : decode cX4_get 119 = .ok (.goto 77, 3) := by decide +kernel
theorem dX4_get_122 : decode cX4_get 122 = .ok (.iload 4, 2) := by decide +kernel
theorem dX4_get_124 : decode cX4_get 124 = .ok (.ifCond .ne 72, 3) := by decide +kernel
theorem dX4_get_127 : decode cX4_get 127 = .ok (.aload_n 0, 1) := by decide +kernel
theorem dX4_get_128 : decode cX4_get 128 = .ok (.iload_n 2, 1) := by decide +kernel
theorem dX4_get_129 : decode cX4_get 129 = .ok (.iload 5, 2) := by decide +kernel
theorem dX4_get_131 : decode cX4_get 131 = .ok (.iconst 1, 1) := by decide +kernel
theorem dX4_get_132 : decode cX4_get 132 = .ok (.iload_n 3, 1) := by decide +kernel
theorem dX4_get_133 : decode cX4_get 133 = .ok (.ishl, 1) := by decide +kernel
theorem dX4_get_134 : decode cX4_get 134 = .ok (.iconst (-1), 1) := by decide +kernel
theorem dX4_get_135 : decode cX4_get 135 = .ok (.ixor, 1) := by decide +kernel
theorem dX4_get_136 : decode cX4_get 136 = .ok (.iand, 1) := by decide +kernel
theorem dX4_get_137 : decode cX4_get 137 = .ok (.invokevirtual 63, 3) := by decide +kernel
theorem dX4_get_140 : decode cX4_get 140 = .ok (.goto 56, 3) := by decide +kernel
theorem dX4_get_143 : decode cX4_get 143 = .ok (.iload 4, 2) := by decide +kernel
theorem dX4_get_145 : decode cX4_get 145 = .ok (.iconst 1, 1) := by decide +kernel
theorem dX4_get_146 : decode cX4_get 146 = .ok (.if_icmp .ne 50, 3) := by decide +kernel
theorem dX4_get_149 : decode cX4_get 149 = .ok (.aload_n 0, 1) := by decide +kernel
theorem dX4_get_150 : decode cX4_get 150 = .ok (.iload_n 2, 1) := by decide +kernel
theorem dX4_get_151 : decode cX4_get 151 = .ok (.iconst 5, 1) := by decide +kernel
theorem dX4_get_152 : decode cX4_get 152 = .ok (.aload_n 0, 1) := by decide +kernel
theorem dX4_get_153 : decode cX4_get 153 = .ok (.iload_n 2, 1) := by decide +kernel
theorem dX4_get_154 : decode cX4_get 154 = .ok (.iconst 5, 1) := by decide +kernel
theorem dX4_get_155 : decode cX4_get 155 = .ok (.invokevirtual 40, 3) := by decide +kernel
theorem dX4_get_158 : decode cX4_get 158 = .ok (.iconst 1, 1) := by decide +kernel
theorem dX4_get_159 : decode cX4_get 159 = .ok (.iload_n 3, 1) := by decide +kernel
theorem dX4_get_160 : decode cX4_get 160 = .ok (.ishl, 1) := by decide +kernel
theorem dX4_get_161 : decode cX4_get 161 = .ok (.ior, 1) := by decide +kernel
theorem dX4_get_162 : decode cX4_get 162 = .ok (.invokevirtual 52, 3) := by decide +kernel
theorem dX4_get_165 : decode cX4_get 165 = .ok (.aload_n 0, 1) := by decide +kernel
theorem dX4_get_166 : decode cX4_get 166 = .ok (.iload_n 2, 1) := by decide +kernel
theorem dX4_get_167 : decode cX4_get 167 = .ok (.iconst 1, 1) := by decide +kernel
theorem dX4_get_168 : decode cX4_get 168 = .ok (.aload_n 0, 1) := by decide +kernel
theorem dX4_get_169 : decode cX4_get 169 = .ok (.iload_n 2, 1) := by decide +kernel
theorem dX4_get_170 : decode cX4_get 170 = .ok (.iconst 5, 1) := by decide +kernel
theorem dX4_get_171 : decode cX4_get 171 = .ok (.invokevirtual 40, 3) := by decide +kernel
theorem dX4_get_174 : decode cX4_get 174 = .ok (.iload 5, 2) := by decide +kernel
theorem dX4_get_176 : decode cX4_get 176 = .ok (.if_icmp .ne 7, 3) := by decide +kernel
theorem dX4_get_179 : decode cX4_get 179 = .ok (.iconst 3, 1) := by decide +kernel
theorem dX4_get_180 : decode cX4_get 180 = .ok (.goto 4, 3) := by decide +kernel
theorem dX4_get_183 : decode cX4_get 183 = .ok (.iconst 1, 1) := by decide +kernel
theorem dX4_get_184 : decode cX4_get 184 = .ok (.invokevirtual 52, 3) := by decide +kernel
theorem dX4_get_187 : decode cX4_get 187 = .ok (.goto 9, 3) := by decide +kernel
theorem dX4_get_190 : decode cX4_get 190 = .ok (.aload_n 0, 1) := by decide +kernel
theorem dX4_get_191 : decode cX4_get 191 = .ok (.iload_n 2, 1) := by decide +kernel
theorem dX4_get_192 : decode cX4_get 192 = .ok (.iload_n 3, 1) := by decide +kernel
theorem dX4_get_193 : decode cX4_get 193 = .ok (.invokevirtual 59, 3) := by decide +kernel
theorem dX4_get_196 : decode cX4_get 196 = .ok (.return_, 1) := by decide +kernel
theorem dX4_become_0 : decode cX4_become 0 = .ok (.aload_n 0, 1) := by decide +kernel
theorem dX4_become_1 : decode cX4_become 1 = .ok (.iload_n 1, 1) := by decide +kernel
theorem dX4_become_2 : decode cX4_become 2 = .ok (.bipush 6, 2) := by decide +kernel
theorem dX4_become_4 : decode cX4_become 4 = .ok (.iload_n 2, 1) := by decide +kernel
theorem dX4_become_5 : decode cX4_become 5 = .ok (.iadd, 1) := by decide +kernel
theorem dX4_become_6 : decode cX4_become 6 = .ok (.iload_n 3, 1) := by decide +kernel
theorem dX4_become_7 : decode cX4_become 7 = .ok (.invokevirtual 52, 3) := by decide +kernel
theorem dX4_become_10 : decode cX4_become 10 = .ok (.return_, 1) := by decide +kernel
theorem dX4_getBy_0 : decode cX4_getBy 0 = .ok (.aload_n 0, 1) := by decide +kernel
theorem dX4_getBy_1 : decode cX4_getBy 1 = .ok (.iload_n 3, 1) := by decide +kernel
theorem dX4_getBy_2 : decode cX4_getBy 2 = .ok (.bipush 6, 2) := by decide +kernel
theorem dX4_getBy_4 : decode cX4_getBy 4 = .ok (.iload_n 1, 1) := by decide +kernel
theorem dX4_getBy_5 : decode cX4_getBy 5 = .ok (.iadd, 1) := by decide +kernel
theorem dX4_getBy_6 : decode cX4_getBy 6 = .ok (.invokevirtual 40, 3) := by decide +kernel
theorem dX4_getBy_9 : decode cX4_getBy 9 = .ok (.istore 5, 2) := by decide +kernel
theorem dX4_getBy_11 : decode cX4_getBy 11 = .ok (.iload_n 2, 1) := by decide +kernel
theorem dX4_getBy_12 : decode cX4_getBy 12 = .ok (.tableswitch 190 0 4 #[36, 190, 190, 132, 169], 36) := by decide +kernel
theorem dX4_getBy_48 : decode cX4_getBy 48 = .ok (.iload 5, 2) := by decide +kernel
theorem dX4_getBy_50 : decode cX4_getBy 50 = .ok (.ifCond .ne 41, 3) := by decide +kernel
theorem dX4_getBy_53 : decode cX4_getBy 53 = .ok (.aload_n 0, 1) := by decide +kernel
theorem dX4_getBy_54 : decode cX4_getBy 54 = .ok (.getfield 7, 3) := by decide +kernel
theorem dX4_getBy_57 : decode cX4_getBy 57 = .ok (.bipush 15, 2) := by decide +kernel
theorem dX4_getBy_59 : decode cX4_getBy 59 = .ok (.iload_n 1, 1) := by decide +kernel
theorem dX4_getBy_60 : decode cX4_getBy 60 = .ok (.iadd, 1) := by decide +kernel
theorem dX4_getBy_61 : decode cX4_getBy 61 = .ok (.iaload, 1) := by decide +kernel
theorem dX4_getBy_62 : decode cX4_getBy 62 = .ok (.iconst 1, 1) := by decide +kernel
theorem dX4_getBy_63 : decode cX4_getBy 63 = .ok (.if_icmp .ne 28, 3) := by decide +kernel
theorem dX4_getBy_66 : decode cX4_getBy 66 = .ok (.aload_n 0, 1) := by decide +kernel
theorem dX4_getBy_67 : decode cX4_getBy 67 = .ok (.iload_n 3, 1) := by decide +kernel
theorem dX4_getBy_68 : decode cX4_getBy 68 = .ok (.bipush 10, 2) := by decide +kernel
theorem dX4_getBy_70 : decode cX4_getBy 70 = .ok (.iload_n 1, 1) := by decide +kernel
theorem dX4_getBy_71 : decode cX4_getBy 71 = .ok (.iadd, 1) := by decide +kernel
theorem dX4_getBy_72 : decode cX4_getBy 72 = .ok (.aload_n 0, 1) := by decide +kernel
theorem dX4_getBy_73 : decode cX4_getBy 73 = .ok (.getfield 7, 3) := by decide +kernel
theorem dX4_getBy_76 : decode cX4_getBy 76 = .ok (.iconst 4, 1) := by decide +kernel
theorem dX4_getBy_77 : decode cX4_getBy 77 = .ok (.iaload, 1) := by decide +kernel
theorem dX4_getBy_78 : decode cX4_getBy 78 = .ok (.invokevirtual 52, 3) := by decide +kernel
theorem dX4_getBy_81 : decode cX4_getBy 81 = .ok (.aload_n 0, 1) := by decide +kernel
theorem dX4_getBy_82 : decode cX4_getBy 82 = .ok (.iload_n 3, 1) := by decide +kernel
theorem dX4_getBy_83 : decode cX4_getBy 83 = .ok (.iload_n 1, 1) := by decide +kernel
theorem dX4_getBy_84 : decode cX4_getBy 84 = .ok (.iconst 1, 1) := by decide +kernel
theorem dX4_getBy_85 : decode cX4_getBy 85 = .ok (.invokevirtual 66, 3) := by decide +kernel
theorem dX4_getBy_88 : decode cX4_getBy 88 = .ok (.goto 15, 3) := by decide +kernel
theorem dX4_getBy_91 : decode cX4_getBy 91 = .ok (.iload 5, 2) := by decide +kernel
theorem dX4_getBy_93 : decode cX4_getBy 93 = .ok (.ifCond .ne 10, 3) := by decide +kernel
theorem dX4_getBy_96 : decode cX4_getBy 96 = .ok (.aload_n 0, 1) := by decide +kernel
theorem dX4_getBy_97 : decode cX4_getBy 97 = .ok (.iload_n 3, 1) := by decide +kernel
theorem dX4_getBy_98 : decode cX4_getBy 98 = .ok (.iload_n 1, 1) := by decide +kernel
theorem dX4_getBy_99 : decode cX4_getBy 99 = .ok (.iconst 3, 1) := by decide +kernel
theorem dX4_getBy_100 : decode cX4_getBy 100 = .ok (.invokevirtual 66, 3) := by decide +kernel
theorem dX4_getBy_103 : decode cX4_getBy 103 = .ok (.aload_n 0, 1) := by decide +kernel
theorem dX4_getBy_104 : decode cX4_getBy 104 = .ok (.iload_n 3, 1) := by decide +kernel
theorem dX4_getBy_105 : decode cX4_getBy 105 = .ok (.bipush 6, 2) := by decide +kernel
theorem dX4_getBy_107 : decode cX4_getBy 107 = .ok (.iload_n 1, 1) := by decide +kernel
theorem dX4_getBy_108 : decode cX4_getBy 108 = .ok (.iadd, 1) := by decide +kernel
theorem dX4_getBy_109 : decode cX4_getBy 109 = .ok (.invokevirtual 40, 3) := by decide +kernel
theorem dX4_getBy_112 : decode cX4_getBy 112 = .ok (.iconst 2, 1) := by decide +kernel
theorem dX4_getBy_113 : decode cX4_getBy 113 = .ok (.if_icmp .eq 153, 3) := by decide +kernel
theorem dX4_getBy_116 : decode cX4_getBy 116 = .ok (.aload_n 0, 1) := by decide +kernel
theorem dX4_getBy_117 : decode cX4_getBy 117 = .ok (.aload_n 0, 1) := by decide +kernel
theorem dX4_getBy_118 : decode cX4_getBy 118 = .ok (.iload_n 3, 1) := by decide +kernel
theorem dX4_getBy_119 : decode cX4_getBy 119 = .ok (.bipush 6, 2) := by decide +kernel
theorem dX4_getBy_121 : decode cX4_getBy 121 = .ok (.iload_n 1, 1) := by decide +kernel
theorem dX4_getBy_122 : decode cX4_getBy 122 = .ok (.iadd, 1) := by decide +kernel
theorem dX4_getBy_123 : decode cX4_getBy 123 = .ok (.invokevirtual 40, 3) := by decide +kernel
theorem dX4_getBy_126 : decode cX4_getBy 126 = .ok (.iconst 1, 1) := by decide +kernel
theorem dX4_getBy_127 : decode cX4_getBy 127 = .ok (.if_icmp .ne 7, 3) := by decide +kernel
theorem dX4_getBy_130 : decode cX4_getBy 130 = .ok (.iconst 1, 1) := by decide +kernel
theorem dX4_getBy_131 : decode cX4_getBy 131 = .ok (.goto 4, 3) := by decide +kernel
theorem dX4_getBy_134 : decode cX4_getBy 134 = .ok (.iconst 2, 1) := by decide +kernel
theorem dX4_getBy_135 : decode cX4_getBy 135 = .ok (.iload_n 3, 1) := by decide +kernel
theorem dX4_getBy_136 : decode cX4_getBy 136 = .ok (.iload_n 1, 1) := by decide +kernel
theorem dX4_getBy_137 : decode cX4_getBy 137 = .ok (.iconst 4, 1) := by decide +kernel
theorem dX4_getBy_138 : decode cX4_getBy 138 = .ok (.invokevirtual 48, 3) := by decide +kernel
theorem dX4_getBy_141 : decode cX4_getBy 141 = .ok (.goto 125, 3) := by decide +kernel
theorem dX4_getBy_144 : decode cX4_getBy 144 = .ok (.iload 5, 2) := by decide +kernel
theorem dX4_getBy_146 : decode cX4_getBy 146 = .ok (.iconst 1, 1) := by decide +kernel
theorem dX4_getBy_147 : decode cX4_getBy 147 = .ok (.if_icmp .ne 10, 3) := by decide +kernel
theorem dX4_getBy_150 : decode cX4_getBy 150 = .ok (.aload_n 0, 1) := by decide +kernel
theorem dX4_getBy_151 : decode cX4_getBy 151 = .ok (.iload_n 3, 1) := by decide +kernel
theorem dX4_getBy_152 : decode cX4_getBy 152 = .ok (.iload_n 1, 1) := by decide +kernel
theorem dX4_getBy_153 : decode cX4_getBy 153 = .ok (.iconst 2, 1) := by decide +kernel
theorem dX4_getBy_154 : decode cX4_getBy 154 = .ok (.invokevirtual 66, 3) := by decide +kernel
theorem dX4_getBy_157 : decode cX4_getBy 157 = .ok (.aload_n 0, 1) := by decide +kernel
theorem dX4_getBy_158 : decode cX4_getBy 158 = .ok (.iload_n 3, 1) := by decide +kernel
theorem dX4_getBy_159 : decode cX4_getBy 159 = .ok (.bipush 6, 2) := by decide +kernel
theorem dX4_getBy_161 : decode cX4_getBy 161 = .ok (.iload_n 1, 1) := by decide +kernel
theorem dX4_getBy_162 : decode cX4_getBy 162 = .ok (.iadd, 1) := by decide +kernel
theorem dX4_getBy_163 : decode cX4_getBy 163 = .ok (.invokevirtual 40, 3) := by decide +kernel
theorem dX4_getBy_166 : decode cX4_getBy 166 = .ok (.iconst 2, 1) := by decide +kernel
theorem dX4_getBy_167 : decode cX4_getBy 167 = .ok (.if_icmp .ne 99, 3) := by decide +kernel
theorem dX4_getBy_170 : decode cX4_getBy 170 = .ok (.aload_n 0, 1) := by decide +kernel
theorem dX4_getBy_171 : decode cX4_getBy 171 = .ok (.iconst 5, 1) := by decide +kernel
theorem dX4_getBy_172 : decode cX4_getBy 172 = .ok (.iload_n 3, 1) := by decide +kernel
theorem dX4_getBy_173 : decode cX4_getBy 173 = .ok (.iload_n 1, 1) := by decide +kernel
theorem dX4_getBy_174 : decode cX4_getBy 174 = .ok (.iconst 4, 1) := by decide +kernel
theorem dX4_getBy_175 : decode cX4_getBy 175 = .ok (.invokevirtual 48, 3) := by decide +kernel
theorem dX4_getBy_178 : decode cX4_getBy 178 = .ok (.goto 88, 3) := by decide +kernel
theorem dX4_getBy_181 : decode cX4_getBy 181 = .ok (.iload 5, 2) := by decide +kernel
theorem dX4_getBy_183 : decode cX4_getBy 183 = .ok (.ifCond .eq 9, 3) := by decide +kernel
theorem dX4_getBy_186 : decode cX4_getBy 186 = .ok (.iload 5, 2) := by decide +kernel
theorem dX4_getBy_188 : decode cX4_getBy 188 = .ok (.iconst 1, 1) := by decide +kernel
theorem dX4_getBy_189 : decode cX4_getBy 189 = .ok (.if_icmp .ne 77, 3) := by decide +kernel
theorem dX4_getBy_192 : decode cX4_getBy 192 = .ok (.aload_n 0, 1) := by decide +kernel
theorem dX4_getBy_193 : decode cX4_getBy 193 = .ok (.iload_n 3, 1) := by decide +kernel
theorem dX4_getBy_194 : decode cX4_getBy 194 = .ok (.iload_n 1, 1) := by decide +kernel
theorem dX4_getBy_195 : decode cX4_getBy 195 = .ok (.iconst 3, 1) := by decide +kernel
theorem dX4_getBy_196 : decode cX4_getBy 196 = .ok (.invokevirtual 66, 3) := by decide +kernel
theorem dX4_getBy_199 : decode cX4_getBy 199 = .ok (.goto 67, 3) := by decide +kernel
theorem dX4_getBy_202 : decode cX4_getBy 202 = .ok (.iload 5, 2) := by decide +kernel
theorem dX4_getBy_204 : decode cX4_getBy 204 = .ok (.ifCond .ne 10, 3) := by decide +kernel
theorem dX4_getBy_207 : decode cX4_getBy 207 = .ok (.aload_n 0, 1) := by decide +kernel
theorem dX4_getBy_208 : decode cX4_getBy 208 = .ok (.iload_n 3, 1) := by decide +kernel
theorem dX4_getBy_209 : decode cX4_getBy 209 = .ok (.iload_n 1, 1) := by decide +kernel
theorem dX4_getBy_210 : decode cX4_getBy 210 = .ok (.iconst 3, 1) := by decide +kernel
theorem dX4_getBy_211 : decode cX4_getBy 211 = .ok (.invokevirtual 66, 3) := by decide +kernel
theorem dX4_getBy_214 : decode cX4_getBy 214 = .ok (.aload_n 0, 1) := by decide +kernel
theorem dX4_getBy_215 : decode cX4_getBy 215 = .ok (.iload_n 3, 1) := by decide +kernel
theorem dX4_getBy_216 : decode cX4_getBy 216 = .ok (.bipush 6, 2) := by decide +kernel
theorem dX4_getBy_218 : decode cX4_getBy 218 = .ok (.iload_n 1, 1) := by decide +kernel
theorem dX4_getBy_219 : decode cX4_getBy 219 = .ok (.iadd, 1) := by decide +kernel
theorem dX4_getBy_220 : decode cX4_getBy 220 = .ok (.invokevirtual 40, 3) := by decide +kernel
theorem dX4_getBy_223 : decode cX4_getBy 223 = .ok (.iconst 2, 1) := by decide +kernel
theorem dX4_getBy_224 : decode cX4_getBy 224 = .ok (.if_icmp .eq 16, 3) := by decide +kernel
theorem dX4_getBy_227 : decode cX4_getBy 227 = .ok (.aload_n 0, 1) := by decide +kernel
theorem dX4_getBy_228 : decode cX4_getBy 228 = .ok (.iload_n 3, 1) := by decide +kernel
theorem dX4_getBy_229 : decode cX4_getBy 229 = .ok (.bipush 6, 2) := by decide +kernel
theorem dX4_getBy_231 : decode cX4_getBy 231 = .ok (.iload_n 1, 1) := by decide +kernel
theorem dX4_getBy_232 : decode cX4_getBy 232 = .ok (.iadd, 1) := by decide +kernel
theorem dX4_getBy_233 : decode cX4_getBy 233 = .ok (.invokevirtual 40, 3) := by decide +kernel
theorem dX4_getBy_236 : decode cX4_getBy 236 = .ok (.iconst 3, 1) := by decide +kernel
theorem dX4_getBy_237 : decode cX4_getBy 237 = .ok (.if_icmp .ne 29, 3) := by decide +kernel
theorem dX4_getBy_240 : decode cX4_getBy 240 = .ok (.aload_n 0, 1) := by decide +kernel
theorem dX4_getBy_241 : decode cX4_getBy 241 = .ok (.aload_n 0, 1) := by decide +kernel
theorem dX4_getBy_242 : decode cX4_getBy 242 = .ok (.iload_n 3, 1) := by decide +kernel
theorem dX4_getBy_243 : decode cX4_getBy 243 = .ok (.bipush 6, 2) := by decide +kernel
theorem dX4_getBy_245 : decode cX4_getBy 245 = .ok (.iload_n 1, 1) := by decide +kernel
theorem dX4_getBy_246 : decode cX4_getBy 246 = .ok (.iadd, 1) := by decide +kernel
theorem dX4_getBy_247 : decode cX4_getBy 247 = .ok (.invokevirtual 40, 3) := by decide +kernel
theorem dX4_getBy_250 : decode cX4_getBy 250 = .ok (.iconst 2, 1) := by decide +kernel
theorem dX4_getBy_251 : decode cX4_getBy 251 = .ok (.if_icmp .ne 7, 3) := by decide +kernel
theorem dX4_getBy_254 : decode cX4_getBy 254 = .ok (.iconst 3, 1) := by decide +kernel
theorem dX4_getBy_255 : decode cX4_getBy 255 = .ok (.goto 4, 3) := by decide +kernel
theorem dX4_getBy_258 : decode cX4_getBy 258 = .ok (.iconst 4, 1) := by decide +kernel
theorem dX4_getBy_259 : decode cX4_getBy 259 = .ok (.iload_n 3, 1) := by decide +kernel
theorem dX4_getBy_260 : decode cX4_getBy 260 = .ok (.iload_n 1, 1) := by decide +kernel
theorem dX4_getBy_261 : decode cX4_getBy 261 = .ok (.iload 4, 2) := by decide +kernel
theorem dX4_getBy_263 : decode cX4_getBy 263 = .ok (.invokevirtual 48, 3) := by decide +kernel
theorem dX4_getBy_266 : decode cX4_getBy 266 = .ok (.return_, 1) := by decide +kernel
theorem dX4_deliverNow_0 : decode cX4_deliverNow 0 = .ok (.sipush 150, 3) := by decide +kernel
theorem dX4_deliverNow_3 : decode cX4_deliverNow 3 = .ok (.iconst 4, 1) := by decide +kernel
theorem dX4_deliverNow_4 : decode cX4_deliverNow 4 = .ok (.iload_n 1, 1) := by decide +kernel
theorem dX4_deliverNow_5 : decode cX4_deliverNow 5 = .ok (.imul, 1) := by decide +kernel
theorem dX4_deliverNow_6 : decode cX4_deliverNow 6 = .ok (.iadd, 1) := by decide +kernel
theorem dX4_deliverNow_7 : decode cX4_deliverNow 7 = .ok (.istore_n 2, 1) := by decide +kernel
theorem dX4_deliverNow_8 : decode cX4_deliverNow 8 = .ok (.aload_n 0, 1) := by decide +kernel
theorem dX4_deliverNow_9 : decode cX4_deliverNow 9 = .ok (.getfield 7, 3) := by decide +kernel
theorem dX4_deliverNow_12 : decode cX4_deliverNow 12 = .ok (.iload_n 2, 1) := by decide +kernel
theorem dX4_deliverNow_13 : decode cX4_deliverNow 13 = .ok (.iaload, 1) := by decide +kernel
theorem dX4_deliverNow_14 : decode cX4_deliverNow 14 = .ok (.istore_n 3, 1) := by decide +kernel
theorem dX4_deliverNow_15 : decode cX4_deliverNow 15 = .ok (.aload_n 0, 1) := by decide +kernel
theorem dX4_deliverNow_16 : decode cX4_deliverNow 16 = .ok (.getfield 7, 3) := by decide +kernel
theorem dX4_deliverNow_19 : decode cX4_deliverNow 19 = .ok (.iload_n 2, 1) := by decide +kernel
theorem dX4_deliverNow_20 : decode cX4_deliverNow 20 = .ok (.iconst 1, 1) := by decide +kernel
theorem dX4_deliverNow_21 : decode cX4_deliverNow 21 = .ok (.iadd, 1) := by decide +kernel
theorem dX4_deliverNow_22 : decode cX4_deliverNow 22 = .ok (.iaload, 1) := by decide +kernel
theorem dX4_deliverNow_23 : decode cX4_deliverNow 23 = .ok (.istore 4, 2) := by decide +kernel
theorem dX4_deliverNow_25 : decode cX4_deliverNow 25 = .ok (.aload_n 0, 1) := by decide +kernel
theorem dX4_deliverNow_26 : decode cX4_deliverNow 26 = .ok (.getfield 7, 3) := by decide +kernel
theorem dX4_deliverNow_29 : decode cX4_deliverNow 29 = .ok (.iload_n 2, 1) := by decide +kernel
theorem dX4_deliverNow_30 : decode cX4_deliverNow 30 = .ok (.iconst 2, 1) := by decide +kernel
theorem dX4_deliverNow_31 : decode cX4_deliverNow 31 = .ok (.iadd, 1) := by decide +kernel
theorem dX4_deliverNow_32 : decode cX4_deliverNow 32 = .ok (.iaload, 1) := by decide +kernel
theorem dX4_deliverNow_33 : decode cX4_deliverNow 33 = .ok (.istore 5, 2) := by decide +kernel
theorem dX4_deliverNow_35 : decode cX4_deliverNow 35 = .ok (.aload_n 0, 1) := by decide +kernel
theorem dX4_deliverNow_36 : decode cX4_deliverNow 36 = .ok (.getfield 7, 3) := by decide +kernel
theorem dX4_deliverNow_39 : decode cX4_deliverNow 39 = .ok (.iload_n 2, 1) := by decide +kernel
theorem dX4_deliverNow_40 : decode cX4_deliverNow 40 = .ok (.iconst 3, 1) := by decide +kernel
theorem dX4_deliverNow_41 : decode cX4_deliverNow 41 = .ok (.iadd, 1) := by decide +kernel
theorem dX4_deliverNow_42 : decode cX4_deliverNow 42 = .ok (.iaload, 1) := by decide +kernel
theorem dX4_deliverNow_43 : decode cX4_deliverNow 43 = .ok (.istore 6, 2) := by decide +kernel
theorem dX4_deliverNow_45 : decode cX4_deliverNow 45 = .ok (.aload_n 0, 1) := by decide +kernel
theorem dX4_deliverNow_46 : decode cX4_deliverNow 46 = .ok (.iload_n 1, 1) := by decide +kernel
theorem dX4_deliverNow_47 : decode cX4_deliverNow 47 = .ok (.invokevirtual 69, 3) := by decide +kernel
theorem dX4_deliverNow_50 : decode cX4_deliverNow 50 = .ok (.aload_n 0, 1) := by decide +kernel
theorem dX4_deliverNow_51 : decode cX4_deliverNow 51 = .ok (.iload 6, 2) := by decide +kernel
theorem dX4_deliverNow_53 : decode cX4_deliverNow 53 = .ok (.invokevirtual 73, 3) := by decide +kernel
theorem dX4_deliverNow_56 : decode cX4_deliverNow 56 = .ok (.ifCond .eq 15, 3) := by decide +kernel
theorem dX4_deliverNow_59 : decode cX4_deliverNow 59 = .ok (.aload_n 0, 1) := by decide +kernel
theorem dX4_deliverNow_60 : decode cX4_deliverNow 60 = .ok (.getfield 7, 3) := by decide +kernel
theorem dX4_deliverNow_63 : decode cX4_deliverNow 63 = .ok (.bipush 8, 2) := by decide +kernel
theorem dX4_deliverNow_65 : decode cX4_deliverNow 65 = .ok (.dup2, 1) := by decide +kernel
theorem dX4_deliverNow_66 : decode cX4_deliverNow 66 = .ok (.iaload, 1) := by decide +kernel
theorem dX4_deliverNow_67 : decode cX4_deliverNow 67 = .ok (.iconst 1, 1) := by decide +kernel
theorem dX4_deliverNow_68 : decode cX4_deliverNow 68 = .ok (.iadd, 1) := by decide +kernel
theorem dX4_deliverNow_69 : decode cX4_deliverNow 69 = .ok (.iastore, 1) := by decide +kernel
theorem dX4_deliverNow_70 : decode cX4_deliverNow 70 = .ok (.return_, 1) := by decide +kernel
theorem dX4_deliverNow_71 : decode cX4_deliverNow 71 = .ok (.aload_n 0, 1) := by decide +kernel
theorem dX4_deliverNow_72 : decode cX4_deliverNow 72 = .ok (.getfield 7, 3) := by decide +kernel
theorem dX4_deliverNow_75 : decode cX4_deliverNow 75 = .ok (.bipush 7, 2) := by decide +kernel
theorem dX4_deliverNow_77 : decode cX4_deliverNow 77 = .ok (.dup2, 1) := by decide +kernel
theorem dX4_deliverNow_78 : decode cX4_deliverNow 78 = .ok (.iaload, 1) := by decide +kernel
theorem dX4_deliverNow_79 : decode cX4_deliverNow 79 = .ok (.iconst 1, 1) := by decide +kernel
theorem dX4_deliverNow_80 : decode cX4_deliverNow 80 = .ok (.iadd, 1) := by decide +kernel
theorem dX4_deliverNow_81 : decode cX4_deliverNow 81 = .ok (.iastore, 1) := by decide +kernel
theorem dX4_deliverNow_82 : decode cX4_deliverNow 82 = .ok (.aload_n 0, 1) := by decide +kernel
theorem dX4_deliverNow_83 : decode cX4_deliverNow 83 = .ok (.getfield 7, 3) := by decide +kernel
theorem dX4_deliverNow_86 : decode cX4_deliverNow 86 = .ok (.bipush 20, 2) := by decide +kernel
theorem dX4_deliverNow_88 : decode cX4_deliverNow 88 = .ok (.iload 6, 2) := by decide +kernel
theorem dX4_deliverNow_90 : decode cX4_deliverNow 90 = .ok (.iadd, 1) := by decide +kernel
theorem dX4_deliverNow_91 : decode cX4_deliverNow 91 = .ok (.dup2, 1) := by decide +kernel
theorem dX4_deliverNow_92 : decode cX4_deliverNow 92 = .ok (.iaload, 1) := by decide +kernel
theorem dX4_deliverNow_93 : decode cX4_deliverNow 93 = .ok (.iconst 1, 1) := by decide +kernel
theorem dX4_deliverNow_94 : decode cX4_deliverNow 94 = .ok (.iadd, 1) := by decide +kernel
theorem dX4_deliverNow_95 : decode cX4_deliverNow 95 = .ok (.iastore, 1) := by decide +kernel
theorem dX4_deliverNow_96 : decode cX4_deliverNow 96 = .ok (.iload 6, 2) := by decide +kernel
theorem dX4_deliverNow_98 : decode cX4_deliverNow 98 = .ok (.iconst 4, 1) := by decide +kernel
theorem dX4_deliverNow_99 : decode cX4_deliverNow 99 = .ok (.if_icmp .ne 15, 3) := by decide +kernel
theorem dX4_deliverNow_102 : decode cX4_deliverNow 102 = .ok (.aload_n 0, 1) := by decide +kernel
theorem dX4_deliverNow_103 : decode cX4_deliverNow 103 = .ok (.iload_n 3, 1) := by decide +kernel
theorem dX4_deliverNow_104 : decode cX4_deliverNow 104 = .ok (.iload 4, 2) := by decide +kernel
theorem dX4_deliverNow_106 : decode cX4_deliverNow 106 = .ok (.iload 5, 2) := by decide +kernel
theorem dX4_deliverNow_108 : decode cX4_deliverNow 108 = .ok (.invokevirtual 77, 3) := by decide +kernel
theorem dX4_deliverNow_111 : decode cX4_deliverNow 111 = .ok (.goto 14, 3) := by decide +kernel
theorem dX4_deliverNow_114 : decode cX4_deliverNow 114 = .ok (.aload_n 0, 1) := by decide +kernel
theorem dX4_deliverNow_115 : decode cX4_deliverNow 115 = .ok (.iload 6, 2) := by decide +kernel
theorem dX4_deliverNow_117 : decode cX4_deliverNow 117 = .ok (.iload_n 3, 1) := by decide +kernel
theorem dX4_deliverNow_118 : decode cX4_deliverNow 118 = .ok (.iload 4, 2) := by decide +kernel
theorem dX4_deliverNow_120 : decode cX4_deliverNow 120 = .ok (.iload 5, 2) := by decide +kernel
theorem dX4_deliverNow_122 : decode cX4_deliverNow 122 = .ok (.invokevirtual 80, 3) := by decide +kernel
theorem dX4_deliverNow_125 : decode cX4_deliverNow 125 = .ok (.return_, 1) := by decide +kernel
theorem dX4_isTime_0 : decode cX4_isTime 0 = .ok (.iload_n 0, 1) := by decide +kernel
theorem dX4_isTime_1 : decode cX4_isTime 1 = .ok (.ifCond .le 13, 3) := by decide +kernel
theorem dX4_isTime_4 : decode cX4_isTime 4 = .ok (.iload_n 0, 1) := by decide +kernel
theorem dX4_isTime_5 : decode cX4_isTime 5 = .ok (.iload_n 1, 1) := by decide +kernel
theorem dX4_isTime_6 : decode cX4_isTime 6 = .ok (.irem, 1) := by decide +kernel
theorem dX4_isTime_7 : decode cX4_isTime 7 = .ok (.ifCond .ne 7, 3) := by decide +kernel
theorem dX4_isTime_10 : decode cX4_isTime 10 = .ok (.iconst 1, 1) := by decide +kernel
theorem dX4_isTime_11 : decode cX4_isTime 11 = .ok (.goto 4, 3) := by decide +kernel
theorem dX4_isTime_14 : decode cX4_isTime 14 = .ok (.iconst 0, 1) := by decide +kernel
theorem dX4_isTime_15 : decode cX4_isTime 15 = .ok (.ireturn, 1) := by decide +kernel
theorem dX4_passBetween_0 : decode cX4_passBetween 0 = .ok (.aload_n 0, 1) := by decide +kernel
theorem dX4_passBetween_1 : decode cX4_passBetween 1 = .ok (.iload_n 1, 1) := by decide +kernel
theorem dX4_passBetween_2 : decode cX4_passBetween 2 = .ok (.iconst 0, 1) := by decide +kernel
theorem dX4_passBetween_3 : decode cX4_passBetween 3 = .ok (.invokevirtual 40, 3) := by decide +kernel
theorem dX4_passBetween_6 : decode cX4_passBetween 6 = .ok (.istore_n 2, 1) := by decide +kernel
theorem dX4_passBetween_7 : decode cX4_passBetween 7 = .ok (.aload_n 0, 1) := by decide +kernel
theorem dX4_passBetween_8 : decode cX4_passBetween 8 = .ok (.iload_n 1, 1) := by decide +kernel
theorem dX4_passBetween_9 : decode cX4_passBetween 9 = .ok (.iconst 1, 1) := by decide +kernel
theorem dX4_passBetween_10 : decode cX4_passBetween 10 = .ok (.invokevirtual 40, 3) := by decide +kernel
theorem dX4_passBetween_13 : decode cX4_passBetween 13 = .ok (.ifCond .ne 34, 3) := by decide +kernel
theorem dX4_passBetween_16 : decode cX4_passBetween 16 = .ok (.aload_n 0, 1) := by decide +kernel
theorem dX4_passBetween_17 : decode cX4_passBetween 17 = .ok (.getfield 7, 3) := by decide +kernel
theorem dX4_passBetween_20 : decode cX4_passBetween 20 = .ok (.iconst 4, 1) := by decide +kernel
theorem dX4_passBetween_21 : decode cX4_passBetween 21 = .ok (.iaload, 1) := by decide +kernel
theorem dX4_passBetween_22 : decode cX4_passBetween 22 = .ok (.aload_n 0, 1) := by decide +kernel
theorem dX4_passBetween_23 : decode cX4_passBetween 23 = .ok (.iload_n 1, 1) := by decide +kernel
theorem dX4_passBetween_24 : decode cX4_passBetween 24 = .ok (.iconst 2, 1) := by decide +kernel
theorem dX4_passBetween_25 : decode cX4_passBetween 25 = .ok (.invokevirtual 40, 3) := by decide +kernel
theorem dX4_passBetween_28 : decode cX4_passBetween 28 = .ok (.isub, 1) := by decide +kernel
theorem dX4_passBetween_29 : decode cX4_passBetween 29 = .ok (.aload_n 0, 1) := by decide +kernel
theorem dX4_passBetween_30 : decode cX4_passBetween 30 = .ok (.getfield 7, 3) := by decide +kernel
theorem dX4_passBetween_33 : decode cX4_passBetween 33 = .ok (.iconst 0, 1) := by decide +kernel
theorem dX4_passBetween_34 : decode cX4_passBetween 34 = .ok (.iaload, 1) := by decide +kernel
theorem dX4_passBetween_35 : decode cX4_passBetween 35 = .ok (.if_icmp .lt 12, 3) := by decide +kernel
theorem dX4_passBetween_38 : decode cX4_passBetween 38 = .ok (.aload_n 0, 1) := by decide +kernel
theorem dX4_passBetween_39 : decode cX4_passBetween 39 = .ok (.iload_n 1, 1) := by decide +kernel
theorem dX4_passBetween_40 : decode cX4_passBetween 40 = .ok (.iload_n 2, 1) := by decide +kernel
theorem dX4_passBetween_41 : decode cX4_passBetween 41 = .ok (.invokevirtual 63, 3) := by decide +kernel
theorem dX4_passBetween_44 : decode cX4_passBetween 44 = .ok (.goto 55, 3) := by decide +kernel
theorem dX4_passBetween_47 : decode cX4_passBetween 47 = .ok (.aload_n 0, 1) := by decide +kernel
theorem dX4_passBetween_48 : decode cX4_passBetween 48 = .ok (.iload_n 1, 1) := by decide +kernel
theorem dX4_passBetween_49 : decode cX4_passBetween 49 = .ok (.iconst 1, 1) := by decide +kernel
theorem dX4_passBetween_50 : decode cX4_passBetween 50 = .ok (.invokevirtual 40, 3) := by decide +kernel
theorem dX4_passBetween_53 : decode cX4_passBetween 53 = .ok (.iconst 1, 1) := by decide +kernel
theorem dX4_passBetween_54 : decode cX4_passBetween 54 = .ok (.if_icmp .ne 45, 3) := by decide +kernel
theorem dX4_passBetween_57 : decode cX4_passBetween 57 = .ok (.aload_n 0, 1) := by decide +kernel
theorem dX4_passBetween_58 : decode cX4_passBetween 58 = .ok (.getfield 7, 3) := by decide +kernel
theorem dX4_passBetween_61 : decode cX4_passBetween 61 = .ok (.iconst 4, 1) := by decide +kernel
theorem dX4_passBetween_62 : decode cX4_passBetween 62 = .ok (.iaload, 1) := by decide +kernel
theorem dX4_passBetween_63 : decode cX4_passBetween 63 = .ok (.aload_n 0, 1) := by decide +kernel
theorem dX4_passBetween_64 : decode cX4_passBetween 64 = .ok (.iload_n 1, 1) := by decide +kernel
theorem dX4_passBetween_65 : decode cX4_passBetween 65 = .ok (.iconst 3, 1) := by decide +kernel
theorem dX4_passBetween_66 : decode cX4_passBetween 66 = .ok (.invokevirtual 40, 3) := by decide +kernel
theorem dX4_passBetween_69 : decode cX4_passBetween 69 = .ok (.isub, 1) := by decide +kernel
theorem dX4_passBetween_70 : decode cX4_passBetween 70 = .ok (.aload_n 0, 1) := by decide +kernel
theorem dX4_passBetween_71 : decode cX4_passBetween 71 = .ok (.getfield 7, 3) := by decide +kernel
theorem dX4_passBetween_74 : decode cX4_passBetween 74 = .ok (.iconst 2, 1) := by decide +kernel
theorem dX4_passBetween_75 : decode cX4_passBetween 75 = .ok (.iaload, 1) := by decide +kernel
theorem dX4_passBetween_76 : decode cX4_passBetween 76 = .ok (.invokestatic 83, 3) := by decide +kernel
theorem dX4_passBetween_79 : decode cX4_passBetween 79 = .ok (.ifCond .eq 20, 3) := by decide +kernel
theorem dX4_passBetween_82 : decode cX4_passBetween 82 = .ok (.aload_n 0, 1) := by decide +kernel
theorem dX4_passBetween_83 : decode cX4_passBetween 83 = .ok (.iconst 3, 1) := by decide +kernel
theorem dX4_passBetween_84 : decode cX4_passBetween 84 = .ok (.iload_n 1, 1) := by decide +kernel
theorem dX4_passBetween_85 : decode cX4_passBetween 85 = .ok (.iconst 4, 1) := by decide +kernel
theorem dX4_passBetween_86 : decode cX4_passBetween 86 = .ok (.iload_n 2, 1) := by decide +kernel
theorem dX4_passBetween_87 : decode cX4_passBetween 87 = .ok (.aload_n 0, 1) := by decide +kernel
theorem dX4_passBetween_88 : decode cX4_passBetween 88 = .ok (.iload_n 1, 1) := by decide +kernel
theorem dX4_passBetween_89 : decode cX4_passBetween 89 = .ok (.iconst 5, 1) := by decide +kernel
theorem dX4_passBetween_90 : decode cX4_passBetween 90 = .ok (.invokevirtual 40, 3) := by decide +kernel
theorem dX4_passBetween_93 : decode cX4_passBetween 93 = .ok (.iconst (-1), 1) := by decide +kernel
theorem dX4_passBetween_94 : decode cX4_passBetween 94 = .ok (.ixor, 1) := by decide +kernel
theorem dX4_passBetween_95 : decode cX4_passBetween 95 = .ok (.iand, 1) := by decide +kernel
theorem dX4_passBetween_96 : decode cX4_passBetween 96 = .ok (.invokevirtual 56, 3) := by decide +kernel
theorem dX4_passBetween_99 : decode cX4_passBetween 99 = .ok (.return_, 1) := by decide +kernel
theorem dX4_passClerk_0 : decode cX4_passClerk 0 = .ok (.aload_n 0, 1) := by decide +kernel
theorem dX4_passClerk_1 : decode cX4_passClerk 1 = .ok (.iload_n 2, 1) := by decide +kernel
theorem dX4_passClerk_2 : decode cX4_passClerk 2 = .ok (.iload_n 1, 1) := by decide +kernel
theorem dX4_passClerk_3 : decode cX4_passClerk 3 = .ok (.invokevirtual 86, 3) := by decide +kernel
theorem dX4_passClerk_6 : decode cX4_passClerk 6 = .ok (.ifCond .eq 48, 3) := by decide +kernel
theorem dX4_passClerk_9 : decode cX4_passClerk 9 = .ok (.aload_n 0, 1) := by decide +kernel
theorem dX4_passClerk_10 : decode cX4_passClerk 10 = .ok (.iload_n 2, 1) := by decide +kernel
theorem dX4_passClerk_11 : decode cX4_passClerk 11 = .ok (.bipush 6, 2) := by decide +kernel
theorem dX4_passClerk_13 : decode cX4_passClerk 13 = .ok (.iload_n 1, 1) := by decide +kernel
theorem dX4_passClerk_14 : decode cX4_passClerk 14 = .ok (.iadd, 1) := by decide +kernel
theorem dX4_passClerk_15 : decode cX4_passClerk 15 = .ok (.invokevirtual 40, 3) := by decide +kernel
theorem dX4_passClerk_18 : decode cX4_passClerk 18 = .ok (.iconst 1, 1) := by decide +kernel
theorem dX4_passClerk_19 : decode cX4_passClerk 19 = .ok (.if_icmp .ne 35, 3) := by decide +kernel
theorem dX4_passClerk_22 : decode cX4_passClerk 22 = .ok (.aload_n 0, 1) := by decide +kernel
theorem dX4_passClerk_23 : decode cX4_passClerk 23 = .ok (.getfield 7, 3) := by decide +kernel
theorem dX4_passClerk_26 : decode cX4_passClerk 26 = .ok (.iconst 4, 1) := by decide +kernel
theorem dX4_passClerk_27 : decode cX4_passClerk 27 = .ok (.iaload, 1) := by decide +kernel
theorem dX4_passClerk_28 : decode cX4_passClerk 28 = .ok (.aload_n 0, 1) := by decide +kernel
theorem dX4_passClerk_29 : decode cX4_passClerk 29 = .ok (.iload_n 2, 1) := by decide +kernel
theorem dX4_passClerk_30 : decode cX4_passClerk 30 = .ok (.bipush 10, 2) := by decide +kernel
theorem dX4_passClerk_32 : decode cX4_passClerk 32 = .ok (.iload_n 1, 1) := by decide +kernel
theorem dX4_passClerk_33 : decode cX4_passClerk 33 = .ok (.iadd, 1) := by decide +kernel
theorem dX4_passClerk_34 : decode cX4_passClerk 34 = .ok (.invokevirtual 40, 3) := by decide +kernel
theorem dX4_passClerk_37 : decode cX4_passClerk 37 = .ok (.isub, 1) := by decide +kernel
theorem dX4_passClerk_38 : decode cX4_passClerk 38 = .ok (.aload_n 0, 1) := by decide +kernel
theorem dX4_passClerk_39 : decode cX4_passClerk 39 = .ok (.getfield 7, 3) := by decide +kernel
theorem dX4_passClerk_42 : decode cX4_passClerk 42 = .ok (.iconst 1, 1) := by decide +kernel
theorem dX4_passClerk_43 : decode cX4_passClerk 43 = .ok (.iaload, 1) := by decide +kernel
theorem dX4_passClerk_44 : decode cX4_passClerk 44 = .ok (.invokestatic 83, 3) := by decide +kernel
theorem dX4_passClerk_47 : decode cX4_passClerk 47 = .ok (.ifCond .eq 7, 3) := by decide +kernel
theorem dX4_passClerk_50 : decode cX4_passClerk 50 = .ok (.iconst 1, 1) := by decide +kernel
theorem dX4_passClerk_51 : decode cX4_passClerk 51 = .ok (.goto 4, 3) := by decide +kernel
theorem dX4_passClerk_54 : decode cX4_passClerk 54 = .ok (.iconst 0, 1) := by decide +kernel
theorem dX4_passClerk_55 : decode cX4_passClerk 55 = .ok (.istore_n 3, 1) := by decide +kernel
theorem dX4_passClerk_56 : decode cX4_passClerk 56 = .ok (.iload_n 3, 1) := by decide +kernel
theorem dX4_passClerk_57 : decode cX4_passClerk 57 = .ok (.ifCond .eq 46, 3) := by decide +kernel
theorem dX4_passClerk_60 : decode cX4_passClerk 60 = .ok (.aload_n 0, 1) := by decide +kernel
theorem dX4_passClerk_61 : decode cX4_passClerk 61 = .ok (.bipush 6, 2) := by decide +kernel
theorem dX4_passClerk_63 : decode cX4_passClerk 63 = .ok (.iload_n 2, 1) := by decide +kernel
theorem dX4_passClerk_64 : decode cX4_passClerk 64 = .ok (.iload_n 1, 1) := by decide +kernel
theorem dX4_passClerk_65 : decode cX4_passClerk 65 = .ok (.iconst 4, 1) := by decide +kernel
theorem dX4_passClerk_66 : decode cX4_passClerk 66 = .ok (.invokevirtual 48, 3) := by decide +kernel
theorem dX4_passClerk_69 : decode cX4_passClerk 69 = .ok (.aload_n 0, 1) := by decide +kernel
theorem dX4_passClerk_70 : decode cX4_passClerk 70 = .ok (.bipush 6, 2) := by decide +kernel
theorem dX4_passClerk_72 : decode cX4_passClerk 72 = .ok (.iload_n 2, 1) := by decide +kernel
theorem dX4_passClerk_73 : decode cX4_passClerk 73 = .ok (.iload_n 1, 1) := by decide +kernel
theorem dX4_passClerk_74 : decode cX4_passClerk 74 = .ok (.aload_n 0, 1) := by decide +kernel
theorem dX4_passClerk_75 : decode cX4_passClerk 75 = .ok (.getfield 7, 3) := by decide +kernel
theorem dX4_passClerk_78 : decode cX4_passClerk 78 = .ok (.iconst 3, 1) := by decide +kernel
theorem dX4_passClerk_79 : decode cX4_passClerk 79 = .ok (.iaload, 1) := by decide +kernel
theorem dX4_passClerk_80 : decode cX4_passClerk 80 = .ok (.iconst 1, 1) := by decide +kernel
theorem dX4_passClerk_81 : decode cX4_passClerk 81 = .ok (.if_icmp .ne 18, 3) := by decide +kernel
theorem dX4_passClerk_84 : decode cX4_passClerk 84 = .ok (.aload_n 0, 1) := by decide +kernel
theorem dX4_passClerk_85 : decode cX4_passClerk 85 = .ok (.iload_n 2, 1) := by decide +kernel
theorem dX4_passClerk_86 : decode cX4_passClerk 86 = .ok (.iconst 0, 1) := by decide +kernel
theorem dX4_passClerk_87 : decode cX4_passClerk 87 = .ok (.invokevirtual 40, 3) := by decide +kernel
theorem dX4_passClerk_90 : decode cX4_passClerk 90 = .ok (.iconst 1, 1) := by decide +kernel
theorem dX4_passClerk_91 : decode cX4_passClerk 91 = .ok (.iload_n 1, 1) := by decide +kernel
theorem dX4_passClerk_92 : decode cX4_passClerk 92 = .ok (.ishl, 1) := by decide +kernel
theorem dX4_passClerk_93 : decode cX4_passClerk 93 = .ok (.iconst (-1), 1) := by decide +kernel
theorem dX4_passClerk_94 : decode cX4_passClerk 94 = .ok (.ixor, 1) := by decide +kernel
theorem dX4_passClerk_95 : decode cX4_passClerk 95 = .ok (.iand, 1) := by decide +kernel
theorem dX4_passClerk_96 : decode cX4_passClerk 96 = .ok (.goto 4, 3) := by decide +kernel
theorem dX4_passClerk_99 : decode cX4_passClerk 99 = .ok (.iconst 0, 1) := by decide +kernel
theorem dX4_passClerk_100 : decode cX4_passClerk 100 = .ok (.invokevirtual 56, 3) := by decide +kernel
theorem dX4_passClerk_103 : decode cX4_passClerk 103 = .ok (.return_, 1) := by decide +kernel
theorem dX4_pass_0 : decode cX4_pass 0 = .ok (.iconst 0, 1) := by decide +kernel
theorem dX4_pass_1 : decode cX4_pass 1 = .ok (.istore_n 1, 1) := by decide +kernel
theorem dX4_pass_2 : decode cX4_pass 2 = .ok (.iload_n 1, 1) := by decide +kernel
theorem dX4_pass_3 : decode cX4_pass 3 = .ok (.aload_n 0, 1) := by decide +kernel
theorem dX4_pass_4 : decode cX4_pass 4 = .ok (.getfield 7, 3) := by decide +kernel
theorem dX4_pass_7 : decode cX4_pass 7 = .ok (.iconst 5, 1) := by decide +kernel
theorem dX4_pass_8 : decode cX4_pass 8 = .ok (.iaload, 1) := by decide +kernel
theorem dX4_pass_9 : decode cX4_pass 9 = .ok (.if_icmp .ge 22, 3) := by decide +kernel
theorem dX4_pass_12 : decode cX4_pass 12 = .ok (.aload_n 0, 1) := by decide +kernel
theorem dX4_pass_13 : decode cX4_pass 13 = .ok (.iconst 4, 1) := by decide +kernel
theorem dX4_pass_14 : decode cX4_pass 14 = .ok (.invokevirtual 73, 3) := by decide +kernel
theorem dX4_pass_17 : decode cX4_pass 17 = .ok (.ifCond .ne 14, 3) := by decide +kernel
theorem dX4_pass_20 : decode cX4_pass 20 = .ok (.aload_n 0, 1) := by decide +kernel
theorem dX4_pass_21 : decode cX4_pass 21 = .ok (.iload_n 1, 1) := by decide +kernel
theorem dX4_pass_22 : decode cX4_pass 22 = .ok (.invokevirtual 89, 3) := by decide +kernel
theorem dX4_pass_25 : decode cX4_pass 25 = .ok (.iinc 1 1, 3) := by decide +kernel
theorem dX4_pass_28 : decode cX4_pass 28 = .ok (.goto (-26), 3) := by decide +kernel
theorem dX4_pass_31 : decode cX4_pass 31 = .ok (.iconst 0, 1) := by decide +kernel
theorem dX4_pass_32 : decode cX4_pass 32 = .ok (.istore_n 1, 1) := by decide +kernel
theorem dX4_pass_33 : decode cX4_pass 33 = .ok (.iload_n 1, 1) := by decide +kernel
theorem dX4_pass_34 : decode cX4_pass 34 = .ok (.iconst 4, 1) := by decide +kernel
theorem dX4_pass_35 : decode cX4_pass 35 = .ok (.if_icmp .ge 41, 3) := by decide +kernel
theorem dX4_pass_38 : decode cX4_pass 38 = .ok (.iconst 0, 1) := by decide +kernel
theorem dX4_pass_39 : decode cX4_pass 39 = .ok (.istore_n 2, 1) := by decide +kernel
theorem dX4_pass_40 : decode cX4_pass 40 = .ok (.iload_n 2, 1) := by decide +kernel
theorem dX4_pass_41 : decode cX4_pass 41 = .ok (.aload_n 0, 1) := by decide +kernel
theorem dX4_pass_42 : decode cX4_pass 42 = .ok (.getfield 7, 3) := by decide +kernel
theorem dX4_pass_45 : decode cX4_pass 45 = .ok (.iconst 5, 1) := by decide +kernel
theorem dX4_pass_46 : decode cX4_pass 46 = .ok (.iaload, 1) := by decide +kernel
theorem dX4_pass_47 : decode cX4_pass 47 = .ok (.if_icmp .ge 23, 3) := by decide +kernel
theorem dX4_pass_50 : decode cX4_pass 50 = .ok (.aload_n 0, 1) := by decide +kernel
theorem dX4_pass_51 : decode cX4_pass 51 = .ok (.iload_n 1, 1) := by decide +kernel
theorem dX4_pass_52 : decode cX4_pass 52 = .ok (.invokevirtual 73, 3) := by decide +kernel
theorem dX4_pass_55 : decode cX4_pass 55 = .ok (.ifCond .ne 15, 3) := by decide +kernel
theorem dX4_pass_58 : decode cX4_pass 58 = .ok (.aload_n 0, 1) := by decide +kernel
theorem dX4_pass_59 : decode cX4_pass 59 = .ok (.iload_n 1, 1) := by decide +kernel
theorem dX4_pass_60 : decode cX4_pass 60 = .ok (.iload_n 2, 1) := by decide +kernel
theorem dX4_pass_61 : decode cX4_pass 61 = .ok (.invokevirtual 92, 3) := by decide +kernel
theorem dX4_pass_64 : decode cX4_pass 64 = .ok (.iinc 2 1, 3) := by decide +kernel
theorem dX4_pass_67 : decode cX4_pass 67 = .ok (.goto (-27), 3) := by decide +kernel
theorem dX4_pass_70 : decode cX4_pass 70 = .ok (.iinc 1 1, 3) := by decide +kernel
theorem dX4_pass_73 : decode cX4_pass 73 = .ok (.goto (-40), 3) := by decide +kernel
theorem dX4_pass_76 : decode cX4_pass 76 = .ok (.aload_n 0, 1) := by decide +kernel
theorem dX4_pass_77 : decode cX4_pass 77 = .ok (.getfield 7, 3) := by decide +kernel
theorem dX4_pass_80 : decode cX4_pass 80 = .ok (.iconst 4, 1) := by decide +kernel
theorem dX4_pass_81 : decode cX4_pass 81 = .ok (.dup2, 1) := by decide +kernel
theorem dX4_pass_82 : decode cX4_pass 82 = .ok (.iaload, 1) := by decide +kernel
theorem dX4_pass_83 : decode cX4_pass 83 = .ok (.iconst 1, 1) := by decide +kernel
theorem dX4_pass_84 : decode cX4_pass 84 = .ok (.iadd, 1) := by decide +kernel
theorem dX4_pass_85 : decode cX4_pass 85 = .ok (.iastore, 1) := by decide +kernel
theorem dX4_pass_86 : decode cX4_pass 86 = .ok (.return_, 1) := by decide +kernel
theorem dX4_set_0 : decode cX4_set 0 = .ok (.iload_n 1, 1) := by decide +kernel
theorem dX4_set_1 : decode cX4_set 1 = .ok (.iconst 0, 1) := by decide +kernel
theorem dX4_set_2 : decode cX4_set 2 = .ok (.iconst 3, 1) := by decide +kernel
theorem dX4_set_3 : decode cX4_set 3 = .ok (.invokestatic 95, 3) := by decide +kernel
theorem dX4_set_6 : decode cX4_set 6 = .ok (.ifCond .eq 31, 3) := by decide +kernel
theorem dX4_set_9 : decode cX4_set 9 = .ok (.iload_n 2, 1) := by decide +kernel
theorem dX4_set_10 : decode cX4_set 10 = .ok (.iload_n 1, 1) := by decide +kernel
theorem dX4_set_11 : decode cX4_set 11 = .ok (.iconst 3, 1) := by decide +kernel
theorem dX4_set_12 : decode cX4_set 12 = .ok (.if_icmp .ne 7, 3) := by decide +kernel
theorem dX4_set_15 : decode cX4_set 15 = .ok (.iconst 0, 1) := by decide +kernel
theorem dX4_set_16 : decode cX4_set 16 = .ok (.goto 4, 3) := by decide +kernel
theorem dX4_set_19 : decode cX4_set 19 = .ok (.iconst 1, 1) := by decide +kernel
theorem dX4_set_20 : decode cX4_set 20 = .ok (.iload_n 1, 1) := by decide +kernel
theorem dX4_set_21 : decode cX4_set 21 = .ok (.iconst 3, 1) := by decide +kernel
theorem dX4_set_22 : decode cX4_set 22 = .ok (.if_icmp .ne 7, 3) := by decide +kernel
theorem dX4_set_25 : decode cX4_set 25 = .ok (.iconst 1, 1) := by decide +kernel
theorem dX4_set_26 : decode cX4_set 26 = .ok (.goto 5, 3) := by decide +kernel
theorem dX4_set_29 : decode cX4_set 29 = .ok (.bipush 50, 2) := by decide +kernel
theorem dX4_set_31 : decode cX4_set 31 = .ok (.invokestatic 95, 3) := by decide +kernel
theorem dX4_set_34 : decode cX4_set 34 = .ok (.ifCond .ne 6, 3) := by decide +kernel
theorem dX4_set_37 : decode cX4_set 37 = .ok (.bipush (-2), 2) := by decide +kernel
theorem dX4_set_39 : decode cX4_set 39 = .ok (.ireturn, 1) := by decide +kernel
theorem dX4_set_40 : decode cX4_set 40 = .ok (.aload_n 0, 1) := by decide +kernel
theorem dX4_set_41 : decode cX4_set 41 = .ok (.invokevirtual 99, 3) := by decide +kernel
theorem dX4_set_44 : decode cX4_set 44 = .ok (.aload_n 0, 1) := by decide +kernel
theorem dX4_set_45 : decode cX4_set 45 = .ok (.getfield 7, 3) := by decide +kernel
theorem dX4_set_48 : decode cX4_set 48 = .ok (.iload_n 1, 1) := by decide +kernel
theorem dX4_set_49 : decode cX4_set 49 = .ok (.iaload, 1) := by decide +kernel
theorem dX4_set_50 : decode cX4_set 50 = .ok (.istore_n 3, 1) := by decide +kernel
theorem dX4_set_51 : decode cX4_set 51 = .ok (.aload_n 0, 1) := by decide +kernel
theorem dX4_set_52 : decode cX4_set 52 = .ok (.getfield 7, 3) := by decide +kernel
theorem dX4_set_55 : decode cX4_set 55 = .ok (.iload_n 1, 1) := by decide +kernel
theorem dX4_set_56 : decode cX4_set 56 = .ok (.iload_n 2, 1) := by decide +kernel
theorem dX4_set_57 : decode cX4_set 57 = .ok (.iastore, 1) := by decide +kernel
theorem dX4_set_58 : decode cX4_set 58 = .ok (.iload_n 3, 1) := by decide +kernel
theorem dX4_set_59 : decode cX4_set 59 = .ok (.ireturn, 1) := by decide +kernel
theorem dX4_willing_0 : decode cX4_willing 0 = .ok (.iload_n 1, 1) := by decide +kernel
theorem dX4_willing_1 : decode cX4_willing 1 = .ok (.iconst 0, 1) := by decide +kernel
theorem dX4_willing_2 : decode cX4_willing 2 = .ok (.iconst 3, 1) := by decide +kernel
theorem dX4_willing_3 : decode cX4_willing 3 = .ok (.invokestatic 95, 3) := by decide +kernel
theorem dX4_willing_6 : decode cX4_willing 6 = .ok (.ifCond .ne 5, 3) := by decide +kernel
theorem dX4_willing_9 : decode cX4_willing 9 = .ok (.iconst (-1), 1) := by decide +kernel
theorem dX4_willing_10 : decode cX4_willing 10 = .ok (.ireturn, 1) := by decide +kernel
theorem dX4_willing_11 : decode cX4_willing 11 = .ok (.iload_n 2, 1) := by decide +kernel
theorem dX4_willing_12 : decode cX4_willing 12 = .ok (.iconst 0, 1) := by decide +kernel
theorem dX4_willing_13 : decode cX4_willing 13 = .ok (.iconst 1, 1) := by decide +kernel
theorem dX4_willing_14 : decode cX4_willing 14 = .ok (.invokestatic 95, 3) := by decide +kernel
theorem dX4_willing_17 : decode cX4_willing 17 = .ok (.ifCond .ne 6, 3) := by decide +kernel
theorem dX4_willing_20 : decode cX4_willing 20 = .ok (.bipush (-2), 2) := by decide +kernel
theorem dX4_willing_22 : decode cX4_willing 22 = .ok (.ireturn, 1) := by decide +kernel
theorem dX4_willing_23 : decode cX4_willing 23 = .ok (.aload_n 0, 1) := by decide +kernel
theorem dX4_willing_24 : decode cX4_willing 24 = .ok (.invokevirtual 99, 3) := by decide +kernel
theorem dX4_willing_27 : decode cX4_willing 27 = .ok (.aload_n 0, 1) := by decide +kernel
theorem dX4_willing_28 : decode cX4_willing 28 = .ok (.getfield 7, 3) := by decide +kernel
theorem dX4_willing_31 : decode cX4_willing 31 = .ok (.bipush 15, 2) := by decide +kernel
theorem dX4_willing_33 : decode cX4_willing 33 = .ok (.iload_n 1, 1) := by decide +kernel
theorem dX4_willing_34 : decode cX4_willing 34 = .ok (.iadd, 1) := by decide +kernel
theorem dX4_willing_35 : decode cX4_willing 35 = .ok (.iaload, 1) := by decide +kernel
theorem dX4_willing_36 : decode cX4_willing 36 = .ok (.istore_n 3, 1) := by decide +kernel
theorem dX4_willing_37 : decode cX4_willing 37 = .ok (.aload_n 0, 1) := by decide +kernel
theorem dX4_willing_38 : decode cX4_willing 38 = .ok (.getfield 7, 3) := by decide +kernel
theorem dX4_willing_41 : decode cX4_willing 41 = .ok (.bipush 15, 2) := by decide +kernel
theorem dX4_willing_43 : decode cX4_willing 43 = .ok (.iload_n 1, 1) := by decide +kernel
theorem dX4_willing_44 : decode cX4_willing 44 = .ok (.iadd, 1) := by decide +kernel
theorem dX4_willing_45 : decode cX4_willing 45 = .ok (.iload_n 2, 1) := by decide +kernel
theorem dX4_willing_46 : decode cX4_willing 46 = .ok (.iastore, 1) := by decide +kernel
theorem dX4_willing_47 : decode cX4_willing 47 = .ok (.iload_n 3, 1) := by decide +kernel
theorem dX4_willing_48 : decode cX4_willing 48 = .ok (.ireturn, 1) := by decide +kernel
theorem dX4_open_0 : decode cX4_open 0 = .ok (.iload_n 1, 1) := by decide +kernel
theorem dX4_open_1 : decode cX4_open 1 = .ok (.iconst 1, 1) := by decide +kernel
theorem dX4_open_2 : decode cX4_open 2 = .ok (.bipush 15, 2) := by decide +kernel
theorem dX4_open_4 : decode cX4_open 4 = .ok (.invokestatic 95, 3) := by decide +kernel
theorem dX4_open_7 : decode cX4_open 7 = .ok (.ifCond .ne 6, 3) := by decide +kernel
theorem dX4_open_10 : decode cX4_open 10 = .ok (.bipush (-2), 2) := by decide +kernel
theorem dX4_open_12 : decode cX4_open 12 = .ok (.ireturn, 1) := by decide +kernel
theorem dX4_open_13 : decode cX4_open 13 = .ok (.aload_n 0, 1) := by decide +kernel
theorem dX4_open_14 : decode cX4_open 14 = .ok (.getfield 7, 3) := by decide +kernel
theorem dX4_open_17 : decode cX4_open 17 = .ok (.iconst 5, 1) := by decide +kernel
theorem dX4_open_18 : decode cX4_open 18 = .ok (.iaload, 1) := by decide +kernel
theorem dX4_open_19 : decode cX4_open 19 = .ok (.bipush 8, 2) := by decide +kernel
theorem dX4_open_21 : decode cX4_open 21 = .ok (.if_icmp .ne 6, 3) := by decide +kernel
theorem dX4_open_24 : decode cX4_open 24 = .ok (.bipush (-4), 2) := by decide +kernel
theorem dX4_open_26 : decode cX4_open 26 = .ok (.ireturn, 1) := by decide +kernel
theorem dX4_open_27 : decode cX4_open 27 = .ok (.aload_n 0, 1) := by decide +kernel
theorem dX4_open_28 : decode cX4_open 28 = .ok (.iconst 4, 1) := by decide +kernel
theorem dX4_open_29 : decode cX4_open 29 = .ok (.invokevirtual 73, 3) := by decide +kernel
theorem dX4_open_32 : decode cX4_open 32 = .ok (.ifCond .eq 6, 3) := by decide +kernel
theorem dX4_open_35 : decode cX4_open 35 = .ok (.bipush (-5), 2) := by decide +kernel
theorem dX4_open_37 : decode cX4_open 37 = .ok (.ireturn, 1) := by decide +kernel
theorem dX4_open_38 : decode cX4_open 38 = .ok (.aload_n 0, 1) := by decide +kernel
theorem dX4_open_39 : decode cX4_open 39 = .ok (.invokevirtual 99, 3) := by decide +kernel
theorem dX4_open_42 : decode cX4_open 42 = .ok (.aload_n 0, 1) := by decide +kernel
theorem dX4_open_43 : decode cX4_open 43 = .ok (.getfield 7, 3) := by decide +kernel
theorem dX4_open_46 : decode cX4_open 46 = .ok (.iconst 5, 1) := by decide +kernel
theorem dX4_open_47 : decode cX4_open 47 = .ok (.iaload, 1) := by decide +kernel
theorem dX4_open_48 : decode cX4_open 48 = .ok (.istore_n 2, 1) := by decide +kernel
theorem dX4_open_49 : decode cX4_open 49 = .ok (.aload_n 0, 1) := by decide +kernel
theorem dX4_open_50 : decode cX4_open 50 = .ok (.getfield 7, 3) := by decide +kernel
theorem dX4_open_53 : decode cX4_open 53 = .ok (.iconst 5, 1) := by decide +kernel
theorem dX4_open_54 : decode cX4_open 54 = .ok (.dup2, 1) := by decide +kernel
theorem dX4_open_55 : decode cX4_open 55 = .ok (.iaload, 1) := by decide +kernel
theorem dX4_open_56 : decode cX4_open 56 = .ok (.iconst 1, 1) := by decide +kernel
theorem dX4_open_57 : decode cX4_open 57 = .ok (.iadd, 1) := by decide +kernel
theorem dX4_open_58 : decode cX4_open 58 = .ok (.iastore, 1) := by decide +kernel
theorem dX4_open_59 : decode cX4_open 59 = .ok (.aload_n 0, 1) := by decide +kernel
theorem dX4_open_60 : decode cX4_open 60 = .ok (.iload_n 2, 1) := by decide +kernel
theorem dX4_open_61 : decode cX4_open 61 = .ok (.iconst 0, 1) := by decide +kernel
theorem dX4_open_62 : decode cX4_open 62 = .ok (.iload_n 1, 1) := by decide +kernel
theorem dX4_open_63 : decode cX4_open 63 = .ok (.invokevirtual 52, 3) := by decide +kernel
theorem dX4_open_66 : decode cX4_open 66 = .ok (.aload_n 0, 1) := by decide +kernel
theorem dX4_open_67 : decode cX4_open 67 = .ok (.iload_n 2, 1) := by decide +kernel
theorem dX4_open_68 : decode cX4_open 68 = .ok (.iconst 2, 1) := by decide +kernel
theorem dX4_open_69 : decode cX4_open 69 = .ok (.aload_n 0, 1) := by decide +kernel
theorem dX4_open_70 : decode cX4_open 70 = .ok (.getfield 7, 3) := by decide +kernel
theorem dX4_open_73 : decode cX4_open 73 = .ok (.iconst 4, 1) := by decide +kernel
theorem dX4_open_74 : decode cX4_open 74 = .ok (.iaload, 1) := by decide +kernel
theorem dX4_open_75 : decode cX4_open 75 = .ok (.invokevirtual 52, 3) := by decide +kernel
theorem dX4_open_78 : decode cX4_open 78 = .ok (.aload_n 0, 1) := by decide +kernel
theorem dX4_open_79 : decode cX4_open 79 = .ok (.iconst 0, 1) := by decide +kernel
theorem dX4_open_80 : decode cX4_open 80 = .ok (.iload_n 2, 1) := by decide +kernel
theorem dX4_open_81 : decode cX4_open 81 = .ok (.iconst 4, 1) := by decide +kernel
theorem dX4_open_82 : decode cX4_open 82 = .ok (.iload_n 1, 1) := by decide +kernel
theorem dX4_open_83 : decode cX4_open 83 = .ok (.invokevirtual 56, 3) := by decide +kernel
theorem dX4_open_86 : decode cX4_open 86 = .ok (.iload_n 2, 1) := by decide +kernel
theorem dX4_open_87 : decode cX4_open 87 = .ok (.ireturn, 1) := by decide +kernel
theorem dX4_isMessage_0 : decode cX4_isMessage 0 = .ok (.iload_n 1, 1) := by decide +kernel
theorem dX4_isMessage_1 : decode cX4_isMessage 1 = .ok (.iconst 0, 1) := by decide +kernel
theorem dX4_isMessage_2 : decode cX4_isMessage 2 = .ok (.aload_n 0, 1) := by decide +kernel
theorem dX4_isMessage_3 : decode cX4_isMessage 3 = .ok (.getfield 7, 3) := by decide +kernel
theorem dX4_isMessage_6 : decode cX4_isMessage 6 = .ok (.bipush 6, 2) := by decide +kernel
theorem dX4_isMessage_8 : decode cX4_isMessage 8 = .ok (.iaload, 1) := by decide +kernel
theorem dX4_isMessage_9 : decode cX4_isMessage 9 = .ok (.iconst 1, 1) := by decide +kernel
theorem dX4_isMessage_10 : decode cX4_isMessage 10 = .ok (.isub, 1) := by decide +kernel
theorem dX4_isMessage_11 : decode cX4_isMessage 11 = .ok (.invokestatic 95, 3) := by decide +kernel
theorem dX4_isMessage_14 : decode cX4_isMessage 14 = .ok (.ireturn, 1) := by decide +kernel
theorem dX4_deliver_0 : decode cX4_deliver 0 = .ok (.aload_n 0, 1) := by decide +kernel
theorem dX4_deliver_1 : decode cX4_deliver 1 = .ok (.iload_n 1, 1) := by decide +kernel
theorem dX4_deliver_2 : decode cX4_deliver 2 = .ok (.invokevirtual 102, 3) := by decide +kernel
theorem dX4_deliver_5 : decode cX4_deliver 5 = .ok (.ifCond .ne 5, 3) := by decide +kernel
theorem dX4_deliver_8 : decode cX4_deliver 8 = .ok (.iconst (-1), 1) := by decide +kernel
theorem dX4_deliver_9 : decode cX4_deliver 9 = .ok (.ireturn, 1) := by decide +kernel
theorem dX4_deliver_10 : decode cX4_deliver 10 = .ok (.aload_n 0, 1) := by decide +kernel
theorem dX4_deliver_11 : decode cX4_deliver 11 = .ok (.invokevirtual 99, 3) := by decide +kernel
theorem dX4_deliver_14 : decode cX4_deliver 14 = .ok (.aload_n 0, 1) := by decide +kernel
theorem dX4_deliver_15 : decode cX4_deliver 15 = .ok (.iload_n 1, 1) := by decide +kernel
theorem dX4_deliver_16 : decode cX4_deliver 16 = .ok (.invokevirtual 105, 3) := by decide +kernel
theorem dX4_deliver_19 : decode cX4_deliver 19 = .ok (.aload_n 0, 1) := by decide +kernel
theorem dX4_deliver_20 : decode cX4_deliver 20 = .ok (.getfield 7, 3) := by decide +kernel
theorem dX4_deliver_23 : decode cX4_deliver 23 = .ok (.bipush 6, 2) := by decide +kernel
theorem dX4_deliver_25 : decode cX4_deliver 25 = .ok (.iaload, 1) := by decide +kernel
theorem dX4_deliver_26 : decode cX4_deliver 26 = .ok (.ireturn, 1) := by decide +kernel
theorem dX4_loseNow_0 : decode cX4_loseNow 0 = .ok (.aload_n 0, 1) := by decide +kernel
theorem dX4_loseNow_1 : decode cX4_loseNow 1 = .ok (.iload_n 1, 1) := by decide +kernel
theorem dX4_loseNow_2 : decode cX4_loseNow 2 = .ok (.invokevirtual 69, 3) := by decide +kernel
theorem dX4_loseNow_5 : decode cX4_loseNow 5 = .ok (.aload_n 0, 1) := by decide +kernel
theorem dX4_loseNow_6 : decode cX4_loseNow 6 = .ok (.getfield 7, 3) := by decide +kernel
theorem dX4_loseNow_9 : decode cX4_loseNow 9 = .ok (.bipush 8, 2) := by decide +kernel
theorem dX4_loseNow_11 : decode cX4_loseNow 11 = .ok (.dup2, 1) := by decide +kernel
theorem dX4_loseNow_12 : decode cX4_loseNow 12 = .ok (.iaload, 1) := by decide +kernel
theorem dX4_loseNow_13 : decode cX4_loseNow 13 = .ok (.iconst 1, 1) := by decide +kernel
theorem dX4_loseNow_14 : decode cX4_loseNow 14 = .ok (.iadd, 1) := by decide +kernel
theorem dX4_loseNow_15 : decode cX4_loseNow 15 = .ok (.iastore, 1) := by decide +kernel
theorem dX4_loseNow_16 : decode cX4_loseNow 16 = .ok (.return_, 1) := by decide +kernel
theorem dX4_lose_0 : decode cX4_lose 0 = .ok (.aload_n 0, 1) := by decide +kernel
theorem dX4_lose_1 : decode cX4_lose 1 = .ok (.iload_n 1, 1) := by decide +kernel
theorem dX4_lose_2 : decode cX4_lose 2 = .ok (.invokevirtual 102, 3) := by decide +kernel
theorem dX4_lose_5 : decode cX4_lose 5 = .ok (.ifCond .ne 5, 3) := by decide +kernel
theorem dX4_lose_8 : decode cX4_lose 8 = .ok (.iconst (-1), 1) := by decide +kernel
theorem dX4_lose_9 : decode cX4_lose 9 = .ok (.ireturn, 1) := by decide +kernel
theorem dX4_lose_10 : decode cX4_lose 10 = .ok (.aload_n 0, 1) := by decide +kernel
theorem dX4_lose_11 : decode cX4_lose 11 = .ok (.invokevirtual 99, 3) := by decide +kernel
theorem dX4_lose_14 : decode cX4_lose 14 = .ok (.aload_n 0, 1) := by decide +kernel
theorem dX4_lose_15 : decode cX4_lose 15 = .ok (.iload_n 1, 1) := by decide +kernel
theorem dX4_lose_16 : decode cX4_lose 16 = .ok (.invokevirtual 108, 3) := by decide +kernel
theorem dX4_lose_19 : decode cX4_lose 19 = .ok (.aload_n 0, 1) := by decide +kernel
theorem dX4_lose_20 : decode cX4_lose 20 = .ok (.getfield 7, 3) := by decide +kernel
theorem dX4_lose_23 : decode cX4_lose 23 = .ok (.bipush 6, 2) := by decide +kernel
theorem dX4_lose_25 : decode cX4_lose 25 = .ok (.iaload, 1) := by decide +kernel
theorem dX4_lose_26 : decode cX4_lose 26 = .ok (.ireturn, 1) := by decide +kernel
theorem dX4_twice_0 : decode cX4_twice 0 = .ok (.aload_n 0, 1) := by decide +kernel
theorem dX4_twice_1 : decode cX4_twice 1 = .ok (.iload_n 1, 1) := by decide +kernel
theorem dX4_twice_2 : decode cX4_twice 2 = .ok (.invokevirtual 102, 3) := by decide +kernel
theorem dX4_twice_5 : decode cX4_twice 5 = .ok (.ifCond .ne 5, 3) := by decide +kernel
theorem dX4_twice_8 : decode cX4_twice 8 = .ok (.iconst (-1), 1) := by decide +kernel
theorem dX4_twice_9 : decode cX4_twice 9 = .ok (.ireturn, 1) := by decide +kernel
theorem dX4_twice_10 : decode cX4_twice 10 = .ok (.aload_n 0, 1) := by decide +kernel
theorem dX4_twice_11 : decode cX4_twice 11 = .ok (.getfield 7, 3) := by decide +kernel
theorem dX4_twice_14 : decode cX4_twice 14 = .ok (.bipush 6, 2) := by decide +kernel
theorem dX4_twice_16 : decode cX4_twice 16 = .ok (.iaload, 1) := by decide +kernel
theorem dX4_twice_17 : decode cX4_twice 17 = .ok (.bipush 60, 2) := by decide +kernel
theorem dX4_twice_19 : decode cX4_twice 19 = .ok (.if_icmp .ne 6, 3) := by decide +kernel
theorem dX4_twice_22 : decode cX4_twice 22 = .ok (.bipush (-4), 2) := by decide +kernel
theorem dX4_twice_24 : decode cX4_twice 24 = .ok (.ireturn, 1) := by decide +kernel
theorem dX4_twice_25 : decode cX4_twice 25 = .ok (.aload_n 0, 1) := by decide +kernel
theorem dX4_twice_26 : decode cX4_twice 26 = .ok (.invokevirtual 99, 3) := by decide +kernel
theorem dX4_twice_29 : decode cX4_twice 29 = .ok (.iconst 0, 1) := by decide +kernel
theorem dX4_twice_30 : decode cX4_twice 30 = .ok (.istore_n 2, 1) := by decide +kernel
theorem dX4_twice_31 : decode cX4_twice 31 = .ok (.iload_n 2, 1) := by decide +kernel
theorem dX4_twice_32 : decode cX4_twice 32 = .ok (.iconst 4, 1) := by decide +kernel
theorem dX4_twice_33 : decode cX4_twice 33 = .ok (.if_icmp .ge 43, 3) := by decide +kernel
theorem dX4_twice_36 : decode cX4_twice 36 = .ok (.aload_n 0, 1) := by decide +kernel
theorem dX4_twice_37 : decode cX4_twice 37 = .ok (.getfield 7, 3) := by decide +kernel
theorem dX4_twice_40 : decode cX4_twice 40 = .ok (.sipush 150, 3) := by decide +kernel
theorem dX4_twice_43 : decode cX4_twice 43 = .ok (.iconst 4, 1) := by decide +kernel
theorem dX4_twice_44 : decode cX4_twice 44 = .ok (.aload_n 0, 1) := by decide +kernel
theorem dX4_twice_45 : decode cX4_twice 45 = .ok (.getfield 7, 3) := by decide +kernel
theorem dX4_twice_48 : decode cX4_twice 48 = .ok (.bipush 6, 2) := by decide +kernel
theorem dX4_twice_50 : decode cX4_twice 50 = .ok (.iaload, 1) := by decide +kernel
theorem dX4_twice_51 : decode cX4_twice 51 = .ok (.imul, 1) := by decide +kernel
theorem dX4_twice_52 : decode cX4_twice 52 = .ok (.iadd, 1) := by decide +kernel
theorem dX4_twice_53 : decode cX4_twice 53 = .ok (.iload_n 2, 1) := by decide +kernel
theorem dX4_twice_54 : decode cX4_twice 54 = .ok (.iadd, 1) := by decide +kernel
theorem dX4_twice_55 : decode cX4_twice 55 = .ok (.aload_n 0, 1) := by decide +kernel
theorem dX4_twice_56 : decode cX4_twice 56 = .ok (.getfield 7, 3) := by decide +kernel
theorem dX4_twice_59 : decode cX4_twice 59 = .ok (.sipush 150, 3) := by decide +kernel
theorem dX4_twice_62 : decode cX4_twice 62 = .ok (.iconst 4, 1) := by decide +kernel
theorem dX4_twice_63 : decode cX4_twice 63 = .ok (.iload_n 1, 1) := by decide +kernel
theorem dX4_twice_64 : decode cX4_twice 64 = .ok (.imul, 1) := by decide +kernel
theorem dX4_twice_65 : decode cX4_twice 65 = .ok (.iadd, 1) := by decide +kernel
theorem dX4_twice_66 : decode cX4_twice 66 = .ok (.iload_n 2, 1) := by decide +kernel
theorem dX4_twice_67 : decode cX4_twice 67 = .ok (.iadd, 1) := by decide +kernel
theorem dX4_twice_68 : decode cX4_twice 68 = .ok (.iaload, 1) := by decide +kernel
theorem dX4_twice_69 : decode cX4_twice 69 = .ok (.iastore, 1) := by decide +kernel
theorem dX4_twice_70 : decode cX4_twice 70 = .ok (.iinc 2 1, 3) := by decide +kernel
theorem dX4_twice_73 : decode cX4_twice 73 = .ok (.goto (-42), 3) := by decide +kernel
theorem dX4_twice_76 : decode cX4_twice 76 = .ok (.aload_n 0, 1) := by decide +kernel
theorem dX4_twice_77 : decode cX4_twice 77 = .ok (.getfield 7, 3) := by decide +kernel
theorem dX4_twice_80 : decode cX4_twice 80 = .ok (.bipush 6, 2) := by decide +kernel
theorem dX4_twice_82 : decode cX4_twice 82 = .ok (.dup2, 1) := by decide +kernel
theorem dX4_twice_83 : decode cX4_twice 83 = .ok (.iaload, 1) := by decide +kernel
theorem dX4_twice_84 : decode cX4_twice 84 = .ok (.iconst 1, 1) := by decide +kernel
theorem dX4_twice_85 : decode cX4_twice 85 = .ok (.iadd, 1) := by decide +kernel
theorem dX4_twice_86 : decode cX4_twice 86 = .ok (.iastore, 1) := by decide +kernel
theorem dX4_twice_87 : decode cX4_twice 87 = .ok (.aload_n 0, 1) := by decide +kernel
theorem dX4_twice_88 : decode cX4_twice 88 = .ok (.getfield 7, 3) := by decide +kernel
theorem dX4_twice_91 : decode cX4_twice 91 = .ok (.bipush 6, 2) := by decide +kernel
theorem dX4_twice_93 : decode cX4_twice 93 = .ok (.iaload, 1) := by decide +kernel
theorem dX4_twice_94 : decode cX4_twice 94 = .ok (.ireturn, 1) := by decide +kernel
theorem dX4_ill_0 : decode cX4_ill 0 = .ok (.iconst 0, 1) := by decide +kernel
theorem dX4_ill_1 : decode cX4_ill 1 = .ok (.istore_n 1, 1) := by decide +kernel
theorem dX4_ill_2 : decode cX4_ill 2 = .ok (.iconst 0, 1) := by decide +kernel
theorem dX4_ill_3 : decode cX4_ill 3 = .ok (.istore_n 2, 1) := by decide +kernel
theorem dX4_ill_4 : decode cX4_ill 4 = .ok (.iload_n 2, 1) := by decide +kernel
theorem dX4_ill_5 : decode cX4_ill 5 = .ok (.iconst 5, 1) := by decide +kernel
theorem dX4_ill_6 : decode cX4_ill 6 = .ok (.if_icmp .ge 21, 3) := by decide +kernel
theorem dX4_ill_9 : decode cX4_ill 9 = .ok (.iload_n 1, 1) := by decide +kernel
theorem dX4_ill_10 : decode cX4_ill 10 = .ok (.aload_n 0, 1) := by decide +kernel
theorem dX4_ill_11 : decode cX4_ill 11 = .ok (.getfield 7, 3) := by decide +kernel
theorem dX4_ill_14 : decode cX4_ill 14 = .ok (.bipush 10, 2) := by decide +kernel
theorem dX4_ill_16 : decode cX4_ill 16 = .ok (.iload_n 2, 1) := by decide +kernel
theorem dX4_ill_17 : decode cX4_ill 17 = .ok (.iadd, 1) := by decide +kernel
theorem dX4_ill_18 : decode cX4_ill 18 = .ok (.iaload, 1) := by decide +kernel
theorem dX4_ill_19 : decode cX4_ill 19 = .ok (.iadd, 1) := by decide +kernel
theorem dX4_ill_20 : decode cX4_ill 20 = .ok (.istore_n 1, 1) := by decide +kernel
theorem dX4_ill_21 : decode cX4_ill 21 = .ok (.iinc 2 1, 3) := by decide +kernel
theorem dX4_ill_24 : decode cX4_ill 24 = .ok (.goto (-20), 3) := by decide +kernel
theorem dX4_ill_27 : decode cX4_ill 27 = .ok (.iload_n 1, 1) := by decide +kernel
theorem dX4_ill_28 : decode cX4_ill 28 = .ok (.ireturn, 1) := by decide +kernel
theorem dX4_fall_0 : decode cX4_fall 0 = .ok (.iload_n 1, 1) := by decide +kernel
theorem dX4_fall_1 : decode cX4_fall 1 = .ok (.iconst 0, 1) := by decide +kernel
theorem dX4_fall_2 : decode cX4_fall 2 = .ok (.iconst 4, 1) := by decide +kernel
theorem dX4_fall_3 : decode cX4_fall 3 = .ok (.invokestatic 95, 3) := by decide +kernel
theorem dX4_fall_6 : decode cX4_fall 6 = .ok (.ifCond .ne 5, 3) := by decide +kernel
theorem dX4_fall_9 : decode cX4_fall 9 = .ok (.iconst (-1), 1) := by decide +kernel
theorem dX4_fall_10 : decode cX4_fall 10 = .ok (.ireturn, 1) := by decide +kernel
theorem dX4_fall_11 : decode cX4_fall 11 = .ok (.aload_n 0, 1) := by decide +kernel
theorem dX4_fall_12 : decode cX4_fall 12 = .ok (.iload_n 1, 1) := by decide +kernel
theorem dX4_fall_13 : decode cX4_fall 13 = .ok (.invokevirtual 73, 3) := by decide +kernel
theorem dX4_fall_16 : decode cX4_fall 16 = .ok (.ifCond .eq 6, 3) := by decide +kernel
theorem dX4_fall_19 : decode cX4_fall 19 = .ok (.bipush (-5), 2) := by decide +kernel
theorem dX4_fall_21 : decode cX4_fall 21 = .ok (.ireturn, 1) := by decide +kernel
theorem dX4_fall_22 : decode cX4_fall 22 = .ok (.aload_n 0, 1) := by decide +kernel
theorem dX4_fall_23 : decode cX4_fall 23 = .ok (.invokevirtual 99, 3) := by decide +kernel
theorem dX4_fall_26 : decode cX4_fall 26 = .ok (.aload_n 0, 1) := by decide +kernel
theorem dX4_fall_27 : decode cX4_fall 27 = .ok (.getfield 7, 3) := by decide +kernel
theorem dX4_fall_30 : decode cX4_fall 30 = .ok (.bipush 10, 2) := by decide +kernel
theorem dX4_fall_32 : decode cX4_fall 32 = .ok (.iload_n 1, 1) := by decide +kernel
theorem dX4_fall_33 : decode cX4_fall 33 = .ok (.iadd, 1) := by decide +kernel
theorem dX4_fall_34 : decode cX4_fall 34 = .ok (.iconst 1, 1) := by decide +kernel
theorem dX4_fall_35 : decode cX4_fall 35 = .ok (.iastore, 1) := by decide +kernel
theorem dX4_fall_36 : decode cX4_fall 36 = .ok (.iconst 0, 1) := by decide +kernel
theorem dX4_fall_37 : decode cX4_fall 37 = .ok (.istore_n 2, 1) := by decide +kernel
theorem dX4_fall_38 : decode cX4_fall 38 = .ok (.iload_n 2, 1) := by decide +kernel
theorem dX4_fall_39 : decode cX4_fall 39 = .ok (.aload_n 0, 1) := by decide +kernel
theorem dX4_fall_40 : decode cX4_fall 40 = .ok (.getfield 7, 3) := by decide +kernel
theorem dX4_fall_43 : decode cX4_fall 43 = .ok (.iconst 5, 1) := by decide +kernel
theorem dX4_fall_44 : decode cX4_fall 44 = .ok (.iaload, 1) := by decide +kernel
theorem dX4_fall_45 : decode cX4_fall 45 = .ok (.if_icmp .ge 100, 3) := by decide +kernel
theorem dX4_fall_48 : decode cX4_fall 48 = .ok (.iload_n 1, 1) := by decide +kernel
theorem dX4_fall_49 : decode cX4_fall 49 = .ok (.iconst 4, 1) := by decide +kernel
theorem dX4_fall_50 : decode cX4_fall 50 = .ok (.if_icmp .ne 57, 3) := by decide +kernel
theorem dX4_fall_53 : decode cX4_fall 53 = .ok (.aload_n 0, 1) := by decide +kernel
theorem dX4_fall_54 : decode cX4_fall 54 = .ok (.iload_n 2, 1) := by decide +kernel
theorem dX4_fall_55 : decode cX4_fall 55 = .ok (.iconst 5, 1) := by decide +kernel
theorem dX4_fall_56 : decode cX4_fall 56 = .ok (.aload_n 0, 1) := by decide +kernel
theorem dX4_fall_57 : decode cX4_fall 57 = .ok (.iload_n 2, 1) := by decide +kernel
theorem dX4_fall_58 : decode cX4_fall 58 = .ok (.iconst 1, 1) := by decide +kernel
theorem dX4_fall_59 : decode cX4_fall 59 = .ok (.invokevirtual 40, 3) := by decide +kernel
theorem dX4_fall_62 : decode cX4_fall 62 = .ok (.iconst 1, 1) := by decide +kernel
theorem dX4_fall_63 : decode cX4_fall 63 = .ok (.if_icmp .ne 7, 3) := by decide +kernel
theorem dX4_fall_66 : decode cX4_fall 66 = .ok (.iconst 0, 1) := by decide +kernel
theorem dX4_fall_67 : decode cX4_fall 67 = .ok (.goto 9, 3) := by decide +kernel
theorem dX4_fall_70 : decode cX4_fall 70 = .ok (.aload_n 0, 1) := by decide +kernel
theorem dX4_fall_71 : decode cX4_fall 71 = .ok (.iload_n 2, 1) := by decide +kernel
theorem dX4_fall_72 : decode cX4_fall 72 = .ok (.iconst 5, 1) := by decide +kernel
theorem dX4_fall_73 : decode cX4_fall 73 = .ok (.invokevirtual 40, 3) := by decide +kernel
theorem dX4_fall_76 : decode cX4_fall 76 = .ok (.invokevirtual 52, 3) := by decide +kernel
theorem dX4_fall_79 : decode cX4_fall 79 = .ok (.aload_n 0, 1) := by decide +kernel
theorem dX4_fall_80 : decode cX4_fall 80 = .ok (.iload_n 2, 1) := by decide +kernel
theorem dX4_fall_81 : decode cX4_fall 81 = .ok (.iconst 1, 1) := by decide +kernel
theorem dX4_fall_82 : decode cX4_fall 82 = .ok (.aload_n 0, 1) := by decide +kernel
theorem dX4_fall_83 : decode cX4_fall 83 = .ok (.iload_n 2, 1) := by decide +kernel
theorem dX4_fall_84 : decode cX4_fall 84 = .ok (.iconst 1, 1) := by decide +kernel
theorem dX4_fall_85 : decode cX4_fall 85 = .ok (.invokevirtual 40, 3) := by decide +kernel
theorem dX4_fall_88 : decode cX4_fall 88 = .ok (.ifCond .ne 7, 3) := by decide +kernel
theorem dX4_fall_91 : decode cX4_fall 91 = .ok (.iconst 2, 1) := by decide +kernel
theorem dX4_fall_92 : decode cX4_fall 92 = .ok (.goto 9, 3) := by decide +kernel
theorem dX4_fall_95 : decode cX4_fall 95 = .ok (.aload_n 0, 1) := by decide +kernel
theorem dX4_fall_96 : decode cX4_fall 96 = .ok (.iload_n 2, 1) := by decide +kernel
theorem dX4_fall_97 : decode cX4_fall 97 = .ok (.iconst 1, 1) := by decide +kernel
theorem dX4_fall_98 : decode cX4_fall 98 = .ok (.invokevirtual 40, 3) := by decide +kernel
theorem dX4_fall_101 : decode cX4_fall 101 = .ok (.invokevirtual 52, 3) := by decide +kernel
theorem dX4_fall_104 : decode cX4_fall 104 = .ok (.goto 35, 3) := by decide +kernel
theorem dX4_fall_107 : decode cX4_fall 107 = .ok (.aload_n 0, 1) := by decide +kernel
theorem dX4_fall_108 : decode cX4_fall 108 = .ok (.iload_n 2, 1) := by decide +kernel
theorem dX4_fall_109 : decode cX4_fall 109 = .ok (.bipush 6, 2) := by decide +kernel
theorem dX4_fall_111 : decode cX4_fall 111 = .ok (.iload_n 1, 1) := by decide +kernel
theorem dX4_fall_112 : decode cX4_fall 112 = .ok (.iadd, 1) := by decide +kernel
theorem dX4_fall_113 : decode cX4_fall 113 = .ok (.invokevirtual 40, 3) := by decide +kernel
theorem dX4_fall_116 : decode cX4_fall 116 = .ok (.ifCond .ne 23, 3) := by decide +kernel
theorem dX4_fall_119 : decode cX4_fall 119 = .ok (.aload_n 0, 1) := by decide +kernel
theorem dX4_fall_120 : decode cX4_fall 120 = .ok (.iload_n 2, 1) := by decide +kernel
theorem dX4_fall_121 : decode cX4_fall 121 = .ok (.iload_n 1, 1) := by decide +kernel
theorem dX4_fall_122 : decode cX4_fall 122 = .ok (.aload_n 0, 1) := by decide +kernel
theorem dX4_fall_123 : decode cX4_fall 123 = .ok (.iload_n 2, 1) := by decide +kernel
theorem dX4_fall_124 : decode cX4_fall 124 = .ok (.iload_n 1, 1) := by decide +kernel
theorem dX4_fall_125 : decode cX4_fall 125 = .ok (.invokevirtual 86, 3) := by decide +kernel
theorem dX4_fall_128 : decode cX4_fall 128 = .ok (.ifCond .eq 7, 3) := by decide +kernel
theorem dX4_fall_131 : decode cX4_fall 131 = .ok (.iconst 3, 1) := by decide +kernel
theorem dX4_fall_132 : decode cX4_fall 132 = .ok (.goto 4, 3) := by decide +kernel
theorem dX4_fall_135 : decode cX4_fall 135 = .ok (.iconst 0, 1) := by decide +kernel
theorem dX4_fall_136 : decode cX4_fall 136 = .ok (.invokevirtual 66, 3) := by decide +kernel
theorem dX4_fall_139 : decode cX4_fall 139 = .ok (.iinc 2 1, 3) := by decide +kernel
theorem dX4_fall_142 : decode cX4_fall 142 = .ok (.goto (-104), 3) := by decide +kernel
theorem dX4_fall_145 : decode cX4_fall 145 = .ok (.aload_n 0, 1) := by decide +kernel
theorem dX4_fall_146 : decode cX4_fall 146 = .ok (.invokevirtual 111, 3) := by decide +kernel
theorem dX4_fall_149 : decode cX4_fall 149 = .ok (.ireturn, 1) := by decide +kernel
theorem dX4_rise_0 : decode cX4_rise 0 = .ok (.iload_n 1, 1) := by decide +kernel
theorem dX4_rise_1 : decode cX4_rise 1 = .ok (.iconst 0, 1) := by decide +kernel
theorem dX4_rise_2 : decode cX4_rise 2 = .ok (.iconst 4, 1) := by decide +kernel
theorem dX4_rise_3 : decode cX4_rise 3 = .ok (.invokestatic 95, 3) := by decide +kernel
theorem dX4_rise_6 : decode cX4_rise 6 = .ok (.ifCond .ne 5, 3) := by decide +kernel
theorem dX4_rise_9 : decode cX4_rise 9 = .ok (.iconst (-1), 1) := by decide +kernel
theorem dX4_rise_10 : decode cX4_rise 10 = .ok (.ireturn, 1) := by decide +kernel
theorem dX4_rise_11 : decode cX4_rise 11 = .ok (.aload_n 0, 1) := by decide +kernel
theorem dX4_rise_12 : decode cX4_rise 12 = .ok (.iload_n 1, 1) := by decide +kernel
theorem dX4_rise_13 : decode cX4_rise 13 = .ok (.invokevirtual 73, 3) := by decide +kernel
theorem dX4_rise_16 : decode cX4_rise 16 = .ok (.ifCond .ne 6, 3) := by decide +kernel
theorem dX4_rise_19 : decode cX4_rise 19 = .ok (.bipush (-5), 2) := by decide +kernel
theorem dX4_rise_21 : decode cX4_rise 21 = .ok (.ireturn, 1) := by decide +kernel
theorem dX4_rise_22 : decode cX4_rise 22 = .ok (.aload_n 0, 1) := by decide +kernel
theorem dX4_rise_23 : decode cX4_rise 23 = .ok (.invokevirtual 99, 3) := by decide +kernel
theorem dX4_rise_26 : decode cX4_rise 26 = .ok (.aload_n 0, 1) := by decide +kernel
theorem dX4_rise_27 : decode cX4_rise 27 = .ok (.getfield 7, 3) := by decide +kernel
theorem dX4_rise_30 : decode cX4_rise 30 = .ok (.bipush 10, 2) := by decide +kernel
theorem dX4_rise_32 : decode cX4_rise 32 = .ok (.iload_n 1, 1) := by decide +kernel
theorem dX4_rise_33 : decode cX4_rise 33 = .ok (.iadd, 1) := by decide +kernel
theorem dX4_rise_34 : decode cX4_rise 34 = .ok (.iconst 0, 1) := by decide +kernel
theorem dX4_rise_35 : decode cX4_rise 35 = .ok (.iastore, 1) := by decide +kernel
theorem dX4_rise_36 : decode cX4_rise 36 = .ok (.aload_n 0, 1) := by decide +kernel
theorem dX4_rise_37 : decode cX4_rise 37 = .ok (.invokevirtual 111, 3) := by decide +kernel
theorem dX4_rise_40 : decode cX4_rise 40 = .ok (.ireturn, 1) := by decide +kernel
theorem dX4_ticks_0 : decode cX4_ticks 0 = .ok (.iload_n 1, 1) := by decide +kernel
theorem dX4_ticks_1 : decode cX4_ticks 1 = .ok (.iconst 1, 1) := by decide +kernel
theorem dX4_ticks_2 : decode cX4_ticks 2 = .ok (.bipush 100, 2) := by decide +kernel
theorem dX4_ticks_4 : decode cX4_ticks 4 = .ok (.invokestatic 95, 3) := by decide +kernel
theorem dX4_ticks_7 : decode cX4_ticks 7 = .ok (.ifCond .ne 6, 3) := by decide +kernel
theorem dX4_ticks_10 : decode cX4_ticks 10 = .ok (.bipush (-2), 2) := by decide +kernel
theorem dX4_ticks_12 : decode cX4_ticks 12 = .ok (.ireturn, 1) := by decide +kernel
theorem dX4_ticks_13 : decode cX4_ticks 13 = .ok (.aload_n 0, 1) := by decide +kernel
theorem dX4_ticks_14 : decode cX4_ticks 14 = .ok (.invokevirtual 99, 3) := by decide +kernel
theorem dX4_ticks_17 : decode cX4_ticks 17 = .ok (.iconst 0, 1) := by decide +kernel
theorem dX4_ticks_18 : decode cX4_ticks 18 = .ok (.istore_n 2, 1) := by decide +kernel
theorem dX4_ticks_19 : decode cX4_ticks 19 = .ok (.iload_n 2, 1) := by decide +kernel
theorem dX4_ticks_20 : decode cX4_ticks 20 = .ok (.iload_n 1, 1) := by decide +kernel
theorem dX4_ticks_21 : decode cX4_ticks 21 = .ok (.if_icmp .ge 13, 3) := by decide +kernel
theorem dX4_ticks_24 : decode cX4_ticks 24 = .ok (.aload_n 0, 1) := by decide +kernel
theorem dX4_ticks_25 : decode cX4_ticks 25 = .ok (.invokevirtual 115, 3) := by decide +kernel
theorem dX4_ticks_28 : decode cX4_ticks 28 = .ok (.iinc 2 1, 3) := by decide +kernel
theorem dX4_ticks_31 : decode cX4_ticks 31 = .ok (.goto (-12), 3) := by decide +kernel
theorem dX4_ticks_34 : decode cX4_ticks 34 = .ok (.aload_n 0, 1) := by decide +kernel
theorem dX4_ticks_35 : decode cX4_ticks 35 = .ok (.getfield 7, 3) := by decide +kernel
theorem dX4_ticks_38 : decode cX4_ticks 38 = .ok (.iconst 4, 1) := by decide +kernel
theorem dX4_ticks_39 : decode cX4_ticks 39 = .ok (.iaload, 1) := by decide +kernel
theorem dX4_ticks_40 : decode cX4_ticks 40 = .ok (.ireturn, 1) := by decide +kernel
theorem dX4_isDeal_0 : decode cX4_isDeal 0 = .ok (.iload_n 1, 1) := by decide +kernel
theorem dX4_isDeal_1 : decode cX4_isDeal 1 = .ok (.iconst 0, 1) := by decide +kernel
theorem dX4_isDeal_2 : decode cX4_isDeal 2 = .ok (.aload_n 0, 1) := by decide +kernel
theorem dX4_isDeal_3 : decode cX4_isDeal 3 = .ok (.getfield 7, 3) := by decide +kernel
theorem dX4_isDeal_6 : decode cX4_isDeal 6 = .ok (.iconst 5, 1) := by decide +kernel
theorem dX4_isDeal_7 : decode cX4_isDeal 7 = .ok (.iaload, 1) := by decide +kernel
theorem dX4_isDeal_8 : decode cX4_isDeal 8 = .ok (.iconst 1, 1) := by decide +kernel
theorem dX4_isDeal_9 : decode cX4_isDeal 9 = .ok (.isub, 1) := by decide +kernel
theorem dX4_isDeal_10 : decode cX4_isDeal 10 = .ok (.invokestatic 95, 3) := by decide +kernel
theorem dX4_isDeal_13 : decode cX4_isDeal 13 = .ok (.ireturn, 1) := by decide +kernel
theorem dX4_clerksOf_0 : decode cX4_clerksOf 0 = .ok (.iconst 0, 1) := by decide +kernel
theorem dX4_clerksOf_1 : decode cX4_clerksOf 1 = .ok (.istore_n 3, 1) := by decide +kernel
theorem dX4_clerksOf_2 : decode cX4_clerksOf 2 = .ok (.iconst 0, 1) := by decide +kernel
theorem dX4_clerksOf_3 : decode cX4_clerksOf 3 = .ok (.istore 4, 2) := by decide +kernel
theorem dX4_clerksOf_5 : decode cX4_clerksOf 5 = .ok (.iload 4, 2) := by decide +kernel
theorem dX4_clerksOf_7 : decode cX4_clerksOf 7 = .ok (.iconst 4, 1) := by decide +kernel
theorem dX4_clerksOf_8 : decode cX4_clerksOf 8 = .ok (.if_icmp .ge 44, 3) := by decide +kernel
theorem dX4_clerksOf_11 : decode cX4_clerksOf 11 = .ok (.iload_n 3, 1) := by decide +kernel
theorem dX4_clerksOf_12 : decode cX4_clerksOf 12 = .ok (.aload_n 0, 1) := by decide +kernel
theorem dX4_clerksOf_13 : decode cX4_clerksOf 13 = .ok (.iload_n 1, 1) := by decide +kernel
theorem dX4_clerksOf_14 : decode cX4_clerksOf 14 = .ok (.iload 4, 2) := by decide +kernel
theorem dX4_clerksOf_16 : decode cX4_clerksOf 16 = .ok (.invokevirtual 86, 3) := by decide +kernel
theorem dX4_clerksOf_19 : decode cX4_clerksOf 19 = .ok (.ifCond .eq 24, 3) := by decide +kernel
theorem dX4_clerksOf_22 : decode cX4_clerksOf 22 = .ok (.aload_n 0, 1) := by decide +kernel
theorem dX4_clerksOf_23 : decode cX4_clerksOf 23 = .ok (.iload_n 1, 1) := by decide +kernel
theorem dX4_clerksOf_24 : decode cX4_clerksOf 24 = .ok (.bipush 6, 2) := by decide +kernel
theorem dX4_clerksOf_26 : decode cX4_clerksOf 26 = .ok (.iload 4, 2) := by decide +kernel
theorem dX4_clerksOf_28 : decode cX4_clerksOf 28 = .ok (.iadd, 1) := by decide +kernel
theorem dX4_clerksOf_29 : decode cX4_clerksOf 29 = .ok (.invokevirtual 40, 3) := by decide +kernel
theorem dX4_clerksOf_32 : decode cX4_clerksOf 32 = .ok (.iload_n 2, 1) := by decide +kernel
theorem dX4_clerksOf_33 : decode cX4_clerksOf 33 = .ok (.if_icmp .ne 10, 3) := by decide +kernel
theorem dX4_clerksOf_36 : decode cX4_clerksOf 36 = .ok (.iconst 1, 1) := by decide +kernel
theorem dX4_clerksOf_37 : decode cX4_clerksOf 37 = .ok (.iload 4, 2) := by decide +kernel
theorem dX4_clerksOf_39 : decode cX4_clerksOf 39 = .ok (.ishl, 1) := by decide +kernel
theorem dX4_clerksOf_40 : decode cX4_clerksOf 40 = .ok (.goto 4, 3) := by decide +kernel
theorem dX4_clerksOf_43 : decode cX4_clerksOf 43 = .ok (.iconst 0, 1) := by decide +kernel
theorem dX4_clerksOf_44 : decode cX4_clerksOf 44 = .ok (.ior, 1) := by decide +kernel
theorem dX4_clerksOf_45 : decode cX4_clerksOf 45 = .ok (.istore_n 3, 1) := by decide +kernel
theorem dX4_clerksOf_46 : decode cX4_clerksOf 46 = .ok (.iinc 4 1, 3) := by decide +kernel
theorem dX4_clerksOf_49 : decode cX4_clerksOf 49 = .ok (.goto (-44), 3) := by decide +kernel
theorem dX4_clerksOf_52 : decode cX4_clerksOf 52 = .ok (.iload_n 3, 1) := by decide +kernel
theorem dX4_clerksOf_53 : decode cX4_clerksOf 53 = .ok (.ireturn, 1) := by decide +kernel
theorem dX4_ofDeal_0 : decode cX4_ofDeal 0 = .ok (.aload_n 0, 1) := by decide +kernel
theorem dX4_ofDeal_1 : decode cX4_ofDeal 1 = .ok (.iload_n 1, 1) := by decide +kernel
theorem dX4_ofDeal_2 : decode cX4_ofDeal 2 = .ok (.invokevirtual 118, 3) := by decide +kernel
theorem dX4_ofDeal_5 : decode cX4_ofDeal 5 = .ok (.ifCond .ne 5, 3) := by decide +kernel
theorem dX4_ofDeal_8 : decode cX4_ofDeal 8 = .ok (.iconst (-1), 1) := by decide +kernel
theorem dX4_ofDeal_9 : decode cX4_ofDeal 9 = .ok (.ireturn, 1) := by decide +kernel
theorem dX4_ofDeal_10 : decode cX4_ofDeal 10 = .ok (.iload_n 2, 1) := by decide +kernel
theorem dX4_ofDeal_11 : decode cX4_ofDeal 11 = .ok (.tableswitch 49 0 4 #[33, 33, 33, 40, 40], 33) := by decide +kernel
theorem dX4_ofDeal_44 : decode cX4_ofDeal 44 = .ok (.aload_n 0, 1) := by decide +kernel
theorem dX4_ofDeal_45 : decode cX4_ofDeal 45 = .ok (.iload_n 1, 1) := by decide +kernel
theorem dX4_ofDeal_46 : decode cX4_ofDeal 46 = .ok (.iload_n 2, 1) := by decide +kernel
theorem dX4_ofDeal_47 : decode cX4_ofDeal 47 = .ok (.invokevirtual 40, 3) := by decide +kernel
theorem dX4_ofDeal_50 : decode cX4_ofDeal 50 = .ok (.ireturn, 1) := by decide +kernel
theorem dX4_ofDeal_51 : decode cX4_ofDeal 51 = .ok (.aload_n 0, 1) := by decide +kernel
theorem dX4_ofDeal_52 : decode cX4_ofDeal 52 = .ok (.iload_n 1, 1) := by decide +kernel
theorem dX4_ofDeal_53 : decode cX4_ofDeal 53 = .ok (.iload_n 2, 1) := by decide +kernel
theorem dX4_ofDeal_54 : decode cX4_ofDeal 54 = .ok (.iconst 1, 1) := by decide +kernel
theorem dX4_ofDeal_55 : decode cX4_ofDeal 55 = .ok (.iadd, 1) := by decide +kernel
theorem dX4_ofDeal_56 : decode cX4_ofDeal 56 = .ok (.invokevirtual 40, 3) := by decide +kernel
theorem dX4_ofDeal_59 : decode cX4_ofDeal 59 = .ok (.ireturn, 1) := by decide +kernel
theorem dX4_ofDeal_60 : decode cX4_ofDeal 60 = .ok (.iload_n 2, 1) := by decide +kernel
theorem dX4_ofDeal_61 : decode cX4_ofDeal 61 = .ok (.iconst 5, 1) := by decide +kernel
theorem dX4_ofDeal_62 : decode cX4_ofDeal 62 = .ok (.bipush 8, 2) := by decide +kernel
theorem dX4_ofDeal_64 : decode cX4_ofDeal 64 = .ok (.invokestatic 95, 3) := by decide +kernel
theorem dX4_ofDeal_67 : decode cX4_ofDeal 67 = .ok (.ifCond .eq 14, 3) := by decide +kernel
theorem dX4_ofDeal_70 : decode cX4_ofDeal 70 = .ok (.aload_n 0, 1) := by decide +kernel
theorem dX4_ofDeal_71 : decode cX4_ofDeal 71 = .ok (.iload_n 1, 1) := by decide +kernel
theorem dX4_ofDeal_72 : decode cX4_ofDeal 72 = .ok (.iload_n 2, 1) := by decide +kernel
theorem dX4_ofDeal_73 : decode cX4_ofDeal 73 = .ok (.iconst 5, 1) := by decide +kernel
theorem dX4_ofDeal_74 : decode cX4_ofDeal 74 = .ok (.isub, 1) := by decide +kernel
theorem dX4_ofDeal_75 : decode cX4_ofDeal 75 = .ok (.invokevirtual 121, 3) := by decide +kernel
theorem dX4_ofDeal_78 : decode cX4_ofDeal 78 = .ok (.goto 5, 3) := by decide +kernel
theorem dX4_ofDeal_81 : decode cX4_ofDeal 81 = .ok (.bipush (-2), 2) := by decide +kernel
theorem dX4_ofDeal_83 : decode cX4_ofDeal 83 = .ok (.ireturn, 1) := by decide +kernel
theorem dX4_at_0 : decode cX4_at 0 = .ok (.aload_n 0, 1) := by decide +kernel
theorem dX4_at_1 : decode cX4_at 1 = .ok (.iload_n 1, 1) := by decide +kernel
theorem dX4_at_2 : decode cX4_at 2 = .ok (.invokevirtual 118, 3) := by decide +kernel
theorem dX4_at_5 : decode cX4_at 5 = .ok (.ifCond .eq 12, 3) := by decide +kernel
theorem dX4_at_8 : decode cX4_at 8 = .ok (.iload_n 2, 1) := by decide +kernel
theorem dX4_at_9 : decode cX4_at 9 = .ok (.iconst 0, 1) := by decide +kernel
theorem dX4_at_10 : decode cX4_at 10 = .ok (.iconst 3, 1) := by decide +kernel
theorem dX4_at_11 : decode cX4_at 11 = .ok (.invokestatic 95, 3) := by decide +kernel
theorem dX4_at_14 : decode cX4_at 14 = .ok (.ifCond .ne 5, 3) := by decide +kernel
theorem dX4_at_17 : decode cX4_at 17 = .ok (.iconst (-1), 1) := by decide +kernel
theorem dX4_at_18 : decode cX4_at 18 = .ok (.ireturn, 1) := by decide +kernel
theorem dX4_at_19 : decode cX4_at 19 = .ok (.aload_n 0, 1) := by decide +kernel
theorem dX4_at_20 : decode cX4_at 20 = .ok (.iload_n 1, 1) := by decide +kernel
theorem dX4_at_21 : decode cX4_at 21 = .ok (.iload_n 2, 1) := by decide +kernel
theorem dX4_at_22 : decode cX4_at 22 = .ok (.invokevirtual 86, 3) := by decide +kernel
theorem dX4_at_25 : decode cX4_at 25 = .ok (.ifCond .eq 15, 3) := by decide +kernel
theorem dX4_at_28 : decode cX4_at 28 = .ok (.aload_n 0, 1) := by decide +kernel
theorem dX4_at_29 : decode cX4_at 29 = .ok (.iload_n 1, 1) := by decide +kernel
theorem dX4_at_30 : decode cX4_at 30 = .ok (.bipush 6, 2) := by decide +kernel
theorem dX4_at_32 : decode cX4_at 32 = .ok (.iload_n 2, 1) := by decide +kernel
theorem dX4_at_33 : decode cX4_at 33 = .ok (.iadd, 1) := by decide +kernel
theorem dX4_at_34 : decode cX4_at 34 = .ok (.invokevirtual 40, 3) := by decide +kernel
theorem dX4_at_37 : decode cX4_at 37 = .ok (.goto 5, 3) := by decide +kernel
theorem dX4_at_40 : decode cX4_at 40 = .ok (.bipush (-6), 2) := by decide +kernel
theorem dX4_at_42 : decode cX4_at 42 = .ok (.ireturn, 1) := by decide +kernel
theorem dX4_message_0 : decode cX4_message 0 = .ok (.aload_n 0, 1) := by decide +kernel
theorem dX4_message_1 : decode cX4_message 1 = .ok (.iload_n 1, 1) := by decide +kernel
theorem dX4_message_2 : decode cX4_message 2 = .ok (.invokevirtual 102, 3) := by decide +kernel
theorem dX4_message_5 : decode cX4_message 5 = .ok (.ifCond .ne 5, 3) := by decide +kernel
theorem dX4_message_8 : decode cX4_message 8 = .ok (.iconst (-1), 1) := by decide +kernel
theorem dX4_message_9 : decode cX4_message 9 = .ok (.ireturn, 1) := by decide +kernel
theorem dX4_message_10 : decode cX4_message 10 = .ok (.iload_n 2, 1) := by decide +kernel
theorem dX4_message_11 : decode cX4_message 11 = .ok (.iconst 0, 1) := by decide +kernel
theorem dX4_message_12 : decode cX4_message 12 = .ok (.iconst 3, 1) := by decide +kernel
theorem dX4_message_13 : decode cX4_message 13 = .ok (.invokestatic 95, 3) := by decide +kernel
theorem dX4_message_16 : decode cX4_message 16 = .ok (.ifCond .eq 20, 3) := by decide +kernel
theorem dX4_message_19 : decode cX4_message 19 = .ok (.aload_n 0, 1) := by decide +kernel
theorem dX4_message_20 : decode cX4_message 20 = .ok (.getfield 7, 3) := by decide +kernel
theorem dX4_message_23 : decode cX4_message 23 = .ok (.sipush 150, 3) := by decide +kernel
theorem dX4_message_26 : decode cX4_message 26 = .ok (.iconst 4, 1) := by decide +kernel
theorem dX4_message_27 : decode cX4_message 27 = .ok (.iload_n 1, 1) := by decide +kernel
theorem dX4_message_28 : decode cX4_message 28 = .ok (.imul, 1) := by decide +kernel
theorem dX4_message_29 : decode cX4_message 29 = .ok (.iadd, 1) := by decide +kernel
theorem dX4_message_30 : decode cX4_message 30 = .ok (.iload_n 2, 1) := by decide +kernel
theorem dX4_message_31 : decode cX4_message 31 = .ok (.iadd, 1) := by decide +kernel
theorem dX4_message_32 : decode cX4_message 32 = .ok (.iaload, 1) := by decide +kernel
theorem dX4_message_33 : decode cX4_message 33 = .ok (.goto 5, 3) := by decide +kernel
theorem dX4_message_36 : decode cX4_message 36 = .ok (.bipush (-2), 2) := by decide +kernel
theorem dX4_message_38 : decode cX4_message 38 = .ok (.ireturn, 1) := by decide +kernel
theorem dX4_underwayTo_0 : decode cX4_underwayTo 0 = .ok (.iconst 0, 1) := by decide +kernel
theorem dX4_underwayTo_1 : decode cX4_underwayTo 1 = .ok (.istore_n 2, 1) := by decide +kernel
theorem dX4_underwayTo_2 : decode cX4_underwayTo 2 = .ok (.iconst 0, 1) := by decide +kernel
theorem dX4_underwayTo_3 : decode cX4_underwayTo 3 = .ok (.istore_n 3, 1) := by decide +kernel
theorem dX4_underwayTo_4 : decode cX4_underwayTo 4 = .ok (.iload_n 3, 1) := by decide +kernel
theorem dX4_underwayTo_5 : decode cX4_underwayTo 5 = .ok (.aload_n 0, 1) := by decide +kernel
theorem dX4_underwayTo_6 : decode cX4_underwayTo 6 = .ok (.getfield 7, 3) := by decide +kernel
theorem dX4_underwayTo_9 : decode cX4_underwayTo 9 = .ok (.bipush 6, 2) := by decide +kernel
theorem dX4_underwayTo_11 : decode cX4_underwayTo 11 = .ok (.iaload, 1) := by decide +kernel
theorem dX4_underwayTo_12 : decode cX4_underwayTo 12 = .ok (.if_icmp .ge 35, 3) := by decide +kernel
theorem dX4_underwayTo_15 : decode cX4_underwayTo 15 = .ok (.iload_n 2, 1) := by decide +kernel
theorem dX4_underwayTo_16 : decode cX4_underwayTo 16 = .ok (.aload_n 0, 1) := by decide +kernel
theorem dX4_underwayTo_17 : decode cX4_underwayTo 17 = .ok (.getfield 7, 3) := by decide +kernel
theorem dX4_underwayTo_20 : decode cX4_underwayTo 20 = .ok (.sipush 150, 3) := by decide +kernel
theorem dX4_underwayTo_23 : decode cX4_underwayTo 23 = .ok (.iconst 4, 1) := by decide +kernel
theorem dX4_underwayTo_24 : decode cX4_underwayTo 24 = .ok (.iload_n 3, 1) := by decide +kernel
theorem dX4_underwayTo_25 : decode cX4_underwayTo 25 = .ok (.imul, 1) := by decide +kernel
theorem dX4_underwayTo_26 : decode cX4_underwayTo 26 = .ok (.iadd, 1) := by decide +kernel
theorem dX4_underwayTo_27 : decode cX4_underwayTo 27 = .ok (.iconst 3, 1) := by decide +kernel
theorem dX4_underwayTo_28 : decode cX4_underwayTo 28 = .ok (.iadd, 1) := by decide +kernel
theorem dX4_underwayTo_29 : decode cX4_underwayTo 29 = .ok (.iaload, 1) := by decide +kernel
theorem dX4_underwayTo_30 : decode cX4_underwayTo 30 = .ok (.iload_n 1, 1) := by decide +kernel
theorem dX4_underwayTo_31 : decode cX4_underwayTo 31 = .ok (.if_icmp .ne 7, 3) := by decide +kernel
theorem dX4_underwayTo_34 : decode cX4_underwayTo 34 = .ok (.iconst 1, 1) := by decide +kernel
theorem dX4_underwayTo_35 : decode cX4_underwayTo 35 = .ok (.goto 4, 3) := by decide +kernel
theorem dX4_underwayTo_38 : decode cX4_underwayTo 38 = .ok (.iconst 0, 1) := by decide +kernel
theorem dX4_underwayTo_39 : decode cX4_underwayTo 39 = .ok (.iadd, 1) := by decide +kernel
theorem dX4_underwayTo_40 : decode cX4_underwayTo 40 = .ok (.istore_n 2, 1) := by decide +kernel
theorem dX4_underwayTo_41 : decode cX4_underwayTo 41 = .ok (.iinc 3 1, 3) := by decide +kernel
theorem dX4_underwayTo_44 : decode cX4_underwayTo 44 = .ok (.goto (-40), 3) := by decide +kernel
theorem dX4_underwayTo_47 : decode cX4_underwayTo 47 = .ok (.iload_n 2, 1) := by decide +kernel
theorem dX4_underwayTo_48 : decode cX4_underwayTo 48 = .ok (.ireturn, 1) := by decide +kernel
theorem dX4_who_0 : decode cX4_who 0 = .ok (.iload_n 1, 1) := by decide +kernel
theorem dX4_who_1 : decode cX4_who 1 = .ok (.iconst 0, 1) := by decide +kernel
theorem dX4_who_2 : decode cX4_who 2 = .ok (.iconst 4, 1) := by decide +kernel
theorem dX4_who_3 : decode cX4_who 3 = .ok (.invokestatic 95, 3) := by decide +kernel
theorem dX4_who_6 : decode cX4_who 6 = .ok (.ifCond .ne 5, 3) := by decide +kernel
theorem dX4_who_9 : decode cX4_who 9 = .ok (.iconst (-1), 1) := by decide +kernel
theorem dX4_who_10 : decode cX4_who 10 = .ok (.ireturn, 1) := by decide +kernel
theorem dX4_who_11 : decode cX4_who 11 = .ok (.iload_n 2, 1) := by decide +kernel
theorem dX4_who_12 : decode cX4_who 12 = .ok (.tableswitch 77 0 3 #[32, 42, 61, 67], 32) := by decide +kernel
theorem dX4_who_44 : decode cX4_who 44 = .ok (.aload_n 0, 1) := by decide +kernel
theorem dX4_who_45 : decode cX4_who 45 = .ok (.getfield 7, 3) := by decide +kernel
theorem dX4_who_48 : decode cX4_who 48 = .ok (.bipush 10, 2) := by decide +kernel
theorem dX4_who_50 : decode cX4_who 50 = .ok (.iload_n 1, 1) := by decide +kernel
theorem dX4_who_51 : decode cX4_who 51 = .ok (.iadd, 1) := by decide +kernel
theorem dX4_who_52 : decode cX4_who 52 = .ok (.iaload, 1) := by decide +kernel
theorem dX4_who_53 : decode cX4_who 53 = .ok (.ireturn, 1) := by decide +kernel
theorem dX4_who_54 : decode cX4_who 54 = .ok (.iload_n 1, 1) := by decide +kernel
theorem dX4_who_55 : decode cX4_who 55 = .ok (.iconst 4, 1) := by decide +kernel
theorem dX4_who_56 : decode cX4_who 56 = .ok (.if_icmp .ne 7, 3) := by decide +kernel
theorem dX4_who_59 : decode cX4_who 59 = .ok (.iconst 1, 1) := by decide +kernel
theorem dX4_who_60 : decode cX4_who 60 = .ok (.goto 12, 3) := by decide +kernel
theorem dX4_who_63 : decode cX4_who 63 = .ok (.aload_n 0, 1) := by decide +kernel
theorem dX4_who_64 : decode cX4_who 64 = .ok (.getfield 7, 3) := by decide +kernel
theorem dX4_who_67 : decode cX4_who 67 = .ok (.bipush 15, 2) := by decide +kernel
theorem dX4_who_69 : decode cX4_who 69 = .ok (.iload_n 1, 1) := by decide +kernel
theorem dX4_who_70 : decode cX4_who 70 = .ok (.iadd, 1) := by decide +kernel
theorem dX4_who_71 : decode cX4_who 71 = .ok (.iaload, 1) := by decide +kernel
theorem dX4_who_72 : decode cX4_who 72 = .ok (.ireturn, 1) := by decide +kernel
theorem dX4_who_73 : decode cX4_who 73 = .ok (.aload_n 0, 1) := by decide +kernel
theorem dX4_who_74 : decode cX4_who 74 = .ok (.iload_n 1, 1) := by decide +kernel
theorem dX4_who_75 : decode cX4_who 75 = .ok (.invokevirtual 124, 3) := by decide +kernel
theorem dX4_who_78 : decode cX4_who 78 = .ok (.ireturn, 1) := by decide +kernel
theorem dX4_who_79 : decode cX4_who 79 = .ok (.aload_n 0, 1) := by decide +kernel
theorem dX4_who_80 : decode cX4_who 80 = .ok (.getfield 7, 3) := by decide +kernel
theorem dX4_who_83 : decode cX4_who 83 = .ok (.bipush 20, 2) := by decide +kernel
theorem dX4_who_85 : decode cX4_who 85 = .ok (.iload_n 1, 1) := by decide +kernel
theorem dX4_who_86 : decode cX4_who 86 = .ok (.iadd, 1) := by decide +kernel
theorem dX4_who_87 : decode cX4_who 87 = .ok (.iaload, 1) := by decide +kernel
theorem dX4_who_88 : decode cX4_who 88 = .ok (.ireturn, 1) := by decide +kernel
theorem dX4_who_89 : decode cX4_who 89 = .ok (.iload_n 2, 1) := by decide +kernel
theorem dX4_who_90 : decode cX4_who 90 = .ok (.iconst 4, 1) := by decide +kernel
theorem dX4_who_91 : decode cX4_who 91 = .ok (.if_icmp .ne 15, 3) := by decide +kernel
theorem dX4_who_94 : decode cX4_who 94 = .ok (.aload_n 0, 1) := by decide +kernel
theorem dX4_who_95 : decode cX4_who 95 = .ok (.getfield 7, 3) := by decide +kernel
theorem dX4_who_98 : decode cX4_who 98 = .ok (.bipush 25, 2) := by decide +kernel
theorem dX4_who_100 : decode cX4_who 100 = .ok (.iload_n 1, 1) := by decide +kernel
theorem dX4_who_101 : decode cX4_who 101 = .ok (.iadd, 1) := by decide +kernel
theorem dX4_who_102 : decode cX4_who 102 = .ok (.iaload, 1) := by decide +kernel
theorem dX4_who_103 : decode cX4_who 103 = .ok (.goto 5, 3) := by decide +kernel
theorem dX4_who_106 : decode cX4_who 106 = .ok (.bipush (-2), 2) := by decide +kernel
theorem dX4_who_108 : decode cX4_who 108 = .ok (.ireturn, 1) := by decide +kernel
theorem dX4_dealsWith_0 : decode cX4_dealsWith 0 = .ok (.iconst 0, 1) := by decide +kernel
theorem dX4_dealsWith_1 : decode cX4_dealsWith 1 = .ok (.istore_n 2, 1) := by decide +kernel
theorem dX4_dealsWith_2 : decode cX4_dealsWith 2 = .ok (.iconst 0, 1) := by decide +kernel
theorem dX4_dealsWith_3 : decode cX4_dealsWith 3 = .ok (.istore_n 3, 1) := by decide +kernel
theorem dX4_dealsWith_4 : decode cX4_dealsWith 4 = .ok (.iload_n 3, 1) := by decide +kernel
theorem dX4_dealsWith_5 : decode cX4_dealsWith 5 = .ok (.aload_n 0, 1) := by decide +kernel
theorem dX4_dealsWith_6 : decode cX4_dealsWith 6 = .ok (.getfield 7, 3) := by decide +kernel
theorem dX4_dealsWith_9 : decode cX4_dealsWith 9 = .ok (.iconst 5, 1) := by decide +kernel
theorem dX4_dealsWith_10 : decode cX4_dealsWith 10 = .ok (.iaload, 1) := by decide +kernel
theorem dX4_dealsWith_11 : decode cX4_dealsWith 11 = .ok (.if_icmp .ge 68, 3) := by decide +kernel
theorem dX4_dealsWith_14 : decode cX4_dealsWith 14 = .ok (.aload_n 0, 1) := by decide +kernel
theorem dX4_dealsWith_15 : decode cX4_dealsWith 15 = .ok (.iload_n 3, 1) := by decide +kernel
theorem dX4_dealsWith_16 : decode cX4_dealsWith 16 = .ok (.iconst 2, 1) := by decide +kernel
theorem dX4_dealsWith_17 : decode cX4_dealsWith 17 = .ok (.invokevirtual 121, 3) := by decide +kernel
theorem dX4_dealsWith_20 : decode cX4_dealsWith 20 = .ok (.ifCond .eq 7, 3) := by decide +kernel
theorem dX4_dealsWith_23 : decode cX4_dealsWith 23 = .ok (.iconst 1, 1) := by decide +kernel
theorem dX4_dealsWith_24 : decode cX4_dealsWith 24 = .ok (.goto 4, 3) := by decide +kernel
theorem dX4_dealsWith_27 : decode cX4_dealsWith 27 = .ok (.iconst 0, 1) := by decide +kernel
theorem dX4_dealsWith_28 : decode cX4_dealsWith 28 = .ok (.istore 4, 2) := by decide +kernel
theorem dX4_dealsWith_30 : decode cX4_dealsWith 30 = .ok (.aload_n 0, 1) := by decide +kernel
theorem dX4_dealsWith_31 : decode cX4_dealsWith 31 = .ok (.iload_n 3, 1) := by decide +kernel
theorem dX4_dealsWith_32 : decode cX4_dealsWith 32 = .ok (.iconst 3, 1) := by decide +kernel
theorem dX4_dealsWith_33 : decode cX4_dealsWith 33 = .ok (.invokevirtual 121, 3) := by decide +kernel
theorem dX4_dealsWith_36 : decode cX4_dealsWith 36 = .ok (.ifCond .eq 7, 3) := by decide +kernel
theorem dX4_dealsWith_39 : decode cX4_dealsWith 39 = .ok (.iconst 1, 1) := by decide +kernel
theorem dX4_dealsWith_40 : decode cX4_dealsWith 40 = .ok (.goto 4, 3) := by decide +kernel
theorem dX4_dealsWith_43 : decode cX4_dealsWith 43 = .ok (.iconst 0, 1) := by decide +kernel
theorem dX4_dealsWith_44 : decode cX4_dealsWith 44 = .ok (.istore 5, 2) := by decide +kernel
theorem dX4_dealsWith_46 : decode cX4_dealsWith 46 = .ok (.iload_n 2, 1) := by decide +kernel
theorem dX4_dealsWith_47 : decode cX4_dealsWith 47 = .ok (.iload_n 1, 1) := by decide +kernel
theorem dX4_dealsWith_48 : decode cX4_dealsWith 48 = .ok (.iconst 1, 1) := by decide +kernel
theorem dX4_dealsWith_49 : decode cX4_dealsWith 49 = .ok (.if_icmp .eq 8, 3) := by decide +kernel
theorem dX4_dealsWith_52 : decode cX4_dealsWith 52 = .ok (.iload 4, 2) := by decide +kernel
theorem dX4_dealsWith_54 : decode cX4_dealsWith 54 = .ok (.ifCond .eq 16, 3) := by decide +kernel
theorem dX4_dealsWith_57 : decode cX4_dealsWith 57 = .ok (.iload_n 1, 1) := by decide +kernel
theorem dX4_dealsWith_58 : decode cX4_dealsWith 58 = .ok (.ifCond .eq 8, 3) := by decide +kernel
theorem dX4_dealsWith_61 : decode cX4_dealsWith 61 = .ok (.iload 5, 2) := by decide +kernel
theorem dX4_dealsWith_63 : decode cX4_dealsWith 63 = .ok (.ifCond .eq 7, 3) := by decide +kernel
theorem dX4_dealsWith_66 : decode cX4_dealsWith 66 = .ok (.iconst 1, 1) := by decide +kernel
theorem dX4_dealsWith_67 : decode cX4_dealsWith 67 = .ok (.goto 4, 3) := by decide +kernel
theorem dX4_dealsWith_70 : decode cX4_dealsWith 70 = .ok (.iconst 0, 1) := by decide +kernel
theorem dX4_dealsWith_71 : decode cX4_dealsWith 71 = .ok (.iadd, 1) := by decide +kernel
theorem dX4_dealsWith_72 : decode cX4_dealsWith 72 = .ok (.istore_n 2, 1) := by decide +kernel
theorem dX4_dealsWith_73 : decode cX4_dealsWith 73 = .ok (.iinc 3 1, 3) := by decide +kernel
theorem dX4_dealsWith_76 : decode cX4_dealsWith 76 = .ok (.goto (-72), 3) := by decide +kernel
theorem dX4_dealsWith_79 : decode cX4_dealsWith 79 = .ok (.iload_n 2, 1) := by decide +kernel
theorem dX4_dealsWith_80 : decode cX4_dealsWith 80 = .ok (.ireturn, 1) := by decide +kernel
theorem dX4_count_0 : decode cX4_count 0 = .ok (.iload_n 1, 1) := by decide +kernel
theorem dX4_count_1 : decode cX4_count 1 = .ok (.bipush 7, 2) := by decide +kernel
theorem dX4_count_3 : decode cX4_count 3 = .ok (.bipush 10, 2) := by decide +kernel
theorem dX4_count_5 : decode cX4_count 5 = .ok (.invokestatic 95, 3) := by decide +kernel
theorem dX4_count_8 : decode cX4_count 8 = .ok (.ifCond .eq 13, 3) := by decide +kernel
theorem dX4_count_11 : decode cX4_count 11 = .ok (.aload_n 0, 1) := by decide +kernel
theorem dX4_count_12 : decode cX4_count 12 = .ok (.getfield 7, 3) := by decide +kernel
theorem dX4_count_15 : decode cX4_count 15 = .ok (.iload_n 1, 1) := by decide +kernel
theorem dX4_count_16 : decode cX4_count 16 = .ok (.bipush 7, 2) := by decide +kernel
theorem dX4_count_18 : decode cX4_count 18 = .ok (.isub, 1) := by decide +kernel
theorem dX4_count_19 : decode cX4_count 19 = .ok (.iaload, 1) := by decide +kernel
theorem dX4_count_20 : decode cX4_count 20 = .ok (.ireturn, 1) := by decide +kernel
theorem dX4_count_21 : decode cX4_count 21 = .ok (.iload_n 1, 1) := by decide +kernel
theorem dX4_count_22 : decode cX4_count 22 = .ok (.bipush 11, 2) := by decide +kernel
theorem dX4_count_24 : decode cX4_count 24 = .ok (.bipush 13, 2) := by decide +kernel
theorem dX4_count_26 : decode cX4_count 26 = .ok (.invokestatic 95, 3) := by decide +kernel
theorem dX4_count_29 : decode cX4_count 29 = .ok (.ifCond .eq 12, 3) := by decide +kernel
theorem dX4_count_32 : decode cX4_count 32 = .ok (.aload_n 0, 1) := by decide +kernel
theorem dX4_count_33 : decode cX4_count 33 = .ok (.iload_n 1, 1) := by decide +kernel
theorem dX4_count_34 : decode cX4_count 34 = .ok (.bipush 11, 2) := by decide +kernel
theorem dX4_count_36 : decode cX4_count 36 = .ok (.isub, 1) := by decide +kernel
theorem dX4_count_37 : decode cX4_count 37 = .ok (.invokevirtual 128, 3) := by decide +kernel
theorem dX4_count_40 : decode cX4_count 40 = .ok (.ireturn, 1) := by decide +kernel
theorem dX4_count_41 : decode cX4_count 41 = .ok (.iload_n 1, 1) := by decide +kernel
theorem dX4_count_42 : decode cX4_count 42 = .ok (.iconst 0, 1) := by decide +kernel
theorem dX4_count_43 : decode cX4_count 43 = .ok (.iconst 4, 1) := by decide +kernel
theorem dX4_count_44 : decode cX4_count 44 = .ok (.invokestatic 95, 3) := by decide +kernel
theorem dX4_count_47 : decode cX4_count 47 = .ok (.ifCond .eq 14, 3) := by decide +kernel
theorem dX4_count_50 : decode cX4_count 50 = .ok (.aload_n 0, 1) := by decide +kernel
theorem dX4_count_51 : decode cX4_count 51 = .ok (.getfield 7, 3) := by decide +kernel
theorem dX4_count_54 : decode cX4_count 54 = .ok (.iconst 4, 1) := by decide +kernel
theorem dX4_count_55 : decode cX4_count 55 = .ok (.iload_n 1, 1) := by decide +kernel
theorem dX4_count_56 : decode cX4_count 56 = .ok (.iadd, 1) := by decide +kernel
theorem dX4_count_57 : decode cX4_count 57 = .ok (.iaload, 1) := by decide +kernel
theorem dX4_count_58 : decode cX4_count 58 = .ok (.goto 30, 3) := by decide +kernel
theorem dX4_count_61 : decode cX4_count 61 = .ok (.iload_n 1, 1) := by decide +kernel
theorem dX4_count_62 : decode cX4_count 62 = .ok (.iconst 5, 1) := by decide +kernel
theorem dX4_count_63 : decode cX4_count 63 = .ok (.if_icmp .ne 10, 3) := by decide +kernel
theorem dX4_count_66 : decode cX4_count 66 = .ok (.aload_n 0, 1) := by decide +kernel
theorem dX4_count_67 : decode cX4_count 67 = .ok (.getfield 131, 3) := by decide +kernel
theorem dX4_count_70 : decode cX4_count 70 = .ok (.goto 18, 3) := by decide +kernel
theorem dX4_count_73 : decode cX4_count 73 = .ok (.iload_n 1, 1) := by decide +kernel
theorem dX4_count_74 : decode cX4_count 74 = .ok (.bipush 6, 2) := by decide +kernel
theorem dX4_count_76 : decode cX4_count 76 = .ok (.if_icmp .ne 10, 3) := by decide +kernel
theorem dX4_count_79 : decode cX4_count 79 = .ok (.aload_n 0, 1) := by decide +kernel
theorem dX4_count_80 : decode cX4_count 80 = .ok (.getfield 36, 3) := by decide +kernel
theorem dX4_count_83 : decode cX4_count 83 = .ok (.goto 5, 3) := by decide +kernel
theorem dX4_count_86 : decode cX4_count 86 = .ok (.bipush (-2), 2) := by decide +kernel
theorem dX4_count_88 : decode cX4_count 88 = .ok (.ireturn, 1) := by decide +kernel
theorem dX4_sure_0 : decode cX4_sure 0 = .ok (.aload_n 0, 1) := by decide +kernel
theorem dX4_sure_1 : decode cX4_sure 1 = .ok (.iload_n 1, 1) := by decide +kernel
theorem dX4_sure_2 : decode cX4_sure 2 = .ok (.invokevirtual 118, 3) := by decide +kernel
theorem dX4_sure_5 : decode cX4_sure 5 = .ok (.ifCond .ne 5, 3) := by decide +kernel
theorem dX4_sure_8 : decode cX4_sure 8 = .ok (.iconst (-1), 1) := by decide +kernel
theorem dX4_sure_9 : decode cX4_sure 9 = .ok (.ireturn, 1) := by decide +kernel
theorem dX4_sure_10 : decode cX4_sure 10 = .ok (.aload_n 0, 1) := by decide +kernel
theorem dX4_sure_11 : decode cX4_sure 11 = .ok (.iload_n 1, 1) := by decide +kernel
theorem dX4_sure_12 : decode cX4_sure 12 = .ok (.iconst 1, 1) := by decide +kernel
theorem dX4_sure_13 : decode cX4_sure 13 = .ok (.invokevirtual 40, 3) := by decide +kernel
theorem dX4_sure_16 : decode cX4_sure 16 = .ok (.istore_n 2, 1) := by decide +kernel
theorem dX4_sure_17 : decode cX4_sure 17 = .ok (.iload_n 2, 1) := by decide +kernel
theorem dX4_sure_18 : decode cX4_sure 18 = .ok (.iconst 1, 1) := by decide +kernel
theorem dX4_sure_19 : decode cX4_sure 19 = .ok (.if_icmp .eq 8, 3) := by decide +kernel
theorem dX4_sure_22 : decode cX4_sure 22 = .ok (.iload_n 2, 1) := by decide +kernel
theorem dX4_sure_23 : decode cX4_sure 23 = .ok (.iconst 3, 1) := by decide +kernel
theorem dX4_sure_24 : decode cX4_sure 24 = .ok (.if_icmp .ne 7, 3) := by decide +kernel
theorem dX4_sure_27 : decode cX4_sure 27 = .ok (.iconst 1, 1) := by decide +kernel
theorem dX4_sure_28 : decode cX4_sure 28 = .ok (.goto 22, 3) := by decide +kernel
theorem dX4_sure_31 : decode cX4_sure 31 = .ok (.iload_n 2, 1) := by decide +kernel
theorem dX4_sure_32 : decode cX4_sure 32 = .ok (.iconst 2, 1) := by decide +kernel
theorem dX4_sure_33 : decode cX4_sure 33 = .ok (.if_icmp .eq 12, 3) := by decide +kernel
theorem dX4_sure_36 : decode cX4_sure 36 = .ok (.aload_n 0, 1) := by decide +kernel
theorem dX4_sure_37 : decode cX4_sure 37 = .ok (.iload_n 1, 1) := by decide +kernel
theorem dX4_sure_38 : decode cX4_sure 38 = .ok (.iconst 3, 1) := by decide +kernel
theorem dX4_sure_39 : decode cX4_sure 39 = .ok (.invokevirtual 121, 3) := by decide +kernel
theorem dX4_sure_42 : decode cX4_sure 42 = .ok (.ifCond .eq 7, 3) := by decide +kernel
theorem dX4_sure_45 : decode cX4_sure 45 = .ok (.iconst 2, 1) := by decide +kernel
theorem dX4_sure_46 : decode cX4_sure 46 = .ok (.goto 4, 3) := by decide +kernel
theorem dX4_sure_49 : decode cX4_sure 49 = .ok (.iconst 0, 1) := by decide +kernel
theorem dX4_sure_50 : decode cX4_sure 50 = .ok (.ireturn, 1) := by decide +kernel
theorem dX4_canAsk_0 : decode cX4_canAsk 0 = .ok (.aload_n 0, 1) := by decide +kernel
theorem dX4_canAsk_1 : decode cX4_canAsk 1 = .ok (.iconst 4, 1) := by decide +kernel
theorem dX4_canAsk_2 : decode cX4_canAsk 2 = .ok (.invokevirtual 73, 3) := by decide +kernel
theorem dX4_canAsk_5 : decode cX4_canAsk 5 = .ok (.ifCond .ne 16, 3) := by decide +kernel
theorem dX4_canAsk_8 : decode cX4_canAsk 8 = .ok (.aload_n 0, 1) := by decide +kernel
theorem dX4_canAsk_9 : decode cX4_canAsk 9 = .ok (.iload_n 1, 1) := by decide +kernel
theorem dX4_canAsk_10 : decode cX4_canAsk 10 = .ok (.iconst 1, 1) := by decide +kernel
theorem dX4_canAsk_11 : decode cX4_canAsk 11 = .ok (.invokevirtual 40, 3) := by decide +kernel
theorem dX4_canAsk_14 : decode cX4_canAsk 14 = .ok (.ifCond .eq 7, 3) := by decide +kernel
theorem dX4_canAsk_17 : decode cX4_canAsk 17 = .ok (.iconst 1, 1) := by decide +kernel
theorem dX4_canAsk_18 : decode cX4_canAsk 18 = .ok (.goto 4, 3) := by decide +kernel
theorem dX4_canAsk_21 : decode cX4_canAsk 21 = .ok (.iconst 0, 1) := by decide +kernel
theorem dX4_canAsk_22 : decode cX4_canAsk 22 = .ok (.istore_n 3, 1) := by decide +kernel
theorem dX4_canAsk_23 : decode cX4_canAsk 23 = .ok (.iconst 0, 1) := by decide +kernel
theorem dX4_canAsk_24 : decode cX4_canAsk 24 = .ok (.istore 4, 2) := by decide +kernel
theorem dX4_canAsk_26 : decode cX4_canAsk 26 = .ok (.iload 4, 2) := by decide +kernel
theorem dX4_canAsk_28 : decode cX4_canAsk 28 = .ok (.iconst 4, 1) := by decide +kernel
theorem dX4_canAsk_29 : decode cX4_canAsk 29 = .ok (.if_icmp .ge 68, 3) := by decide +kernel
theorem dX4_canAsk_32 : decode cX4_canAsk 32 = .ok (.iload_n 3, 1) := by decide +kernel
theorem dX4_canAsk_33 : decode cX4_canAsk 33 = .ok (.ifCond .ne 52, 3) := by decide +kernel
theorem dX4_canAsk_36 : decode cX4_canAsk 36 = .ok (.aload_n 0, 1) := by decide +kernel
theorem dX4_canAsk_37 : decode cX4_canAsk 37 = .ok (.getfield 7, 3) := by decide +kernel
theorem dX4_canAsk_40 : decode cX4_canAsk 40 = .ok (.iconst 3, 1) := by decide +kernel
theorem dX4_canAsk_41 : decode cX4_canAsk 41 = .ok (.iaload, 1) := by decide +kernel
theorem dX4_canAsk_42 : decode cX4_canAsk 42 = .ok (.iconst 1, 1) := by decide +kernel
theorem dX4_canAsk_43 : decode cX4_canAsk 43 = .ok (.if_icmp .ne 46, 3) := by decide +kernel
theorem dX4_canAsk_46 : decode cX4_canAsk 46 = .ok (.iload 4, 2) := by decide +kernel
theorem dX4_canAsk_48 : decode cX4_canAsk 48 = .ok (.iload_n 2, 1) := by decide +kernel
theorem dX4_canAsk_49 : decode cX4_canAsk 49 = .ok (.if_icmp .eq 40, 3) := by decide +kernel
theorem dX4_canAsk_52 : decode cX4_canAsk 52 = .ok (.aload_n 0, 1) := by decide +kernel
theorem dX4_canAsk_53 : decode cX4_canAsk 53 = .ok (.iload_n 1, 1) := by decide +kernel
theorem dX4_canAsk_54 : decode cX4_canAsk 54 = .ok (.iload 4, 2) := by decide +kernel
theorem dX4_canAsk_56 : decode cX4_canAsk 56 = .ok (.invokevirtual 86, 3) := by decide +kernel
theorem dX4_canAsk_59 : decode cX4_canAsk 59 = .ok (.ifCond .eq 30, 3) := by decide +kernel
theorem dX4_canAsk_62 : decode cX4_canAsk 62 = .ok (.aload_n 0, 1) := by decide +kernel
theorem dX4_canAsk_63 : decode cX4_canAsk 63 = .ok (.iload 4, 2) := by decide +kernel
theorem dX4_canAsk_65 : decode cX4_canAsk 65 = .ok (.invokevirtual 73, 3) := by decide +kernel
theorem dX4_canAsk_68 : decode cX4_canAsk 68 = .ok (.ifCond .ne 21, 3) := by decide +kernel
theorem dX4_canAsk_71 : decode cX4_canAsk 71 = .ok (.aload_n 0, 1) := by decide +kernel
theorem dX4_canAsk_72 : decode cX4_canAsk 72 = .ok (.iload_n 1, 1) := by decide +kernel
theorem dX4_canAsk_73 : decode cX4_canAsk 73 = .ok (.bipush 6, 2) := by decide +kernel
theorem dX4_canAsk_75 : decode cX4_canAsk 75 = .ok (.iload 4, 2) := by decide +kernel
theorem dX4_canAsk_77 : decode cX4_canAsk 77 = .ok (.iadd, 1) := by decide +kernel
theorem dX4_canAsk_78 : decode cX4_canAsk 78 = .ok (.invokevirtual 40, 3) := by decide +kernel
theorem dX4_canAsk_81 : decode cX4_canAsk 81 = .ok (.iconst 1, 1) := by decide +kernel
theorem dX4_canAsk_82 : decode cX4_canAsk 82 = .ok (.if_icmp .eq 7, 3) := by decide +kernel
theorem dX4_canAsk_85 : decode cX4_canAsk 85 = .ok (.iconst 1, 1) := by decide +kernel
theorem dX4_canAsk_86 : decode cX4_canAsk 86 = .ok (.goto 4, 3) := by decide +kernel
theorem dX4_canAsk_89 : decode cX4_canAsk 89 = .ok (.iconst 0, 1) := by decide +kernel
theorem dX4_canAsk_90 : decode cX4_canAsk 90 = .ok (.istore_n 3, 1) := by decide +kernel
theorem dX4_canAsk_91 : decode cX4_canAsk 91 = .ok (.iinc 4 1, 3) := by decide +kernel
theorem dX4_canAsk_94 : decode cX4_canAsk 94 = .ok (.goto (-68), 3) := by decide +kernel
theorem dX4_canAsk_97 : decode cX4_canAsk 97 = .ok (.iload_n 3, 1) := by decide +kernel
theorem dX4_canAsk_98 : decode cX4_canAsk 98 = .ok (.ifCond .eq 37, 3) := by decide +kernel
theorem dX4_canAsk_101 : decode cX4_canAsk 101 = .ok (.aload_n 0, 1) := by decide +kernel
theorem dX4_canAsk_102 : decode cX4_canAsk 102 = .ok (.iload_n 2, 1) := by decide +kernel
theorem dX4_canAsk_103 : decode cX4_canAsk 103 = .ok (.invokevirtual 73, 3) := by decide +kernel
theorem dX4_canAsk_106 : decode cX4_canAsk 106 = .ok (.ifCond .ne 29, 3) := by decide +kernel
theorem dX4_canAsk_109 : decode cX4_canAsk 109 = .ok (.aload_n 0, 1) := by decide +kernel
theorem dX4_canAsk_110 : decode cX4_canAsk 110 = .ok (.iload_n 1, 1) := by decide +kernel
theorem dX4_canAsk_111 : decode cX4_canAsk 111 = .ok (.iload_n 2, 1) := by decide +kernel
theorem dX4_canAsk_112 : decode cX4_canAsk 112 = .ok (.invokevirtual 86, 3) := by decide +kernel
theorem dX4_canAsk_115 : decode cX4_canAsk 115 = .ok (.ifCond .eq 20, 3) := by decide +kernel
theorem dX4_canAsk_118 : decode cX4_canAsk 118 = .ok (.aload_n 0, 1) := by decide +kernel
theorem dX4_canAsk_119 : decode cX4_canAsk 119 = .ok (.iload_n 1, 1) := by decide +kernel
theorem dX4_canAsk_120 : decode cX4_canAsk 120 = .ok (.bipush 6, 2) := by decide +kernel
theorem dX4_canAsk_122 : decode cX4_canAsk 122 = .ok (.iload_n 2, 1) := by decide +kernel
theorem dX4_canAsk_123 : decode cX4_canAsk 123 = .ok (.iadd, 1) := by decide +kernel
theorem dX4_canAsk_124 : decode cX4_canAsk 124 = .ok (.invokevirtual 40, 3) := by decide +kernel
theorem dX4_canAsk_127 : decode cX4_canAsk 127 = .ok (.iconst 1, 1) := by decide +kernel
theorem dX4_canAsk_128 : decode cX4_canAsk 128 = .ok (.if_icmp .ne 7, 3) := by decide +kernel
theorem dX4_canAsk_131 : decode cX4_canAsk 131 = .ok (.iconst 1, 1) := by decide +kernel
theorem dX4_canAsk_132 : decode cX4_canAsk 132 = .ok (.goto 4, 3) := by decide +kernel
theorem dX4_canAsk_135 : decode cX4_canAsk 135 = .ok (.iconst 0, 1) := by decide +kernel
theorem dX4_canAsk_136 : decode cX4_canAsk 136 = .ok (.ireturn, 1) := by decide +kernel
theorem dX4_couldAsk_0 : decode cX4_couldAsk 0 = .ok (.aload_n 0, 1) := by decide +kernel
theorem dX4_couldAsk_1 : decode cX4_couldAsk 1 = .ok (.iload_n 1, 1) := by decide +kernel
theorem dX4_couldAsk_2 : decode cX4_couldAsk 2 = .ok (.invokevirtual 118, 3) := by decide +kernel
theorem dX4_couldAsk_5 : decode cX4_couldAsk 5 = .ok (.ifCond .ne 5, 3) := by decide +kernel
theorem dX4_couldAsk_8 : decode cX4_couldAsk 8 = .ok (.iconst (-1), 1) := by decide +kernel
theorem dX4_couldAsk_9 : decode cX4_couldAsk 9 = .ok (.ireturn, 1) := by decide +kernel
theorem dX4_couldAsk_10 : decode cX4_couldAsk 10 = .ok (.iconst 0, 1) := by decide +kernel
theorem dX4_couldAsk_11 : decode cX4_couldAsk 11 = .ok (.istore_n 2, 1) := by decide +kernel
theorem dX4_couldAsk_12 : decode cX4_couldAsk 12 = .ok (.iconst 0, 1) := by decide +kernel
theorem dX4_couldAsk_13 : decode cX4_couldAsk 13 = .ok (.istore_n 3, 1) := by decide +kernel
theorem dX4_couldAsk_14 : decode cX4_couldAsk 14 = .ok (.iload_n 3, 1) := by decide +kernel
theorem dX4_couldAsk_15 : decode cX4_couldAsk 15 = .ok (.iconst 4, 1) := by decide +kernel
theorem dX4_couldAsk_16 : decode cX4_couldAsk 16 = .ok (.if_icmp .ge 28, 3) := by decide +kernel
theorem dX4_couldAsk_19 : decode cX4_couldAsk 19 = .ok (.iload_n 2, 1) := by decide +kernel
theorem dX4_couldAsk_20 : decode cX4_couldAsk 20 = .ok (.aload_n 0, 1) := by decide +kernel
theorem dX4_couldAsk_21 : decode cX4_couldAsk 21 = .ok (.iload_n 1, 1) := by decide +kernel
theorem dX4_couldAsk_22 : decode cX4_couldAsk 22 = .ok (.iload_n 3, 1) := by decide +kernel
theorem dX4_couldAsk_23 : decode cX4_couldAsk 23 = .ok (.invokevirtual 134, 3) := by decide +kernel
theorem dX4_couldAsk_26 : decode cX4_couldAsk 26 = .ok (.ifCond .eq 9, 3) := by decide +kernel
theorem dX4_couldAsk_29 : decode cX4_couldAsk 29 = .ok (.iconst 1, 1) := by decide +kernel
theorem dX4_couldAsk_30 : decode cX4_couldAsk 30 = .ok (.iload_n 3, 1) := by decide +kernel
theorem dX4_couldAsk_31 : decode cX4_couldAsk 31 = .ok (.ishl, 1) := by decide +kernel
theorem dX4_couldAsk_32 : decode cX4_couldAsk 32 = .ok (.goto 4, 3) := by decide +kernel
theorem dX4_couldAsk_35 : decode cX4_couldAsk 35 = .ok (.iconst 0, 1) := by decide +kernel
theorem dX4_couldAsk_36 : decode cX4_couldAsk 36 = .ok (.ior, 1) := by decide +kernel
theorem dX4_couldAsk_37 : decode cX4_couldAsk 37 = .ok (.istore_n 2, 1) := by decide +kernel
theorem dX4_couldAsk_38 : decode cX4_couldAsk 38 = .ok (.iinc 3 1, 3) := by decide +kernel
theorem dX4_couldAsk_41 : decode cX4_couldAsk 41 = .ok (.goto (-27), 3) := by decide +kernel
theorem dX4_couldAsk_44 : decode cX4_couldAsk 44 = .ok (.iload_n 2, 1) := by decide +kernel
theorem dX4_couldAsk_45 : decode cX4_couldAsk 45 = .ok (.ireturn, 1) := by decide +kernel
theorem dX4_isSettled_0 : decode cX4_isSettled 0 = .ok (.aload_n 0, 1) := by decide +kernel
theorem dX4_isSettled_1 : decode cX4_isSettled 1 = .ok (.iload_n 1, 1) := by decide +kernel
theorem dX4_isSettled_2 : decode cX4_isSettled 2 = .ok (.iconst 2, 1) := by decide +kernel
theorem dX4_isSettled_3 : decode cX4_isSettled 3 = .ok (.invokevirtual 121, 3) := by decide +kernel
theorem dX4_isSettled_6 : decode cX4_isSettled 6 = .ok (.aload_n 0, 1) := by decide +kernel
theorem dX4_isSettled_7 : decode cX4_isSettled 7 = .ok (.iload_n 1, 1) := by decide +kernel
theorem dX4_isSettled_8 : decode cX4_isSettled 8 = .ok (.iconst 3, 1) := by decide +kernel
theorem dX4_isSettled_9 : decode cX4_isSettled 9 = .ok (.invokevirtual 121, 3) := by decide +kernel
theorem dX4_isSettled_12 : decode cX4_isSettled 12 = .ok (.ior, 1) := by decide +kernel
theorem dX4_isSettled_13 : decode cX4_isSettled 13 = .ok (.aload_n 0, 1) := by decide +kernel
theorem dX4_isSettled_14 : decode cX4_isSettled 14 = .ok (.iload_n 1, 1) := by decide +kernel
theorem dX4_isSettled_15 : decode cX4_isSettled 15 = .ok (.iconst 0, 1) := by decide +kernel
theorem dX4_isSettled_16 : decode cX4_isSettled 16 = .ok (.invokevirtual 40, 3) := by decide +kernel
theorem dX4_isSettled_19 : decode cX4_isSettled 19 = .ok (.if_icmp .ne 7, 3) := by decide +kernel
theorem dX4_isSettled_22 : decode cX4_isSettled 22 = .ok (.iconst 1, 1) := by decide +kernel
theorem dX4_isSettled_23 : decode cX4_isSettled 23 = .ok (.goto 4, 3) := by decide +kernel
theorem dX4_isSettled_26 : decode cX4_isSettled 26 = .ok (.iconst 0, 1) := by decide +kernel
theorem dX4_isSettled_27 : decode cX4_isSettled 27 = .ok (.ireturn, 1) := by decide +kernel
theorem dX4_goRound_0 : decode cX4_goRound 0 = .ok (.aload_n 0, 1) := by decide +kernel
theorem dX4_goRound_1 : decode cX4_goRound 1 = .ok (.getfield 7, 3) := by decide +kernel
theorem dX4_goRound_4 : decode cX4_goRound 4 = .ok (.bipush 6, 2) := by decide +kernel
theorem dX4_goRound_6 : decode cX4_goRound 6 = .ok (.iaload, 1) := by decide +kernel
theorem dX4_goRound_7 : decode cX4_goRound 7 = .ok (.istore_n 1, 1) := by decide +kernel
theorem dX4_goRound_8 : decode cX4_goRound 8 = .ok (.iconst 0, 1) := by decide +kernel
theorem dX4_goRound_9 : decode cX4_goRound 9 = .ok (.istore_n 2, 1) := by decide +kernel
theorem dX4_goRound_10 : decode cX4_goRound 10 = .ok (.iload_n 2, 1) := by decide +kernel
theorem dX4_goRound_11 : decode cX4_goRound 11 = .ok (.iload_n 1, 1) := by decide +kernel
theorem dX4_goRound_12 : decode cX4_goRound 12 = .ok (.if_icmp .ge 14, 3) := by decide +kernel
theorem dX4_goRound_15 : decode cX4_goRound 15 = .ok (.aload_n 0, 1) := by decide +kernel
theorem dX4_goRound_16 : decode cX4_goRound 16 = .ok (.iconst 0, 1) := by decide +kernel
theorem dX4_goRound_17 : decode cX4_goRound 17 = .ok (.invokevirtual 105, 3) := by decide +kernel
theorem dX4_goRound_20 : decode cX4_goRound 20 = .ok (.iinc 2 1, 3) := by decide +kernel
theorem dX4_goRound_23 : decode cX4_goRound 23 = .ok (.goto (-13), 3) := by decide +kernel
theorem dX4_goRound_26 : decode cX4_goRound 26 = .ok (.aload_n 0, 1) := by decide +kernel
theorem dX4_goRound_27 : decode cX4_goRound 27 = .ok (.invokevirtual 115, 3) := by decide +kernel
theorem dX4_goRound_30 : decode cX4_goRound 30 = .ok (.return_, 1) := by decide +kernel
theorem dX4_roundsTo_0 : decode cX4_roundsTo 0 = .ok (.iconst 0, 1) := by decide +kernel
theorem dX4_roundsTo_1 : decode cX4_roundsTo 1 = .ok (.istore_n 2, 1) := by decide +kernel
theorem dX4_roundsTo_2 : decode cX4_roundsTo 2 = .ok (.iload_n 2, 1) := by decide +kernel
theorem dX4_roundsTo_3 : decode cX4_roundsTo 3 = .ok (.sipush 201, 3) := by decide +kernel
theorem dX4_roundsTo_6 : decode cX4_roundsTo 6 = .ok (.if_icmp .ge 21, 3) := by decide +kernel
theorem dX4_roundsTo_9 : decode cX4_roundsTo 9 = .ok (.aload_n 0, 1) := by decide +kernel
theorem dX4_roundsTo_10 : decode cX4_roundsTo 10 = .ok (.iload_n 1, 1) := by decide +kernel
theorem dX4_roundsTo_11 : decode cX4_roundsTo 11 = .ok (.invokevirtual 137, 3) := by decide +kernel
theorem dX4_roundsTo_14 : decode cX4_roundsTo 14 = .ok (.ifCond .ne 13, 3) := by decide +kernel
theorem dX4_roundsTo_17 : decode cX4_roundsTo 17 = .ok (.aload_n 0, 1) := by decide +kernel
theorem dX4_roundsTo_18 : decode cX4_roundsTo 18 = .ok (.invokevirtual 140, 3) := by decide +kernel
theorem dX4_roundsTo_21 : decode cX4_roundsTo 21 = .ok (.iinc 2 1, 3) := by decide +kernel
theorem dX4_roundsTo_24 : decode cX4_roundsTo 24 = .ok (.goto (-22), 3) := by decide +kernel
theorem dX4_roundsTo_27 : decode cX4_roundsTo 27 = .ok (.iload_n 2, 1) := by decide +kernel
theorem dX4_roundsTo_28 : decode cX4_roundsTo 28 = .ok (.ireturn, 1) := by decide +kernel
theorem dX4_settledIn_0 : decode cX4_settledIn 0 = .ok (.aload_n 0, 1) := by decide +kernel
theorem dX4_settledIn_1 : decode cX4_settledIn 1 = .ok (.iload_n 1, 1) := by decide +kernel
theorem dX4_settledIn_2 : decode cX4_settledIn 2 = .ok (.invokevirtual 118, 3) := by decide +kernel
theorem dX4_settledIn_5 : decode cX4_settledIn 5 = .ok (.ifCond .ne 5, 3) := by decide +kernel
theorem dX4_settledIn_8 : decode cX4_settledIn 8 = .ok (.iconst (-1), 1) := by decide +kernel
theorem dX4_settledIn_9 : decode cX4_settledIn 9 = .ok (.ireturn, 1) := by decide +kernel
theorem dX4_settledIn_10 : decode cX4_settledIn 10 = .ok (.aload_n 0, 1) := by decide +kernel
theorem dX4_settledIn_11 : decode cX4_settledIn 11 = .ok (.invokevirtual 143, 3) := by decide +kernel
theorem dX4_settledIn_14 : decode cX4_settledIn 14 = .ok (.aload_n 0, 1) := by decide +kernel
theorem dX4_settledIn_15 : decode cX4_settledIn 15 = .ok (.iload_n 1, 1) := by decide +kernel
theorem dX4_settledIn_16 : decode cX4_settledIn 16 = .ok (.invokevirtual 146, 3) := by decide +kernel
theorem dX4_settledIn_19 : decode cX4_settledIn 19 = .ok (.istore_n 2, 1) := by decide +kernel
theorem dX4_settledIn_20 : decode cX4_settledIn 20 = .ok (.aload_n 0, 1) := by decide +kernel
theorem dX4_settledIn_21 : decode cX4_settledIn 21 = .ok (.invokevirtual 149, 3) := by decide +kernel
theorem dX4_settledIn_24 : decode cX4_settledIn 24 = .ok (.iload_n 2, 1) := by decide +kernel
theorem dX4_settledIn_25 : decode cX4_settledIn 25 = .ok (.sipush 200, 3) := by decide +kernel
theorem dX4_settledIn_28 : decode cX4_settledIn 28 = .ok (.if_icmp .le 8, 3) := by decide +kernel
theorem dX4_settledIn_31 : decode cX4_settledIn 31 = .ok (.bipush (-6), 2) := by decide +kernel
theorem dX4_settledIn_33 : decode cX4_settledIn 33 = .ok (.goto 4, 3) := by decide +kernel
theorem dX4_settledIn_36 : decode cX4_settledIn 36 = .ok (.iload_n 2, 1) := by decide +kernel
theorem dX4_settledIn_37 : decode cX4_settledIn 37 = .ok (.ireturn, 1) := by decide +kernel
theorem dX4_underwayIn_0 : decode cX4_underwayIn 0 = .ok (.iload_n 1, 1) := by decide +kernel
theorem dX4_underwayIn_1 : decode cX4_underwayIn 1 = .ok (.iconst 1, 1) := by decide +kernel
theorem dX4_underwayIn_2 : decode cX4_underwayIn 2 = .ok (.bipush 50, 2) := by decide +kernel
theorem dX4_underwayIn_4 : decode cX4_underwayIn 4 = .ok (.invokestatic 95, 3) := by decide +kernel
theorem dX4_underwayIn_7 : decode cX4_underwayIn 7 = .ok (.ifCond .ne 6, 3) := by decide +kernel
theorem dX4_underwayIn_10 : decode cX4_underwayIn 10 = .ok (.bipush (-2), 2) := by decide +kernel
theorem dX4_underwayIn_12 : decode cX4_underwayIn 12 = .ok (.ireturn, 1) := by decide +kernel
theorem dX4_underwayIn_13 : decode cX4_underwayIn 13 = .ok (.aload_n 0, 1) := by decide +kernel
theorem dX4_underwayIn_14 : decode cX4_underwayIn 14 = .ok (.invokevirtual 143, 3) := by decide +kernel
theorem dX4_underwayIn_17 : decode cX4_underwayIn 17 = .ok (.iconst 0, 1) := by decide +kernel
theorem dX4_underwayIn_18 : decode cX4_underwayIn 18 = .ok (.istore_n 2, 1) := by decide +kernel
theorem dX4_underwayIn_19 : decode cX4_underwayIn 19 = .ok (.iload_n 2, 1) := by decide +kernel
theorem dX4_underwayIn_20 : decode cX4_underwayIn 20 = .ok (.iload_n 1, 1) := by decide +kernel
theorem dX4_underwayIn_21 : decode cX4_underwayIn 21 = .ok (.if_icmp .ge 13, 3) := by decide +kernel
theorem dX4_underwayIn_24 : decode cX4_underwayIn 24 = .ok (.aload_n 0, 1) := by decide +kernel
theorem dX4_underwayIn_25 : decode cX4_underwayIn 25 = .ok (.invokevirtual 140, 3) := by decide +kernel
theorem dX4_underwayIn_28 : decode cX4_underwayIn 28 = .ok (.iinc 2 1, 3) := by decide +kernel
theorem dX4_underwayIn_31 : decode cX4_underwayIn 31 = .ok (.goto (-12), 3) := by decide +kernel
theorem dX4_underwayIn_34 : decode cX4_underwayIn 34 = .ok (.aload_n 0, 1) := by decide +kernel
theorem dX4_underwayIn_35 : decode cX4_underwayIn 35 = .ok (.getfield 7, 3) := by decide +kernel
theorem dX4_underwayIn_38 : decode cX4_underwayIn 38 = .ok (.bipush 6, 2) := by decide +kernel
theorem dX4_underwayIn_40 : decode cX4_underwayIn 40 = .ok (.iaload, 1) := by decide +kernel
theorem dX4_underwayIn_41 : decode cX4_underwayIn 41 = .ok (.istore_n 2, 1) := by decide +kernel
theorem dX4_underwayIn_42 : decode cX4_underwayIn 42 = .ok (.aload_n 0, 1) := by decide +kernel
theorem dX4_underwayIn_43 : decode cX4_underwayIn 43 = .ok (.invokevirtual 149, 3) := by decide +kernel
theorem dX4_underwayIn_46 : decode cX4_underwayIn 46 = .ok (.iload_n 2, 1) := by decide +kernel
theorem dX4_underwayIn_47 : decode cX4_underwayIn 47 = .ok (.ireturn, 1) := by decide +kernel
theorem dX4_worstLoss_0 : decode cX4_worstLoss 0 = .ok (.aload_n 0, 1) := by decide +kernel
theorem dX4_worstLoss_1 : decode cX4_worstLoss 1 = .ok (.iload_n 1, 1) := by decide +kernel
theorem dX4_worstLoss_2 : decode cX4_worstLoss 2 = .ok (.invokevirtual 118, 3) := by decide +kernel
theorem dX4_worstLoss_5 : decode cX4_worstLoss 5 = .ok (.ifCond .ne 5, 3) := by decide +kernel
theorem dX4_worstLoss_8 : decode cX4_worstLoss 8 = .ok (.iconst (-1), 1) := by decide +kernel
theorem dX4_worstLoss_9 : decode cX4_worstLoss 9 = .ok (.ireturn, 1) := by decide +kernel
theorem dX4_worstLoss_10 : decode cX4_worstLoss 10 = .ok (.iload_n 2, 1) := by decide +kernel
theorem dX4_worstLoss_11 : decode cX4_worstLoss 11 = .ok (.iconst 0, 1) := by decide +kernel
theorem dX4_worstLoss_12 : decode cX4_worstLoss 12 = .ok (.iconst 1, 1) := by decide +kernel
theorem dX4_worstLoss_13 : decode cX4_worstLoss 13 = .ok (.invokestatic 95, 3) := by decide +kernel
theorem dX4_worstLoss_16 : decode cX4_worstLoss 16 = .ok (.ifCond .ne 6, 3) := by decide +kernel
theorem dX4_worstLoss_19 : decode cX4_worstLoss 19 = .ok (.bipush (-2), 2) := by decide +kernel
theorem dX4_worstLoss_21 : decode cX4_worstLoss 21 = .ok (.ireturn, 1) := by decide +kernel
theorem dX4_worstLoss_22 : decode cX4_worstLoss 22 = .ok (.bipush (-6), 2) := by decide +kernel
theorem dX4_worstLoss_24 : decode cX4_worstLoss 24 = .ok (.istore_n 3, 1) := by decide +kernel
theorem dX4_worstLoss_25 : decode cX4_worstLoss 25 = .ok (.iconst 0, 1) := by decide +kernel
theorem dX4_worstLoss_26 : decode cX4_worstLoss 26 = .ok (.istore 4, 2) := by decide +kernel
theorem dX4_worstLoss_28 : decode cX4_worstLoss 28 = .ok (.aload_n 0, 1) := by decide +kernel
theorem dX4_worstLoss_29 : decode cX4_worstLoss 29 = .ok (.invokevirtual 143, 3) := by decide +kernel
theorem dX4_worstLoss_32 : decode cX4_worstLoss 32 = .ok (.aload_n 0, 1) := by decide +kernel
theorem dX4_worstLoss_33 : decode cX4_worstLoss 33 = .ok (.getfield 7, 3) := by decide +kernel
theorem dX4_worstLoss_36 : decode cX4_worstLoss 36 = .ok (.bipush 6, 2) := by decide +kernel
theorem dX4_worstLoss_38 : decode cX4_worstLoss 38 = .ok (.iaload, 1) := by decide +kernel
theorem dX4_worstLoss_39 : decode cX4_worstLoss 39 = .ok (.istore 5, 2) := by decide +kernel
theorem dX4_worstLoss_41 : decode cX4_worstLoss 41 = .ok (.iconst 0, 1) := by decide +kernel
theorem dX4_worstLoss_42 : decode cX4_worstLoss 42 = .ok (.istore 6, 2) := by decide +kernel
theorem dX4_worstLoss_44 : decode cX4_worstLoss 44 = .ok (.iload 6, 2) := by decide +kernel
theorem dX4_worstLoss_46 : decode cX4_worstLoss 46 = .ok (.iload 5, 2) := by decide +kernel
theorem dX4_worstLoss_48 : decode cX4_worstLoss 48 = .ok (.if_icmp .ge 44, 3) := by decide +kernel
theorem dX4_worstLoss_51 : decode cX4_worstLoss 51 = .ok (.aload_n 0, 1) := by decide +kernel
theorem dX4_worstLoss_52 : decode cX4_worstLoss 52 = .ok (.iload 6, 2) := by decide +kernel
theorem dX4_worstLoss_54 : decode cX4_worstLoss 54 = .ok (.invokevirtual 108, 3) := by decide +kernel
theorem dX4_worstLoss_57 : decode cX4_worstLoss 57 = .ok (.aload_n 0, 1) := by decide +kernel
theorem dX4_worstLoss_58 : decode cX4_worstLoss 58 = .ok (.iload_n 1, 1) := by decide +kernel
theorem dX4_worstLoss_59 : decode cX4_worstLoss 59 = .ok (.invokevirtual 146, 3) := by decide +kernel
theorem dX4_worstLoss_62 : decode cX4_worstLoss 62 = .ok (.istore 7, 2) := by decide +kernel
theorem dX4_worstLoss_64 : decode cX4_worstLoss 64 = .ok (.aload_n 0, 1) := by decide +kernel
theorem dX4_worstLoss_65 : decode cX4_worstLoss 65 = .ok (.invokevirtual 149, 3) := by decide +kernel
theorem dX4_worstLoss_68 : decode cX4_worstLoss 68 = .ok (.iload_n 3, 1) := by decide +kernel
theorem dX4_worstLoss_69 : decode cX4_worstLoss 69 = .ok (.ifCond .lt 10, 3) := by decide +kernel
theorem dX4_worstLoss_72 : decode cX4_worstLoss 72 = .ok (.iload 7, 2) := by decide +kernel
theorem dX4_worstLoss_74 : decode cX4_worstLoss 74 = .ok (.iload 4, 2) := by decide +kernel
theorem dX4_worstLoss_76 : decode cX4_worstLoss 76 = .ok (.if_icmp .le 10, 3) := by decide +kernel
theorem dX4_worstLoss_79 : decode cX4_worstLoss 79 = .ok (.iload 6, 2) := by decide +kernel
theorem dX4_worstLoss_81 : decode cX4_worstLoss 81 = .ok (.istore_n 3, 1) := by decide +kernel
theorem dX4_worstLoss_82 : decode cX4_worstLoss 82 = .ok (.iload 7, 2) := by decide +kernel
theorem dX4_worstLoss_84 : decode cX4_worstLoss 84 = .ok (.istore 4, 2) := by decide +kernel
theorem dX4_worstLoss_86 : decode cX4_worstLoss 86 = .ok (.iinc 6 1, 3) := by decide +kernel
theorem dX4_worstLoss_89 : decode cX4_worstLoss 89 = .ok (.goto (-45), 3) := by decide +kernel
theorem dX4_worstLoss_92 : decode cX4_worstLoss 92 = .ok (.iload_n 3, 1) := by decide +kernel
theorem dX4_worstLoss_93 : decode cX4_worstLoss 93 = .ok (.ifCond .lt 7, 3) := by decide +kernel
theorem dX4_worstLoss_96 : decode cX4_worstLoss 96 = .ok (.iload_n 2, 1) := by decide +kernel
theorem dX4_worstLoss_97 : decode cX4_worstLoss 97 = .ok (.ifCond .ne 7, 3) := by decide +kernel
theorem dX4_worstLoss_100 : decode cX4_worstLoss 100 = .ok (.iload_n 3, 1) := by decide +kernel
theorem dX4_worstLoss_101 : decode cX4_worstLoss 101 = .ok (.goto 5, 3) := by decide +kernel
theorem dX4_worstLoss_104 : decode cX4_worstLoss 104 = .ok (.iload 4, 2) := by decide +kernel
theorem dX4_worstLoss_106 : decode cX4_worstLoss 106 = .ok (.ireturn, 1) := by decide +kernel
theorem dX4_sign_0 : decode cX4_sign 0 = .ok (.aload_n 0, 1) := by decide +kernel
theorem dX4_sign_1 : decode cX4_sign 1 = .ok (.getfield 152, 3) := by decide +kernel
theorem dX4_sign_4 : decode cX4_sign 4 = .ok (.aload_n 0, 1) := by decide +kernel
theorem dX4_sign_5 : decode cX4_sign 5 = .ok (.getfield 131, 3) := by decide +kernel
theorem dX4_sign_8 : decode cX4_sign 8 = .ok (.if_icmp .ge 15, 3) := by decide +kernel
theorem dX4_sign_11 : decode cX4_sign 11 = .ok (.aload_n 0, 1) := by decide +kernel
theorem dX4_sign_12 : decode cX4_sign 12 = .ok (.getfield 26, 3) := by decide +kernel
theorem dX4_sign_15 : decode cX4_sign 15 = .ok (.aload_n 0, 1) := by decide +kernel
theorem dX4_sign_16 : decode cX4_sign 16 = .ok (.getfield 152, 3) := by decide +kernel
theorem dX4_sign_19 : decode cX4_sign 19 = .ok (.iaload, 1) := by decide +kernel
theorem dX4_sign_20 : decode cX4_sign 20 = .ok (.goto 4, 3) := by decide +kernel
theorem dX4_sign_23 : decode cX4_sign 23 = .ok (.iconst 0, 1) := by decide +kernel
theorem dX4_sign_24 : decode cX4_sign 24 = .ok (.ireturn, 1) := by decide +kernel
theorem dX4_one_0 : decode cX4_one 0 = .ok (.aload_n 0, 1) := by decide +kernel
theorem dX4_one_1 : decode cX4_one 1 = .ok (.invokevirtual 155, 3) := by decide +kernel
theorem dX4_one_4 : decode cX4_one 4 = .ok (.bipush 48, 2) := by decide +kernel
theorem dX4_one_6 : decode cX4_one 6 = .ok (.isub, 1) := by decide +kernel
theorem dX4_one_7 : decode cX4_one 7 = .ok (.istore_n 3, 1) := by decide +kernel
theorem dX4_one_8 : decode cX4_one 8 = .ok (.aload_n 0, 1) := by decide +kernel
theorem dX4_one_9 : decode cX4_one 9 = .ok (.aload_n 0, 1) := by decide +kernel
theorem dX4_one_10 : decode cX4_one 10 = .ok (.getfield 158, 3) := by decide +kernel
theorem dX4_one_13 : decode cX4_one 13 = .ok (.ifCond .ne 12, 3) := by decide +kernel
theorem dX4_one_16 : decode cX4_one 16 = .ok (.iload_n 3, 1) := by decide +kernel
theorem dX4_one_17 : decode cX4_one 17 = .ok (.iload_n 1, 1) := by decide +kernel
theorem dX4_one_18 : decode cX4_one 18 = .ok (.iload_n 2, 1) := by decide +kernel
theorem dX4_one_19 : decode cX4_one 19 = .ok (.invokestatic 95, 3) := by decide +kernel
theorem dX4_one_22 : decode cX4_one 22 = .ok (.ifCond .ne 7, 3) := by decide +kernel
theorem dX4_one_25 : decode cX4_one 25 = .ok (.iconst 1, 1) := by decide +kernel
theorem dX4_one_26 : decode cX4_one 26 = .ok (.goto 4, 3) := by decide +kernel
theorem dX4_one_29 : decode cX4_one 29 = .ok (.iconst 0, 1) := by decide +kernel
theorem dX4_one_30 : decode cX4_one 30 = .ok (.putfield 158, 3) := by decide +kernel
theorem dX4_one_33 : decode cX4_one 33 = .ok (.aload_n 0, 1) := by decide +kernel
theorem dX4_one_34 : decode cX4_one 34 = .ok (.dup, 1) := by decide +kernel
theorem dX4_one_35 : decode cX4_one 35 = .ok (.getfield 152, 3) := by decide +kernel
theorem dX4_one_38 : decode cX4_one 38 = .ok (.aload_n 0, 1) := by decide +kernel
theorem dX4_one_39 : decode cX4_one 39 = .ok (.getfield 158, 3) := by decide +kernel
theorem dX4_one_42 : decode cX4_one 42 = .ok (.ifCond .eq 7, 3) := by decide +kernel
theorem dX4_one_45 : decode cX4_one 45 = .ok (.iconst 0, 1) := by decide +kernel
theorem dX4_one_46 : decode cX4_one 46 = .ok (.goto 4, 3) := by decide +kernel
theorem dX4_one_49 : decode cX4_one 49 = .ok (.iconst 1, 1) := by decide +kernel
theorem dX4_one_50 : decode cX4_one 50 = .ok (.iadd, 1) := by decide +kernel
theorem dX4_one_51 : decode cX4_one 51 = .ok (.putfield 152, 3) := by decide +kernel
theorem dX4_one_54 : decode cX4_one 54 = .ok (.iload_n 3, 1) := by decide +kernel
theorem dX4_one_55 : decode cX4_one 55 = .ok (.ireturn, 1) := by decide +kernel
theorem dX4_number_0 : decode cX4_number 0 = .ok (.aload_n 0, 1) := by decide +kernel
theorem dX4_number_1 : decode cX4_number 1 = .ok (.iconst 0, 1) := by decide +kernel
theorem dX4_number_2 : decode cX4_number 2 = .ok (.bipush 9, 2) := by decide +kernel
theorem dX4_number_4 : decode cX4_number 4 = .ok (.invokevirtual 161, 3) := by decide +kernel
theorem dX4_number_7 : decode cX4_number 7 = .ok (.istore_n 1, 1) := by decide +kernel
theorem dX4_number_8 : decode cX4_number 8 = .ok (.aload_n 0, 1) := by decide +kernel
theorem dX4_number_9 : decode cX4_number 9 = .ok (.getfield 158, 3) := by decide +kernel
theorem dX4_number_12 : decode cX4_number 12 = .ok (.ifCond .ne 64, 3) := by decide +kernel
theorem dX4_number_15 : decode cX4_number 15 = .ok (.iload_n 1, 1) := by decide +kernel
theorem dX4_number_16 : decode cX4_number 16 = .ok (.ifCond .le 60, 3) := by decide +kernel
theorem dX4_number_19 : decode cX4_number 19 = .ok (.aload_n 0, 1) := by decide +kernel
theorem dX4_number_20 : decode cX4_number 20 = .ok (.invokevirtual 155, 3) := by decide +kernel
theorem dX4_number_23 : decode cX4_number 23 = .ok (.bipush 48, 2) := by decide +kernel
theorem dX4_number_25 : decode cX4_number 25 = .ok (.bipush 57, 2) := by decide +kernel
theorem dX4_number_27 : decode cX4_number 27 = .ok (.invokestatic 95, 3) := by decide +kernel
theorem dX4_number_30 : decode cX4_number 30 = .ok (.ifCond .eq 46, 3) := by decide +kernel
theorem dX4_number_33 : decode cX4_number 33 = .ok (.bipush 10, 2) := by decide +kernel
theorem dX4_number_35 : decode cX4_number 35 = .ok (.iload_n 1, 1) := by decide +kernel
theorem dX4_number_36 : decode cX4_number 36 = .ok (.imul, 1) := by decide +kernel
theorem dX4_number_37 : decode cX4_number 37 = .ok (.aload_n 0, 1) := by decide +kernel
theorem dX4_number_38 : decode cX4_number 38 = .ok (.invokevirtual 155, 3) := by decide +kernel
theorem dX4_number_41 : decode cX4_number 41 = .ok (.iadd, 1) := by decide +kernel
theorem dX4_number_42 : decode cX4_number 42 = .ok (.bipush 48, 2) := by decide +kernel
theorem dX4_number_44 : decode cX4_number 44 = .ok (.isub, 1) := by decide +kernel
theorem dX4_number_45 : decode cX4_number 45 = .ok (.bipush 99, 2) := by decide +kernel
theorem dX4_number_47 : decode cX4_number 47 = .ok (.if_icmp .gt 29, 3) := by decide +kernel
theorem dX4_number_50 : decode cX4_number 50 = .ok (.bipush 10, 2) := by decide +kernel
theorem dX4_number_52 : decode cX4_number 52 = .ok (.iload_n 1, 1) := by decide +kernel
theorem dX4_number_53 : decode cX4_number 53 = .ok (.imul, 1) := by decide +kernel
theorem dX4_number_54 : decode cX4_number 54 = .ok (.aload_n 0, 1) := by decide +kernel
theorem dX4_number_55 : decode cX4_number 55 = .ok (.invokevirtual 155, 3) := by decide +kernel
theorem dX4_number_58 : decode cX4_number 58 = .ok (.iadd, 1) := by decide +kernel
theorem dX4_number_59 : decode cX4_number 59 = .ok (.bipush 48, 2) := by decide +kernel
theorem dX4_number_61 : decode cX4_number 61 = .ok (.isub, 1) := by decide +kernel
theorem dX4_number_62 : decode cX4_number 62 = .ok (.istore_n 1, 1) := by decide +kernel
theorem dX4_number_63 : decode cX4_number 63 = .ok (.aload_n 0, 1) := by decide +kernel
theorem dX4_number_64 : decode cX4_number 64 = .ok (.dup, 1) := by decide +kernel
theorem dX4_number_65 : decode cX4_number 65 = .ok (.getfield 152, 3) := by decide +kernel
theorem dX4_number_68 : decode cX4_number 68 = .ok (.iconst 1, 1) := by decide +kernel
theorem dX4_number_69 : decode cX4_number 69 = .ok (.iadd, 1) := by decide +kernel
theorem dX4_number_70 : decode cX4_number 70 = .ok (.putfield 152, 3) := by decide +kernel
theorem dX4_number_73 : decode cX4_number 73 = .ok (.goto (-65), 3) := by decide +kernel
theorem dX4_number_76 : decode cX4_number 76 = .ok (.iload_n 1, 1) := by decide +kernel
theorem dX4_number_77 : decode cX4_number 77 = .ok (.ireturn, 1) := by decide +kernel
theorem dX4_clerks_0 : decode cX4_clerks 0 = .ok (.aload_n 0, 1) := by decide +kernel
theorem dX4_clerks_1 : decode cX4_clerks 1 = .ok (.iconst 0, 1) := by decide +kernel
theorem dX4_clerks_2 : decode cX4_clerks 2 = .ok (.iconst 3, 1) := by decide +kernel
theorem dX4_clerks_3 : decode cX4_clerks 3 = .ok (.invokevirtual 161, 3) := by decide +kernel
theorem dX4_clerks_6 : decode cX4_clerks 6 = .ok (.istore_n 1, 1) := by decide +kernel
theorem dX4_clerks_7 : decode cX4_clerks 7 = .ok (.aload_n 0, 1) := by decide +kernel
theorem dX4_clerks_8 : decode cX4_clerks 8 = .ok (.getfield 158, 3) := by decide +kernel
theorem dX4_clerks_11 : decode cX4_clerks 11 = .ok (.ifCond .eq 7, 3) := by decide +kernel
theorem dX4_clerks_14 : decode cX4_clerks 14 = .ok (.iconst 0, 1) := by decide +kernel
theorem dX4_clerks_15 : decode cX4_clerks 15 = .ok (.goto 6, 3) := by decide +kernel
theorem dX4_clerks_18 : decode cX4_clerks 18 = .ok (.iconst 1, 1) := by decide +kernel
theorem dX4_clerks_19 : decode cX4_clerks 19 = .ok (.iload_n 1, 1) := by decide +kernel
theorem dX4_clerks_20 : decode cX4_clerks 20 = .ok (.ishl, 1) := by decide +kernel
theorem dX4_clerks_21 : decode cX4_clerks 21 = .ok (.istore_n 2, 1) := by decide +kernel
theorem dX4_clerks_22 : decode cX4_clerks 22 = .ok (.aload_n 0, 1) := by decide +kernel
theorem dX4_clerks_23 : decode cX4_clerks 23 = .ok (.getfield 158, 3) := by decide +kernel
theorem dX4_clerks_26 : decode cX4_clerks 26 = .ok (.ifCond .ne 47, 3) := by decide +kernel
theorem dX4_clerks_29 : decode cX4_clerks 29 = .ok (.aload_n 0, 1) := by decide +kernel
theorem dX4_clerks_30 : decode cX4_clerks 30 = .ok (.invokevirtual 155, 3) := by decide +kernel
theorem dX4_clerks_33 : decode cX4_clerks 33 = .ok (.bipush 48, 2) := by decide +kernel
theorem dX4_clerks_35 : decode cX4_clerks 35 = .ok (.isub, 1) := by decide +kernel
theorem dX4_clerks_36 : decode cX4_clerks 36 = .ok (.iload_n 1, 1) := by decide +kernel
theorem dX4_clerks_37 : decode cX4_clerks 37 = .ok (.iconst 1, 1) := by decide +kernel
theorem dX4_clerks_38 : decode cX4_clerks 38 = .ok (.iadd, 1) := by decide +kernel
theorem dX4_clerks_39 : decode cX4_clerks 39 = .ok (.iconst 3, 1) := by decide +kernel
theorem dX4_clerks_40 : decode cX4_clerks 40 = .ok (.invokestatic 95, 3) := by decide +kernel
theorem dX4_clerks_43 : decode cX4_clerks 43 = .ok (.ifCond .eq 30, 3) := by decide +kernel
theorem dX4_clerks_46 : decode cX4_clerks 46 = .ok (.aload_n 0, 1) := by decide +kernel
theorem dX4_clerks_47 : decode cX4_clerks 47 = .ok (.invokevirtual 155, 3) := by decide +kernel
theorem dX4_clerks_50 : decode cX4_clerks 50 = .ok (.bipush 48, 2) := by decide +kernel
theorem dX4_clerks_52 : decode cX4_clerks 52 = .ok (.isub, 1) := by decide +kernel
theorem dX4_clerks_53 : decode cX4_clerks 53 = .ok (.istore_n 1, 1) := by decide +kernel
theorem dX4_clerks_54 : decode cX4_clerks 54 = .ok (.iload_n 2, 1) := by decide +kernel
theorem dX4_clerks_55 : decode cX4_clerks 55 = .ok (.iconst 1, 1) := by decide +kernel
theorem dX4_clerks_56 : decode cX4_clerks 56 = .ok (.iload_n 1, 1) := by decide +kernel
theorem dX4_clerks_57 : decode cX4_clerks 57 = .ok (.ishl, 1) := by decide +kernel
theorem dX4_clerks_58 : decode cX4_clerks 58 = .ok (.ior, 1) := by decide +kernel
theorem dX4_clerks_59 : decode cX4_clerks 59 = .ok (.istore_n 2, 1) := by decide +kernel
theorem dX4_clerks_60 : decode cX4_clerks 60 = .ok (.aload_n 0, 1) := by decide +kernel
theorem dX4_clerks_61 : decode cX4_clerks 61 = .ok (.dup, 1) := by decide +kernel
theorem dX4_clerks_62 : decode cX4_clerks 62 = .ok (.getfield 152, 3) := by decide +kernel
theorem dX4_clerks_65 : decode cX4_clerks 65 = .ok (.iconst 1, 1) := by decide +kernel
theorem dX4_clerks_66 : decode cX4_clerks 66 = .ok (.iadd, 1) := by decide +kernel
theorem dX4_clerks_67 : decode cX4_clerks 67 = .ok (.putfield 152, 3) := by decide +kernel
theorem dX4_clerks_70 : decode cX4_clerks 70 = .ok (.goto (-48), 3) := by decide +kernel
theorem dX4_clerks_73 : decode cX4_clerks 73 = .ok (.iload_n 2, 1) := by decide +kernel
theorem dX4_clerks_74 : decode cX4_clerks 74 = .ok (.ireturn, 1) := by decide +kernel
theorem dX4_plus_0 : decode cX4_plus 0 = .ok (.aload_n 0, 1) := by decide +kernel
theorem dX4_plus_1 : decode cX4_plus 1 = .ok (.invokevirtual 155, 3) := by decide +kernel
theorem dX4_plus_4 : decode cX4_plus 4 = .ok (.istore_n 1, 1) := by decide +kernel
theorem dX4_plus_5 : decode cX4_plus 5 = .ok (.aload_n 0, 1) := by decide +kernel
theorem dX4_plus_6 : decode cX4_plus 6 = .ok (.aload_n 0, 1) := by decide +kernel
theorem dX4_plus_7 : decode cX4_plus 7 = .ok (.getfield 158, 3) := by decide +kernel
theorem dX4_plus_10 : decode cX4_plus 10 = .ok (.ifCond .ne 15, 3) := by decide +kernel
theorem dX4_plus_13 : decode cX4_plus 13 = .ok (.iload_n 1, 1) := by decide +kernel
theorem dX4_plus_14 : decode cX4_plus 14 = .ok (.bipush 43, 2) := by decide +kernel
theorem dX4_plus_16 : decode cX4_plus 16 = .ok (.if_icmp .eq 13, 3) := by decide +kernel
theorem dX4_plus_19 : decode cX4_plus 19 = .ok (.iload_n 1, 1) := by decide +kernel
theorem dX4_plus_20 : decode cX4_plus 20 = .ok (.bipush 45, 2) := by decide +kernel
theorem dX4_plus_22 : decode cX4_plus 22 = .ok (.if_icmp .eq 7, 3) := by decide +kernel
theorem dX4_plus_25 : decode cX4_plus 25 = .ok (.iconst 1, 1) := by decide +kernel
theorem dX4_plus_26 : decode cX4_plus 26 = .ok (.goto 4, 3) := by decide +kernel
theorem dX4_plus_29 : decode cX4_plus 29 = .ok (.iconst 0, 1) := by decide +kernel
theorem dX4_plus_30 : decode cX4_plus 30 = .ok (.putfield 158, 3) := by decide +kernel
theorem dX4_plus_33 : decode cX4_plus 33 = .ok (.aload_n 0, 1) := by decide +kernel
theorem dX4_plus_34 : decode cX4_plus 34 = .ok (.dup, 1) := by decide +kernel
theorem dX4_plus_35 : decode cX4_plus 35 = .ok (.getfield 152, 3) := by decide +kernel
theorem dX4_plus_38 : decode cX4_plus 38 = .ok (.aload_n 0, 1) := by decide +kernel
theorem dX4_plus_39 : decode cX4_plus 39 = .ok (.getfield 158, 3) := by decide +kernel
theorem dX4_plus_42 : decode cX4_plus 42 = .ok (.ifCond .eq 7, 3) := by decide +kernel
theorem dX4_plus_45 : decode cX4_plus 45 = .ok (.iconst 0, 1) := by decide +kernel
theorem dX4_plus_46 : decode cX4_plus 46 = .ok (.goto 4, 3) := by decide +kernel
theorem dX4_plus_49 : decode cX4_plus 49 = .ok (.iconst 1, 1) := by decide +kernel
theorem dX4_plus_50 : decode cX4_plus 50 = .ok (.iadd, 1) := by decide +kernel
theorem dX4_plus_51 : decode cX4_plus 51 = .ok (.putfield 152, 3) := by decide +kernel
theorem dX4_plus_54 : decode cX4_plus 54 = .ok (.iload_n 1, 1) := by decide +kernel
theorem dX4_plus_55 : decode cX4_plus 55 = .ok (.bipush 43, 2) := by decide +kernel
theorem dX4_plus_57 : decode cX4_plus 57 = .ok (.if_icmp .ne 7, 3) := by decide +kernel
theorem dX4_plus_60 : decode cX4_plus 60 = .ok (.iconst 1, 1) := by decide +kernel
theorem dX4_plus_61 : decode cX4_plus 61 = .ok (.goto 4, 3) := by decide +kernel
theorem dX4_plus_64 : decode cX4_plus 64 = .ok (.iconst 0, 1) := by decide +kernel
theorem dX4_plus_65 : decode cX4_plus 65 = .ok (.ireturn, 1) := by decide +kernel
theorem dX4_readOne_0 : decode cX4_readOne 0 = .ok (.iconst 3, 1) := by decide +kernel
theorem dX4_readOne_1 : decode cX4_readOne 1 = .ok (.aload_n 0, 1) := by decide +kernel
theorem dX4_readOne_2 : decode cX4_readOne 2 = .ok (.getfield 164, 3) := by decide +kernel
theorem dX4_readOne_5 : decode cX4_readOne 5 = .ok (.imul, 1) := by decide +kernel
theorem dX4_readOne_6 : decode cX4_readOne 6 = .ok (.istore_n 1, 1) := by decide +kernel
theorem dX4_readOne_7 : decode cX4_readOne 7 = .ok (.aload_n 0, 1) := by decide +kernel
theorem dX4_readOne_8 : decode cX4_readOne 8 = .ok (.invokevirtual 155, 3) := by decide +kernel
theorem dX4_readOne_11 : decode cX4_readOne 11 = .ok (.istore_n 2, 1) := by decide +kernel
theorem dX4_readOne_12 : decode cX4_readOne 12 = .ok (.aload_n 0, 1) := by decide +kernel
theorem dX4_readOne_13 : decode cX4_readOne 13 = .ok (.getfield 29, 3) := by decide +kernel
theorem dX4_readOne_16 : decode cX4_readOne 16 = .ok (.iload_n 1, 1) := by decide +kernel
theorem dX4_readOne_17 : decode cX4_readOne 17 = .ok (.iload_n 2, 1) := by decide +kernel
theorem dX4_readOne_18 : decode cX4_readOne 18 = .ok (.iastore, 1) := by decide +kernel
theorem dX4_readOne_19 : decode cX4_readOne 19 = .ok (.aload_n 0, 1) := by decide +kernel
theorem dX4_readOne_20 : decode cX4_readOne 20 = .ok (.dup, 1) := by decide +kernel
theorem dX4_readOne_21 : decode cX4_readOne 21 = .ok (.getfield 152, 3) := by decide +kernel
theorem dX4_readOne_24 : decode cX4_readOne 24 = .ok (.iconst 1, 1) := by decide +kernel
theorem dX4_readOne_25 : decode cX4_readOne 25 = .ok (.iadd, 1) := by decide +kernel
theorem dX4_readOne_26 : decode cX4_readOne 26 = .ok (.putfield 152, 3) := by decide +kernel
theorem dX4_readOne_29 : decode cX4_readOne 29 = .ok (.iload_n 2, 1) := by decide +kernel
theorem dX4_readOne_30 : decode cX4_readOne 30 = .ok (.tableswitch 185 100 120 #[113, 185, 185, 185, 185, 185, 185, 185, 113, 185, 185, 98, 185, 185, 128, 185, 113, 185, 185, 145, 128], 98) := by decide +kernel
theorem dX4_readOne_128 : decode cX4_readOne 128 = .ok (.aload_n 0, 1) := by decide +kernel
theorem dX4_readOne_129 : decode cX4_readOne 129 = .ok (.getfield 29, 3) := by decide +kernel
theorem dX4_readOne_132 : decode cX4_readOne 132 = .ok (.iload_n 1, 1) := by decide +kernel
theorem dX4_readOne_133 : decode cX4_readOne 133 = .ok (.iconst 1, 1) := by decide +kernel
theorem dX4_readOne_134 : decode cX4_readOne 134 = .ok (.iadd, 1) := by decide +kernel
theorem dX4_readOne_135 : decode cX4_readOne 135 = .ok (.aload_n 0, 1) := by decide +kernel
theorem dX4_readOne_136 : decode cX4_readOne 136 = .ok (.invokevirtual 167, 3) := by decide +kernel
theorem dX4_readOne_139 : decode cX4_readOne 139 = .ok (.iastore, 1) := by decide +kernel
theorem dX4_readOne_140 : decode cX4_readOne 140 = .ok (.goto 90, 3) := by decide +kernel
theorem dX4_readOne_143 : decode cX4_readOne 143 = .ok (.aload_n 0, 1) := by decide +kernel
theorem dX4_readOne_144 : decode cX4_readOne 144 = .ok (.getfield 29, 3) := by decide +kernel
theorem dX4_readOne_147 : decode cX4_readOne 147 = .ok (.iload_n 1, 1) := by decide +kernel
theorem dX4_readOne_148 : decode cX4_readOne 148 = .ok (.iconst 1, 1) := by decide +kernel
theorem dX4_readOne_149 : decode cX4_readOne 149 = .ok (.iadd, 1) := by decide +kernel
theorem dX4_readOne_150 : decode cX4_readOne 150 = .ok (.aload_n 0, 1) := by decide +kernel
theorem dX4_readOne_151 : decode cX4_readOne 151 = .ok (.invokevirtual 170, 3) := by decide +kernel
theorem dX4_readOne_154 : decode cX4_readOne 154 = .ok (.iastore, 1) := by decide +kernel
theorem dX4_readOne_155 : decode cX4_readOne 155 = .ok (.goto 75, 3) := by decide +kernel
theorem dX4_readOne_158 : decode cX4_readOne 158 = .ok (.aload_n 0, 1) := by decide +kernel
theorem dX4_readOne_159 : decode cX4_readOne 159 = .ok (.getfield 29, 3) := by decide +kernel
theorem dX4_readOne_162 : decode cX4_readOne 162 = .ok (.iload_n 1, 1) := by decide +kernel
theorem dX4_readOne_163 : decode cX4_readOne 163 = .ok (.iconst 1, 1) := by decide +kernel
theorem dX4_readOne_164 : decode cX4_readOne 164 = .ok (.iadd, 1) := by decide +kernel
theorem dX4_readOne_165 : decode cX4_readOne 165 = .ok (.aload_n 0, 1) := by decide +kernel
theorem dX4_readOne_166 : decode cX4_readOne 166 = .ok (.iconst 0, 1) := by decide +kernel
theorem dX4_readOne_167 : decode cX4_readOne 167 = .ok (.iconst 4, 1) := by decide +kernel
theorem dX4_readOne_168 : decode cX4_readOne 168 = .ok (.invokevirtual 161, 3) := by decide +kernel
theorem dX4_readOne_171 : decode cX4_readOne 171 = .ok (.iastore, 1) := by decide +kernel
theorem dX4_readOne_172 : decode cX4_readOne 172 = .ok (.goto 58, 3) := by decide +kernel
theorem dX4_readOne_175 : decode cX4_readOne 175 = .ok (.aload_n 0, 1) := by decide +kernel
theorem dX4_readOne_176 : decode cX4_readOne 176 = .ok (.getfield 29, 3) := by decide +kernel
theorem dX4_readOne_179 : decode cX4_readOne 179 = .ok (.iload_n 1, 1) := by decide +kernel
theorem dX4_readOne_180 : decode cX4_readOne 180 = .ok (.iconst 1, 1) := by decide +kernel
theorem dX4_readOne_181 : decode cX4_readOne 181 = .ok (.iadd, 1) := by decide +kernel
theorem dX4_readOne_182 : decode cX4_readOne 182 = .ok (.aload_n 0, 1) := by decide +kernel
theorem dX4_readOne_183 : decode cX4_readOne 183 = .ok (.iconst 0, 1) := by decide +kernel
theorem dX4_readOne_184 : decode cX4_readOne 184 = .ok (.iconst 3, 1) := by decide +kernel
theorem dX4_readOne_185 : decode cX4_readOne 185 = .ok (.invokevirtual 161, 3) := by decide +kernel
theorem dX4_readOne_188 : decode cX4_readOne 188 = .ok (.iastore, 1) := by decide +kernel
theorem dX4_readOne_189 : decode cX4_readOne 189 = .ok (.aload_n 0, 1) := by decide +kernel
theorem dX4_readOne_190 : decode cX4_readOne 190 = .ok (.getfield 29, 3) := by decide +kernel
theorem dX4_readOne_193 : decode cX4_readOne 193 = .ok (.iload_n 1, 1) := by decide +kernel
theorem dX4_readOne_194 : decode cX4_readOne 194 = .ok (.iconst 2, 1) := by decide +kernel
theorem dX4_readOne_195 : decode cX4_readOne 195 = .ok (.iadd, 1) := by decide +kernel
theorem dX4_readOne_196 : decode cX4_readOne 196 = .ok (.aload_n 0, 1) := by decide +kernel
theorem dX4_readOne_197 : decode cX4_readOne 197 = .ok (.getfield 158, 3) := by decide +kernel
theorem dX4_readOne_200 : decode cX4_readOne 200 = .ok (.ifCond .eq 7, 3) := by decide +kernel
theorem dX4_readOne_203 : decode cX4_readOne 203 = .ok (.iconst 0, 1) := by decide +kernel
theorem dX4_readOne_204 : decode cX4_readOne 204 = .ok (.goto 7, 3) := by decide +kernel
theorem dX4_readOne_207 : decode cX4_readOne 207 = .ok (.aload_n 0, 1) := by decide +kernel
theorem dX4_readOne_208 : decode cX4_readOne 208 = .ok (.invokevirtual 173, 3) := by decide +kernel
theorem dX4_readOne_211 : decode cX4_readOne 211 = .ok (.iastore, 1) := by decide +kernel
theorem dX4_readOne_212 : decode cX4_readOne 212 = .ok (.goto 18, 3) := by decide +kernel
theorem dX4_readOne_215 : decode cX4_readOne 215 = .ok (.aload_n 0, 1) := by decide +kernel
theorem dX4_readOne_216 : decode cX4_readOne 216 = .ok (.iconst 1, 1) := by decide +kernel
theorem dX4_readOne_217 : decode cX4_readOne 217 = .ok (.putfield 158, 3) := by decide +kernel
theorem dX4_readOne_220 : decode cX4_readOne 220 = .ok (.aload_n 0, 1) := by decide +kernel
theorem dX4_readOne_221 : decode cX4_readOne 221 = .ok (.dup, 1) := by decide +kernel
theorem dX4_readOne_222 : decode cX4_readOne 222 = .ok (.getfield 152, 3) := by decide +kernel
theorem dX4_readOne_225 : decode cX4_readOne 225 = .ok (.iconst 1, 1) := by decide +kernel
theorem dX4_readOne_226 : decode cX4_readOne 226 = .ok (.isub, 1) := by decide +kernel
theorem dX4_readOne_227 : decode cX4_readOne 227 = .ok (.putfield 152, 3) := by decide +kernel
theorem dX4_readOne_230 : decode cX4_readOne 230 = .ok (.aload_n 0, 1) := by decide +kernel
theorem dX4_readOne_231 : decode cX4_readOne 231 = .ok (.dup, 1) := by decide +kernel
theorem dX4_readOne_232 : decode cX4_readOne 232 = .ok (.getfield 164, 3) := by decide +kernel
theorem dX4_readOne_235 : decode cX4_readOne 235 = .ok (.iconst 1, 1) := by decide +kernel
theorem dX4_readOne_236 : decode cX4_readOne 236 = .ok (.iadd, 1) := by decide +kernel
theorem dX4_readOne_237 : decode cX4_readOne 237 = .ok (.putfield 164, 3) := by decide +kernel
theorem dX4_readOne_240 : decode cX4_readOne 240 = .ok (.return_, 1) := by decide +kernel
theorem dX4_faultOf_0 : decode cX4_faultOf 0 = .ok (.aload_n 0, 1) := by decide +kernel
theorem dX4_faultOf_1 : decode cX4_faultOf 1 = .ok (.iconst 0, 1) := by decide +kernel
theorem dX4_faultOf_2 : decode cX4_faultOf 2 = .ok (.putfield 152, 3) := by decide +kernel
theorem dX4_faultOf_5 : decode cX4_faultOf 5 = .ok (.aload_n 0, 1) := by decide +kernel
theorem dX4_faultOf_6 : decode cX4_faultOf 6 = .ok (.iconst 0, 1) := by decide +kernel
theorem dX4_faultOf_7 : decode cX4_faultOf 7 = .ok (.putfield 164, 3) := by decide +kernel
theorem dX4_faultOf_10 : decode cX4_faultOf 10 = .ok (.aload_n 0, 1) := by decide +kernel
theorem dX4_faultOf_11 : decode cX4_faultOf 11 = .ok (.iconst 0, 1) := by decide +kernel
theorem dX4_faultOf_12 : decode cX4_faultOf 12 = .ok (.putfield 158, 3) := by decide +kernel
theorem dX4_faultOf_15 : decode cX4_faultOf 15 = .ok (.aload_n 0, 1) := by decide +kernel
theorem dX4_faultOf_16 : decode cX4_faultOf 16 = .ok (.invokevirtual 176, 3) := by decide +kernel
theorem dX4_faultOf_19 : decode cX4_faultOf 19 = .ok (.aload_n 0, 1) := by decide +kernel
theorem dX4_faultOf_20 : decode cX4_faultOf 20 = .ok (.getfield 158, 3) := by decide +kernel
theorem dX4_faultOf_23 : decode cX4_faultOf 23 = .ok (.ifCond .ne 56, 3) := by decide +kernel
theorem dX4_faultOf_26 : decode cX4_faultOf 26 = .ok (.aload_n 0, 1) := by decide +kernel
theorem dX4_faultOf_27 : decode cX4_faultOf 27 = .ok (.getfield 152, 3) := by decide +kernel
theorem dX4_faultOf_30 : decode cX4_faultOf 30 = .ok (.aload_n 0, 1) := by decide +kernel
theorem dX4_faultOf_31 : decode cX4_faultOf 31 = .ok (.getfield 131, 3) := by decide +kernel
theorem dX4_faultOf_34 : decode cX4_faultOf 34 = .ok (.if_icmp .ge 45, 3) := by decide +kernel
theorem dX4_faultOf_37 : decode cX4_faultOf 37 = .ok (.aload_n 0, 1) := by decide +kernel
theorem dX4_faultOf_38 : decode cX4_faultOf 38 = .ok (.aload_n 0, 1) := by decide +kernel
theorem dX4_faultOf_39 : decode cX4_faultOf 39 = .ok (.invokevirtual 155, 3) := by decide +kernel
theorem dX4_faultOf_42 : decode cX4_faultOf 42 = .ok (.bipush 59, 2) := by decide +kernel
theorem dX4_faultOf_44 : decode cX4_faultOf 44 = .ok (.if_icmp .eq 7, 3) := by decide +kernel
theorem dX4_faultOf_47 : decode cX4_faultOf 47 = .ok (.iconst 1, 1) := by decide +kernel
theorem dX4_faultOf_48 : decode cX4_faultOf 48 = .ok (.goto 4, 3) := by decide +kernel
theorem dX4_faultOf_51 : decode cX4_faultOf 51 = .ok (.iconst 0, 1) := by decide +kernel
theorem dX4_faultOf_52 : decode cX4_faultOf 52 = .ok (.putfield 158, 3) := by decide +kernel
theorem dX4_faultOf_55 : decode cX4_faultOf 55 = .ok (.aload_n 0, 1) := by decide +kernel
theorem dX4_faultOf_56 : decode cX4_faultOf 56 = .ok (.getfield 158, 3) := by decide +kernel
theorem dX4_faultOf_59 : decode cX4_faultOf 59 = .ok (.ifCond .ne (-40), 3) := by decide +kernel
theorem dX4_faultOf_62 : decode cX4_faultOf 62 = .ok (.aload_n 0, 1) := by decide +kernel
theorem dX4_faultOf_63 : decode cX4_faultOf 63 = .ok (.dup, 1) := by decide +kernel
theorem dX4_faultOf_64 : decode cX4_faultOf 64 = .ok (.getfield 152, 3) := by decide +kernel
theorem dX4_faultOf_67 : decode cX4_faultOf 67 = .ok (.iconst 1, 1) := by decide +kernel
theorem dX4_faultOf_68 : decode cX4_faultOf 68 = .ok (.iadd, 1) := by decide +kernel
theorem dX4_faultOf_69 : decode cX4_faultOf 69 = .ok (.putfield 152, 3) := by decide +kernel
theorem dX4_faultOf_72 : decode cX4_faultOf 72 = .ok (.aload_n 0, 1) := by decide +kernel
theorem dX4_faultOf_73 : decode cX4_faultOf 73 = .ok (.invokevirtual 176, 3) := by decide +kernel
theorem dX4_faultOf_76 : decode cX4_faultOf 76 = .ok (.goto (-57), 3) := by decide +kernel
theorem dX4_faultOf_79 : decode cX4_faultOf 79 = .ok (.aload_n 0, 1) := by decide +kernel
theorem dX4_faultOf_80 : decode cX4_faultOf 80 = .ok (.getfield 158, 3) := by decide +kernel
theorem dX4_faultOf_83 : decode cX4_faultOf 83 = .ok (.ifCond .eq 10, 3) := by decide +kernel
theorem dX4_faultOf_86 : decode cX4_faultOf 86 = .ok (.aload_n 0, 1) := by decide +kernel
theorem dX4_faultOf_87 : decode cX4_faultOf 87 = .ok (.getfield 152, 3) := by decide +kernel
theorem dX4_faultOf_90 : decode cX4_faultOf 90 = .ok (.goto 5, 3) := by decide +kernel
theorem dX4_faultOf_93 : decode cX4_faultOf 93 = .ok (.bipush (-6), 2) := by decide +kernel
theorem dX4_faultOf_95 : decode cX4_faultOf 95 = .ok (.ireturn, 1) := by decide +kernel
theorem dX4_put_0 : decode cX4_put 0 = .ok (.iconst 0, 1) := by decide +kernel
theorem dX4_put_1 : decode cX4_put 1 = .ok (.istore_n 3, 1) := by decide +kernel
theorem dX4_put_2 : decode cX4_put 2 = .ok (.lload_n 1, 1) := by decide +kernel
theorem dX4_put_3 : decode cX4_put 3 = .ok (.lstore 4, 2) := by decide +kernel
theorem dX4_put_5 : decode cX4_put 5 = .ok (.lload 4, 2) := by decide +kernel
theorem dX4_put_7 : decode cX4_put 7 = .ok (.ldc2_w 179, 3) := by decide +kernel
theorem dX4_put_10 : decode cX4_put 10 = .ok (.land, 1) := by decide +kernel
theorem dX4_put_11 : decode cX4_put 11 = .ok (.lconst 0, 1) := by decide +kernel
theorem dX4_put_12 : decode cX4_put 12 = .ok (.lcmp, 1) := by decide +kernel
theorem dX4_put_13 : decode cX4_put 13 = .ok (.ifCond .eq 36, 3) := by decide +kernel
theorem dX4_put_16 : decode cX4_put 16 = .ok (.lload 4, 2) := by decide +kernel
theorem dX4_put_18 : decode cX4_put 18 = .ok (.ldc2_w 179, 3) := by decide +kernel
theorem dX4_put_21 : decode cX4_put 21 = .ok (.land, 1) := by decide +kernel
theorem dX4_put_22 : decode cX4_put 22 = .ok (.l2i, 1) := by decide +kernel
theorem dX4_put_23 : decode cX4_put 23 = .ok (.bipush 33, 2) := by decide +kernel
theorem dX4_put_25 : decode cX4_put 25 = .ok (.bipush 126, 2) := by decide +kernel
theorem dX4_put_27 : decode cX4_put 27 = .ok (.invokestatic 95, 3) := by decide +kernel
theorem dX4_put_30 : decode cX4_put 30 = .ok (.ifCond .ne 6, 3) := by decide +kernel
theorem dX4_put_33 : decode cX4_put 33 = .ok (.bipush (-2), 2) := by decide +kernel
theorem dX4_put_35 : decode cX4_put 35 = .ok (.ireturn, 1) := by decide +kernel
theorem dX4_put_36 : decode cX4_put 36 = .ok (.iinc 3 1, 3) := by decide +kernel
theorem dX4_put_39 : decode cX4_put 39 = .ok (.lload 4, 2) := by decide +kernel
theorem dX4_put_41 : decode cX4_put 41 = .ok (.bipush 8, 2) := by decide +kernel
theorem dX4_put_43 : decode cX4_put 43 = .ok (.lushr, 1) := by decide +kernel
theorem dX4_put_44 : decode cX4_put 44 = .ok (.lstore 4, 2) := by decide +kernel
theorem dX4_put_46 : decode cX4_put 46 = .ok (.goto (-41), 3) := by decide +kernel
theorem dX4_put_49 : decode cX4_put 49 = .ok (.lload 4, 2) := by decide +kernel
theorem dX4_put_51 : decode cX4_put 51 = .ok (.lconst 0, 1) := by decide +kernel
theorem dX4_put_52 : decode cX4_put 52 = .ok (.lcmp, 1) := by decide +kernel
theorem dX4_put_53 : decode cX4_put 53 = .ok (.ifCond .ne 7, 3) := by decide +kernel
theorem dX4_put_56 : decode cX4_put 56 = .ok (.iload_n 3, 1) := by decide +kernel
theorem dX4_put_57 : decode cX4_put 57 = .ok (.ifCond .ne 6, 3) := by decide +kernel
theorem dX4_put_60 : decode cX4_put 60 = .ok (.bipush (-2), 2) := by decide +kernel
theorem dX4_put_62 : decode cX4_put 62 = .ok (.ireturn, 1) := by decide +kernel
theorem dX4_put_63 : decode cX4_put 63 = .ok (.aload_n 0, 1) := by decide +kernel
theorem dX4_put_64 : decode cX4_put 64 = .ok (.getfield 131, 3) := by decide +kernel
theorem dX4_put_67 : decode cX4_put 67 = .ok (.iload_n 3, 1) := by decide +kernel
theorem dX4_put_68 : decode cX4_put 68 = .ok (.iadd, 1) := by decide +kernel
theorem dX4_put_69 : decode cX4_put 69 = .ok (.bipush 60, 2) := by decide +kernel
theorem dX4_put_71 : decode cX4_put 71 = .ok (.if_icmp .le 6, 3) := by decide +kernel
theorem dX4_put_74 : decode cX4_put 74 = .ok (.bipush (-4), 2) := by decide +kernel
theorem dX4_put_76 : decode cX4_put 76 = .ok (.ireturn, 1) := by decide +kernel
theorem dX4_put_77 : decode cX4_put 77 = .ok (.lload_n 1, 1) := by decide +kernel
theorem dX4_put_78 : decode cX4_put 78 = .ok (.lstore 4, 2) := by decide +kernel
theorem dX4_put_80 : decode cX4_put 80 = .ok (.iload_n 3, 1) := by decide +kernel
theorem dX4_put_81 : decode cX4_put 81 = .ok (.iconst 1, 1) := by decide +kernel
theorem dX4_put_82 : decode cX4_put 82 = .ok (.isub, 1) := by decide +kernel
theorem dX4_put_83 : decode cX4_put 83 = .ok (.istore 6, 2) := by decide +kernel
theorem dX4_put_85 : decode cX4_put 85 = .ok (.iload 6, 2) := by decide +kernel
theorem dX4_put_87 : decode cX4_put 87 = .ok (.ifCond .lt 35, 3) := by decide +kernel
theorem dX4_put_90 : decode cX4_put 90 = .ok (.aload_n 0, 1) := by decide +kernel
theorem dX4_put_91 : decode cX4_put 91 = .ok (.getfield 26, 3) := by decide +kernel
theorem dX4_put_94 : decode cX4_put 94 = .ok (.aload_n 0, 1) := by decide +kernel
theorem dX4_put_95 : decode cX4_put 95 = .ok (.getfield 131, 3) := by decide +kernel
theorem dX4_put_98 : decode cX4_put 98 = .ok (.iload 6, 2) := by decide +kernel
theorem dX4_put_100 : decode cX4_put 100 = .ok (.iadd, 1) := by decide +kernel
theorem dX4_put_101 : decode cX4_put 101 = .ok (.lload 4, 2) := by decide +kernel
theorem dX4_put_103 : decode cX4_put 103 = .ok (.ldc2_w 179, 3) := by decide +kernel
theorem dX4_put_106 : decode cX4_put 106 = .ok (.land, 1) := by decide +kernel
theorem dX4_put_107 : decode cX4_put 107 = .ok (.l2i, 1) := by decide +kernel
theorem dX4_put_108 : decode cX4_put 108 = .ok (.iastore, 1) := by decide +kernel
theorem dX4_put_109 : decode cX4_put 109 = .ok (.lload 4, 2) := by decide +kernel
theorem dX4_put_111 : decode cX4_put 111 = .ok (.bipush 8, 2) := by decide +kernel
theorem dX4_put_113 : decode cX4_put 113 = .ok (.lushr, 1) := by decide +kernel
theorem dX4_put_114 : decode cX4_put 114 = .ok (.lstore 4, 2) := by decide +kernel
theorem dX4_put_116 : decode cX4_put 116 = .ok (.iinc 6 (-1), 3) := by decide +kernel
theorem dX4_put_119 : decode cX4_put 119 = .ok (.goto (-34), 3) := by decide +kernel
theorem dX4_put_122 : decode cX4_put 122 = .ok (.aload_n 0, 1) := by decide +kernel
theorem dX4_put_123 : decode cX4_put 123 = .ok (.dup, 1) := by decide +kernel
theorem dX4_put_124 : decode cX4_put 124 = .ok (.getfield 131, 3) := by decide +kernel
theorem dX4_put_127 : decode cX4_put 127 = .ok (.iload_n 3, 1) := by decide +kernel
theorem dX4_put_128 : decode cX4_put 128 = .ok (.iadd, 1) := by decide +kernel
theorem dX4_put_129 : decode cX4_put 129 = .ok (.putfield 131, 3) := by decide +kernel
theorem dX4_put_132 : decode cX4_put 132 = .ok (.aload_n 0, 1) := by decide +kernel
theorem dX4_put_133 : decode cX4_put 133 = .ok (.getfield 131, 3) := by decide +kernel
theorem dX4_put_136 : decode cX4_put 136 = .ok (.ireturn, 1) := by decide +kernel
theorem dX4_wipe_0 : decode cX4_wipe 0 = .ok (.aload_n 0, 1) := by decide +kernel
theorem dX4_wipe_1 : decode cX4_wipe 1 = .ok (.getfield 131, 3) := by decide +kernel
theorem dX4_wipe_4 : decode cX4_wipe 4 = .ok (.istore_n 1, 1) := by decide +kernel
theorem dX4_wipe_5 : decode cX4_wipe 5 = .ok (.aload_n 0, 1) := by decide +kernel
theorem dX4_wipe_6 : decode cX4_wipe 6 = .ok (.iconst 0, 1) := by decide +kernel
theorem dX4_wipe_7 : decode cX4_wipe 7 = .ok (.putfield 131, 3) := by decide +kernel
theorem dX4_wipe_10 : decode cX4_wipe 10 = .ok (.iload_n 1, 1) := by decide +kernel
theorem dX4_wipe_11 : decode cX4_wipe 11 = .ok (.ireturn, 1) := by decide +kernel
theorem dX4_fault_0 : decode cX4_fault 0 = .ok (.aload_n 0, 1) := by decide +kernel
theorem dX4_fault_1 : decode cX4_fault 1 = .ok (.invokevirtual 181, 3) := by decide +kernel
theorem dX4_fault_4 : decode cX4_fault 4 = .ok (.ireturn, 1) := by decide +kernel
theorem dX4_carry_0 : decode cX4_carry 0 = .ok (.aload_n 0, 1) := by decide +kernel
theorem dX4_carry_1 : decode cX4_carry 1 = .ok (.getfield 29, 3) := by decide +kernel
theorem dX4_carry_4 : decode cX4_carry 4 = .ok (.iload_n 1, 1) := by decide +kernel
theorem dX4_carry_5 : decode cX4_carry 5 = .ok (.iconst 1, 1) := by decide +kernel
theorem dX4_carry_6 : decode cX4_carry 6 = .ok (.iadd, 1) := by decide +kernel
theorem dX4_carry_7 : decode cX4_carry 7 = .ok (.iaload, 1) := by decide +kernel
theorem dX4_carry_8 : decode cX4_carry 8 = .ok (.istore_n 2, 1) := by decide +kernel
theorem dX4_carry_9 : decode cX4_carry 9 = .ok (.aload_n 0, 1) := by decide +kernel
theorem dX4_carry_10 : decode cX4_carry 10 = .ok (.getfield 29, 3) := by decide +kernel
theorem dX4_carry_13 : decode cX4_carry 13 = .ok (.iload_n 1, 1) := by decide +kernel
theorem dX4_carry_14 : decode cX4_carry 14 = .ok (.iaload, 1) := by decide +kernel
theorem dX4_carry_15 : decode cX4_carry 15 = .ok (.lookupswitch 101 #[(100, 63), (108, 69), (111, 57), (114, 81), (119, 87), (120, 75)], 57) := by decide +kernel
theorem dX4_carry_72 : decode cX4_carry 72 = .ok (.aload_n 0, 1) := by decide +kernel
theorem dX4_carry_73 : decode cX4_carry 73 = .ok (.iload_n 2, 1) := by decide +kernel
theorem dX4_carry_74 : decode cX4_carry 74 = .ok (.invokevirtual 184, 3) := by decide +kernel
theorem dX4_carry_77 : decode cX4_carry 77 = .ok (.ireturn, 1) := by decide +kernel
theorem dX4_carry_78 : decode cX4_carry 78 = .ok (.aload_n 0, 1) := by decide +kernel
theorem dX4_carry_79 : decode cX4_carry 79 = .ok (.iload_n 2, 1) := by decide +kernel
theorem dX4_carry_80 : decode cX4_carry 80 = .ok (.invokevirtual 187, 3) := by decide +kernel
theorem dX4_carry_83 : decode cX4_carry 83 = .ok (.ireturn, 1) := by decide +kernel
theorem dX4_carry_84 : decode cX4_carry 84 = .ok (.aload_n 0, 1) := by decide +kernel
theorem dX4_carry_85 : decode cX4_carry 85 = .ok (.iload_n 2, 1) := by decide +kernel
theorem dX4_carry_86 : decode cX4_carry 86 = .ok (.invokevirtual 190, 3) := by decide +kernel
theorem dX4_carry_89 : decode cX4_carry 89 = .ok (.ireturn, 1) := by decide +kernel
theorem dX4_carry_90 : decode cX4_carry 90 = .ok (.aload_n 0, 1) := by decide +kernel
theorem dX4_carry_91 : decode cX4_carry 91 = .ok (.iload_n 2, 1) := by decide +kernel
theorem dX4_carry_92 : decode cX4_carry 92 = .ok (.invokevirtual 193, 3) := by decide +kernel
theorem dX4_carry_95 : decode cX4_carry 95 = .ok (.ireturn, 1) := by decide +kernel
theorem dX4_carry_96 : decode cX4_carry 96 = .ok (.aload_n 0, 1) := by decide +kernel
theorem dX4_carry_97 : decode cX4_carry 97 = .ok (.iload_n 2, 1) := by decide +kernel
theorem dX4_carry_98 : decode cX4_carry 98 = .ok (.invokevirtual 196, 3) := by decide +kernel
theorem dX4_carry_101 : decode cX4_carry 101 = .ok (.ireturn, 1) := by decide +kernel
theorem dX4_carry_102 : decode cX4_carry 102 = .ok (.aload_n 0, 1) := by decide +kernel
theorem dX4_carry_103 : decode cX4_carry 103 = .ok (.iload_n 2, 1) := by decide +kernel
theorem dX4_carry_104 : decode cX4_carry 104 = .ok (.aload_n 0, 1) := by decide +kernel
theorem dX4_carry_105 : decode cX4_carry 105 = .ok (.getfield 29, 3) := by decide +kernel
theorem dX4_carry_108 : decode cX4_carry 108 = .ok (.iload_n 1, 1) := by decide +kernel
theorem dX4_carry_109 : decode cX4_carry 109 = .ok (.iconst 2, 1) := by decide +kernel
theorem dX4_carry_110 : decode cX4_carry 110 = .ok (.iadd, 1) := by decide +kernel
theorem dX4_carry_111 : decode cX4_carry 111 = .ok (.iaload, 1) := by decide +kernel
theorem dX4_carry_112 : decode cX4_carry 112 = .ok (.invokevirtual 199, 3) := by decide +kernel
theorem dX4_carry_115 : decode cX4_carry 115 = .ok (.ireturn, 1) := by decide +kernel
theorem dX4_carry_116 : decode cX4_carry 116 = .ok (.aload_n 0, 1) := by decide +kernel
theorem dX4_carry_117 : decode cX4_carry 117 = .ok (.iload_n 2, 1) := by decide +kernel
theorem dX4_carry_118 : decode cX4_carry 118 = .ok (.invokevirtual 202, 3) := by decide +kernel
theorem dX4_carry_121 : decode cX4_carry 121 = .ok (.ireturn, 1) := by decide +kernel
theorem dX4_carryOut_0 : decode cX4_carryOut 0 = .ok (.aload_n 0, 1) := by decide +kernel
theorem dX4_carryOut_1 : decode cX4_carryOut 1 = .ok (.invokevirtual 181, 3) := by decide +kernel
theorem dX4_carryOut_4 : decode cX4_carryOut 4 = .ok (.bipush (-6), 2) := by decide +kernel
theorem dX4_carryOut_6 : decode cX4_carryOut 6 = .ok (.if_icmp .eq 6, 3) := by decide +kernel
theorem dX4_carryOut_9 : decode cX4_carryOut 9 = .ok (.bipush (-3), 2) := by decide +kernel
theorem dX4_carryOut_11 : decode cX4_carryOut 11 = .ok (.ireturn, 1) := by decide +kernel
theorem dX4_carryOut_12 : decode cX4_carryOut 12 = .ok (.aload_n 0, 1) := by decide +kernel
theorem dX4_carryOut_13 : decode cX4_carryOut 13 = .ok (.invokevirtual 99, 3) := by decide +kernel
theorem dX4_carryOut_16 : decode cX4_carryOut 16 = .ok (.aload_n 0, 1) := by decide +kernel
theorem dX4_carryOut_17 : decode cX4_carryOut 17 = .ok (.iconst 1, 1) := by decide +kernel
theorem dX4_carryOut_18 : decode cX4_carryOut 18 = .ok (.putfield 32, 3) := by decide +kernel
theorem dX4_carryOut_21 : decode cX4_carryOut 21 = .ok (.iconst 0, 1) := by decide +kernel
theorem dX4_carryOut_22 : decode cX4_carryOut 22 = .ok (.istore_n 1, 1) := by decide +kernel
theorem dX4_carryOut_23 : decode cX4_carryOut 23 = .ok (.iload_n 1, 1) := by decide +kernel
theorem dX4_carryOut_24 : decode cX4_carryOut 24 = .ok (.aload_n 0, 1) := by decide +kernel
theorem dX4_carryOut_25 : decode cX4_carryOut 25 = .ok (.getfield 164, 3) := by decide +kernel
theorem dX4_carryOut_28 : decode cX4_carryOut 28 = .ok (.if_icmp .ge 19, 3) := by decide +kernel
theorem dX4_carryOut_31 : decode cX4_carryOut 31 = .ok (.aload_n 0, 1) := by decide +kernel
theorem dX4_carryOut_32 : decode cX4_carryOut 32 = .ok (.iconst 3, 1) := by decide +kernel
theorem dX4_carryOut_33 : decode cX4_carryOut 33 = .ok (.iload_n 1, 1) := by decide +kernel
theorem dX4_carryOut_34 : decode cX4_carryOut 34 = .ok (.imul, 1) := by decide +kernel
theorem dX4_carryOut_35 : decode cX4_carryOut 35 = .ok (.invokevirtual 205, 3) := by decide +kernel
theorem dX4_carryOut_38 : decode cX4_carryOut 38 = .ok (.ifCond .lt 9, 3) := by decide +kernel
theorem dX4_carryOut_41 : decode cX4_carryOut 41 = .ok (.iinc 1 1, 3) := by decide +kernel
theorem dX4_carryOut_44 : decode cX4_carryOut 44 = .ok (.goto (-21), 3) := by decide +kernel
theorem dX4_carryOut_47 : decode cX4_carryOut 47 = .ok (.aload_n 0, 1) := by decide +kernel
theorem dX4_carryOut_48 : decode cX4_carryOut 48 = .ok (.iconst 0, 1) := by decide +kernel
theorem dX4_carryOut_49 : decode cX4_carryOut 49 = .ok (.putfield 32, 3) := by decide +kernel
theorem dX4_carryOut_52 : decode cX4_carryOut 52 = .ok (.aload_n 0, 1) := by decide +kernel
theorem dX4_carryOut_53 : decode cX4_carryOut 53 = .ok (.iconst 0, 1) := by decide +kernel
theorem dX4_carryOut_54 : decode cX4_carryOut 54 = .ok (.putfield 131, 3) := by decide +kernel
theorem dX4_carryOut_57 : decode cX4_carryOut 57 = .ok (.iload_n 1, 1) := by decide +kernel
theorem dX4_carryOut_58 : decode cX4_carryOut 58 = .ok (.ireturn, 1) := by decide +kernel
theorem dX4_undo_0 : decode cX4_undo 0 = .ok (.aload_n 0, 1) := by decide +kernel
theorem dX4_undo_1 : decode cX4_undo 1 = .ok (.getfield 36, 3) := by decide +kernel
theorem dX4_undo_4 : decode cX4_undo 4 = .ok (.ifCond .ne 6, 3) := by decide +kernel
theorem dX4_undo_7 : decode cX4_undo 7 = .ok (.bipush (-5), 2) := by decide +kernel
theorem dX4_undo_9 : decode cX4_undo 9 = .ok (.ireturn, 1) := by decide +kernel
theorem dX4_undo_10 : decode cX4_undo 10 = .ok (.aload_n 0, 1) := by decide +kernel
theorem dX4_undo_11 : decode cX4_undo 11 = .ok (.dup, 1) := by decide +kernel
theorem dX4_undo_12 : decode cX4_undo 12 = .ok (.getfield 36, 3) := by decide +kernel
theorem dX4_undo_15 : decode cX4_undo 15 = .ok (.iconst 1, 1) := by decide +kernel
theorem dX4_undo_16 : decode cX4_undo 16 = .ok (.isub, 1) := by decide +kernel
theorem dX4_undo_17 : decode cX4_undo 17 = .ok (.putfield 36, 3) := by decide +kernel
theorem dX4_undo_20 : decode cX4_undo 20 = .ok (.iconst 0, 1) := by decide +kernel
theorem dX4_undo_21 : decode cX4_undo 21 = .ok (.istore_n 1, 1) := by decide +kernel
theorem dX4_undo_22 : decode cX4_undo 22 = .ok (.iload_n 1, 1) := by decide +kernel
theorem dX4_undo_23 : decode cX4_undo 23 = .ok (.sipush 390, 3) := by decide +kernel
theorem dX4_undo_26 : decode cX4_undo 26 = .ok (.if_icmp .ge 30, 3) := by decide +kernel
theorem dX4_undo_29 : decode cX4_undo 29 = .ok (.aload_n 0, 1) := by decide +kernel
theorem dX4_undo_30 : decode cX4_undo 30 = .ok (.getfield 7, 3) := by decide +kernel
theorem dX4_undo_33 : decode cX4_undo 33 = .ok (.iload_n 1, 1) := by decide +kernel
theorem dX4_undo_34 : decode cX4_undo 34 = .ok (.aload_n 0, 1) := by decide +kernel
theorem dX4_undo_35 : decode cX4_undo 35 = .ok (.getfield 16, 3) := by decide +kernel
theorem dX4_undo_38 : decode cX4_undo 38 = .ok (.aload_n 0, 1) := by decide +kernel
theorem dX4_undo_39 : decode cX4_undo 39 = .ok (.getfield 36, 3) := by decide +kernel
theorem dX4_undo_42 : decode cX4_undo 42 = .ok (.sipush 390, 3) := by decide +kernel
theorem dX4_undo_45 : decode cX4_undo 45 = .ok (.imul, 1) := by decide +kernel
theorem dX4_undo_46 : decode cX4_undo 46 = .ok (.iload_n 1, 1) := by decide +kernel
theorem dX4_undo_47 : decode cX4_undo 47 = .ok (.iadd, 1) := by decide +kernel
theorem dX4_undo_48 : decode cX4_undo 48 = .ok (.iaload, 1) := by decide +kernel
theorem dX4_undo_49 : decode cX4_undo 49 = .ok (.iastore, 1) := by decide +kernel
theorem dX4_undo_50 : decode cX4_undo 50 = .ok (.iinc 1 1, 3) := by decide +kernel
theorem dX4_undo_53 : decode cX4_undo 53 = .ok (.goto (-31), 3) := by decide +kernel
theorem dX4_undo_56 : decode cX4_undo 56 = .ok (.aload_n 0, 1) := by decide +kernel
theorem dX4_undo_57 : decode cX4_undo 57 = .ok (.getfield 36, 3) := by decide +kernel
theorem dX4_undo_60 : decode cX4_undo 60 = .ok (.ireturn, 1) := by decide +kernel
theorem dX4_save_0 : decode cX4_save 0 = .ok (.iload_n 1, 1) := by decide +kernel
theorem dX4_save_1 : decode cX4_save 1 = .ok (.iconst 0, 1) := by decide +kernel
theorem dX4_save_2 : decode cX4_save 2 = .ok (.iconst 1, 1) := by decide +kernel
theorem dX4_save_3 : decode cX4_save 3 = .ok (.invokestatic 95, 3) := by decide +kernel
theorem dX4_save_6 : decode cX4_save 6 = .ok (.ifCond .ne 6, 3) := by decide +kernel
theorem dX4_save_9 : decode cX4_save 9 = .ok (.bipush (-2), 2) := by decide +kernel
theorem dX4_save_11 : decode cX4_save 11 = .ok (.ireturn, 1) := by decide +kernel
theorem dX4_save_12 : decode cX4_save 12 = .ok (.iconst 0, 1) := by decide +kernel
theorem dX4_save_13 : decode cX4_save 13 = .ok (.istore_n 2, 1) := by decide +kernel
theorem dX4_save_14 : decode cX4_save 14 = .ok (.iload_n 2, 1) := by decide +kernel
theorem dX4_save_15 : decode cX4_save 15 = .ok (.sipush 390, 3) := by decide +kernel
theorem dX4_save_18 : decode cX4_save 18 = .ok (.if_icmp .ge 27, 3) := by decide +kernel
theorem dX4_save_21 : decode cX4_save 21 = .ok (.aload_n 0, 1) := by decide +kernel
theorem dX4_save_22 : decode cX4_save 22 = .ok (.getfield 19, 3) := by decide +kernel
theorem dX4_save_25 : decode cX4_save 25 = .ok (.iload_n 1, 1) := by decide +kernel
theorem dX4_save_26 : decode cX4_save 26 = .ok (.sipush 390, 3) := by decide +kernel
theorem dX4_save_29 : decode cX4_save 29 = .ok (.imul, 1) := by decide +kernel
theorem dX4_save_30 : decode cX4_save 30 = .ok (.iload_n 2, 1) := by decide +kernel
theorem dX4_save_31 : decode cX4_save 31 = .ok (.iadd, 1) := by decide +kernel
theorem dX4_save_32 : decode cX4_save 32 = .ok (.aload_n 0, 1) := by decide +kernel
theorem dX4_save_33 : decode cX4_save 33 = .ok (.getfield 7, 3) := by decide +kernel
theorem dX4_save_36 : decode cX4_save 36 = .ok (.iload_n 2, 1) := by decide +kernel
theorem dX4_save_37 : decode cX4_save 37 = .ok (.iaload, 1) := by decide +kernel
theorem dX4_save_38 : decode cX4_save 38 = .ok (.iastore, 1) := by decide +kernel
theorem dX4_save_39 : decode cX4_save 39 = .ok (.iinc 2 1, 3) := by decide +kernel
theorem dX4_save_42 : decode cX4_save 42 = .ok (.goto (-28), 3) := by decide +kernel
theorem dX4_save_45 : decode cX4_save 45 = .ok (.aload_n 0, 1) := by decide +kernel
theorem dX4_save_46 : decode cX4_save 46 = .ok (.getfield 22, 3) := by decide +kernel
theorem dX4_save_49 : decode cX4_save 49 = .ok (.iload_n 1, 1) := by decide +kernel
theorem dX4_save_50 : decode cX4_save 50 = .ok (.iconst 1, 1) := by decide +kernel
theorem dX4_save_51 : decode cX4_save 51 = .ok (.bastore, 1) := by decide +kernel
theorem dX4_save_52 : decode cX4_save 52 = .ok (.aload_n 0, 1) := by decide +kernel
theorem dX4_save_53 : decode cX4_save 53 = .ok (.getfield 7, 3) := by decide +kernel
theorem dX4_save_56 : decode cX4_save 56 = .ok (.iconst 4, 1) := by decide +kernel
theorem dX4_save_57 : decode cX4_save 57 = .ok (.iaload, 1) := by decide +kernel
theorem dX4_save_58 : decode cX4_save 58 = .ok (.ireturn, 1) := by decide +kernel
theorem dX4_restore_0 : decode cX4_restore 0 = .ok (.iload_n 1, 1) := by decide +kernel
theorem dX4_restore_1 : decode cX4_restore 1 = .ok (.iconst 0, 1) := by decide +kernel
theorem dX4_restore_2 : decode cX4_restore 2 = .ok (.iconst 1, 1) := by decide +kernel
theorem dX4_restore_3 : decode cX4_restore 3 = .ok (.invokestatic 95, 3) := by decide +kernel
theorem dX4_restore_6 : decode cX4_restore 6 = .ok (.ifCond .ne 6, 3) := by decide +kernel
theorem dX4_restore_9 : decode cX4_restore 9 = .ok (.bipush (-2), 2) := by decide +kernel
theorem dX4_restore_11 : decode cX4_restore 11 = .ok (.ireturn, 1) := by decide +kernel
theorem dX4_restore_12 : decode cX4_restore 12 = .ok (.aload_n 0, 1) := by decide +kernel
theorem dX4_restore_13 : decode cX4_restore 13 = .ok (.getfield 22, 3) := by decide +kernel
theorem dX4_restore_16 : decode cX4_restore 16 = .ok (.iload_n 1, 1) := by decide +kernel
theorem dX4_restore_17 : decode cX4_restore 17 = .ok (.baload, 1) := by decide +kernel
theorem dX4_restore_18 : decode cX4_restore 18 = .ok (.ifCond .ne 6, 3) := by decide +kernel
theorem dX4_restore_21 : decode cX4_restore 21 = .ok (.bipush (-5), 2) := by decide +kernel
theorem dX4_restore_23 : decode cX4_restore 23 = .ok (.ireturn, 1) := by decide +kernel
theorem dX4_restore_24 : decode cX4_restore 24 = .ok (.aload_n 0, 1) := by decide +kernel
theorem dX4_restore_25 : decode cX4_restore 25 = .ok (.invokevirtual 99, 3) := by decide +kernel
theorem dX4_restore_28 : decode cX4_restore 28 = .ok (.iconst 0, 1) := by decide +kernel
theorem dX4_restore_29 : decode cX4_restore 29 = .ok (.istore_n 2, 1) := by decide +kernel
theorem dX4_restore_30 : decode cX4_restore 30 = .ok (.iload_n 2, 1) := by decide +kernel
theorem dX4_restore_31 : decode cX4_restore 31 = .ok (.sipush 390, 3) := by decide +kernel
theorem dX4_restore_34 : decode cX4_restore 34 = .ok (.if_icmp .ge 27, 3) := by decide +kernel
theorem dX4_restore_37 : decode cX4_restore 37 = .ok (.aload_n 0, 1) := by decide +kernel
theorem dX4_restore_38 : decode cX4_restore 38 = .ok (.getfield 7, 3) := by decide +kernel
theorem dX4_restore_41 : decode cX4_restore 41 = .ok (.iload_n 2, 1) := by decide +kernel
theorem dX4_restore_42 : decode cX4_restore 42 = .ok (.aload_n 0, 1) := by decide +kernel
theorem dX4_restore_43 : decode cX4_restore 43 = .ok (.getfield 19, 3) := by decide +kernel
theorem dX4_restore_46 : decode cX4_restore 46 = .ok (.iload_n 1, 1) := by decide +kernel
theorem dX4_restore_47 : decode cX4_restore 47 = .ok (.sipush 390, 3) := by decide +kernel
theorem dX4_restore_50 : decode cX4_restore 50 = .ok (.imul, 1) := by decide +kernel
theorem dX4_restore_51 : decode cX4_restore 51 = .ok (.iload_n 2, 1) := by decide +kernel
theorem dX4_restore_52 : decode cX4_restore 52 = .ok (.iadd, 1) := by decide +kernel
theorem dX4_restore_53 : decode cX4_restore 53 = .ok (.iaload, 1) := by decide +kernel
theorem dX4_restore_54 : decode cX4_restore 54 = .ok (.iastore, 1) := by decide +kernel
theorem dX4_restore_55 : decode cX4_restore 55 = .ok (.iinc 2 1, 3) := by decide +kernel
theorem dX4_restore_58 : decode cX4_restore 58 = .ok (.goto (-28), 3) := by decide +kernel
theorem dX4_restore_61 : decode cX4_restore 61 = .ok (.aload_n 0, 1) := by decide +kernel
theorem dX4_restore_62 : decode cX4_restore 62 = .ok (.getfield 7, 3) := by decide +kernel
theorem dX4_restore_65 : decode cX4_restore 65 = .ok (.iconst 4, 1) := by decide +kernel
theorem dX4_restore_66 : decode cX4_restore 66 = .ok (.iaload, 1) := by decide +kernel
theorem dX4_restore_67 : decode cX4_restore 67 = .ok (.ireturn, 1) := by decide +kernel
end
section
/-! ===== my own rows: worlds by permutation, contracts whose end is a function of their start ===== -/
abbrev GP : Type := va_G × (Nat → ClassId)
def tyL (G : GP) : List (ClassId × FieldType) := [(G.2 0, .int), (G.2 1, .char), (G.2 2, .boolean), (G.2 3, .object "ClerkVotes$State")]
theorem va_P_iff {D : va_G} {cl : List vw_C} {ws : va_W} {H : Heap} : va_P D cl ws H ↔ ∀ q ∈ ws, va_at D cl q H :=
  ⟨fun h q hq => by obtain ⟨k, hk⟩ := List.getElem?_of_mem hq; exact h k q hk, fun h k q hk => h q (List.mem_of_getElem? hk)⟩
theorem va_D_iff {A : Nat → Prop} {ws : va_W} : va_D A ws ↔ (ws.map Prod.fst).Nodup ∧ ∀ q ∈ ws, A q.1 := by
  constructor
  · intro h
    refine ⟨?_, fun q hq => by obtain ⟨k, hk⟩ := List.getElem?_of_mem hq; exact h.2 k q hk⟩
    rw [List.Nodup, List.pairwise_iff_getElem]
    intro i j hi hj hij he
    rw [List.length_map] at hi hj
    rw [List.getElem_map, List.getElem_map] at he
    have := h.1 i j ws[i] ws[j] (List.getElem?_eq_getElem hi) (List.getElem?_eq_getElem hj) he
    omega
  · intro h
    refine ⟨fun i j p q hi hj hpq => ?_, fun k q hk => h.2 q (List.mem_of_getElem? hk)⟩
    have hn := h.1
    rw [List.Nodup, List.pairwise_iff_getElem] at hn
    obtain ⟨hi1, hi2⟩ := List.getElem?_eq_some_iff.mp hi
    obtain ⟨hj1, hj2⟩ := List.getElem?_eq_some_iff.mp hj
    rcases Nat.lt_trichotomy i j with h1 | h1 | h1
    · exact absurd (by rw [List.getElem_map, List.getElem_map, hi2, hj2, hpq]) (hn i j (by rw [List.length_map]; exact hi1) (by rw [List.length_map]; exact hj1) h1)
    · exact h1
    · exact absurd (by rw [List.getElem_map, List.getElem_map, hi2, hj2, hpq]) (hn j i (by rw [List.length_map]; exact hj1) (by rw [List.length_map]; exact hi1) h1)
/-- the heap beside a frame: the world's cells, apart, in A; what isn't in A stays as it was at H0 -/
def HB (G : GP) (A : Nat → Prop) (H0 : Heap) (ws : va_W) (H : Heap) (locs : List Loc) : Prop := va_P G.1 vwCl ws H ∧ va_D A ws ∧ va_S A H0 H locs ∧ (∀ q : Nat, H0.size ≤ q → A q)
theorem HB.perm {G : GP} {A : Nat → Prop} {H0 : Heap} {ws ws' : va_W} {H : Heap} {locs : List Loc} (h : HB G A H0 ws H locs) (hp : ws.Perm ws') : HB G A H0 ws' H locs := by
  obtain ⟨h1, h2, h3⟩ := h
  refine ⟨va_P_iff.mpr fun q hq => va_P_iff.mp h1 q (hp.mem_iff.mpr hq), va_D_iff.mpr ⟨(hp.map _).nodup_iff.mp (va_D_iff.mp h2).1, fun q hq => (va_D_iff.mp h2).2 q (hp.mem_iff.mpr hq)⟩, h3⟩
theorem HB.cut {G : GP} {A : Nat → Prop} {H0 : Heap} {big w r : va_W} {H : Heap} {locs : List Loc} (h : HB G A H0 big H locs) (hp : (w ++ r).Perm big) : va_P G.1 vwCl w H ∧ va_D (fun _ => True) w ∧ (∀ q : Nat, va_A w H.size q → A q) := by
  obtain ⟨h1, h2, h3, h4⟩ := h.perm hp.symm
  have g1 := va_P_iff.mp h1
  obtain ⟨g2, g3⟩ := va_D_iff.mp h2
  rw [List.map_append] at g2
  refine ⟨va_P_iff.mpr fun q hq => g1 q (List.mem_append_left _ hq), va_D_iff.mpr ⟨(List.nodup_append.mp g2).1, fun _ _ => trivial⟩, fun q hq => ?_⟩
  rcases hq with ⟨k, e, hk⟩ | hq
  · exact g3 (q, e) (List.mem_append_left _ (List.mem_of_getElem? hk))
  · exact h4 q (Nat.le_trans h3.1 hq)
theorem HB.glue {G : GP} {A : Nat → Prop} {H0 : Heap} {big big' w w' r : va_W} {H H1 : Heap} {locs locs1 : List Loc} (h : HB G A H0 big H locs) (hp : (w ++ r).Perm big) (hp' : (w' ++ r).Perm big')
    (hk : ∀ q : Nat, q < H.size → ¬ va_A w H.size q → H1[q]? = H[q]?) (hP1 : va_P G.1 vwCl w' H1) (hD1 : va_D (va_A w H.size) w') (hS : va_S A H0 H1 locs1) : HB G A H0 big' H1 locs1 := by
  have hF := (h.cut hp).2.2
  obtain ⟨h1, h2, h3, h4⟩ := h.perm hp.symm
  have g1 := va_P_iff.mp h1
  obtain ⟨g2, g3⟩ := va_D_iff.mp h2
  rw [List.map_append, List.nodup_append] at g2
  obtain ⟨k1, k2⟩ := va_D_iff.mp hD1
  have apart : ∀ q ∈ r, q.1 < H.size ∧ ¬ va_A w H.size q.1 := by
    intro q hq
    have hl := (g1 q (List.mem_append_right _ hq)).lt
    refine ⟨hl, fun z => ?_⟩
    rcases z with ⟨k, e, hk⟩ | z
    · exact g2.2.2 q.1 (List.mem_map.mpr ⟨(q.1, e), List.mem_of_getElem? hk, rfl⟩) q.1 (List.mem_map.mpr ⟨q, hq, rfl⟩) rfl
    · omega
  have hN : HB G A H0 (w' ++ r) H1 locs1 := by
    refine ⟨va_P_iff.mpr fun q hq => ?_, va_D_iff.mpr ⟨?_, fun q hq => ?_⟩, hS, h4⟩
    · rcases List.mem_append.mp hq with z | z
      · exact va_P_iff.mp hP1 q z
      · exact (g1 q (List.mem_append_right _ z)).kept (hk q.1 (apart q z).1 (apart q z).2)
    · rw [List.map_append, List.nodup_append]
      refine ⟨k1, g2.2.1, fun a ha b hb hab => ?_⟩
      obtain ⟨q, hq, rfl⟩ := List.mem_map.mp ha
      obtain ⟨q2, hq2, rfl⟩ := List.mem_map.mp hb
      exact (apart q2 hq2).2 (hab ▸ k2 q hq)
    · rcases List.mem_append.mp hq with z | z
      · exact hF q.1 (k2 q z)
      · exact g3 q (List.mem_append_right _ z)
  exact hN.perm hp'
/-- the links across the nest -/
def NW (U : State) : Prop := va_Nw (.methodLinkNest RX2 69 yX3_isIn RX3) U ∧ va_Nw (.methodLinkNest RX3 9 yX2_init RX3) U ∧ va_Nw (.methodLinkNest RX2 17 yX1_init RX3) U ∧ va_Nw (.methodLinkNest RX3 32 yX0_init RX3) U
theorem NW.warm {s U : State} (hW : s.WarmedH U.vm) (h : NW s) : NW U := ⟨va_Nw.warmM hW h.1, va_Nw.warmM hW h.2.1, va_Nw.warmM hW h.2.2.1, va_Nw.warmM hW h.2.2.2⟩
theorem NW.same {s U : State} (hv : s.vm = U.vm) (h : NW s) : NW U := ⟨va_Nw.same rfl hv h.1, va_Nw.same rfl hv h.2.1, va_Nw.same rfl hv h.2.2.1, va_Nw.same rfl hv h.2.2.2⟩
def PW (G : GP) (sz : Nat) (ws : va_W) (Ex : State → Prop) : State → Prop := fun U => U.heap.size = sz ∧ va_P G.1 vwCl ws U.heap ∧ va_K G.1 vwCl (tyL G) U ∧ va_D (fun _ => True) ws ∧ NW U ∧ Ex U
def EB (Ex : State → Prop) : Prop := ∀ (U : State) (g : JFrame) (mk : MethodId) (a : Array Value), Ex U → Ex (U.calling g mk a)
theorem PW.blind {G : GP} {sz : Nat} {ws : va_W} {Ex : State → Prop} {av : List Value} (hE : EB Ex) : FrameBlind (va_Pc av (PW G sz ws Ex)) := fun a U g mk q => by
  obtain ⟨q0, q1, qP, qK, qD, qN, qE⟩ := q
  exact ⟨q0, q1, qP, va_K.moved (u := U) (U := U.calling g mk a) (Vm.Alike.refl U.vm) qK, qD, NW.same (s := U) (U := U.calling g mk a) rfl qN, hE U g mk a qE⟩
def ES : State → Prop := fun _ => True
theorem ES.eb : EB ES := fun _ _ _ _ _ => trivial
def QI (G : GP) (A : Nat → Prop) (w' : va_W) (r : Int32) : Array Value → State → Outcome → State → Prop := va_Qi (fun (r' : Int32) (_ : Unit) => r' = r) (fun _ t => va_P G.1 vwCl w' t.heap ∧ va_D A w') A
def QV (G : GP) (A : Nat → Prop) (w' : va_W) : Array Value → State → Outcome → State → Prop := va_Qv (fun (_ : Unit) => True) (fun _ t => va_P G.1 vwCl w' t.heap ∧ va_D A w') A
def MI (l : Launch) (y : MethodName) (ws : List Cond) (rm : Room) (av : List Value) (G : GP) (Ex : State → Prop) (w w' : va_W) (r : Int32) : Prop :=
  ∀ sz : Nat, Met l y ws rm (va_Pc av (PW G sz w Ex)) (QI G (va_A w sz) w' r) 0 0 (va_A w sz)
def MV (l : Launch) (y : MethodName) (ws : List Cond) (rm : Room) (av : List Value) (G : GP) (Ex : State → Prop) (w w' : va_W) : Prop :=
  ∀ sz : Nat, Met l y ws rm (va_Pc av (PW G sz w Ex)) (QV G (va_A w sz) w') 0 0 (va_A w sz)
/-- what stands fixed in a method's body -/
def EN (p : Program) (c : Code) (cc : ByteArray) (s : State) (m : MethodId) (args : Array Value) (own : String) (nL : Nat) (G : GP) : Prop :=
  p.tables.exec = Jvm.exec ∧ c.code = cc ∧ c.maxLocals = nL ∧ s.vm.findClass own = some m.cls ∧ (∀ w ∈ GW, w.before args s = true) ∧ va_K G.1 vwCl (tyL G) s ∧ NW s
theorem MI.of {l : Launch} {y : MethodName} {cc : ByteArray} {maxL : Nat} {ret : Option FieldType} {rm : Room} {av : List Value} {G : GP} {Ex : State → Prop} {w w' : va_W} {r : Int32} {own : String} (hy : plainName y.cls = true) (ho : y.cls = own) (hsl : (lg_sl av).length ≤ maxL)
    (body : ∀ (p : Program) (e : Env) (s : State) (m : MethodId) (below : List Frame) (meth : Method) (c : Code) (ls : Array Slot) (A : Nat → Prop), EN p c cc s m av.toArray own maxL G → HB G A s.heap w s.heap [] → lv_has ls maxL (lv_args 0 av) → meth.sig.returnType = ret → meth.locks = false → Ex s →
      W p l e rm s m av.toArray below meth c s.heap [] 0 0 (MQ below (QI G A w' r) av.toArray s 0 0 A) (F0 m 0 ls [])) : MI l y (.code y cc maxL ret :: GW) rm av G Ex w w' r := by
  intro sz
  refine Met.ofW (cc := cc) (maxL := maxL) (ret := ret) hy rfl ?_
  intro p e s m args below meth c s₁ B hml hv
  obtain ⟨rfl, hsz, hP, hK, hD0, hN, hEx⟩ := hv
  have hts0 := atoms_spec (ws := .code y cc maxL ret :: GW) B.pre
  have hown : s.vm.findClass y.cls = some m.cls := findClass_of_methodNamed B.named
  subst hsz
  have hl := lv_entry av (n := maxL) hsl
  rw [lg_entry_eq]
  exact body p e s m below meth c _ _ ⟨B.exec, B.bytes, hml, ho ▸ hown, fun w h => hts0 w (List.mem_cons_of_mem _ h), hK, hN⟩ ⟨hP, hD0.self, va_S.rf, fun q h => Or.inr h⟩ hl B.returns B.notSynchronized hEx
theorem MV.of {l : Launch} {y : MethodName} {cc : ByteArray} {maxL : Nat} {ret : Option FieldType} {rm : Room} {av : List Value} {G : GP} {Ex : State → Prop} {w w' : va_W} {own : String} (hy : plainName y.cls = true) (ho : y.cls = own) (hsl : (lg_sl av).length ≤ maxL)
    (body : ∀ (p : Program) (e : Env) (s : State) (m : MethodId) (below : List Frame) (meth : Method) (c : Code) (ls : Array Slot) (A : Nat → Prop), EN p c cc s m av.toArray own maxL G → HB G A s.heap w s.heap [] → lv_has ls maxL (lv_args 0 av) → meth.sig.returnType = ret → meth.locks = false → Ex s →
      W p l e rm s m av.toArray below meth c s.heap [] 0 0 (MQ below (QV G A w') av.toArray s 0 0 A) (F0 m 0 ls [])) : MV l y (.code y cc maxL ret :: GW) rm av G Ex w w' := by
  intro sz
  refine Met.ofW (cc := cc) (maxL := maxL) (ret := ret) hy rfl ?_
  intro p e s m args below meth c s₁ B hml hv
  obtain ⟨rfl, hsz, hP, hK, hD0, hN, hEx⟩ := hv
  have hts0 := atoms_spec (ws := .code y cc maxL ret :: GW) B.pre
  have hown : s.vm.findClass y.cls = some m.cls := findClass_of_methodNamed B.named
  subst hsz
  have hl := lv_entry av (n := maxL) hsl
  rw [lg_entry_eq]
  exact body p e s m below meth c _ _ ⟨B.exec, B.bytes, hml, ho ▸ hown, fun w h => hts0 w (List.mem_cons_of_mem _ h), hK, hN⟩ ⟨hP, hD0.self, va_S.rf, fun q h => Or.inr h⟩ hl B.returns B.notSynchronized hEx
/-- a callee's words -/
def YV (y : MethodName) (C : String) (bytes : ByteArray) (maxL : Nat) (ret : Option FieldType) (n : Nat) : Prop :=
  Cond.instanceMethod y ∈ GW ∧ Cond.selects C y y ∈ GW ∧ Cond.initialized C ∈ GW ∧ Cond.code y bytes maxL ret ∈ GW ∧ (y.cls = C ∧ y.cls ≠ "java/lang/invoke/MethodHandle" ∧ y.cls ≠ "java/lang/invoke/VarHandle" ∧ (parseMethodDescriptor y.desc).map (fun d => d.parameters.length) = some n)
def YS (y : MethodName) (C : String) (bytes : ByteArray) (maxL : Nat) (ret : Option FieldType) (n : Nat) : Prop :=
  Cond.static y ∈ GW ∧ Cond.initialized C ∈ GW ∧ Cond.code y bytes maxL ret ∈ GW ∧ (y.cls = C ∧ y.cls ≠ "java/lang/invoke/MethodHandle" ∧ y.cls ≠ "java/lang/invoke/VarHandle" ∧ (parseMethodDescriptor y.desc).map (fun d => d.parameters.length) = some n)
theorem GW_good {ws : List Cond} (h : ∀ w ∈ ws, w ∈ GW) : GoodIn GW ws := fun w hw => ⟨h w hw, good_of_word (List.all_eq_true.mp GW_gd w (h w hw))⟩
theorem gwV {own C : String} {index maxL : Nat} {y : MethodName} {bytes : ByteArray} {ret : Option FieldType} (h1 : Cond.methodLink own index y ∈ GW) (h2 : Cond.instanceMethod y ∈ GW) (h3 : Cond.selects C y y ∈ GW) (h4 : Cond.initialized C ∈ GW) (h5 : Cond.code y bytes maxL ret ∈ GW) : GoodIn GW (wsV own index C y (.code y bytes maxL ret :: GW)) := by
  refine GW_good fun w hw => ?_
  rcases List.mem_append.mp hw with h | h
  · simp only [List.mem_cons, List.not_mem_nil, or_false] at h
    rcases h with rfl | rfl | rfl | rfl
    · exact h1
    · exact h2
    · exact h3
    · exact h4
  · rcases List.mem_cons.mp h with rfl | h
    · exact h5
    · exact h
theorem gwS {own C : String} {index maxL : Nat} {y : MethodName} {bytes : ByteArray} {ret : Option FieldType} (hC : y.cls = C) (h1 : Cond.methodLink own index y ∈ GW) (h2 : Cond.static y ∈ GW) (h4 : Cond.initialized C ∈ GW) (h5 : Cond.code y bytes maxL ret ∈ GW) : GoodIn GW (va_wsS own index y (.code y bytes maxL ret :: GW)) := by
  refine GW_good fun w hw => ?_
  rcases List.mem_append.mp hw with h | h
  · simp only [List.mem_cons, List.not_mem_nil, or_false] at h
    rcases h with rfl | rfl | rfl
    · exact h1
    · exact h2
    · rw [hC]; exact h4
  · rcases List.mem_cons.mp h with rfl | h
    · exact h5
    · exact h
section LIB
variable {p : Program} {l : Launch} {e : Env} {R : Room} {s : State} {m : MethodId} {args : Array Value} {below : List Frame} {meth : Method} {c : Code} {H : Heap} {locs : List Loc} {cells slots : Nat} {Q : State → Prop}
variable {cc : ByteArray} {pc : Nat} {ls : Array Slot} {rest st0 : List Value} {A : Nat → Prop} {H0 : Heap} {own : String} {nL : Nat} {G : GP}
theorem rI (E : EN p c cc s m args own nL G) (hr : meth.sig.returnType = some .int) (hlk : meth.locks = false) {w' : va_W} (hw : HB G A s.heap w' H locs) {v r : Int32} (hv : v = r) (hdg : decode cc pc = .ok (.ireturn, 1)) : W p l e R s m args below meth c H locs 0 0 (MQ below (QI G A w' r) args s 0 0 A) (F0 m pc ls [.int v]) :=
  W.iret E.1 E.2.1 hr (fun t ht hW => ⟨⟨v, (), rfl, hv, by rw [ht]; exact hw.1, hw.2.1⟩, hw.2.2.1.F ht⟩) hw.2.2.1.2.2 hdg hlk
theorem rZ (E : EN p c cc s m args own nL G) (hr : meth.sig.returnType = some .boolean) (hlk : meth.locks = false) {w' : va_W} (hw : HB G A s.heap w' H locs) {v r : Int32} (hv : v = r) (hn : narrow .boolean (.int v) = .int v) (hdg : decode cc pc = .ok (.ireturn, 1)) : W p l e R s m args below meth c H locs 0 0 (MQ below (QI G A w' r) args s 0 0 A) (F0 m pc ls [.int v]) :=
  W.zret E.1 E.2.1 hr hn (fun t ht hW => ⟨⟨v, (), rfl, hv, by rw [ht]; exact hw.1, hw.2.1⟩, hw.2.2.1.F ht⟩) hw.2.2.1.2.2 hdg hlk
theorem rV (E : EN p c cc s m args own nL G) (hr : meth.sig.returnType = none) (hlk : meth.locks = false) {w' : va_W} (hw : HB G A s.heap w' H locs) (hdg : decode cc pc = .ok (.return_, 1)) : W p l e R s m args below meth c H locs 0 0 (MQ below (QV G A w') args s 0 0 A) (F0 m pc ls []) :=
  W.vret E.1 E.2.1 hr (fun t ht hW => ⟨⟨(), rfl, trivial, by rw [ht]; exact hw.1, hw.2.1⟩, hw.2.2.1.F ht⟩) hw.2.2.1.2.2 hdg hlk
variable {y : MethodName} {bytes : ByteArray} {maxL index n : Nat} {ret : Option FieldType} {rm : Room} {C : String} {b : Addr} {As : List Value} {Ex : State → Prop} {big big' w w' rr : va_W} {r : Int32} {lv : List (Nat × Value)}
theorem callVIp (E : EN p c cc s m args own nL G) (hM : MI l y (.code y bytes maxL ret :: GW) rm (.ref b :: As) G Ex w w' r) (hEb : EB Ex) (hEx : ∀ U : State, U.heap = H → s.WarmedH U.vm → Ex U) (h1 : Cond.methodLink own index y ∈ GW) (hY : YV y C bytes maxL ret n)
    (hrm : rm.cells = 0 ∧ rm.slots = 0) (hR : rm.frames + 1 ≤ R.frames ∧ 8 + (maxL + 11) + rm.locals ≤ R.locals) (hcs : cells ≤ R.cells ∧ slots ≤ R.slots) (hw : HB G A H0 big H locs) (hp : (w ++ rr).Perm big) (hp' : (w' ++ rr).Perm big')
    (q0 : Nat) {ci : Nat} {fs : List Value} {T : u_T} {N : Nat} (he : w[q0]? = some (b, .inr (ci, fs))) (hc : vwCl[ci]? = some (C, T, N)) (hn : As.length = n) (hl : lv_has ls nL lv) (hst : st0 = As.reverse ++ .ref b :: rest) (hcat : (rest.map fun v => v.category).sum ≤ 8)
    (hdg : decode cc pc = .ok (.invokevirtual index, 3)) (kk : ∀ (H1 : Heap) (locs1 : List Loc), HB G A H0 big' H1 locs1 → W p l e R s m args below meth c H1 locs1 cells slots Q (F0 m (pc + 3) ls (.int r :: rest))) : W p l e R s m args below meth c H locs cells slots Q (F0 m pc ls st0) := by
  obtain ⟨hx, hb, hml, hown, hts, hK, hN⟩ := E
  obtain ⟨hP, hDt, hF⟩ := hw.cut hp
  obtain ⟨g2, g3, g4, g5, g6⟩ := hY
  refine va_calli (va_runV (As := As) (rest := rest) (g := F0 m pc ls st0) (cells := cells) (slots := slots) ⟨hx, hb, hml, hown, hts⟩ (hM H.size) (cwV n hts (gwV h1 g2 g3 g4 g5) rfl hrm.1 hrm.2 g6 hR) ⟨PW.blind hEb, va_recv hK hP hc he, fun U hU hW => ⟨rfl, by rw [hU], by rw [hU]; exact hP, va_K.moved hW.alike hK, hDt, hN.warm hW, hEx U hU hW⟩⟩ rfl hn hl.1 hst (lv_room hcat) hdg hcs) hw.2.2.1 (fun q _ h => hF q h) hF (fun r' u t H1 locs1 ht hvm hpost hB hz hk hS => ?_)
  subst hpost
  exact kk H1 locs1 (hw.glue hp hp' hk (ht ▸ hB.1) hB.2 hS)
theorem callVVp (E : EN p c cc s m args own nL G) (hM : MV l y (.code y bytes maxL ret :: GW) rm (.ref b :: As) G Ex w w') (hEb : EB Ex) (hEx : ∀ U : State, U.heap = H → s.WarmedH U.vm → Ex U) (h1 : Cond.methodLink own index y ∈ GW) (hY : YV y C bytes maxL ret n)
    (hrm : rm.cells = 0 ∧ rm.slots = 0) (hR : rm.frames + 1 ≤ R.frames ∧ 8 + (maxL + 11) + rm.locals ≤ R.locals) (hcs : cells ≤ R.cells ∧ slots ≤ R.slots) (hw : HB G A H0 big H locs) (hp : (w ++ rr).Perm big) (hp' : (w' ++ rr).Perm big')
    (q0 : Nat) {ci : Nat} {fs : List Value} {T : u_T} {N : Nat} (he : w[q0]? = some (b, .inr (ci, fs))) (hc : vwCl[ci]? = some (C, T, N)) (hn : As.length = n) (hl : lv_has ls nL lv) (hst : st0 = As.reverse ++ .ref b :: rest) (hcat : (rest.map fun v => v.category).sum ≤ 8)
    (hdg : decode cc pc = .ok (.invokevirtual index, 3)) (kk : ∀ (H1 : Heap) (locs1 : List Loc), HB G A H0 big' H1 locs1 → W p l e R s m args below meth c H1 locs1 cells slots Q (F0 m (pc + 3) ls rest)) : W p l e R s m args below meth c H locs cells slots Q (F0 m pc ls st0) := by
  obtain ⟨hx, hb, hml, hown, hts, hK, hN⟩ := E
  obtain ⟨hP, hDt, hF⟩ := hw.cut hp
  obtain ⟨g2, g3, g4, g5, g6⟩ := hY
  refine va_callv (va_runV (As := As) (rest := rest) (g := F0 m pc ls st0) (cells := cells) (slots := slots) ⟨hx, hb, hml, hown, hts⟩ (hM H.size) (cwV n hts (gwV h1 g2 g3 g4 g5) rfl hrm.1 hrm.2 g6 hR) ⟨PW.blind hEb, va_recv hK hP hc he, fun U hU hW => ⟨rfl, by rw [hU], by rw [hU]; exact hP, va_K.moved hW.alike hK, hDt, hN.warm hW, hEx U hU hW⟩⟩ rfl hn hl.1 hst (lv_room hcat) hdg hcs) hw.2.2.1 (fun q _ h => hF q h) hF (fun u t H1 locs1 ht hvm hpost hB hz hk hS => ?_)
  exact kk H1 locs1 (hw.glue hp hp' hk (ht ▸ hB.1) hB.2 hS)
theorem callVI (E : EN p c cc s m args own nL G) (hM : MI l y (.code y bytes maxL ret :: GW) rm (.ref b :: As) G ES w w' r) (h1 : Cond.methodLink own index y ∈ GW) (hY : YV y C bytes maxL ret n)
    (hrm : rm.cells = 0 ∧ rm.slots = 0) (hR : rm.frames + 1 ≤ R.frames ∧ 8 + (maxL + 11) + rm.locals ≤ R.locals) (hcs : cells ≤ R.cells ∧ slots ≤ R.slots) (hw : HB G A H0 w H locs)
    (q0 : Nat) {ci : Nat} {fs : List Value} {T : u_T} {N : Nat} (he : w[q0]? = some (b, .inr (ci, fs))) (hc : vwCl[ci]? = some (C, T, N)) (hn : As.length = n) (hl : lv_has ls nL lv) (hst : st0 = As.reverse ++ .ref b :: rest) (hcat : (rest.map fun v => v.category).sum ≤ 8)
    (hdg : decode cc pc = .ok (.invokevirtual index, 3)) (kk : ∀ (H1 : Heap) (locs1 : List Loc), HB G A H0 w' H1 locs1 → W p l e R s m args below meth c H1 locs1 cells slots Q (F0 m (pc + 3) ls (.int r :: rest))) : W p l e R s m args below meth c H locs cells slots Q (F0 m pc ls st0) :=
  callVIp E hM ES.eb (fun _ _ _ => trivial) h1 hY hrm hR hcs hw (rr := []) (by rw [List.append_nil]) (by rw [List.append_nil]) q0 he hc hn hl hst hcat hdg kk
theorem callVV (E : EN p c cc s m args own nL G) (hM : MV l y (.code y bytes maxL ret :: GW) rm (.ref b :: As) G ES w w') (h1 : Cond.methodLink own index y ∈ GW) (hY : YV y C bytes maxL ret n)
    (hrm : rm.cells = 0 ∧ rm.slots = 0) (hR : rm.frames + 1 ≤ R.frames ∧ 8 + (maxL + 11) + rm.locals ≤ R.locals) (hcs : cells ≤ R.cells ∧ slots ≤ R.slots) (hw : HB G A H0 w H locs)
    (q0 : Nat) {ci : Nat} {fs : List Value} {T : u_T} {N : Nat} (he : w[q0]? = some (b, .inr (ci, fs))) (hc : vwCl[ci]? = some (C, T, N)) (hn : As.length = n) (hl : lv_has ls nL lv) (hst : st0 = As.reverse ++ .ref b :: rest) (hcat : (rest.map fun v => v.category).sum ≤ 8)
    (hdg : decode cc pc = .ok (.invokevirtual index, 3)) (kk : ∀ (H1 : Heap) (locs1 : List Loc), HB G A H0 w' H1 locs1 → W p l e R s m args below meth c H1 locs1 cells slots Q (F0 m (pc + 3) ls rest)) : W p l e R s m args below meth c H locs cells slots Q (F0 m pc ls st0) :=
  callVVp E hM ES.eb (fun _ _ _ => trivial) h1 hY hrm hR hcs hw (rr := []) (by rw [List.append_nil]) (by rw [List.append_nil]) q0 he hc hn hl hst hcat hdg kk
/-- a static method of the own class, over any cells (mostly none) -/
theorem callSI (E : EN p c cc s m args own nL G) (hM : MI l y (.code y bytes maxL ret :: GW) rm As G ES w w' r) (h1 : Cond.methodLink own index y ∈ GW) (hY : YS y C bytes maxL ret n)
    (hrm : rm.cells = 0 ∧ rm.slots = 0) (hR : rm.frames + 1 ≤ R.frames ∧ 8 + (maxL + 11) + rm.locals ≤ R.locals) (hcs : cells ≤ R.cells ∧ slots ≤ R.slots) (hw : HB G A H0 big H locs) (hp : (w ++ rr).Perm big) (hp' : (w' ++ rr).Perm big')
    (hn : As.length = n) (hl : lv_has ls nL lv) (hst : st0 = As.reverse ++ rest) (hcat : (rest.map fun v => v.category).sum ≤ 8)
    (hdg : decode cc pc = .ok (.invokestatic index, 3)) (kk : ∀ (H1 : Heap) (locs1 : List Loc), HB G A H0 big' H1 locs1 → W p l e R s m args below meth c H1 locs1 cells slots Q (F0 m (pc + 3) ls (.int r :: rest))) : W p l e R s m args below meth c H locs cells slots Q (F0 m pc ls st0) := by
  obtain ⟨hx, hb, hml, hown, hts, hK, hN⟩ := E
  obtain ⟨hP, hDt, hF⟩ := hw.cut hp
  obtain ⟨g2, g4, g5, g6⟩ := hY
  refine va_calli (va_runS (As := As) (rest := rest) (g := F0 m pc ls st0) (cells := cells) (slots := slots) ⟨hx, hb, hml, hown, hts⟩ (hM H.size) (va_cwS n hts (gwS g6.1 h1 g2 g4 g5) rfl hrm.1 hrm.2 g6.2 hR) ⟨PW.blind ES.eb, fun U hU hW => ⟨rfl, by rw [hU], by rw [hU]; exact hP, va_K.moved hW.alike hK, hDt, hN.warm hW, trivial⟩⟩ rfl hn hl.1 hst (lv_room hcat) hdg hcs) hw.2.2.1 (fun q _ h => hF q h) hF (fun r' u t H1 locs1 ht hvm hpost hB hz hk hS => ?_)
  subst hpost
  exact kk H1 locs1 (hw.glue hp hp' hk (ht ▸ hB.1) hB.2 hS)
/-- a private static method of a nest mate -/
theorem callSNI {host : String} (E : EN p c cc s m args own nL G) (hM : MI l y (.code y bytes maxL ret :: GW) rm As G ES w w' r) (h1 : va_Nw (.methodLinkNest own index y host) s) (hY : YS y C bytes maxL ret n)
    (hrm : rm.cells = 0 ∧ rm.slots = 0) (hR : rm.frames + 1 ≤ R.frames ∧ 8 + (maxL + 11) + rm.locals ≤ R.locals) (hcs : cells ≤ R.cells ∧ slots ≤ R.slots) (hw : HB G A H0 big H locs) (hp : (w ++ rr).Perm big) (hp' : (w' ++ rr).Perm big')
    (hn : As.length = n) (hl : lv_has ls nL lv) (hst : st0 = As.reverse ++ rest) (hcat : (rest.map fun v => v.category).sum ≤ 8)
    (hdg : decode cc pc = .ok (.invokestatic index, 3)) (kk : ∀ (H1 : Heap) (locs1 : List Loc), HB G A H0 big' H1 locs1 → W p l e R s m args below meth c H1 locs1 cells slots Q (F0 m (pc + 3) ls (.int r :: rest))) : W p l e R s m args below meth c H locs cells slots Q (F0 m pc ls st0) := by
  obtain ⟨hx, hb, hml, hown, hts, hK, hN⟩ := E
  obtain ⟨hP, hDt, hF⟩ := hw.cut hp
  obtain ⟨g2, g4, g5, g6⟩ := hY
  have hG : GoodIn GW (.code y bytes maxL ret :: GW) := GW_good fun w hw => (List.mem_cons.mp hw).elim (fun e => e ▸ g5) id
  refine va_calli (va_runSN (As := As) (rest := rest) (g := F0 m pc ls st0) (cells := cells) (slots := slots) ⟨hx, hb, hml, hown, hts⟩ (hM H.size) ⟨va_cnB n hts hG rfl hrm.1 hrm.2 h1 (hts _ (g6.1 ▸ g4)) g6.2 hR, hts _ g2, trivial⟩ ⟨PW.blind ES.eb, fun U hU hW => ⟨rfl, by rw [hU], by rw [hU]; exact hP, va_K.moved hW.alike hK, hDt, hN.warm hW, trivial⟩⟩ rfl hn hl.1 hst (lv_room hcat) hdg hcs) hw.2.2.1 (fun q _ h => hF q h) hF (fun r' u t H1 locs1 ht hvm hpost hB hz hk hS => ?_)
  subst hpost
  exact kk H1 locs1 (hw.glue hp hp' hk (ht ▸ hB.1) hB.2 hS)
end LIB
end
section
/-! ===== my own rows: numbers, branches, the worlds of the two systems ===== -/
def zb (P : Prop) [Decidable P] : Int32 := if P then 1 else 0
theorem zb_t {P : Prop} [Decidable P] (h : P) : zb P = 1 := if_pos h
theorem zb_f {P : Prop} [Decidable P] (h : ¬ P) : zb P = 0 := if_neg h
theorem zb_nar (P : Prop) [Decidable P] : narrow .boolean (.int (zb P)) = .int (zb P) := by
  by_cases h : P
  · rw [zb_t h]; rfl
  · rw [zb_f h]; rfl
theorem zb_ne {P : Prop} [Decidable P] : zb P = 0 ↔ ¬ P := by
  by_cases h : P
  · rw [zb_t h]; exact ⟨fun q => absurd q (by decide), fun q => absurd h q⟩
  · rw [zb_f h]; exact ⟨fun _ => h, fun _ => rfl⟩
theorem HB.eq {G : GP} {A : Nat → Prop} {H0 : Heap} {w w' : va_W} {H : Heap} {locs : List Loc} (h : HB G A H0 w H locs) (he : w = w') : HB G A H0 w' H locs := he ▸ h
section LIB2
variable {p : Program} {l : Launch} {e : Env} {R : Room} {s : State} {m : MethodId} {args : Array Value} {below : List Frame} {meth : Method} {c : Code} {H : Heap} {locs : List Loc} {cells slots : Nat} {Q : State → Prop}
variable {cc : ByteArray} {pc : Nat} {ls : Array Slot} {rest st0 : List Value} {A : Nat → Prop} {H0 : Heap} {own : String} {nL : Nat} {G : GP}
theorem lv_eqi {x y : Int32} (h : x = y) (k : W p l e R s m args below meth c H locs cells slots Q (F0 m pc ls (.int y :: rest))) : W p l e R s m args below meth c H locs cells slots Q (F0 m pc ls (.int x :: rest)) := h ▸ k
theorem lv_addN (hx : p.tables.exec = Jvm.exec) (hb : c.code = cc) {a b : Nat} (hdg : decode cc pc = .ok (.iadd, 1)) (k : W p l e R s m args below meth c H locs cells slots Q (F0 m (pc + 1) ls (.int (nI (a + b)) :: rest))) : W p l e R s m args below meth c H locs cells slots Q (F0 m pc ls (.int (nI b) :: .int (nI a) :: rest)) :=
  lv_iadd hx hb hdg (by rw [nI_add]; exact k)
theorem lv_mulN (hx : p.tables.exec = Jvm.exec) (hb : c.code = cc) {a b : Nat} (hdg : decode cc pc = .ok (.imul, 1)) (k : W p l e R s m args below meth c H locs cells slots Q (F0 m (pc + 1) ls (.int (nI (a * b)) :: rest))) : W p l e R s m args below meth c H locs cells slots Q (F0 m pc ls (.int (nI b) :: .int (nI a) :: rest)) :=
  lv_imul hx hb hdg (by rw [pk_mul]; exact k)
theorem lv_subN (hx : p.tables.exec = Jvm.exec) (hb : c.code = cc) {a b : Nat} (h : b ≤ a) (hdg : decode cc pc = .ok (.isub, 1)) (k : W p l e R s m args below meth c H locs cells slots Q (F0 m (pc + 1) ls (.int (nI (a - b)) :: rest))) : W p l e R s m args below meth c H locs cells slots Q (F0 m pc ls (.int (nI b) :: .int (nI a) :: rest)) :=
  lv_isub hx hb hdg (by rw [pk_sub h]; exact k)
theorem nI_eq0 {a : Nat} (h : a < 2 ^ 31) : nI a = 0 ↔ a = 0 := nI_eq (b := 0) h (by decide)
theorem lv_icmp_ltN (hx : p.tables.exec = Jvm.exec) (hb : c.code = cc) {a b : Nat} (ha : a < 2 ^ 31) (hb2 : b < 2 ^ 31) {off : Int} {tgt : Nat} (hdg : decode cc pc = .ok (.if_icmp .lt off, 3)) (ht : (pc : Int) + off = (tgt : Int))
    (kt : a < b → W p l e R s m args below meth c H locs cells slots Q (F0 m tgt ls rest)) (kf : ¬ a < b → W p l e R s m args below meth c H locs cells slots Q (F0 m (pc + 3) ls rest)) : W p l e R s m args below meth c H locs cells slots Q (F0 m pc ls (.int (nI b) :: .int (nI a) :: rest)) :=
  lv_icmp_lt hx hb hdg ht (fun q => kt ((nI_ltI ha hb2).mp q)) (fun q => kf (fun z => q ((nI_ltI ha hb2).mpr z)))
theorem lv_icmp_leN (hx : p.tables.exec = Jvm.exec) (hb : c.code = cc) {a b : Nat} (ha : a < 2 ^ 31) (hb2 : b < 2 ^ 31) {off : Int} {tgt : Nat} (hdg : decode cc pc = .ok (.if_icmp .le off, 3)) (ht : (pc : Int) + off = (tgt : Int))
    (kt : a ≤ b → W p l e R s m args below meth c H locs cells slots Q (F0 m tgt ls rest)) (kf : ¬ a ≤ b → W p l e R s m args below meth c H locs cells slots Q (F0 m (pc + 3) ls rest)) : W p l e R s m args below meth c H locs cells slots Q (F0 m pc ls (.int (nI b) :: .int (nI a) :: rest)) :=
  lv_icmp_le hx hb hdg ht (fun q => kt ((nI_leI ha hb2).mp q)) (fun q => kf (fun z => q ((nI_leI ha hb2).mpr z)))
theorem lv_icmp_eqN (hx : p.tables.exec = Jvm.exec) (hb : c.code = cc) {a b : Nat} (ha : a < 2 ^ 31) (hb2 : b < 2 ^ 31) {off : Int} {tgt : Nat} (hdg : decode cc pc = .ok (.if_icmp .eq off, 3)) (ht : (pc : Int) + off = (tgt : Int))
    (kt : a = b → W p l e R s m args below meth c H locs cells slots Q (F0 m tgt ls rest)) (kf : ¬ a = b → W p l e R s m args below meth c H locs cells slots Q (F0 m (pc + 3) ls rest)) : W p l e R s m args below meth c H locs cells slots Q (F0 m pc ls (.int (nI b) :: .int (nI a) :: rest)) :=
  lv_icmp_eq hx hb hdg ht (fun q => kt ((nI_eq ha hb2).mp q)) (fun q => kf (fun z => q ((nI_eq ha hb2).mpr z)))
theorem lv_icmp_geN (hx : p.tables.exec = Jvm.exec) (hb : c.code = cc) {a b : Nat} (ha : a < 2 ^ 31) (hb2 : b < 2 ^ 31) {off : Int} {tgt : Nat} (hdg : decode cc pc = .ok (.if_icmp .ge off, 3)) (ht : (pc : Int) + off = (tgt : Int))
    (kt : b ≤ a → W p l e R s m args below meth c H locs cells slots Q (F0 m tgt ls rest)) (kf : ¬ b ≤ a → W p l e R s m args below meth c H locs cells slots Q (F0 m (pc + 3) ls rest)) : W p l e R s m args below meth c H locs cells slots Q (F0 m pc ls (.int (nI b) :: .int (nI a) :: rest)) :=
  lv_icmp_ge hx hb hdg ht (fun q => kt ((nI_leI hb2 ha).mp q)) (fun q => kf (fun z => q ((nI_leI hb2 ha).mpr z)))
theorem lv_icmp_gtN (hx : p.tables.exec = Jvm.exec) (hb : c.code = cc) {a b : Nat} (ha : a < 2 ^ 31) (hb2 : b < 2 ^ 31) {off : Int} {tgt : Nat} (hdg : decode cc pc = .ok (.if_icmp .gt off, 3)) (ht : (pc : Int) + off = (tgt : Int))
    (kt : b < a → W p l e R s m args below meth c H locs cells slots Q (F0 m tgt ls rest)) (kf : ¬ b < a → W p l e R s m args below meth c H locs cells slots Q (F0 m (pc + 3) ls rest)) : W p l e R s m args below meth c H locs cells slots Q (F0 m pc ls (.int (nI b) :: .int (nI a) :: rest)) :=
  lv_icmp_gt hx hb hdg ht (fun q => kt ((nI_ltI hb2 ha).mp q)) (fun q => kf (fun z => q ((nI_ltI hb2 ha).mpr z)))
theorem lv_icmp_neN (hx : p.tables.exec = Jvm.exec) (hb : c.code = cc) {a b : Nat} (ha : a < 2 ^ 31) (hb2 : b < 2 ^ 31) {off : Int} {tgt : Nat} (hdg : decode cc pc = .ok (.if_icmp .ne off, 3)) (ht : (pc : Int) + off = (tgt : Int))
    (kt : ¬ a = b → W p l e R s m args below meth c H locs cells slots Q (F0 m tgt ls rest)) (kf : a = b → W p l e R s m args below meth c H locs cells slots Q (F0 m (pc + 3) ls rest)) : W p l e R s m args below meth c H locs cells slots Q (F0 m pc ls (.int (nI b) :: .int (nI a) :: rest)) :=
  lv_icmp_ne hx hb hdg ht (fun q => kt (fun z => q (by rw [z]))) (fun q => kf ((nI_eq ha hb2).mp q))
theorem lv_if_eqB (hx : p.tables.exec = Jvm.exec) (hb : c.code = cc) {P : Prop} [Decidable P] {off : Int} {tgt : Nat} (hdg : decode cc pc = .ok (.ifCond .eq off, 3)) (ht : (pc : Int) + off = (tgt : Int))
    (kt : ¬ P → W p l e R s m args below meth c H locs cells slots Q (F0 m tgt ls rest)) (kf : P → W p l e R s m args below meth c H locs cells slots Q (F0 m (pc + 3) ls rest)) : W p l e R s m args below meth c H locs cells slots Q (F0 m pc ls (.int (zb P) :: rest)) :=
  lv_if_eq hx hb hdg ht (fun q => kt (zb_ne.mp q)) (fun q => kf (Classical.not_not.mp (fun z => q (zb_ne.mpr z))))
theorem lv_if_neB (hx : p.tables.exec = Jvm.exec) (hb : c.code = cc) {P : Prop} [Decidable P] {off : Int} {tgt : Nat} (hdg : decode cc pc = .ok (.ifCond .ne off, 3)) (ht : (pc : Int) + off = (tgt : Int))
    (kt : P → W p l e R s m args below meth c H locs cells slots Q (F0 m tgt ls rest)) (kf : ¬ P → W p l e R s m args below meth c H locs cells slots Q (F0 m (pc + 3) ls rest)) : W p l e R s m args below meth c H locs cells slots Q (F0 m pc ls (.int (zb P) :: rest)) :=
  lv_if_ne hx hb hdg ht (fun q => kt (Classical.not_not.mp (fun z => q (zb_ne.mpr z)))) (fun q => kf (zb_ne.mp q))
theorem lv_iincN (hx : p.tables.exec = Jvm.exec) (hb : c.code = cc) {i k a : Nat} {lv lv' : List (Nat × Value)} (hdg : decode cc pc = .ok (.iinc i 1, 3)) (h : lv_has ls nL lv) (hk : lv[k]? = some (i, .int (nI a))) (hn : i < nL) (hl : (i, Value.int (nI (a + 1))) :: lv.filter (fun q => !(q.1 == i) && !(q.1 + 1 == i && q.2.category == 2)) = lv')
    (kk : ∀ ls' : Array Slot, lv_has ls' nL lv' → W p l e R s m args below meth c H locs cells slots Q (F0 m (pc + 3) ls' rest)) : W p l e R s m args below meth c H locs cells slots Q (F0 m pc ls rest) :=
  lv_iinc (v := nI (a + 1)) hx hb hdg h hk (by rw [← nI_1]; rfl) hn hl kk
end LIB2
abbrev MX : Type := (Nat → Int32) × (Nat → Nat → Int32)
def sx (x : MX) (i : Nat) (v : Int32) : MX := (upd x.1 i v, x.2)
def ax (x : MX) (i : Nat) (f : Nat → Int32) : MX := (x.1, va_up x.2 i f)
/-- the model's cells: now n; 0 undos 1 signs 2 isInText 3 read 4 place 5 isWrong; 0 kept 1 history 2 saved 3 isSaved 4 pad 5 orders -/
def mW (G : GP) (a : Nat → Nat) (n : Nat → Int32) (x : MX) : va_W := [(a 0, .inr (4, [.ref (a 1), .ref (a 2), .ref (a 3), .int (x.1 0), .ref (a 4), .ref (a 5), .ref (a 6), .int (x.1 1), .int (x.1 2), .ref (a 7), .int (x.1 3), .int (x.1 4), .int (x.1 5)])), (a 1, .inl (G.2 0, 390, .inl n)), (a 2, .inl (G.2 0, 390, .inl (x.2 0))), (a 3, .inl (G.2 0, 2340, .inl (x.2 1))), (a 4, .inl (G.2 0, 780, .inl (x.2 2))), (a 5, .inl (G.2 2, 2, .inl (x.2 3))), (a 6, .inl (G.2 0, 60, .inl (x.2 4))), (a 7, .inl (G.2 0, 180, .inl (x.2 5)))]
/-- a State's cells: 0 tick 1 illOnes 2 unwillingOnes 3 deals 4 length 5 lost; 0 settings 1 parts 2 deliveredTo 3 sentBy 4 clerksOf 5 forBetween 6 openedIn 7 postSince 8 votes 9 receipts 10 standing 11 readySince -/
def sX (G : GP) (a : Nat → Nat) (i : Nat → Int32) (f : Nat → Nat → Int32) : va_W := [(a 0, .inr (2, [.int (i 0), .int (i 1), .int (i 2), .int (i 3), .ref (a 1), .ref (a 2), .ref (a 6), .ref (a 7), .ref (a 8), .ref (a 9), .ref (a 10), .ref (a 11), .ref (a 12), .ref (a 13)])), (a 1, .inl (G.2 0, 4, .inl (f 0))), (a 2, .inr (1, [.int (i 4), .int (i 5), .ref (a 3), .ref (a 4), .ref (a 5)])), (a 3, .inl (G.2 0, 240, .inl (f 1))), (a 4, .inl (G.2 0, 5, .inl (f 2))), (a 5, .inl (G.2 0, 5, .inl (f 3))), (a 6, .inl (G.2 0, 8, .inl (f 4))), (a 7, .inl (G.2 0, 8, .inl (f 5))), (a 8, .inl (G.2 0, 8, .inl (f 6))), (a 9, .inl (G.2 0, 8, .inl (f 7))), (a 10, .inl (G.2 0, 8, .inl (f 8))), (a 11, .inl (G.2 0, 8, .inl (f 9))), (a 12, .inl (G.2 0, 32, .inl (f 10))), (a 13, .inl (G.2 0, 32, .inl (f 11)))]
/-- the reader's cell: 0 expected 1 letter 2 value 3 willingness -/
def oW (q : Nat) (v : Nat → Int32) : va_W := [(q, .inr (0, [.int (v 0), .int (v 1), .int (v 2), .int (v 3)]))]
section LIB3
variable {p : Program} {l : Launch} {e : Env} {R : Room} {s : State} {m : MethodId} {args : Array Value} {below : List Frame} {meth : Method} {c : Code} {H : Heap} {locs : List Loc} {cells slots : Nat} {Q : State → Prop}
variable {cc : ByteArray} {pc : Nat} {ls : Array Slot} {rest st0 : List Value} {A : Nat → Prop} {H0 : Heap} {own : String} {nL : Nat} {G : GP} {a : Nat → Nat} {n : Nat → Int32} {x : MX} {i : Nat → Int32} {f : Nat → Nat → Int32} {q : Nat} {v : Nat → Int32} {index : Nat}
theorem gX4_0 (E : EN p c cc s m args own nL G) (hw : HB G A H0 (mW G a n x) H locs) (hl : Cond.fieldLink own index "ClerkVotesModel" "now" "[I" ∈ GW) (hdg : decode cc pc = .ok (.getfield index, 3)) (kk : W p l e R s m args below meth c H locs cells slots Q (F0 m (pc + 3) ls (.ref (a 1) :: rest))) : W p l e R s m args below meth c H locs cells slots Q (F0 m pc ls (.ref (a 0) :: rest)) :=
  va_get (T := TX4) (N := 13) (C := RX4) (ci := 4) E.1 E.2.1 E.2.2.2.2.1 inlX4 E.2.2.2.1 E.2.2.2.2.2.1 hw.1 0 rfl rfl 0 (by decide) (E.2.2.2.2.1 _ hl) (fun _ h => h) rfl hdg kk
theorem gX4_1 (E : EN p c cc s m args own nL G) (hw : HB G A H0 (mW G a n x) H locs) (hl : Cond.fieldLink own index "ClerkVotesModel" "kept" "[I" ∈ GW) (hdg : decode cc pc = .ok (.getfield index, 3)) (kk : W p l e R s m args below meth c H locs cells slots Q (F0 m (pc + 3) ls (.ref (a 2) :: rest))) : W p l e R s m args below meth c H locs cells slots Q (F0 m pc ls (.ref (a 0) :: rest)) :=
  va_get (T := TX4) (N := 13) (C := RX4) (ci := 4) E.1 E.2.1 E.2.2.2.2.1 inlX4 E.2.2.2.1 E.2.2.2.2.2.1 hw.1 0 rfl rfl 1 (by decide) (E.2.2.2.2.1 _ hl) (fun _ h => h) rfl hdg kk
theorem gX4_2 (E : EN p c cc s m args own nL G) (hw : HB G A H0 (mW G a n x) H locs) (hl : Cond.fieldLink own index "ClerkVotesModel" "history" "[I" ∈ GW) (hdg : decode cc pc = .ok (.getfield index, 3)) (kk : W p l e R s m args below meth c H locs cells slots Q (F0 m (pc + 3) ls (.ref (a 3) :: rest))) : W p l e R s m args below meth c H locs cells slots Q (F0 m pc ls (.ref (a 0) :: rest)) :=
  va_get (T := TX4) (N := 13) (C := RX4) (ci := 4) E.1 E.2.1 E.2.2.2.2.1 inlX4 E.2.2.2.1 E.2.2.2.2.2.1 hw.1 0 rfl rfl 2 (by decide) (E.2.2.2.2.1 _ hl) (fun _ h => h) rfl hdg kk
theorem gX4_3 (E : EN p c cc s m args own nL G) (hw : HB G A H0 (mW G a n x) H locs) (hl : Cond.fieldLink own index "ClerkVotesModel" "undos" "I" ∈ GW) (hdg : decode cc pc = .ok (.getfield index, 3)) (kk : W p l e R s m args below meth c H locs cells slots Q (F0 m (pc + 3) ls (.int (x.1 0) :: rest))) : W p l e R s m args below meth c H locs cells slots Q (F0 m pc ls (.ref (a 0) :: rest)) :=
  va_get (T := TX4) (N := 13) (C := RX4) (ci := 4) E.1 E.2.1 E.2.2.2.2.1 inlX4 E.2.2.2.1 E.2.2.2.2.2.1 hw.1 0 rfl rfl 3 (by decide) (E.2.2.2.2.1 _ hl) (fun _ h => h) rfl hdg kk
theorem gX4_4 (E : EN p c cc s m args own nL G) (hw : HB G A H0 (mW G a n x) H locs) (hl : Cond.fieldLink own index "ClerkVotesModel" "saved" "[I" ∈ GW) (hdg : decode cc pc = .ok (.getfield index, 3)) (kk : W p l e R s m args below meth c H locs cells slots Q (F0 m (pc + 3) ls (.ref (a 4) :: rest))) : W p l e R s m args below meth c H locs cells slots Q (F0 m pc ls (.ref (a 0) :: rest)) :=
  va_get (T := TX4) (N := 13) (C := RX4) (ci := 4) E.1 E.2.1 E.2.2.2.2.1 inlX4 E.2.2.2.1 E.2.2.2.2.2.1 hw.1 0 rfl rfl 4 (by decide) (E.2.2.2.2.1 _ hl) (fun _ h => h) rfl hdg kk
theorem gX4_5 (E : EN p c cc s m args own nL G) (hw : HB G A H0 (mW G a n x) H locs) (hl : Cond.fieldLink own index "ClerkVotesModel" "isSaved" "[Z" ∈ GW) (hdg : decode cc pc = .ok (.getfield index, 3)) (kk : W p l e R s m args below meth c H locs cells slots Q (F0 m (pc + 3) ls (.ref (a 5) :: rest))) : W p l e R s m args below meth c H locs cells slots Q (F0 m pc ls (.ref (a 0) :: rest)) :=
  va_get (T := TX4) (N := 13) (C := RX4) (ci := 4) E.1 E.2.1 E.2.2.2.2.1 inlX4 E.2.2.2.1 E.2.2.2.2.2.1 hw.1 0 rfl rfl 5 (by decide) (E.2.2.2.2.1 _ hl) (fun _ h => h) rfl hdg kk
theorem gX4_6 (E : EN p c cc s m args own nL G) (hw : HB G A H0 (mW G a n x) H locs) (hl : Cond.fieldLink own index "ClerkVotesModel" "pad" "[I" ∈ GW) (hdg : decode cc pc = .ok (.getfield index, 3)) (kk : W p l e R s m args below meth c H locs cells slots Q (F0 m (pc + 3) ls (.ref (a 6) :: rest))) : W p l e R s m args below meth c H locs cells slots Q (F0 m pc ls (.ref (a 0) :: rest)) :=
  va_get (T := TX4) (N := 13) (C := RX4) (ci := 4) E.1 E.2.1 E.2.2.2.2.1 inlX4 E.2.2.2.1 E.2.2.2.2.2.1 hw.1 0 rfl rfl 6 (by decide) (E.2.2.2.2.1 _ hl) (fun _ h => h) rfl hdg kk
theorem gX4_7 (E : EN p c cc s m args own nL G) (hw : HB G A H0 (mW G a n x) H locs) (hl : Cond.fieldLink own index "ClerkVotesModel" "signs" "I" ∈ GW) (hdg : decode cc pc = .ok (.getfield index, 3)) (kk : W p l e R s m args below meth c H locs cells slots Q (F0 m (pc + 3) ls (.int (x.1 1) :: rest))) : W p l e R s m args below meth c H locs cells slots Q (F0 m pc ls (.ref (a 0) :: rest)) :=
  va_get (T := TX4) (N := 13) (C := RX4) (ci := 4) E.1 E.2.1 E.2.2.2.2.1 inlX4 E.2.2.2.1 E.2.2.2.2.2.1 hw.1 0 rfl rfl 7 (by decide) (E.2.2.2.2.1 _ hl) (fun _ h => h) rfl hdg kk
theorem gX4_8 (E : EN p c cc s m args own nL G) (hw : HB G A H0 (mW G a n x) H locs) (hl : Cond.fieldLink own index "ClerkVotesModel" "isInText" "Z" ∈ GW) (hdg : decode cc pc = .ok (.getfield index, 3)) (kk : W p l e R s m args below meth c H locs cells slots Q (F0 m (pc + 3) ls (.int (x.1 2) :: rest))) : W p l e R s m args below meth c H locs cells slots Q (F0 m pc ls (.ref (a 0) :: rest)) :=
  va_get (T := TX4) (N := 13) (C := RX4) (ci := 4) E.1 E.2.1 E.2.2.2.2.1 inlX4 E.2.2.2.1 E.2.2.2.2.2.1 hw.1 0 rfl rfl 8 (by decide) (E.2.2.2.2.1 _ hl) (fun _ h => h) rfl hdg kk
theorem gX4_9 (E : EN p c cc s m args own nL G) (hw : HB G A H0 (mW G a n x) H locs) (hl : Cond.fieldLink own index "ClerkVotesModel" "orders" "[I" ∈ GW) (hdg : decode cc pc = .ok (.getfield index, 3)) (kk : W p l e R s m args below meth c H locs cells slots Q (F0 m (pc + 3) ls (.ref (a 7) :: rest))) : W p l e R s m args below meth c H locs cells slots Q (F0 m pc ls (.ref (a 0) :: rest)) :=
  va_get (T := TX4) (N := 13) (C := RX4) (ci := 4) E.1 E.2.1 E.2.2.2.2.1 inlX4 E.2.2.2.1 E.2.2.2.2.2.1 hw.1 0 rfl rfl 9 (by decide) (E.2.2.2.2.1 _ hl) (fun _ h => h) rfl hdg kk
theorem gX4_10 (E : EN p c cc s m args own nL G) (hw : HB G A H0 (mW G a n x) H locs) (hl : Cond.fieldLink own index "ClerkVotesModel" "read" "I" ∈ GW) (hdg : decode cc pc = .ok (.getfield index, 3)) (kk : W p l e R s m args below meth c H locs cells slots Q (F0 m (pc + 3) ls (.int (x.1 3) :: rest))) : W p l e R s m args below meth c H locs cells slots Q (F0 m pc ls (.ref (a 0) :: rest)) :=
  va_get (T := TX4) (N := 13) (C := RX4) (ci := 4) E.1 E.2.1 E.2.2.2.2.1 inlX4 E.2.2.2.1 E.2.2.2.2.2.1 hw.1 0 rfl rfl 10 (by decide) (E.2.2.2.2.1 _ hl) (fun _ h => h) rfl hdg kk
theorem gX4_11 (E : EN p c cc s m args own nL G) (hw : HB G A H0 (mW G a n x) H locs) (hl : Cond.fieldLink own index "ClerkVotesModel" "place" "I" ∈ GW) (hdg : decode cc pc = .ok (.getfield index, 3)) (kk : W p l e R s m args below meth c H locs cells slots Q (F0 m (pc + 3) ls (.int (x.1 4) :: rest))) : W p l e R s m args below meth c H locs cells slots Q (F0 m pc ls (.ref (a 0) :: rest)) :=
  va_get (T := TX4) (N := 13) (C := RX4) (ci := 4) E.1 E.2.1 E.2.2.2.2.1 inlX4 E.2.2.2.1 E.2.2.2.2.2.1 hw.1 0 rfl rfl 11 (by decide) (E.2.2.2.2.1 _ hl) (fun _ h => h) rfl hdg kk
theorem gX4_12 (E : EN p c cc s m args own nL G) (hw : HB G A H0 (mW G a n x) H locs) (hl : Cond.fieldLink own index "ClerkVotesModel" "isWrong" "Z" ∈ GW) (hdg : decode cc pc = .ok (.getfield index, 3)) (kk : W p l e R s m args below meth c H locs cells slots Q (F0 m (pc + 3) ls (.int (x.1 5) :: rest))) : W p l e R s m args below meth c H locs cells slots Q (F0 m pc ls (.ref (a 0) :: rest)) :=
  va_get (T := TX4) (N := 13) (C := RX4) (ci := 4) E.1 E.2.1 E.2.2.2.2.1 inlX4 E.2.2.2.1 E.2.2.2.2.2.1 hw.1 0 rfl rfl 12 (by decide) (E.2.2.2.2.1 _ hl) (fun _ h => h) rfl hdg kk
theorem pX4_3 (E : EN p c cc s m args own nL G) (hw : HB G A H0 (mW G a n x) H locs) (hl : Cond.fieldLink own index "ClerkVotesModel" "undos" "I" ∈ GW) {z : Int32} (hdg : decode cc pc = .ok (.putfield index, 3)) (kk : ∀ (H1 : Heap) (locs1 : List Loc), HB G A H0 (mW G a n (sx x 0 z)) H1 locs1 → W p l e R s m args below meth c H1 locs1 cells slots Q (F0 m (pc + 3) ls rest)) : W p l e R s m args below meth c H locs cells slots Q (F0 m pc ls (.int z :: .ref (a 0) :: rest)) :=
  va_put (T := TX4) (N := 13) (C := RX4) (ci := 4) (ty := .int) E.1 E.2.1 E.2.2.2.2.1 inlX4 tyX4 tyX4_ok nmX4 E.2.2.2.1 E.2.2.2.2.2.1 hw.1 hw.2.1 hw.2.2.1 0 rfl rfl 3 (by decide) (E.2.2.2.2.1 _ hl) (fun _ h => h) rfl (by decide +kernel) rfl rfl (Nat.le_of_ble_eq_true rfl) hdg (fun H1 locs1 hP hD hS => kk H1 locs1 ⟨hP, hD, hS, hw.2.2.2⟩)
theorem pX4_7 (E : EN p c cc s m args own nL G) (hw : HB G A H0 (mW G a n x) H locs) (hl : Cond.fieldLink own index "ClerkVotesModel" "signs" "I" ∈ GW) {z : Int32} (hdg : decode cc pc = .ok (.putfield index, 3)) (kk : ∀ (H1 : Heap) (locs1 : List Loc), HB G A H0 (mW G a n (sx x 1 z)) H1 locs1 → W p l e R s m args below meth c H1 locs1 cells slots Q (F0 m (pc + 3) ls rest)) : W p l e R s m args below meth c H locs cells slots Q (F0 m pc ls (.int z :: .ref (a 0) :: rest)) :=
  va_put (T := TX4) (N := 13) (C := RX4) (ci := 4) (ty := .int) E.1 E.2.1 E.2.2.2.2.1 inlX4 tyX4 tyX4_ok nmX4 E.2.2.2.1 E.2.2.2.2.2.1 hw.1 hw.2.1 hw.2.2.1 0 rfl rfl 7 (by decide) (E.2.2.2.2.1 _ hl) (fun _ h => h) rfl (by decide +kernel) rfl rfl (Nat.le_of_ble_eq_true rfl) hdg (fun H1 locs1 hP hD hS => kk H1 locs1 ⟨hP, hD, hS, hw.2.2.2⟩)
theorem pX4_8 (E : EN p c cc s m args own nL G) (hw : HB G A H0 (mW G a n x) H locs) (hl : Cond.fieldLink own index "ClerkVotesModel" "isInText" "Z" ∈ GW) {z : Int32} (hv : narrow .boolean (.int z) = .int z) (hf : fits .boolean (.int z) = true) (hdg : decode cc pc = .ok (.putfield index, 3)) (kk : ∀ (H1 : Heap) (locs1 : List Loc), HB G A H0 (mW G a n (sx x 2 z)) H1 locs1 → W p l e R s m args below meth c H1 locs1 cells slots Q (F0 m (pc + 3) ls rest)) : W p l e R s m args below meth c H locs cells slots Q (F0 m pc ls (.int z :: .ref (a 0) :: rest)) :=
  va_put (T := TX4) (N := 13) (C := RX4) (ci := 4) (ty := .boolean) E.1 E.2.1 E.2.2.2.2.1 inlX4 tyX4 tyX4_ok nmX4 E.2.2.2.1 E.2.2.2.2.2.1 hw.1 hw.2.1 hw.2.2.1 0 rfl rfl 8 (by decide) (E.2.2.2.2.1 _ hl) (fun _ h => h) rfl (by decide +kernel) hv hf (Nat.le_of_ble_eq_true rfl) hdg (fun H1 locs1 hP hD hS => kk H1 locs1 ⟨hP, hD, hS, hw.2.2.2⟩)
theorem pX4_10 (E : EN p c cc s m args own nL G) (hw : HB G A H0 (mW G a n x) H locs) (hl : Cond.fieldLink own index "ClerkVotesModel" "read" "I" ∈ GW) {z : Int32} (hdg : decode cc pc = .ok (.putfield index, 3)) (kk : ∀ (H1 : Heap) (locs1 : List Loc), HB G A H0 (mW G a n (sx x 3 z)) H1 locs1 → W p l e R s m args below meth c H1 locs1 cells slots Q (F0 m (pc + 3) ls rest)) : W p l e R s m args below meth c H locs cells slots Q (F0 m pc ls (.int z :: .ref (a 0) :: rest)) :=
  va_put (T := TX4) (N := 13) (C := RX4) (ci := 4) (ty := .int) E.1 E.2.1 E.2.2.2.2.1 inlX4 tyX4 tyX4_ok nmX4 E.2.2.2.1 E.2.2.2.2.2.1 hw.1 hw.2.1 hw.2.2.1 0 rfl rfl 10 (by decide) (E.2.2.2.2.1 _ hl) (fun _ h => h) rfl (by decide +kernel) rfl rfl (Nat.le_of_ble_eq_true rfl) hdg (fun H1 locs1 hP hD hS => kk H1 locs1 ⟨hP, hD, hS, hw.2.2.2⟩)
theorem pX4_11 (E : EN p c cc s m args own nL G) (hw : HB G A H0 (mW G a n x) H locs) (hl : Cond.fieldLink own index "ClerkVotesModel" "place" "I" ∈ GW) {z : Int32} (hdg : decode cc pc = .ok (.putfield index, 3)) (kk : ∀ (H1 : Heap) (locs1 : List Loc), HB G A H0 (mW G a n (sx x 4 z)) H1 locs1 → W p l e R s m args below meth c H1 locs1 cells slots Q (F0 m (pc + 3) ls rest)) : W p l e R s m args below meth c H locs cells slots Q (F0 m pc ls (.int z :: .ref (a 0) :: rest)) :=
  va_put (T := TX4) (N := 13) (C := RX4) (ci := 4) (ty := .int) E.1 E.2.1 E.2.2.2.2.1 inlX4 tyX4 tyX4_ok nmX4 E.2.2.2.1 E.2.2.2.2.2.1 hw.1 hw.2.1 hw.2.2.1 0 rfl rfl 11 (by decide) (E.2.2.2.2.1 _ hl) (fun _ h => h) rfl (by decide +kernel) rfl rfl (Nat.le_of_ble_eq_true rfl) hdg (fun H1 locs1 hP hD hS => kk H1 locs1 ⟨hP, hD, hS, hw.2.2.2⟩)
theorem pX4_12 (E : EN p c cc s m args own nL G) (hw : HB G A H0 (mW G a n x) H locs) (hl : Cond.fieldLink own index "ClerkVotesModel" "isWrong" "Z" ∈ GW) {z : Int32} (hv : narrow .boolean (.int z) = .int z) (hf : fits .boolean (.int z) = true) (hdg : decode cc pc = .ok (.putfield index, 3)) (kk : ∀ (H1 : Heap) (locs1 : List Loc), HB G A H0 (mW G a n (sx x 5 z)) H1 locs1 → W p l e R s m args below meth c H1 locs1 cells slots Q (F0 m (pc + 3) ls rest)) : W p l e R s m args below meth c H locs cells slots Q (F0 m pc ls (.int z :: .ref (a 0) :: rest)) :=
  va_put (T := TX4) (N := 13) (C := RX4) (ci := 4) (ty := .boolean) E.1 E.2.1 E.2.2.2.2.1 inlX4 tyX4 tyX4_ok nmX4 E.2.2.2.1 E.2.2.2.2.2.1 hw.1 hw.2.1 hw.2.2.1 0 rfl rfl 12 (by decide) (E.2.2.2.2.1 _ hl) (fun _ h => h) rfl (by decide +kernel) hv hf (Nat.le_of_ble_eq_true rfl) hdg (fun H1 locs1 hP hD hS => kk H1 locs1 ⟨hP, hD, hS, hw.2.2.2⟩)
theorem lX4_0 (E : EN p c cc s m args own nL G) (hw : HB G A H0 (mW G a n x) H locs) {j : Nat} (hj : j < 390) (hdg : decode cc pc = .ok (.iaload, 1)) (kk : W p l e R s m args below meth c H locs cells slots Q (F0 m (pc + 1) ls (.int (n j) :: rest))) : W p l e R s m args below meth c H locs cells slots Q (F0 m pc ls (.int (nI j) :: .ref (a 1) :: rest)) :=
  va_iald E.1 E.2.1 E.2.2.2.2.2.1 hw.1 1 0 rfl rfl (vp_in_nI hj (by decide)) hdg (by rw [nI_clamp (Nat.lt_trans hj (by decide))]; exact kk)
theorem sX4_0 (E : EN p c cc s m args own nL G) (hw : HB G A H0 (mW G a n x) H locs) {j : Nat} {z : Int32} (hj : j < 390) (hdg : decode cc pc = .ok (.iastore, 1)) (kk : ∀ (H1 : Heap) (locs1 : List Loc), HB G A H0 (mW G a (upd n j z) x) H1 locs1 → W p l e R s m args below meth c H1 locs1 cells slots Q (F0 m (pc + 1) ls rest)) : W p l e R s m args below meth c H locs cells slots Q (F0 m pc ls (.int z :: .int (nI j) :: .ref (a 1) :: rest)) :=
  va_iast E.1 E.2.1 E.2.2.2.2.2.1 hw.1 hw.2.1 hw.2.2.1 1 0 rfl rfl (vp_in_nI hj (by decide)) hdg (fun H1 locs1 hP hD hS => by rw [nI_clamp (Nat.lt_trans hj (by decide))] at hP hD; exact kk H1 locs1 ⟨hP, hD, hS, hw.2.2.2⟩)
theorem lX4_1 (E : EN p c cc s m args own nL G) (hw : HB G A H0 (mW G a n x) H locs) {j : Nat} (hj : j < 390) (hdg : decode cc pc = .ok (.iaload, 1)) (kk : W p l e R s m args below meth c H locs cells slots Q (F0 m (pc + 1) ls (.int (x.2 0 j) :: rest))) : W p l e R s m args below meth c H locs cells slots Q (F0 m pc ls (.int (nI j) :: .ref (a 2) :: rest)) :=
  va_iald E.1 E.2.1 E.2.2.2.2.2.1 hw.1 2 0 rfl rfl (vp_in_nI hj (by decide)) hdg (by rw [nI_clamp (Nat.lt_trans hj (by decide))]; exact kk)
theorem sX4_1 (E : EN p c cc s m args own nL G) (hw : HB G A H0 (mW G a n x) H locs) {j : Nat} {z : Int32} (hj : j < 390) (hdg : decode cc pc = .ok (.iastore, 1)) (kk : ∀ (H1 : Heap) (locs1 : List Loc), HB G A H0 (mW G a n (ax x 0 (upd (x.2 0) j z))) H1 locs1 → W p l e R s m args below meth c H1 locs1 cells slots Q (F0 m (pc + 1) ls rest)) : W p l e R s m args below meth c H locs cells slots Q (F0 m pc ls (.int z :: .int (nI j) :: .ref (a 2) :: rest)) :=
  va_iast E.1 E.2.1 E.2.2.2.2.2.1 hw.1 hw.2.1 hw.2.2.1 2 0 rfl rfl (vp_in_nI hj (by decide)) hdg (fun H1 locs1 hP hD hS => by rw [nI_clamp (Nat.lt_trans hj (by decide))] at hP hD; exact kk H1 locs1 ⟨hP, hD, hS, hw.2.2.2⟩)
theorem lX4_2 (E : EN p c cc s m args own nL G) (hw : HB G A H0 (mW G a n x) H locs) {j : Nat} (hj : j < 2340) (hdg : decode cc pc = .ok (.iaload, 1)) (kk : W p l e R s m args below meth c H locs cells slots Q (F0 m (pc + 1) ls (.int (x.2 1 j) :: rest))) : W p l e R s m args below meth c H locs cells slots Q (F0 m pc ls (.int (nI j) :: .ref (a 3) :: rest)) :=
  va_iald E.1 E.2.1 E.2.2.2.2.2.1 hw.1 3 0 rfl rfl (vp_in_nI hj (by decide)) hdg (by rw [nI_clamp (Nat.lt_trans hj (by decide))]; exact kk)
theorem sX4_2 (E : EN p c cc s m args own nL G) (hw : HB G A H0 (mW G a n x) H locs) {j : Nat} {z : Int32} (hj : j < 2340) (hdg : decode cc pc = .ok (.iastore, 1)) (kk : ∀ (H1 : Heap) (locs1 : List Loc), HB G A H0 (mW G a n (ax x 1 (upd (x.2 1) j z))) H1 locs1 → W p l e R s m args below meth c H1 locs1 cells slots Q (F0 m (pc + 1) ls rest)) : W p l e R s m args below meth c H locs cells slots Q (F0 m pc ls (.int z :: .int (nI j) :: .ref (a 3) :: rest)) :=
  va_iast E.1 E.2.1 E.2.2.2.2.2.1 hw.1 hw.2.1 hw.2.2.1 3 0 rfl rfl (vp_in_nI hj (by decide)) hdg (fun H1 locs1 hP hD hS => by rw [nI_clamp (Nat.lt_trans hj (by decide))] at hP hD; exact kk H1 locs1 ⟨hP, hD, hS, hw.2.2.2⟩)
theorem lX4_3 (E : EN p c cc s m args own nL G) (hw : HB G A H0 (mW G a n x) H locs) {j : Nat} (hj : j < 780) (hdg : decode cc pc = .ok (.iaload, 1)) (kk : W p l e R s m args below meth c H locs cells slots Q (F0 m (pc + 1) ls (.int (x.2 2 j) :: rest))) : W p l e R s m args below meth c H locs cells slots Q (F0 m pc ls (.int (nI j) :: .ref (a 4) :: rest)) :=
  va_iald E.1 E.2.1 E.2.2.2.2.2.1 hw.1 4 0 rfl rfl (vp_in_nI hj (by decide)) hdg (by rw [nI_clamp (Nat.lt_trans hj (by decide))]; exact kk)
theorem sX4_3 (E : EN p c cc s m args own nL G) (hw : HB G A H0 (mW G a n x) H locs) {j : Nat} {z : Int32} (hj : j < 780) (hdg : decode cc pc = .ok (.iastore, 1)) (kk : ∀ (H1 : Heap) (locs1 : List Loc), HB G A H0 (mW G a n (ax x 2 (upd (x.2 2) j z))) H1 locs1 → W p l e R s m args below meth c H1 locs1 cells slots Q (F0 m (pc + 1) ls rest)) : W p l e R s m args below meth c H locs cells slots Q (F0 m pc ls (.int z :: .int (nI j) :: .ref (a 4) :: rest)) :=
  va_iast E.1 E.2.1 E.2.2.2.2.2.1 hw.1 hw.2.1 hw.2.2.1 4 0 rfl rfl (vp_in_nI hj (by decide)) hdg (fun H1 locs1 hP hD hS => by rw [nI_clamp (Nat.lt_trans hj (by decide))] at hP hD; exact kk H1 locs1 ⟨hP, hD, hS, hw.2.2.2⟩)
theorem lX4_4 (E : EN p c cc s m args own nL G) (hw : HB G A H0 (mW G a n x) H locs) {j : Nat} (hj : j < 2) (hdg : decode cc pc = .ok (.baload, 1)) (kk : W p l e R s m args below meth c H locs cells slots Q (F0 m (pc + 1) ls (.int (x.2 3 j) :: rest))) : W p l e R s m args below meth c H locs cells slots Q (F0 m pc ls (.int (nI j) :: .ref (a 5) :: rest)) :=
  va_zald E.1 E.2.1 E.2.2.2.2.2.1 hw.1 5 2 rfl rfl (vp_in_nI hj (by decide)) hdg (by rw [nI_clamp (Nat.lt_trans hj (by decide))]; exact kk)
theorem sX4_4 (E : EN p c cc s m args own nL G) (hw : HB G A H0 (mW G a n x) H locs) {j : Nat} {z : Int32} (hj : j < 2) (hv : vp_nar .boolean z = z) (hdg : decode cc pc = .ok (.bastore, 1)) (kk : ∀ (H1 : Heap) (locs1 : List Loc), HB G A H0 (mW G a n (ax x 3 (upd (x.2 3) j z))) H1 locs1 → W p l e R s m args below meth c H1 locs1 cells slots Q (F0 m (pc + 1) ls rest)) : W p l e R s m args below meth c H locs cells slots Q (F0 m pc ls (.int z :: .int (nI j) :: .ref (a 5) :: rest)) :=
  va_zast E.1 E.2.1 E.2.2.2.2.2.1 hw.1 hw.2.1 hw.2.2.1 5 2 rfl rfl (vp_in_nI hj (by decide)) hdg (fun H1 locs1 hP hD hS => by rw [nI_clamp (Nat.lt_trans hj (by decide))] at hP hD; rw [hv] at hP hD; exact kk H1 locs1 ⟨hP, hD, hS, hw.2.2.2⟩)
theorem lX4_5 (E : EN p c cc s m args own nL G) (hw : HB G A H0 (mW G a n x) H locs) {j : Nat} (hj : j < 60) (hdg : decode cc pc = .ok (.iaload, 1)) (kk : W p l e R s m args below meth c H locs cells slots Q (F0 m (pc + 1) ls (.int (x.2 4 j) :: rest))) : W p l e R s m args below meth c H locs cells slots Q (F0 m pc ls (.int (nI j) :: .ref (a 6) :: rest)) :=
  va_iald E.1 E.2.1 E.2.2.2.2.2.1 hw.1 6 0 rfl rfl (vp_in_nI hj (by decide)) hdg (by rw [nI_clamp (Nat.lt_trans hj (by decide))]; exact kk)
theorem sX4_5 (E : EN p c cc s m args own nL G) (hw : HB G A H0 (mW G a n x) H locs) {j : Nat} {z : Int32} (hj : j < 60) (hdg : decode cc pc = .ok (.iastore, 1)) (kk : ∀ (H1 : Heap) (locs1 : List Loc), HB G A H0 (mW G a n (ax x 4 (upd (x.2 4) j z))) H1 locs1 → W p l e R s m args below meth c H1 locs1 cells slots Q (F0 m (pc + 1) ls rest)) : W p l e R s m args below meth c H locs cells slots Q (F0 m pc ls (.int z :: .int (nI j) :: .ref (a 6) :: rest)) :=
  va_iast E.1 E.2.1 E.2.2.2.2.2.1 hw.1 hw.2.1 hw.2.2.1 6 0 rfl rfl (vp_in_nI hj (by decide)) hdg (fun H1 locs1 hP hD hS => by rw [nI_clamp (Nat.lt_trans hj (by decide))] at hP hD; exact kk H1 locs1 ⟨hP, hD, hS, hw.2.2.2⟩)
theorem lX4_6 (E : EN p c cc s m args own nL G) (hw : HB G A H0 (mW G a n x) H locs) {j : Nat} (hj : j < 180) (hdg : decode cc pc = .ok (.iaload, 1)) (kk : W p l e R s m args below meth c H locs cells slots Q (F0 m (pc + 1) ls (.int (x.2 5 j) :: rest))) : W p l e R s m args below meth c H locs cells slots Q (F0 m pc ls (.int (nI j) :: .ref (a 7) :: rest)) :=
  va_iald E.1 E.2.1 E.2.2.2.2.2.1 hw.1 7 0 rfl rfl (vp_in_nI hj (by decide)) hdg (by rw [nI_clamp (Nat.lt_trans hj (by decide))]; exact kk)
theorem sX4_6 (E : EN p c cc s m args own nL G) (hw : HB G A H0 (mW G a n x) H locs) {j : Nat} {z : Int32} (hj : j < 180) (hdg : decode cc pc = .ok (.iastore, 1)) (kk : ∀ (H1 : Heap) (locs1 : List Loc), HB G A H0 (mW G a n (ax x 5 (upd (x.2 5) j z))) H1 locs1 → W p l e R s m args below meth c H1 locs1 cells slots Q (F0 m (pc + 1) ls rest)) : W p l e R s m args below meth c H locs cells slots Q (F0 m pc ls (.int z :: .int (nI j) :: .ref (a 7) :: rest)) :=
  va_iast E.1 E.2.1 E.2.2.2.2.2.1 hw.1 hw.2.1 hw.2.2.1 7 0 rfl rfl (vp_in_nI hj (by decide)) hdg (fun H1 locs1 hP hD hS => by rw [nI_clamp (Nat.lt_trans hj (by decide))] at hP hD; exact kk H1 locs1 ⟨hP, hD, hS, hw.2.2.2⟩)
theorem gX2_0 (E : EN p c cc s m args own nL G) (hw : HB G A H0 (sX G a i f) H locs) (hl : Cond.fieldLink own index "ClerkVotes$State" "tick" "I" ∈ GW) (hdg : decode cc pc = .ok (.getfield index, 3)) (kk : W p l e R s m args below meth c H locs cells slots Q (F0 m (pc + 3) ls (.int (i 0) :: rest))) : W p l e R s m args below meth c H locs cells slots Q (F0 m pc ls (.ref (a 0) :: rest)) :=
  va_get (T := TX2) (N := 14) (C := RX2) (ci := 2) E.1 E.2.1 E.2.2.2.2.1 inlX2 E.2.2.2.1 E.2.2.2.2.2.1 hw.1 0 rfl rfl 0 (by decide) (E.2.2.2.2.1 _ hl) (fun _ h => h) rfl hdg kk
theorem gX2_1 (E : EN p c cc s m args own nL G) (hw : HB G A H0 (sX G a i f) H locs) (hl : Cond.fieldLink own index "ClerkVotes$State" "illOnes" "I" ∈ GW) (hdg : decode cc pc = .ok (.getfield index, 3)) (kk : W p l e R s m args below meth c H locs cells slots Q (F0 m (pc + 3) ls (.int (i 1) :: rest))) : W p l e R s m args below meth c H locs cells slots Q (F0 m pc ls (.ref (a 0) :: rest)) :=
  va_get (T := TX2) (N := 14) (C := RX2) (ci := 2) E.1 E.2.1 E.2.2.2.2.1 inlX2 E.2.2.2.1 E.2.2.2.2.2.1 hw.1 0 rfl rfl 1 (by decide) (E.2.2.2.2.1 _ hl) (fun _ h => h) rfl hdg kk
theorem gX2_2 (E : EN p c cc s m args own nL G) (hw : HB G A H0 (sX G a i f) H locs) (hl : Cond.fieldLink own index "ClerkVotes$State" "unwillingOnes" "I" ∈ GW) (hdg : decode cc pc = .ok (.getfield index, 3)) (kk : W p l e R s m args below meth c H locs cells slots Q (F0 m (pc + 3) ls (.int (i 2) :: rest))) : W p l e R s m args below meth c H locs cells slots Q (F0 m pc ls (.ref (a 0) :: rest)) :=
  va_get (T := TX2) (N := 14) (C := RX2) (ci := 2) E.1 E.2.1 E.2.2.2.2.1 inlX2 E.2.2.2.1 E.2.2.2.2.2.1 hw.1 0 rfl rfl 2 (by decide) (E.2.2.2.2.1 _ hl) (fun _ h => h) rfl hdg kk
theorem gX2_3 (E : EN p c cc s m args own nL G) (hw : HB G A H0 (sX G a i f) H locs) (hl : Cond.fieldLink own index "ClerkVotes$State" "deals" "I" ∈ GW) (hdg : decode cc pc = .ok (.getfield index, 3)) (kk : W p l e R s m args below meth c H locs cells slots Q (F0 m (pc + 3) ls (.int (i 3) :: rest))) : W p l e R s m args below meth c H locs cells slots Q (F0 m pc ls (.ref (a 0) :: rest)) :=
  va_get (T := TX2) (N := 14) (C := RX2) (ci := 2) E.1 E.2.1 E.2.2.2.2.1 inlX2 E.2.2.2.1 E.2.2.2.2.2.1 hw.1 0 rfl rfl 3 (by decide) (E.2.2.2.2.1 _ hl) (fun _ h => h) rfl hdg kk
theorem gX2_4 (E : EN p c cc s m args own nL G) (hw : HB G A H0 (sX G a i f) H locs) (hl : Cond.fieldLink own index "ClerkVotes$State" "settings" "[I" ∈ GW) (hdg : decode cc pc = .ok (.getfield index, 3)) (kk : W p l e R s m args below meth c H locs cells slots Q (F0 m (pc + 3) ls (.ref (a 1) :: rest))) : W p l e R s m args below meth c H locs cells slots Q (F0 m pc ls (.ref (a 0) :: rest)) :=
  va_get (T := TX2) (N := 14) (C := RX2) (ci := 2) E.1 E.2.1 E.2.2.2.2.1 inlX2 E.2.2.2.1 E.2.2.2.2.2.1 hw.1 0 rfl rfl 4 (by decide) (E.2.2.2.2.1 _ hl) (fun _ h => h) rfl hdg kk
theorem gX2_5 (E : EN p c cc s m args own nL G) (hw : HB G A H0 (sX G a i f) H locs) (hl : Cond.fieldLink own index "ClerkVotes$State" "row" "LClerkVotes$Row;" ∈ GW) (hdg : decode cc pc = .ok (.getfield index, 3)) (kk : W p l e R s m args below meth c H locs cells slots Q (F0 m (pc + 3) ls (.ref (a 2) :: rest))) : W p l e R s m args below meth c H locs cells slots Q (F0 m pc ls (.ref (a 0) :: rest)) :=
  va_get (T := TX2) (N := 14) (C := RX2) (ci := 2) E.1 E.2.1 E.2.2.2.2.1 inlX2 E.2.2.2.1 E.2.2.2.2.2.1 hw.1 0 rfl rfl 5 (by decide) (E.2.2.2.2.1 _ hl) (fun _ h => h) rfl hdg kk
theorem gX2_6 (E : EN p c cc s m args own nL G) (hw : HB G A H0 (sX G a i f) H locs) (hl : Cond.fieldLink own index "ClerkVotes$State" "clerksOf" "[I" ∈ GW) (hdg : decode cc pc = .ok (.getfield index, 3)) (kk : W p l e R s m args below meth c H locs cells slots Q (F0 m (pc + 3) ls (.ref (a 6) :: rest))) : W p l e R s m args below meth c H locs cells slots Q (F0 m pc ls (.ref (a 0) :: rest)) :=
  va_get (T := TX2) (N := 14) (C := RX2) (ci := 2) E.1 E.2.1 E.2.2.2.2.1 inlX2 E.2.2.2.1 E.2.2.2.2.2.1 hw.1 0 rfl rfl 6 (by decide) (E.2.2.2.2.1 _ hl) (fun _ h => h) rfl hdg kk
theorem gX2_7 (E : EN p c cc s m args own nL G) (hw : HB G A H0 (sX G a i f) H locs) (hl : Cond.fieldLink own index "ClerkVotes$State" "forBetween" "[I" ∈ GW) (hdg : decode cc pc = .ok (.getfield index, 3)) (kk : W p l e R s m args below meth c H locs cells slots Q (F0 m (pc + 3) ls (.ref (a 7) :: rest))) : W p l e R s m args below meth c H locs cells slots Q (F0 m pc ls (.ref (a 0) :: rest)) :=
  va_get (T := TX2) (N := 14) (C := RX2) (ci := 2) E.1 E.2.1 E.2.2.2.2.1 inlX2 E.2.2.2.1 E.2.2.2.2.2.1 hw.1 0 rfl rfl 7 (by decide) (E.2.2.2.2.1 _ hl) (fun _ h => h) rfl hdg kk
theorem gX2_8 (E : EN p c cc s m args own nL G) (hw : HB G A H0 (sX G a i f) H locs) (hl : Cond.fieldLink own index "ClerkVotes$State" "openedIn" "[I" ∈ GW) (hdg : decode cc pc = .ok (.getfield index, 3)) (kk : W p l e R s m args below meth c H locs cells slots Q (F0 m (pc + 3) ls (.ref (a 8) :: rest))) : W p l e R s m args below meth c H locs cells slots Q (F0 m pc ls (.ref (a 0) :: rest)) :=
  va_get (T := TX2) (N := 14) (C := RX2) (ci := 2) E.1 E.2.1 E.2.2.2.2.1 inlX2 E.2.2.2.1 E.2.2.2.2.2.1 hw.1 0 rfl rfl 8 (by decide) (E.2.2.2.2.1 _ hl) (fun _ h => h) rfl hdg kk
theorem gX2_9 (E : EN p c cc s m args own nL G) (hw : HB G A H0 (sX G a i f) H locs) (hl : Cond.fieldLink own index "ClerkVotes$State" "postSince" "[I" ∈ GW) (hdg : decode cc pc = .ok (.getfield index, 3)) (kk : W p l e R s m args below meth c H locs cells slots Q (F0 m (pc + 3) ls (.ref (a 9) :: rest))) : W p l e R s m args below meth c H locs cells slots Q (F0 m pc ls (.ref (a 0) :: rest)) :=
  va_get (T := TX2) (N := 14) (C := RX2) (ci := 2) E.1 E.2.1 E.2.2.2.2.1 inlX2 E.2.2.2.1 E.2.2.2.2.2.1 hw.1 0 rfl rfl 9 (by decide) (E.2.2.2.2.1 _ hl) (fun _ h => h) rfl hdg kk
theorem gX2_10 (E : EN p c cc s m args own nL G) (hw : HB G A H0 (sX G a i f) H locs) (hl : Cond.fieldLink own index "ClerkVotes$State" "votes" "[I" ∈ GW) (hdg : decode cc pc = .ok (.getfield index, 3)) (kk : W p l e R s m args below meth c H locs cells slots Q (F0 m (pc + 3) ls (.ref (a 10) :: rest))) : W p l e R s m args below meth c H locs cells slots Q (F0 m pc ls (.ref (a 0) :: rest)) :=
  va_get (T := TX2) (N := 14) (C := RX2) (ci := 2) E.1 E.2.1 E.2.2.2.2.1 inlX2 E.2.2.2.1 E.2.2.2.2.2.1 hw.1 0 rfl rfl 10 (by decide) (E.2.2.2.2.1 _ hl) (fun _ h => h) rfl hdg kk
theorem gX2_11 (E : EN p c cc s m args own nL G) (hw : HB G A H0 (sX G a i f) H locs) (hl : Cond.fieldLink own index "ClerkVotes$State" "receipts" "[I" ∈ GW) (hdg : decode cc pc = .ok (.getfield index, 3)) (kk : W p l e R s m args below meth c H locs cells slots Q (F0 m (pc + 3) ls (.ref (a 11) :: rest))) : W p l e R s m args below meth c H locs cells slots Q (F0 m pc ls (.ref (a 0) :: rest)) :=
  va_get (T := TX2) (N := 14) (C := RX2) (ci := 2) E.1 E.2.1 E.2.2.2.2.1 inlX2 E.2.2.2.1 E.2.2.2.2.2.1 hw.1 0 rfl rfl 11 (by decide) (E.2.2.2.2.1 _ hl) (fun _ h => h) rfl hdg kk
theorem gX2_12 (E : EN p c cc s m args own nL G) (hw : HB G A H0 (sX G a i f) H locs) (hl : Cond.fieldLink own index "ClerkVotes$State" "standing" "[I" ∈ GW) (hdg : decode cc pc = .ok (.getfield index, 3)) (kk : W p l e R s m args below meth c H locs cells slots Q (F0 m (pc + 3) ls (.ref (a 12) :: rest))) : W p l e R s m args below meth c H locs cells slots Q (F0 m pc ls (.ref (a 0) :: rest)) :=
  va_get (T := TX2) (N := 14) (C := RX2) (ci := 2) E.1 E.2.1 E.2.2.2.2.1 inlX2 E.2.2.2.1 E.2.2.2.2.2.1 hw.1 0 rfl rfl 12 (by decide) (E.2.2.2.2.1 _ hl) (fun _ h => h) rfl hdg kk
theorem gX2_13 (E : EN p c cc s m args own nL G) (hw : HB G A H0 (sX G a i f) H locs) (hl : Cond.fieldLink own index "ClerkVotes$State" "readySince" "[I" ∈ GW) (hdg : decode cc pc = .ok (.getfield index, 3)) (kk : W p l e R s m args below meth c H locs cells slots Q (F0 m (pc + 3) ls (.ref (a 13) :: rest))) : W p l e R s m args below meth c H locs cells slots Q (F0 m pc ls (.ref (a 0) :: rest)) :=
  va_get (T := TX2) (N := 14) (C := RX2) (ci := 2) E.1 E.2.1 E.2.2.2.2.1 inlX2 E.2.2.2.1 E.2.2.2.2.2.1 hw.1 0 rfl rfl 13 (by decide) (E.2.2.2.2.1 _ hl) (fun _ h => h) rfl hdg kk
theorem pX2_0 (E : EN p c cc s m args own nL G) (hw : HB G A H0 (sX G a i f) H locs) (hl : Cond.fieldLink own index "ClerkVotes$State" "tick" "I" ∈ GW) {z : Int32} (hdg : decode cc pc = .ok (.putfield index, 3)) (kk : ∀ (H1 : Heap) (locs1 : List Loc), HB G A H0 (sX G a (upd i 0 z) f) H1 locs1 → W p l e R s m args below meth c H1 locs1 cells slots Q (F0 m (pc + 3) ls rest)) : W p l e R s m args below meth c H locs cells slots Q (F0 m pc ls (.int z :: .ref (a 0) :: rest)) :=
  va_put (T := TX2) (N := 14) (C := RX2) (ci := 2) (ty := .int) E.1 E.2.1 E.2.2.2.2.1 inlX2 tyX2 tyX2_ok nmX2 E.2.2.2.1 E.2.2.2.2.2.1 hw.1 hw.2.1 hw.2.2.1 0 rfl rfl 0 (by decide) (E.2.2.2.2.1 _ hl) (fun _ h => h) rfl (by decide +kernel) rfl rfl (Nat.le_of_ble_eq_true rfl) hdg (fun H1 locs1 hP hD hS => kk H1 locs1 ⟨hP, hD, hS, hw.2.2.2⟩)
theorem pX2_1 (E : EN p c cc s m args own nL G) (hw : HB G A H0 (sX G a i f) H locs) (hl : Cond.fieldLink own index "ClerkVotes$State" "illOnes" "I" ∈ GW) {z : Int32} (hdg : decode cc pc = .ok (.putfield index, 3)) (kk : ∀ (H1 : Heap) (locs1 : List Loc), HB G A H0 (sX G a (upd i 1 z) f) H1 locs1 → W p l e R s m args below meth c H1 locs1 cells slots Q (F0 m (pc + 3) ls rest)) : W p l e R s m args below meth c H locs cells slots Q (F0 m pc ls (.int z :: .ref (a 0) :: rest)) :=
  va_put (T := TX2) (N := 14) (C := RX2) (ci := 2) (ty := .int) E.1 E.2.1 E.2.2.2.2.1 inlX2 tyX2 tyX2_ok nmX2 E.2.2.2.1 E.2.2.2.2.2.1 hw.1 hw.2.1 hw.2.2.1 0 rfl rfl 1 (by decide) (E.2.2.2.2.1 _ hl) (fun _ h => h) rfl (by decide +kernel) rfl rfl (Nat.le_of_ble_eq_true rfl) hdg (fun H1 locs1 hP hD hS => kk H1 locs1 ⟨hP, hD, hS, hw.2.2.2⟩)
theorem pX2_2 (E : EN p c cc s m args own nL G) (hw : HB G A H0 (sX G a i f) H locs) (hl : Cond.fieldLink own index "ClerkVotes$State" "unwillingOnes" "I" ∈ GW) {z : Int32} (hdg : decode cc pc = .ok (.putfield index, 3)) (kk : ∀ (H1 : Heap) (locs1 : List Loc), HB G A H0 (sX G a (upd i 2 z) f) H1 locs1 → W p l e R s m args below meth c H1 locs1 cells slots Q (F0 m (pc + 3) ls rest)) : W p l e R s m args below meth c H locs cells slots Q (F0 m pc ls (.int z :: .ref (a 0) :: rest)) :=
  va_put (T := TX2) (N := 14) (C := RX2) (ci := 2) (ty := .int) E.1 E.2.1 E.2.2.2.2.1 inlX2 tyX2 tyX2_ok nmX2 E.2.2.2.1 E.2.2.2.2.2.1 hw.1 hw.2.1 hw.2.2.1 0 rfl rfl 2 (by decide) (E.2.2.2.2.1 _ hl) (fun _ h => h) rfl (by decide +kernel) rfl rfl (Nat.le_of_ble_eq_true rfl) hdg (fun H1 locs1 hP hD hS => kk H1 locs1 ⟨hP, hD, hS, hw.2.2.2⟩)
theorem pX2_3 (E : EN p c cc s m args own nL G) (hw : HB G A H0 (sX G a i f) H locs) (hl : Cond.fieldLink own index "ClerkVotes$State" "deals" "I" ∈ GW) {z : Int32} (hdg : decode cc pc = .ok (.putfield index, 3)) (kk : ∀ (H1 : Heap) (locs1 : List Loc), HB G A H0 (sX G a (upd i 3 z) f) H1 locs1 → W p l e R s m args below meth c H1 locs1 cells slots Q (F0 m (pc + 3) ls rest)) : W p l e R s m args below meth c H locs cells slots Q (F0 m pc ls (.int z :: .ref (a 0) :: rest)) :=
  va_put (T := TX2) (N := 14) (C := RX2) (ci := 2) (ty := .int) E.1 E.2.1 E.2.2.2.2.1 inlX2 tyX2 tyX2_ok nmX2 E.2.2.2.1 E.2.2.2.2.2.1 hw.1 hw.2.1 hw.2.2.1 0 rfl rfl 3 (by decide) (E.2.2.2.2.1 _ hl) (fun _ h => h) rfl (by decide +kernel) rfl rfl (Nat.le_of_ble_eq_true rfl) hdg (fun H1 locs1 hP hD hS => kk H1 locs1 ⟨hP, hD, hS, hw.2.2.2⟩)
theorem gX1_0 (E : EN p c cc s m args own nL G) (hw : HB G A H0 (sX G a i f) H locs) (hl : Cond.fieldLink own index "ClerkVotes$Row" "length" "I" ∈ GW) (hdg : decode cc pc = .ok (.getfield index, 3)) (kk : W p l e R s m args below meth c H locs cells slots Q (F0 m (pc + 3) ls (.int (i 4) :: rest))) : W p l e R s m args below meth c H locs cells slots Q (F0 m pc ls (.ref (a 2) :: rest)) :=
  va_get (T := TX1) (N := 5) (C := RX1) (ci := 1) E.1 E.2.1 E.2.2.2.2.1 inlX1 E.2.2.2.1 E.2.2.2.2.2.1 hw.1 2 rfl rfl 0 (by decide) (E.2.2.2.2.1 _ hl) (fun _ h => h) rfl hdg kk
theorem gX1_1 (E : EN p c cc s m args own nL G) (hw : HB G A H0 (sX G a i f) H locs) (hl : Cond.fieldLink own index "ClerkVotes$Row" "lost" "I" ∈ GW) (hdg : decode cc pc = .ok (.getfield index, 3)) (kk : W p l e R s m args below meth c H locs cells slots Q (F0 m (pc + 3) ls (.int (i 5) :: rest))) : W p l e R s m args below meth c H locs cells slots Q (F0 m pc ls (.ref (a 2) :: rest)) :=
  va_get (T := TX1) (N := 5) (C := RX1) (ci := 1) E.1 E.2.1 E.2.2.2.2.1 inlX1 E.2.2.2.1 E.2.2.2.2.2.1 hw.1 2 rfl rfl 1 (by decide) (E.2.2.2.2.1 _ hl) (fun _ h => h) rfl hdg kk
theorem gX1_2 (E : EN p c cc s m args own nL G) (hw : HB G A H0 (sX G a i f) H locs) (hl : Cond.fieldLink own index "ClerkVotes$Row" "parts" "[I" ∈ GW) (hdg : decode cc pc = .ok (.getfield index, 3)) (kk : W p l e R s m args below meth c H locs cells slots Q (F0 m (pc + 3) ls (.ref (a 3) :: rest))) : W p l e R s m args below meth c H locs cells slots Q (F0 m pc ls (.ref (a 2) :: rest)) :=
  va_get (T := TX1) (N := 5) (C := RX1) (ci := 1) E.1 E.2.1 E.2.2.2.2.1 inlX1 E.2.2.2.1 E.2.2.2.2.2.1 hw.1 2 rfl rfl 2 (by decide) (E.2.2.2.2.1 _ hl) (fun _ h => h) rfl hdg kk
theorem gX1_3 (E : EN p c cc s m args own nL G) (hw : HB G A H0 (sX G a i f) H locs) (hl : Cond.fieldLink own index "ClerkVotes$Row" "deliveredTo" "[I" ∈ GW) (hdg : decode cc pc = .ok (.getfield index, 3)) (kk : W p l e R s m args below meth c H locs cells slots Q (F0 m (pc + 3) ls (.ref (a 4) :: rest))) : W p l e R s m args below meth c H locs cells slots Q (F0 m pc ls (.ref (a 2) :: rest)) :=
  va_get (T := TX1) (N := 5) (C := RX1) (ci := 1) E.1 E.2.1 E.2.2.2.2.1 inlX1 E.2.2.2.1 E.2.2.2.2.2.1 hw.1 2 rfl rfl 3 (by decide) (E.2.2.2.2.1 _ hl) (fun _ h => h) rfl hdg kk
theorem gX1_4 (E : EN p c cc s m args own nL G) (hw : HB G A H0 (sX G a i f) H locs) (hl : Cond.fieldLink own index "ClerkVotes$Row" "sentBy" "[I" ∈ GW) (hdg : decode cc pc = .ok (.getfield index, 3)) (kk : W p l e R s m args below meth c H locs cells slots Q (F0 m (pc + 3) ls (.ref (a 5) :: rest))) : W p l e R s m args below meth c H locs cells slots Q (F0 m pc ls (.ref (a 2) :: rest)) :=
  va_get (T := TX1) (N := 5) (C := RX1) (ci := 1) E.1 E.2.1 E.2.2.2.2.1 inlX1 E.2.2.2.1 E.2.2.2.2.2.1 hw.1 2 rfl rfl 4 (by decide) (E.2.2.2.2.1 _ hl) (fun _ h => h) rfl hdg kk
theorem pX1_0 (E : EN p c cc s m args own nL G) (hw : HB G A H0 (sX G a i f) H locs) (hl : Cond.fieldLink own index "ClerkVotes$Row" "length" "I" ∈ GW) {z : Int32} (hdg : decode cc pc = .ok (.putfield index, 3)) (kk : ∀ (H1 : Heap) (locs1 : List Loc), HB G A H0 (sX G a (upd i 4 z) f) H1 locs1 → W p l e R s m args below meth c H1 locs1 cells slots Q (F0 m (pc + 3) ls rest)) : W p l e R s m args below meth c H locs cells slots Q (F0 m pc ls (.int z :: .ref (a 2) :: rest)) :=
  va_put (T := TX1) (N := 5) (C := RX1) (ci := 1) (ty := .int) E.1 E.2.1 E.2.2.2.2.1 inlX1 tyX1 tyX1_ok nmX1 E.2.2.2.1 E.2.2.2.2.2.1 hw.1 hw.2.1 hw.2.2.1 2 rfl rfl 0 (by decide) (E.2.2.2.2.1 _ hl) (fun _ h => h) rfl (by decide +kernel) rfl rfl (Nat.le_of_ble_eq_true rfl) hdg (fun H1 locs1 hP hD hS => kk H1 locs1 ⟨hP, hD, hS, hw.2.2.2⟩)
theorem pX1_1 (E : EN p c cc s m args own nL G) (hw : HB G A H0 (sX G a i f) H locs) (hl : Cond.fieldLink own index "ClerkVotes$Row" "lost" "I" ∈ GW) {z : Int32} (hdg : decode cc pc = .ok (.putfield index, 3)) (kk : ∀ (H1 : Heap) (locs1 : List Loc), HB G A H0 (sX G a (upd i 5 z) f) H1 locs1 → W p l e R s m args below meth c H1 locs1 cells slots Q (F0 m (pc + 3) ls rest)) : W p l e R s m args below meth c H locs cells slots Q (F0 m pc ls (.int z :: .ref (a 2) :: rest)) :=
  va_put (T := TX1) (N := 5) (C := RX1) (ci := 1) (ty := .int) E.1 E.2.1 E.2.2.2.2.1 inlX1 tyX1 tyX1_ok nmX1 E.2.2.2.1 E.2.2.2.2.2.1 hw.1 hw.2.1 hw.2.2.1 2 rfl rfl 1 (by decide) (E.2.2.2.2.1 _ hl) (fun _ h => h) rfl (by decide +kernel) rfl rfl (Nat.le_of_ble_eq_true rfl) hdg (fun H1 locs1 hP hD hS => kk H1 locs1 ⟨hP, hD, hS, hw.2.2.2⟩)
theorem lX2_0 (E : EN p c cc s m args own nL G) (hw : HB G A H0 (sX G a i f) H locs) {j : Nat} (hj : j < 4) (hdg : decode cc pc = .ok (.iaload, 1)) (kk : W p l e R s m args below meth c H locs cells slots Q (F0 m (pc + 1) ls (.int (f 0 j) :: rest))) : W p l e R s m args below meth c H locs cells slots Q (F0 m pc ls (.int (nI j) :: .ref (a 1) :: rest)) :=
  va_iald E.1 E.2.1 E.2.2.2.2.2.1 hw.1 1 0 rfl rfl (vp_in_nI hj (by decide)) hdg (by rw [nI_clamp (Nat.lt_trans hj (by decide))]; exact kk)
theorem sX2_0 (E : EN p c cc s m args own nL G) (hw : HB G A H0 (sX G a i f) H locs) {j : Nat} {z : Int32} (hj : j < 4) (hdg : decode cc pc = .ok (.iastore, 1)) (kk : ∀ (H1 : Heap) (locs1 : List Loc), HB G A H0 (sX G a i (va_up f 0 (upd (f 0) j z))) H1 locs1 → W p l e R s m args below meth c H1 locs1 cells slots Q (F0 m (pc + 1) ls rest)) : W p l e R s m args below meth c H locs cells slots Q (F0 m pc ls (.int z :: .int (nI j) :: .ref (a 1) :: rest)) :=
  va_iast E.1 E.2.1 E.2.2.2.2.2.1 hw.1 hw.2.1 hw.2.2.1 1 0 rfl rfl (vp_in_nI hj (by decide)) hdg (fun H1 locs1 hP hD hS => by rw [nI_clamp (Nat.lt_trans hj (by decide))] at hP hD; exact kk H1 locs1 ⟨hP, hD, hS, hw.2.2.2⟩)
theorem lX2_1 (E : EN p c cc s m args own nL G) (hw : HB G A H0 (sX G a i f) H locs) {j : Nat} (hj : j < 240) (hdg : decode cc pc = .ok (.iaload, 1)) (kk : W p l e R s m args below meth c H locs cells slots Q (F0 m (pc + 1) ls (.int (f 1 j) :: rest))) : W p l e R s m args below meth c H locs cells slots Q (F0 m pc ls (.int (nI j) :: .ref (a 3) :: rest)) :=
  va_iald E.1 E.2.1 E.2.2.2.2.2.1 hw.1 3 0 rfl rfl (vp_in_nI hj (by decide)) hdg (by rw [nI_clamp (Nat.lt_trans hj (by decide))]; exact kk)
theorem sX2_1 (E : EN p c cc s m args own nL G) (hw : HB G A H0 (sX G a i f) H locs) {j : Nat} {z : Int32} (hj : j < 240) (hdg : decode cc pc = .ok (.iastore, 1)) (kk : ∀ (H1 : Heap) (locs1 : List Loc), HB G A H0 (sX G a i (va_up f 1 (upd (f 1) j z))) H1 locs1 → W p l e R s m args below meth c H1 locs1 cells slots Q (F0 m (pc + 1) ls rest)) : W p l e R s m args below meth c H locs cells slots Q (F0 m pc ls (.int z :: .int (nI j) :: .ref (a 3) :: rest)) :=
  va_iast E.1 E.2.1 E.2.2.2.2.2.1 hw.1 hw.2.1 hw.2.2.1 3 0 rfl rfl (vp_in_nI hj (by decide)) hdg (fun H1 locs1 hP hD hS => by rw [nI_clamp (Nat.lt_trans hj (by decide))] at hP hD; exact kk H1 locs1 ⟨hP, hD, hS, hw.2.2.2⟩)
theorem lX2_2 (E : EN p c cc s m args own nL G) (hw : HB G A H0 (sX G a i f) H locs) {j : Nat} (hj : j < 5) (hdg : decode cc pc = .ok (.iaload, 1)) (kk : W p l e R s m args below meth c H locs cells slots Q (F0 m (pc + 1) ls (.int (f 2 j) :: rest))) : W p l e R s m args below meth c H locs cells slots Q (F0 m pc ls (.int (nI j) :: .ref (a 4) :: rest)) :=
  va_iald E.1 E.2.1 E.2.2.2.2.2.1 hw.1 4 0 rfl rfl (vp_in_nI hj (by decide)) hdg (by rw [nI_clamp (Nat.lt_trans hj (by decide))]; exact kk)
theorem sX2_2 (E : EN p c cc s m args own nL G) (hw : HB G A H0 (sX G a i f) H locs) {j : Nat} {z : Int32} (hj : j < 5) (hdg : decode cc pc = .ok (.iastore, 1)) (kk : ∀ (H1 : Heap) (locs1 : List Loc), HB G A H0 (sX G a i (va_up f 2 (upd (f 2) j z))) H1 locs1 → W p l e R s m args below meth c H1 locs1 cells slots Q (F0 m (pc + 1) ls rest)) : W p l e R s m args below meth c H locs cells slots Q (F0 m pc ls (.int z :: .int (nI j) :: .ref (a 4) :: rest)) :=
  va_iast E.1 E.2.1 E.2.2.2.2.2.1 hw.1 hw.2.1 hw.2.2.1 4 0 rfl rfl (vp_in_nI hj (by decide)) hdg (fun H1 locs1 hP hD hS => by rw [nI_clamp (Nat.lt_trans hj (by decide))] at hP hD; exact kk H1 locs1 ⟨hP, hD, hS, hw.2.2.2⟩)
theorem lX2_3 (E : EN p c cc s m args own nL G) (hw : HB G A H0 (sX G a i f) H locs) {j : Nat} (hj : j < 5) (hdg : decode cc pc = .ok (.iaload, 1)) (kk : W p l e R s m args below meth c H locs cells slots Q (F0 m (pc + 1) ls (.int (f 3 j) :: rest))) : W p l e R s m args below meth c H locs cells slots Q (F0 m pc ls (.int (nI j) :: .ref (a 5) :: rest)) :=
  va_iald E.1 E.2.1 E.2.2.2.2.2.1 hw.1 5 0 rfl rfl (vp_in_nI hj (by decide)) hdg (by rw [nI_clamp (Nat.lt_trans hj (by decide))]; exact kk)
theorem sX2_3 (E : EN p c cc s m args own nL G) (hw : HB G A H0 (sX G a i f) H locs) {j : Nat} {z : Int32} (hj : j < 5) (hdg : decode cc pc = .ok (.iastore, 1)) (kk : ∀ (H1 : Heap) (locs1 : List Loc), HB G A H0 (sX G a i (va_up f 3 (upd (f 3) j z))) H1 locs1 → W p l e R s m args below meth c H1 locs1 cells slots Q (F0 m (pc + 1) ls rest)) : W p l e R s m args below meth c H locs cells slots Q (F0 m pc ls (.int z :: .int (nI j) :: .ref (a 5) :: rest)) :=
  va_iast E.1 E.2.1 E.2.2.2.2.2.1 hw.1 hw.2.1 hw.2.2.1 5 0 rfl rfl (vp_in_nI hj (by decide)) hdg (fun H1 locs1 hP hD hS => by rw [nI_clamp (Nat.lt_trans hj (by decide))] at hP hD; exact kk H1 locs1 ⟨hP, hD, hS, hw.2.2.2⟩)
theorem lX2_4 (E : EN p c cc s m args own nL G) (hw : HB G A H0 (sX G a i f) H locs) {j : Nat} (hj : j < 8) (hdg : decode cc pc = .ok (.iaload, 1)) (kk : W p l e R s m args below meth c H locs cells slots Q (F0 m (pc + 1) ls (.int (f 4 j) :: rest))) : W p l e R s m args below meth c H locs cells slots Q (F0 m pc ls (.int (nI j) :: .ref (a 6) :: rest)) :=
  va_iald E.1 E.2.1 E.2.2.2.2.2.1 hw.1 6 0 rfl rfl (vp_in_nI hj (by decide)) hdg (by rw [nI_clamp (Nat.lt_trans hj (by decide))]; exact kk)
theorem sX2_4 (E : EN p c cc s m args own nL G) (hw : HB G A H0 (sX G a i f) H locs) {j : Nat} {z : Int32} (hj : j < 8) (hdg : decode cc pc = .ok (.iastore, 1)) (kk : ∀ (H1 : Heap) (locs1 : List Loc), HB G A H0 (sX G a i (va_up f 4 (upd (f 4) j z))) H1 locs1 → W p l e R s m args below meth c H1 locs1 cells slots Q (F0 m (pc + 1) ls rest)) : W p l e R s m args below meth c H locs cells slots Q (F0 m pc ls (.int z :: .int (nI j) :: .ref (a 6) :: rest)) :=
  va_iast E.1 E.2.1 E.2.2.2.2.2.1 hw.1 hw.2.1 hw.2.2.1 6 0 rfl rfl (vp_in_nI hj (by decide)) hdg (fun H1 locs1 hP hD hS => by rw [nI_clamp (Nat.lt_trans hj (by decide))] at hP hD; exact kk H1 locs1 ⟨hP, hD, hS, hw.2.2.2⟩)
theorem lX2_5 (E : EN p c cc s m args own nL G) (hw : HB G A H0 (sX G a i f) H locs) {j : Nat} (hj : j < 8) (hdg : decode cc pc = .ok (.iaload, 1)) (kk : W p l e R s m args below meth c H locs cells slots Q (F0 m (pc + 1) ls (.int (f 5 j) :: rest))) : W p l e R s m args below meth c H locs cells slots Q (F0 m pc ls (.int (nI j) :: .ref (a 7) :: rest)) :=
  va_iald E.1 E.2.1 E.2.2.2.2.2.1 hw.1 7 0 rfl rfl (vp_in_nI hj (by decide)) hdg (by rw [nI_clamp (Nat.lt_trans hj (by decide))]; exact kk)
theorem sX2_5 (E : EN p c cc s m args own nL G) (hw : HB G A H0 (sX G a i f) H locs) {j : Nat} {z : Int32} (hj : j < 8) (hdg : decode cc pc = .ok (.iastore, 1)) (kk : ∀ (H1 : Heap) (locs1 : List Loc), HB G A H0 (sX G a i (va_up f 5 (upd (f 5) j z))) H1 locs1 → W p l e R s m args below meth c H1 locs1 cells slots Q (F0 m (pc + 1) ls rest)) : W p l e R s m args below meth c H locs cells slots Q (F0 m pc ls (.int z :: .int (nI j) :: .ref (a 7) :: rest)) :=
  va_iast E.1 E.2.1 E.2.2.2.2.2.1 hw.1 hw.2.1 hw.2.2.1 7 0 rfl rfl (vp_in_nI hj (by decide)) hdg (fun H1 locs1 hP hD hS => by rw [nI_clamp (Nat.lt_trans hj (by decide))] at hP hD; exact kk H1 locs1 ⟨hP, hD, hS, hw.2.2.2⟩)
theorem lX2_6 (E : EN p c cc s m args own nL G) (hw : HB G A H0 (sX G a i f) H locs) {j : Nat} (hj : j < 8) (hdg : decode cc pc = .ok (.iaload, 1)) (kk : W p l e R s m args below meth c H locs cells slots Q (F0 m (pc + 1) ls (.int (f 6 j) :: rest))) : W p l e R s m args below meth c H locs cells slots Q (F0 m pc ls (.int (nI j) :: .ref (a 8) :: rest)) :=
  va_iald E.1 E.2.1 E.2.2.2.2.2.1 hw.1 8 0 rfl rfl (vp_in_nI hj (by decide)) hdg (by rw [nI_clamp (Nat.lt_trans hj (by decide))]; exact kk)
theorem sX2_6 (E : EN p c cc s m args own nL G) (hw : HB G A H0 (sX G a i f) H locs) {j : Nat} {z : Int32} (hj : j < 8) (hdg : decode cc pc = .ok (.iastore, 1)) (kk : ∀ (H1 : Heap) (locs1 : List Loc), HB G A H0 (sX G a i (va_up f 6 (upd (f 6) j z))) H1 locs1 → W p l e R s m args below meth c H1 locs1 cells slots Q (F0 m (pc + 1) ls rest)) : W p l e R s m args below meth c H locs cells slots Q (F0 m pc ls (.int z :: .int (nI j) :: .ref (a 8) :: rest)) :=
  va_iast E.1 E.2.1 E.2.2.2.2.2.1 hw.1 hw.2.1 hw.2.2.1 8 0 rfl rfl (vp_in_nI hj (by decide)) hdg (fun H1 locs1 hP hD hS => by rw [nI_clamp (Nat.lt_trans hj (by decide))] at hP hD; exact kk H1 locs1 ⟨hP, hD, hS, hw.2.2.2⟩)
theorem lX2_7 (E : EN p c cc s m args own nL G) (hw : HB G A H0 (sX G a i f) H locs) {j : Nat} (hj : j < 8) (hdg : decode cc pc = .ok (.iaload, 1)) (kk : W p l e R s m args below meth c H locs cells slots Q (F0 m (pc + 1) ls (.int (f 7 j) :: rest))) : W p l e R s m args below meth c H locs cells slots Q (F0 m pc ls (.int (nI j) :: .ref (a 9) :: rest)) :=
  va_iald E.1 E.2.1 E.2.2.2.2.2.1 hw.1 9 0 rfl rfl (vp_in_nI hj (by decide)) hdg (by rw [nI_clamp (Nat.lt_trans hj (by decide))]; exact kk)
theorem sX2_7 (E : EN p c cc s m args own nL G) (hw : HB G A H0 (sX G a i f) H locs) {j : Nat} {z : Int32} (hj : j < 8) (hdg : decode cc pc = .ok (.iastore, 1)) (kk : ∀ (H1 : Heap) (locs1 : List Loc), HB G A H0 (sX G a i (va_up f 7 (upd (f 7) j z))) H1 locs1 → W p l e R s m args below meth c H1 locs1 cells slots Q (F0 m (pc + 1) ls rest)) : W p l e R s m args below meth c H locs cells slots Q (F0 m pc ls (.int z :: .int (nI j) :: .ref (a 9) :: rest)) :=
  va_iast E.1 E.2.1 E.2.2.2.2.2.1 hw.1 hw.2.1 hw.2.2.1 9 0 rfl rfl (vp_in_nI hj (by decide)) hdg (fun H1 locs1 hP hD hS => by rw [nI_clamp (Nat.lt_trans hj (by decide))] at hP hD; exact kk H1 locs1 ⟨hP, hD, hS, hw.2.2.2⟩)
theorem lX2_8 (E : EN p c cc s m args own nL G) (hw : HB G A H0 (sX G a i f) H locs) {j : Nat} (hj : j < 8) (hdg : decode cc pc = .ok (.iaload, 1)) (kk : W p l e R s m args below meth c H locs cells slots Q (F0 m (pc + 1) ls (.int (f 8 j) :: rest))) : W p l e R s m args below meth c H locs cells slots Q (F0 m pc ls (.int (nI j) :: .ref (a 10) :: rest)) :=
  va_iald E.1 E.2.1 E.2.2.2.2.2.1 hw.1 10 0 rfl rfl (vp_in_nI hj (by decide)) hdg (by rw [nI_clamp (Nat.lt_trans hj (by decide))]; exact kk)
theorem sX2_8 (E : EN p c cc s m args own nL G) (hw : HB G A H0 (sX G a i f) H locs) {j : Nat} {z : Int32} (hj : j < 8) (hdg : decode cc pc = .ok (.iastore, 1)) (kk : ∀ (H1 : Heap) (locs1 : List Loc), HB G A H0 (sX G a i (va_up f 8 (upd (f 8) j z))) H1 locs1 → W p l e R s m args below meth c H1 locs1 cells slots Q (F0 m (pc + 1) ls rest)) : W p l e R s m args below meth c H locs cells slots Q (F0 m pc ls (.int z :: .int (nI j) :: .ref (a 10) :: rest)) :=
  va_iast E.1 E.2.1 E.2.2.2.2.2.1 hw.1 hw.2.1 hw.2.2.1 10 0 rfl rfl (vp_in_nI hj (by decide)) hdg (fun H1 locs1 hP hD hS => by rw [nI_clamp (Nat.lt_trans hj (by decide))] at hP hD; exact kk H1 locs1 ⟨hP, hD, hS, hw.2.2.2⟩)
theorem lX2_9 (E : EN p c cc s m args own nL G) (hw : HB G A H0 (sX G a i f) H locs) {j : Nat} (hj : j < 8) (hdg : decode cc pc = .ok (.iaload, 1)) (kk : W p l e R s m args below meth c H locs cells slots Q (F0 m (pc + 1) ls (.int (f 9 j) :: rest))) : W p l e R s m args below meth c H locs cells slots Q (F0 m pc ls (.int (nI j) :: .ref (a 11) :: rest)) :=
  va_iald E.1 E.2.1 E.2.2.2.2.2.1 hw.1 11 0 rfl rfl (vp_in_nI hj (by decide)) hdg (by rw [nI_clamp (Nat.lt_trans hj (by decide))]; exact kk)
theorem sX2_9 (E : EN p c cc s m args own nL G) (hw : HB G A H0 (sX G a i f) H locs) {j : Nat} {z : Int32} (hj : j < 8) (hdg : decode cc pc = .ok (.iastore, 1)) (kk : ∀ (H1 : Heap) (locs1 : List Loc), HB G A H0 (sX G a i (va_up f 9 (upd (f 9) j z))) H1 locs1 → W p l e R s m args below meth c H1 locs1 cells slots Q (F0 m (pc + 1) ls rest)) : W p l e R s m args below meth c H locs cells slots Q (F0 m pc ls (.int z :: .int (nI j) :: .ref (a 11) :: rest)) :=
  va_iast E.1 E.2.1 E.2.2.2.2.2.1 hw.1 hw.2.1 hw.2.2.1 11 0 rfl rfl (vp_in_nI hj (by decide)) hdg (fun H1 locs1 hP hD hS => by rw [nI_clamp (Nat.lt_trans hj (by decide))] at hP hD; exact kk H1 locs1 ⟨hP, hD, hS, hw.2.2.2⟩)
theorem lX2_10 (E : EN p c cc s m args own nL G) (hw : HB G A H0 (sX G a i f) H locs) {j : Nat} (hj : j < 32) (hdg : decode cc pc = .ok (.iaload, 1)) (kk : W p l e R s m args below meth c H locs cells slots Q (F0 m (pc + 1) ls (.int (f 10 j) :: rest))) : W p l e R s m args below meth c H locs cells slots Q (F0 m pc ls (.int (nI j) :: .ref (a 12) :: rest)) :=
  va_iald E.1 E.2.1 E.2.2.2.2.2.1 hw.1 12 0 rfl rfl (vp_in_nI hj (by decide)) hdg (by rw [nI_clamp (Nat.lt_trans hj (by decide))]; exact kk)
theorem sX2_10 (E : EN p c cc s m args own nL G) (hw : HB G A H0 (sX G a i f) H locs) {j : Nat} {z : Int32} (hj : j < 32) (hdg : decode cc pc = .ok (.iastore, 1)) (kk : ∀ (H1 : Heap) (locs1 : List Loc), HB G A H0 (sX G a i (va_up f 10 (upd (f 10) j z))) H1 locs1 → W p l e R s m args below meth c H1 locs1 cells slots Q (F0 m (pc + 1) ls rest)) : W p l e R s m args below meth c H locs cells slots Q (F0 m pc ls (.int z :: .int (nI j) :: .ref (a 12) :: rest)) :=
  va_iast E.1 E.2.1 E.2.2.2.2.2.1 hw.1 hw.2.1 hw.2.2.1 12 0 rfl rfl (vp_in_nI hj (by decide)) hdg (fun H1 locs1 hP hD hS => by rw [nI_clamp (Nat.lt_trans hj (by decide))] at hP hD; exact kk H1 locs1 ⟨hP, hD, hS, hw.2.2.2⟩)
theorem lX2_11 (E : EN p c cc s m args own nL G) (hw : HB G A H0 (sX G a i f) H locs) {j : Nat} (hj : j < 32) (hdg : decode cc pc = .ok (.iaload, 1)) (kk : W p l e R s m args below meth c H locs cells slots Q (F0 m (pc + 1) ls (.int (f 11 j) :: rest))) : W p l e R s m args below meth c H locs cells slots Q (F0 m pc ls (.int (nI j) :: .ref (a 13) :: rest)) :=
  va_iald E.1 E.2.1 E.2.2.2.2.2.1 hw.1 13 0 rfl rfl (vp_in_nI hj (by decide)) hdg (by rw [nI_clamp (Nat.lt_trans hj (by decide))]; exact kk)
theorem sX2_11 (E : EN p c cc s m args own nL G) (hw : HB G A H0 (sX G a i f) H locs) {j : Nat} {z : Int32} (hj : j < 32) (hdg : decode cc pc = .ok (.iastore, 1)) (kk : ∀ (H1 : Heap) (locs1 : List Loc), HB G A H0 (sX G a i (va_up f 11 (upd (f 11) j z))) H1 locs1 → W p l e R s m args below meth c H1 locs1 cells slots Q (F0 m (pc + 1) ls rest)) : W p l e R s m args below meth c H locs cells slots Q (F0 m pc ls (.int z :: .int (nI j) :: .ref (a 13) :: rest)) :=
  va_iast E.1 E.2.1 E.2.2.2.2.2.1 hw.1 hw.2.1 hw.2.2.1 13 0 rfl rfl (vp_in_nI hj (by decide)) hdg (fun H1 locs1 hP hD hS => by rw [nI_clamp (Nat.lt_trans hj (by decide))] at hP hD; exact kk H1 locs1 ⟨hP, hD, hS, hw.2.2.2⟩)
theorem gX0_0 (E : EN p c cc s m args own nL G) (hw : HB G A H0 (oW q v) H locs) (hl : Cond.fieldLink own index "ClerkVotes$OrderReader" "expected" "I" ∈ GW) (hdg : decode cc pc = .ok (.getfield index, 3)) (kk : W p l e R s m args below meth c H locs cells slots Q (F0 m (pc + 3) ls (.int (v 0) :: rest))) : W p l e R s m args below meth c H locs cells slots Q (F0 m pc ls (.ref q :: rest)) :=
  va_get (T := TX0) (N := 4) (C := RX0) (ci := 0) E.1 E.2.1 E.2.2.2.2.1 inlX0 E.2.2.2.1 E.2.2.2.2.2.1 hw.1 0 rfl rfl 0 (by decide) (E.2.2.2.2.1 _ hl) (fun _ h => h) rfl hdg kk
theorem pX0_0 (E : EN p c cc s m args own nL G) (hw : HB G A H0 (oW q v) H locs) (hl : Cond.fieldLink own index "ClerkVotes$OrderReader" "expected" "I" ∈ GW) {z : Int32} (hdg : decode cc pc = .ok (.putfield index, 3)) (kk : ∀ (H1 : Heap) (locs1 : List Loc), HB G A H0 (oW q (upd v 0 z)) H1 locs1 → W p l e R s m args below meth c H1 locs1 cells slots Q (F0 m (pc + 3) ls rest)) : W p l e R s m args below meth c H locs cells slots Q (F0 m pc ls (.int z :: .ref q :: rest)) :=
  va_put (T := TX0) (N := 4) (C := RX0) (ci := 0) (ty := .int) E.1 E.2.1 E.2.2.2.2.1 inlX0 tyX0 tyX0_ok nmX0 E.2.2.2.1 E.2.2.2.2.2.1 hw.1 hw.2.1 hw.2.2.1 0 rfl rfl 0 (by decide) (E.2.2.2.2.1 _ hl) (fun _ h => h) rfl (by decide +kernel) rfl rfl (Nat.le_of_ble_eq_true rfl) hdg (fun H1 locs1 hP hD hS => kk H1 locs1 ⟨hP, hD, hS, hw.2.2.2⟩)
theorem gX0_1 (E : EN p c cc s m args own nL G) (hw : HB G A H0 (oW q v) H locs) (hl : Cond.fieldLink own index "ClerkVotes$OrderReader" "letter" "I" ∈ GW) (hdg : decode cc pc = .ok (.getfield index, 3)) (kk : W p l e R s m args below meth c H locs cells slots Q (F0 m (pc + 3) ls (.int (v 1) :: rest))) : W p l e R s m args below meth c H locs cells slots Q (F0 m pc ls (.ref q :: rest)) :=
  va_get (T := TX0) (N := 4) (C := RX0) (ci := 0) E.1 E.2.1 E.2.2.2.2.1 inlX0 E.2.2.2.1 E.2.2.2.2.2.1 hw.1 0 rfl rfl 1 (by decide) (E.2.2.2.2.1 _ hl) (fun _ h => h) rfl hdg kk
theorem pX0_1 (E : EN p c cc s m args own nL G) (hw : HB G A H0 (oW q v) H locs) (hl : Cond.fieldLink own index "ClerkVotes$OrderReader" "letter" "I" ∈ GW) {z : Int32} (hdg : decode cc pc = .ok (.putfield index, 3)) (kk : ∀ (H1 : Heap) (locs1 : List Loc), HB G A H0 (oW q (upd v 1 z)) H1 locs1 → W p l e R s m args below meth c H1 locs1 cells slots Q (F0 m (pc + 3) ls rest)) : W p l e R s m args below meth c H locs cells slots Q (F0 m pc ls (.int z :: .ref q :: rest)) :=
  va_put (T := TX0) (N := 4) (C := RX0) (ci := 0) (ty := .int) E.1 E.2.1 E.2.2.2.2.1 inlX0 tyX0 tyX0_ok nmX0 E.2.2.2.1 E.2.2.2.2.2.1 hw.1 hw.2.1 hw.2.2.1 0 rfl rfl 1 (by decide) (E.2.2.2.2.1 _ hl) (fun _ h => h) rfl (by decide +kernel) rfl rfl (Nat.le_of_ble_eq_true rfl) hdg (fun H1 locs1 hP hD hS => kk H1 locs1 ⟨hP, hD, hS, hw.2.2.2⟩)
theorem gX0_2 (E : EN p c cc s m args own nL G) (hw : HB G A H0 (oW q v) H locs) (hl : Cond.fieldLink own index "ClerkVotes$OrderReader" "value" "I" ∈ GW) (hdg : decode cc pc = .ok (.getfield index, 3)) (kk : W p l e R s m args below meth c H locs cells slots Q (F0 m (pc + 3) ls (.int (v 2) :: rest))) : W p l e R s m args below meth c H locs cells slots Q (F0 m pc ls (.ref q :: rest)) :=
  va_get (T := TX0) (N := 4) (C := RX0) (ci := 0) E.1 E.2.1 E.2.2.2.2.1 inlX0 E.2.2.2.1 E.2.2.2.2.2.1 hw.1 0 rfl rfl 2 (by decide) (E.2.2.2.2.1 _ hl) (fun _ h => h) rfl hdg kk
theorem pX0_2 (E : EN p c cc s m args own nL G) (hw : HB G A H0 (oW q v) H locs) (hl : Cond.fieldLink own index "ClerkVotes$OrderReader" "value" "I" ∈ GW) {z : Int32} (hdg : decode cc pc = .ok (.putfield index, 3)) (kk : ∀ (H1 : Heap) (locs1 : List Loc), HB G A H0 (oW q (upd v 2 z)) H1 locs1 → W p l e R s m args below meth c H1 locs1 cells slots Q (F0 m (pc + 3) ls rest)) : W p l e R s m args below meth c H locs cells slots Q (F0 m pc ls (.int z :: .ref q :: rest)) :=
  va_put (T := TX0) (N := 4) (C := RX0) (ci := 0) (ty := .int) E.1 E.2.1 E.2.2.2.2.1 inlX0 tyX0 tyX0_ok nmX0 E.2.2.2.1 E.2.2.2.2.2.1 hw.1 hw.2.1 hw.2.2.1 0 rfl rfl 2 (by decide) (E.2.2.2.2.1 _ hl) (fun _ h => h) rfl (by decide +kernel) rfl rfl (Nat.le_of_ble_eq_true rfl) hdg (fun H1 locs1 hP hD hS => kk H1 locs1 ⟨hP, hD, hS, hw.2.2.2⟩)
theorem gX0_3 (E : EN p c cc s m args own nL G) (hw : HB G A H0 (oW q v) H locs) (hl : Cond.fieldLink own index "ClerkVotes$OrderReader" "willingness" "I" ∈ GW) (hdg : decode cc pc = .ok (.getfield index, 3)) (kk : W p l e R s m args below meth c H locs cells slots Q (F0 m (pc + 3) ls (.int (v 3) :: rest))) : W p l e R s m args below meth c H locs cells slots Q (F0 m pc ls (.ref q :: rest)) :=
  va_get (T := TX0) (N := 4) (C := RX0) (ci := 0) E.1 E.2.1 E.2.2.2.2.1 inlX0 E.2.2.2.1 E.2.2.2.2.2.1 hw.1 0 rfl rfl 3 (by decide) (E.2.2.2.2.1 _ hl) (fun _ h => h) rfl hdg kk
theorem pX0_3 (E : EN p c cc s m args own nL G) (hw : HB G A H0 (oW q v) H locs) (hl : Cond.fieldLink own index "ClerkVotes$OrderReader" "willingness" "I" ∈ GW) {z : Int32} (hdg : decode cc pc = .ok (.putfield index, 3)) (kk : ∀ (H1 : Heap) (locs1 : List Loc), HB G A H0 (oW q (upd v 3 z)) H1 locs1 → W p l e R s m args below meth c H1 locs1 cells slots Q (F0 m (pc + 3) ls rest)) : W p l e R s m args below meth c H locs cells slots Q (F0 m pc ls (.int z :: .ref q :: rest)) :=
  va_put (T := TX0) (N := 4) (C := RX0) (ci := 0) (ty := .int) E.1 E.2.1 E.2.2.2.2.1 inlX0 tyX0 tyX0_ok nmX0 E.2.2.2.1 E.2.2.2.2.2.1 hw.1 hw.2.1 hw.2.2.1 0 rfl rfl 3 (by decide) (E.2.2.2.2.1 _ hl) (fun _ h => h) rfl (by decide +kernel) rfl rfl (Nat.le_of_ble_eq_true rfl) hdg (fun H1 locs1 hP hD hS => kk H1 locs1 ⟨hP, hD, hS, hw.2.2.2⟩)
end LIB3
end
section
/-! ===== my own rows: states as functions into the numbers; loops by a measure ===== -/
abbrev NS : Type := Nat → Nat
def un (N : NS) (k v : Nat) : NS := fun j => if j = k then v else N j
theorem un_s {N : NS} {k v : Nat} : un N k v k = v := if_pos rfl
theorem un_n {N : NS} {k v j : Nat} (h : j ≠ k) : un N k v j = N j := if_neg h
def eN (N : NS) : Nat → Int32 := fun j => nI (N j)
theorem eN_un (N : NS) (k v : Nat) : upd (eN N) k (nI v) = eN (un N k v) := by
  funext j
  unfold upd eN un
  by_cases h : j = k
  · rw [if_pos h, if_pos h]
  · rw [if_neg h, if_neg h]
abbrev mN (G : GP) (a : Nat → Nat) (N : NS) (x : MX) : va_W := mW G a (eN N) x
theorem lvh_eq {ls : Array Slot} {nL : Nat} {l l' : List (Nat × Value)} (h : lv_has ls nL l) (e : l = l') : lv_has ls nL l' := e ▸ h
section LIB4
variable {p : Program} {l : Launch} {e : Env} {R : Room} {s : State} {m : MethodId} {args : Array Value} {below : List Frame} {meth : Method} {c : Code} {H : Heap} {locs : List Loc} {cells slots : Nat} {Q : State → Prop}
variable {cc : ByteArray} {pc : Nat} {ls : Array Slot} {rest st0 : List Value} {A : Nat → Prop} {H0 : Heap} {own : String} {nL : Nat} {G : GP} {a : Nat → Nat} {N : NS} {x : MX}
theorem lN4_0 (E : EN p c cc s m args own nL G) (hw : HB G A H0 (mN G a N x) H locs) {j v : Nat} (hj : j < 390) (hv : N j = v) (hdg : decode cc pc = .ok (.iaload, 1)) (kk : W p l e R s m args below meth c H locs cells slots Q (F0 m (pc + 1) ls (.int (nI v) :: rest))) : W p l e R s m args below meth c H locs cells slots Q (F0 m pc ls (.int (nI j) :: .ref (a 1) :: rest)) :=
  lX4_0 E hw hj hdg (by unfold eN; rw [hv]; exact kk)
theorem sN4_0 (E : EN p c cc s m args own nL G) (hw : HB G A H0 (mN G a N x) H locs) {j v : Nat} (hj : j < 390) (hdg : decode cc pc = .ok (.iastore, 1)) (kk : ∀ (H1 : Heap) (locs1 : List Loc), HB G A H0 (mN G a (un N j v) x) H1 locs1 → W p l e R s m args below meth c H1 locs1 cells slots Q (F0 m (pc + 1) ls rest)) : W p l e R s m args below meth c H locs cells slots Q (F0 m pc ls (.int (nI v) :: .int (nI j) :: .ref (a 1) :: rest)) :=
  sX4_0 E hw hj hdg (fun H1 locs1 hw1 => kk H1 locs1 (hw1.eq (by rw [eN_un])))
theorem lv_tableOutN (hx : p.tables.exec = Jvm.exec) (hb : c.code = cc) {dflt lo hi : Int} {offs : Array Int} {len k : Nat} {tgt : Nat} (hk : k < 2 ^ 31) (hdg : decode cc pc = .ok (.tableswitch dflt lo hi offs, len)) (h : (k : Int) < lo ∨ hi < (k : Int)) (ht : (pc : Int) + dflt = (tgt : Int))
    (kk : W p l e R s m args below meth c H locs cells slots Q (F0 m tgt ls rest)) : W p l e R s m args below meth c H locs cells slots Q (F0 m pc ls (.int (nI k) :: rest)) :=
  lv_tableOut hx hb hdg (by rw [nI_toInt hk]; exact h) ht kk
theorem W_ind1 {S1 : Type} (P : S1 → Prop) (μ : S1 → Nat) (I : S1 → va_W) (L : S1 → List (Nat × Value))
    (step : ∀ x1 : S1, P x1 → (∀ y1 : S1, P y1 → μ y1 < μ x1 → ∀ (H : Heap) (locs : List Loc) (ls : Array Slot), HB G A H0 (I y1) H locs → lv_has ls nL (L y1) → W p l e R s m args below meth c H locs cells slots Q (F0 m pc ls [])) →
      ∀ (H : Heap) (locs : List Loc) (ls : Array Slot), HB G A H0 (I x1) H locs → lv_has ls nL (L x1) → W p l e R s m args below meth c H locs cells slots Q (F0 m pc ls []))
    (x1 : S1) (h : P x1) (hw : HB G A H0 (I x1) H locs) (hl : lv_has ls nL (L x1)) : W p l e R s m args below meth c H locs cells slots Q (F0 m pc ls []) := by
  have key : ∀ (k : Nat) (x1 : S1), μ x1 < k → P x1 → ∀ (H : Heap) (locs : List Loc) (ls : Array Slot), HB G A H0 (I x1) H locs → lv_has ls nL (L x1) → W p l e R s m args below meth c H locs cells slots Q (F0 m pc ls []) := by
    intro k
    induction k with
    | zero => intro x1 h; exact absurd h (Nat.not_lt_zero _)
    | succ k ih => intro x1 hk hp; exact step x1 hp (fun y1 hy hm => ih y1 (by omega) hy)
  exact key (μ x1 + 1) x1 (Nat.lt_succ_self _) h H locs ls hw hl
theorem W_ind2 {S1 S2 : Type} (P : S1 → S2 → Prop) (μ : S1 → S2 → Nat) (I : S1 → S2 → va_W) (L : S1 → S2 → List (Nat × Value))
    (step : ∀ (x1 : S1) (x2 : S2), P x1 x2 → (∀ (y1 : S1) (y2 : S2), P y1 y2 → μ y1 y2 < μ x1 x2 → ∀ (H : Heap) (locs : List Loc) (ls : Array Slot), HB G A H0 (I y1 y2) H locs → lv_has ls nL (L y1 y2) → W p l e R s m args below meth c H locs cells slots Q (F0 m pc ls [])) →
      ∀ (H : Heap) (locs : List Loc) (ls : Array Slot), HB G A H0 (I x1 x2) H locs → lv_has ls nL (L x1 x2) → W p l e R s m args below meth c H locs cells slots Q (F0 m pc ls []))
    (x1 : S1) (x2 : S2) (h : P x1 x2) (hw : HB G A H0 (I x1 x2) H locs) (hl : lv_has ls nL (L x1 x2)) : W p l e R s m args below meth c H locs cells slots Q (F0 m pc ls []) :=
  W_ind1 (S1 := S1 × S2) (fun q => P q.1 q.2) (fun q => μ q.1 q.2) (fun q => I q.1 q.2) (fun q => L q.1 q.2) (fun q hp ih => step q.1 q.2 hp (fun y1 y2 => ih (y1, y2))) (x1, x2) h hw hl
theorem W_ind3 {S1 S2 S3 : Type} (P : S1 → S2 → S3 → Prop) (μ : S1 → S2 → S3 → Nat) (I : S1 → S2 → S3 → va_W) (L : S1 → S2 → S3 → List (Nat × Value))
    (step : ∀ (x1 : S1) (x2 : S2) (x3 : S3), P x1 x2 x3 → (∀ (y1 : S1) (y2 : S2) (y3 : S3), P y1 y2 y3 → μ y1 y2 y3 < μ x1 x2 x3 → ∀ (H : Heap) (locs : List Loc) (ls : Array Slot), HB G A H0 (I y1 y2 y3) H locs → lv_has ls nL (L y1 y2 y3) → W p l e R s m args below meth c H locs cells slots Q (F0 m pc ls [])) →
      ∀ (H : Heap) (locs : List Loc) (ls : Array Slot), HB G A H0 (I x1 x2 x3) H locs → lv_has ls nL (L x1 x2 x3) → W p l e R s m args below meth c H locs cells slots Q (F0 m pc ls []))
    (x1 : S1) (x2 : S2) (x3 : S3) (h : P x1 x2 x3) (hw : HB G A H0 (I x1 x2 x3) H locs) (hl : lv_has ls nL (L x1 x2 x3)) : W p l e R s m args below meth c H locs cells slots Q (F0 m pc ls []) :=
  W_ind1 (S1 := S1 × S2 × S3) (fun q => P q.1 q.2.1 q.2.2) (fun q => μ q.1 q.2.1 q.2.2) (fun q => I q.1 q.2.1 q.2.2) (fun q => L q.1 q.2.1 q.2.2) (fun q hp ih => step q.1 q.2.1 q.2.2 hp (fun y1 y2 y3 => ih (y1, y2, y3))) (x1, x2, x3) h hw hl
theorem lv_if_eqN (hx : p.tables.exec = Jvm.exec) (hb : c.code = cc) {a0 : Nat} (ha : a0 < 2 ^ 31) {off : Int} {tgt : Nat} (hdg : decode cc pc = .ok (.ifCond .eq off, 3)) (ht : (pc : Int) + off = (tgt : Int))
    (kt : a0 = 0 → W p l e R s m args below meth c H locs cells slots Q (F0 m tgt ls rest)) (kf : ¬ a0 = 0 → W p l e R s m args below meth c H locs cells slots Q (F0 m (pc + 3) ls rest)) : W p l e R s m args below meth c H locs cells slots Q (F0 m pc ls (.int (nI a0) :: rest)) :=
  lv_if_eq hx hb hdg ht (fun q => kt ((nI_eq0 ha).mp q)) (fun q => kf (fun z => q ((nI_eq0 ha).mpr z)))
theorem lv_if_neN (hx : p.tables.exec = Jvm.exec) (hb : c.code = cc) {a0 : Nat} (ha : a0 < 2 ^ 31) {off : Int} {tgt : Nat} (hdg : decode cc pc = .ok (.ifCond .ne off, 3)) (ht : (pc : Int) + off = (tgt : Int))
    (kt : ¬ a0 = 0 → W p l e R s m args below meth c H locs cells slots Q (F0 m tgt ls rest)) (kf : a0 = 0 → W p l e R s m args below meth c H locs cells slots Q (F0 m (pc + 3) ls rest)) : W p l e R s m args below meth c H locs cells slots Q (F0 m pc ls (.int (nI a0) :: rest)) :=
  lv_if_ne hx hb hdg ht (fun q => kt (fun z => q ((nI_eq0 ha).mpr z))) (fun q => kf ((nI_eq0 ha).mp q))
theorem lv_if_gtN (hx : p.tables.exec = Jvm.exec) (hb : c.code = cc) {a0 : Nat} (ha : a0 < 2 ^ 31) {off : Int} {tgt : Nat} (hdg : decode cc pc = .ok (.ifCond .gt off, 3)) (ht : (pc : Int) + off = (tgt : Int))
    (kt : 0 < a0 → W p l e R s m args below meth c H locs cells slots Q (F0 m tgt ls rest)) (kf : ¬ 0 < a0 → W p l e R s m args below meth c H locs cells slots Q (F0 m (pc + 3) ls rest)) : W p l e R s m args below meth c H locs cells slots Q (F0 m pc ls (.int (nI a0) :: rest)) :=
  lv_if_gt hx hb hdg ht (fun q => kt ((nI_ltI (a := 0) (by decide) ha).mp q)) (fun q => kf (fun z => q ((nI_ltI (a := 0) (by decide) ha).mpr z)))
theorem lv_if_leN (hx : p.tables.exec = Jvm.exec) (hb : c.code = cc) {a0 : Nat} (ha : a0 < 2 ^ 31) {off : Int} {tgt : Nat} (hdg : decode cc pc = .ok (.ifCond .le off, 3)) (ht : (pc : Int) + off = (tgt : Int))
    (kt : a0 ≤ 0 → W p l e R s m args below meth c H locs cells slots Q (F0 m tgt ls rest)) (kf : ¬ a0 ≤ 0 → W p l e R s m args below meth c H locs cells slots Q (F0 m (pc + 3) ls rest)) : W p l e R s m args below meth c H locs cells slots Q (F0 m pc ls (.int (nI a0) :: rest)) :=
  lv_if_le hx hb hdg ht (fun q => kt ((nI_leI (b := 0) ha (by decide)).mp q)) (fun q => kf (fun z => q ((nI_leI (b := 0) ha (by decide)).mpr z)))
theorem lv_if_ltN (hx : p.tables.exec = Jvm.exec) (hb : c.code = cc) {a0 : Nat} (ha : a0 < 2 ^ 31) {off : Int} {tgt : Nat} (hdg : decode cc pc = .ok (.ifCond .lt off, 3)) (ht : (pc : Int) + off = (tgt : Int))
    (kt : a0 < 0 → W p l e R s m args below meth c H locs cells slots Q (F0 m tgt ls rest)) (kf : ¬ a0 < 0 → W p l e R s m args below meth c H locs cells slots Q (F0 m (pc + 3) ls rest)) : W p l e R s m args below meth c H locs cells slots Q (F0 m pc ls (.int (nI a0) :: rest)) :=
  lv_if_lt hx hb hdg ht (fun q => kt ((nI_ltI (b := 0) ha (by decide)).mp q)) (fun q => kf (fun z => q ((nI_ltI (b := 0) ha (by decide)).mpr z)))
theorem lv_if_geN (hx : p.tables.exec = Jvm.exec) (hb : c.code = cc) {a0 : Nat} (ha : a0 < 2 ^ 31) {off : Int} {tgt : Nat} (hdg : decode cc pc = .ok (.ifCond .ge off, 3)) (ht : (pc : Int) + off = (tgt : Int))
    (kt : 0 ≤ a0 → W p l e R s m args below meth c H locs cells slots Q (F0 m tgt ls rest)) (kf : ¬ 0 ≤ a0 → W p l e R s m args below meth c H locs cells slots Q (F0 m (pc + 3) ls rest)) : W p l e R s m args below meth c H locs cells slots Q (F0 m pc ls (.int (nI a0) :: rest)) :=
  lv_if_ge hx hb hdg ht (fun q => kt ((nI_leI (a := 0) (by decide) ha).mp q)) (fun q => kf (fun z => q ((nI_leI (a := 0) (by decide) ha).mpr z)))
end LIB4
theorem sh_am : ∀ k, k < 31 → ((nI k &&& 31).toBitVec.smod 32).toNat = k := by decide +kernel
/-- the bit k of a set -/
theorem sh_bit {S k : Nat} (hS : S < 2 ^ 31) (hk : k < 31) : (nI S >>> (nI k &&& 31)) &&& 1 = nI (if S.testBit k then 1 else 0) := by
  have h1 : nI S >>> (nI k &&& 31) = nI (S / 2 ^ k) := pk_shrN hS _ k (sh_am k hk)
  rw [h1, pk_andN (k := 1) (Nat.lt_of_le_of_lt (Nat.div_le_self _ _) (by omega)) (by decide)]
  congr 1
  rw [Nat.testBit, Nat.shiftRight_eq_div_pow]
  rcases Nat.mod_two_eq_zero_or_one (S / 2 ^ k) with h | h <;> simp [h, Nat.and_comm, Nat.and_one_is_mod]
end
section
/-! ===== pure: what the calls do to the row of numbers N (0..3 settings, 4 tick, 5 deals, 6 messages, 7 delivered, 8 lost, 10.. ill, 15.. willing, 20.. came, 25.. sent, 30+14d.. the deals, 150+4p.. the messages) ===== -/
def mSend (k d f t : Nat) (N : NS) : NS :=
  if N 6 = 60 then un (un N (25 + f) (N (25 + f) + 1)) 8 (N 8 + 1)
  else un (un (un (un (un (un N (25 + f) (N (25 + f) + 1)) (150 + 4 * N 6) k) (150 + 4 * N 6 + 1) d) (150 + 4 * N 6 + 2) f) (150 + 4 * N 6 + 3) t) 6 (N 6 + 1)
def sa (k d f S : Nat) : Nat → NS → NS
  | 0, N => N
  | c + 1, N => if S.testBit c = true then mSend k d f c (sa k d f S c N) else sa k d f S c N
def mDropTo (p : Nat) (N : NS) (q : Nat) : NS := fun j => if j = 6 then N 6 - 1 else if 150 + 4 * p ≤ j ∧ j < q then N (j + 4) else N j
def mDrop (p : Nat) (N : NS) : NS := mDropTo p N (150 + 4 * (N 6 - 1))
def mAns (d c : Nat) (N : NS) : NS := if N (30 + 14 * d + 1) = 1 ∨ N (30 + 14 * d + 1) = 3 then mSend 3 d 4 c N else if N (30 + 14 * d + 1) = 2 then mSend 4 d 4 c N else N
def mTear (d S : Nat) (N : NS) : NS := sa 4 d 4 S 4 (un N (30 + 14 * d + 1) 2)
def mYes (d c : Nat) (N : NS) : NS :=
  if N (30 + 14 * d + 1) = 0 then
    if N (30 + 14 * d + 4) ||| 2 ^ c = N (30 + 14 * d + 0) then sa 3 d 4 (N (30 + 14 * d + 0)) 4 (un (un (un N (30 + 14 * d + 4) (N (30 + 14 * d + 4) ||| 2 ^ c)) (30 + 14 * d + 1) 1) (30 + 14 * d + 3) (N 4))
    else un N (30 + 14 * d + 4) (N (30 + 14 * d + 4) ||| 2 ^ c)
  else mAns d c N
def mNo (d c : Nat) (N : NS) : NS := if N (30 + 14 * d + 1) = 0 then mTear d (N (30 + 14 * d + 0) &&& (15 ^^^ 2 ^ c)) N else N
def mGot (d c : Nat) (N : NS) : NS :=
  if N (30 + 14 * d + 1) = 1 then un (un N (30 + 14 * d + 5) (N (30 + 14 * d + 5) ||| 2 ^ c)) (30 + 14 * d + 1) (if N (30 + 14 * d + 5) ||| 2 ^ c = N (30 + 14 * d + 0) then 3 else 1) else N
def mGet (k d c : Nat) (N : NS) : NS := if k = 1 then mYes d c N else if k = 2 then mNo d c N else if k = 5 then mGot d c N else mAns d c N
def mAsk (d c : Nat) (N : NS) : NS :=
  if N (30 + 14 * d + (6 + c)) = 0 then
    if N (15 + c) = 1 then mSend 1 d c 4 (un (un N (30 + 14 * d + (10 + c)) (N 4)) (30 + 14 * d + (6 + c)) 1)
    else mSend 2 d c 4 (un N (30 + 14 * d + (6 + c)) 3)
  else if N (30 + 14 * d + (6 + c)) = 2 then N
  else if N (30 + 14 * d + (6 + c)) = 1 then mSend 1 d c 4 N else mSend 2 d c 4 N
def mPosts (d c : Nat) (N : NS) : NS :=
  if N (30 + 14 * d + (6 + c)) = 1 then mSend 5 d c 4 (un N (30 + 14 * d + (6 + c)) 2) else if N (30 + 14 * d + (6 + c)) = 2 then mSend 5 d c 4 N else N
def mTears (d c : Nat) (N : NS) : NS := if N (30 + 14 * d + (6 + c)) = 0 ∨ N (30 + 14 * d + (6 + c)) = 1 then un N (30 + 14 * d + (6 + c)) 3 else N
def mWhatC (d c f : Nat) (N : NS) : NS :=
  if N (30 + 14 * d + (6 + c)) = 0 then mSend 4 d c f (un N (30 + 14 * d + (6 + c)) 3)
  else if N (30 + 14 * d + (6 + c)) = 2 then mSend 3 d c f N else if N (30 + 14 * d + (6 + c)) = 3 then mSend 4 d c f N else N
def mGetBy (c k d f : Nat) (N : NS) : NS := if k = 0 then mAsk d c N else if k = 3 then mPosts d c N else if k = 4 then mTears d c N else mWhatC d c f N
def mTo (t : Nat) (N : NS) : NS := un (un N 7 (N 7 + 1)) (20 + t) (N (20 + t) + 1)
def mDlv (p : Nat) (N : NS) : NS :=
  if N (10 + N (150 + 4 * p + 3)) = 1 then un (mDrop p N) 8 (N 8 + 1)
  else if N (150 + 4 * p + 3) = 4 then mGet (N (150 + 4 * p)) (N (150 + 4 * p + 1)) (N (150 + 4 * p + 2)) (mTo (N (150 + 4 * p + 3)) (mDrop p N))
  else mGetBy (N (150 + 4 * p + 3)) (N (150 + 4 * p)) (N (150 + 4 * p + 1)) (N (150 + 4 * p + 2)) (mTo (N (150 + 4 * p + 3)) (mDrop p N))
abbrev isTm (s e : Int32) : Prop := ¬ s ≤ 0 ∧ s - s / e * e = 0

def mPassB (d : Nat) (N : NS) : NS :=
  if N (30 + 14 * d + 1) = 0 ∧ ¬ nI (N 4) - nI (N (30 + 14 * d + 2)) < nI (N 0) then mTear d (N (30 + 14 * d + 0)) N
  else if N (30 + 14 * d + 1) = 1 ∧ isTm (nI (N 4) - nI (N (30 + 14 * d + 3))) (nI (N 2)) then sa 3 d 4 (N (30 + 14 * d + 0) &&& (15 ^^^ N (30 + 14 * d + 5))) 4 N else N
def mPassC (c d : Nat) (N : NS) : NS :=
  if (N (30 + 14 * d + 0)).testBit c = true ∧ N (30 + 14 * d + (6 + c)) = 1 ∧ isTm (nI (N 4) - nI (N (30 + 14 * d + (10 + c)))) (nI (N 1))
  then sa 6 d c (if N 3 = 1 then N (30 + 14 * d + 0) &&& (15 ^^^ 2 ^ c) else 0) 4 (mSend 6 d c 4 N) else N
def pbs : Nat → NS → NS
  | 0, N => N
  | d + 1, N => mPassB d (pbs d N)
def pcs (c : Nat) : Nat → NS → NS
  | 0, N => N
  | d + 1, N => mPassC c d (pcs c d N)
def pcl : Nat → NS → NS
  | 0, N => N
  | c + 1, N => if (pcl c N) (10 + c) = 1 then pcl c N else pcs c (N 5) (pcl c N)
def mPass (N : NS) : NS := un (pcl 4 (if N 14 = 1 then N else pbs (N 5) N)) 4 (N 4 + 1)
def dl0s : Nat → NS → NS
  | 0, N => N
  | k + 1, N => mDlv 0 (dl0s k N)
def mRound (N : NS) : NS := mPass (dl0s (N 6) N)
def cOfI (d s : Nat) (N : NS) : Nat → Nat
  | 0 => 0
  | c + 1 => cOfI d s N c ||| (if (N (30 + 14 * d + 0)).testBit c = true ∧ N (30 + 14 * d + (6 + c)) = s then 2 ^ c else 0)
def cOf (d s : Nat) (N : NS) : Nat := cOfI d s N 4
def stl (d : Nat) (N : NS) : Prop := cOf d 2 N ||| cOf d 3 N = N (30 + 14 * d + 0)
def rTo (d : Nat) : Nat → NS → Nat
  | 0, _ => 0
  | k + 1, N => if cOf d 2 N ||| cOf d 3 N = N (30 + 14 * d + 0) then 0 else rTo d k (mRound N) + 1
def rToN (d : Nat) : Nat → NS → NS
  | 0, N => N
  | k + 1, N => if cOf d 2 N ||| cOf d 3 N = N (30 + 14 * d + 0) then N else rToN d k (mRound N)
-- reading
theorem mSend_n {k d f t j : Nat} {N : NS} (hf : f < 5) (h6 : N 6 ≤ 60) (h1 : j ≠ 6) (h2 : j ≠ 8) (h3 : j < 25 ∨ (30 ≤ j ∧ j < 150)) : mSend k d f t N j = N j := by
  unfold mSend
  split
  · rw [un_n h2, un_n (by omega)]
  · rw [un_n h1, un_n (by omega), un_n (by omega), un_n (by omega), un_n (by omega), un_n (by omega)]
theorem mSend_6 {k d f t : Nat} {N : NS} (hf : f < 5) (h6 : N 6 ≤ 60) : mSend k d f t N 6 ≤ 60 := by
  unfold mSend
  split
  · rw [un_n (by omega), un_n (by omega)]; exact h6
  · rw [un_s]; omega
theorem mSend_6ge {k d f t : Nat} {N : NS} (hf : f < 5) : N 6 ≤ mSend k d f t N 6 := by
  unfold mSend
  split
  · rw [un_n (by omega), un_n (by omega)]; exact Nat.le_refl _
  · rw [un_s]; omega
theorem sa_6 {k d f S : Nat} {N : NS} (hf : f < 5) (h6 : N 6 ≤ 60) : ∀ c, sa k d f S c N 6 ≤ 60
  | 0 => h6
  | c + 1 => by
    rw [sa]
    split
    · exact mSend_6 hf (sa_6 hf h6 c)
    · exact sa_6 hf h6 c
theorem sa_6ge {k d f S : Nat} {N : NS} (hf : f < 5) : ∀ c, N 6 ≤ sa k d f S c N 6
  | 0 => Nat.le_refl _
  | c + 1 => by
    rw [sa]
    split
    · exact Nat.le_trans (sa_6ge hf c) (mSend_6ge hf)
    · exact sa_6ge hf c
theorem sa_n {k d f S j : Nat} {N : NS} (hf : f < 5) (h6 : N 6 ≤ 60) (h1 : j ≠ 6) (h2 : j ≠ 8) (h3 : j < 25 ∨ (30 ≤ j ∧ j < 150)) : ∀ c, sa k d f S c N j = N j
  | 0 => rfl
  | c + 1 => by
    rw [sa]
    split
    · rw [mSend_n hf (sa_6 hf h6 c) h1 h2 h3]; exact sa_n hf h6 h1 h2 h3 c
    · exact sa_n hf h6 h1 h2 h3 c
theorem mDrop_n {p j : Nat} {N : NS} (h1 : j ≠ 6) (h2 : j < 150) : mDrop p N j = N j := by
  unfold mDrop mDropTo
  rw [if_neg h1, if_neg (by omega)]
theorem mDrop_6 {p : Nat} {N : NS} : mDrop p N 6 = N 6 - 1 := by
  unfold mDrop mDropTo
  rw [if_pos rfl]
theorem mDropTo_6 {p q : Nat} {N : NS} : mDropTo p N q 6 = N 6 - 1 := by
  unfold mDropTo
  rw [if_pos rfl]
theorem mDropTo_hi {p q j : Nat} {N : NS} (h : q ≤ j) (h6 : j ≠ 6) : mDropTo p N q j = N j := by
  unfold mDropTo
  rw [if_neg h6, if_neg (by omega)]
theorem mDropTo_0 {p : Nat} {N : NS} : un N 6 (N 6 - 1) = mDropTo p N (150 + 4 * p) := by
  funext j
  unfold un mDropTo
  by_cases h : j = 6
  · rw [if_pos h, if_pos h]
  · rw [if_neg h, if_neg h, if_neg (by omega)]
theorem mDropTo_s {p q : Nat} {N : NS} (h : 150 + 4 * p ≤ q) : un (mDropTo p N q) q (N (q + 4)) = mDropTo p N (q + 1) := by
  funext j
  unfold un mDropTo
  by_cases h1 : j = q
  · subst h1; rw [if_pos rfl, if_neg (by omega), if_pos ⟨h, by omega⟩]
  · rw [if_neg h1]
    by_cases h6 : j = 6
    · rw [if_pos h6, if_pos h6]
    · rw [if_neg h6, if_neg h6]
      by_cases h2 : 150 + 4 * p ≤ j ∧ j < q
      · rw [if_pos h2, if_pos ⟨h2.1, by omega⟩]
      · rw [if_neg h2, if_neg (by omega)]
-- sets
theorem shl_1 : ∀ c, c < 31 → nI 1 <<< (nI c &&& 31) = nI (2 ^ c) := by decide +kernel
theorem or_nI (a b : Nat) : nI a ||| nI b = nI (a ||| b) := by
  apply Int32.toBitVec_inj.1
  show BitVec.ofNat 32 a ||| BitVec.ofNat 32 b = BitVec.ofNat 32 (a ||| b)
  apply BitVec.eq_of_getLsbD_eq
  intro i hi
  simp [hi]
theorem andn_nI : ∀ S, S < 16 → ∀ T, T < 16 → nI S &&& (nI T ^^^ (-1)) = nI (S &&& (15 ^^^ T)) := by decide +kernel
theorem or_lt16 : ∀ S, S < 16 → ∀ c, c < 4 → S ||| 2 ^ c < 16 := by decide +kernel
theorem and_lt16 {S T : Nat} (h : S < 16) : S &&& T < 16 := Nat.lt_of_le_of_lt Nat.and_le_left h
theorem pow_lt16 : ∀ c, c < 4 → 2 ^ c < 16 := by decide +kernel
theorem cOfI_lt {d s : Nat} {N : NS} : ∀ c, c ≤ 4 → cOfI d s N c < 16
  | 0, _ => Nat.succ_pos 15
  | c + 1, h => by
    rw [cOfI]
    have h1 := cOfI_lt (d := d) (s := s) (N := N) c (by omega)
    split
    · exact or_lt16 _ h1 c (by omega)
    · rw [Nat.or_zero]; exact h1
end
section
/-! ===== pure: the bounds that all calls keep ===== -/
def FI (N : NS) : Prop := N 6 ≤ 60 ∧ N 5 ≤ 8 ∧ (∀ i, i < 3 → 1 ≤ N i ∧ N i ≤ 50) ∧ N 3 ≤ 1 ∧ (∀ j, 10 ≤ j → j < 19 → N j ≤ 1) ∧ (∀ d k, d < 8 → k < 10 → k ≠ 2 → k ≠ 3 → N (30 + 14 * d + k) ≤ (if k = 1 ∨ 6 ≤ k then 3 else 15))
theorem FI.f0 {N : NS} (h : FI N) {d : Nat} (hd : d < 8) : N (30 + 14 * d + 0) < 16 := Nat.lt_succ_of_le (h.2.2.2.2.2 d 0 hd (by decide) (by decide) (by decide))
theorem FI.f1 {N : NS} (h : FI N) {d : Nat} (hd : d < 8) : N (30 + 14 * d + 1) < 4 := Nat.lt_succ_of_le (h.2.2.2.2.2 d 1 hd (by decide) (by decide) (by decide))
theorem FI.f4 {N : NS} (h : FI N) {d : Nat} (hd : d < 8) : N (30 + 14 * d + 4) < 16 := Nat.lt_succ_of_le (h.2.2.2.2.2 d 4 hd (by decide) (by decide) (by decide))
theorem FI.f5 {N : NS} (h : FI N) {d : Nat} (hd : d < 8) : N (30 + 14 * d + 5) < 16 := Nat.lt_succ_of_le (h.2.2.2.2.2 d 5 hd (by decide) (by decide) (by decide))
theorem FI.f6 {N : NS} (h : FI N) {d c : Nat} (hd : d < 8) (hc : c < 4) : N (30 + 14 * d + (6 + c)) < 4 := by
  have := h.2.2.2.2.2 d (6 + c) hd (by omega) (by omega) (by omega)
  rw [if_pos (by omega)] at this
  omega
theorem FI.il {N : NS} (h : FI N) {w : Nat} (hw : w < 5) : N (10 + w) ≤ 1 := h.2.2.2.2.1 _ (by omega) (by omega)
theorem FI.wl {N : NS} (h : FI N) {w : Nat} (hw : w < 4) : N (15 + w) ≤ 1 := h.2.2.2.2.1 _ (by omega) (by omega)
theorem FI.uc {N : NS} (h : FI N) {j v : Nat} (hj : j = 4 ∨ j = 7 ∨ j = 8 ∨ (20 ≤ j ∧ j < 30) ∨ 142 ≤ j) : FI (un N j v) := by
  obtain ⟨h1, h2, h3, h4, h5, h6⟩ := h
  refine ⟨?_, ?_, fun i hi => ?_, ?_, fun i hi hi2 => ?_, fun d k hd hk k2 k3 => ?_⟩
  · rw [un_n (by omega)]; exact h1
  · rw [un_n (by omega)]; exact h2
  · rw [un_n (by omega)]; exact h3 i hi
  · rw [un_n (by omega)]; exact h4
  · rw [un_n (by omega)]; exact h5 i hi hi2
  · rw [un_n (by omega)]; exact h6 d k hd hk k2 k3
theorem FI.u6 {N : NS} (h : FI N) {v : Nat} (hv : v ≤ 60) : FI (un N 6 v) := by
  obtain ⟨h1, h2, h3, h4, h5, h6⟩ := h
  refine ⟨?_, ?_, fun i hi => ?_, ?_, fun i hi hi2 => ?_, fun d k hd hk k2 k3 => ?_⟩
  · rw [un_s]; exact hv
  · rw [un_n (by omega)]; exact h2
  · rw [un_n (by omega)]; exact h3 i hi
  · rw [un_n (by omega)]; exact h4
  · rw [un_n (by omega)]; exact h5 i hi hi2
  · rw [un_n (by omega)]; exact h6 d k hd hk k2 k3
theorem FI.u5 {N : NS} (h : FI N) {v : Nat} (hv : v ≤ 8) : FI (un N 5 v) := by
  obtain ⟨h1, h2, h3, h4, h5, h6⟩ := h
  refine ⟨?_, ?_, fun i hi => ?_, ?_, fun i hi hi2 => ?_, fun d k hd hk k2 k3 => ?_⟩
  · rw [un_n (by omega)]; exact h1
  · rw [un_s]; exact hv
  · rw [un_n (by omega)]; exact h3 i hi
  · rw [un_n (by omega)]; exact h4
  · rw [un_n (by omega)]; exact h5 i hi hi2
  · rw [un_n (by omega)]; exact h6 d k hd hk k2 k3
theorem FI.uw {N : NS} (h : FI N) {j v : Nat} (hj : 10 ≤ j ∧ j < 20) (hv : v ≤ 1) : FI (un N j v) := by
  obtain ⟨h1, h2, h3, h4, h5, h6⟩ := h
  refine ⟨?_, ?_, fun i hi => ?_, ?_, fun i hi hi2 => ?_, fun d k hd hk k2 k3 => ?_⟩
  · rw [un_n (by omega)]; exact h1
  · rw [un_n (by omega)]; exact h2
  · rw [un_n (by omega)]; exact h3 i hi
  · rw [un_n (by omega)]; exact h4
  · by_cases q : i = j
    · subst q; rw [un_s]; exact hv
    · rw [un_n q]; exact h5 i hi hi2
  · rw [un_n (by omega)]; exact h6 d k hd hk k2 k3
theorem FI.ud {N : NS} (h : FI N) {d0 k0 v : Nat} (hd0 : d0 < 8) (hk0 : k0 < 14) (hv : k0 < 10 → k0 ≠ 2 → k0 ≠ 3 → v ≤ (if k0 = 1 ∨ 6 ≤ k0 then 3 else 15)) : FI (un N (30 + 14 * d0 + k0) v) := by
  obtain ⟨h1, h2, h3, h4, h5, h6⟩ := h
  refine ⟨?_, ?_, fun i hi => ?_, ?_, fun i hi hi2 => ?_, fun d k hd hk k2 k3 => ?_⟩
  · rw [un_n (by omega)]; exact h1
  · rw [un_n (by omega)]; exact h2
  · rw [un_n (by omega)]; exact h3 i hi
  · rw [un_n (by omega)]; exact h4
  · rw [un_n (by omega)]; exact h5 i hi hi2
  · by_cases q : 30 + 14 * d + k = 30 + 14 * d0 + k0
    · obtain ⟨rfl, rfl⟩ : d = d0 ∧ k = k0 := by omega
      rw [un_s]; exact hv hk k2 k3
    · rw [un_n q]; exact h6 d k hd hk k2 k3
theorem FI.snd {N : NS} (h : FI N) {k d f t : Nat} (hf : f < 5) : FI (mSend k d f t N) := by
  unfold mSend
  split
  · exact (h.uc (by omega)).uc (by omega)
  · exact (((((h.uc (by omega)).uc (by omega)).uc (by omega)).uc (by omega)).uc (by omega)).u6 (by have := h.1; omega)
theorem FI.sal {N : NS} (h : FI N) {k d f S : Nat} (hf : f < 5) : ∀ c, FI (sa k d f S c N)
  | 0 => h
  | c + 1 => by
    rw [sa]
    split
    · exact (FI.sal h hf c).snd hf
    · exact FI.sal h hf c
theorem FI.congr {N M : NS} (h : FI N) (h6 : M 6 ≤ 60) (hj : ∀ j, j ≠ 6 → j < 142 → M j = N j) : FI M := by
  obtain ⟨h1, h2, h3, h4, h5, h7⟩ := h
  refine ⟨h6, ?_, fun i hi => ?_, ?_, fun i hi hi2 => ?_, fun d k hd hk k2 k3 => ?_⟩
  · rw [hj _ (by omega) (by omega)]; exact h2
  · rw [hj _ (by omega) (by omega)]; exact h3 i hi
  · rw [hj _ (by omega) (by omega)]; exact h4
  · rw [hj _ (by omega) (by omega)]; exact h5 i hi hi2
  · rw [hj _ (by omega) (by omega)]; exact h7 d k hd hk k2 k3
theorem FI.drp {N : NS} (h : FI N) {p : Nat} : FI (mDrop p N) := h.congr (by rw [mDrop_6]; have := h.1; omega) (fun j h1 h2 => mDrop_n h1 (by omega))
theorem FI.tto {N : NS} (h : FI N) {t : Nat} (ht : t < 5) : FI (mTo t N) := (h.uc (by omega)).uc (by omega)
theorem FI.anz {N : NS} (h : FI N) {d c : Nat} : FI (mAns d c N) := by
  unfold mAns
  split
  · exact h.snd (by decide)
  · split
    · exact h.snd (by decide)
    · exact h
theorem FI.ter {N : NS} (h : FI N) {d S : Nat} (hd : d < 8) : FI (mTear d S N) := (h.ud hd (by decide) (by decide)).sal (by decide) 4
theorem FI.gt {N : NS} (h : FI N) {k d c : Nat} (hd : d < 8) (hc : c < 4) : FI (mGet k d c N) := by
  have g4 := or_lt16 _ (h.f4 hd) c hc
  have g5 := or_lt16 _ (h.f5 hd) c hc
  unfold mGet mYes mNo mGot
  split
  · split
    · split
      · exact (((h.ud hd (by decide) (fun _ _ _ => by rw [if_neg (by decide)]; omega)).ud hd (by decide) (by decide)).ud hd (by decide) (fun _ _ q => absurd rfl q)).sal (by decide) 4
      · exact h.ud hd (by decide) (fun _ _ _ => by rw [if_neg (by decide)]; omega)
    · exact h.anz
  · split
    · split
      · exact h.ter hd
      · exact h
    · split
      · split
        · refine (h.ud hd (by decide) (fun _ _ _ => by rw [if_neg (by decide)]; omega)).ud hd (by decide) (fun _ _ _ => ?_)
          split <;> decide
        · exact h
      · exact h.anz
theorem FI.gtb {N : NS} (h : FI N) {c k d f : Nat} (hd : d < 8) (hc : c < 4) : FI (mGetBy c k d f N) := by
  have hst : ∀ v, v ≤ 3 → FI (un N (30 + 14 * d + (6 + c)) v) := fun v hv => h.ud hd (by omega) (fun _ _ _ => by rw [if_pos (by omega)]; exact hv)
  unfold mGetBy mAsk mPosts mTears mWhatC
  split
  · split
    · split
      · refine FI.snd (FI.ud (h.ud hd (by omega) (fun q => absurd q (by omega))) hd (by omega) (fun _ _ _ => by rw [if_pos (by omega)]; decide)) (by omega)
      · exact (hst 3 (by decide)).snd (by omega)
    · split
      · exact h
      · split
        · exact h.snd (by omega)
        · exact h.snd (by omega)
  · split
    · split
      · exact (hst 2 (by decide)).snd (by omega)
      · split
        · exact h.snd (by omega)
        · exact h
    · split
      · split
        · exact hst 3 (by decide)
        · exact h
      · split
        · exact (hst 3 (by decide)).snd (by omega)
        · split
          · exact h.snd (by omega)
          · split
            · exact h.snd (by omega)
            · exact h
theorem FI.pB {N : NS} (h : FI N) {d : Nat} (hd : d < 8) : FI (mPassB d N) := by
  unfold mPassB
  split
  · exact h.ter hd
  · split
    · exact h.sal (by decide) 4
    · exact h
theorem FI.pC {N : NS} (h : FI N) {c d : Nat} (hc : c < 4) : FI (mPassC c d N) := by
  unfold mPassC
  split
  · exact (h.snd (by omega)).sal (by omega) 4
  · exact h
theorem FI.pb8 {N : NS} (h : FI N) : ∀ d, d ≤ 8 → FI (pbs d N)
  | 0, _ => h
  | d + 1, hd => by rw [pbs]; exact (FI.pb8 h d (by omega)).pB (by omega)
theorem FI.pc8 {N : NS} (h : FI N) {c : Nat} (hc : c < 4) : ∀ d, FI (pcs c d N)
  | 0 => h
  | d + 1 => by rw [pcs]; exact (FI.pc8 h hc d).pC hc
theorem FI.pl4 {N : NS} (h : FI N) : ∀ c, c ≤ 4 → FI (pcl c N)
  | 0, _ => h
  | c + 1, hc => by
    rw [pcl]
    split
    · exact FI.pl4 h c (by omega)
    · exact (FI.pl4 h c (by omega)).pc8 (by omega) _
theorem FI.pss {N : NS} (h : FI N) : FI (mPass N) := by
  unfold mPass
  refine FI.uc (FI.pl4 ?_ 4 (by decide)) (by omega)
  split
  · exact h
  · exact h.pb8 _ h.2.1
-- what a tick leaves as it was
theorem mPassB_n {d j : Nat} {N : NS} (h : FI N) (hd : d < 8) (hj : j ≠ 6 ∧ j ≠ 8 ∧ j < 25) : mPassB d N j = N j := by
  unfold mPassB mTear
  split
  · rw [sa_n (by decide) (by rw [un_n (by omega)]; exact h.1) hj.1 hj.2.1 (Or.inl hj.2.2), un_n (by omega)]
  · split
    · rw [sa_n (by decide) h.1 hj.1 hj.2.1 (Or.inl hj.2.2)]
    · rfl
theorem mPassC_n {c d j : Nat} {N : NS} (h : FI N) (hc : c < 4) (hj : j ≠ 6 ∧ j ≠ 8 ∧ (j < 25 ∨ (30 ≤ j ∧ j < 150))) : mPassC c d N j = N j := by
  unfold mPassC
  split
  · rw [sa_n (by omega) (mSend_6 (by omega) h.1) hj.1 hj.2.1 hj.2.2, mSend_n (by omega) h.1 hj.1 hj.2.1 hj.2.2]
  · rfl
theorem pbs_n {j : Nat} {N : NS} (h : FI N) (hj : j ≠ 6 ∧ j ≠ 8 ∧ j < 25) : ∀ d, d ≤ 8 → pbs d N j = N j
  | 0, _ => rfl
  | d + 1, hd => by rw [pbs, mPassB_n (h.pb8 d (by omega)) (by omega) hj]; exact pbs_n h hj d (by omega)
theorem pcs_n {c j : Nat} {N : NS} (h : FI N) (hc : c < 4) (hj : j ≠ 6 ∧ j ≠ 8 ∧ (j < 25 ∨ (30 ≤ j ∧ j < 150))) : ∀ d, pcs c d N j = N j
  | 0 => rfl
  | d + 1 => by rw [pcs, mPassC_n (h.pc8 hc d) hc hj]; exact pcs_n h hc hj d
theorem pcl_n {j : Nat} {N : NS} (h : FI N) (hj : j ≠ 6 ∧ j ≠ 8 ∧ (j < 25 ∨ (30 ≤ j ∧ j < 150))) : ∀ c, c ≤ 4 → pcl c N j = N j
  | 0, _ => rfl
  | c + 1, hc => by
    rw [pcl]
    split
    · exact pcl_n h hj c (by omega)
    · rw [pcs_n (h.pl4 c (by omega)) (by omega) hj]; exact pcl_n h hj c (by omega)
theorem hF_p0 {N : NS} (h : FI N) : FI (if N 14 = 1 then N else pbs (N 5) N) := by
  split
  · exact h
  · exact h.pb8 _ h.2.1
theorem hF_p0n {N : NS} (h : FI N) {j : Nat} (hj : j ≠ 6 ∧ j ≠ 8 ∧ j < 25) : (if N 14 = 1 then N else pbs (N 5) N) j = N j := by
  split
  · rfl
  · exact pbs_n h hj _ h.2.1
end
section
/-! ===== pure: the calls ===== -/
def cpA (i : Nat) (f g : Nat → Int32) : Nat → Int32 := fun j => if j < i then f j else g j
def cpN (i : Nat) (K N : NS) : NS := fun j => if j < i then K j else N j
def hsh (i : Nat) (h : Nat → Int32) : Nat → Int32 := fun j => if j < i then h (j + 390) else h j
def hcp (b i : Nat) (N : NS) (h : Nat → Int32) : Nat → Int32 := fun j => if b ≤ j ∧ j < b + i then nI (N (j - b)) else h j
theorem cpA_0 {f g : Nat → Int32} : cpA 0 f g = g := by funext j; exact if_neg (Nat.not_lt_zero j)
theorem cpA_s {i : Nat} {N : NS} {g : Nat → Int32} : upd (cpA i (eN N) g) i (nI (N i)) = cpA (i + 1) (eN N) g := by
  funext j
  unfold upd cpA
  by_cases h : j = i
  · subst h; rw [if_pos rfl, if_pos (by omega)]; rfl
  · rw [if_neg h]
    by_cases h2 : j < i
    · rw [if_pos h2, if_pos (by omega)]
    · rw [if_neg h2, if_neg (by omega)]
theorem cpN_0 {K N : NS} : cpN 0 K N = N := by funext j; exact if_neg (Nat.not_lt_zero j)
theorem cpN_s {i : Nat} {K N : NS} : un (cpN i K N) i (K i) = cpN (i + 1) K N := by
  funext j
  unfold un cpN
  by_cases h : j = i
  · subst h; rw [if_pos rfl, if_pos (by omega)]
  · rw [if_neg h]
    by_cases h2 : j < i
    · rw [if_pos h2, if_pos (by omega)]
    · rw [if_neg h2, if_neg (by omega)]
theorem hsh_0 {h : Nat → Int32} : hsh 0 h = h := by funext j; exact if_neg (Nat.not_lt_zero j)
theorem hsh_s {i : Nat} {h : Nat → Int32} : upd (hsh i h) i (hsh i h (i + 390)) = hsh (i + 1) h := by
  funext j
  unfold upd hsh
  by_cases q : j = i
  · subst q; rw [if_pos rfl, if_neg (by omega), if_pos (by omega)]
  · rw [if_neg q]
    by_cases h2 : j < i
    · rw [if_pos h2, if_pos (by omega)]
    · rw [if_neg h2, if_neg (by omega)]
theorem hcp_0 {b : Nat} {N : NS} {h : Nat → Int32} : hcp b 0 N h = h := by funext j; exact if_neg (by omega)
theorem hcp_s {b i : Nat} {N : NS} {h : Nat → Int32} : upd (hcp b i N h) (b + i) (nI (N i)) = hcp b (i + 1) N h := by
  funext j
  unfold upd hcp
  by_cases q : j = b + i
  · subst q; rw [if_pos rfl, if_pos (by omega), show b + i - b = i by omega]
  · rw [if_neg q]
    by_cases h2 : b ≤ j ∧ j < b + i
    · rw [if_pos h2, if_pos (by omega)]
    · rw [if_neg h2, if_neg (by omega)]
theorem ax_ax {x : MX} {k : Nat} {f g : Nat → Int32} : ax (ax x k f) k g = ax x k g := by
  unfold ax
  congr 1
  funext j
  unfold va_up
  by_cases h : j = k
  · rw [if_pos h, if_pos h]
  · rw [if_neg h, if_neg h]; exact if_neg h
theorem ax_s {x : MX} {k : Nat} {f : Nat → Int32} : (ax x k f).2 k = f := va_up_self _ _ _
theorem ax_r {x : MX} {k : Nat} : ax x k (x.2 k) = x := by
  unfold ax
  refine Prod.ext rfl ?_
  funext j
  show va_up x.2 k (x.2 k) j = x.2 j
  unfold va_up
  by_cases h : j = k
  · rw [if_pos h, h]
  · rw [if_neg h]
theorem sx_sx {x : MX} {i : Nat} {u v : Int32} : sx (sx x i u) i v = sx x i v := by
  unfold sx upd
  congr 1
  funext j
  by_cases h : j = i
  · rw [if_pos h, if_pos h]
  · rw [if_neg h, if_neg h]; exact if_neg h
/-- the history behind one more state -/
def recH (u : Nat) (N : NS) (h : Nat → Int32) : Nat → Int32 := if u = 6 then hcp 1950 390 N (hsh 1950 h) else hcp (u * 390) 390 N h
def recX (u : Nat) (N : NS) (x : MX) : MX := sx (ax x 1 (recH u N (x.2 1))) 0 (nI (if u = 6 then 6 else u + 1))
def rcd (u : Nat) (N : NS) (x : MX) : MX := if x.1 2 = 0 then recX u N x else x
def mLose (p : Nat) (N : NS) : NS := un (mDrop p N) 8 (mDrop p N 8 + 1)
def mTw (p : Nat) (N : NS) (i : Nat) : NS := fun j => if 150 + 4 * N 6 ≤ j ∧ j < 150 + 4 * N 6 + i then N (150 + 4 * p + (j - (150 + 4 * N 6))) else N j
def mTwi (p : Nat) (N : NS) : NS := un (mTw p N 4) 6 (N 6 + 1)
theorem mTw_0 {p : Nat} {N : NS} : mTw p N 0 = N := by funext j; exact if_neg (by omega)
theorem mTw_n {p i j : Nat} {N : NS} (h : j < 150 + 4 * N 6) : mTw p N i j = N j := if_neg (by omega)
theorem mTw_s {p i : Nat} {N : NS} : un (mTw p N i) (150 + 4 * N 6 + i) (N (150 + 4 * p + i)) = mTw p N (i + 1) := by
  funext j
  unfold un mTw
  by_cases q : j = 150 + 4 * N 6 + i
  · subst q; rw [if_pos rfl, if_pos (by omega), show 150 + 4 * N 6 + i - (150 + 4 * N 6) = i by omega]
  · rw [if_neg q]
    by_cases h2 : 150 + 4 * N 6 ≤ j ∧ j < 150 + 4 * N 6 + i
    · rw [if_pos h2, if_pos (by omega)]
    · rw [if_neg h2, if_neg (by omega)]
def illI (N : NS) : Nat → Nat
  | 0 => 0
  | w + 1 => illI N w + N (10 + w)
def illN (N : NS) : Nat := illI N 5
def mFgt (w d : Nat) (N : NS) : NS :=
  if w = 4 then un (un N (30 + 14 * d + 5) (if N (30 + 14 * d + 1) = 1 then 0 else N (30 + 14 * d + 5))) (30 + 14 * d + 1) (if N (30 + 14 * d + 1) = 0 then 2 else N (30 + 14 * d + 1))
  else if N (30 + 14 * d + (6 + w)) = 0 then un N (30 + 14 * d + (6 + w)) (if (N (30 + 14 * d + 0)).testBit w = true then 3 else 0) else N
def fgs (w : Nat) : Nat → NS → NS
  | 0, N => N
  | d + 1, N => mFgt w d (fgs w d N)
def mOpen (S : Nat) (N : NS) : NS := sa 0 (N 5) 4 S 4 (un (un (un N 5 (N 5 + 1)) (30 + 14 * N 5 + 0) S) (30 + 14 * N 5 + 2) (N 4))
def mFall (w : Nat) (N : NS) : NS := fgs w (N 5) (un N (10 + w) 1)
def mRise (w : Nat) (N : NS) : NS := un N (10 + w) 0
def mTicks : Nat → NS → NS
  | 0, N => N
  | t + 1, N => mPass (mTicks t N)
-- answers and states of the calls, for arguments in their ranges
def rOpen (N : NS) : Int32 := if N 5 = 8 then -4 else if N 14 = 1 then -5 else nI (N 5)
def nOpen (S : Nat) (N : NS) : NS := if N 5 = 8 ∨ N 14 = 1 then N else mOpen S N
def rDel (p : Nat) (N : NS) : Int32 := if p < N 6 then nI (mDlv p N 6) else -1
def nDel (p : Nat) (N : NS) : NS := if p < N 6 then mDlv p N else N
def rLos (p : Nat) (N : NS) : Int32 := if p < N 6 then nI (N 6 - 1) else -1
def nLos (p : Nat) (N : NS) : NS := if p < N 6 then mLose p N else N
def rTwi (p : Nat) (N : NS) : Int32 := if p < N 6 then (if N 6 = 60 then -4 else nI (N 6 + 1)) else -1
def nTwi (p : Nat) (N : NS) : NS := if p < N 6 ∧ ¬ N 6 = 60 then mTwi p N else N
def rFal (w : Nat) (N : NS) : Int32 := if N (10 + w) = 1 then -5 else nI (illN (mFall w N))
def nFal (w : Nat) (N : NS) : NS := if N (10 + w) = 1 then N else mFall w N
def rRis (w : Nat) (N : NS) : Int32 := if N (10 + w) = 1 then nI (illN (mRise w N)) else -5
def nRis (w : Nat) (N : NS) : NS := if N (10 + w) = 1 then mRise w N else N
-- counts
def utI (w : Nat) (N : NS) : Nat → Nat
  | 0 => 0
  | p + 1 => utI w N p + (if N (150 + 4 * p + 3) = w then 1 else 0)
def dwI (q : Nat) (N : NS) : Nat → Nat
  | 0 => 0
  | d + 1 => dwI q N d + (if (q = 1 ∨ ¬ cOf d 2 N = 0) ∧ (q = 0 ∨ ¬ cOf d 3 N = 0) then 1 else 0)
def elK (d k : Nat) (N : NS) : Nat → Prop
  | 0 => ¬ N 14 = 1 ∧ ¬ N (30 + 14 * d + 1) = 0
  | c + 1 => elK d k N c ∨ (N 3 = 1 ∧ ¬ c = k ∧ (N (30 + 14 * d + 0)).testBit c = true ∧ ¬ N (10 + c) = 1 ∧ ¬ N (30 + 14 * d + (6 + c)) = 1)
def caK (d k : Nat) (N : NS) : Prop := elK d k N 4 ∧ ¬ N (10 + k) = 1 ∧ (N (30 + 14 * d + 0)).testBit k = true ∧ N (30 + 14 * d + (6 + k)) = 1
theorem FI.lose {N : NS} (h : FI N) {p : Nat} : FI (mLose p N) := h.drp.uc (by omega)
theorem FI.twi {N : NS} (h : FI N) {p : Nat} (hn : ¬ N 6 = 60) : FI (mTwi p N) := by
  unfold mTwi
  refine FI.u6 (h.congr ?_ (fun j _ hj => mTw_n (by omega))) (by have := h.1; omega)
  rw [mTw_n (by omega)]; exact h.1
theorem FI.fgt {N : NS} (h : FI N) {w d : Nat} (hw : w < 5) (hd : d < 8) : FI (mFgt w d N) := by
  have g5 := h.f5 hd
  have g1 := h.f1 hd
  unfold mFgt
  split
  · refine (h.ud hd (by decide) (fun _ _ _ => ?_)).ud hd (by decide) (fun _ _ _ => ?_)
    · show _ ≤ 15; split <;> omega
    · show _ ≤ 3; split <;> omega
  · split
    · refine h.ud hd (by omega) (fun _ _ _ => ?_)
      have q : (if 6 + w = 1 ∨ 6 ≤ 6 + w then 3 else 15) = 3 := if_pos (by omega)
      rw [q]; split <;> decide
    · exact h
theorem FI.fgs {N : NS} (h : FI N) {w : Nat} (hw : w < 5) : ∀ d, d ≤ 8 → FI (fgs w d N)
  | 0, _ => h
  | d + 1, hd => (FI.fgs h hw d (by omega)).fgt hw (by omega)
theorem FI.fall {N : NS} (h : FI N) {w : Nat} (hw : w < 5) : FI (mFall w N) := (h.uw (by omega) (by decide)).fgs hw _ h.2.1
theorem FI.rise {N : NS} (h : FI N) {w : Nat} (hw : w < 5) : FI (mRise w N) := h.uw (by omega) (by decide)
theorem FI.opn {N : NS} (h : FI N) {S : Nat} (hS : S < 16) (h5 : ¬ N 5 = 8) : FI (mOpen S N) := by
  have h8 := h.2.1
  unfold mOpen
  exact (((h.u5 (by omega)).ud (by omega) (by decide) (fun _ _ _ => by rw [if_neg (by decide)]; omega)).ud (by omega) (by decide) (fun _ q => absurd rfl q)).sal (by decide) 4
theorem FI.ticks {N : NS} (h : FI N) : ∀ t, FI (mTicks t N)
  | 0 => h
  | t + 1 => (FI.ticks h t).pss
theorem mFgt_n {w d j : Nat} {N : NS} (hj : j < 30 ∨ 150 ≤ j) (hd : d < 8) (hw : w < 5) : mFgt w d N j = N j := by
  unfold mFgt
  split
  · rw [un_n (by omega), un_n (by omega)]
  · split
    · rw [un_n (by omega)]
    · rfl
theorem fgs_n {w j : Nat} {N : NS} (hw : w < 5) (hj : j < 30 ∨ 150 ≤ j) : ∀ d, d ≤ 8 → fgs w d N j = N j
  | 0, _ => rfl
  | d + 1, hd => by rw [fgs, mFgt_n hj (by omega) hw]; exact fgs_n hw hj d (by omega)
theorem arrV_congr {cI : ClassId} {n : Nat} {f g : Nat → Value} (e : ∀ j, j < n → f j = g j) : arrV cI n f = arrV cI n g := by
  unfold arrV
  have h : (fun j : Fin n => f j.val) = (fun j : Fin n => g j.val) := funext fun j => e j.val j.isLt
  rw [h]
theorem vpc_congr {cA : ClassId} {n : Nat} {f g : Nat → Int32} (e : ∀ j, j < n → f j = g j) : vp_cell cA (n, .inl f) = vp_cell cA (n, .inl g) := by
  rw [vp_cell_i, vp_cell_i]
  exact arrV_congr (fun j hj => by rw [e j hj])
set_option maxRecDepth 100000 in
theorem HB.mcongr {G : GP} {A : Nat → Prop} {H0 : Heap} {a : Nat → Nat} {N M : NS} {x : MX} {H : Heap} {locs : List Loc} (h : HB G A H0 (mN G a N x) H locs) (e : ∀ j, j < 390 → N j = M j) : HB G A H0 (mN G a M x) H locs := by
  have hc : vp_cell (G.2 0) (390, .inl (eN N)) = vp_cell (G.2 0) (390, .inl (eN M)) := vpc_congr (fun j hj => by unfold eN; rw [e j hj])
  obtain ⟨h1, h2, h3⟩ := h
  refine ⟨fun k q hk => ?_, ⟨fun i j p q hi hj hpq => ?_, fun k q hk => ?_⟩, h3⟩
  · match k, hk with
    | 0, hk => exact h1 0 q hk
    | 1, hk => cases hk; show H[a 1]? = some _; rw [← hc]; exact h1 1 _ rfl
    | k + 2, hk => exact h1 (k + 2) q hk
  · have key : ∀ (k : Nat) (q : Nat × va_E), (mN G a M x)[k]? = some q → ∃ q', (mN G a N x)[k]? = some q' ∧ q'.1 = q.1 := by
      intro k q hk
      match k, hk with
      | 0, hk => exact ⟨q, hk, rfl⟩
      | 1, hk => cases hk; exact ⟨_, rfl, rfl⟩
      | k + 2, hk => exact ⟨q, hk, rfl⟩
    obtain ⟨p', g1, g2⟩ := key i p hi
    obtain ⟨q', g3, g4⟩ := key j q hj
    exact h2.1 i j p' q' g1 g3 (by rw [g2, g4, hpq])
  · match k, hk with
    | 0, hk => exact h2.2 0 q hk
    | 1, hk => cases hk; exact h2.2 1 (a 1, .inl (G.2 0, 390, .inl (eN N))) rfl
    | k + 2, hk => exact h2.2 (k + 2) q hk
end
section
/-! ===== pure: what all calls keep of messages and clerks ===== -/
def mok (S D k d f t : Nat) : Prop := k < 7 ∧ d < D ∧ f < 5 ∧ t < 5 ∧ (t < 4 → S.testBit t = true) ∧ (f < 4 → S.testBit f = true) ∧ (k = 1 ∨ k = 2 ∨ k = 5 → t = 4 ∧ f < 4) ∧ (k = 0 ∨ k = 3 ∨ k = 4 → t < 4) ∧ (k = 6 → f < 4)
def MsgI (N : NS) : Prop := ∀ p, p < N 6 → mok (N (30 + 14 * N (150 + 4 * p + 1) + 0)) (N 5) (N (150 + 4 * p)) (N (150 + 4 * p + 1)) (N (150 + 4 * p + 2)) (N (150 + 4 * p + 3))
def NPI (N : NS) : Prop := ∀ d c, d < 8 → c < 4 → (N (30 + 14 * d + 0)).testBit c = false → N (30 + 14 * d + (6 + c)) = 0
def UDI (N : NS) : Prop := ∀ d, N 5 ≤ d → d < 8 → N (30 + 14 * d + 0) = 0
def Inv (N : NS) : Prop := FI N ∧ MsgI N ∧ NPI N ∧ UDI N
theorem mok_of {N M : NS} {p q : Nat} (g : mok (N (30 + 14 * N (150 + 4 * q + 1) + 0)) (N 5) (N (150 + 4 * q)) (N (150 + 4 * q + 1)) (N (150 + 4 * q + 2)) (N (150 + 4 * q + 3)))
    (e0 : M (150 + 4 * p) = N (150 + 4 * q)) (e1 : M (150 + 4 * p + 1) = N (150 + 4 * q + 1)) (e2 : M (150 + 4 * p + 2) = N (150 + 4 * q + 2)) (e3 : M (150 + 4 * p + 3) = N (150 + 4 * q + 3)) (e5 : M 5 = N 5)
    (es : M (30 + 14 * N (150 + 4 * q + 1) + 0) = N (30 + 14 * N (150 + 4 * q + 1) + 0)) : mok (M (30 + 14 * M (150 + 4 * p + 1) + 0)) (M 5) (M (150 + 4 * p)) (M (150 + 4 * p + 1)) (M (150 + 4 * p + 2)) (M (150 + 4 * p + 3)) := by
  rw [e1, e0, e2, e3, e5, es]; exact g
/-- what lies ahead of the messages stays, but for the counters -/
theorem Inv.front {N M : NS} (h : Inv N) (hF : FI M) (h6 : M 6 ≤ N 6) (h5 : M 5 = N 5) (hm : ∀ j, 150 ≤ j → M j = N j) (hd : ∀ d k, d < 8 → k = 0 ∨ (6 ≤ k ∧ k < 10) → M (30 + 14 * d + k) = N (30 + 14 * d + k)) : Inv M := by
  obtain ⟨h1, h2, h3, h4⟩ := h
  refine ⟨hF, fun p hp => ?_, fun d c hd8 hc hb => ?_, fun d hdu hd8 => ?_⟩
  · have g := h2 p (by omega)
    have gd := g.2.1
    have g8 := h1.2.1
    exact mok_of g (hm _ (by omega)) (hm _ (by omega)) (hm _ (by omega)) (hm _ (by omega)) h5 (hd _ 0 (by omega) (Or.inl rfl))
  · rw [hd d 0 hd8 (Or.inl rfl)] at hb
    rw [hd d (6 + c) hd8 (by omega)]
    exact h3 d c hd8 hc hb
  · rw [hd d 0 hd8 (Or.inl rfl)]
    exact h4 d (by omega) hd8
theorem Inv.uc {N : NS} (h : Inv N) {j v : Nat} (hj : j = 4 ∨ j = 7 ∨ j = 8 ∨ (20 ≤ j ∧ j < 30)) : Inv (un N j v) :=
  h.front (h.1.uc (by omega)) (by rw [un_n (by omega)]; exact Nat.le_refl _) (by rw [un_n (by omega)]) (fun i hi => un_n (by omega)) (fun d k hd hk => un_n (by omega))
theorem Inv.uw {N : NS} (h : Inv N) {j v : Nat} (hj : 10 ≤ j ∧ j < 20) (hv : v ≤ 1) : Inv (un N j v) :=
  h.front (h.1.uw hj hv) (by rw [un_n (by omega)]; exact Nat.le_refl _) (by rw [un_n (by omega)]) (fun i hi => un_n (by omega)) (fun d k hd hk => un_n (by omega))
theorem Inv.ud {N : NS} (h : Inv N) {d0 k0 v : Nat} (hd0 : d0 < 8) (hk0 : (1 ≤ k0 ∧ k0 < 6) ∨ (10 ≤ k0 ∧ k0 < 14)) (hv : k0 < 10 → k0 ≠ 2 → k0 ≠ 3 → v ≤ (if k0 = 1 ∨ 6 ≤ k0 then 3 else 15)) : Inv (un N (30 + 14 * d0 + k0) v) :=
  h.front (h.1.ud hd0 (by omega) hv) (by rw [un_n (by omega)]; exact Nat.le_refl _) (by rw [un_n (by omega)]) (fun i hi => un_n (by omega)) (fun d k hd hk => un_n (by omega))
theorem Inv.uf {N : NS} (h : Inv N) {d0 c0 v : Nat} (hd0 : d0 < 8) (hc0 : c0 < 4) (hv : v ≤ 3) (hb : (N (30 + 14 * d0 + 0)).testBit c0 = true) : Inv (un N (30 + 14 * d0 + (6 + c0)) v) := by
  obtain ⟨h1, h2, h3, h4⟩ := h
  refine ⟨h1.ud hd0 (by omega) (fun _ _ _ => by rw [if_pos (by omega)]; exact hv), fun p hp => ?_, fun d c hd8 hc hbb => ?_, fun d hdu hd8 => ?_⟩
  · rw [un_n (by omega)] at hp
    have g := h2 p hp
    have gd := g.2.1
    have g8 := h1.2.1
    rw [un_n (j := 150 + 4 * p) (by omega), un_n (j := 150 + 4 * p + 1) (by omega), un_n (j := 150 + 4 * p + 2) (by omega), un_n (j := 150 + 4 * p + 3) (by omega), un_n (j := 5) (by omega), un_n (by omega)]
    exact g
  · rw [un_n (by omega)] at hbb
    by_cases q : 30 + 14 * d + (6 + c) = 30 + 14 * d0 + (6 + c0)
    · obtain ⟨rfl, rfl⟩ : d = d0 ∧ c = c0 := by omega
      rw [hb] at hbb; cases hbb
    · rw [un_n q]; exact h3 d c hd8 hc hbb
  · rw [un_n (by omega)]
    rw [un_n (by omega)] at hdu
    exact h4 d hdu hd8
theorem Inv.snd {N : NS} (h : Inv N) {k d f t : Nat} (hm : mok (N (30 + 14 * d + 0)) (N 5) k d f t) : Inv (mSend k d f t N) := by
  have hf : f < 5 := hm.2.2.1
  have hd : d < N 5 := hm.2.1
  obtain ⟨h1, h2, h3, h4⟩ := h
  have h6 := h1.1
  have h8 := h1.2.1
  have rd : ∀ j, j ≠ 6 → j ≠ 8 → j < 25 ∨ (30 ≤ j ∧ j < 150) → mSend k d f t N j = N j := fun j a b c => mSend_n hf h6 a b c
  refine ⟨h1.snd hf, fun p hp => ?_, fun d c hd8 hc hbb => ?_, fun d hdu hd8 => ?_⟩
  · by_cases hq : p < N 6
    · have g := h2 p hq
      have gd := g.2.1
      have e : ∀ i, i < 4 → mSend k d f t N (150 + 4 * p + i) = N (150 + 4 * p + i) := by
        intro i hi
        unfold mSend
        split
        · rw [un_n (by omega), un_n (by omega)]
        · rw [un_n (by omega), un_n (by omega), un_n (by omega), un_n (by omega), un_n (by omega), un_n (by omega)]
      rw [show mSend k d f t N (150 + 4 * p) = N (150 + 4 * p) from e 0 (by decide), e 1 (by decide), e 2 (by decide), e 3 (by decide), rd 5 (by decide) (by decide) (by decide), rd _ (by omega) (by omega) (by omega)]
      exact g
    · have hL : ¬ N 6 = 60 := by
        intro z
        rw [mSend, if_pos z, un_n (by omega), un_n (by omega)] at hp
        omega
      have hp2 : p = N 6 := by
        rw [mSend, if_neg hL, un_s] at hp
        omega
      subst hp2
      have e0 : mSend k d f t N (150 + 4 * N 6) = k := by
        rw [mSend, if_neg hL, un_n (by omega), un_n (by omega), un_n (by omega), un_n (by omega), un_s]
      have e1 : mSend k d f t N (150 + 4 * N 6 + 1) = d := by
        rw [mSend, if_neg hL, un_n (by omega), un_n (by omega), un_n (by omega), un_s]
      have e2 : mSend k d f t N (150 + 4 * N 6 + 2) = f := by
        rw [mSend, if_neg hL, un_n (by omega), un_n (by omega), un_s]
      have e3 : mSend k d f t N (150 + 4 * N 6 + 3) = t := by
        rw [mSend, if_neg hL, un_n (by omega), un_s]
      rw [e0, e1, e2, e3, rd 5 (by decide) (by decide) (by decide), rd _ (by omega) (by omega) (by omega)]
      exact hm
  · rw [rd _ (by omega) (by omega) (by omega)] at hbb
    rw [rd _ (by omega) (by omega) (by omega)]
    exact h3 d c hd8 hc hbb
  · rw [rd 5 (by decide) (by decide) (by decide)] at hdu
    rw [rd _ (by omega) (by omega) (by omega)]
    exact h4 d hdu hd8
theorem Inv.sal {N : NS} (h : Inv N) {k d f S : Nat} (hm : ∀ c, c < 4 → S.testBit c = true → mok (N (30 + 14 * d + 0)) (N 5) k d f c) (hf : f < 5) (hd : d < 8) : ∀ c, c ≤ 4 → Inv (sa k d f S c N)
  | 0, _ => h
  | c + 1, hc => by
    have ih := Inv.sal h hm hf hd c (by omega)
    rw [sa]
    split
    · rename_i hb
      refine ih.snd ?_
      rw [sa_n hf h.1.1 (by omega) (by omega) (by omega), sa_n hf h.1.1 (by omega) (by omega) (by omega)]
      exact hm c (by omega) hb
    · exact ih
theorem mDrop_m {p q i : Nat} {N : NS} (hq : q < N 6 - 1) (hi : i < 4) : mDrop p N (150 + 4 * q + i) = N (150 + 4 * (if q < p then q else q + 1) + i) := by
  unfold mDrop mDropTo
  rw [if_neg (by omega)]
  by_cases h : q < p
  · rw [if_neg (by omega), if_pos h]
  · rw [if_pos (by omega), if_neg h]
    congr 1; omega
theorem Inv.drp {N : NS} (h : Inv N) {p : Nat} (hp : p < N 6) : Inv (mDrop p N) := by
  obtain ⟨h1, h2, h3, h4⟩ := h
  have h8 := h1.2.1
  refine ⟨h1.drp, fun q hq => ?_, fun d c hd8 hc hbb => ?_, fun d hdu hd8 => ?_⟩
  · rw [mDrop_6] at hq
    have g := h2 (if q < p then q else q + 1) (by split <;> omega)
    have gd := g.2.1
    rw [show mDrop p N (150 + 4 * q) = _ from mDrop_m (i := 0) hq (by decide), mDrop_m hq (by decide), mDrop_m hq (by decide), mDrop_m hq (by decide), mDrop_n (j := 5) (by decide) (by decide), mDrop_n (by omega) (by omega)]
    exact g
  · rw [mDrop_n (by omega) (by omega)] at hbb
    rw [mDrop_n (by omega) (by omega)]
    exact h3 d c hd8 hc hbb
  · rw [mDrop_n (by omega) (by omega)] at hdu
    rw [mDrop_n (by omega) (by omega)]
    exact h4 d hdu hd8
theorem Inv.tto {N : NS} (h : Inv N) {t : Nat} (ht : t < 5) : Inv (mTo t N) := (h.uc (by omega)).uc (by omega)
theorem bit_and {S T c : Nat} (h : (S &&& T).testBit c = true) : S.testBit c = true := by
  rw [Nat.testBit_and, Bool.and_eq_true] at h
  exact h.1
theorem Inv.anz {N : NS} (h : Inv N) {d c : Nat} (hd : d < N 5) (hc : c < 4) (hb : (N (30 + 14 * d + 0)).testBit c = true) : Inv (mAns d c N) := by
  unfold mAns
  split
  · exact h.snd ⟨by decide, hd, by decide, by omega, fun _ => hb, fun z => absurd z (by decide), fun z => by omega, fun _ => hc, fun z => by omega⟩
  · split
    · exact h.snd ⟨by decide, hd, by decide, by omega, fun _ => hb, fun z => absurd z (by decide), fun z => by omega, fun _ => hc, fun z => by omega⟩
    · exact h
theorem mok4 {S D k d : Nat} (hd : d < D) (hk : k = 0 ∨ k = 3 ∨ k = 4) {T : Nat} (hT : ∀ c, T.testBit c = true → S.testBit c = true) : ∀ c, c < 4 → T.testBit c = true → mok S D k d 4 c := fun c hc hb =>
  ⟨by omega, hd, by decide, by omega, fun _ => hT c hb, fun z => absurd z (by decide), fun z => by omega, fun _ => hc, fun z => by omega⟩
theorem Inv.ter {N : NS} (h : Inv N) {d S : Nat} (hd : d < N 5) (hS : ∀ c, S.testBit c = true → (N (30 + 14 * d + 0)).testBit c = true) : Inv (mTear d S N) := by
  have h8 := h.1.2.1
  refine (h.ud (by omega) (by omega) (fun _ _ _ => by decide)).sal ?_ (by decide) (by omega) 4 (by decide)
  rw [un_n (by omega), un_n (by omega)]
  exact mok4 hd (by decide) hS
theorem Inv.gt {N : NS} (h : Inv N) {k d c : Nat} (hd : d < N 5) (hc : c < 4) (hb : (N (30 + 14 * d + 0)).testBit c = true) : Inv (mGet k d c N) := by
  have h8 := h.1.2.1
  have g4 := or_lt16 _ (h.1.f4 (d := d) (by omega)) c hc
  have g5 := or_lt16 _ (h.1.f5 (d := d) (by omega)) c hc
  unfold mGet mYes mNo mGot
  split
  · split
    · split
      · refine (((h.ud (by omega) (by omega) (fun _ _ _ => by show _ ≤ 15; omega)).ud (by omega) (by omega) (fun _ _ _ => by decide)).ud (by omega) (by omega) (fun _ _ q => absurd rfl q)).sal ?_ (by decide) (by omega) 4 (by decide)
        rw [un_n (by omega), un_n (by omega), un_n (by omega), un_n (by omega), un_n (by omega), un_n (by omega)]
        exact mok4 hd (by decide) (fun _ q => q)
      · exact h.ud (by omega) (by omega) (fun _ _ _ => by show _ ≤ 15; omega)
    · exact h.anz hd hc hb
  · split
    · split
      · exact h.ter hd (fun _ q => bit_and q)
      · exact h
    · split
      · split
        · refine (h.ud (by omega) (by omega) (fun _ _ _ => by show _ ≤ 15; omega)).ud (by omega) (by omega) (fun _ _ _ => ?_)
          show _ ≤ 3
          split <;> decide
        · exact h
      · exact h.anz hd hc hb
theorem mokB {S D k d c : Nat} (hd : d < D) (hk : k = 1 ∨ k = 2 ∨ k = 5 ∨ k = 6) (hc : c < 4) (hb : S.testBit c = true) : mok S D k d c 4 :=
  ⟨by omega, hd, by omega, by decide, fun z => absurd z (by decide), fun _ => hb, fun _ => ⟨rfl, hc⟩, fun z => by omega, fun _ => hc⟩
theorem mokC {S D k d c f : Nat} (hd : d < D) (hk : k = 3 ∨ k = 4) (hc : c < 4) (hb : S.testBit c = true) (hf : f < 4) (hbf : S.testBit f = true) : mok S D k d c f :=
  ⟨by omega, hd, by omega, by omega, fun _ => hbf, fun _ => hb, fun z => by omega, fun _ => hf, fun z => by omega⟩
theorem Inv.gtb {N : NS} (h : Inv N) {c k d f : Nat} (hd : d < N 5) (hc : c < 4) (hb : (N (30 + 14 * d + 0)).testBit c = true) (hk : ¬ (k = 0 ∨ k = 3 ∨ k = 4) → f < 4 ∧ (N (30 + 14 * d + 0)).testBit f = true) : Inv (mGetBy c k d f N) := by
  have h8 := h.1.2.1
  have hst : ∀ v, v ≤ 3 → Inv (un N (30 + 14 * d + (6 + c)) v) := fun v hv => h.uf (by omega) hc hv hb
  have hs : ∀ v kk, v ≤ 3 → kk = 1 ∨ kk = 2 ∨ kk = 5 ∨ kk = 6 → Inv (mSend kk d c 4 (un N (30 + 14 * d + (6 + c)) v)) := fun v kk hv hkk => (hst v hv).snd (by rw [un_n (by omega), un_n (by omega)]; exact mokB hd hkk hc hb)
  unfold mGetBy mAsk mPosts mTears mWhatC
  split
  · split
    · split
      · refine Inv.snd (Inv.uf (h.ud (by omega) (by omega) (fun q => absurd q (by omega))) (by omega) hc (by decide) (by rw [un_n (by omega)]; exact hb)) ?_
        rw [un_n (by omega), un_n (by omega), un_n (by omega), un_n (by omega)]
        exact mokB hd (by decide) hc hb
      · exact hs 3 2 (by decide) (by decide)
    · split
      · exact h
      · split
        · exact h.snd (mokB hd (by decide) hc hb)
        · exact h.snd (mokB hd (by decide) hc hb)
  · split
    · split
      · exact hs 2 5 (by decide) (by decide)
      · split
        · exact h.snd (mokB hd (by decide) hc hb)
        · exact h
    · split
      · split
        · exact hst 3 (by decide)
        · exact h
      · have hk2 := hk (by omega)
        split
        · exact (hst 3 (by decide)).snd (by rw [un_n (by omega), un_n (by omega)]; exact mokC hd (by decide) hc hb hk2.1 hk2.2)
        · split
          · exact h.snd (mokC hd (by decide) hc hb hk2.1 hk2.2)
          · split
            · exact h.snd (mokC hd (by decide) hc hb hk2.1 hk2.2)
            · exact h
theorem Inv.dlv {N : NS} (h : Inv N) {p : Nat} (hp : p < N 6) : Inv (mDlv p N) := by
  have h8 := h.1.2.1
  obtain ⟨g1, g2, g3, g4, g5, g6, g7, g9, g10⟩ := h.2.1 p hp
  have hD := h.drp hp
  have e5 : mTo (N (150 + 4 * p + 3)) (mDrop p N) 5 = N 5 := by
    unfold mTo
    rw [un_n (by omega), un_n (by omega), mDrop_n (by omega) (by omega)]
  have e0 : mTo (N (150 + 4 * p + 3)) (mDrop p N) (30 + 14 * N (150 + 4 * p + 1) + 0) = N (30 + 14 * N (150 + 4 * p + 1) + 0) := by
    unfold mTo
    rw [un_n (by omega), un_n (by omega), mDrop_n (by omega) (by omega)]
  unfold mDlv
  split
  · exact hD.uc (by omega)
  · split
    · rename_i h4
      have hf : N (150 + 4 * p + 2) < 4 := by
        rcases Nat.lt_or_ge (N (150 + 4 * p + 2)) 4 with q | q
        · exact q
        · exfalso
          have : ¬ N (150 + 4 * p) = 6 := fun z => by have := g10 z; omega
          have : ¬ (N (150 + 4 * p) = 1 ∨ N (150 + 4 * p) = 2 ∨ N (150 + 4 * p) = 5) := fun z => by have := g7 z; omega
          have : ¬ (N (150 + 4 * p) = 0 ∨ N (150 + 4 * p) = 3 ∨ N (150 + 4 * p) = 4) := fun z => by have := g9 z; omega
          omega
      exact (hD.tto g4).gt (by rw [e5]; exact g2) hf (by rw [e0]; exact g6 hf)
    · rename_i h4
      have ht : N (150 + 4 * p + 3) < 4 := by omega
      refine (hD.tto g4).gtb (by rw [e5]; exact g2) ht (by rw [e0]; exact g5 ht) (fun z => ?_)
      have hf : N (150 + 4 * p + 2) < 4 := by
        have : ¬ (N (150 + 4 * p) = 1 ∨ N (150 + 4 * p) = 2 ∨ N (150 + 4 * p) = 5) := fun z => by have := g7 z; omega
        exact g10 (by omega)
      exact ⟨hf, by rw [e0]; exact g6 hf⟩
theorem Inv.pB {N : NS} (h : Inv N) {d : Nat} (hd : d < N 5) : Inv (mPassB d N) := by
  have h8 := h.1.2.1
  unfold mPassB
  split
  · exact h.ter hd (fun _ q => q)
  · split
    · exact h.sal (mok4 hd (by decide) (fun _ q => bit_and q)) (by decide) (by omega) 4 (by decide)
    · exact h
theorem Inv.pC {N : NS} (h : Inv N) {c d : Nat} (hc : c < 4) (hd : d < N 5) : Inv (mPassC c d N) := by
  have h8 := h.1.2.1
  unfold mPassC
  split
  · rename_i hb
    refine (h.snd (mokB hd (by decide) hc hb.1)).sal ?_ (by omega) (by omega) 4 (by decide)
    rw [mSend_n (by omega) h.1.1 (by omega) (by omega) (by omega), mSend_n (by omega) h.1.1 (by omega) (by omega) (by omega)]
    intro t ht hbt
    have hbt2 : (N (30 + 14 * d + 0)).testBit t = true := by
      split at hbt
      · exact bit_and hbt
      · rw [Nat.zero_testBit] at hbt; cases hbt
    exact ⟨by decide, hd, by omega, by omega, fun _ => hbt2, fun _ => hb.1, fun z => by omega, fun z => by omega, fun _ => hc⟩
  · exact h
theorem Inv.pb8 {N : NS} (h : Inv N) : ∀ d, d ≤ N 5 → Inv (pbs d N)
  | 0, _ => h
  | d + 1, hd => by
    have h8 := h.1.2.1
    rw [pbs]
    exact (Inv.pb8 h d (by omega)).pB (by rw [pbs_n h.1 (by decide) _ (by omega)]; omega)
theorem Inv.pc8 {N : NS} (h : Inv N) {c : Nat} (hc : c < 4) : ∀ d, d ≤ N 5 → Inv (pcs c d N)
  | 0, _ => h
  | d + 1, hd => by
    rw [pcs]
    exact (Inv.pc8 h hc d (by omega)).pC hc (by rw [pcs_n h.1 hc (by decide)]; omega)
theorem Inv.pl4 {N : NS} (h : Inv N) : ∀ c, c ≤ 4 → Inv (pcl c N)
  | 0, _ => h
  | c + 1, hc => by
    rw [pcl]
    split
    · exact Inv.pl4 h c (by omega)
    · exact (Inv.pl4 h c (by omega)).pc8 (by omega) _ (by rw [pcl_n h.1 (by decide) _ (by omega)]; exact Nat.le_refl _)
theorem Inv.pss {N : NS} (h : Inv N) : Inv (mPass N) := by
  unfold mPass
  refine Inv.uc (Inv.pl4 ?_ 4 (by decide)) (by omega)
  split
  · exact h
  · exact h.pb8 _ (Nat.le_refl _)
theorem mAns_6 {d c : Nat} {N : NS} : N 6 ≤ mAns d c N 6 := by
  unfold mAns
  split
  · exact mSend_6ge (by decide)
  · split
    · exact mSend_6ge (by decide)
    · exact Nat.le_refl _
theorem mTear_6 {d S : Nat} {N : NS} : N 6 ≤ mTear d S N 6 := by
  unfold mTear
  refine Nat.le_trans ?_ (sa_6ge (by decide) 4)
  rw [un_n (by omega)]; exact Nat.le_refl _
theorem mGet_6 {k d c : Nat} {N : NS} : N 6 ≤ mGet k d c N 6 := by
  unfold mGet mYes mNo mGot
  split
  · split
    · split
      · refine Nat.le_trans ?_ (sa_6ge (by decide) 4)
        rw [un_n (by omega), un_n (by omega), un_n (by omega)]; exact Nat.le_refl _
      · rw [un_n (by omega)]; exact Nat.le_refl _
    · exact mAns_6
  · split
    · split
      · exact mTear_6
      · exact Nat.le_refl _
    · split
      · split
        · rw [un_n (by omega), un_n (by omega)]; exact Nat.le_refl _
        · exact Nat.le_refl _
      · exact mAns_6
theorem mGetBy_6 {c k d f : Nat} {N : NS} (hc : c < 4) : N 6 ≤ mGetBy c k d f N 6 := by
  have hs : ∀ kk t v, N 6 ≤ mSend kk d c t (un N (30 + 14 * d + (6 + c)) v) 6 := fun kk t v => Nat.le_trans (by rw [un_n (by omega)]; exact Nat.le_refl _) (mSend_6ge (by omega))
  have hs0 : ∀ kk t, N 6 ≤ mSend kk d c t N 6 := fun kk t => mSend_6ge (by omega)
  unfold mGetBy mAsk mPosts mTears mWhatC
  split
  · split
    · split
      · refine Nat.le_trans ?_ (mSend_6ge (by omega))
        rw [un_n (by omega), un_n (by omega)]; exact Nat.le_refl _
      · exact hs _ _ _
    · split
      · exact Nat.le_refl _
      · split
        · exact hs0 _ _
        · exact hs0 _ _
  · split
    · split
      · exact hs _ _ _
      · split
        · exact hs0 _ _
        · exact Nat.le_refl _
    · split
      · split
        · rw [un_n (by omega)]; exact Nat.le_refl _
        · exact Nat.le_refl _
      · split
        · exact hs _ _ _
        · split
          · exact hs0 _ _
          · split
            · exact hs0 _ _
            · exact Nat.le_refl _
theorem mDlv_6 {N : NS} (h : Inv N) {p : Nat} (hp : p < N 6) : N 6 - 1 ≤ mDlv p N 6 := by
  obtain ⟨g1, g2, g3, g4, g5, g6, g7, g9, g10⟩ := h.2.1 p hp
  have e6 : mTo (N (150 + 4 * p + 3)) (mDrop p N) 6 = N 6 - 1 := by
    unfold mTo
    rw [un_n (by omega), un_n (by omega), mDrop_6]
  unfold mDlv
  split
  · rw [un_n (by omega), mDrop_6]; exact Nat.le_refl _
  · split
    · exact Nat.le_trans (Nat.le_of_eq e6.symm) mGet_6
    · exact Nat.le_trans (Nat.le_of_eq e6.symm) (mGetBy_6 (by omega))
theorem dl0s_I {N : NS} (h : Inv N) : ∀ k, k ≤ N 6 → Inv (dl0s k N) ∧ N 6 ≤ dl0s k N 6 + k
  | 0, _ => ⟨h, Nat.le_refl _⟩
  | k + 1, hk => by
    obtain ⟨i1, i2⟩ := dl0s_I h k (by omega)
    rw [dl0s]
    have := mDlv_6 i1 (p := 0) (by omega)
    exact ⟨i1.dlv (by omega), by omega⟩
theorem Inv.rnd {N : NS} (h : Inv N) : Inv (mRound N) := (dl0s_I h _ (Nat.le_refl _)).1.pss
theorem Inv.los {N : NS} (h : Inv N) {p : Nat} (hp : p < N 6) : Inv (mLose p N) := (h.drp hp).uc (by omega)
theorem mTw_l {p i j : Nat} {N : NS} (hj : j < 150 + 4 * N 6) : mTw p N i j = N j := if_neg (by omega)
theorem Inv.twi {N : NS} (h : Inv N) {p : Nat} (hp : p < N 6) (hn : ¬ N 6 = 60) : Inv (mTwi p N) := by
  obtain ⟨h1, h2, h3, h4⟩ := h
  have h8 := h1.2.1
  have rd : ∀ j, j ≠ 6 → j < 150 + 4 * N 6 → mTwi p N j = N j := fun j a b => by unfold mTwi; rw [un_n a, mTw_l b]
  refine ⟨h1.twi hn, fun q hq => ?_, fun d c hd8 hc hbb => ?_, fun d hdu hd8 => ?_⟩
  · by_cases z : q < N 6
    · have g := h2 q z
      have gd := g.2.1
      exact mok_of g (rd _ (by omega) (by omega)) (rd _ (by omega) (by omega)) (rd _ (by omega) (by omega)) (rd _ (by omega) (by omega)) (rd 5 (by omega) (by omega)) (rd _ (by omega) (by omega))
    · have hq2 : q = N 6 := by
        rw [mTwi, un_s] at hq; omega
      subst hq2
      have g := h2 p hp
      have gd := g.2.1
      have e : ∀ i, i < 4 → mTwi p N (150 + 4 * N 6 + i) = N (150 + 4 * p + i) := fun i hi => by
        unfold mTwi mTw
        rw [un_n (by omega), if_pos (by omega)]
        congr 1; omega
      exact mok_of g (e 0 (by decide)) (e 1 (by decide)) (e 2 (by decide)) (e 3 (by decide)) (rd 5 (by omega) (by omega)) (rd _ (by omega) (by omega))
  · rw [rd _ (by omega) (by omega)] at hbb
    rw [rd _ (by omega) (by omega)]
    exact h3 d c hd8 hc hbb
  · rw [rd _ (by omega) (by omega)] at hdu
    rw [rd _ (by omega) (by omega)]
    exact h4 d hdu hd8
theorem un_id {N : NS} {k : Nat} : un N k (N k) = N := by
  funext j
  unfold un
  by_cases h : j = k
  · rw [if_pos h, h]
  · rw [if_neg h]
theorem Inv.fgt {N : NS} (h : Inv N) {w d : Nat} (hw : w < 5) (hd : d < 8) : Inv (mFgt w d N) := by
  have g5 := h.1.f5 hd
  have g1 := h.1.f1 hd
  unfold mFgt
  split
  · refine (h.ud hd (by omega) (fun _ _ _ => ?_)).ud hd (by omega) (fun _ _ _ => ?_)
    · show _ ≤ 15; split <;> omega
    · show _ ≤ 3; split <;> omega
  · split
    · rename_i h4 h0
      by_cases hb : (N (30 + 14 * d + 0)).testBit w = true
      · rw [if_pos hb]; exact h.uf hd (by omega) (by decide) hb
      · rw [if_neg hb, ← h0, un_id]; exact h
    · exact h
theorem Inv.fgs {N : NS} (h : Inv N) {w : Nat} (hw : w < 5) : ∀ d, d ≤ 8 → Inv (fgs w d N)
  | 0, _ => h
  | d + 1, hd => (Inv.fgs h hw d (by omega)).fgt hw (by omega)
theorem Inv.fall {N : NS} (h : Inv N) {w : Nat} (hw : w < 5) : Inv (mFall w N) := (h.uw (by omega) (by decide)).fgs hw _ h.1.2.1
theorem Inv.rise {N : NS} (h : Inv N) {w : Nat} (hw : w < 5) : Inv (mRise w N) := h.uw (by omega) (by decide)
theorem Inv.ticks {N : NS} (h : Inv N) : ∀ t, Inv (mTicks t N)
  | 0 => h
  | t + 1 => (Inv.ticks h t).pss
theorem Inv.opn {N : NS} (h : Inv N) {S : Nat} (hS : S < 16) (h5 : ¬ N 5 = 8) : Inv (mOpen S N) := by
  obtain ⟨h1, h2, h3, h4⟩ := h
  have h8 := h1.2.1
  have hz := h4 (N 5) (Nat.le_refl _) (by omega)
  have hB : Inv (un (un (un N 5 (N 5 + 1)) (30 + 14 * N 5 + 0) S) (30 + 14 * N 5 + 2) (N 4)) := by
    refine ⟨((h1.u5 (by omega)).ud (by omega) (by decide) (fun _ _ _ => by show _ ≤ 15; omega)).ud (by omega) (by decide) (fun _ q => absurd rfl q), fun p hp => ?_, fun d c hd8 hc hbb => ?_, fun d hdu hd8 => ?_⟩
    · rw [un_n (by omega), un_n (by omega), un_n (by omega)] at hp
      have g := h2 p hp
      have gd := g.2.1
      have rd : ∀ j, 150 ≤ j → un (un (un N 5 (N 5 + 1)) (30 + 14 * N 5 + 0) S) (30 + 14 * N 5 + 2) (N 4) j = N j := fun j hj => by rw [un_n (by omega), un_n (by omega), un_n (by omega)]
      obtain ⟨k1, k2, k3⟩ := g
      have g' : mok (N (30 + 14 * N (150 + 4 * p + 1) + 0)) (N 5 + 1) (N (150 + 4 * p)) (N (150 + 4 * p + 1)) (N (150 + 4 * p + 2)) (N (150 + 4 * p + 3)) := ⟨k1, by omega, k3⟩
      rw [rd (150 + 4 * p) (by omega), rd (150 + 4 * p + 1) (by omega), rd (150 + 4 * p + 2) (by omega), rd (150 + 4 * p + 3) (by omega)]
      rw [show un (un (un N 5 (N 5 + 1)) (30 + 14 * N 5 + 0) S) (30 + 14 * N 5 + 2) (N 4) 5 = N 5 + 1 by rw [un_n (by omega), un_n (by omega), un_s]]
      rw [show un (un (un N 5 (N 5 + 1)) (30 + 14 * N 5 + 0) S) (30 + 14 * N 5 + 2) (N 4) (30 + 14 * N (150 + 4 * p + 1) + 0) = N (30 + 14 * N (150 + 4 * p + 1) + 0) by rw [un_n (by omega), un_n (by omega), un_n (by omega)]]
      exact g'
    · rw [un_n (by omega), un_n (by omega), un_n (by omega)]
      by_cases q : d = N 5
      · subst q
        exact h3 _ c hd8 hc (by rw [hz]; exact Nat.zero_testBit c)
      · rw [un_n (by omega), un_n (by omega), un_n (by omega)] at hbb
        exact h3 d c hd8 hc hbb
    · rw [un_n (by omega), un_n (by omega), un_s] at hdu
      rw [un_n (by omega), un_n (by omega), un_n (by omega)]
      exact h4 d (by omega) hd8
  unfold mOpen
  refine hB.sal ?_ (by decide) (by omega) 4 (by decide)
  rw [un_n (by omega), un_s, un_n (by omega), un_n (by omega), un_s]
  exact mok4 (by omega) (by decide) (fun _ q => q)
end
