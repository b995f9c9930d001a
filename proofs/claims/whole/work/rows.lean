section
-- ===== PART A: goes FIRST, ahead of the names: the tables' words, and 'selects' of the private methods out of them =====
/-- a private method of a class that the tables say can be made, by its rows of tables_1 -/
def lw_okq (q : MethodName × Nat) : Prop := (q.1.cls ≠ "java/lang/invoke/MethodHandle" ∧ q.1.cls ≠ "java/lang/invoke/VarHandle") ∧ Cond.instantiable q.1.cls q.2 ∈ tables_1 ∧ Cond.privateMethod q.1 ∈ tables_1 ∧ Cond.instanceMethod q.1 ∈ tables_1
theorem lw_p0 : lw_okq (⟨"CashLedger$Setup", "useDefaults", "()V"⟩, 9) := ⟨⟨by decide +kernel, by decide +kernel⟩, List.mem_of_getElem? (i := 37) (by decide +kernel), List.mem_of_getElem? (i := 69) (by decide +kernel), List.mem_of_getElem? (i := 70) (by decide +kernel)⟩
theorem lw_p1 : lw_okq (⟨"CashLedger$Setup", "addBracket", "(II)V"⟩, 9) := ⟨⟨by decide +kernel, by decide +kernel⟩, List.mem_of_getElem? (i := 37) (by decide +kernel), List.mem_of_getElem? (i := 289) (by decide +kernel), List.mem_of_getElem? (i := 290) (by decide +kernel)⟩
theorem lw_p2 : lw_okq (⟨"CashLedger$State", "begin", "(LCashLedger$Setup;)V"⟩, 6) := ⟨⟨by decide +kernel, by decide +kernel⟩, List.mem_of_getElem? (i := 150) (by decide +kernel), List.mem_of_getElem? (i := 294) (by decide +kernel), List.mem_of_getElem? (i := 295) (by decide +kernel)⟩
theorem lw_p3 : lw_okq (⟨"CashLedger$Rooms", "copyFrom", "(LCashLedger$Rooms;)V"⟩, 4) := ⟨⟨by decide +kernel, by decide +kernel⟩, List.mem_of_getElem? (i := 43) (by decide +kernel), List.mem_of_getElem? (i := 298) (by decide +kernel), List.mem_of_getElem? (i := 299) (by decide +kernel)⟩
theorem lw_p4 : lw_okq (⟨"CashLedger$SetupReader", "read", "([II)I"⟩, 11) := ⟨⟨by decide +kernel, by decide +kernel⟩, List.mem_of_getElem? (i := 31) (by decide +kernel), List.mem_of_getElem? (i := 335) (by decide +kernel), List.mem_of_getElem? (i := 336) (by decide +kernel)⟩
theorem lw_p5 : lw_okq (⟨"CashLedger$SetupReader", "begin", "([II)V"⟩, 11) := ⟨⟨by decide +kernel, by decide +kernel⟩, List.mem_of_getElem? (i := 31) (by decide +kernel), List.mem_of_getElem? (i := 339) (by decide +kernel), List.mem_of_getElem? (i := 340) (by decide +kernel)⟩
theorem lw_p6 : lw_okq (⟨"CashLedger$SetupReader", "nextToken", "()V"⟩, 11) := ⟨⟨by decide +kernel, by decide +kernel⟩, List.mem_of_getElem? (i := 31) (by decide +kernel), List.mem_of_getElem? (i := 347) (by decide +kernel), List.mem_of_getElem? (i := 348) (by decide +kernel)⟩
theorem lw_p7 : lw_okq (⟨"CashLedger$SetupReader", "endOfRun", "(II)I"⟩, 11) := ⟨⟨by decide +kernel, by decide +kernel⟩, List.mem_of_getElem? (i := 31) (by decide +kernel), List.mem_of_getElem? (i := 351) (by decide +kernel), List.mem_of_getElem? (i := 352) (by decide +kernel)⟩
theorem lw_p8 : lw_okq (⟨"CashLedger$SetupReader", "valueOfDigits", "()I"⟩, 11) := ⟨⟨by decide +kernel, by decide +kernel⟩, List.mem_of_getElem? (i := 31) (by decide +kernel), List.mem_of_getElem? (i := 355) (by decide +kernel), List.mem_of_getElem? (i := 356) (by decide +kernel)⟩
theorem lw_p9 : lw_okq (⟨"CashLedger$SetupReader", "readStatement", "()Z"⟩, 11) := ⟨⟨by decide +kernel, by decide +kernel⟩, List.mem_of_getElem? (i := 31) (by decide +kernel), List.mem_of_getElem? (i := 359) (by decide +kernel), List.mem_of_getElem? (i := 360) (by decide +kernel)⟩
theorem lw_p10 : lw_okq (⟨"CashLedger$SetupReader", "isWord", "(Ljava/lang/String;)Z"⟩, 11) := ⟨⟨by decide +kernel, by decide +kernel⟩, List.mem_of_getElem? (i := 31) (by decide +kernel), List.mem_of_getElem? (i := 364) (by decide +kernel), List.mem_of_getElem? (i := 365) (by decide +kernel)⟩
theorem lw_p11 : lw_okq (⟨"CashLedger$SetupReader", "readStart", "()Z"⟩, 11) := ⟨⟨by decide +kernel, by decide +kernel⟩, List.mem_of_getElem? (i := 31) (by decide +kernel), List.mem_of_getElem? (i := 416) (by decide +kernel), List.mem_of_getElem? (i := 417) (by decide +kernel)⟩
theorem lw_p12 : lw_okq (⟨"CashLedger$SetupReader", "takeNumber", "(II)I"⟩, 11) := ⟨⟨by decide +kernel, by decide +kernel⟩, List.mem_of_getElem? (i := 31) (by decide +kernel), List.mem_of_getElem? (i := 421) (by decide +kernel), List.mem_of_getElem? (i := 422) (by decide +kernel)⟩
theorem lw_p13 : lw_okq (⟨"CashLedger$SetupReader", "readAssets", "()Z"⟩, 11) := ⟨⟨by decide +kernel, by decide +kernel⟩, List.mem_of_getElem? (i := 31) (by decide +kernel), List.mem_of_getElem? (i := 429) (by decide +kernel), List.mem_of_getElem? (i := 430) (by decide +kernel)⟩
theorem lw_p14 : lw_okq (⟨"CashLedger$SetupReader", "readInterest", "()Z"⟩, 11) := ⟨⟨by decide +kernel, by decide +kernel⟩, List.mem_of_getElem? (i := 31) (by decide +kernel), List.mem_of_getElem? (i := 435) (by decide +kernel), List.mem_of_getElem? (i := 436) (by decide +kernel)⟩
theorem lw_p15 : lw_okq (⟨"CashLedger$SetupReader", "readTop", "()Z"⟩, 11) := ⟨⟨by decide +kernel, by decide +kernel⟩, List.mem_of_getElem? (i := 31) (by decide +kernel), List.mem_of_getElem? (i := 440) (by decide +kernel), List.mem_of_getElem? (i := 441) (by decide +kernel)⟩
def lw_privs_1 : List (MethodName × Nat) := [(⟨"CashLedger$Setup", "useDefaults", "()V"⟩, 9), (⟨"CashLedger$Setup", "addBracket", "(II)V"⟩, 9), (⟨"CashLedger$State", "begin", "(LCashLedger$Setup;)V"⟩, 6), (⟨"CashLedger$Rooms", "copyFrom", "(LCashLedger$Rooms;)V"⟩, 4), (⟨"CashLedger$SetupReader", "read", "([II)I"⟩, 11), (⟨"CashLedger$SetupReader", "begin", "([II)V"⟩, 11), (⟨"CashLedger$SetupReader", "nextToken", "()V"⟩, 11), (⟨"CashLedger$SetupReader", "endOfRun", "(II)I"⟩, 11), (⟨"CashLedger$SetupReader", "valueOfDigits", "()I"⟩, 11), (⟨"CashLedger$SetupReader", "readStatement", "()Z"⟩, 11), (⟨"CashLedger$SetupReader", "isWord", "(Ljava/lang/String;)Z"⟩, 11), (⟨"CashLedger$SetupReader", "readStart", "()Z"⟩, 11), (⟨"CashLedger$SetupReader", "takeNumber", "(II)I"⟩, 11), (⟨"CashLedger$SetupReader", "readAssets", "()Z"⟩, 11), (⟨"CashLedger$SetupReader", "readInterest", "()Z"⟩, 11), (⟨"CashLedger$SetupReader", "readTop", "()Z"⟩, 11)]
theorem lw_r1 : ∀ q ∈ lw_privs_1, lw_okq q := List.forall_mem_cons.mpr ⟨lw_p0, List.forall_mem_cons.mpr ⟨lw_p1, List.forall_mem_cons.mpr ⟨lw_p2, List.forall_mem_cons.mpr ⟨lw_p3, List.forall_mem_cons.mpr ⟨lw_p4, List.forall_mem_cons.mpr ⟨lw_p5, List.forall_mem_cons.mpr ⟨lw_p6, List.forall_mem_cons.mpr ⟨lw_p7, List.forall_mem_cons.mpr ⟨lw_p8, List.forall_mem_cons.mpr ⟨lw_p9, List.forall_mem_cons.mpr ⟨lw_p10, List.forall_mem_cons.mpr ⟨lw_p11, List.forall_mem_cons.mpr ⟨lw_p12, List.forall_mem_cons.mpr ⟨lw_p13, List.forall_mem_cons.mpr ⟨lw_p14, List.forall_mem_cons.mpr ⟨lw_p15, fun _ h => absurd h List.not_mem_nil⟩⟩⟩⟩⟩⟩⟩⟩⟩⟩⟩⟩⟩⟩⟩⟩
theorem lw_p16 : lw_okq (⟨"CashLedger$SetupReader", "readBracket", "()Z"⟩, 11) := ⟨⟨by decide +kernel, by decide +kernel⟩, List.mem_of_getElem? (i := 31) (by decide +kernel), List.mem_of_getElem? (i := 445) (by decide +kernel), List.mem_of_getElem? (i := 446) (by decide +kernel)⟩
theorem lw_p17 : lw_okq (⟨"CashLedger$Setup", "lastLimit", "()I"⟩, 9) := ⟨⟨by decide +kernel, by decide +kernel⟩, List.mem_of_getElem? (i := 37) (by decide +kernel), List.mem_of_getElem? (i := 449) (by decide +kernel), List.mem_of_getElem? (i := 450) (by decide +kernel)⟩
theorem lw_p18 : lw_okq (⟨"CashLedger$SetupReader", "readRoom", "()Z"⟩, 11) := ⟨⟨by decide +kernel, by decide +kernel⟩, List.mem_of_getElem? (i := 31) (by decide +kernel), List.mem_of_getElem? (i := 456) (by decide +kernel), List.mem_of_getElem? (i := 457) (by decide +kernel)⟩
theorem lw_p19 : lw_okq (⟨"CashLedger$Rooms", "add", "(III)I"⟩, 4) := ⟨⟨by decide +kernel, by decide +kernel⟩, List.mem_of_getElem? (i := 43) (by decide +kernel), List.mem_of_getElem? (i := 461) (by decide +kernel), List.mem_of_getElem? (i := 462) (by decide +kernel)⟩
theorem lw_p20 : lw_okq (⟨"CashLedger$State", "copyFrom", "(LCashLedger$State;)V"⟩, 6) := ⟨⟨by decide +kernel, by decide +kernel⟩, List.mem_of_getElem? (i := 150) (by decide +kernel), List.mem_of_getElem? (i := 474) (by decide +kernel), List.mem_of_getElem? (i := 475) (by decide +kernel)⟩
theorem lw_p21 : lw_okq (⟨"CashLedger$Entries", "copyFrom", "(LCashLedger$Entries;)V"⟩, 8) := ⟨⟨by decide +kernel, by decide +kernel⟩, List.mem_of_getElem? (i := 156) (by decide +kernel), List.mem_of_getElem? (i := 478) (by decide +kernel), List.mem_of_getElem? (i := 479) (by decide +kernel)⟩
theorem lw_p22 : lw_okq (⟨"CashLedger$Assets", "copyFrom", "(LCashLedger$Assets;)V"⟩, 7) := ⟨⟨by decide +kernel, by decide +kernel⟩, List.mem_of_getElem? (i := 203) (by decide +kernel), List.mem_of_getElem? (i := 482) (by decide +kernel), List.mem_of_getElem? (i := 483) (by decide +kernel)⟩
theorem lw_p23 : lw_okq (⟨"CashLedger$Setup", "taxOf", "(J)J"⟩, 9) := ⟨⟨by decide +kernel, by decide +kernel⟩, List.mem_of_getElem? (i := 37) (by decide +kernel), List.mem_of_getElem? (i := 490) (by decide +kernel), List.mem_of_getElem? (i := 491) (by decide +kernel)⟩
theorem lw_p24 : lw_okq (⟨"CashLedger$Setup", "rateOf", "(I)I"⟩, 9) := ⟨⟨by decide +kernel, by decide +kernel⟩, List.mem_of_getElem? (i := 37) (by decide +kernel), List.mem_of_getElem? (i := 505) (by decide +kernel), List.mem_of_getElem? (i := 506) (by decide +kernel)⟩
theorem lw_p25 : lw_okq (⟨"CashLedger", "yearProfit", "()J"⟩, 9) := ⟨⟨by decide +kernel, by decide +kernel⟩, List.mem_of_getElem? (i := 23) (by decide +kernel), List.mem_of_getElem? (i := 513) (by decide +kernel), List.mem_of_getElem? (i := 514) (by decide +kernel)⟩
theorem lw_p26 : lw_okq (⟨"CashLedger$State", "profitUpTo", "(I)J"⟩, 6) := ⟨⟨by decide +kernel, by decide +kernel⟩, List.mem_of_getElem? (i := 150) (by decide +kernel), List.mem_of_getElem? (i := 517) (by decide +kernel), List.mem_of_getElem? (i := 518) (by decide +kernel)⟩
theorem lw_p27 : lw_okq (⟨"CashLedger$State", "received", "(II)J"⟩, 6) := ⟨⟨by decide +kernel, by decide +kernel⟩, List.mem_of_getElem? (i := 150) (by decide +kernel), List.mem_of_getElem? (i := 521) (by decide +kernel), List.mem_of_getElem? (i := 522) (by decide +kernel)⟩
theorem lw_p28 : lw_okq (⟨"CashLedger$Entries", "sumPaid", "(III)J"⟩, 8) := ⟨⟨by decide +kernel, by decide +kernel⟩, List.mem_of_getElem? (i := 156) (by decide +kernel), List.mem_of_getElem? (i := 525) (by decide +kernel), List.mem_of_getElem? (i := 526) (by decide +kernel)⟩
theorem lw_p29 : lw_okq (⟨"CashLedger$Entries", "countsWithin", "(III)Z"⟩, 8) := ⟨⟨by decide +kernel, by decide +kernel⟩, List.mem_of_getElem? (i := 156) (by decide +kernel), List.mem_of_getElem? (i := 529) (by decide +kernel), List.mem_of_getElem? (i := 530) (by decide +kernel)⟩
theorem lw_p30 : lw_okq (⟨"CashLedger$Entries", "counts", "(I)Z"⟩, 8) := ⟨⟨by decide +kernel, by decide +kernel⟩, List.mem_of_getElem? (i := 156) (by decide +kernel), List.mem_of_getElem? (i := 533) (by decide +kernel), List.mem_of_getElem? (i := 534) (by decide +kernel)⟩
theorem lw_p31 : lw_okq (⟨"CashLedger$Assets", "soldFor", "(II)J"⟩, 7) := ⟨⟨by decide +kernel, by decide +kernel⟩, List.mem_of_getElem? (i := 203) (by decide +kernel), List.mem_of_getElem? (i := 537) (by decide +kernel), List.mem_of_getElem? (i := 538) (by decide +kernel)⟩
def lw_privs_2 : List (MethodName × Nat) := [(⟨"CashLedger$SetupReader", "readBracket", "()Z"⟩, 11), (⟨"CashLedger$Setup", "lastLimit", "()I"⟩, 9), (⟨"CashLedger$SetupReader", "readRoom", "()Z"⟩, 11), (⟨"CashLedger$Rooms", "add", "(III)I"⟩, 4), (⟨"CashLedger$State", "copyFrom", "(LCashLedger$State;)V"⟩, 6), (⟨"CashLedger$Entries", "copyFrom", "(LCashLedger$Entries;)V"⟩, 8), (⟨"CashLedger$Assets", "copyFrom", "(LCashLedger$Assets;)V"⟩, 7), (⟨"CashLedger$Setup", "taxOf", "(J)J"⟩, 9), (⟨"CashLedger$Setup", "rateOf", "(I)I"⟩, 9), (⟨"CashLedger", "yearProfit", "()J"⟩, 9), (⟨"CashLedger$State", "profitUpTo", "(I)J"⟩, 6), (⟨"CashLedger$State", "received", "(II)J"⟩, 6), (⟨"CashLedger$Entries", "sumPaid", "(III)J"⟩, 8), (⟨"CashLedger$Entries", "countsWithin", "(III)Z"⟩, 8), (⟨"CashLedger$Entries", "counts", "(I)Z"⟩, 8), (⟨"CashLedger$Assets", "soldFor", "(II)J"⟩, 7)]
theorem lw_r2 : ∀ q ∈ lw_privs_2, lw_okq q := List.forall_mem_cons.mpr ⟨lw_p16, List.forall_mem_cons.mpr ⟨lw_p17, List.forall_mem_cons.mpr ⟨lw_p18, List.forall_mem_cons.mpr ⟨lw_p19, List.forall_mem_cons.mpr ⟨lw_p20, List.forall_mem_cons.mpr ⟨lw_p21, List.forall_mem_cons.mpr ⟨lw_p22, List.forall_mem_cons.mpr ⟨lw_p23, List.forall_mem_cons.mpr ⟨lw_p24, List.forall_mem_cons.mpr ⟨lw_p25, List.forall_mem_cons.mpr ⟨lw_p26, List.forall_mem_cons.mpr ⟨lw_p27, List.forall_mem_cons.mpr ⟨lw_p28, List.forall_mem_cons.mpr ⟨lw_p29, List.forall_mem_cons.mpr ⟨lw_p30, List.forall_mem_cons.mpr ⟨lw_p31, fun _ h => absurd h List.not_mem_nil⟩⟩⟩⟩⟩⟩⟩⟩⟩⟩⟩⟩⟩⟩⟩⟩
theorem lw_p32 : lw_okq (⟨"CashLedger$State", "deductibleUpTo", "(I)J"⟩, 6) := ⟨⟨by decide +kernel, by decide +kernel⟩, List.mem_of_getElem? (i := 150) (by decide +kernel), List.mem_of_getElem? (i := 542) (by decide +kernel), List.mem_of_getElem? (i := 543) (by decide +kernel)⟩
theorem lw_p33 : lw_okq (⟨"CashLedger$State", "deductibleOf", "(III)J"⟩, 6) := ⟨⟨by decide +kernel, by decide +kernel⟩, List.mem_of_getElem? (i := 150) (by decide +kernel), List.mem_of_getElem? (i := 547) (by decide +kernel), List.mem_of_getElem? (i := 548) (by decide +kernel)⟩
theorem lw_p34 : lw_okq (⟨"CashLedger$Rooms", "wholeMonth", "()I"⟩, 4) := ⟨⟨by decide +kernel, by decide +kernel⟩, List.mem_of_getElem? (i := 43) (by decide +kernel), List.mem_of_getElem? (i := 551) (by decide +kernel), List.mem_of_getElem? (i := 552) (by decide +kernel)⟩
theorem lw_p35 : lw_okq (⟨"CashLedger$Rooms", "usedIn", "(I)I"⟩, 4) := ⟨⟨by decide +kernel, by decide +kernel⟩, List.mem_of_getElem? (i := 43) (by decide +kernel), List.mem_of_getElem? (i := 555) (by decide +kernel), List.mem_of_getElem? (i := 556) (by decide +kernel)⟩
theorem lw_p36 : lw_okq (⟨"CashLedger$Rooms", "daysUsed", "(III)I"⟩, 4) := ⟨⟨by decide +kernel, by decide +kernel⟩, List.mem_of_getElem? (i := 43) (by decide +kernel), List.mem_of_getElem? (i := 559) (by decide +kernel), List.mem_of_getElem? (i := 560) (by decide +kernel)⟩
theorem lw_p37 : lw_okq (⟨"CashLedger$Assets", "allWrittenUpTo", "(I)J"⟩, 7) := ⟨⟨by decide +kernel, by decide +kernel⟩, List.mem_of_getElem? (i := 203) (by decide +kernel), List.mem_of_getElem? (i := 563) (by decide +kernel), List.mem_of_getElem? (i := 564) (by decide +kernel)⟩
theorem lw_p38 : lw_okq (⟨"CashLedger$Assets", "poolWrittenUpTo", "(I)I"⟩, 7) := ⟨⟨by decide +kernel, by decide +kernel⟩, List.mem_of_getElem? (i := 203) (by decide +kernel), List.mem_of_getElem? (i := 567) (by decide +kernel), List.mem_of_getElem? (i := 568) (by decide +kernel)⟩
theorem lw_p39 : lw_okq (⟨"CashLedger$Assets", "poolAt", "(I)I"⟩, 7) := ⟨⟨by decide +kernel, by decide +kernel⟩, List.mem_of_getElem? (i := 203) (by decide +kernel), List.mem_of_getElem? (i := 571) (by decide +kernel), List.mem_of_getElem? (i := 572) (by decide +kernel)⟩
theorem lw_p40 : lw_okq (⟨"CashLedger$Assets", "writtenUpTo", "(II)I"⟩, 7) := ⟨⟨by decide +kernel, by decide +kernel⟩, List.mem_of_getElem? (i := 203) (by decide +kernel), List.mem_of_getElem? (i := 575) (by decide +kernel), List.mem_of_getElem? (i := 576) (by decide +kernel)⟩
theorem lw_p41 : lw_okq (⟨"CashLedger$Assets", "isSoldBy", "(II)Z"⟩, 7) := ⟨⟨by decide +kernel, by decide +kernel⟩, List.mem_of_getElem? (i := 203) (by decide +kernel), List.mem_of_getElem? (i := 579) (by decide +kernel), List.mem_of_getElem? (i := 580) (by decide +kernel)⟩
theorem lw_p42 : lw_okq (⟨"CashLedger", "prepaymentNow", "(I)I"⟩, 9) := ⟨⟨by decide +kernel, by decide +kernel⟩, List.mem_of_getElem? (i := 23) (by decide +kernel), List.mem_of_getElem? (i := 587) (by decide +kernel), List.mem_of_getElem? (i := 588) (by decide +kernel)⟩
theorem lw_p43 : lw_okq (⟨"CashLedger", "targetAt", "(IJ)J"⟩, 9) := ⟨⟨by decide +kernel, by decide +kernel⟩, List.mem_of_getElem? (i := 23) (by decide +kernel), List.mem_of_getElem? (i := 591) (by decide +kernel), List.mem_of_getElem? (i := 592) (by decide +kernel)⟩
theorem lw_p44 : lw_okq (⟨"CashLedger$State", "fillBalances", "([J)V"⟩, 6) := ⟨⟨by decide +kernel, by decide +kernel⟩, List.mem_of_getElem? (i := 150) (by decide +kernel), List.mem_of_getElem? (i := 602) (by decide +kernel), List.mem_of_getElem? (i := 603) (by decide +kernel)⟩
theorem lw_p45 : lw_okq (⟨"CashLedger$State", "receivedIn", "(I)J"⟩, 6) := ⟨⟨by decide +kernel, by decide +kernel⟩, List.mem_of_getElem? (i := 150) (by decide +kernel), List.mem_of_getElem? (i := 618) (by decide +kernel), List.mem_of_getElem? (i := 619) (by decide +kernel)⟩
theorem lw_p46 : lw_okq (⟨"java/lang/Throwable", "fillInStackTrace", "(I)Ljava/lang/Throwable;"⟩, 6) := ⟨⟨by decide +kernel, by decide +kernel⟩, List.mem_of_getElem? (i := 675) (by decide +kernel), List.mem_of_getElem? (i := 673) (by decide +kernel), List.mem_of_getElem? (i := 674) (by decide +kernel)⟩
theorem lw_p47 : lw_okq (⟨"CashLedger", "putBytes", "(I)V"⟩, 9) := ⟨⟨by decide +kernel, by decide +kernel⟩, List.mem_of_getElem? (i := 23) (by decide +kernel), List.mem_of_getElem? (i := 704) (by decide +kernel), List.mem_of_getElem? (i := 705) (by decide +kernel)⟩
def lw_privs_3 : List (MethodName × Nat) := [(⟨"CashLedger$State", "deductibleUpTo", "(I)J"⟩, 6), (⟨"CashLedger$State", "deductibleOf", "(III)J"⟩, 6), (⟨"CashLedger$Rooms", "wholeMonth", "()I"⟩, 4), (⟨"CashLedger$Rooms", "usedIn", "(I)I"⟩, 4), (⟨"CashLedger$Rooms", "daysUsed", "(III)I"⟩, 4), (⟨"CashLedger$Assets", "allWrittenUpTo", "(I)J"⟩, 7), (⟨"CashLedger$Assets", "poolWrittenUpTo", "(I)I"⟩, 7), (⟨"CashLedger$Assets", "poolAt", "(I)I"⟩, 7), (⟨"CashLedger$Assets", "writtenUpTo", "(II)I"⟩, 7), (⟨"CashLedger$Assets", "isSoldBy", "(II)Z"⟩, 7), (⟨"CashLedger", "prepaymentNow", "(I)I"⟩, 9), (⟨"CashLedger", "targetAt", "(IJ)J"⟩, 9), (⟨"CashLedger$State", "fillBalances", "([J)V"⟩, 6), (⟨"CashLedger$State", "receivedIn", "(I)J"⟩, 6), (⟨"java/lang/Throwable", "fillInStackTrace", "(I)Ljava/lang/Throwable;"⟩, 6), (⟨"CashLedger", "putBytes", "(I)V"⟩, 9)]
theorem lw_r3 : ∀ q ∈ lw_privs_3, lw_okq q := List.forall_mem_cons.mpr ⟨lw_p32, List.forall_mem_cons.mpr ⟨lw_p33, List.forall_mem_cons.mpr ⟨lw_p34, List.forall_mem_cons.mpr ⟨lw_p35, List.forall_mem_cons.mpr ⟨lw_p36, List.forall_mem_cons.mpr ⟨lw_p37, List.forall_mem_cons.mpr ⟨lw_p38, List.forall_mem_cons.mpr ⟨lw_p39, List.forall_mem_cons.mpr ⟨lw_p40, List.forall_mem_cons.mpr ⟨lw_p41, List.forall_mem_cons.mpr ⟨lw_p42, List.forall_mem_cons.mpr ⟨lw_p43, List.forall_mem_cons.mpr ⟨lw_p44, List.forall_mem_cons.mpr ⟨lw_p45, List.forall_mem_cons.mpr ⟨lw_p46, List.forall_mem_cons.mpr ⟨lw_p47, fun _ h => absurd h List.not_mem_nil⟩⟩⟩⟩⟩⟩⟩⟩⟩⟩⟩⟩⟩⟩⟩⟩
theorem lw_p48 : lw_okq (⟨"CashLedger$SetupReader", "handOver", "(LCashLedger$Setup;)LCashLedger$Setup;"⟩, 11) := ⟨⟨by decide +kernel, by decide +kernel⟩, List.mem_of_getElem? (i := 31) (by decide +kernel), List.mem_of_getElem? (i := 743) (by decide +kernel), List.mem_of_getElem? (i := 744) (by decide +kernel)⟩
theorem lw_p49 : lw_okq (⟨"CashLedger$History", "clear", "()V"⟩, 3) := ⟨⟨by decide +kernel, by decide +kernel⟩, List.mem_of_getElem? (i := 268) (by decide +kernel), List.mem_of_getElem? (i := 747) (by decide +kernel), List.mem_of_getElem? (i := 748) (by decide +kernel)⟩
theorem lw_p50 : lw_okq (⟨"CashLedger$History", "remember", "(LCashLedger$State;)V"⟩, 3) := ⟨⟨by decide +kernel, by decide +kernel⟩, List.mem_of_getElem? (i := 268) (by decide +kernel), List.mem_of_getElem? (i := 762) (by decide +kernel), List.mem_of_getElem? (i := 763) (by decide +kernel)⟩
theorem lw_p51 : lw_okq (⟨"CashLedger$Entries", "add", "(IIIIIZ)I"⟩, 8) := ⟨⟨by decide +kernel, by decide +kernel⟩, List.mem_of_getElem? (i := 156) (by decide +kernel), List.mem_of_getElem? (i := 768) (by decide +kernel), List.mem_of_getElem? (i := 769) (by decide +kernel)⟩
theorem lw_p52 : lw_okq (⟨"CashLedger$Setup", "sortOf", "(I)I"⟩, 9) := ⟨⟨by decide +kernel, by decide +kernel⟩, List.mem_of_getElem? (i := 37) (by decide +kernel), List.mem_of_getElem? (i := 830) (by decide +kernel), List.mem_of_getElem? (i := 831) (by decide +kernel)⟩
theorem lw_p53 : lw_okq (⟨"CashLedger$Assets", "add", "(IIII)I"⟩, 7) := ⟨⟨by decide +kernel, by decide +kernel⟩, List.mem_of_getElem? (i := 203) (by decide +kernel), List.mem_of_getElem? (i := 834) (by decide +kernel), List.mem_of_getElem? (i := 835) (by decide +kernel)⟩
theorem lw_p54 : lw_okq (⟨"CashLedger$Assets", "valueAt", "(II)I"⟩, 7) := ⟨⟨by decide +kernel, by decide +kernel⟩, List.mem_of_getElem? (i := 203) (by decide +kernel), List.mem_of_getElem? (i := 845) (by decide +kernel), List.mem_of_getElem? (i := 846) (by decide +kernel)⟩
theorem lw_p55 : lw_okq (⟨"CashLedger$State", "prepaidSoFar", "()J"⟩, 6) := ⟨⟨by decide +kernel, by decide +kernel⟩, List.mem_of_getElem? (i := 150) (by decide +kernel), List.mem_of_getElem? (i := 856) (by decide +kernel), List.mem_of_getElem? (i := 857) (by decide +kernel)⟩
theorem lw_p56 : lw_okq (⟨"CashLedger$History", "takeBack", "(LCashLedger$State;)V"⟩, 3) := ⟨⟨by decide +kernel, by decide +kernel⟩, List.mem_of_getElem? (i := 268) (by decide +kernel), List.mem_of_getElem? (i := 875) (by decide +kernel), List.mem_of_getElem? (i := 876) (by decide +kernel)⟩
theorem lw_p57 : lw_okq (⟨"CashLedger$Entries", "openOnes", "()I"⟩, 8) := ⟨⟨by decide +kernel, by decide +kernel⟩, List.mem_of_getElem? (i := 156) (by decide +kernel), List.mem_of_getElem? (i := 896) (by decide +kernel), List.mem_of_getElem? (i := 897) (by decide +kernel)⟩
theorem lw_p58 : lw_okq (⟨"CashLedger$Entries", "isOpen", "(I)Z"⟩, 8) := ⟨⟨by decide +kernel, by decide +kernel⟩, List.mem_of_getElem? (i := 156) (by decide +kernel), List.mem_of_getElem? (i := 900) (by decide +kernel), List.mem_of_getElem? (i := 901) (by decide +kernel)⟩
theorem lw_p59 : lw_okq (⟨"CashLedger$Entries", "cancelledOnes", "()I"⟩, 8) := ⟨⟨by decide +kernel, by decide +kernel⟩, List.mem_of_getElem? (i := 156) (by decide +kernel), List.mem_of_getElem? (i := 904) (by decide +kernel), List.mem_of_getElem? (i := 905) (by decide +kernel)⟩
theorem lw_p60 : lw_okq (⟨"CashLedger$Entries", "lateOnes", "()I"⟩, 8) := ⟨⟨by decide +kernel, by decide +kernel⟩, List.mem_of_getElem? (i := 156) (by decide +kernel), List.mem_of_getElem? (i := 908) (by decide +kernel), List.mem_of_getElem? (i := 909) (by decide +kernel)⟩
theorem lw_p61 : lw_okq (⟨"CashLedger$Assets", "soldOnes", "()I"⟩, 7) := ⟨⟨by decide +kernel, by decide +kernel⟩, List.mem_of_getElem? (i := 203) (by decide +kernel), List.mem_of_getElem? (i := 912) (by decide +kernel), List.mem_of_getElem? (i := 913) (by decide +kernel)⟩
theorem lw_p62 : lw_okq (⟨"CashLedger$State", "deductiblePart", "(I)I"⟩, 6) := ⟨⟨by decide +kernel, by decide +kernel⟩, List.mem_of_getElem? (i := 150) (by decide +kernel), List.mem_of_getElem? (i := 931) (by decide +kernel), List.mem_of_getElem? (i := 932) (by decide +kernel)⟩
theorem lw_p63 : lw_okq (⟨"CashLedger$Entries", "incomesOf", "(I)J"⟩, 8) := ⟨⟨by decide +kernel, by decide +kernel⟩, List.mem_of_getElem? (i := 156) (by decide +kernel), List.mem_of_getElem? (i := 950) (by decide +kernel), List.mem_of_getElem? (i := 951) (by decide +kernel)⟩
def lw_privs_4 : List (MethodName × Nat) := [(⟨"CashLedger$SetupReader", "handOver", "(LCashLedger$Setup;)LCashLedger$Setup;"⟩, 11), (⟨"CashLedger$History", "clear", "()V"⟩, 3), (⟨"CashLedger$History", "remember", "(LCashLedger$State;)V"⟩, 3), (⟨"CashLedger$Entries", "add", "(IIIIIZ)I"⟩, 8), (⟨"CashLedger$Setup", "sortOf", "(I)I"⟩, 9), (⟨"CashLedger$Assets", "add", "(IIII)I"⟩, 7), (⟨"CashLedger$Assets", "valueAt", "(II)I"⟩, 7), (⟨"CashLedger$State", "prepaidSoFar", "()J"⟩, 6), (⟨"CashLedger$History", "takeBack", "(LCashLedger$State;)V"⟩, 3), (⟨"CashLedger$Entries", "openOnes", "()I"⟩, 8), (⟨"CashLedger$Entries", "isOpen", "(I)Z"⟩, 8), (⟨"CashLedger$Entries", "cancelledOnes", "()I"⟩, 8), (⟨"CashLedger$Entries", "lateOnes", "()I"⟩, 8), (⟨"CashLedger$Assets", "soldOnes", "()I"⟩, 7), (⟨"CashLedger$State", "deductiblePart", "(I)I"⟩, 6), (⟨"CashLedger$Entries", "incomesOf", "(I)J"⟩, 8)]
theorem lw_r4 : ∀ q ∈ lw_privs_4, lw_okq q := List.forall_mem_cons.mpr ⟨lw_p48, List.forall_mem_cons.mpr ⟨lw_p49, List.forall_mem_cons.mpr ⟨lw_p50, List.forall_mem_cons.mpr ⟨lw_p51, List.forall_mem_cons.mpr ⟨lw_p52, List.forall_mem_cons.mpr ⟨lw_p53, List.forall_mem_cons.mpr ⟨lw_p54, List.forall_mem_cons.mpr ⟨lw_p55, List.forall_mem_cons.mpr ⟨lw_p56, List.forall_mem_cons.mpr ⟨lw_p57, List.forall_mem_cons.mpr ⟨lw_p58, List.forall_mem_cons.mpr ⟨lw_p59, List.forall_mem_cons.mpr ⟨lw_p60, List.forall_mem_cons.mpr ⟨lw_p61, List.forall_mem_cons.mpr ⟨lw_p62, List.forall_mem_cons.mpr ⟨lw_p63, fun _ h => absurd h List.not_mem_nil⟩⟩⟩⟩⟩⟩⟩⟩⟩⟩⟩⟩⟩⟩⟩⟩
theorem lw_p64 : lw_okq (⟨"CashLedger$State", "deductiblePartsOf", "(I)J"⟩, 6) := ⟨⟨by decide +kernel, by decide +kernel⟩, List.mem_of_getElem? (i := 150) (by decide +kernel), List.mem_of_getElem? (i := 954) (by decide +kernel), List.mem_of_getElem? (i := 955) (by decide +kernel)⟩
theorem lw_p65 : lw_okq (⟨"CashLedger$Entries", "sumOpen", "(I)J"⟩, 8) := ⟨⟨by decide +kernel, by decide +kernel⟩, List.mem_of_getElem? (i := 156) (by decide +kernel), List.mem_of_getElem? (i := 966) (by decide +kernel), List.mem_of_getElem? (i := 967) (by decide +kernel)⟩
theorem lw_p66 : lw_okq (⟨"CashLedger$Entries", "firstInvoicedOpen", "()I"⟩, 8) := ⟨⟨by decide +kernel, by decide +kernel⟩, List.mem_of_getElem? (i := 156) (by decide +kernel), List.mem_of_getElem? (i := 978) (by decide +kernel), List.mem_of_getElem? (i := 979) (by decide +kernel)⟩
theorem lw_p67 : lw_okq (⟨"CashLedger$Assets", "writtenIn", "(II)I"⟩, 7) := ⟨⟨by decide +kernel, by decide +kernel⟩, List.mem_of_getElem? (i := 203) (by decide +kernel), List.mem_of_getElem? (i := 1034) (by decide +kernel), List.mem_of_getElem? (i := 1035) (by decide +kernel)⟩
theorem lw_p68 : lw_okq (⟨"CashLedger$Assets", "poolWrittenIn", "(I)I"⟩, 7) := ⟨⟨by decide +kernel, by decide +kernel⟩, List.mem_of_getElem? (i := 203) (by decide +kernel), List.mem_of_getElem? (i := 1063) (by decide +kernel), List.mem_of_getElem? (i := 1064) (by decide +kernel)⟩
theorem lw_p69 : lw_okq (⟨"CashLedger", "additionalTax", "(JJ)J"⟩, 9) := ⟨⟨by decide +kernel, by decide +kernel⟩, List.mem_of_getElem? (i := 23) (by decide +kernel), List.mem_of_getElem? (i := 1125) (by decide +kernel), List.mem_of_getElem? (i := 1126) (by decide +kernel)⟩
theorem lw_p70 : lw_okq (⟨"CashLedger", "leftOf", "(IJ)J"⟩, 9) := ⟨⟨by decide +kernel, by decide +kernel⟩, List.mem_of_getElem? (i := 23) (by decide +kernel), List.mem_of_getElem? (i := 1137) (by decide +kernel), List.mem_of_getElem? (i := 1138) (by decide +kernel)⟩
theorem lw_p71 : lw_okq (⟨"CashLedgerModel", "begin", "()V"⟩, 16) := ⟨⟨by decide +kernel, by decide +kernel⟩, List.mem_of_getElem? (i := 1148) (by decide +kernel), List.mem_of_getElem? (i := 1154) (by decide +kernel), List.mem_of_getElem? (i := 1155) (by decide +kernel)⟩
theorem lw_p72 : lw_okq (⟨"CashLedgerModel", "readBracket", "(II)V"⟩, 16) := ⟨⟨by decide +kernel, by decide +kernel⟩, List.mem_of_getElem? (i := 1148) (by decide +kernel), List.mem_of_getElem? (i := 1161) (by decide +kernel), List.mem_of_getElem? (i := 1162) (by decide +kernel)⟩
theorem lw_p73 : lw_okq (⟨"CashLedgerModel", "takeRead", "()V"⟩, 16) := ⟨⟨by decide +kernel, by decide +kernel⟩, List.mem_of_getElem? (i := 1148) (by decide +kernel), List.mem_of_getElem? (i := 1166) (by decide +kernel), List.mem_of_getElem? (i := 1167) (by decide +kernel)⟩
theorem lw_p74 : lw_okq (⟨"CashLedgerModel", "fails", "(ZI)Z"⟩, 16) := ⟨⟨by decide +kernel, by decide +kernel⟩, List.mem_of_getElem? (i := 1148) (by decide +kernel), List.mem_of_getElem? (i := 1230) (by decide +kernel), List.mem_of_getElem? (i := 1231) (by decide +kernel)⟩
theorem lw_p75 : lw_okq (⟨"CashLedgerModel", "parse", "()I"⟩, 16) := ⟨⟨by decide +kernel, by decide +kernel⟩, List.mem_of_getElem? (i := 1148) (by decide +kernel), List.mem_of_getElem? (i := 1245) (by decide +kernel), List.mem_of_getElem? (i := 1246) (by decide +kernel)⟩
theorem lw_p76 : lw_okq (⟨"CashLedgerModel", "step", "()V"⟩, 16) := ⟨⟨by decide +kernel, by decide +kernel⟩, List.mem_of_getElem? (i := 1148) (by decide +kernel), List.mem_of_getElem? (i := 1249) (by decide +kernel), List.mem_of_getElem? (i := 1250) (by decide +kernel)⟩
theorem lw_p77 : lw_okq (⟨"CashLedgerModel", "peek", "(I)I"⟩, 16) := ⟨⟨by decide +kernel, by decide +kernel⟩, List.mem_of_getElem? (i := 1148) (by decide +kernel), List.mem_of_getElem? (i := 1253) (by decide +kernel), List.mem_of_getElem? (i := 1254) (by decide +kernel)⟩
theorem lw_p78 : lw_okq (⟨"CashLedgerModel", "readStatement", "()V"⟩, 16) := ⟨⟨by decide +kernel, by decide +kernel⟩, List.mem_of_getElem? (i := 1148) (by decide +kernel), List.mem_of_getElem? (i := 1267) (by decide +kernel), List.mem_of_getElem? (i := 1268) (by decide +kernel)⟩
theorem lw_p79 : lw_okq (⟨"CashLedgerModel", "isWord", "(Ljava/lang/String;)Z"⟩, 16) := ⟨⟨by decide +kernel, by decide +kernel⟩, List.mem_of_getElem? (i := 1148) (by decide +kernel), List.mem_of_getElem? (i := 1272) (by decide +kernel), List.mem_of_getElem? (i := 1273) (by decide +kernel)⟩
def lw_privs_5 : List (MethodName × Nat) := [(⟨"CashLedger$State", "deductiblePartsOf", "(I)J"⟩, 6), (⟨"CashLedger$Entries", "sumOpen", "(I)J"⟩, 8), (⟨"CashLedger$Entries", "firstInvoicedOpen", "()I"⟩, 8), (⟨"CashLedger$Assets", "writtenIn", "(II)I"⟩, 7), (⟨"CashLedger$Assets", "poolWrittenIn", "(I)I"⟩, 7), (⟨"CashLedger", "additionalTax", "(JJ)J"⟩, 9), (⟨"CashLedger", "leftOf", "(IJ)J"⟩, 9), (⟨"CashLedgerModel", "begin", "()V"⟩, 16), (⟨"CashLedgerModel", "readBracket", "(II)V"⟩, 16), (⟨"CashLedgerModel", "takeRead", "()V"⟩, 16), (⟨"CashLedgerModel", "fails", "(ZI)Z"⟩, 16), (⟨"CashLedgerModel", "parse", "()I"⟩, 16), (⟨"CashLedgerModel", "step", "()V"⟩, 16), (⟨"CashLedgerModel", "peek", "(I)I"⟩, 16), (⟨"CashLedgerModel", "readStatement", "()V"⟩, 16), (⟨"CashLedgerModel", "isWord", "(Ljava/lang/String;)Z"⟩, 16)]
theorem lw_r5 : ∀ q ∈ lw_privs_5, lw_okq q := List.forall_mem_cons.mpr ⟨lw_p64, List.forall_mem_cons.mpr ⟨lw_p65, List.forall_mem_cons.mpr ⟨lw_p66, List.forall_mem_cons.mpr ⟨lw_p67, List.forall_mem_cons.mpr ⟨lw_p68, List.forall_mem_cons.mpr ⟨lw_p69, List.forall_mem_cons.mpr ⟨lw_p70, List.forall_mem_cons.mpr ⟨lw_p71, List.forall_mem_cons.mpr ⟨lw_p72, List.forall_mem_cons.mpr ⟨lw_p73, List.forall_mem_cons.mpr ⟨lw_p74, List.forall_mem_cons.mpr ⟨lw_p75, List.forall_mem_cons.mpr ⟨lw_p76, List.forall_mem_cons.mpr ⟨lw_p77, List.forall_mem_cons.mpr ⟨lw_p78, List.forall_mem_cons.mpr ⟨lw_p79, fun _ h => absurd h List.not_mem_nil⟩⟩⟩⟩⟩⟩⟩⟩⟩⟩⟩⟩⟩⟩⟩⟩
theorem lw_p80 : lw_okq (⟨"CashLedgerModel", "isGood", "()Z"⟩, 16) := ⟨⟨by decide +kernel, by decide +kernel⟩, List.mem_of_getElem? (i := 1148) (by decide +kernel), List.mem_of_getElem? (i := 1276) (by decide +kernel), List.mem_of_getElem? (i := 1277) (by decide +kernel)⟩
theorem lw_p81 : lw_okq (⟨"CashLedgerModel", "bracketStatement", "()V"⟩, 16) := ⟨⟨by decide +kernel, by decide +kernel⟩, List.mem_of_getElem? (i := 1148) (by decide +kernel), List.mem_of_getElem? (i := 1282) (by decide +kernel), List.mem_of_getElem? (i := 1283) (by decide +kernel)⟩
theorem lw_p82 : lw_okq (⟨"CashLedgerModel", "fail", "()V"⟩, 16) := ⟨⟨by decide +kernel, by decide +kernel⟩, List.mem_of_getElem? (i := 1148) (by decide +kernel), List.mem_of_getElem? (i := 1286) (by decide +kernel), List.mem_of_getElem? (i := 1287) (by decide +kernel)⟩
theorem lw_p83 : lw_okq (⟨"CashLedgerModel", "takeNumber", "(II)I"⟩, 16) := ⟨⟨by decide +kernel, by decide +kernel⟩, List.mem_of_getElem? (i := 1148) (by decide +kernel), List.mem_of_getElem? (i := 1291) (by decide +kernel), List.mem_of_getElem? (i := 1292) (by decide +kernel)⟩
theorem lw_p84 : lw_okq (⟨"CashLedgerModel", "roomStatement", "()V"⟩, 16) := ⟨⟨by decide +kernel, by decide +kernel⟩, List.mem_of_getElem? (i := 1148) (by decide +kernel), List.mem_of_getElem? (i := 1296) (by decide +kernel), List.mem_of_getElem? (i := 1297) (by decide +kernel)⟩
theorem lw_p85 : lw_okq (⟨"CashLedgerModel", "once", "(Ljava/lang/String;I)Z"⟩, 16) := ⟨⟨by decide +kernel, by decide +kernel⟩, List.mem_of_getElem? (i := 1148) (by decide +kernel), List.mem_of_getElem? (i := 1302) (by decide +kernel), List.mem_of_getElem? (i := 1303) (by decide +kernel)⟩
theorem lw_p86 : lw_okq (⟨"CashLedgerModel", "take", "(III)V"⟩, 16) := ⟨⟨by decide +kernel, by decide +kernel⟩, List.mem_of_getElem? (i := 1148) (by decide +kernel), List.mem_of_getElem? (i := 1307) (by decide +kernel), List.mem_of_getElem? (i := 1308) (by decide +kernel)⟩
theorem lw_p87 : lw_okq (⟨"CashLedgerModel", "record", "()V"⟩, 16) := ⟨⟨by decide +kernel, by decide +kernel⟩, List.mem_of_getElem? (i := 1148) (by decide +kernel), List.mem_of_getElem? (i := 1355) (by decide +kernel), List.mem_of_getElem? (i := 1356) (by decide +kernel)⟩
theorem lw_p88 : lw_okq (⟨"CashLedgerModel", "isEntry", "(I)Z"⟩, 16) := ⟨⟨by decide +kernel, by decide +kernel⟩, List.mem_of_getElem? (i := 1148) (by decide +kernel), List.mem_of_getElem? (i := 1363) (by decide +kernel), List.mem_of_getElem? (i := 1364) (by decide +kernel)⟩
theorem lw_p89 : lw_okq (⟨"CashLedgerModel", "isCancelled", "(I)Z"⟩, 16) := ⟨⟨by decide +kernel, by decide +kernel⟩, List.mem_of_getElem? (i := 1148) (by decide +kernel), List.mem_of_getElem? (i := 1367) (by decide +kernel), List.mem_of_getElem? (i := 1368) (by decide +kernel)⟩
theorem lw_p90 : lw_okq (⟨"CashLedgerModel", "entryPart", "(II)I"⟩, 16) := ⟨⟨by decide +kernel, by decide +kernel⟩, List.mem_of_getElem? (i := 1148) (by decide +kernel), List.mem_of_getElem? (i := 1371) (by decide +kernel), List.mem_of_getElem? (i := 1372) (by decide +kernel)⟩
theorem lw_p91 : lw_okq (⟨"CashLedgerModel", "become", "(II)I"⟩, 16) := ⟨⟨by decide +kernel, by decide +kernel⟩, List.mem_of_getElem? (i := 1148) (by decide +kernel), List.mem_of_getElem? (i := 1375) (by decide +kernel), List.mem_of_getElem? (i := 1376) (by decide +kernel)⟩
theorem lw_p92 : lw_okq (⟨"CashLedgerModel", "isRoom", "(I)Z"⟩, 16) := ⟨⟨by decide +kernel, by decide +kernel⟩, List.mem_of_getElem? (i := 1148) (by decide +kernel), List.mem_of_getElem? (i := 1392) (by decide +kernel), List.mem_of_getElem? (i := 1393) (by decide +kernel)⟩
theorem lw_p93 : lw_okq (⟨"CashLedgerModel", "usedDays", "(III)I"⟩, 16) := ⟨⟨by decide +kernel, by decide +kernel⟩, List.mem_of_getElem? (i := 1148) (by decide +kernel), List.mem_of_getElem? (i := 1396) (by decide +kernel), List.mem_of_getElem? (i := 1397) (by decide +kernel)⟩
theorem lw_p94 : lw_okq (⟨"CashLedgerModel", "roomPart", "(II)I"⟩, 16) := ⟨⟨by decide +kernel, by decide +kernel⟩, List.mem_of_getElem? (i := 1148) (by decide +kernel), List.mem_of_getElem? (i := 1400) (by decide +kernel), List.mem_of_getElem? (i := 1401) (by decide +kernel)⟩
theorem lw_p95 : lw_okq (⟨"CashLedgerModel", "isAsset", "(I)Z"⟩, 16) := ⟨⟨by decide +kernel, by decide +kernel⟩, List.mem_of_getElem? (i := 1148) (by decide +kernel), List.mem_of_getElem? (i := 1416) (by decide +kernel), List.mem_of_getElem? (i := 1417) (by decide +kernel)⟩
def lw_privs_6 : List (MethodName × Nat) := [(⟨"CashLedgerModel", "isGood", "()Z"⟩, 16), (⟨"CashLedgerModel", "bracketStatement", "()V"⟩, 16), (⟨"CashLedgerModel", "fail", "()V"⟩, 16), (⟨"CashLedgerModel", "takeNumber", "(II)I"⟩, 16), (⟨"CashLedgerModel", "roomStatement", "()V"⟩, 16), (⟨"CashLedgerModel", "once", "(Ljava/lang/String;I)Z"⟩, 16), (⟨"CashLedgerModel", "take", "(III)V"⟩, 16), (⟨"CashLedgerModel", "record", "()V"⟩, 16), (⟨"CashLedgerModel", "isEntry", "(I)Z"⟩, 16), (⟨"CashLedgerModel", "isCancelled", "(I)Z"⟩, 16), (⟨"CashLedgerModel", "entryPart", "(II)I"⟩, 16), (⟨"CashLedgerModel", "become", "(II)I"⟩, 16), (⟨"CashLedgerModel", "isRoom", "(I)Z"⟩, 16), (⟨"CashLedgerModel", "usedDays", "(III)I"⟩, 16), (⟨"CashLedgerModel", "roomPart", "(II)I"⟩, 16), (⟨"CashLedgerModel", "isAsset", "(I)Z"⟩, 16)]
theorem lw_r6 : ∀ q ∈ lw_privs_6, lw_okq q := List.forall_mem_cons.mpr ⟨lw_p80, List.forall_mem_cons.mpr ⟨lw_p81, List.forall_mem_cons.mpr ⟨lw_p82, List.forall_mem_cons.mpr ⟨lw_p83, List.forall_mem_cons.mpr ⟨lw_p84, List.forall_mem_cons.mpr ⟨lw_p85, List.forall_mem_cons.mpr ⟨lw_p86, List.forall_mem_cons.mpr ⟨lw_p87, List.forall_mem_cons.mpr ⟨lw_p88, List.forall_mem_cons.mpr ⟨lw_p89, List.forall_mem_cons.mpr ⟨lw_p90, List.forall_mem_cons.mpr ⟨lw_p91, List.forall_mem_cons.mpr ⟨lw_p92, List.forall_mem_cons.mpr ⟨lw_p93, List.forall_mem_cons.mpr ⟨lw_p94, List.forall_mem_cons.mpr ⟨lw_p95, fun _ h => absurd h List.not_mem_nil⟩⟩⟩⟩⟩⟩⟩⟩⟩⟩⟩⟩⟩⟩⟩⟩
theorem lw_p96 : lw_okq (⟨"CashLedgerModel", "assetPart", "(II)I"⟩, 16) := ⟨⟨by decide +kernel, by decide +kernel⟩, List.mem_of_getElem? (i := 1148) (by decide +kernel), List.mem_of_getElem? (i := 1420) (by decide +kernel), List.mem_of_getElem? (i := 1421) (by decide +kernel)⟩
theorem lw_p97 : lw_okq (⟨"CashLedgerModel", "isSold", "(I)Z"⟩, 16) := ⟨⟨by decide +kernel, by decide +kernel⟩, List.mem_of_getElem? (i := 1148) (by decide +kernel), List.mem_of_getElem? (i := 1424) (by decide +kernel), List.mem_of_getElem? (i := 1425) (by decide +kernel)⟩
theorem lw_p98 : lw_okq (⟨"CashLedgerModel", "valueOf", "(II)I"⟩, 16) := ⟨⟨by decide +kernel, by decide +kernel⟩, List.mem_of_getElem? (i := 1148) (by decide +kernel), List.mem_of_getElem? (i := 1428) (by decide +kernel), List.mem_of_getElem? (i := 1429) (by decide +kernel)⟩
theorem lw_p99 : lw_okq (⟨"CashLedgerModel", "boughtIn", "(I)I"⟩, 16) := ⟨⟨by decide +kernel, by decide +kernel⟩, List.mem_of_getElem? (i := 1148) (by decide +kernel), List.mem_of_getElem? (i := 1432) (by decide +kernel), List.mem_of_getElem? (i := 1433) (by decide +kernel)⟩
theorem lw_p100 : lw_okq (⟨"CashLedgerModel", "soldIn", "(I)I"⟩, 16) := ⟨⟨by decide +kernel, by decide +kernel⟩, List.mem_of_getElem? (i := 1148) (by decide +kernel), List.mem_of_getElem? (i := 1436) (by decide +kernel), List.mem_of_getElem? (i := 1437) (by decide +kernel)⟩
theorem lw_p101 : lw_okq (⟨"CashLedgerModel", "sortOf", "(I)I"⟩, 16) := ⟨⟨by decide +kernel, by decide +kernel⟩, List.mem_of_getElem? (i := 1148) (by decide +kernel), List.mem_of_getElem? (i := 1440) (by decide +kernel), List.mem_of_getElem? (i := 1441) (by decide +kernel)⟩
theorem lw_p102 : lw_okq (⟨"CashLedgerModel", "writtenTo", "(II)I"⟩, 16) := ⟨⟨by decide +kernel, by decide +kernel⟩, List.mem_of_getElem? (i := 1148) (by decide +kernel), List.mem_of_getElem? (i := 1444) (by decide +kernel), List.mem_of_getElem? (i := 1445) (by decide +kernel)⟩
theorem lw_p103 : lw_okq (⟨"CashLedgerModel", "byLife", "(II)I"⟩, 16) := ⟨⟨by decide +kernel, by decide +kernel⟩, List.mem_of_getElem? (i := 1148) (by decide +kernel), List.mem_of_getElem? (i := 1448) (by decide +kernel), List.mem_of_getElem? (i := 1449) (by decide +kernel)⟩
theorem lw_p104 : lw_okq (⟨"CashLedgerModel", "prepaidTo", "(I)J"⟩, 16) := ⟨⟨by decide +kernel, by decide +kernel⟩, List.mem_of_getElem? (i := 1148) (by decide +kernel), List.mem_of_getElem? (i := 1456) (by decide +kernel), List.mem_of_getElem? (i := 1457) (by decide +kernel)⟩
theorem lw_p105 : lw_okq (⟨"CashLedgerModel", "prepaymentFor", "(IJ)I"⟩, 16) := ⟨⟨by decide +kernel, by decide +kernel⟩, List.mem_of_getElem? (i := 1148) (by decide +kernel), List.mem_of_getElem? (i := 1460) (by decide +kernel), List.mem_of_getElem? (i := 1461) (by decide +kernel)⟩
theorem lw_p106 : lw_okq (⟨"CashLedgerModel", "profitsTo", "(I)J"⟩, 16) := ⟨⟨by decide +kernel, by decide +kernel⟩, List.mem_of_getElem? (i := 1148) (by decide +kernel), List.mem_of_getElem? (i := 1464) (by decide +kernel), List.mem_of_getElem? (i := 1465) (by decide +kernel)⟩
theorem lw_p107 : lw_okq (⟨"CashLedgerModel", "profitOf", "(I)J"⟩, 16) := ⟨⟨by decide +kernel, by decide +kernel⟩, List.mem_of_getElem? (i := 1148) (by decide +kernel), List.mem_of_getElem? (i := 1468) (by decide +kernel), List.mem_of_getElem? (i := 1469) (by decide +kernel)⟩
theorem lw_p108 : lw_okq (⟨"CashLedgerModel", "entriesIn", "(I)J"⟩, 16) := ⟨⟨by decide +kernel, by decide +kernel⟩, List.mem_of_getElem? (i := 1148) (by decide +kernel), List.mem_of_getElem? (i := 1472) (by decide +kernel), List.mem_of_getElem? (i := 1473) (by decide +kernel)⟩
theorem lw_p109 : lw_okq (⟨"CashLedgerModel", "countsIn", "(III)Z"⟩, 16) := ⟨⟨by decide +kernel, by decide +kernel⟩, List.mem_of_getElem? (i := 1148) (by decide +kernel), List.mem_of_getElem? (i := 1476) (by decide +kernel), List.mem_of_getElem? (i := 1477) (by decide +kernel)⟩
theorem lw_p110 : lw_okq (⟨"CashLedgerModel", "counts", "(I)Z"⟩, 16) := ⟨⟨by decide +kernel, by decide +kernel⟩, List.mem_of_getElem? (i := 1148) (by decide +kernel), List.mem_of_getElem? (i := 1480) (by decide +kernel), List.mem_of_getElem? (i := 1481) (by decide +kernel)⟩
theorem lw_p111 : lw_okq (⟨"CashLedgerModel", "deductedOf", "(I)J"⟩, 16) := ⟨⟨by decide +kernel, by decide +kernel⟩, List.mem_of_getElem? (i := 1148) (by decide +kernel), List.mem_of_getElem? (i := 1484) (by decide +kernel), List.mem_of_getElem? (i := 1485) (by decide +kernel)⟩
def lw_privs_7 : List (MethodName × Nat) := [(⟨"CashLedgerModel", "assetPart", "(II)I"⟩, 16), (⟨"CashLedgerModel", "isSold", "(I)Z"⟩, 16), (⟨"CashLedgerModel", "valueOf", "(II)I"⟩, 16), (⟨"CashLedgerModel", "boughtIn", "(I)I"⟩, 16), (⟨"CashLedgerModel", "soldIn", "(I)I"⟩, 16), (⟨"CashLedgerModel", "sortOf", "(I)I"⟩, 16), (⟨"CashLedgerModel", "writtenTo", "(II)I"⟩, 16), (⟨"CashLedgerModel", "byLife", "(II)I"⟩, 16), (⟨"CashLedgerModel", "prepaidTo", "(I)J"⟩, 16), (⟨"CashLedgerModel", "prepaymentFor", "(IJ)I"⟩, 16), (⟨"CashLedgerModel", "profitsTo", "(I)J"⟩, 16), (⟨"CashLedgerModel", "profitOf", "(I)J"⟩, 16), (⟨"CashLedgerModel", "entriesIn", "(I)J"⟩, 16), (⟨"CashLedgerModel", "countsIn", "(III)Z"⟩, 16), (⟨"CashLedgerModel", "counts", "(I)Z"⟩, 16), (⟨"CashLedgerModel", "deductedOf", "(I)J"⟩, 16)]
theorem lw_r7 : ∀ q ∈ lw_privs_7, lw_okq q := List.forall_mem_cons.mpr ⟨lw_p96, List.forall_mem_cons.mpr ⟨lw_p97, List.forall_mem_cons.mpr ⟨lw_p98, List.forall_mem_cons.mpr ⟨lw_p99, List.forall_mem_cons.mpr ⟨lw_p100, List.forall_mem_cons.mpr ⟨lw_p101, List.forall_mem_cons.mpr ⟨lw_p102, List.forall_mem_cons.mpr ⟨lw_p103, List.forall_mem_cons.mpr ⟨lw_p104, List.forall_mem_cons.mpr ⟨lw_p105, List.forall_mem_cons.mpr ⟨lw_p106, List.forall_mem_cons.mpr ⟨lw_p107, List.forall_mem_cons.mpr ⟨lw_p108, List.forall_mem_cons.mpr ⟨lw_p109, List.forall_mem_cons.mpr ⟨lw_p110, List.forall_mem_cons.mpr ⟨lw_p111, fun _ h => absurd h List.not_mem_nil⟩⟩⟩⟩⟩⟩⟩⟩⟩⟩⟩⟩⟩⟩⟩⟩
theorem lw_p112 : lw_okq (⟨"CashLedgerModel", "deducted", "(III)J"⟩, 16) := ⟨⟨by decide +kernel, by decide +kernel⟩, List.mem_of_getElem? (i := 1148) (by decide +kernel), List.mem_of_getElem? (i := 1488) (by decide +kernel), List.mem_of_getElem? (i := 1489) (by decide +kernel)⟩
theorem lw_p113 : lw_okq (⟨"CashLedgerModel", "shareAbove", "(I)I"⟩, 16) := ⟨⟨by decide +kernel, by decide +kernel⟩, List.mem_of_getElem? (i := 1148) (by decide +kernel), List.mem_of_getElem? (i := 1492) (by decide +kernel), List.mem_of_getElem? (i := 1493) (by decide +kernel)⟩
theorem lw_p114 : lw_okq (⟨"CashLedgerModel", "shareBelow", "()I"⟩, 16) := ⟨⟨by decide +kernel, by decide +kernel⟩, List.mem_of_getElem? (i := 1148) (by decide +kernel), List.mem_of_getElem? (i := 1496) (by decide +kernel), List.mem_of_getElem? (i := 1497) (by decide +kernel)⟩
theorem lw_p115 : lw_okq (⟨"CashLedgerModel", "assetsIn", "(I)J"⟩, 16) := ⟨⟨by decide +kernel, by decide +kernel⟩, List.mem_of_getElem? (i := 1148) (by decide +kernel), List.mem_of_getElem? (i := 1500) (by decide +kernel), List.mem_of_getElem? (i := 1501) (by decide +kernel)⟩
theorem lw_p116 : lw_okq (⟨"CashLedgerModel", "writtenIn", "(II)I"⟩, 16) := ⟨⟨by decide +kernel, by decide +kernel⟩, List.mem_of_getElem? (i := 1148) (by decide +kernel), List.mem_of_getElem? (i := 1504) (by decide +kernel), List.mem_of_getElem? (i := 1505) (by decide +kernel)⟩
theorem lw_p117 : lw_okq (⟨"CashLedgerModel", "poolOff", "(I)I"⟩, 16) := ⟨⟨by decide +kernel, by decide +kernel⟩, List.mem_of_getElem? (i := 1148) (by decide +kernel), List.mem_of_getElem? (i := 1508) (by decide +kernel), List.mem_of_getElem? (i := 1509) (by decide +kernel)⟩
theorem lw_p118 : lw_okq (⟨"CashLedgerModel", "poolTo", "(I)I"⟩, 16) := ⟨⟨by decide +kernel, by decide +kernel⟩, List.mem_of_getElem? (i := 1148) (by decide +kernel), List.mem_of_getElem? (i := 1512) (by decide +kernel), List.mem_of_getElem? (i := 1513) (by decide +kernel)⟩
theorem lw_p119 : lw_okq (⟨"CashLedgerModel", "taxOf", "(J)J"⟩, 16) := ⟨⟨by decide +kernel, by decide +kernel⟩, List.mem_of_getElem? (i := 1148) (by decide +kernel), List.mem_of_getElem? (i := 1517) (by decide +kernel), List.mem_of_getElem? (i := 1518) (by decide +kernel)⟩
theorem lw_p120 : lw_okq (⟨"CashLedgerModel", "limitOf", "(I)I"⟩, 16) := ⟨⟨by decide +kernel, by decide +kernel⟩, List.mem_of_getElem? (i := 1148) (by decide +kernel), List.mem_of_getElem? (i := 1521) (by decide +kernel), List.mem_of_getElem? (i := 1522) (by decide +kernel)⟩
theorem lw_p121 : lw_okq (⟨"CashLedgerModel", "rateOf", "(I)I"⟩, 16) := ⟨⟨by decide +kernel, by decide +kernel⟩, List.mem_of_getElem? (i := 1148) (by decide +kernel), List.mem_of_getElem? (i := 1526) (by decide +kernel), List.mem_of_getElem? (i := 1527) (by decide +kernel)⟩
theorem lw_p122 : lw_okq (⟨"CashLedgerModel", "openMany", "()I"⟩, 16) := ⟨⟨by decide +kernel, by decide +kernel⟩, List.mem_of_getElem? (i := 1148) (by decide +kernel), List.mem_of_getElem? (i := 1541) (by decide +kernel), List.mem_of_getElem? (i := 1542) (by decide +kernel)⟩
theorem lw_p123 : lw_okq (⟨"CashLedgerModel", "isOpen", "(I)Z"⟩, 16) := ⟨⟨by decide +kernel, by decide +kernel⟩, List.mem_of_getElem? (i := 1148) (by decide +kernel), List.mem_of_getElem? (i := 1545) (by decide +kernel), List.mem_of_getElem? (i := 1546) (by decide +kernel)⟩
theorem lw_p124 : lw_okq (⟨"CashLedgerModel", "flagged", "(I)I"⟩, 16) := ⟨⟨by decide +kernel, by decide +kernel⟩, List.mem_of_getElem? (i := 1148) (by decide +kernel), List.mem_of_getElem? (i := 1549) (by decide +kernel), List.mem_of_getElem? (i := 1550) (by decide +kernel)⟩
theorem lw_p125 : lw_okq (⟨"CashLedgerModel", "soldMany", "()I"⟩, 16) := ⟨⟨by decide +kernel, by decide +kernel⟩, List.mem_of_getElem? (i := 1148) (by decide +kernel), List.mem_of_getElem? (i := 1553) (by decide +kernel), List.mem_of_getElem? (i := 1554) (by decide +kernel)⟩
theorem lw_p126 : lw_okq (⟨"CashLedgerModel", "yearProfit", "()J"⟩, 16) := ⟨⟨by decide +kernel, by decide +kernel⟩, List.mem_of_getElem? (i := 1148) (by decide +kernel), List.mem_of_getElem? (i := 1642) (by decide +kernel), List.mem_of_getElem? (i := 1643) (by decide +kernel)⟩
theorem lw_p127 : lw_okq (⟨"CashLedgerModel", "isClosed", "(I)Z"⟩, 16) := ⟨⟨by decide +kernel, by decide +kernel⟩, List.mem_of_getElem? (i := 1148) (by decide +kernel), List.mem_of_getElem? (i := 1650) (by decide +kernel), List.mem_of_getElem? (i := 1651) (by decide +kernel)⟩
def lw_privs_8 : List (MethodName × Nat) := [(⟨"CashLedgerModel", "deducted", "(III)J"⟩, 16), (⟨"CashLedgerModel", "shareAbove", "(I)I"⟩, 16), (⟨"CashLedgerModel", "shareBelow", "()I"⟩, 16), (⟨"CashLedgerModel", "assetsIn", "(I)J"⟩, 16), (⟨"CashLedgerModel", "writtenIn", "(II)I"⟩, 16), (⟨"CashLedgerModel", "poolOff", "(I)I"⟩, 16), (⟨"CashLedgerModel", "poolTo", "(I)I"⟩, 16), (⟨"CashLedgerModel", "taxOf", "(J)J"⟩, 16), (⟨"CashLedgerModel", "limitOf", "(I)I"⟩, 16), (⟨"CashLedgerModel", "rateOf", "(I)I"⟩, 16), (⟨"CashLedgerModel", "openMany", "()I"⟩, 16), (⟨"CashLedgerModel", "isOpen", "(I)Z"⟩, 16), (⟨"CashLedgerModel", "flagged", "(I)I"⟩, 16), (⟨"CashLedgerModel", "soldMany", "()I"⟩, 16), (⟨"CashLedgerModel", "yearProfit", "()J"⟩, 16), (⟨"CashLedgerModel", "isClosed", "(I)Z"⟩, 16)]
theorem lw_r8 : ∀ q ∈ lw_privs_8, lw_okq q := List.forall_mem_cons.mpr ⟨lw_p112, List.forall_mem_cons.mpr ⟨lw_p113, List.forall_mem_cons.mpr ⟨lw_p114, List.forall_mem_cons.mpr ⟨lw_p115, List.forall_mem_cons.mpr ⟨lw_p116, List.forall_mem_cons.mpr ⟨lw_p117, List.forall_mem_cons.mpr ⟨lw_p118, List.forall_mem_cons.mpr ⟨lw_p119, List.forall_mem_cons.mpr ⟨lw_p120, List.forall_mem_cons.mpr ⟨lw_p121, List.forall_mem_cons.mpr ⟨lw_p122, List.forall_mem_cons.mpr ⟨lw_p123, List.forall_mem_cons.mpr ⟨lw_p124, List.forall_mem_cons.mpr ⟨lw_p125, List.forall_mem_cons.mpr ⟨lw_p126, List.forall_mem_cons.mpr ⟨lw_p127, fun _ h => absurd h List.not_mem_nil⟩⟩⟩⟩⟩⟩⟩⟩⟩⟩⟩⟩⟩⟩⟩⟩
theorem lw_p128 : lw_okq (⟨"CashLedgerModel", "againFor", "(I)I"⟩, 16) := ⟨⟨by decide +kernel, by decide +kernel⟩, List.mem_of_getElem? (i := 1148) (by decide +kernel), List.mem_of_getElem? (i := 1658) (by decide +kernel), List.mem_of_getElem? (i := 1659) (by decide +kernel)⟩
theorem lw_p129 : lw_okq (⟨"CashLedgerModel", "correctionOf", "(I)I"⟩, 16) := ⟨⟨by decide +kernel, by decide +kernel⟩, List.mem_of_getElem? (i := 1148) (by decide +kernel), List.mem_of_getElem? (i := 1666) (by decide +kernel), List.mem_of_getElem? (i := 1667) (by decide +kernel)⟩
theorem lw_p130 : lw_okq (⟨"CashLedgerModel", "balanceAt", "(I)J"⟩, 16) := ⟨⟨by decide +kernel, by decide +kernel⟩, List.mem_of_getElem? (i := 1148) (by decide +kernel), List.mem_of_getElem? (i := 1700) (by decide +kernel), List.mem_of_getElem? (i := 1701) (by decide +kernel)⟩
theorem lw_p131 : lw_okq (⟨"CashLedgerModel", "entriesUpTo", "(I)J"⟩, 16) := ⟨⟨by decide +kernel, by decide +kernel⟩, List.mem_of_getElem? (i := 1148) (by decide +kernel), List.mem_of_getElem? (i := 1704) (by decide +kernel), List.mem_of_getElem? (i := 1705) (by decide +kernel)⟩
theorem lw_p132 : lw_okq (⟨"CashLedgerModel", "assetsUpTo", "(I)J"⟩, 16) := ⟨⟨by decide +kernel, by decide +kernel⟩, List.mem_of_getElem? (i := 1148) (by decide +kernel), List.mem_of_getElem? (i := 1708) (by decide +kernel), List.mem_of_getElem? (i := 1709) (by decide +kernel)⟩
theorem lw_p133 : lw_okq (⟨"CashLedgerModel", "prepaidUpTo", "(I)J"⟩, 16) := ⟨⟨by decide +kernel, by decide +kernel⟩, List.mem_of_getElem? (i := 1148) (by decide +kernel), List.mem_of_getElem? (i := 1712) (by decide +kernel), List.mem_of_getElem? (i := 1713) (by decide +kernel)⟩
theorem lw_p134 : lw_okq (⟨"CashLedgerModel", "layDays", "()V"⟩, 16) := ⟨⟨by decide +kernel, by decide +kernel⟩, List.mem_of_getElem? (i := 1148) (by decide +kernel), List.mem_of_getElem? (i := 1720) (by decide +kernel), List.mem_of_getElem? (i := 1721) (by decide +kernel)⟩
theorem lw_p135 : lw_okq (⟨"CashLedgerModel", "layEntries", "()V"⟩, 16) := ⟨⟨by decide +kernel, by decide +kernel⟩, List.mem_of_getElem? (i := 1148) (by decide +kernel), List.mem_of_getElem? (i := 1724) (by decide +kernel), List.mem_of_getElem? (i := 1725) (by decide +kernel)⟩
theorem lw_p136 : lw_okq (⟨"CashLedgerModel", "layAssets", "()V"⟩, 16) := ⟨⟨by decide +kernel, by decide +kernel⟩, List.mem_of_getElem? (i := 1148) (by decide +kernel), List.mem_of_getElem? (i := 1728) (by decide +kernel), List.mem_of_getElem? (i := 1729) (by decide +kernel)⟩
theorem lw_p137 : lw_okq (⟨"CashLedgerModel", "takenIn", "(I)J"⟩, 16) := ⟨⟨by decide +kernel, by decide +kernel⟩, List.mem_of_getElem? (i := 1148) (by decide +kernel), List.mem_of_getElem? (i := 1740) (by decide +kernel), List.mem_of_getElem? (i := 1741) (by decide +kernel)⟩
def lw_privs_9 : List (MethodName × Nat) := [(⟨"CashLedgerModel", "againFor", "(I)I"⟩, 16), (⟨"CashLedgerModel", "correctionOf", "(I)I"⟩, 16), (⟨"CashLedgerModel", "balanceAt", "(I)J"⟩, 16), (⟨"CashLedgerModel", "entriesUpTo", "(I)J"⟩, 16), (⟨"CashLedgerModel", "assetsUpTo", "(I)J"⟩, 16), (⟨"CashLedgerModel", "prepaidUpTo", "(I)J"⟩, 16), (⟨"CashLedgerModel", "layDays", "()V"⟩, 16), (⟨"CashLedgerModel", "layEntries", "()V"⟩, 16), (⟨"CashLedgerModel", "layAssets", "()V"⟩, 16), (⟨"CashLedgerModel", "takenIn", "(I)J"⟩, 16)]
theorem lw_r9 : ∀ q ∈ lw_privs_9, lw_okq q := List.forall_mem_cons.mpr ⟨lw_p128, List.forall_mem_cons.mpr ⟨lw_p129, List.forall_mem_cons.mpr ⟨lw_p130, List.forall_mem_cons.mpr ⟨lw_p131, List.forall_mem_cons.mpr ⟨lw_p132, List.forall_mem_cons.mpr ⟨lw_p133, List.forall_mem_cons.mpr ⟨lw_p134, List.forall_mem_cons.mpr ⟨lw_p135, List.forall_mem_cons.mpr ⟨lw_p136, List.forall_mem_cons.mpr ⟨lw_p137, fun _ h => absurd h List.not_mem_nil⟩⟩⟩⟩⟩⟩⟩⟩⟩⟩
def lw_privs : List (MethodName × Nat) := lw_privs_1 ++ (lw_privs_2 ++ (lw_privs_3 ++ (lw_privs_4 ++ (lw_privs_5 ++ (lw_privs_6 ++ (lw_privs_7 ++ (lw_privs_8 ++ (lw_privs_9))))))))
def lw_tbl : List Cond := k2_sels lw_privs ++ tables_1
theorem lw_privs_ok : ∀ q ∈ lw_privs, lw_okq q := by
  show ∀ q ∈ lw_privs_1 ++ (lw_privs_2 ++ (lw_privs_3 ++ (lw_privs_4 ++ (lw_privs_5 ++ (lw_privs_6 ++ (lw_privs_7 ++ (lw_privs_8 ++ (lw_privs_9)))))))), lw_okq q
  exact List.forall_mem_append.mpr ⟨lw_r1, List.forall_mem_append.mpr ⟨lw_r2, List.forall_mem_append.mpr ⟨lw_r3, List.forall_mem_append.mpr ⟨lw_r4, List.forall_mem_append.mpr ⟨lw_r5, List.forall_mem_append.mpr ⟨lw_r6, List.forall_mem_append.mpr ⟨lw_r7, List.forall_mem_append.mpr ⟨lw_r8, lw_r9⟩⟩⟩⟩⟩⟩⟩⟩
/-- the streams that the claim lets the run draw from -/
abbrev lw_cs : List Choice := [Jvm.Choice.named "NaN.bits"]
theorem lw_bits : nanBits ∈ lw_cs := by first | decide | exact List.mem_cons_self | simp [lw_cs, nanBits]

/-! ===== BEGIN words of one list among another's, by their places ===== -/
theorem goodIn_r {big : List Cond} (ws : List Cond) (ps : List Nat) (hp : ws = ps.filterMap (fun i => big[i]?)) (h : ws.all goodWord = true) : GoodIn big ws := by
  intro w hw
  have h1 := List.all_eq_true.mp h w hw
  rw [hp] at hw
  obtain ⟨i, -, hi⟩ := List.mem_filterMap.mp hw
  have hm : w ∈ big := by first | exact List.mem_of_getElem? hi | exact List.getElem?_mem hi
  exact ⟨hm, good_of_word h1⟩
theorem goodIn_app {big a b : List Cond} (ha : GoodIn big a) (hb : GoodIn big b) : GoodIn big (a ++ b) := fun w h => (List.mem_append.mp h).elim (ha w) (hb w)
theorem goodIn_ca {big a b : List Cond} {c : Cond} (ha : GoodIn big (c :: a)) (hb : GoodIn big b) : GoodIn big (c :: (a ++ b)) := fun w h => (List.mem_cons.mp h).elim (fun e => ha w (List.mem_cons.mpr (Or.inl e))) (fun h => (List.mem_append.mp h).elim (fun h => ha w (List.mem_cons.mpr (Or.inr h))) (hb w))
theorem goodIn_sub {big ws : List Cond} (hm : ∀ w ∈ ws, w ∈ big) (h : ws.all goodWord = true) : GoodIn big ws := fun w hw => ⟨hm w hw, good_of_word (List.all_eq_true.mp h w hw)⟩
/-! ===== END ===== -/

/-! ===== BEGIN exceptions that leave a method, and their catching by the caller (launches without stack traces) ===== -/
section VXA
/-! The laws vx_back, vx_callV, vx_callS, vx_callSW, vx_throw0, vx_throwS follow proofs of the library, with one case more: JvmDerived/Free/Laws.lean (Back.of_free), Shelf42/LK1.lean (callV, callS), Shelf/KitTraced.lean (throwNew0V, throwNewS). -/
/-- where a method has thrown q: the class by its name, the cell, what was written, the world -/
def vx_T (XC : String → State → State → Prop) (st : State) (q : Addr) (t : State) (mc ms : Nat) (free : Addr → Prop) : Prop :=
  ∃ (E : String) (ce : Cell) (L : List Loc), XC E st t ∧ t.heap[q]? = some ce ∧ ce.vm = .none ∧ st.vm.findClass E = some ce.cls ∧ st.WarmedH t.vm ∧ st.sameButNew ({ t with vm := st.vm } : State) L mc ms ∧ ∀ z ∈ L, free z.base
def vx_Q (Qc : Array Value → State → Outcome → State → Prop) (XC : String → State → State → Prop) (mc ms : Nat) (free : Addr → Prop) : Array Value → State → Outcome → State → Prop := fun a st o t =>
  (Qc a st o t ∧ ∃ L, FrameEnd st o t L mc ms ∧ ∀ q ∈ L, free q.base) ∨ ∃ q, o = .threw q ∧ vx_T XC st q t mc ms free
/-- a callee that returns or throws -/
def vx_Met (l : Launch) (y : MethodName) (ws : List Cond) (rm : Room) (Pc : Array Value → State → Prop) (Qc : Array Value → State → Outcome → State → Prop) (XC : String → State → State → Prop) (mc ms : Nat) (free : Addr → Prop) : Prop :=
  MetFree l y (headSpec ws rm) Pc (fun _ _ _ _ _ => True) (vx_Q Qc XC mc ms free)
def vx_Post (XC : String → State → State → Prop) (mc ms : Nat) (free : Addr → Prop) : Pt → Array Value → Addr → Pt → Prop := fun A a q B =>
  ∃ (g : JFrame) (mk : MethodId) (t : State) (L : List Loc) (E : String) (ce : Cell), B.U.heap = t.heap ∧ B.U.vm = t.vm ∧ XC E (A.U.calling g mk a) t ∧ t.heap[q]? = some ce ∧ ce.vm = .none ∧ A.U.vm.findClass E = some ce.cls ∧ B.locs = A.locs ++ L ∧ (∀ z ∈ L, free z.base) ∧ B.cells = A.cells + mc ∧ B.slots = A.slots + ms
def vx_Back (l : Launch) (R : Room) (p : Program) (e : Env) (below : List Frame) (s : State) (sargs : Array Value) (y : MethodName) (len W9 : Nat)
    (Pre : Pt → Array Value → Prop) (Post : Pt → Array Value → Option Value → Pt → Prop) (PostX : Pt → Array Value → Addr → Pt → Prop) : Prop :=
  ∀ (m : MethodId) (meth : Method) (c : Code) (A : Pt) (g : JFrame) (ig : Instr) (mk : MethodId) (a : Array Value),
    Stand p l e R s m sargs below meth c A.U A.locs A.cells A.slots → g.method = m → g.locals.size = c.maxLocals → decode c.code g.pc = .ok (ig, len) →
    2 * g.monitorRoom + (g.stack.map fun v => v.category).sum ≤ W9 → A.U.methodNamed? y = some mk → Pre A a →
    (∃ (v : Option Value) (B : Pt), Stand p l e R s m sargs below meth c B.U B.locs B.cells B.slots ∧ Post A a v B ∧
      Steps p.tables e below (doInvoke e (A.U.setTop g) [] mk a).1 (B.U.setTop { g with pc := g.pc + len, stack := v.toList ++ g.stack })) ∨
    (∃ (q : Addr) (B : Pt), Stand p l e R s m sargs below meth c B.U B.locs B.cells B.slots ∧ PostX A a q B ∧
      Steps p.tables e below (doInvoke e (A.U.setTop g) [] mk a).1 ((B.U.setTop g).pushFrame (.throwing q)))
section Payer
variable {l : Launch} {R : Room} {p : Program} {e : Env} {below : List Frame} {s : State} {sargs : Array Value} {y : MethodName} {len W9 : Nat}
theorem vx_back {ws : List Cond} {rm : Room} {Pc : Array Value → State → Prop} {Qc : Array Value → State → Outcome → State → Prop} {XC : String → State → State → Prop} {mc ms : Nat} {free : Addr → Prop} {bytes : ByteArray} {maxL : Nat} {ret : Option FieldType}
    (hM : vx_Met l y ws rm Pc Qc XC mc ms free) (hblind : FrameBlind Pc) (hrc : rm.cells = mc) (hrs : rm.slots = ms)
    (hframes : rm.frames + 1 ≤ R.frames) (hlocals : W9 + (maxL + 11) + rm.locals ≤ R.locals)
    (hws : ∀ w ∈ ws, ∀ a' U, s.WarmedH U.vm → w.before a' U = true) (hcode : Cond.code y bytes maxL ret ∈ ws) (hinit : ∀ a' U, s.WarmedH U.vm → (Cond.initialized y.cls).before a' U = true) :
    vx_Back l R p e below s sargs y len W9 (PreOf R mc ms Pc) (PostOf Qc mc ms free) (vx_Post XC mc ms free) := by
  intro m meth c A g ig mk a X hg hsize hdg hW hn hp
  have h1 : (headSpec ws rm).pre.before a A.U = true := atoms_intro fun w hw => hws w hw _ _ X.warmed
  have h2 : (Cond.code y bytes maxL ret).before a A.U = true := hws _ hcode _ _ X.warmed
  have h3 : (Cond.initialized y.cls).before a A.U = true := hinit _ _ X.warmed
  have h4 : A.cells + (headSpec ws rm).room.cells ≤ R.cells := by rw [show (headSpec ws rm).room.cells = mc from hrc]; exact hp.1
  have h5 : A.slots + (headSpec ws rm).room.slots ≤ R.slots := by rw [show (headSpec ws rm).room.slots = ms from hrs]; exact hp.2.1
  have hPc : Pc a (A.U.calling g mk a) := hblind _ _ _ _ hp.2.2
  obtain ⟨U, Ls, c0, s0⟩ := A
  dsimp only [Pt.U, Pt.locs, Pt.cells, Pt.slots] at h1 h2 h3 h4 h5 X hn hPc ⊢
  obtain ⟨methY, cY, hmY, hcY, -, hlY, -, -, -, -⟩ := Cond.code_spec hn h2
  obtain ⟨kY, hkY, -⟩ := className_of_methodNamed hn
  have hinitY : kY.init = .initialized := Cond.initialized_spec (findClass_of_methodNamed hn) hkY h3
  have h : At U g.method c below := by rw [hg]; exact X.here
  have hlocals9 : W9 + (maxL + 11) + (headSpec ws rm).room.locals ≤ R.locals := hlocals
  have happ : (headSpec ws rm).appliesLoose y e.platform (U.calling g mk a) = true :=
    Spec.appliesLoose_calling (g := g) h hdg hn hkY hinitY
      (X.room_calling (g := g) (R' := (headSpec ws rm).room) hsize hmY hcY hframes (by rw [hlY]; omega) h4 h5) h1
  obtain ⟨mid, hmid⟩ := h.above
  have hfr : (U.setTop g).frames = (.java g :: mid) ++ below := by rw [State.frames_setTop' g h.top, hmid]; rfl
  obtain ⟨o, s₂, hsteps, -, hend, hq⟩ := Steps.callFree hM p X.admits X.cas X.clock (acts := []) hfr happ hPc trivial
  have hq' : vx_Q Qc XC mc ms free a (U.calling g mk a) o s₂ := hq
  rw [State.frames_setTop' g h.top] at hend
  obtain ⟨g₀, hg0⟩ := Option.isSome_iff_exists.mp h.top
  obtain ⟨r, hr⟩ := State.topJava?_eq_some.mp hg0
  have hr' : (({ U with heap := s₂.heap, slotsUsed := s₂.slotsUsed } : State).setVm s₂.vm).frames = .java g₀ :: r := hr
  rcases hq' with ⟨hqc, L, hfe, hL⟩ | ⟨q, rfl, E, ce, L, hx, hce, hcv, hcl, hW₂, hsm, hL⟩
  · obtain ⟨⟨v, rfl⟩, hW₂, e2, q2, q3, q4, q5, q6⟩ := id hfe
    have e3 : s₂ = ({ (U.calling g mk a).setFrames s₂.frames with heap := s₂.heap, slotsUsed := s₂.slotsUsed } : State).setVm s₂.vm := by
      have : s₂ = ({ s₂ with vm := (U.calling g mk a).vm } : State).setVm s₂.vm := rfl
      rw [e2] at this
      exact this
    obtain ⟨c₂, i₂, len₂, hc₂, hd₂, hf₂⟩ := hend
    have hW' : U.WarmedH s₂.vm := hW₂
    have hcc : c₂ = c := by
      have h1 : s₂.code? g.method = U.code? g.method := by
        rw [State.code?_eq, State.code?_eq, hW'.alike.method?]
      exact Option.some.inj (hc₂.symm.trans (h1.trans h.code))
    subst hcc
    have hlen : len₂ = len := by rw [hdg] at hd₂; cases hd₂; rfl
    subst hlen
    have hs₂ : s₂ = (({ U with heap := s₂.heap, slotsUsed := s₂.slotsUsed } : State).setVm s₂.vm).setTop { g with pc := g.pc + len₂, stack := v.toList ++ g.stack } := by
      refine e3.trans ?_
      rw [hf₂, State.calling_eq h.top, State.setFrames_setFrames, State.setTop_of_frames _ hr', hr]
      rfl
    have hsame : U.sameButNew ({ U with heap := s₂.heap, slotsUsed := s₂.slotsUsed } : State) L mc ms := by
      refine ⟨?_, q2, q3, q4, q5, q6⟩
      obtain ⟨t, ht, -⟩ := State.frames_cons hr
      show ({ U with heap := s₂.heap, slotsUsed := s₂.slotsUsed } : State) = { U.setFrames U.frames with heap := s₂.heap, slotsUsed := s₂.slotsUsed }
      rw [State.setFrames_self ht]
    subst hg
    refine Or.inl ⟨v, ⟨(({ U with heap := s₂.heap, slotsUsed := s₂.slotsUsed } : State).setVm s₂.vm), Ls ++ L, c0 + mc, s0 + ms⟩,
      ⟨X.admits, X.cas, X.clock, X.frames, X.room, X.hears, X.method, X.code, (X.here.setHeapUsed s₂.heap s₂.slotsUsed).setVm hW'.alike, X.tail, State.WarmedH.trans X.warmed hW', X.limits, X.bytes, X.same.trans (hsame.setVm s.vm)⟩,
      ⟨g, mk, s₂, L, rfl, rfl, hqc, rfl, hL, rfl, rfl⟩, ?_⟩
    show Steps p.tables e below _ ((({ U with heap := s₂.heap, slotsUsed := s₂.slotsUsed } : State).setVm s₂.vm).setTop { g with pc := g.pc + len₂, stack := v.toList ++ g.stack })
    rw [← hs₂]
    exact hsteps
  · obtain ⟨e2, q2, q3, q4, q5, q6⟩ := id hsm
    have e3 : s₂ = ({ (U.calling g mk a).setFrames s₂.frames with heap := s₂.heap, slotsUsed := s₂.slotsUsed } : State).setVm s₂.vm := by
      have : s₂ = ({ s₂ with vm := (U.calling g mk a).vm } : State).setVm s₂.vm := rfl
      rw [e2] at this
      exact this
    have hf₂ : s₂.frames = .throwing q :: .java g :: U.frames.tail := hend
    have hW' : U.WarmedH s₂.vm := hW₂
    have hs₂ : s₂ = ((({ U with heap := s₂.heap, slotsUsed := s₂.slotsUsed } : State).setVm s₂.vm).setTop g).pushFrame (.throwing q) := by
      refine e3.trans ?_
      rw [hf₂, State.calling_eq h.top, State.setFrames_setFrames, State.pushFrame, State.frames_setTop _ hr', State.setTop_of_frames _ hr', State.setFrames_setFrames, hr]
      rfl
    have hsame : U.sameButNew ({ U with heap := s₂.heap, slotsUsed := s₂.slotsUsed } : State) L mc ms := by
      refine ⟨?_, q2, q3, q4, q5, q6⟩
      obtain ⟨t, ht, -⟩ := State.frames_cons hr
      show ({ U with heap := s₂.heap, slotsUsed := s₂.slotsUsed } : State) = { U.setFrames U.frames with heap := s₂.heap, slotsUsed := s₂.slotsUsed }
      rw [State.setFrames_self ht]
    subst hg
    refine Or.inr ⟨q, ⟨(({ U with heap := s₂.heap, slotsUsed := s₂.slotsUsed } : State).setVm s₂.vm), Ls ++ L, c0 + mc, s0 + ms⟩,
      ⟨X.admits, X.cas, X.clock, X.frames, X.room, X.hears, X.method, X.code, (X.here.setHeapUsed s₂.heap s₂.slotsUsed).setVm hW'.alike, X.tail, State.WarmedH.trans X.warmed hW', X.limits, X.bytes, X.same.trans (hsame.setVm s.vm)⟩,
      ⟨g, mk, s₂, L, E, ce, rfl, rfl, hx, hce, hcv, hcl, rfl, hL, rfl, rfl⟩, ?_⟩
    show Steps p.tables e below _ (((({ U with heap := s₂.heap, slotsUsed := s₂.slotsUsed } : State).setVm s₂.vm).setTop g).pushFrame (.throwing q))
    rw [← hs₂]
    exact hsteps
end Payer
section Calls
variable {p : Program} {l : Launch} {e : Env} {R : Room} {s : State} {m : MethodId} {args : Array Value} {below : List Frame} {meth : Method} {c : Code} {T : State} {locs : List Loc} {cells slots : Nat}
theorem vx_callV (X : Stand p l e R s m args below meth c T locs cells slots) (hexec : p.tables.exec = Jvm.exec) {own C : String} {index : Nat} {y : MethodName} {bytes : ByteArray} {maxL : Nat} {ret : Option FieldType}
    (hown : s.vm.findClass own = some m.cls) (hlink : (Cond.methodLink own index y).before args s = true) (hinst : (Cond.instanceMethod y).before args s = true) (hsel : (Cond.selects C y y).before args s = true)
    (hcode : (Cond.code y bytes maxL ret).before args s = true) (hy : y.cls ≠ "java/lang/invoke/MethodHandle" ∧ y.cls ≠ "java/lang/invoke/VarHandle")
    {W9 : Nat} {Pre : Pt → Array Value → Prop} {Post : Pt → Array Value → Option Value → Pt → Prop} {PostX : Pt → Array Value → Addr → Pt → Prop} (hK : vx_Back l R p e below s args y 3 W9 Pre Post PostX)
    {b : Addr} {cellB : Cell} (hcell : T.heap[b]? = some cellB) (hobj : cellB.vm.isStatics = false) (hcls : s.vm.findClass C = some cellB.cls)
    {g : JFrame} (hg : g.method = m) (hsize : g.locals.size = c.maxLocals) {argsL rest : List Value} (hlen : ∀ sig, parseMethodDescriptor y.desc = some sig → argsL.length = sig.parameters.length)
    (hstack : g.stack = argsL.reverse ++ .ref b :: rest) (hW : 2 * g.monitorRoom + (rest.map fun v => v.category).sum ≤ W9) (hdg : decode c.code g.pc = .ok (.invokevirtual index, 3))
    (hpre : ∀ vm₁, s.WarmedH vm₁ → Pre ⟨T.setVm vm₁, locs, cells, slots⟩ (Value.ref b :: argsL).toArray) :
    (∃ (v : Option Value) (vm₁ : Vm) (B : Pt), s.WarmedH vm₁ ∧ Stand p l e R s m args below meth c B.U B.locs B.cells B.slots ∧ Post ⟨T.setVm vm₁, locs, cells, slots⟩ (Value.ref b :: argsL).toArray v B ∧
      ∀ target, Steps p.tables e below (B.U.setTop { g with pc := g.pc + 3, stack := v.toList ++ rest }) target → Steps p.tables e below (T.setTop g) target) ∨
    (∃ (q : Addr) (vm₁ : Vm) (B : Pt), s.WarmedH vm₁ ∧ Stand p l e R s m args below meth c B.U B.locs B.cells B.slots ∧ PostX ⟨T.setVm vm₁, locs, cells, slots⟩ (Value.ref b :: argsL).toArray q B ∧
      Steps p.tables e below (T.setTop g) ((B.U.setTop { g with stack := rest }).pushFrame (.throwing q))) := by
  obtain ⟨mk, methM, hnamed, hmethM, hstM, habM⟩ := Cond.instanceMethod_spec hinst
  obtain ⟨methM', cM, hmethM', -, -, -, -, -, -, hsigM⟩ := Cond.code_spec hnamed hcode
  cases hmethM.symm.trans hmethM'
  obtain ⟨c2, r2, m2, q1, q2, q3, q4, kP, hkP, hkPi⟩ := Cond.selects_spec hsel
  cases hcls.symm.trans q1
  cases (State.methodFound?_of_named hnamed hy).symm.trans q2
  cases hnamed.symm.trans q3
  have hselP : selectMethod e.platform s.vm cellB.cls mk = .method mk := by rw [Launch.admits_selectMethod X.admits]; exact q4
  obtain ⟨vm₁, X₁, hstep₁⟩ := X.invokevirtual hexec hown hlink hnamed hmethM hstM hkP hkPi hy (a := b) (cell := cellB) hcell
    (fun z h => by rw [h] at hobj; cases hobj) hselP hmethM habM hkP hkPi (g := g) hg (argsL := argsL) (rest := rest) (hlen _ hsigM) hstack hdg
  rcases hK m meth c ⟨T.setVm vm₁, locs, cells, slots⟩ { g with stack := rest } (.invokevirtual index) mk (Value.ref b :: argsL).toArray X₁ hg hsize hdg hW (X₁.named hnamed) (hpre vm₁ X₁.warmed) with ⟨v, B, X', hpost, hsteps⟩ | ⟨q, B, X', hpost, hsteps⟩
  · exact Or.inl ⟨v, vm₁, B, X₁.warmed, X', hpost, fun target h => hstep₁ _ fun acts => by rw [doInvoke_state]; exact hsteps.trans h⟩
  · exact Or.inr ⟨q, vm₁, B, X₁.warmed, X', hpost, hstep₁ _ fun acts => by rw [doInvoke_state]; exact hsteps⟩
theorem vx_callS (X : Stand p l e R s m args below meth c T locs cells slots) (hexec : p.tables.exec = Jvm.exec) {own : String} {index : Nat} {y : MethodName} {bytes : ByteArray} {maxL : Nat} {ret : Option FieldType}
    (hown : s.vm.findClass own = some m.cls) (hlink : (Cond.methodLink own index y).before args s = true) (hstat : (Cond.static y).before args s = true) (hinit : (Cond.initialized y.cls).before args s = true)
    (hcode : (Cond.code y bytes maxL ret).before args s = true) (hy : y.cls ≠ "java/lang/invoke/MethodHandle" ∧ y.cls ≠ "java/lang/invoke/VarHandle")
    {W9 : Nat} {Pre : Pt → Array Value → Prop} {Post : Pt → Array Value → Option Value → Pt → Prop} {PostX : Pt → Array Value → Addr → Pt → Prop} (hK : vx_Back l R p e below s args y 3 W9 Pre Post PostX)
    {g : JFrame} (hg : g.method = m) (hsize : g.locals.size = c.maxLocals) {argsL rest : List Value} (hlen : ∀ sig, parseMethodDescriptor y.desc = some sig → argsL.length = sig.parameters.length)
    (hstack : g.stack = argsL.reverse ++ rest) (hW : 2 * g.monitorRoom + (rest.map fun v => v.category).sum ≤ W9) (hdg : decode c.code g.pc = .ok (.invokestatic index, 3))
    (hpre : ∀ vm₁, s.WarmedH vm₁ → Pre ⟨T.setVm vm₁, locs, cells, slots⟩ argsL.toArray) :
    (∃ (v : Option Value) (vm₁ : Vm) (B : Pt), s.WarmedH vm₁ ∧ Stand p l e R s m args below meth c B.U B.locs B.cells B.slots ∧ Post ⟨T.setVm vm₁, locs, cells, slots⟩ argsL.toArray v B ∧
      ∀ target, Steps p.tables e below (B.U.setTop { g with pc := g.pc + 3, stack := v.toList ++ rest }) target → Steps p.tables e below (T.setTop g) target) ∨
    (∃ (q : Addr) (vm₁ : Vm) (B : Pt), s.WarmedH vm₁ ∧ Stand p l e R s m args below meth c B.U B.locs B.cells B.slots ∧ PostX ⟨T.setVm vm₁, locs, cells, slots⟩ argsL.toArray q B ∧
      Steps p.tables e below (T.setTop g) ((B.U.setTop { g with stack := rest }).pushFrame (.throwing q))) := by
  obtain ⟨mk, hnamed⟩ := Cond.code_named hcode
  obtain ⟨methM, cM, hmethM, -, -, -, -, -, -, hsigM⟩ := Cond.code_spec hnamed hcode
  have hstatic : methM.isStatic = true := Cond.static_spec hnamed hmethM hstat
  obtain ⟨kP, hkP, -⟩ := className_of_methodNamed hnamed
  have hinitP : kP.init = .initialized := Cond.initialized_spec (findClass_of_methodNamed hnamed) hkP hinit
  obtain ⟨vm₁, X₁, hstep₁⟩ := X.invokestatic hexec hown hlink hnamed hmethM hstatic hkP hinitP hy (g := g) hg (argsL := argsL) (rest := rest) (hlen _ hsigM) hstack hdg
  rcases hK m meth c ⟨T.setVm vm₁, locs, cells, slots⟩ { g with stack := rest } (.invokestatic index) mk argsL.toArray X₁ hg hsize hdg hW (X₁.named hnamed) (hpre vm₁ X₁.warmed) with ⟨v, B, X', hpost, hsteps⟩ | ⟨q, B, X', hpost, hsteps⟩
  · exact Or.inl ⟨v, vm₁, B, X₁.warmed, X', hpost, fun target h => hstep₁ _ fun acts => by rw [doInvoke_state]; exact hsteps.trans h⟩
  · exact Or.inr ⟨q, vm₁, B, X₁.warmed, X', hpost, hstep₁ _ fun acts => by rw [doInvoke_state]; exact hsteps⟩
end Calls
theorem vx_cls {s : State} {T : State} {vm₁ : Vm} {E : String} {k : ClassId} (hW : s.WarmedH vm₁) (h : (T.setVm vm₁).vm.findClass E = some k) : s.vm.findClass E = some k := by
  have h1 : vm₁.findClass E = some k := h
  rw [hW.alike.findClass] at h1
  exact h1
/-- the method's frame g, with q thrown over it -/
def vx_W (p : Program) (l : Launch) (e : Env) (R : Room) (s : State) (m : MethodId) (args : Array Value) (below : List Frame) (meth : Method) (c : Code) (H : Heap) (locs : List Loc) (cells slots : Nat) (Q : State → Prop) (g : JFrame) (q : Addr) : Prop :=
  ∀ T : State, T.heap = H → Stand p l e R s m args below meth c T locs cells slots → ∃ t, Steps p.tables e below ((T.setTop g).pushFrame (.throwing q)) t ∧ Q t
def vx_Run (p : Program) (l : Launch) (e : Env) (R : Room) (s : State) (m : MethodId) (args : Array Value) (below : List Frame) (meth : Method) (c : Code) (H : Heap) (locs : List Loc) (cells slots mc ms : Nat) (g : JFrame) (rest : List Value) (Qa : State → Outcome → State → Prop) (XC : String → State → State → Prop) (free : Addr → Prop) : Prop :=
  ∀ T : State, T.heap = H → Stand p l e R s m args below meth c T locs cells slots →
    (∃ (v : Option Value) (st₀ t T' : State) (L : List Loc), st₀.heap = H ∧ Stand p l e R s m args below meth c T' (locs ++ L) (cells + mc) (slots + ms) ∧ (∀ q ∈ L, free q.base) ∧ T'.heap = t.heap ∧ T'.vm = t.vm ∧ Qa st₀ (.returned v) t ∧
      Goes p e below T g T' { g with pc := g.pc + 3, stack := v.toList ++ rest }) ∨
    (∃ (q : Addr) (st₀ t T' : State) (L : List Loc) (E : String) (ce : Cell), st₀.heap = H ∧ Stand p l e R s m args below meth c T' (locs ++ L) (cells + mc) (slots + ms) ∧ (∀ z ∈ L, free z.base) ∧ T'.heap = t.heap ∧ T'.vm = t.vm ∧ XC E st₀ t ∧ t.heap[q]? = some ce ∧ ce.vm = .none ∧ s.vm.findClass E = some ce.cls ∧
      Steps p.tables e below (T.setTop g) ((T'.setTop { g with stack := rest }).pushFrame (.throwing q)))
def vx_X {S : Type} (px : S → Prop) (B : String → S → State → Prop) (A : Nat → Prop) : String → State → State → Prop := fun E st t => ∃ u : S, px u ∧ B E u t ∧ va_F A st t
section Runs
variable {p : Program} {l : Launch} {e : Env} {R : Room} {s : State} {m : MethodId} {args : Array Value} {below : List Frame} {meth : Method} {c : Code} {H : Heap} {locs : List Loc} {cells slots : Nat}
variable {y : MethodName} {bytes cc : ByteArray} {maxL nL mc ms n index : Nat} {ret : Option FieldType} {ws : List Cond} {rm : Room} {Pc : Array Value → State → Prop} {Qc : Array Value → State → Outcome → State → Prop} {XC : String → State → State → Prop} {free : Addr → Prop} {Ts : List Cond} {own C : String} {b : Addr} {As rest : List Value} {g : JFrame}
theorem vx_callBack (cb : CallB R s args own index y bytes maxL ret ws rm mc ms n) (hM : vx_Met l y ws rm Pc Qc XC mc ms free) (hbl : FrameBlind Pc) : vx_Back l R p e below s args y 3 8 (PreOf R mc ms Pc) (PostOf Qc mc ms free) (vx_Post XC mc ms free) := by
  obtain ⟨hrc, hrs, hfr, hlo, hws, hcw, -, hini, -⟩ := cb
  exact vx_back (bytes := bytes) (maxL := maxL) (ret := ret) hM hbl hrc hrs hfr hlo hws hcw (fun a' U hW => word_at hW (Or.inl (by first | rfl | simp [Cond.onTables, Cond.keeps, Cond.steady])) hini)
theorem vx_runV (S : CallFix p m c cc nL s args Ts own) (hM : vx_Met l y ws rm Pc Qc XC mc ms free) (cw : CallW R s args own C index y bytes maxL ret ws rm mc ms n) (hp : PreV s H C b Pc As)
    (hg : g.method = m) (hn : As.length = n) (hsize : g.locals.size = nL) (hstack : g.stack = As.reverse ++ .ref b :: rest) (hW : 2 * g.monitorRoom + (rest.map fun v => v.category).sum ≤ 8) (hdg : decode cc g.pc = .ok (.invokevirtual index, 3)) (hf : cells + mc ≤ R.cells ∧ slots + ms ≤ R.slots) :
    vx_Run p l e R s m args below meth c H locs cells slots mc ms g rest (Qc (Value.ref b :: As).toArray) XC free := by
  have hK : vx_Back l R p e below s args y 3 8 (PreOf R mc ms Pc) (PostOf Qc mc ms free) (vx_Post XC mc ms free) := vx_callBack cw.1 hM hp.1
  obtain ⟨⟨-, -, -, -, -, -, hcode, -, hy, hlen, hl⟩, hin, hse⟩ := cw
  obtain ⟨hx, hb, hml, ho, -⟩ := S
  obtain ⟨-, ⟨cellB, hcB, hoB, hclB⟩, hPc⟩ := hp
  intro T hT X
  rcases vx_callV X hx (C := C) (bytes := bytes) (maxL := maxL) (ret := ret) ho hl hin hse hcode hy hK (by rw [hT]; exact hcB) hoB hclB hg (hsize.trans hml.symm) (argsL := As) (rest := rest) (fun sig h => hn.trans (hlen sig h)) hstack hW (by rw [hb]; exact hdg)
    (fun vm₁ hW₁ => ⟨hf.1, hf.2, hPc (T.setVm vm₁) hT hW₁⟩) with ⟨v, vm₁, ⟨U', l2, c2, s2⟩, hW₁, X', ⟨g', mk, t, L, e1, e2, hq, h1, hL, h2, h3⟩, st⟩ | ⟨q, vm₁, ⟨U', l2, c2, s2⟩, hW₁, X', ⟨g', mk, t, L, E, ce, e1, e2, hq, hce, hcv, hcl, h1, hL, h2, h3⟩, st⟩
  · dsimp only [Pt.U, Pt.locs, Pt.cells, Pt.slots] at X' e1 e2 h1 h2 h3 st
    subst h1; subst h2; subst h3
    exact Or.inl ⟨v, (T.setVm vm₁).calling g' mk (Value.ref b :: As).toArray, t, U', L, hT, X', hL, e1, e2, hq, st⟩
  · dsimp only [Pt.U, Pt.locs, Pt.cells, Pt.slots] at X' e1 e2 h1 h2 h3 st hcl
    subst h1; subst h2; subst h3
    exact Or.inr ⟨q, (T.setVm vm₁).calling g' mk (Value.ref b :: As).toArray, t, U', L, E, ce, hT, X', hL, e1, e2, hq, hce, hcv, vx_cls hW₁ hcl, st⟩
theorem vx_runS (S : CallFix p m c cc nL s args Ts own) (hM : vx_Met l y ws rm Pc Qc XC mc ms free) (cw : CallB R s args own index y bytes maxL ret ws rm mc ms n ∧ (Cond.static y).before args s = true) (hp : PreS s H Pc As)
    (hg : g.method = m) (hn : As.length = n) (hsize : g.locals.size = nL) (hstack : g.stack = As.reverse ++ rest) (hW : 2 * g.monitorRoom + (rest.map fun v => v.category).sum ≤ 8) (hdg : decode cc g.pc = .ok (.invokestatic index, 3)) (hf : cells + mc ≤ R.cells ∧ slots + ms ≤ R.slots) :
    vx_Run p l e R s m args below meth c H locs cells slots mc ms g rest (Qc As.toArray) XC free := by
  have hK : vx_Back l R p e below s args y 3 8 (PreOf R mc ms Pc) (PostOf Qc mc ms free) (vx_Post XC mc ms free) := vx_callBack cw.1 hM hp.1
  obtain ⟨⟨-, -, -, -, -, -, hcode, hini, hy, hlen, hl⟩, hstt⟩ := cw
  obtain ⟨hx, hb, hml, ho, -⟩ := S
  intro T hT X
  rcases vx_callS X hx (bytes := bytes) (maxL := maxL) (ret := ret) ho hl hstt hini hcode hy hK hg (hsize.trans hml.symm) (argsL := As) (rest := rest) (fun sig h => hn.trans (hlen sig h)) hstack hW (by rw [hb]; exact hdg)
    (fun vm₁ hW₁ => ⟨hf.1, hf.2, hp.2 (T.setVm vm₁) hT hW₁⟩) with ⟨v, vm₁, ⟨U', l2, c2, s2⟩, hW₁, X', ⟨g', mk, t, L, e1, e2, hq, h1, hL, h2, h3⟩, st⟩ | ⟨q, vm₁, ⟨U', l2, c2, s2⟩, hW₁, X', ⟨g', mk, t, L, E, ce, e1, e2, hq, hce, hcv, hcl, h1, hL, h2, h3⟩, st⟩
  · dsimp only [Pt.U, Pt.locs, Pt.cells, Pt.slots] at X' e1 e2 h1 h2 h3 st
    subst h1; subst h2; subst h3
    exact Or.inl ⟨v, (T.setVm vm₁).calling g' mk As.toArray, t, U', L, hT, X', hL, e1, e2, hq, st⟩
  · dsimp only [Pt.U, Pt.locs, Pt.cells, Pt.slots] at X' e1 e2 h1 h2 h3 st hcl
    subst h1; subst h2; subst h3
    exact Or.inr ⟨q, (T.setVm vm₁).calling g' mk As.toArray, t, U', L, E, ce, hT, X', hL, e1, e2, hq, hce, hcv, vx_cls hW₁ hcl, st⟩
end Runs
section Rows
variable {p : Program} {l : Launch} {e : Env} {R : Room} {s : State} {m : MethodId} {args : Array Value} {below : List Frame} {meth : Method} {c : Code} {H : Heap} {locs : List Loc} {cells slots : Nat} {Q : State → Prop}
variable {mc ms : Nat} {free : Addr → Prop} {A0 A1 : Nat → Prop} {H0 : Heap} {a : Array Value} {pc : Nat} {ls : Array Slot} {st0 rest : List Value}
theorem vx_keep {st₀ t T' : State} {L : List Loc} (h0 : st₀.heap = H) (e1 : T'.heap = t.heap) (hS : va_S A0 H0 H locs) (hA : ∀ q, q < H.size → A1 q → A0 q) (hf : ∀ q, free q → A0 q) (hL : ∀ q ∈ L, free q.base) (hF : va_F A1 st₀ t) :
    H.size ≤ T'.heap.size ∧ (∀ q : Nat, q < H.size → ¬ A1 q → T'.heap[q]? = H[q]?) ∧ va_S A0 H0 T'.heap (locs ++ L) := by
  obtain ⟨hz, hk⟩ := hF
  rw [h0] at hz hk
  exact ⟨by rw [e1]; exact hz, fun q h1 h2 => by rw [e1]; exact hk q h1 h2,
    ⟨Nat.le_trans hS.1 (by rw [e1]; exact hz), fun q h1 h2 => by rw [e1, hk q (Nat.lt_of_lt_of_le h1 hS.1) (fun z => h2 (hA q (Nat.lt_of_lt_of_le h1 hS.1) z))]; exact hS.2.1 q h1 h2, fun q hq => by
      rcases List.mem_append.mp hq with h | h
      · exact hS.2.2 q h
      · exact hf _ (hL q h)⟩⟩
theorem vx_calli {S SX : Type} {post : Int32 → S → Prop} {px : SX → Prop} {B : S → State → Prop} {BX : String → SX → State → Prop} {AX : Nat → Prop} (hr : vx_Run p l e R s m args below meth c H locs cells slots mc ms (F0 m pc ls st0) rest (va_Qi post B A1 a) (vx_X px BX AX) free) (hS : va_S A0 H0 H locs) (hA : ∀ q, q < H.size → A1 q → A0 q) (hf : ∀ q, free q → A0 q) (hAX : ∀ q, q < H.size → AX q → A0 q)
    (kx : ∀ (E : String) (ce : Cell) (q9 : Addr) (u : SX) (t : State) (H1 : Heap) (locs1 : List Loc), t.heap = H1 → s.vm.Alike t.vm → px u → BX E u t → H.size ≤ H1.size → (∀ q : Nat, q < H.size → ¬ AX q → H1[q]? = H[q]?) → va_S A0 H0 H1 locs1 → H1[q9]? = some ce → ce.vm = .none → s.vm.findClass E = some ce.cls → vx_W p l e R s m args below meth c H1 locs1 (cells + mc) (slots + ms) Q (F0 m pc ls rest) q9)
    (kk : ∀ (r : Int32) (u : S) (t : State) (H1 : Heap) (locs1 : List Loc), t.heap = H1 → s.vm.Alike t.vm → post r u → B u t → H.size ≤ H1.size → (∀ q : Nat, q < H.size → ¬ A1 q → H1[q]? = H[q]?) → va_S A0 H0 H1 locs1 → W p l e R s m args below meth c H1 locs1 (cells + mc) (slots + ms) Q (F0 m (pc + 3) ls (.int r :: rest))) : W p l e R s m args below meth c H locs cells slots Q (F0 m pc ls st0) := by
  intro T hT X
  rcases hr T hT X with ⟨v, st₀, t, T', L, h0, X', hL, e1, e2, ⟨⟨r, u, hv, hp, hb⟩, hF⟩, st⟩ | ⟨q, st₀, t, T', L, E, ce, h0, X', hL, e1, e2, ⟨u, hp, hb, hF⟩, hce, hcv, hcl, st⟩
  · cases hv
    obtain ⟨k1, k2, k3⟩ := vx_keep h0 e1 hS hA hf hL hF
    obtain ⟨t2, a1, b1⟩ := kk r u t T'.heap (locs ++ L) e1.symm (by rw [← e2]; exact X'.warmed.alike) hp hb k1 k2 k3 T' rfl X'
    exact ⟨t2, st t2 a1, b1⟩
  · obtain ⟨k1, k2, k3⟩ := vx_keep h0 e1 hS hAX hf hL hF
    obtain ⟨t2, a1, b1⟩ := kx E ce q u t T'.heap (locs ++ L) e1.symm (by rw [← e2]; exact X'.warmed.alike) hp hb k1 k2 k3 (by rw [e1]; exact hce) hcv hcl T' rfl X'
    exact ⟨t2, st.trans a1, b1⟩
theorem vx_calll {S SX : Type} {post : Int64 → S → Prop} {px : SX → Prop} {B : S → State → Prop} {BX : String → SX → State → Prop} {AX : Nat → Prop} (hr : vx_Run p l e R s m args below meth c H locs cells slots mc ms (F0 m pc ls st0) rest (va_Ql post B A1 a) (vx_X px BX AX) free) (hS : va_S A0 H0 H locs) (hA : ∀ q, q < H.size → A1 q → A0 q) (hf : ∀ q, free q → A0 q) (hAX : ∀ q, q < H.size → AX q → A0 q)
    (kx : ∀ (E : String) (ce : Cell) (q9 : Addr) (u : SX) (t : State) (H1 : Heap) (locs1 : List Loc), t.heap = H1 → s.vm.Alike t.vm → px u → BX E u t → H.size ≤ H1.size → (∀ q : Nat, q < H.size → ¬ AX q → H1[q]? = H[q]?) → va_S A0 H0 H1 locs1 → H1[q9]? = some ce → ce.vm = .none → s.vm.findClass E = some ce.cls → vx_W p l e R s m args below meth c H1 locs1 (cells + mc) (slots + ms) Q (F0 m pc ls rest) q9)
    (kk : ∀ (r : Int64) (u : S) (t : State) (H1 : Heap) (locs1 : List Loc), t.heap = H1 → s.vm.Alike t.vm → post r u → B u t → H.size ≤ H1.size → (∀ q : Nat, q < H.size → ¬ A1 q → H1[q]? = H[q]?) → va_S A0 H0 H1 locs1 → W p l e R s m args below meth c H1 locs1 (cells + mc) (slots + ms) Q (F0 m (pc + 3) ls (.long r :: rest))) : W p l e R s m args below meth c H locs cells slots Q (F0 m pc ls st0) := by
  intro T hT X
  rcases hr T hT X with ⟨v, st₀, t, T', L, h0, X', hL, e1, e2, ⟨⟨r, u, hv, hp, hb⟩, hF⟩, st⟩ | ⟨q, st₀, t, T', L, E, ce, h0, X', hL, e1, e2, ⟨u, hp, hb, hF⟩, hce, hcv, hcl, st⟩
  · cases hv
    obtain ⟨k1, k2, k3⟩ := vx_keep h0 e1 hS hA hf hL hF
    obtain ⟨t2, a1, b1⟩ := kk r u t T'.heap (locs ++ L) e1.symm (by rw [← e2]; exact X'.warmed.alike) hp hb k1 k2 k3 T' rfl X'
    exact ⟨t2, st t2 a1, b1⟩
  · obtain ⟨k1, k2, k3⟩ := vx_keep h0 e1 hS hAX hf hL hF
    obtain ⟨t2, a1, b1⟩ := kx E ce q u t T'.heap (locs ++ L) e1.symm (by rw [← e2]; exact X'.warmed.alike) hp hb k1 k2 k3 (by rw [e1]; exact hce) hcv hcl T' rfl X'
    exact ⟨t2, st.trans a1, b1⟩
theorem vx_callf {S SX : Type} {post : UInt32 → S → Prop} {px : SX → Prop} {B : S → State → Prop} {BX : String → SX → State → Prop} {AX : Nat → Prop} (hr : vx_Run p l e R s m args below meth c H locs cells slots mc ms (F0 m pc ls st0) rest (va_Qf post B A1 a) (vx_X px BX AX) free) (hS : va_S A0 H0 H locs) (hA : ∀ q, q < H.size → A1 q → A0 q) (hf : ∀ q, free q → A0 q) (hAX : ∀ q, q < H.size → AX q → A0 q)
    (kx : ∀ (E : String) (ce : Cell) (q9 : Addr) (u : SX) (t : State) (H1 : Heap) (locs1 : List Loc), t.heap = H1 → s.vm.Alike t.vm → px u → BX E u t → H.size ≤ H1.size → (∀ q : Nat, q < H.size → ¬ AX q → H1[q]? = H[q]?) → va_S A0 H0 H1 locs1 → H1[q9]? = some ce → ce.vm = .none → s.vm.findClass E = some ce.cls → vx_W p l e R s m args below meth c H1 locs1 (cells + mc) (slots + ms) Q (F0 m pc ls rest) q9)
    (kk : ∀ (r : UInt32) (u : S) (t : State) (H1 : Heap) (locs1 : List Loc), t.heap = H1 → s.vm.Alike t.vm → post r u → B u t → H.size ≤ H1.size → (∀ q : Nat, q < H.size → ¬ A1 q → H1[q]? = H[q]?) → va_S A0 H0 H1 locs1 → W p l e R s m args below meth c H1 locs1 (cells + mc) (slots + ms) Q (F0 m (pc + 3) ls (.float r :: rest))) : W p l e R s m args below meth c H locs cells slots Q (F0 m pc ls st0) := by
  intro T hT X
  rcases hr T hT X with ⟨v, st₀, t, T', L, h0, X', hL, e1, e2, ⟨⟨r, u, hv, hp, hb⟩, hF⟩, st⟩ | ⟨q, st₀, t, T', L, E, ce, h0, X', hL, e1, e2, ⟨u, hp, hb, hF⟩, hce, hcv, hcl, st⟩
  · cases hv
    obtain ⟨k1, k2, k3⟩ := vx_keep h0 e1 hS hA hf hL hF
    obtain ⟨t2, a1, b1⟩ := kk r u t T'.heap (locs ++ L) e1.symm (by rw [← e2]; exact X'.warmed.alike) hp hb k1 k2 k3 T' rfl X'
    exact ⟨t2, st t2 a1, b1⟩
  · obtain ⟨k1, k2, k3⟩ := vx_keep h0 e1 hS hAX hf hL hF
    obtain ⟨t2, a1, b1⟩ := kx E ce q u t T'.heap (locs ++ L) e1.symm (by rw [← e2]; exact X'.warmed.alike) hp hb k1 k2 k3 (by rw [e1]; exact hce) hcv hcl T' rfl X'
    exact ⟨t2, st.trans a1, b1⟩
theorem vx_calld {S SX : Type} {post : UInt64 → S → Prop} {px : SX → Prop} {B : S → State → Prop} {BX : String → SX → State → Prop} {AX : Nat → Prop} (hr : vx_Run p l e R s m args below meth c H locs cells slots mc ms (F0 m pc ls st0) rest (va_Qd post B A1 a) (vx_X px BX AX) free) (hS : va_S A0 H0 H locs) (hA : ∀ q, q < H.size → A1 q → A0 q) (hf : ∀ q, free q → A0 q) (hAX : ∀ q, q < H.size → AX q → A0 q)
    (kx : ∀ (E : String) (ce : Cell) (q9 : Addr) (u : SX) (t : State) (H1 : Heap) (locs1 : List Loc), t.heap = H1 → s.vm.Alike t.vm → px u → BX E u t → H.size ≤ H1.size → (∀ q : Nat, q < H.size → ¬ AX q → H1[q]? = H[q]?) → va_S A0 H0 H1 locs1 → H1[q9]? = some ce → ce.vm = .none → s.vm.findClass E = some ce.cls → vx_W p l e R s m args below meth c H1 locs1 (cells + mc) (slots + ms) Q (F0 m pc ls rest) q9)
    (kk : ∀ (r : UInt64) (u : S) (t : State) (H1 : Heap) (locs1 : List Loc), t.heap = H1 → s.vm.Alike t.vm → post r u → B u t → H.size ≤ H1.size → (∀ q : Nat, q < H.size → ¬ A1 q → H1[q]? = H[q]?) → va_S A0 H0 H1 locs1 → W p l e R s m args below meth c H1 locs1 (cells + mc) (slots + ms) Q (F0 m (pc + 3) ls (.double r :: rest))) : W p l e R s m args below meth c H locs cells slots Q (F0 m pc ls st0) := by
  intro T hT X
  rcases hr T hT X with ⟨v, st₀, t, T', L, h0, X', hL, e1, e2, ⟨⟨r, u, hv, hp, hb⟩, hF⟩, st⟩ | ⟨q, st₀, t, T', L, E, ce, h0, X', hL, e1, e2, ⟨u, hp, hb, hF⟩, hce, hcv, hcl, st⟩
  · cases hv
    obtain ⟨k1, k2, k3⟩ := vx_keep h0 e1 hS hA hf hL hF
    obtain ⟨t2, a1, b1⟩ := kk r u t T'.heap (locs ++ L) e1.symm (by rw [← e2]; exact X'.warmed.alike) hp hb k1 k2 k3 T' rfl X'
    exact ⟨t2, st t2 a1, b1⟩
  · obtain ⟨k1, k2, k3⟩ := vx_keep h0 e1 hS hAX hf hL hF
    obtain ⟨t2, a1, b1⟩ := kx E ce q u t T'.heap (locs ++ L) e1.symm (by rw [← e2]; exact X'.warmed.alike) hp hb k1 k2 k3 (by rw [e1]; exact hce) hcv hcl T' rfl X'
    exact ⟨t2, st.trans a1, b1⟩
theorem vx_callv {S SX : Type} {post : S → Prop} {px : SX → Prop} {B : S → State → Prop} {BX : String → SX → State → Prop} {AX : Nat → Prop} (hr : vx_Run p l e R s m args below meth c H locs cells slots mc ms (F0 m pc ls st0) rest (va_Qv post B A1 a) (vx_X px BX AX) free) (hS : va_S A0 H0 H locs) (hA : ∀ q, q < H.size → A1 q → A0 q) (hf : ∀ q, free q → A0 q) (hAX : ∀ q, q < H.size → AX q → A0 q)
    (kx : ∀ (E : String) (ce : Cell) (q9 : Addr) (u : SX) (t : State) (H1 : Heap) (locs1 : List Loc), t.heap = H1 → s.vm.Alike t.vm → px u → BX E u t → H.size ≤ H1.size → (∀ q : Nat, q < H.size → ¬ AX q → H1[q]? = H[q]?) → va_S A0 H0 H1 locs1 → H1[q9]? = some ce → ce.vm = .none → s.vm.findClass E = some ce.cls → vx_W p l e R s m args below meth c H1 locs1 (cells + mc) (slots + ms) Q (F0 m pc ls rest) q9)
    (kk : ∀ (u : S) (t : State) (H1 : Heap) (locs1 : List Loc), t.heap = H1 → s.vm.Alike t.vm → post u → B u t → H.size ≤ H1.size → (∀ q : Nat, q < H.size → ¬ A1 q → H1[q]? = H[q]?) → va_S A0 H0 H1 locs1 → W p l e R s m args below meth c H1 locs1 (cells + mc) (slots + ms) Q (F0 m (pc + 3) ls (rest))) : W p l e R s m args below meth c H locs cells slots Q (F0 m pc ls st0) := by
  intro T hT X
  rcases hr T hT X with ⟨v, st₀, t, T', L, h0, X', hL, e1, e2, ⟨⟨u, hv, hp, hb⟩, hF⟩, st⟩ | ⟨q, st₀, t, T', L, E, ce, h0, X', hL, e1, e2, ⟨u, hp, hb, hF⟩, hce, hcv, hcl, st⟩
  · cases hv
    obtain ⟨k1, k2, k3⟩ := vx_keep h0 e1 hS hA hf hL hF
    obtain ⟨t2, a1, b1⟩ := kk u t T'.heap (locs ++ L) e1.symm (by rw [← e2]; exact X'.warmed.alike) hp hb k1 k2 k3 T' rfl X'
    exact ⟨t2, st t2 a1, b1⟩
  · obtain ⟨k1, k2, k3⟩ := vx_keep h0 e1 hS hAX hf hL hF
    obtain ⟨t2, a1, b1⟩ := kx E ce q u t T'.heap (locs ++ L) e1.symm (by rw [← e2]; exact X'.warmed.alike) hp hb k1 k2 k3 (by rw [e1]; exact hce) hcv hcl T' rfl X'
    exact ⟨t2, st.trans a1, b1⟩
/-- caught by the row x of this method's table; the rows ahead don't take it -/
theorem vx_catch {own name : String} {E : String} {ce : Cell} {q : Addr} (hown : s.vm.findClass own = some m.cls) (pre : List ExceptionTableEntry) (x : ExceptionTableEntry) (suf : List ExceptionTableEntry) (hsplit : c.exceptionTable.toList = pre ++ x :: suf)
    (hpass : ∀ z ∈ pre, covers z pc = false ∨ (z.catchType ≠ 0 ∧ ∃ nm : String, (Cond.classLink own z.catchType nm).before args s = true ∧ va_Nc E nm s)) (hx : covers x pc = true) (h0 : x.catchType ≠ 0)
    (hlink : (Cond.classLink own x.catchType name).before args s = true) (hcast : (Cond.castable E name).before args s = true) (hcell : H[q]? = some ce) (hv : ce.vm = .none) (hcl : s.vm.findClass E = some ce.cls)
    (kk : W p l e R s m args below meth c H locs cells slots Q (F0 m x.handlerPc ls [.ref q])) : vx_W p l e R s m args below meth c H locs cells slots Q (F0 m pc ls rest) q := by
  intro T hT X
  have hpl : e.platform.magicAccessors = ({} : Platform).magicAccessors := by rw [X.admits.platform]
  obtain ⟨c3, c4, hc3, hc4, hasg⟩ := Cond.castable_spec hcast
  cases Option.some.inj (hc3.symm.trans hcl)
  obtain ⟨c5, hc5, hcl5⟩ := Cond.classLink_spec hown hlink e.platform hpl
  cases Option.some.inj (hc4.symm.trans hc5)
  obtain ⟨vm', X', st⟩ := X.thenCaughtThrough q (g := F0 m pc ls rest) rfl (Steps.refl _) (by rw [hT]; exact hcell) (by rw [hv]; rfl) (by obtain ⟨k9, h9, -⟩ := Vm.findClass_spec hcl; exact ⟨k9, h9⟩) pre x suf hsplit
    (fun z hz => by
      rcases hpass z hz with h | ⟨hz0, nm, hl1, hn1⟩
      · exact Or.inl h
      · obtain ⟨c6, hc6, hcl6⟩ := Cond.classLink_spec hown hl1 e.platform hpl
        obtain ⟨a8, b8, h1, h2, h3⟩ := hn1
        cases Option.some.inj (h1.symm.trans hcl)
        cases Option.some.inj (h2.symm.trans hc6)
        exact Or.inr ⟨hz0, _, hcl6, h3⟩) hx (Or.inr ⟨h0, c4, hcl5, hasg⟩)
  obtain ⟨t, a1, b1⟩ := kk (T.setVm vm') hT X'
  exact ⟨t, st.trans a1, b1⟩
end Rows
section Ends
variable {p : Program} {l : Launch} {e : Env} {R : Room} {s : State} {m : MethodId} {args : Array Value} {below : List Frame} {meth : Method} {c : Code} {H : Heap} {locs : List Loc} {cells slots : Nat} {Q : State → Prop}
variable {mc ms : Nat} {free : Addr → Prop} {A0 A1 : Nat → Prop} {H0 : Heap} {a : Array Value} {ls : Array Slot} {st0 rest : List Value}
variable {Qc : Array Value → State → Outcome → State → Prop} {XC : String → State → State → Prop}
/-- what a body that may throw owes at its end -/
def vx_MQ (below : List Frame) (Qc : Array Value → State → Outcome → State → Prop) (XC : String → State → State → Prop) (a : Array Value) (s : State) (mc ms : Nat) (free : Addr → Prop) : State → Prop := fun t =>
  ∃ o, t.status = .running ∧ Ended t below o ∧ vx_Q Qc XC mc ms free a s o t
theorem vx_ret {g : JFrame} {mc ms : Nat} (k : W p l e R s m args below meth c H locs cells slots (MQ below Qc args s mc ms free) g) : W p l e R s m args below meth c H locs cells slots (vx_MQ below Qc XC args s mc ms free) g := by
  intro T hT X
  obtain ⟨t, a1, o, b1, b2, b3, b4⟩ := k T hT X
  exact ⟨t, a1, o, b1, b2, Or.inl ⟨b3, b4⟩⟩
/-- not caught here: it goes on to the caller -/
theorem vx_widen {g : JFrame} {q : Addr} {k n : Nat} (h1 : cells ≤ k) (h2 : slots ≤ n) (kk : vx_W p l e R s m args below meth c H locs k n Q g q) : vx_W p l e R s m args below meth c H locs cells slots Q g q := fun T hT X => kk T hT (stand_widen X h1 h2)
theorem vx_out {pc : Nat} {E : String} {ce : Cell} {q : Addr} {mc ms : Nat} (hout : ∀ x ∈ c.exceptionTable.toList, covers x pc = false) (hlocks : meth.locks = false) (hcell : H[q]? = some ce) (hv : ce.vm = .none) (hcl : s.vm.findClass E = some ce.cls)
    (hx : ∀ t : State, t.heap = H → s.vm.Alike t.vm → XC E s t) (hf : ∀ z ∈ locs, free z.base) (hc : cells ≤ mc) (hs : slots ≤ ms) :
    vx_W p l e R s m args below meth c H locs cells slots (vx_MQ below Qc XC args s mc ms free) (F0 m pc ls rest) q := by
  intro T hT X
  obtain ⟨st1, hrun, hend, hW, hsm⟩ := X.leaveThrown q (g := F0 m pc ls rest) rfl rfl rfl hout hlocks
  have hcell9 : (T.setFrames (.throwing q :: below)).heap[q]? = some ce := by
    show T.heap[q]? = some ce
    rw [hT]; exact hcell
  exact ⟨_, st1, .threw q, hrun, hend, Or.inr ⟨q, rfl, E, ce, locs, hx _ hT hW.alike, hcell9, hv, hcl, hW, hsm.mono hc hs, hf⟩⟩
theorem vx_frame {U : State} {k n : Nat} (h : s.sameButNew ({ U with vm := s.vm } : State) locs k n) : s.heap.size ≤ U.heap.size ∧ ∀ q : Nat, q < s.heap.size → (∀ z ∈ locs, z.base ≠ q) → U.heap[q]? = s.heap[q]? := by
  obtain ⟨-, h2, -, -, -, h6⟩ := h
  refine ⟨h2, fun q hq hz => ?_⟩
  obtain ⟨c9, e1, e2, e3, e4⟩ := h6 q _ (Array.getElem?_eq_getElem hq)
  have hs : c9.slots = (s.heap[q]).slots := Array.ext_getElem? fun i => e4 i fun hm => hz _ hm rfl
  have h9 : c9 = s.heap[q] := by
    rw [hs] at e2
    exact e2
  have e5 : U.heap[q]? = some c9 := e1
  rw [e5, h9, Array.getElem?_eq_getElem hq]
/-- the words of a throw but the four that speak of the heap -/
def vx_no (w : Cond) : Bool := decide (w ≠ .isRef (.static Bundle.tN "UNASSIGNED_STACK" Bundle.steD)) && decide (w ≠ .isRef (.static Bundle.tN "SUPPRESSED_SENTINEL" Bundle.listD)) && decide (w ≠ .laysStatic Bundle.tN "UNASSIGNED_STACK" Bundle.steD) && decide (w ≠ .laysStatic Bundle.tN "SUPPRESSED_SENTINEL" Bundle.listD)
def vx_at0 (own : String) (ic : Nat) (X : String) (names : List String) : List Cond := (Bundle.ownAtoms0 own ic X names).filter vx_no
def vx_atS (own : String) (ic : Nat) (X : String) (names : List String) : List Cond := (Bundle.ownAtoms own ic X names).filter vx_no
/-- a word that the tables alone decide, or a good one -/
def vx_ot (w : Cond) : Bool := w.onTables || goodWord w
theorem vx_ot_at {args a' : Array Value} {s U : State} {w : Cond} (hW : s.WarmedH U.vm) (hvm : s.vm = U.vm) (hg : vx_ot w = true) (h : w.before args s = true) : w.before a' U = true := by
  simp only [vx_ot, Bool.or_eq_true] at hg
  rcases hg with hg | hg
  · exact va_tabs hg hvm h
  · exact word_at hW (good_of_word hg) h
/-- a list's words: the good ones out of the method's own list, the others by premises of their own -/
theorem vx_hat {args : Array Value} {s : State} {L B : List Cond} (h1 : ∀ w ∈ L.filter goodWord, w.before args s = true) (h2 : ∀ w ∈ L.filter (fun w => !goodWord w), w ∈ B) (h3 : ∀ w ∈ B, w.before args s = true) : ∀ w ∈ L, w.before args s = true := by
  intro w hw
  by_cases g : goodWord w = true
  · exact h1 w (List.mem_filter.mpr ⟨hw, g⟩)
  · refine h3 w (h2 w (List.mem_filter.mpr ⟨hw, ?_⟩))
    show (!goodWord w) = true
    cases hgw : goodWord w
    · rfl
    · exact absurd hgw g
theorem vx_c {args : Array Value} {s : State} {w : Cond} {B : List Cond} (h : w.before args s = true) (t : ∀ w ∈ B, w.before args s = true) : ∀ w' ∈ w :: B, w'.before args s = true := fun w' h' => (List.mem_cons.mp h').elim (fun e => by rw [e]; exact h) (t w')
theorem vx_n {args : Array Value} {s : State} : ∀ w ∈ ([] : List Cond), w.before args s = true := fun _ h => nomatch h
theorem vx_own {args : Array Value} {s : State} {L : List Cond} (h1 : ∀ w ∈ L.filter vx_no, w.before args s = true)
    (hU : (Cond.isRef (.static Bundle.tN "UNASSIGNED_STACK" Bundle.steD)).before args s = true) (hN : (Cond.isRef (.static Bundle.tN "SUPPRESSED_SENTINEL" Bundle.listD)).before args s = true)
    (lU : (Cond.laysStatic Bundle.tN "UNASSIGNED_STACK" Bundle.steD).before args s = true) (lN : (Cond.laysStatic Bundle.tN "SUPPRESSED_SENTINEL" Bundle.listD).before args s = true) : ∀ w ∈ L, w.before args s = true := by
  intro w hw
  by_cases e1 : w = .isRef (.static Bundle.tN "UNASSIGNED_STACK" Bundle.steD)
  · rw [e1]; exact hU
  · by_cases e2 : w = .isRef (.static Bundle.tN "SUPPRESSED_SENTINEL" Bundle.listD)
    · rw [e2]; exact hN
    · by_cases e3 : w = .laysStatic Bundle.tN "UNASSIGNED_STACK" Bundle.steD
      · rw [e3]; exact lU
      · by_cases e4 : w = .laysStatic Bundle.tN "SUPPRESSED_SENTINEL" Bundle.listD
        · rw [e4]; exact lN
        · exact h1 w (List.mem_filter.mpr ⟨hw, by unfold vx_no; rw [decide_eq_true e1, decide_eq_true e2, decide_eq_true e3, decide_eq_true e4]; rfl⟩)
/-- where a static field lies, its class's statics cell in H -/
def vx_L (C n d : String) (A : Nat → Prop) (U : State) (H : Heap) : Prop := ∃ (c : ClassId) (k : Class) (i : Nat) (f : Field) (a : Nat) (cell : Cell), U.vm.findClass C = some c ∧ U.fieldFound? C n d = some (c, k, i, f) ∧ f.isStatic = true ∧ k.statics = some a ∧ H[a]? = some cell ∧ cell.vm.isStatics = true ∧ cell.cls = c ∧ f.slot < cell.slots.size ∧ k.staticTypes[f.slot]? = some f.type ∧ ¬ A a
theorem vx_L.moved {C n d : String} {A : Nat → Prop} {u U : State} {H : Heap} (hvm : u.vm.Alike U.vm) (h : vx_L C n d A u H) : vx_L C n d A U H := by
  obtain ⟨c, k, i, f, a, cell, h1, h2, h3, h4, h5, h6, h7, h8, h9, h10⟩ := h
  obtain ⟨k', hi', he⟩ := State.fieldFound?_setVm hvm h2
  exact ⟨c, k', i, f, a, cell, by rw [hvm.findClass]; exact h1, hi', h3, by rw [he]; exact h4, h5, h6, h7, h8, by rw [he]; exact h9, h10⟩
theorem vx_L.kept {C n d : String} {A : Nat → Prop} {U : State} {H H1 : Heap} (h : vx_L C n d A U H) (hq : ∀ a : Nat, a < H.size → ¬ A a → H1[a]? = H[a]?) : vx_L C n d A U H1 := by
  obtain ⟨c, k, i, f, a, cell, h1, h2, h3, h4, h5, h6, h7, h8, h9, h10⟩ := h
  exact ⟨c, k, i, f, a, cell, h1, h2, h3, h4, by rw [hq a (Array.getElem?_eq_some_iff.mp h5).1 h10]; exact h5, h6, h7, h8, h9, h10⟩
theorem vx_L.narrow {C n d : String} {A B : Nat → Prop} {U : State} {H : Heap} (h : vx_L C n d A U H) (hAB : ∀ q, B q → A q) : vx_L C n d B U H := by
  obtain ⟨c, k, i, f, a, cell, h1, h2, h3, h4, h5, h6, h7, h8, h9, h10⟩ := h
  exact ⟨c, k, i, f, a, cell, h1, h2, h3, h4, h5, h6, h7, h8, h9, fun z => h10 (hAB _ z)⟩
theorem vx_L.word {C n d : String} {A : Nat → Prop} {s : State} {args : Array Value} (h : vx_L C n d A s s.heap) : (Cond.laysStatic C n d).before args s = true := by
  obtain ⟨c, k, i, f, a, cell, h1, h2, h3, h4, h5, h6, h7, h8, h9, -⟩ := h
  show (Cond.laysStatic C n d).holds args s none s [] = true
  exact Cond.laysStatic_of h1 h2 h3 h4 h5 h6 h7 h8 h9
/-- .. and what it holds: null or some reference -/
def vx_Zq (C n d : String) (A : Nat → Prop) (U : State) (H : Heap) : Prop := va_Zq C n d A U H ∧ vx_L C n d A U H
theorem vx_Zq.moved {C n d : String} {A : Nat → Prop} {u U : State} {H : Heap} (hvm : u.vm.Alike U.vm) (h : vx_Zq C n d A u H) : vx_Zq C n d A U H := ⟨va_Zq.moved hvm h.1, vx_L.moved hvm h.2⟩
theorem vx_Zq.kept {C n d : String} {A : Nat → Prop} {U : State} {H H1 : Heap} (h : vx_Zq C n d A U H) (hq : ∀ a : Nat, a < H.size → ¬ A a → H1[a]? = H[a]?) : vx_Zq C n d A U H1 := ⟨va_Zq.kept h.1 hq, vx_L.kept h.2 hq⟩
theorem vx_Zq.narrow {C n d : String} {A B : Nat → Prop} {U : State} {H : Heap} (h : vx_Zq C n d A U H) (hAB : ∀ q, B q → A q) : vx_Zq C n d B U H := ⟨va_Zq.narrow h.1 hAB, vx_L.narrow h.2 hAB⟩
theorem vx_Zqof {args : Array Value} {s : State} {C n d : String} {A : Nat → Prop} (hl : (Cond.laysStatic C n d).before args s = true) (hini : (Cond.initialized C).before args s = true) (h : (Cond.isRef (.static C n d)).before args s = true) (hA : ∀ a : Nat, a < s.heap.size → ¬ A a) : vx_Zq C n d A s s.heap := by
  refine ⟨va_Zqof hl hini h hA, ?_⟩
  obtain ⟨c, k, i, f, a, cell, h1, h2, h3, h4, h5, h6, h7, h8, h9⟩ := Cond.laysStatic_spec hl
  exact ⟨c, k, i, f, a, cell, h1, h2, h3, h4, h5, h6, h7, h8, h9, hA a (Array.getElem?_eq_some_iff.mp h5).1⟩
theorem vx_isRef {C n d : String} {v : Value} {A : Nat → Prop} {s : State} {args : Array Value} (h : va_Z C n d v A s s.heap) (hv : v.isRef = true) : (Cond.isRef (.static C n d)).before args s = true := by
  obtain ⟨cf, kf, fi, f, a, cell, h1, h2, h3, h4, h5, h6, h7, -⟩ := h
  have he : (Term.static C n d).eval args s none [] s = some v := by
    simp [Term.eval, State.fieldNamed?, h1, h2, h4, h5, h6, h7]
  simp only [Cond.before, Cond.holds, Cond.value, he]
  cases v <;> simp_all [Value.isRef]
theorem vx_isRefq {C n d : String} {A : Nat → Prop} {s : State} {args : Array Value} (h : va_Zq C n d A s s.heap) : (Cond.isRef (.static C n d)).before args s = true := by
  rcases h with h | ⟨t, h⟩
  · exact vx_isRef h rfl
  · exact vx_isRef h rfl
/-- the same frame, seen from here: as if the method were called anew in this heap -/
theorem vx_rebase {T : State} (X : Stand p l e R s m args below meth c T locs cells slots) {R' : Room} (hf : R'.frames ≤ R.frames) (hl : R'.locals ≤ R.locals) (hc : cells + R'.cells ≤ R.cells) (hs : slots + R'.slots ≤ R.slots) :
    Stand p l e R' ((T.setVm s.vm).setFrames (.invoking m args :: below)) m args below meth c T [] 0 0 := by
  have htop : (T.setVm s.vm).topJava?.isSome := X.here.top
  have hF : ((T.setVm s.vm).setFrames (.invoking m args :: below)).frames = .invoking m args :: below := State.frames_setFrames _ (State.cur_lt_of_top htop)
  obtain ⟨g₀, hg0⟩ := Option.isSome_iff_exists.mp htop
  obtain ⟨r, hr⟩ := State.topJava?_eq_some.mp hg0
  have hl9 : e.platform.stackLimits (T.setVm s.vm).me = e.platform.stackLimits s.me := X.limits
  have hb9 : (T.setVm s.vm).me.stackBytes = s.me.stackBytes := X.bytes
  refine ⟨X.admits, X.cas, X.clock, hF, ?_, X.hears, X.method, X.code, X.here, X.tail, X.warmed, ?_, ?_, ?_⟩
  · have h := X.room
    have hU : ((T.setVm s.vm).setFrames (.invoking m args :: below)).localsInUse = s.localsInUse := by
      rw [State.localsInUse_invoking hF (meth := meth) (c := c) X.method X.code, State.localsInUse_invoking X.frames X.method X.code]
    simp only [State.hasRoom, Bool.and_eq_true, decide_eq_true_eq] at h ⊢
    obtain ⟨⟨⟨⟨h1, h2, h3, h4, h5, h6⟩, h7⟩, h8⟩, h9⟩ := h
    rw [X.frames, List.length_cons] at h2 h3
    have q1 := X.heapSize
    have q2 := X.used
    simp only [hF, hU, List.length_cons, State.stackLimits_setFrames, State.stackBytes_setFrames, hl9, hb9]
    refine ⟨⟨⟨⟨by omega, by omega, by omega, by omega, by omega, h6⟩, ?_⟩, ?_⟩, X.book⟩
    · show T.heap.size + R'.cells ≤ e.platform.maxCells
      omega
    · show T.slotsUsed + R'.slots ≤ e.platform.maxSlots
      omega
  · rw [State.stackLimits_setFrames]; rfl
  · rw [State.stackBytes_setFrames]; rfl
  · refine ⟨?_, Nat.le_refl _, Nat.le_refl _, ?_, ?_, fun a c9 h9 => ⟨c9, h9, rfl, rfl, fun _ _ => rfl⟩⟩
    · obtain ⟨t, ht, -⟩ := State.frames_cons hr
      show T.setVm s.vm = { ((T.setVm s.vm).setFrames (.invoking m args :: below)).setFrames (T.setVm s.vm).frames with heap := T.heap, slotsUsed := T.slotsUsed }
      rw [State.setFrames_setFrames, State.setFrames_self ht]
      rfl
    · show T.slotsUsed = T.slotsUsed + ((T.heap.toList.drop T.heap.size).map (·.slots.size)).sum
      rw [List.drop_eq_nil_of_le (Nat.le_of_eq Array.length_toList)]
      rfl
    · show ((T.heap.toList.drop T.heap.size).map (·.slots.size)).sum ≤ 0
      rw [List.drop_eq_nil_of_le (Nat.le_of_eq Array.length_toList)]
      exact Nat.le_refl _
/-- 'throw new E()': new; dup; invokespecial; athrow -/
theorem vx_throw0 {cc : ByteArray} {pc : Nat} (hexec : p.tables.exec = Jvm.exec) (hb : c.code = cc) (hl : l.stackTraces = false) {own cls : String} {names : List String} {ik ic mc ms : Nat} {A : Nat → Prop}
    (hown : s.vm.findClass own = some m.cls) (hcls : Bundle.fit cls = true) (hnames : ∀ n ∈ names, Bundle.fit n = true)
    (hk : (Cond.classLink own ik cls).before args s = true) (hini : (Cond.initialized cls).before args s = true) (hat : ∀ w ∈ vx_at0 own ic cls names, w.before args s = true)
    (hgood : ∀ w ∈ Cond.classLink own ik cls :: Cond.initialized cls :: vx_at0 own ic cls names, vx_ot w = true)
    (hU : vx_Zq Bundle.tN "UNASSIGNED_STACK" Bundle.steD A s s.heap) (hN : vx_Zq Bundle.tN "SUPPRESSED_SENTINEL" Bundle.listD A s s.heap) (hS : va_S A s.heap H locs) (hsize : ls.size = c.maxLocals)
    (d0 : decode cc pc = .ok (.new ik, 3)) (d3 : decode cc (pc + 3) = .ok (.dup, 1)) (d4 : decode cc (pc + 4) = .ok (.invokespecial ic, 3)) (d7 : decode cc (pc + 7) = .ok (.athrow, 1))
    (hout : ∀ x ∈ c.exceptionTable.toList, covers x (pc + 7) = false)
    (hRframes : names.length + 3 < R.frames) (hRlocals : (rest.map fun v => v.category).sum + (13 * (names.length + 1) + 42) ≤ R.locals) (hRcells : cells + 1 ≤ R.cells) (hRslots : slots + 6 ≤ R.slots) (hlocks : meth.locks = false)
    (hx : ∀ t : State, s.vm.Alike t.vm → H.size ≤ t.heap.size → (∀ q : Nat, q < H.size → t.heap[q]? = H[q]?) → XC cls s t)
    (hf : ∀ z ∈ locs, free z.base) (hc : cells + 1 ≤ mc) (hs : slots + 6 ≤ ms) :
    W p l e R s m args below meth c H locs cells slots (vx_MQ below Qc XC args s mc ms free) (F0 m pc ls rest) := by
  intro T hT X
  have htr : e.platform.stackTraces = false := (show e.platform.stackTraces = l.stackTraces by rw [X.admits.platform]).trans hl
  have Y := vx_rebase X (R' := { frames := R.frames, locals := R.locals, cells := 1, slots := 6 }) (Nat.le_refl _) (Nat.le_refl _) hRcells hRslots
  obtain ⟨s', hA⟩ : ∃ z, z = (T.setVm s.vm).setFrames (.invoking m args :: below) := ⟨_, rfl⟩
  rw [← hA] at Y
  have hvm : s'.vm = s.vm := by rw [hA]; rfl
  have hhp : s'.heap = H := by rw [hA]; exact hT
  have hW0 : s.WarmedH s'.vm := by rw [hvm]; exact State.WarmedH.refl s
  have hat' : ∀ w ∈ vx_at0 own ic cls names, w.before args s' = true := fun w hw => vx_ot_at hW0 hvm.symm (hgood w (List.mem_cons_of_mem _ (List.mem_cons_of_mem _ hw))) (hat w hw)
  have hk' : (Cond.classLink own ik cls).before args s' = true := vx_ot_at hW0 hvm.symm (hgood _ List.mem_cons_self) hk
  have hini' : (Cond.initialized cls).before args s' = true := vx_ot_at hW0 hvm.symm (hgood _ (List.mem_cons_of_mem _ List.mem_cons_self)) hini
  have hU' : vx_Zq Bundle.tN "UNASSIGNED_STACK" Bundle.steD A s' s'.heap := by rw [hhp]; exact vx_Zq.moved hW0.alike (hU.kept hS.2.1)
  have hN' : vx_Zq Bundle.tN "SUPPRESSED_SENTINEL" Bundle.listD A s' s'.heap := by rw [hhp]; exact vx_Zq.moved hW0.alike (hN.kept hS.2.1)
  have h : ∀ w ∈ Bundle.ownAtoms0 own ic cls names, w.before args s' = true := vx_own hat' (vx_isRefq hU'.1) (vx_isRefq hN'.1) hU'.2.word hN'.2.word
  have hown' : s'.vm.findClass own = some m.cls := by rw [hvm]; exact hown
  have hins : (Cond.instantiable cls 6).before args s' = true := h _ (by simp [Bundle.ownAtoms0])
  obtain ⟨vm₁, cX, kX, hfX, hkX, -, -, X₁, st1⟩ := Y.newCold hexec (own := own) (C := cls) (index := ik) (n := 6) hown' hk' hins hini'
    (g := F0 m pc ls rest) rfl (by rw [hb]; exact d0) (Nat.le_refl _) (Nat.le_refl _)
  generalize hT1 : (T.setVm vm₁).pushCell { cls := cX, slots := kX.instanceTypes.map defaultValue, vm := .none } = T1 at X₁ st1
  have hcat : (Value.ref T.heap.size).category = 1 := rfl
  have hcellA : T1.heap[T.heap.size]? = some (freshCell cX kX) := by rw [← hT1]; exact State.heap_pushCell_size _ _
  have d3' : decode c.code (pc + 3) = .ok (.dup, 1) := by rw [hb]; exact d3
  obtain ⟨U, hsteps, hrun, hend, hW, hsame, ce, hce, hO⟩ := X₁.ctorThrow0 hexec htr (own := own) (cls := cls) (names := names) (ic := ic) hown' hcls hnames h (fun x hx => nomatch hx) hfX hkX hcellA (by rw [hhp, hT]; exact Nat.le_refl _)
    (g := { method := m, pc := pc + 4, locals := ls, stack := .ref T.heap.size :: .ref T.heap.size :: rest, locked := none }) rfl hsize rfl rfl (rest := rest) rfl
    (by rw [hb]; exact d4) (by rw [hb]; exact d7) hout hRframes (by simp only [List.map_cons, List.sum_cons, hcat]; omega) hlocks
  obtain ⟨f1, f2⟩ := vx_frame hsame
  rw [hhp] at f1 f2
  have hWs : s.WarmedH U.vm := State.WarmedH.trans hW0 hW
  have hcl : s.vm.findClass cls = some ce.cls := by
    have h9 := hO.cls
    rw [hvm] at h9
    exact h9
  have hall : s.sameButNew ({ U with vm := s.vm } : State) locs mc ms := by
    subst hA
    obtain ⟨e1, e2⟩ := hsame
    rw [State.setFrames_setFrames] at e1
    have h2 : (T.setVm s.vm).sameButNew ({ U with vm := s.vm } : State) [] (0 + 1) (0 + 6) := ⟨e1, e2⟩
    have h3 := X.same.trans h2
    rw [List.append_nil] at h3
    exact h3.mono hc hs
  refine ⟨U, ?_, .threw T.heap.size, hrun, hend, Or.inr ⟨T.heap.size, rfl, cls, ce, locs, hx U hWs.alike f1 (fun q hq => f2 q hq (fun z hz => nomatch hz)), hce, hO.vm, hcl, hWs, hall, hf⟩⟩
  refine st1 _ ?_
  show Steps p.tables e below (T1.setTop { method := m, pc := pc + 3, locals := ls, stack := .ref T.heap.size :: rest, locked := none }) _
  jvm_step X₁.here [X₁.here.top, hexec, d3', Value.category]
  exact hsteps
/-- 'throw new E("text")': new; dup; ldc; invokespecial; athrow -/
theorem vx_throwS {cc : ByteArray} {pc : Nat} (hexec : p.tables.exec = Jvm.exec) (hb : c.code = cc) (hl : l.stackTraces = false) {own cls text : String} {names : List String} {ik is ic mc ms sa : Nat} {A : Nat → Prop}
    (hown : s.vm.findClass own = some m.cls) (hcls : Bundle.fit cls = true) (hnames : ∀ n ∈ names, Bundle.fit n = true)
    (hk : (Cond.classLink own ik cls).before args s = true) (hini : (Cond.initialized cls).before args s = true) (hstr : vk_R own is text sa s) (hat : ∀ w ∈ vx_atS own ic cls names, w.before args s = true)
    (hgood : ∀ w ∈ Cond.classLink own ik cls :: Cond.initialized cls :: vx_atS own ic cls names, vx_ot w = true)
    (hU : vx_Zq Bundle.tN "UNASSIGNED_STACK" Bundle.steD A s s.heap) (hN : vx_Zq Bundle.tN "SUPPRESSED_SENTINEL" Bundle.listD A s s.heap) (hS : va_S A s.heap H locs) (hsize : ls.size = c.maxLocals)
    (d0 : decode cc pc = .ok (.new ik, 3)) (d3 : decode cc (pc + 3) = .ok (.dup, 1)) (d4 : decode cc (pc + 4) = .ok (.ldc is, 2)) (d6 : decode cc (pc + 6) = .ok (.invokespecial ic, 3)) (d9 : decode cc (pc + 9) = .ok (.athrow, 1))
    (hout : ∀ x ∈ c.exceptionTable.toList, covers x (pc + 9) = false)
    (hRframes : names.length + 3 < R.frames) (hRlocals : (rest.map fun v => v.category).sum + (13 * (names.length + 1) + 43) ≤ R.locals) (hRcells : cells + 1 ≤ R.cells) (hRslots : slots + 6 ≤ R.slots) (hlocks : meth.locks = false)
    (hx : ∀ t : State, s.vm.Alike t.vm → H.size ≤ t.heap.size → (∀ q : Nat, q < H.size → t.heap[q]? = H[q]?) → XC cls s t)
    (hf : ∀ z ∈ locs, free z.base) (hc : cells + 1 ≤ mc) (hs : slots + 6 ≤ ms) :
    W p l e R s m args below meth c H locs cells slots (vx_MQ below Qc XC args s mc ms free) (F0 m pc ls rest) := by
  intro T hT X
  have htr : e.platform.stackTraces = false := (show e.platform.stackTraces = l.stackTraces by rw [X.admits.platform]).trans hl
  have Y := vx_rebase X (R' := { frames := R.frames, locals := R.locals, cells := 1, slots := 6 }) (Nat.le_refl _) (Nat.le_refl _) hRcells hRslots
  obtain ⟨s', hA⟩ : ∃ z, z = (T.setVm s.vm).setFrames (.invoking m args :: below) := ⟨_, rfl⟩
  rw [← hA] at Y
  have hvm : s'.vm = s.vm := by rw [hA]; rfl
  have hhp : s'.heap = H := by rw [hA]; exact hT
  have hW0 : s.WarmedH s'.vm := by rw [hvm]; exact State.WarmedH.refl s
  have hat' : ∀ w ∈ vx_atS own ic cls names, w.before args s' = true := fun w hw => vx_ot_at hW0 hvm.symm (hgood w (List.mem_cons_of_mem _ (List.mem_cons_of_mem _ hw))) (hat w hw)
  have hk' : (Cond.classLink own ik cls).before args s' = true := vx_ot_at hW0 hvm.symm (hgood _ List.mem_cons_self) hk
  have hini' : (Cond.initialized cls).before args s' = true := vx_ot_at hW0 hvm.symm (hgood _ (List.mem_cons_of_mem _ List.mem_cons_self)) hini
  have hU' : vx_Zq Bundle.tN "UNASSIGNED_STACK" Bundle.steD A s' s'.heap := by rw [hhp]; exact vx_Zq.moved hW0.alike (hU.kept hS.2.1)
  have hN' : vx_Zq Bundle.tN "SUPPRESSED_SENTINEL" Bundle.listD A s' s'.heap := by rw [hhp]; exact vx_Zq.moved hW0.alike (hN.kept hS.2.1)
  have h : ∀ w ∈ Bundle.ownAtoms own ic cls names, w.before args s' = true := vx_own hat' (vx_isRefq hU'.1) (vx_isRefq hN'.1) hU'.2.word hN'.2.word
  have hown' : s'.vm.findClass own = some m.cls := by rw [hvm]; exact hown
  have hins : (Cond.instantiable cls 6).before args s' = true := h _ (by simp [Bundle.ownAtoms])
  obtain ⟨vm₁, cX, kX, hfX, hkX, -, -, X₁, st1⟩ := Y.newCold hexec (own := own) (C := cls) (index := ik) (n := 6) hown' hk' hins hini'
    (g := F0 m pc ls rest) rfl (by rw [hb]; exact d0) (Nat.le_refl _) (Nat.le_refl _)
  generalize hT1 : (T.setVm vm₁).pushCell { cls := cX, slots := kX.instanceTypes.map defaultValue, vm := .none } = T1 at X₁ st1
  have hcat : (Value.ref T.heap.size).category = 1 := rfl
  have hcellA : T1.heap[T.heap.size]? = some (freshCell cX kX) := by rw [← hT1]; exact State.heap_pushCell_size _ _
  have d3' : decode c.code (pc + 3) = .ok (.dup, 1) := by rw [hb]; exact d3
  have d4' : decode c.code (pc + 4) = .ok (.ldc is, 2) := by rw [hb]; exact d4
  have hstr' : vk_R own is text sa s' := vk_R.warm hW0 hstr
  obtain ⟨U, hsteps, hrun, hend, hW, hsame, ce, hce, hO⟩ := X₁.ctorThrowS hexec htr (own := own) (cls := cls) (names := names) (ic := ic) hown' hcls hnames h (fun x hx => nomatch hx) hfX hkX hcellA (by rw [hhp, hT]; exact Nat.le_refl _) (msg := .ref sa) rfl
    (g := { method := m, pc := pc + 6, locals := ls, stack := .ref sa :: .ref T.heap.size :: .ref T.heap.size :: rest, locked := none }) rfl hsize rfl rfl (rest := rest) rfl
    (by rw [hb]; exact d6) (by rw [hb]; exact d9) hout hRframes (by simp only [List.map_cons, List.sum_cons, hcat]; omega) hlocks
  obtain ⟨f1, f2⟩ := vx_frame hsame
  rw [hhp] at f1 f2
  have hWs : s.WarmedH U.vm := State.WarmedH.trans hW0 hW
  have hcl : s.vm.findClass cls = some ce.cls := by
    have h9 := hO.cls
    rw [hvm] at h9
    exact h9
  have hall : s.sameButNew ({ U with vm := s.vm } : State) locs mc ms := by
    subst hA
    obtain ⟨e1, e2⟩ := hsame
    rw [State.setFrames_setFrames] at e1
    have h2 : (T.setVm s.vm).sameButNew ({ U with vm := s.vm } : State) [] (0 + 1) (0 + 6) := ⟨e1, e2⟩
    have h3 := X.same.trans h2
    rw [List.append_nil] at h3
    exact h3.mono hc hs
  refine ⟨U, ?_, .threw T.heap.size, hrun, hend, Or.inr ⟨T.heap.size, rfl, cls, ce, locs, hx U hWs.alike f1 (fun q hq => f2 q hq (fun z hz => nomatch hz)), hce, hO.vm, hcl, hWs, hall, hf⟩⟩
  refine st1 _ ?_
  show Steps p.tables e below (T1.setTop { method := m, pc := pc + 3, locals := ls, stack := .ref T.heap.size :: rest, locked := none }) _
  jvm_step X₁.here [X₁.here.top, hexec, d3', Value.category]
  exact X₁.ldcString hexec (own := own) (text := text) (index := is) (a := sa) hown' hstr'.1 hstr'.2
    (g := { method := m, pc := pc + 4, locals := ls, stack := .ref T.heap.size :: .ref T.heap.size :: rest, locked := none }) rfl d4' _ hsteps
/-- 'throw new E("text")', the text by a wide index -/
theorem vx_throwSW {cc : ByteArray} {pc : Nat} (hexec : p.tables.exec = Jvm.exec) (hb : c.code = cc) (hl : l.stackTraces = false) {own cls text : String} {names : List String} {ik is ic mc ms sa : Nat} {A : Nat → Prop}
    (hown : s.vm.findClass own = some m.cls) (hcls : Bundle.fit cls = true) (hnames : ∀ n ∈ names, Bundle.fit n = true)
    (hk : (Cond.classLink own ik cls).before args s = true) (hini : (Cond.initialized cls).before args s = true) (hstr : vk_R own is text sa s) (hat : ∀ w ∈ vx_atS own ic cls names, w.before args s = true)
    (hgood : ∀ w ∈ Cond.classLink own ik cls :: Cond.initialized cls :: vx_atS own ic cls names, vx_ot w = true)
    (hU : vx_Zq Bundle.tN "UNASSIGNED_STACK" Bundle.steD A s s.heap) (hN : vx_Zq Bundle.tN "SUPPRESSED_SENTINEL" Bundle.listD A s s.heap) (hS : va_S A s.heap H locs) (hsize : ls.size = c.maxLocals)
    (d0 : decode cc pc = .ok (.new ik, 3)) (d3 : decode cc (pc + 3) = .ok (.dup, 1)) (d4 : decode cc (pc + 4) = .ok (.ldc_w is, 3)) (d7 : decode cc (pc + 7) = .ok (.invokespecial ic, 3)) (d10 : decode cc (pc + 10) = .ok (.athrow, 1))
    (hout : ∀ x ∈ c.exceptionTable.toList, covers x (pc + 10) = false)
    (hRframes : names.length + 3 < R.frames) (hRlocals : (rest.map fun v => v.category).sum + (13 * (names.length + 1) + 43) ≤ R.locals) (hRcells : cells + 1 ≤ R.cells) (hRslots : slots + 6 ≤ R.slots) (hlocks : meth.locks = false)
    (hx : ∀ t : State, s.vm.Alike t.vm → H.size ≤ t.heap.size → (∀ q : Nat, q < H.size → t.heap[q]? = H[q]?) → XC cls s t)
    (hf : ∀ z ∈ locs, free z.base) (hc : cells + 1 ≤ mc) (hs : slots + 6 ≤ ms) :
    W p l e R s m args below meth c H locs cells slots (vx_MQ below Qc XC args s mc ms free) (F0 m pc ls rest) := by
  intro T hT X
  have htr : e.platform.stackTraces = false := (show e.platform.stackTraces = l.stackTraces by rw [X.admits.platform]).trans hl
  have Y := vx_rebase X (R' := { frames := R.frames, locals := R.locals, cells := 1, slots := 6 }) (Nat.le_refl _) (Nat.le_refl _) hRcells hRslots
  obtain ⟨s', hA⟩ : ∃ z, z = (T.setVm s.vm).setFrames (.invoking m args :: below) := ⟨_, rfl⟩
  rw [← hA] at Y
  have hvm : s'.vm = s.vm := by rw [hA]; rfl
  have hhp : s'.heap = H := by rw [hA]; exact hT
  have hW0 : s.WarmedH s'.vm := by rw [hvm]; exact State.WarmedH.refl s
  have hat' : ∀ w ∈ vx_atS own ic cls names, w.before args s' = true := fun w hw => vx_ot_at hW0 hvm.symm (hgood w (List.mem_cons_of_mem _ (List.mem_cons_of_mem _ hw))) (hat w hw)
  have hk' : (Cond.classLink own ik cls).before args s' = true := vx_ot_at hW0 hvm.symm (hgood _ List.mem_cons_self) hk
  have hini' : (Cond.initialized cls).before args s' = true := vx_ot_at hW0 hvm.symm (hgood _ (List.mem_cons_of_mem _ List.mem_cons_self)) hini
  have hU' : vx_Zq Bundle.tN "UNASSIGNED_STACK" Bundle.steD A s' s'.heap := by rw [hhp]; exact vx_Zq.moved hW0.alike (hU.kept hS.2.1)
  have hN' : vx_Zq Bundle.tN "SUPPRESSED_SENTINEL" Bundle.listD A s' s'.heap := by rw [hhp]; exact vx_Zq.moved hW0.alike (hN.kept hS.2.1)
  have h : ∀ w ∈ Bundle.ownAtoms own ic cls names, w.before args s' = true := vx_own hat' (vx_isRefq hU'.1) (vx_isRefq hN'.1) hU'.2.word hN'.2.word
  have hown' : s'.vm.findClass own = some m.cls := by rw [hvm]; exact hown
  have hins : (Cond.instantiable cls 6).before args s' = true := h _ (by simp [Bundle.ownAtoms])
  obtain ⟨vm₁, cX, kX, hfX, hkX, -, -, X₁, st1⟩ := Y.newCold hexec (own := own) (C := cls) (index := ik) (n := 6) hown' hk' hins hini'
    (g := F0 m pc ls rest) rfl (by rw [hb]; exact d0) (Nat.le_refl _) (Nat.le_refl _)
  generalize hT1 : (T.setVm vm₁).pushCell { cls := cX, slots := kX.instanceTypes.map defaultValue, vm := .none } = T1 at X₁ st1
  have hcat : (Value.ref T.heap.size).category = 1 := rfl
  have hcellA : T1.heap[T.heap.size]? = some (freshCell cX kX) := by rw [← hT1]; exact State.heap_pushCell_size _ _
  have d3' : decode c.code (pc + 3) = .ok (.dup, 1) := by rw [hb]; exact d3
  have d4' : decode c.code (pc + 4) = .ok (.ldc_w is, 3) := by rw [hb]; exact d4
  have hstr' : vk_R own is text sa s' := vk_R.warm hW0 hstr
  obtain ⟨U, hsteps, hrun, hend, hW, hsame, ce, hce, hO⟩ := X₁.ctorThrowS hexec htr (own := own) (cls := cls) (names := names) (ic := ic) hown' hcls hnames h (fun x hx => nomatch hx) hfX hkX hcellA (by rw [hhp, hT]; exact Nat.le_refl _) (msg := .ref sa) rfl
    (g := { method := m, pc := pc + 7, locals := ls, stack := .ref sa :: .ref T.heap.size :: .ref T.heap.size :: rest, locked := none }) rfl hsize rfl rfl (rest := rest) rfl
    (by rw [hb]; exact d7) (by rw [hb]; exact d10) hout hRframes (by simp only [List.map_cons, List.sum_cons, hcat]; omega) hlocks
  obtain ⟨f1, f2⟩ := vx_frame hsame
  rw [hhp] at f1 f2
  have hWs : s.WarmedH U.vm := State.WarmedH.trans hW0 hW
  have hcl : s.vm.findClass cls = some ce.cls := by
    have h9 := hO.cls
    rw [hvm] at h9
    exact h9
  have hall : s.sameButNew ({ U with vm := s.vm } : State) locs mc ms := by
    subst hA
    obtain ⟨e1, e2⟩ := hsame
    rw [State.setFrames_setFrames] at e1
    have h2 : (T.setVm s.vm).sameButNew ({ U with vm := s.vm } : State) [] (0 + 1) (0 + 6) := ⟨e1, e2⟩
    have h3 := X.same.trans h2
    rw [List.append_nil] at h3
    exact h3.mono hc hs
  refine ⟨U, ?_, .threw T.heap.size, hrun, hend, Or.inr ⟨T.heap.size, rfl, cls, ce, locs, hx U hWs.alike f1 (fun q hq => f2 q hq (fun z hz => nomatch hz)), hce, hO.vm, hcl, hWs, hall, hf⟩⟩
  refine st1 _ ?_
  show Steps p.tables e below (T1.setTop { method := m, pc := pc + 3, locals := ls, stack := .ref T.heap.size :: rest, locked := none }) _
  jvm_step X₁.here [X₁.here.top, hexec, d3', Value.category]
  exact X₁.ldcStringW hexec (own := own) (text := text) (index := is) (a := sa) hown' hstr'.1 hstr'.2
    (g := { method := m, pc := pc + 4, locals := ls, stack := .ref T.heap.size :: .ref T.heap.size :: rest, locked := none }) rfl d4' _ hsteps
end Ends
section Bodies
variable {l : Launch}
theorem vx_ofW {y : MethodName} {ws ws' : List Cond} {rm : Room} {Pc : Array Value → State → Prop} {Qc : Array Value → State → Outcome → State → Prop} {XC : String → State → State → Prop} {mc ms : Nat} {free : Addr → Prop} {cc : ByteArray} {maxL : Nat} {ret : Option FieldType}
    (hy : plainName y.cls = true) (hw : ws = Cond.code y cc maxL ret :: ws')
    (body : ∀ p e s m args below meth c s₁, BodyLoose p l y (headSpec ws rm) cc maxL ret e s m args below meth c s₁ → c.maxLocals = maxL → (∀ x ∈ c.exceptionTable.toList, False) → Pc args s →
      W p l e (headSpec ws rm).room s m args below meth c s.heap [] 0 0 (vx_MQ below Qc XC args s mc ms free) (entryFrame m args maxL)) : vx_Met l y ws rm Pc Qc XC mc ms free := by
  refine MetFree.of_bodyS (code := cc) (maxLocals := maxL) (ret := ret) hy ?_ ?_
  · intro args s m h hn
    obtain ⟨meth, c, h1, h2, h3, h4, h5, h6, -, -⟩ := Cond.code_spec hn (atoms_spec (ws := ws) h _ (by rw [hw]; exact List.mem_cons_self))
    exact ⟨meth, c, h1, h2, h3, h4, h5, h6⟩
  · intro p e s m args below meth c s₁ B hml hP _
    have hh0 : s₁.heap = s.heap := by rw [B.state]; rfl
    have ht : ∀ x ∈ c.exceptionTable.toList, False := by
      obtain ⟨meth9, c9, h1, h2, -, -, -, -, h7, -⟩ := Cond.code_spec B.named (atoms_spec (ws := ws) B.pre _ (by rw [hw]; exact List.mem_cons_self))
      cases Option.some.inj (h1.symm.trans B.method)
      cases Option.some.inj (h2.symm.trans (Stand.of_body B).code)
      intro x hx
      rw [Array.isEmpty_iff.mp h7] at hx
      cases hx
    obtain ⟨t, a1, o, b1, b2, b3⟩ := body p e s m args below meth c s₁ B hml ht hP s₁ hh0 (Stand.of_body B)
    exact ⟨t, o, a1, b1, b2, b3⟩
/-- the table of a body with handlers -/
theorem vx_table {p : Program} {x y : MethodName} {S : Spec} {cc bytes : ByteArray} {maxL maxL' : Nat} {ret ret' : Option FieldType} {e : Env} {s s₁ : State} {m : MethodId} {args : Array Value} {below : List Frame} {meth : Method} {c : Code} {hh : List (Nat × Nat × Nat × Nat)}
    (B : BodyLoose p l y S cc maxL ret e s m args below meth c s₁) (h : (Cond.codeWith y bytes maxL' ret' hh).before args s = true) : c.exceptionTable.toList = tableOf hh := by
  obtain ⟨m9, meth9, c9, hn9, h1, h2, -, -, h6, -⟩ := Cond.codeWith_spec h
  cases Option.some.inj (hn9.symm.trans B.named)
  cases Option.some.inj (h1.symm.trans B.method)
  cases Option.some.inj (h2.symm.trans (Stand.of_body B).code)
  rw [← h6, table_eq]
end Bodies
end VXA
/-! ===== END ===== -/
/-! ===== BEGIN a static call of a method with an exception table ===== -/
section VXS
variable {p : Program} {l : Launch} {e : Env} {R : Room} {s : State} {m : MethodId} {args : Array Value} {below : List Frame} {meth : Method} {c : Code} {T : State} {H : Heap} {locs : List Loc} {cells slots : Nat}
abbrev vx_CSW (R : Room) (s : State) (args : Array Value) (own : String) (index : Nat) (y : MethodName) (bytes : ByteArray) (maxL : Nat) (ret : Option FieldType) (hh : List (Nat × Nat × Nat × Nat)) (ws : List Cond) (rm : Room) (mc ms n : Nat) : Prop :=
  (rm.cells = mc ∧ rm.slots = ms ∧ rm.frames + 1 ≤ R.frames ∧ 8 + (maxL + 11) + rm.locals ≤ R.locals ∧ (∀ w ∈ ws, ∀ (a' : Array Value) (U : State), s.WarmedH U.vm → w.before a' U = true) ∧ Cond.codeWith y bytes maxL ret hh ∈ ws) ∧
  (Cond.codeWith y bytes maxL ret hh).before args s = true ∧ (Cond.initialized y.cls).before args s = true ∧ (y.cls ≠ "java/lang/invoke/MethodHandle" ∧ y.cls ≠ "java/lang/invoke/VarHandle") ∧
  (∀ sig, parseMethodDescriptor y.desc = some sig → n = sig.parameters.length) ∧ (Cond.methodLink own index y).before args s = true ∧ (Cond.static y).before args s = true
theorem vx_cwSW {own : String} {index maxL mc ms : Nat} {y : MethodName} {bytes : ByteArray} {ret : Option FieldType} {hh : List (Nat × Nat × Nat × Nat)} {Ts ws ws' : List Cond} {rm : Room} (n : Nat) (ht : ∀ w ∈ Ts, w.before args s = true) (hT : GoodIn Ts (va_wsS own index y ws)) (hw : ws = Cond.codeWith y bytes maxL ret hh :: ws') (hrc : rm.cells = mc) (hrs : rm.slots = ms)
    (hd : y.cls ≠ "java/lang/invoke/MethodHandle" ∧ y.cls ≠ "java/lang/invoke/VarHandle" ∧ (parseMethodDescriptor y.desc).map (fun d => d.parameters.length) = some n) (hR : rm.frames + 1 ≤ R.frames ∧ 8 + (maxL + 11) + rm.locals ≤ R.locals) :
    vx_CSW R s args own index y bytes maxL ret hh ws rm mc ms n := by
  have ok : ∀ w ∈ va_wsS own index y ws, w.before args s = true := fun w h => ht w (hT w h).1
  have hG : GoodIn Ts ws := fun w h => hT w (by unfold va_wsS; exact List.mem_append_right _ h)
  have hc : Cond.codeWith y bytes maxL ret hh ∈ ws := by rw [hw]; exact List.mem_cons_self
  refine ⟨⟨hrc, hrs, hR.1, hR.2, pay_in ht hG, hc⟩, ht _ (hG _ hc).1, ok _ (by simp [va_wsS]), ⟨hd.1, hd.2.1⟩, fun sig h => ?_, ok _ (by simp [va_wsS]), ok _ (by simp [va_wsS])⟩
  have h2 := hd.2.2
  rw [h] at h2
  exact (Option.some.inj h2).symm
theorem vx_callSW (X : Stand p l e R s m args below meth c T locs cells slots) (hexec : p.tables.exec = Jvm.exec) {own : String} {index : Nat} {y : MethodName} {bytes : ByteArray} {maxL : Nat} {ret : Option FieldType} {hh : List (Nat × Nat × Nat × Nat)}
    (hown : s.vm.findClass own = some m.cls) (hlink : (Cond.methodLink own index y).before args s = true) (hstat : (Cond.static y).before args s = true) (hinit : (Cond.initialized y.cls).before args s = true)
    (hcode : (Cond.codeWith y bytes maxL ret hh).before args s = true) (hy : y.cls ≠ "java/lang/invoke/MethodHandle" ∧ y.cls ≠ "java/lang/invoke/VarHandle")
    {W9 : Nat} {Pre : Pt → Array Value → Prop} {Post : Pt → Array Value → Option Value → Pt → Prop} (hK : Back l R p e below s args y 3 W9 Pre Post)
    {g : JFrame} (hg : g.method = m) (hsize : g.locals.size = c.maxLocals) {argsL rest : List Value} (hlen : ∀ sig, parseMethodDescriptor y.desc = some sig → argsL.length = sig.parameters.length)
    (hstack : g.stack = argsL.reverse ++ rest) (hW : 2 * g.monitorRoom + (rest.map fun v => v.category).sum ≤ W9) (hdg : decode c.code g.pc = .ok (.invokestatic index, 3))
    (hpre : ∀ vm₁, s.WarmedH vm₁ → Pre ⟨T.setVm vm₁, locs, cells, slots⟩ argsL.toArray) :
    ∃ (v : Option Value) (vm₁ : Vm) (B : Pt), s.WarmedH vm₁ ∧ Stand p l e R s m args below meth c B.U B.locs B.cells B.slots ∧ Post ⟨T.setVm vm₁, locs, cells, slots⟩ argsL.toArray v B ∧
      ∀ target, Steps p.tables e below (B.U.setTop { g with pc := g.pc + 3, stack := v.toList ++ rest }) target → Steps p.tables e below (T.setTop g) target := by
  obtain ⟨mk, methM, cM, hnamed, hmethM, -, -, -, -, -, -, hsigM⟩ := Cond.codeWith_spec hcode
  have hstatic : methM.isStatic = true := Cond.static_spec hnamed hmethM hstat
  obtain ⟨kP, hkP, -⟩ := className_of_methodNamed hnamed
  have hinitP : kP.init = .initialized := Cond.initialized_spec (findClass_of_methodNamed hnamed) hkP hinit
  obtain ⟨vm₁, X₁, hstep₁⟩ := X.invokestatic hexec hown hlink hnamed hmethM hstatic hkP hinitP hy (g := g) hg (argsL := argsL) (rest := rest) (hlen _ hsigM) hstack hdg
  obtain ⟨v, B, X', hpost, hsteps⟩ := hK m meth c ⟨T.setVm vm₁, locs, cells, slots⟩ { g with stack := rest } (.invokestatic index) mk argsL.toArray X₁ hg hsize hdg hW (X₁.named hnamed) (hpre vm₁ X₁.warmed)
  exact ⟨v, vm₁, B, X₁.warmed, X', hpost, fun target h => hstep₁ _ fun acts => by rw [doInvoke_state]; exact hsteps.trans h⟩
theorem vx_runSW {y : MethodName} {bytes cc : ByteArray} {maxL nL mc ms n index : Nat} {ret : Option FieldType} {hh : List (Nat × Nat × Nat × Nat)} {ws : List Cond} {rm : Room} {Pc : Array Value → State → Prop} {Qc : Array Value → State → Outcome → State → Prop} {free : Addr → Prop} {Ts : List Cond} {own : String} {As rest : List Value} {g : JFrame}
    (S : CallFix p m c cc nL s args Ts own) (hM : Met l y ws rm Pc Qc mc ms free) (cw : vx_CSW R s args own index y bytes maxL ret hh ws rm mc ms n) (hp : PreS s H Pc As)
    (hg : g.method = m) (hn : As.length = n) (hsize : g.locals.size = nL) (hstack : g.stack = As.reverse ++ rest) (hW : 2 * g.monitorRoom + (rest.map fun v => v.category).sum ≤ 8) (hdg : decode cc g.pc = .ok (.invokestatic index, 3)) (hf : cells + mc ≤ R.cells ∧ slots + ms ≤ R.slots) :
    va_Run p l e R s m args below meth c H locs cells slots mc ms g rest (Qc As.toArray) (free) := by
  obtain ⟨⟨hrc, hrs, hfr, hlo, hws, hcw⟩, hcode, hini, hy, hlen, hl, hstt⟩ := cw
  have hK : Back l R p e below s args y 3 8 (PreOf R mc ms Pc) (PostOf Qc mc ms free) := va_backW (hh := hh) (bytes := bytes) (maxL := maxL) (ret := ret) hM hp.1 hrc hrs hfr hlo hws hcw (fun a' U hW => word_at hW (Or.inl (by first | rfl | simp [Cond.onTables, Cond.keeps, Cond.steady])) hini)
  obtain ⟨hx, hb, hml, ho, -⟩ := S
  intro T hT X
  obtain ⟨v, vm₁, ⟨U', l2, c2, s2⟩, hW₁, X', ⟨g', mk, t, L, e1, e2, hq, h1, hL, h2, h3⟩, st⟩ := vx_callSW X hx (hh := hh) (bytes := bytes) (maxL := maxL) (ret := ret) ho hl hstt hini hcode hy hK hg (hsize.trans hml.symm) (argsL := As) (rest := rest) (fun sig h => hn.trans (hlen sig h)) hstack hW (by rw [hb]; exact hdg)
    (fun vm₁ hW₁ => ⟨hf.1, hf.2, hp.2 (T.setVm vm₁) hT hW₁⟩)
  dsimp only [Pt.U, Pt.locs, Pt.cells, Pt.slots] at X' e1 e2 h1 h2 h3 st
  subst h1; subst h2; subst h3
  exact ⟨v, (T.setVm vm₁).calling g' mk As.toArray, t, U', L, hT, X', hL, e1, e2, hq, st⟩
/-- not caught here, past rows that name other classes: it goes on to the caller -/
theorem vx_outP {p : Program} {l : Launch} {e : Env} {R : Room} {s : State} {m : MethodId} {args : Array Value} {below : List Frame} {meth : Method} {c : Code} {H : Heap} {locs : List Loc} {cells slots : Nat} {free : Addr → Prop} {ls : Array Slot} {rest : List Value} {Qc : Array Value → State → Outcome → State → Prop} {XC : String → State → State → Prop}
    {pc : Nat} {own E : String} {ce : Cell} {q : Addr} {mc ms : Nat} (hown : s.vm.findClass own = some m.cls) (hlocks : meth.locks = false)
    (hpass : ∀ z ∈ c.exceptionTable.toList, covers z pc = false ∨ (z.catchType ≠ 0 ∧ ∃ nm : String, (Cond.classLink own z.catchType nm).before args s = true ∧ va_Nc E nm s)) (hcell : H[q]? = some ce) (hv : ce.vm = .none) (hcl : s.vm.findClass E = some ce.cls)
    (hx : ∀ t : State, t.heap = H → s.vm.Alike t.vm → XC E s t) (hf : ∀ z ∈ locs, free z.base) (hc : cells ≤ mc) (hs : slots ≤ ms) :
    vx_W p l e R s m args below meth c H locs cells slots (vx_MQ below Qc XC args s mc ms free) (F0 m pc ls rest) q := by
  intro T hT X
  have hpl : e.platform.magicAccessors = ({} : Platform).magicAccessors := by rw [X.admits.platform]
  obtain ⟨vm', hW', X', st⟩ := X.outThrough hlocks q (g := F0 m pc ls rest) rfl rfl rfl (cell := ce) (by rw [hT]; exact hcell) (by rw [hv]; rfl)
    (by obtain ⟨k9, h9, -⟩ := Vm.findClass_spec hcl; exact ⟨k9, h9⟩) (fun z hz => by
      rcases hpass z hz with h | ⟨hz0, nm, hl1, hn1⟩
      · exact Or.inl h
      · obtain ⟨c6, hc6, hcl6⟩ := Cond.classLink_spec hown hl1 e.platform hpl
        obtain ⟨a8, b8, h1, h2, h3⟩ := hn1
        cases Option.some.inj (h1.symm.trans hcl)
        cases Option.some.inj (h2.symm.trans hc6)
        exact Or.inr ⟨hz0, _, hcl6, h3⟩)
  obtain ⟨g₀, hfr⟩ := X'.frames_eq
  have hcell9 : ((T.setVm vm').setFrames (.throwing q :: below)).heap[q]? = some ce := by
    show T.heap[q]? = some ce
    rw [hT]; exact hcell
  have hend : Ended ((T.setVm vm').setFrames (.throwing q :: below)) below (.threw q) := State.frames_setFrames _ (State.cur_lt_of_frames hfr)
  refine ⟨(T.setVm vm').setFrames (.throwing q :: below), ?_, .threw q, X'.here.running, hend, Or.inr ⟨q, rfl, E, ce, locs, hx _ hT (X'.ends _).1.alike, hcell9, hv, hcl, (X'.ends _).1, (X'.ends _).2.mono hc hs, hf⟩⟩
  rw [X.pushThrowing_eq]
  exact st
/-- a thing of a world lies in the heap -/
theorem vx_lt {D : va_G} {cl : List vw_C} {ws : va_W} {H1 : Heap} (h : va_P D cl ws H1) {k : Nat} {q : Nat × va_E} (hk : ws[k]? = some q) : q.1 < H1.size := (h k q hk).lt
end VXS
/-! ===== END ===== -/
/-! ===== BEGIN methods with a table of their own: called by a name, returning or throwing ===== -/
section VXH
/-! vx_backW, vx_callVX, vx_callSX, vx_callVW, vx_runVW, vx_runVX, vx_runSX, vx_ofWH follow the same proofs as their sisters above (Free/Laws.lean, Shelf42/LK1.lean); vx_outP calls Shelf42/NT130.lean (outThrough). -/
section
variable {l : Launch} {R : Room} {p : Program} {e : Env} {below : List Frame} {s : State} {sargs : Array Value} {y : MethodName} {len W9 : Nat}
theorem vx_backW {ws : List Cond} {rm : Room} {Pc : Array Value → State → Prop} {Qc : Array Value → State → Outcome → State → Prop} {XC : String → State → State → Prop} {mc ms : Nat} {free : Addr → Prop} {bytes : ByteArray} {maxL : Nat} {ret : Option FieldType} {hh : List (Nat × Nat × Nat × Nat)}
    (hM : vx_Met l y ws rm Pc Qc XC mc ms free) (hblind : FrameBlind Pc) (hrc : rm.cells = mc) (hrs : rm.slots = ms)
    (hframes : rm.frames + 1 ≤ R.frames) (hlocals : W9 + (maxL + 11) + rm.locals ≤ R.locals)
    (hws : ∀ w ∈ ws, ∀ a' U, s.WarmedH U.vm → w.before a' U = true) (hcode : Cond.codeWith y bytes maxL ret hh ∈ ws) (hinit : ∀ a' U, s.WarmedH U.vm → (Cond.initialized y.cls).before a' U = true) :
    vx_Back l R p e below s sargs y len W9 (PreOf R mc ms Pc) (PostOf Qc mc ms free) (vx_Post XC mc ms free) := by
  intro m meth c A g ig mk a X hg hsize hdg hW hn hp
  have h1 : (headSpec ws rm).pre.before a A.U = true := atoms_intro fun w hw => hws w hw _ _ X.warmed
  have h2 : (Cond.codeWith y bytes maxL ret hh).before a A.U = true := hws _ hcode _ _ X.warmed
  have h3 : (Cond.initialized y.cls).before a A.U = true := hinit _ _ X.warmed
  have h4 : A.cells + (headSpec ws rm).room.cells ≤ R.cells := by rw [show (headSpec ws rm).room.cells = mc from hrc]; exact hp.1
  have h5 : A.slots + (headSpec ws rm).room.slots ≤ R.slots := by rw [show (headSpec ws rm).room.slots = ms from hrs]; exact hp.2.1
  have hPc : Pc a (A.U.calling g mk a) := hblind _ _ _ _ hp.2.2
  obtain ⟨U, Ls, c0, s0⟩ := A
  dsimp only [Pt.U, Pt.locs, Pt.cells, Pt.slots] at h1 h2 h3 h4 h5 X hn hPc ⊢
  obtain ⟨m9, methY, cY, hn9, hmY, hcY, -, hlY, -⟩ := Cond.codeWith_spec h2
  cases Option.some.inj (hn9.symm.trans hn)
  obtain ⟨kY, hkY, -⟩ := className_of_methodNamed hn
  have hinitY : kY.init = .initialized := Cond.initialized_spec (findClass_of_methodNamed hn) hkY h3
  have h : At U g.method c below := by rw [hg]; exact X.here
  have hlocals9 : W9 + (maxL + 11) + (headSpec ws rm).room.locals ≤ R.locals := hlocals
  have happ : (headSpec ws rm).appliesLoose y e.platform (U.calling g mk a) = true :=
    Spec.appliesLoose_calling (g := g) h hdg hn hkY hinitY
      (X.room_calling (g := g) (R' := (headSpec ws rm).room) hsize hmY hcY hframes (by rw [hlY]; omega) h4 h5) h1
  obtain ⟨mid, hmid⟩ := h.above
  have hfr : (U.setTop g).frames = (.java g :: mid) ++ below := by rw [State.frames_setTop' g h.top, hmid]; rfl
  obtain ⟨o, s₂, hsteps, -, hend, hq⟩ := Steps.callFree hM p X.admits X.cas X.clock (acts := []) hfr happ hPc trivial
  have hq' : vx_Q Qc XC mc ms free a (U.calling g mk a) o s₂ := hq
  rw [State.frames_setTop' g h.top] at hend
  obtain ⟨g₀, hg0⟩ := Option.isSome_iff_exists.mp h.top
  obtain ⟨r, hr⟩ := State.topJava?_eq_some.mp hg0
  have hr' : (({ U with heap := s₂.heap, slotsUsed := s₂.slotsUsed } : State).setVm s₂.vm).frames = .java g₀ :: r := hr
  rcases hq' with ⟨hqc, L, hfe, hL⟩ | ⟨q, rfl, E, ce, L, hx, hce, hcv, hcl, hW₂, hsm, hL⟩
  · obtain ⟨⟨v, rfl⟩, hW₂, e2, q2, q3, q4, q5, q6⟩ := id hfe
    have e3 : s₂ = ({ (U.calling g mk a).setFrames s₂.frames with heap := s₂.heap, slotsUsed := s₂.slotsUsed } : State).setVm s₂.vm := by
      have : s₂ = ({ s₂ with vm := (U.calling g mk a).vm } : State).setVm s₂.vm := rfl
      rw [e2] at this
      exact this
    obtain ⟨c₂, i₂, len₂, hc₂, hd₂, hf₂⟩ := hend
    have hW' : U.WarmedH s₂.vm := hW₂
    have hcc : c₂ = c := by
      have h1 : s₂.code? g.method = U.code? g.method := by
        rw [State.code?_eq, State.code?_eq, hW'.alike.method?]
      exact Option.some.inj (hc₂.symm.trans (h1.trans h.code))
    subst hcc
    have hlen : len₂ = len := by rw [hdg] at hd₂; cases hd₂; rfl
    subst hlen
    have hs₂ : s₂ = (({ U with heap := s₂.heap, slotsUsed := s₂.slotsUsed } : State).setVm s₂.vm).setTop { g with pc := g.pc + len₂, stack := v.toList ++ g.stack } := by
      refine e3.trans ?_
      rw [hf₂, State.calling_eq h.top, State.setFrames_setFrames, State.setTop_of_frames _ hr', hr]
      rfl
    have hsame : U.sameButNew ({ U with heap := s₂.heap, slotsUsed := s₂.slotsUsed } : State) L mc ms := by
      refine ⟨?_, q2, q3, q4, q5, q6⟩
      obtain ⟨t, ht, -⟩ := State.frames_cons hr
      show ({ U with heap := s₂.heap, slotsUsed := s₂.slotsUsed } : State) = { U.setFrames U.frames with heap := s₂.heap, slotsUsed := s₂.slotsUsed }
      rw [State.setFrames_self ht]
    subst hg
    refine Or.inl ⟨v, ⟨(({ U with heap := s₂.heap, slotsUsed := s₂.slotsUsed } : State).setVm s₂.vm), Ls ++ L, c0 + mc, s0 + ms⟩,
      ⟨X.admits, X.cas, X.clock, X.frames, X.room, X.hears, X.method, X.code, (X.here.setHeapUsed s₂.heap s₂.slotsUsed).setVm hW'.alike, X.tail, State.WarmedH.trans X.warmed hW', X.limits, X.bytes, X.same.trans (hsame.setVm s.vm)⟩,
      ⟨g, mk, s₂, L, rfl, rfl, hqc, rfl, hL, rfl, rfl⟩, ?_⟩
    show Steps p.tables e below _ ((({ U with heap := s₂.heap, slotsUsed := s₂.slotsUsed } : State).setVm s₂.vm).setTop { g with pc := g.pc + len₂, stack := v.toList ++ g.stack })
    rw [← hs₂]
    exact hsteps
  · obtain ⟨e2, q2, q3, q4, q5, q6⟩ := id hsm
    have e3 : s₂ = ({ (U.calling g mk a).setFrames s₂.frames with heap := s₂.heap, slotsUsed := s₂.slotsUsed } : State).setVm s₂.vm := by
      have : s₂ = ({ s₂ with vm := (U.calling g mk a).vm } : State).setVm s₂.vm := rfl
      rw [e2] at this
      exact this
    have hf₂ : s₂.frames = .throwing q :: .java g :: U.frames.tail := hend
    have hW' : U.WarmedH s₂.vm := hW₂
    have hs₂ : s₂ = ((({ U with heap := s₂.heap, slotsUsed := s₂.slotsUsed } : State).setVm s₂.vm).setTop g).pushFrame (.throwing q) := by
      refine e3.trans ?_
      rw [hf₂, State.calling_eq h.top, State.setFrames_setFrames, State.pushFrame, State.frames_setTop _ hr', State.setTop_of_frames _ hr', State.setFrames_setFrames, hr]
      rfl
    have hsame : U.sameButNew ({ U with heap := s₂.heap, slotsUsed := s₂.slotsUsed } : State) L mc ms := by
      refine ⟨?_, q2, q3, q4, q5, q6⟩
      obtain ⟨t, ht, -⟩ := State.frames_cons hr
      show ({ U with heap := s₂.heap, slotsUsed := s₂.slotsUsed } : State) = { U.setFrames U.frames with heap := s₂.heap, slotsUsed := s₂.slotsUsed }
      rw [State.setFrames_self ht]
    subst hg
    refine Or.inr ⟨q, ⟨(({ U with heap := s₂.heap, slotsUsed := s₂.slotsUsed } : State).setVm s₂.vm), Ls ++ L, c0 + mc, s0 + ms⟩,
      ⟨X.admits, X.cas, X.clock, X.frames, X.room, X.hears, X.method, X.code, (X.here.setHeapUsed s₂.heap s₂.slotsUsed).setVm hW'.alike, X.tail, State.WarmedH.trans X.warmed hW', X.limits, X.bytes, X.same.trans (hsame.setVm s.vm)⟩,
      ⟨g, mk, s₂, L, E, ce, rfl, rfl, hx, hce, hcv, hcl, rfl, hL, rfl, rfl⟩, ?_⟩
    show Steps p.tables e below _ (((({ U with heap := s₂.heap, slotsUsed := s₂.slotsUsed } : State).setVm s₂.vm).setTop g).pushFrame (.throwing q))
    rw [← hs₂]
    exact hsteps
end
variable {p : Program} {l : Launch} {e : Env} {R : Room} {s : State} {m : MethodId} {args : Array Value} {below : List Frame} {meth : Method} {c : Code} {T : State} {H : Heap} {locs : List Loc} {cells slots : Nat}
theorem vx_callVX (X : Stand p l e R s m args below meth c T locs cells slots) (hexec : p.tables.exec = Jvm.exec) {own C : String} {index : Nat} {y : MethodName} {bytes : ByteArray} {maxL : Nat} {ret : Option FieldType} {hh : List (Nat × Nat × Nat × Nat)}
    (hown : s.vm.findClass own = some m.cls) (hlink : (Cond.methodLink own index y).before args s = true) (hinst : (Cond.instanceMethod y).before args s = true) (hsel : (Cond.selects C y y).before args s = true)
    (hcode : (Cond.codeWith y bytes maxL ret hh).before args s = true) (hy : y.cls ≠ "java/lang/invoke/MethodHandle" ∧ y.cls ≠ "java/lang/invoke/VarHandle")
    {W9 : Nat} {Pre : Pt → Array Value → Prop} {Post : Pt → Array Value → Option Value → Pt → Prop} {PostX : Pt → Array Value → Addr → Pt → Prop} (hK : vx_Back l R p e below s args y 3 W9 Pre Post PostX)
    {b : Addr} {cellB : Cell} (hcell : T.heap[b]? = some cellB) (hobj : cellB.vm.isStatics = false) (hcls : s.vm.findClass C = some cellB.cls)
    {g : JFrame} (hg : g.method = m) (hsize : g.locals.size = c.maxLocals) {argsL rest : List Value} (hlen : ∀ sig, parseMethodDescriptor y.desc = some sig → argsL.length = sig.parameters.length)
    (hstack : g.stack = argsL.reverse ++ .ref b :: rest) (hW : 2 * g.monitorRoom + (rest.map fun v => v.category).sum ≤ W9) (hdg : decode c.code g.pc = .ok (.invokevirtual index, 3))
    (hpre : ∀ vm₁, s.WarmedH vm₁ → Pre ⟨T.setVm vm₁, locs, cells, slots⟩ (Value.ref b :: argsL).toArray) :
    (∃ (v : Option Value) (vm₁ : Vm) (B : Pt), s.WarmedH vm₁ ∧ Stand p l e R s m args below meth c B.U B.locs B.cells B.slots ∧ Post ⟨T.setVm vm₁, locs, cells, slots⟩ (Value.ref b :: argsL).toArray v B ∧
      ∀ target, Steps p.tables e below (B.U.setTop { g with pc := g.pc + 3, stack := v.toList ++ rest }) target → Steps p.tables e below (T.setTop g) target) ∨
    (∃ (q : Addr) (vm₁ : Vm) (B : Pt), s.WarmedH vm₁ ∧ Stand p l e R s m args below meth c B.U B.locs B.cells B.slots ∧ PostX ⟨T.setVm vm₁, locs, cells, slots⟩ (Value.ref b :: argsL).toArray q B ∧
      Steps p.tables e below (T.setTop g) ((B.U.setTop { g with stack := rest }).pushFrame (.throwing q))) := by
  obtain ⟨mk, methM, hnamed, hmethM, hstM, habM⟩ := Cond.instanceMethod_spec hinst
  obtain ⟨m8, methM', cM, hn8, hmethM', -, -, -, -, -, -, hsigM⟩ := Cond.codeWith_spec hcode
  cases Option.some.inj (hn8.symm.trans hnamed)
  cases hmethM.symm.trans hmethM'
  obtain ⟨c2, r2, m2, q1, q2, q3, q4, kP, hkP, hkPi⟩ := Cond.selects_spec hsel
  cases hcls.symm.trans q1
  cases (State.methodFound?_of_named hnamed hy).symm.trans q2
  cases hnamed.symm.trans q3
  have hselP : selectMethod e.platform s.vm cellB.cls mk = .method mk := by rw [Launch.admits_selectMethod X.admits]; exact q4
  obtain ⟨vm₁, X₁, hstep₁⟩ := X.invokevirtual hexec hown hlink hnamed hmethM hstM hkP hkPi hy (a := b) (cell := cellB) hcell
    (fun z h => by rw [h] at hobj; cases hobj) hselP hmethM habM hkP hkPi (g := g) hg (argsL := argsL) (rest := rest) (hlen _ hsigM) hstack hdg
  rcases hK m meth c ⟨T.setVm vm₁, locs, cells, slots⟩ { g with stack := rest } (.invokevirtual index) mk (Value.ref b :: argsL).toArray X₁ hg hsize hdg hW (X₁.named hnamed) (hpre vm₁ X₁.warmed) with ⟨v, B, X', hpost, hsteps⟩ | ⟨q, B, X', hpost, hsteps⟩
  · exact Or.inl ⟨v, vm₁, B, X₁.warmed, X', hpost, fun target h => hstep₁ _ fun acts => by rw [doInvoke_state]; exact hsteps.trans h⟩
  · exact Or.inr ⟨q, vm₁, B, X₁.warmed, X', hpost, hstep₁ _ fun acts => by rw [doInvoke_state]; exact hsteps⟩
theorem vx_callSX (X : Stand p l e R s m args below meth c T locs cells slots) (hexec : p.tables.exec = Jvm.exec) {own : String} {index : Nat} {y : MethodName} {bytes : ByteArray} {maxL : Nat} {ret : Option FieldType} {hh : List (Nat × Nat × Nat × Nat)}
    (hown : s.vm.findClass own = some m.cls) (hlink : (Cond.methodLink own index y).before args s = true) (hstat : (Cond.static y).before args s = true) (hinit : (Cond.initialized y.cls).before args s = true)
    (hcode : (Cond.codeWith y bytes maxL ret hh).before args s = true) (hy : y.cls ≠ "java/lang/invoke/MethodHandle" ∧ y.cls ≠ "java/lang/invoke/VarHandle")
    {W9 : Nat} {Pre : Pt → Array Value → Prop} {Post : Pt → Array Value → Option Value → Pt → Prop} {PostX : Pt → Array Value → Addr → Pt → Prop} (hK : vx_Back l R p e below s args y 3 W9 Pre Post PostX)
    {g : JFrame} (hg : g.method = m) (hsize : g.locals.size = c.maxLocals) {argsL rest : List Value} (hlen : ∀ sig, parseMethodDescriptor y.desc = some sig → argsL.length = sig.parameters.length)
    (hstack : g.stack = argsL.reverse ++ rest) (hW : 2 * g.monitorRoom + (rest.map fun v => v.category).sum ≤ W9) (hdg : decode c.code g.pc = .ok (.invokestatic index, 3))
    (hpre : ∀ vm₁, s.WarmedH vm₁ → Pre ⟨T.setVm vm₁, locs, cells, slots⟩ argsL.toArray) :
    (∃ (v : Option Value) (vm₁ : Vm) (B : Pt), s.WarmedH vm₁ ∧ Stand p l e R s m args below meth c B.U B.locs B.cells B.slots ∧ Post ⟨T.setVm vm₁, locs, cells, slots⟩ argsL.toArray v B ∧
      ∀ target, Steps p.tables e below (B.U.setTop { g with pc := g.pc + 3, stack := v.toList ++ rest }) target → Steps p.tables e below (T.setTop g) target) ∨
    (∃ (q : Addr) (vm₁ : Vm) (B : Pt), s.WarmedH vm₁ ∧ Stand p l e R s m args below meth c B.U B.locs B.cells B.slots ∧ PostX ⟨T.setVm vm₁, locs, cells, slots⟩ argsL.toArray q B ∧
      Steps p.tables e below (T.setTop g) ((B.U.setTop { g with stack := rest }).pushFrame (.throwing q))) := by
  obtain ⟨mk, methM, cM, hnamed, hmethM, -, -, -, -, -, -, hsigM⟩ := Cond.codeWith_spec hcode
  have hstatic : methM.isStatic = true := Cond.static_spec hnamed hmethM hstat
  obtain ⟨kP, hkP, -⟩ := className_of_methodNamed hnamed
  have hinitP : kP.init = .initialized := Cond.initialized_spec (findClass_of_methodNamed hnamed) hkP hinit
  obtain ⟨vm₁, X₁, hstep₁⟩ := X.invokestatic hexec hown hlink hnamed hmethM hstatic hkP hinitP hy (g := g) hg (argsL := argsL) (rest := rest) (hlen _ hsigM) hstack hdg
  rcases hK m meth c ⟨T.setVm vm₁, locs, cells, slots⟩ { g with stack := rest } (.invokestatic index) mk argsL.toArray X₁ hg hsize hdg hW (X₁.named hnamed) (hpre vm₁ X₁.warmed) with ⟨v, B, X', hpost, hsteps⟩ | ⟨q, B, X', hpost, hsteps⟩
  · exact Or.inl ⟨v, vm₁, B, X₁.warmed, X', hpost, fun target h => hstep₁ _ fun acts => by rw [doInvoke_state]; exact hsteps.trans h⟩
  · exact Or.inr ⟨q, vm₁, B, X₁.warmed, X', hpost, hstep₁ _ fun acts => by rw [doInvoke_state]; exact hsteps⟩
theorem vx_callVW (X : Stand p l e R s m args below meth c T locs cells slots) (hexec : p.tables.exec = Jvm.exec) {own C : String} {index : Nat} {y : MethodName} {bytes : ByteArray} {maxL : Nat} {ret : Option FieldType} {hh : List (Nat × Nat × Nat × Nat)}
    (hown : s.vm.findClass own = some m.cls) (hlink : (Cond.methodLink own index y).before args s = true) (hinst : (Cond.instanceMethod y).before args s = true) (hsel : (Cond.selects C y y).before args s = true)
    (hcode : (Cond.codeWith y bytes maxL ret hh).before args s = true) (hy : y.cls ≠ "java/lang/invoke/MethodHandle" ∧ y.cls ≠ "java/lang/invoke/VarHandle")
    {W9 : Nat} {Pre : Pt → Array Value → Prop} {Post : Pt → Array Value → Option Value → Pt → Prop} (hK : Back l R p e below s args y 3 W9 Pre Post)
    {b : Addr} {cellB : Cell} (hcell : T.heap[b]? = some cellB) (hobj : cellB.vm.isStatics = false) (hcls : s.vm.findClass C = some cellB.cls)
    {g : JFrame} (hg : g.method = m) (hsize : g.locals.size = c.maxLocals) {argsL rest : List Value} (hlen : ∀ sig, parseMethodDescriptor y.desc = some sig → argsL.length = sig.parameters.length)
    (hstack : g.stack = argsL.reverse ++ .ref b :: rest) (hW : 2 * g.monitorRoom + (rest.map fun v => v.category).sum ≤ W9) (hdg : decode c.code g.pc = .ok (.invokevirtual index, 3))
    (hpre : ∀ vm₁, s.WarmedH vm₁ → Pre ⟨T.setVm vm₁, locs, cells, slots⟩ (Value.ref b :: argsL).toArray) :
    ∃ (v : Option Value) (vm₁ : Vm) (B : Pt), s.WarmedH vm₁ ∧ Stand p l e R s m args below meth c B.U B.locs B.cells B.slots ∧ Post ⟨T.setVm vm₁, locs, cells, slots⟩ (Value.ref b :: argsL).toArray v B ∧
      ∀ target, Steps p.tables e below (B.U.setTop { g with pc := g.pc + 3, stack := v.toList ++ rest }) target → Steps p.tables e below (T.setTop g) target := by
  obtain ⟨mk, methM, hnamed, hmethM, hstM, habM⟩ := Cond.instanceMethod_spec hinst
  obtain ⟨m8, methM', cM, hn8, hmethM', -, -, -, -, -, -, hsigM⟩ := Cond.codeWith_spec hcode
  cases Option.some.inj (hn8.symm.trans hnamed)
  cases hmethM.symm.trans hmethM'
  obtain ⟨c2, r2, m2, q1, q2, q3, q4, kP, hkP, hkPi⟩ := Cond.selects_spec hsel
  cases hcls.symm.trans q1
  cases (State.methodFound?_of_named hnamed hy).symm.trans q2
  cases hnamed.symm.trans q3
  have hselP : selectMethod e.platform s.vm cellB.cls mk = .method mk := by rw [Launch.admits_selectMethod X.admits]; exact q4
  obtain ⟨vm₁, X₁, hstep₁⟩ := X.invokevirtual hexec hown hlink hnamed hmethM hstM hkP hkPi hy (a := b) (cell := cellB) hcell
    (fun z h => by rw [h] at hobj; cases hobj) hselP hmethM habM hkP hkPi (g := g) hg (argsL := argsL) (rest := rest) (hlen _ hsigM) hstack hdg
  obtain ⟨v, B, X', hpost, hsteps⟩ := hK m meth c ⟨T.setVm vm₁, locs, cells, slots⟩ { g with stack := rest } (.invokevirtual index) mk (Value.ref b :: argsL).toArray X₁ hg hsize hdg hW (X₁.named hnamed) (hpre vm₁ X₁.warmed)
  exact ⟨v, vm₁, B, X₁.warmed, X', hpost, fun target h => hstep₁ _ fun acts => by rw [doInvoke_state]; exact hsteps.trans h⟩
abbrev vx_CVW (R : Room) (s : State) (args : Array Value) (own C : String) (index : Nat) (y : MethodName) (bytes : ByteArray) (maxL : Nat) (ret : Option FieldType) (hh : List (Nat × Nat × Nat × Nat)) (ws : List Cond) (rm : Room) (mc ms n : Nat) : Prop :=
  (rm.cells = mc ∧ rm.slots = ms ∧ rm.frames + 1 ≤ R.frames ∧ 8 + (maxL + 11) + rm.locals ≤ R.locals ∧ (∀ w ∈ ws, ∀ (a' : Array Value) (U : State), s.WarmedH U.vm → w.before a' U = true) ∧ Cond.codeWith y bytes maxL ret hh ∈ ws) ∧
  (Cond.codeWith y bytes maxL ret hh).before args s = true ∧ (Cond.initialized y.cls).before args s = true ∧ (y.cls ≠ "java/lang/invoke/MethodHandle" ∧ y.cls ≠ "java/lang/invoke/VarHandle") ∧
  (∀ sig, parseMethodDescriptor y.desc = some sig → n = sig.parameters.length) ∧ (Cond.methodLink own index y).before args s = true ∧ (Cond.instanceMethod y).before args s = true ∧ (Cond.selects C y y).before args s = true
theorem vx_cwVW {own C : String} {index maxL mc ms : Nat} {y : MethodName} {bytes : ByteArray} {ret : Option FieldType} {hh : List (Nat × Nat × Nat × Nat)} {Ts ws ws' : List Cond} {rm : Room} (n : Nat) (ht : ∀ w ∈ Ts, w.before args s = true) (hT : GoodIn Ts (wsV own index C y ws)) (hw : ws = Cond.codeWith y bytes maxL ret hh :: ws') (hrc : rm.cells = mc) (hrs : rm.slots = ms)
    (hd : y.cls = C ∧ y.cls ≠ "java/lang/invoke/MethodHandle" ∧ y.cls ≠ "java/lang/invoke/VarHandle" ∧ (parseMethodDescriptor y.desc).map (fun d => d.parameters.length) = some n) (hR : rm.frames + 1 ≤ R.frames ∧ 8 + (maxL + 11) + rm.locals ≤ R.locals) :
    vx_CVW R s args own C index y bytes maxL ret hh ws rm mc ms n := by
  obtain ⟨hC, hd⟩ := hd
  subst hC
  have ok : ∀ w ∈ wsV own index y.cls y ws, w.before args s = true := fun w h => ht w (hT w h).1
  have hG : GoodIn Ts ws := fun w h => hT w (by unfold wsV; exact List.mem_append_right _ h)
  have hc : Cond.codeWith y bytes maxL ret hh ∈ ws := by rw [hw]; exact List.mem_cons_self
  refine ⟨⟨hrc, hrs, hR.1, hR.2, pay_in ht hG, hc⟩, ht _ (hG _ hc).1, ok _ (by simp [wsV]), ⟨hd.1, hd.2.1⟩, fun sig h => ?_, ok _ (by simp [wsV]), ok _ (by simp [wsV]), ok _ (by simp [wsV])⟩
  have h2 := hd.2.2
  rw [h] at h2
  exact (Option.some.inj h2).symm
theorem vx_runVW {y : MethodName} {bytes cc : ByteArray} {maxL nL mc ms n index : Nat} {ret : Option FieldType} {hh : List (Nat × Nat × Nat × Nat)} {ws : List Cond} {rm : Room} {Pc : Array Value → State → Prop} {Qc : Array Value → State → Outcome → State → Prop} {free : Addr → Prop} {Ts : List Cond} {own C : String} {b : Addr} {As rest : List Value} {g : JFrame}
    (S : CallFix p m c cc nL s args Ts own) (hM : Met l y ws rm Pc Qc mc ms free) (cw : vx_CVW R s args own C index y bytes maxL ret hh ws rm mc ms n) (hp : PreV s H C b Pc As)
    (hg : g.method = m) (hn : As.length = n) (hsize : g.locals.size = nL) (hstack : g.stack = As.reverse ++ .ref b :: rest) (hW : 2 * g.monitorRoom + (rest.map fun v => v.category).sum ≤ 8) (hdg : decode cc g.pc = .ok (.invokevirtual index, 3)) (hf : cells + mc ≤ R.cells ∧ slots + ms ≤ R.slots) :
    va_Run p l e R s m args below meth c H locs cells slots mc ms g rest (Qc (Value.ref b :: As).toArray) free := by
  obtain ⟨⟨hrc, hrs, hfr, hlo, hws, hcw⟩, hcode, hini, hy, hlen, hl, hin, hse⟩ := cw
  have hK : Back l R p e below s args y 3 8 (PreOf R mc ms Pc) (PostOf Qc mc ms free) := va_backW (hh := hh) (bytes := bytes) (maxL := maxL) (ret := ret) hM hp.1 hrc hrs hfr hlo hws hcw (fun a' U hW => word_at hW (Or.inl (by first | rfl | simp [Cond.onTables, Cond.keeps, Cond.steady])) hini)
  obtain ⟨hx, hb, hml, ho, -⟩ := S
  obtain ⟨-, ⟨cellB, hcB, hoB, hclB⟩, hPc⟩ := hp
  intro T hT X
  obtain ⟨v, vm₁, ⟨U', l2, c2, s2⟩, hW₁, X', ⟨g', mk, t, L, e1, e2, hq, h1, hL, h2, h3⟩, st⟩ := vx_callVW X hx (C := C) (hh := hh) (bytes := bytes) (maxL := maxL) (ret := ret) ho hl hin hse hcode hy hK (by rw [hT]; exact hcB) hoB hclB hg (hsize.trans hml.symm) (argsL := As) (rest := rest) (fun sig h => hn.trans (hlen sig h)) hstack hW (by rw [hb]; exact hdg)
    (fun vm₁ hW₁ => ⟨hf.1, hf.2, hPc (T.setVm vm₁) hT hW₁⟩)
  dsimp only [Pt.U, Pt.locs, Pt.cells, Pt.slots] at X' e1 e2 h1 h2 h3 st
  subst h1; subst h2; subst h3
  exact ⟨v, (T.setVm vm₁).calling g' mk (Value.ref b :: As).toArray, t, U', L, hT, X', hL, e1, e2, hq, st⟩
section
variable {y : MethodName} {bytes cc : ByteArray} {maxL nL mc ms n index : Nat} {ret : Option FieldType} {ws : List Cond} {rm : Room} {Pc : Array Value → State → Prop} {Qc : Array Value → State → Outcome → State → Prop} {XC : String → State → State → Prop} {free : Addr → Prop} {Ts : List Cond} {own C : String} {b : Addr} {As rest : List Value} {g : JFrame}
theorem vx_runVX {hh : List (Nat × Nat × Nat × Nat)} (S : CallFix p m c cc nL s args Ts own) (hM : vx_Met l y ws rm Pc Qc XC mc ms free) (cw : vx_CVW R s args own C index y bytes maxL ret hh ws rm mc ms n) (hp : PreV s H C b Pc As)
    (hg : g.method = m) (hn : As.length = n) (hsize : g.locals.size = nL) (hstack : g.stack = As.reverse ++ .ref b :: rest) (hW : 2 * g.monitorRoom + (rest.map fun v => v.category).sum ≤ 8) (hdg : decode cc g.pc = .ok (.invokevirtual index, 3)) (hf : cells + mc ≤ R.cells ∧ slots + ms ≤ R.slots) :
    vx_Run p l e R s m args below meth c H locs cells slots mc ms g rest (Qc (Value.ref b :: As).toArray) XC free := by
  obtain ⟨⟨hrc, hrs, hfr, hlo, hws, hcw⟩, hcode, hini, hy, hlen, hl, hin, hse⟩ := cw
  have hK : vx_Back l R p e below s args y 3 8 (PreOf R mc ms Pc) (PostOf Qc mc ms free) (vx_Post XC mc ms free) := vx_backW (hh := hh) (bytes := bytes) (maxL := maxL) (ret := ret) hM hp.1 hrc hrs hfr hlo hws hcw (fun a' U hW => word_at hW (Or.inl (by first | rfl | simp [Cond.onTables, Cond.keeps, Cond.steady])) hini)
  obtain ⟨hx, hb, hml, ho, -⟩ := S
  obtain ⟨-, ⟨cellB, hcB, hoB, hclB⟩, hPc⟩ := hp
  intro T hT X
  rcases vx_callVX X hx (C := C) (hh := hh) (bytes := bytes) (maxL := maxL) (ret := ret) ho hl hin hse hcode hy hK (by rw [hT]; exact hcB) hoB hclB hg (hsize.trans hml.symm) (argsL := As) (rest := rest) (fun sig h => hn.trans (hlen sig h)) hstack hW (by rw [hb]; exact hdg)
    (fun vm₁ hW₁ => ⟨hf.1, hf.2, hPc (T.setVm vm₁) hT hW₁⟩) with ⟨v, vm₁, ⟨U', l2, c2, s2⟩, hW₁, X', ⟨g', mk, t, L, e1, e2, hq, h1, hL, h2, h3⟩, st⟩ | ⟨q, vm₁, ⟨U', l2, c2, s2⟩, hW₁, X', ⟨g', mk, t, L, E, ce, e1, e2, hq, hce, hcv, hcl, h1, hL, h2, h3⟩, st⟩
  · dsimp only [Pt.U, Pt.locs, Pt.cells, Pt.slots] at X' e1 e2 h1 h2 h3 st
    subst h1; subst h2; subst h3
    exact Or.inl ⟨v, (T.setVm vm₁).calling g' mk (Value.ref b :: As).toArray, t, U', L, hT, X', hL, e1, e2, hq, st⟩
  · dsimp only [Pt.U, Pt.locs, Pt.cells, Pt.slots] at X' e1 e2 h1 h2 h3 st hcl
    subst h1; subst h2; subst h3
    exact Or.inr ⟨q, (T.setVm vm₁).calling g' mk (Value.ref b :: As).toArray, t, U', L, E, ce, hT, X', hL, e1, e2, hq, hce, hcv, vx_cls hW₁ hcl, st⟩
theorem vx_runSX {hh : List (Nat × Nat × Nat × Nat)} (S : CallFix p m c cc nL s args Ts own) (hM : vx_Met l y ws rm Pc Qc XC mc ms free) (cw : vx_CSW R s args own index y bytes maxL ret hh ws rm mc ms n) (hp : PreS s H Pc As)
    (hg : g.method = m) (hn : As.length = n) (hsize : g.locals.size = nL) (hstack : g.stack = As.reverse ++ rest) (hW : 2 * g.monitorRoom + (rest.map fun v => v.category).sum ≤ 8) (hdg : decode cc g.pc = .ok (.invokestatic index, 3)) (hf : cells + mc ≤ R.cells ∧ slots + ms ≤ R.slots) :
    vx_Run p l e R s m args below meth c H locs cells slots mc ms g rest (Qc As.toArray) XC free := by
  obtain ⟨⟨hrc, hrs, hfr, hlo, hws, hcw⟩, hcode, hini, hy, hlen, hl, hstt⟩ := cw
  have hK : vx_Back l R p e below s args y 3 8 (PreOf R mc ms Pc) (PostOf Qc mc ms free) (vx_Post XC mc ms free) := vx_backW (hh := hh) (bytes := bytes) (maxL := maxL) (ret := ret) hM hp.1 hrc hrs hfr hlo hws hcw (fun a' U hW => word_at hW (Or.inl (by first | rfl | simp [Cond.onTables, Cond.keeps, Cond.steady])) hini)
  obtain ⟨hx, hb, hml, ho, -⟩ := S
  intro T hT X
  rcases vx_callSX X hx (hh := hh) (bytes := bytes) (maxL := maxL) (ret := ret) ho hl hstt hini hcode hy hK hg (hsize.trans hml.symm) (argsL := As) (rest := rest) (fun sig h => hn.trans (hlen sig h)) hstack hW (by rw [hb]; exact hdg)
    (fun vm₁ hW₁ => ⟨hf.1, hf.2, hp.2 (T.setVm vm₁) hT hW₁⟩) with ⟨v, vm₁, ⟨U', l2, c2, s2⟩, hW₁, X', ⟨g', mk, t, L, e1, e2, hq, h1, hL, h2, h3⟩, st⟩ | ⟨q, vm₁, ⟨U', l2, c2, s2⟩, hW₁, X', ⟨g', mk, t, L, E, ce, e1, e2, hq, hce, hcv, hcl, h1, hL, h2, h3⟩, st⟩
  · dsimp only [Pt.U, Pt.locs, Pt.cells, Pt.slots] at X' e1 e2 h1 h2 h3 st
    subst h1; subst h2; subst h3
    exact Or.inl ⟨v, (T.setVm vm₁).calling g' mk As.toArray, t, U', L, hT, X', hL, e1, e2, hq, st⟩
  · dsimp only [Pt.U, Pt.locs, Pt.cells, Pt.slots] at X' e1 e2 h1 h2 h3 st hcl
    subst h1; subst h2; subst h3
    exact Or.inr ⟨q, (T.setVm vm₁).calling g' mk As.toArray, t, U', L, E, ce, hT, X', hL, e1, e2, hq, hce, hcv, vx_cls hW₁ hcl, st⟩
end
end VXH
theorem vx_ofWH {l : Launch} {y : MethodName} {ws ws' : List Cond} {rm : Room} {Pc : Array Value → State → Prop} {Qc : Array Value → State → Outcome → State → Prop} {XC : String → State → State → Prop} {mc ms : Nat} {free : Addr → Prop} {cc : ByteArray} {maxL : Nat} {ret : Option FieldType} {hh : List (Nat × Nat × Nat × Nat)}
    (hy : plainName y.cls = true) (hw : ws = Cond.codeWith y cc maxL ret hh :: ws')
    (body : ∀ p e s m args below meth c s₁, BodyLoose p l y (headSpec ws rm) cc maxL ret e s m args below meth c s₁ → c.maxLocals = maxL → Pc args s →
      W p l e (headSpec ws rm).room s m args below meth c s.heap [] 0 0 (vx_MQ below Qc XC args s mc ms free) (entryFrame m args maxL)) : vx_Met l y ws rm Pc Qc XC mc ms free := by
  refine MetFree.of_bodyS (code := cc) (maxLocals := maxL) (ret := ret) hy ?_ ?_
  · intro args s m h hn
    obtain ⟨m9, meth, c, hn9, h1, h2, h3, h4, -, h5, h6, -⟩ := Cond.codeWith_spec (atoms_spec (ws := ws) h _ (by rw [hw]; exact List.mem_cons_self))
    cases hn.symm.trans hn9
    exact ⟨meth, c, h1, h2, h3, h4, h5, h6⟩
  · intro p e s m args below meth c s₁ B hml hP _
    have hh0 : s₁.heap = s.heap := by rw [B.state]; rfl
    obtain ⟨t, a1, o, b1, b2, b3⟩ := body p e s m args below meth c s₁ B hml hP s₁ hh0 (Stand.of_body B)
    exact ⟨t, o, a1, b1, b2, b3⟩
/-! ===== END ===== -/

def RX0 : String := "CashLedger$Assets"
def TX0 : u_T := fun k => match k with
  | 0 => ("CashLedger$Assets", "size", "I", false)
  | 1 => ("CashLedger$Assets", "price", "[I", true)
  | 2 => ("CashLedger$Assets", "day", "[I", true)
  | 3 => ("CashLedger$Assets", "life", "[I", true)
  | 4 => ("CashLedger$Assets", "sort", "[I", true)
  | 5 => ("CashLedger$Assets", "soldDay", "[I", true)
  | _ => ("CashLedger$Assets", "soldPrice", "[I", true)
def tyX0 : Nat → FieldType := fun k => match k with
  | 0 => .int
  | 1 => .array .int
  | 2 => .array .int
  | 3 => .array .int
  | 4 => .array .int
  | 5 => .array .int
  | _ => .array .int
abbrev wsX00 : List Cond := u_ws RX0 TX0 7
theorem nmX0 : ∀ a, a < 7 → ∀ b, b < 7 → a ≠ b → (TX0 a).2.1 ≠ (TX0 b).2.1 := by decide +kernel
theorem tyX0_ok : ∀ k, k < 7 → parseFieldDescriptor (TX0 k).2.2.1 = some (tyX0 k) := by decide +kernel
abbrev cX0_init : ByteArray := prog_2_method_1_code
def yX0_init : MethodName := ⟨RX0, "<init>", "()V"⟩
abbrev cX0_add : ByteArray := prog_2_method_2_code
def yX0_add : MethodName := ⟨RX0, "add", "(IIII)I"⟩
abbrev cX0_copyFrom : ByteArray := prog_2_method_3_code
def yX0_copyFrom : MethodName := ⟨RX0, "copyFrom", "(LCashLedger$Assets;)V"⟩
abbrev cX0_soldOnes : ByteArray := prog_2_method_4_code
def yX0_soldOnes : MethodName := ⟨RX0, "soldOnes", "()I"⟩
abbrev cX0_isSoldBy : ByteArray := prog_2_method_5_code
def yX0_isSoldBy : MethodName := ⟨RX0, "isSoldBy", "(II)Z"⟩
abbrev cX0_writtenUpTo : ByteArray := prog_2_method_6_code
def yX0_writtenUpTo : MethodName := ⟨RX0, "writtenUpTo", "(II)I"⟩
abbrev cX0_writtenIn : ByteArray := prog_2_method_7_code
def yX0_writtenIn : MethodName := ⟨RX0, "writtenIn", "(II)I"⟩
abbrev cX0_valueAt : ByteArray := prog_2_method_8_code
def yX0_valueAt : MethodName := ⟨RX0, "valueAt", "(II)I"⟩
abbrev cX0_allWrittenUpTo : ByteArray := prog_2_method_9_code
def yX0_allWrittenUpTo : MethodName := ⟨RX0, "allWrittenUpTo", "(I)J"⟩
abbrev cX0_poolAt : ByteArray := prog_2_method_10_code
def yX0_poolAt : MethodName := ⟨RX0, "poolAt", "(I)I"⟩
abbrev cX0_poolWrittenUpTo : ByteArray := prog_2_method_11_code
def yX0_poolWrittenUpTo : MethodName := ⟨RX0, "poolWrittenUpTo", "(I)I"⟩
abbrev cX0_poolWrittenIn : ByteArray := prog_2_method_12_code
def yX0_poolWrittenIn : MethodName := ⟨RX0, "poolWrittenIn", "(I)I"⟩
abbrev cX0_soldFor : ByteArray := prog_2_method_13_code
def yX0_soldFor : MethodName := ⟨RX0, "soldFor", "(II)J"⟩
def RX1 : String := "CashLedger$Entries"
def TX1 : u_T := fun k => match k with
  | 0 => ("CashLedger$Entries", "size", "I", false)
  | 1 => ("CashLedger$Entries", "kind", "[I", true)
  | 2 => ("CashLedger$Entries", "category", "[I", true)
  | 3 => ("CashLedger$Entries", "amount", "[I", true)
  | 4 => ("CashLedger$Entries", "invoiced", "[I", true)
  | 5 => ("CashLedger$Entries", "paid", "[I", true)
  | 6 => ("CashLedger$Entries", "cancelled", "[Z", true)
  | _ => ("CashLedger$Entries", "late", "[Z", true)
def tyX1 : Nat → FieldType := fun k => match k with
  | 0 => .int
  | 1 => .array .int
  | 2 => .array .int
  | 3 => .array .int
  | 4 => .array .int
  | 5 => .array .int
  | 6 => .array .boolean
  | _ => .array .boolean
abbrev wsX10 : List Cond := u_ws RX1 TX1 8
theorem nmX1 : ∀ a, a < 8 → ∀ b, b < 8 → a ≠ b → (TX1 a).2.1 ≠ (TX1 b).2.1 := by decide +kernel
theorem tyX1_ok : ∀ k, k < 8 → parseFieldDescriptor (TX1 k).2.2.1 = some (tyX1 k) := by decide +kernel
abbrev cX1_init : ByteArray := prog_3_method_1_code
def yX1_init : MethodName := ⟨RX1, "<init>", "()V"⟩
abbrev cX1_add : ByteArray := prog_3_method_2_code
def yX1_add : MethodName := ⟨RX1, "add", "(IIIIIZ)I"⟩
abbrev cX1_copyFrom : ByteArray := prog_3_method_3_code
def yX1_copyFrom : MethodName := ⟨RX1, "copyFrom", "(LCashLedger$Entries;)V"⟩
abbrev cX1_isOpen : ByteArray := prog_3_method_4_code
def yX1_isOpen : MethodName := ⟨RX1, "isOpen", "(I)Z"⟩
abbrev cX1_counts : ByteArray := prog_3_method_5_code
def yX1_counts : MethodName := ⟨RX1, "counts", "(I)Z"⟩
abbrev cX1_countsWithin : ByteArray := prog_3_method_6_code
def yX1_countsWithin : MethodName := ⟨RX1, "countsWithin", "(III)Z"⟩
abbrev cX1_openOnes : ByteArray := prog_3_method_7_code
def yX1_openOnes : MethodName := ⟨RX1, "openOnes", "()I"⟩
abbrev cX1_cancelledOnes : ByteArray := prog_3_method_8_code
def yX1_cancelledOnes : MethodName := ⟨RX1, "cancelledOnes", "()I"⟩
abbrev cX1_lateOnes : ByteArray := prog_3_method_9_code
def yX1_lateOnes : MethodName := ⟨RX1, "lateOnes", "()I"⟩
abbrev cX1_sumPaid : ByteArray := prog_3_method_10_code
def yX1_sumPaid : MethodName := ⟨RX1, "sumPaid", "(III)J"⟩
abbrev cX1_incomesOf : ByteArray := prog_3_method_11_code
def yX1_incomesOf : MethodName := ⟨RX1, "incomesOf", "(I)J"⟩
abbrev cX1_sumOpen : ByteArray := prog_3_method_12_code
def yX1_sumOpen : MethodName := ⟨RX1, "sumOpen", "(I)J"⟩
abbrev cX1_firstInvoicedOpen : ByteArray := prog_3_method_13_code
def yX1_firstInvoicedOpen : MethodName := ⟨RX1, "firstInvoicedOpen", "()I"⟩
def RX2 : String := "CashLedger$History"
def TX2 : u_T := fun k => match k with
  | 0 => ("CashLedger$History", "ring", "[LCashLedger$State;", true)
  | 1 => ("CashLedger$History", "next", "I", false)
  | _ => ("CashLedger$History", "size", "I", false)
def tyX2 : Nat → FieldType := fun k => match k with
  | 0 => .array (.object "CashLedger$State")
  | 1 => .int
  | _ => .int
abbrev wsX20 : List Cond := u_ws RX2 TX2 3
theorem nmX2 : ∀ a, a < 3 → ∀ b, b < 3 → a ≠ b → (TX2 a).2.1 ≠ (TX2 b).2.1 := by decide +kernel
theorem tyX2_ok : ∀ k, k < 3 → parseFieldDescriptor (TX2 k).2.2.1 = some (tyX2 k) := by decide +kernel
abbrev cX2_init : ByteArray := prog_4_method_1_code
def yX2_init : MethodName := ⟨RX2, "<init>", "()V"⟩
abbrev cX2_clear : ByteArray := prog_4_method_2_code
def yX2_clear : MethodName := ⟨RX2, "clear", "()V"⟩
abbrev cX2_remember : ByteArray := prog_4_method_3_code
def yX2_remember : MethodName := ⟨RX2, "remember", "(LCashLedger$State;)V"⟩
abbrev cX2_takeBack : ByteArray := prog_4_method_4_code
def yX2_takeBack : MethodName := ⟨RX2, "takeBack", "(LCashLedger$State;)V"⟩
def RX3 : String := "CashLedger$Rooms"
def TX3 : u_T := fun k => match k with
  | 0 => ("CashLedger$Rooms", "size", "I", false)
  | 1 => ("CashLedger$Rooms", "area", "[I", true)
  | 2 => ("CashLedger$Rooms", "from", "[I", true)
  | _ => ("CashLedger$Rooms", "to", "[I", true)
def tyX3 : Nat → FieldType := fun k => match k with
  | 0 => .int
  | 1 => .array .int
  | 2 => .array .int
  | _ => .array .int
abbrev wsX30 : List Cond := u_ws RX3 TX3 4
theorem nmX3 : ∀ a, a < 4 → ∀ b, b < 4 → a ≠ b → (TX3 a).2.1 ≠ (TX3 b).2.1 := by decide +kernel
theorem tyX3_ok : ∀ k, k < 4 → parseFieldDescriptor (TX3 k).2.2.1 = some (tyX3 k) := by decide +kernel
abbrev cX3_init : ByteArray := prog_5_method_1_code
def yX3_init : MethodName := ⟨RX3, "<init>", "()V"⟩
abbrev cX3_add : ByteArray := prog_5_method_2_code
def yX3_add : MethodName := ⟨RX3, "add", "(III)I"⟩
abbrev cX3_copyFrom : ByteArray := prog_5_method_3_code
def yX3_copyFrom : MethodName := ⟨RX3, "copyFrom", "(LCashLedger$Rooms;)V"⟩
abbrev cX3_daysUsed : ByteArray := prog_5_method_4_code
def yX3_daysUsed : MethodName := ⟨RX3, "daysUsed", "(III)I"⟩
abbrev cX3_usedIn : ByteArray := prog_5_method_5_code
def yX3_usedIn : MethodName := ⟨RX3, "usedIn", "(I)I"⟩
abbrev cX3_wholeMonth : ByteArray := prog_5_method_6_code
def yX3_wholeMonth : MethodName := ⟨RX3, "wholeMonth", "()I"⟩
def RX4 : String := "CashLedger$Setup"
def TX4 : u_T := fun k => match k with
  | 0 => ("CashLedger$Setup", "start", "I", false)
  | 1 => ("CashLedger$Setup", "smallLimit", "I", false)
  | 2 => ("CashLedger$Setup", "poolLimit", "I", false)
  | 3 => ("CashLedger$Setup", "interestRate", "I", false)
  | 4 => ("CashLedger$Setup", "topRate", "I", false)
  | 5 => ("CashLedger$Setup", "bracketCount", "I", false)
  | 6 => ("CashLedger$Setup", "limits", "[I", true)
  | 7 => ("CashLedger$Setup", "rates", "[I", true)
  | _ => ("CashLedger$Setup", "rooms", "LCashLedger$Rooms;", true)
def tyX4 : Nat → FieldType := fun k => match k with
  | 0 => .int
  | 1 => .int
  | 2 => .int
  | 3 => .int
  | 4 => .int
  | 5 => .int
  | 6 => .array .int
  | 7 => .array .int
  | _ => .object "CashLedger$Rooms"
abbrev wsX40 : List Cond := u_ws RX4 TX4 9
theorem nmX4 : ∀ a, a < 9 → ∀ b, b < 9 → a ≠ b → (TX4 a).2.1 ≠ (TX4 b).2.1 := by decide +kernel
theorem tyX4_ok : ∀ k, k < 9 → parseFieldDescriptor (TX4 k).2.2.1 = some (tyX4 k) := by decide +kernel
abbrev cX4_init : ByteArray := prog_6_method_1_code
def yX4_init : MethodName := ⟨RX4, "<init>", "()V"⟩
abbrev cX4_useDefaults : ByteArray := prog_6_method_2_code
def yX4_useDefaults : MethodName := ⟨RX4, "useDefaults", "()V"⟩
abbrev cX4_addBracket : ByteArray := prog_6_method_3_code
def yX4_addBracket : MethodName := ⟨RX4, "addBracket", "(II)V"⟩
abbrev cX4_lastLimit : ByteArray := prog_6_method_4_code
def yX4_lastLimit : MethodName := ⟨RX4, "lastLimit", "()I"⟩
abbrev cX4_sortOf : ByteArray := prog_6_method_5_code
def yX4_sortOf : MethodName := ⟨RX4, "sortOf", "(I)I"⟩
abbrev cX4_taxOf : ByteArray := prog_6_method_6_code
def yX4_taxOf : MethodName := ⟨RX4, "taxOf", "(J)J"⟩
abbrev cX4_rateOf : ByteArray := prog_6_method_7_code
def yX4_rateOf : MethodName := ⟨RX4, "rateOf", "(I)I"⟩
def RX5 : String := "CashLedger$SetupReader"
def TX5 : u_T := fun k => match k with
  | 0 => ("CashLedger$SetupReader", "text", "[I", true)
  | 1 => ("CashLedger$SetupReader", "length", "I", false)
  | 2 => ("CashLedger$SetupReader", "position", "I", false)
  | 3 => ("CashLedger$SetupReader", "tokenKind", "I", false)
  | 4 => ("CashLedger$SetupReader", "tokenStart", "I", false)
  | 5 => ("CashLedger$SetupReader", "number", "I", false)
  | 6 => ("CashLedger$SetupReader", "target", "LCashLedger$Setup;", false)
  | 7 => ("CashLedger$SetupReader", "startSeen", "Z", false)
  | 8 => ("CashLedger$SetupReader", "assetsSeen", "Z", false)
  | 9 => ("CashLedger$SetupReader", "interestSeen", "Z", false)
  | _ => ("CashLedger$SetupReader", "topSeen", "Z", false)
def tyX5 : Nat → FieldType := fun k => match k with
  | 0 => .array .int
  | 1 => .int
  | 2 => .int
  | 3 => .int
  | 4 => .int
  | 5 => .int
  | 6 => .object "CashLedger$Setup"
  | 7 => .boolean
  | 8 => .boolean
  | 9 => .boolean
  | _ => .boolean
abbrev wsX50 : List Cond := u_ws RX5 TX5 11
theorem nmX5 : ∀ a, a < 11 → ∀ b, b < 11 → a ≠ b → (TX5 a).2.1 ≠ (TX5 b).2.1 := by decide +kernel
theorem tyX5_ok : ∀ k, k < 11 → parseFieldDescriptor (TX5 k).2.2.1 = some (tyX5 k) := by decide +kernel
abbrev cX5_init : ByteArray := prog_7_method_1_code
def yX5_init : MethodName := ⟨RX5, "<init>", "()V"⟩
abbrev cX5_read : ByteArray := prog_7_method_2_code
def yX5_read : MethodName := ⟨RX5, "read", "([II)I"⟩
abbrev cX5_handOver : ByteArray := prog_7_method_3_code
def yX5_handOver : MethodName := ⟨RX5, "handOver", "(LCashLedger$Setup;)LCashLedger$Setup;"⟩
abbrev cX5_begin : ByteArray := prog_7_method_4_code
def yX5_begin : MethodName := ⟨RX5, "begin", "([II)V"⟩
abbrev cX5_readStatement : ByteArray := prog_7_method_5_code
def yX5_readStatement : MethodName := ⟨RX5, "readStatement", "()Z"⟩
abbrev cX5_readStart : ByteArray := prog_7_method_6_code
def yX5_readStart : MethodName := ⟨RX5, "readStart", "()Z"⟩
abbrev cX5_readAssets : ByteArray := prog_7_method_7_code
def yX5_readAssets : MethodName := ⟨RX5, "readAssets", "()Z"⟩
abbrev cX5_readInterest : ByteArray := prog_7_method_8_code
def yX5_readInterest : MethodName := ⟨RX5, "readInterest", "()Z"⟩
abbrev cX5_readTop : ByteArray := prog_7_method_9_code
def yX5_readTop : MethodName := ⟨RX5, "readTop", "()Z"⟩
abbrev cX5_readBracket : ByteArray := prog_7_method_10_code
def yX5_readBracket : MethodName := ⟨RX5, "readBracket", "()Z"⟩
abbrev cX5_readRoom : ByteArray := prog_7_method_11_code
def yX5_readRoom : MethodName := ⟨RX5, "readRoom", "()Z"⟩
abbrev cX5_takeNumber : ByteArray := prog_7_method_12_code
def yX5_takeNumber : MethodName := ⟨RX5, "takeNumber", "(II)I"⟩
abbrev cX5_isWord : ByteArray := prog_7_method_13_code
def yX5_isWord : MethodName := ⟨RX5, "isWord", "(Ljava/lang/String;)Z"⟩
abbrev cX5_nextToken : ByteArray := prog_7_method_14_code
def yX5_nextToken : MethodName := ⟨RX5, "nextToken", "()V"⟩
abbrev cX5_endOfRun : ByteArray := prog_7_method_15_code
def yX5_endOfRun : MethodName := ⟨RX5, "endOfRun", "(II)I"⟩
abbrev cX5_valueOfDigits : ByteArray := prog_7_method_16_code
def yX5_valueOfDigits : MethodName := ⟨RX5, "valueOfDigits", "()I"⟩
def RX6 : String := "CashLedger$State"
def TX6 : u_T := fun k => match k with
  | 0 => ("CashLedger$State", "entries", "LCashLedger$Entries;", true)
  | 1 => ("CashLedger$State", "rooms", "LCashLedger$Rooms;", true)
  | 2 => ("CashLedger$State", "assets", "LCashLedger$Assets;", true)
  | 3 => ("CashLedger$State", "prepaid", "[I", true)
  | 4 => ("CashLedger$State", "closed", "I", false)
  | _ => ("CashLedger$State", "start", "I", false)
def tyX6 : Nat → FieldType := fun k => match k with
  | 0 => .object "CashLedger$Entries"
  | 1 => .object "CashLedger$Rooms"
  | 2 => .object "CashLedger$Assets"
  | 3 => .array .int
  | 4 => .int
  | _ => .int
abbrev wsX60 : List Cond := u_ws RX6 TX6 6
theorem nmX6 : ∀ a, a < 6 → ∀ b, b < 6 → a ≠ b → (TX6 a).2.1 ≠ (TX6 b).2.1 := by decide +kernel
theorem tyX6_ok : ∀ k, k < 6 → parseFieldDescriptor (TX6 k).2.2.1 = some (tyX6 k) := by decide +kernel
abbrev cX6_init : ByteArray := prog_8_method_1_code
def yX6_init : MethodName := ⟨RX6, "<init>", "()V"⟩
abbrev cX6_begin : ByteArray := prog_8_method_2_code
def yX6_begin : MethodName := ⟨RX6, "begin", "(LCashLedger$Setup;)V"⟩
abbrev cX6_copyFrom : ByteArray := prog_8_method_3_code
def yX6_copyFrom : MethodName := ⟨RX6, "copyFrom", "(LCashLedger$State;)V"⟩
abbrev cX6_deductibleOf : ByteArray := prog_8_method_4_code
def yX6_deductibleOf : MethodName := ⟨RX6, "deductibleOf", "(III)J"⟩
abbrev cX6_deductiblePart : ByteArray := prog_8_method_5_code
def yX6_deductiblePart : MethodName := ⟨RX6, "deductiblePart", "(I)I"⟩
abbrev cX6_deductiblePartsOf : ByteArray := prog_8_method_6_code
def yX6_deductiblePartsOf : MethodName := ⟨RX6, "deductiblePartsOf", "(I)J"⟩
abbrev cX6_deductibleUpTo : ByteArray := prog_8_method_7_code
def yX6_deductibleUpTo : MethodName := ⟨RX6, "deductibleUpTo", "(I)J"⟩
abbrev cX6_received : ByteArray := prog_8_method_8_code
def yX6_received : MethodName := ⟨RX6, "received", "(II)J"⟩
abbrev cX6_receivedIn : ByteArray := prog_8_method_9_code
def yX6_receivedIn : MethodName := ⟨RX6, "receivedIn", "(I)J"⟩
abbrev cX6_profitUpTo : ByteArray := prog_8_method_10_code
def yX6_profitUpTo : MethodName := ⟨RX6, "profitUpTo", "(I)J"⟩
abbrev cX6_prepaidSoFar : ByteArray := prog_8_method_11_code
def yX6_prepaidSoFar : MethodName := ⟨RX6, "prepaidSoFar", "()J"⟩
abbrev cX6_fillBalances : ByteArray := prog_8_method_12_code
def yX6_fillBalances : MethodName := ⟨RX6, "fillBalances", "([J)V"⟩
abbrev cX6_move : ByteArray := prog_8_method_13_code
def yX6_move : MethodName := ⟨RX6, "move", "([JII)V"⟩
def RX7 : String := "CashLedger"
def TX7 : u_T := fun k => match k with
  | 0 => ("CashLedger", "buffer", "[I", true)
  | 1 => ("CashLedger", "bufferLength", "I", false)
  | 2 => ("CashLedger", "reader", "LCashLedger$SetupReader;", true)
  | 3 => ("CashLedger", "setup", "LCashLedger$Setup;", false)
  | 4 => ("CashLedger", "now", "LCashLedger$State;", true)
  | 5 => ("CashLedger", "saved", "LCashLedger$State;", true)
  | 6 => ("CashLedger", "hasSaved", "Z", false)
  | 7 => ("CashLedger", "history", "LCashLedger$History;", true)
  | _ => ("CashLedger", "balances", "[J", true)
def tyX7 : Nat → FieldType := fun k => match k with
  | 0 => .array .int
  | 1 => .int
  | 2 => .object "CashLedger$SetupReader"
  | 3 => .object "CashLedger$Setup"
  | 4 => .object "CashLedger$State"
  | 5 => .object "CashLedger$State"
  | 6 => .boolean
  | 7 => .object "CashLedger$History"
  | _ => .array .long
abbrev wsX70 : List Cond := u_ws RX7 TX7 9
theorem nmX7 : ∀ a, a < 9 → ∀ b, b < 9 → a ≠ b → (TX7 a).2.1 ≠ (TX7 b).2.1 := by decide +kernel
theorem tyX7_ok : ∀ k, k < 9 → parseFieldDescriptor (TX7 k).2.2.1 = some (tyX7 k) := by decide +kernel
abbrev cX7_init : ByteArray := prog_1_method_1_code
def yX7_init : MethodName := ⟨RX7, "<init>", "()V"⟩
abbrev cX7_append : ByteArray := prog_1_method_2_code
def yX7_append : MethodName := ⟨RX7, "append", "(IIIII)I"⟩
abbrev cX7_truncate : ByteArray := prog_1_method_3_code
def yX7_truncate : MethodName := ⟨RX7, "truncate", "(I)I"⟩
abbrev cX7_errorPosition : ByteArray := prog_1_method_4_code
def yX7_errorPosition : MethodName := ⟨RX7, "errorPosition", "()I"⟩
abbrev cX7_load : ByteArray := prog_1_method_5_code
def yX7_load : MethodName := ⟨RX7, "load", "()I"⟩
abbrev cX7_addEntry : ByteArray := prog_1_method_6_code
def yX7_addEntry : MethodName := ⟨RX7, "addEntry", "(IIIII)I"⟩
abbrev cX7_pay : ByteArray := prog_1_method_7_code
def yX7_pay : MethodName := ⟨RX7, "pay", "(II)I"⟩
abbrev cX7_cancel : ByteArray := prog_1_method_8_code
def yX7_cancel : MethodName := ⟨RX7, "cancel", "(I)I"⟩
abbrev cX7_addRoom : ByteArray := prog_1_method_9_code
def yX7_addRoom : MethodName := ⟨RX7, "addRoom", "(I)I"⟩
abbrev cX7_setOffice : ByteArray := prog_1_method_10_code
def yX7_setOffice : MethodName := ⟨RX7, "setOffice", "(III)I"⟩
abbrev cX7_addAsset : ByteArray := prog_1_method_11_code
def yX7_addAsset : MethodName := ⟨RX7, "addAsset", "(III)I"⟩
abbrev cX7_sellAsset : ByteArray := prog_1_method_12_code
def yX7_sellAsset : MethodName := ⟨RX7, "sellAsset", "(III)I"⟩
abbrev cX7_closeQuarter : ByteArray := prog_1_method_13_code
def yX7_closeQuarter : MethodName := ⟨RX7, "closeQuarter", "()I"⟩
abbrev cX7_setStart : ByteArray := prog_1_method_14_code
def yX7_setStart : MethodName := ⟨RX7, "setStart", "(I)I"⟩
abbrev cX7_undo : ByteArray := prog_1_method_15_code
def yX7_undo : MethodName := ⟨RX7, "undo", "()I"⟩
abbrev cX7_undoCount : ByteArray := prog_1_method_16_code
def yX7_undoCount : MethodName := ⟨RX7, "undoCount", "()I"⟩
abbrev cX7_save : ByteArray := prog_1_method_17_code
def yX7_save : MethodName := ⟨RX7, "save", "()I"⟩
abbrev cX7_restore : ByteArray := prog_1_method_18_code
def yX7_restore : MethodName := ⟨RX7, "restore", "()I"⟩
abbrev cX7_count : ByteArray := prog_1_method_19_code
def yX7_count : MethodName := ⟨RX7, "count", "(I)I"⟩
abbrev cX7_entry : ByteArray := prog_1_method_20_code
def yX7_entry : MethodName := ⟨RX7, "entry", "(II)I"⟩
abbrev cX7_deductible : ByteArray := prog_1_method_21_code
def yX7_deductible : MethodName := ⟨RX7, "deductible", "(I)I"⟩
abbrev cX7_total : ByteArray := prog_1_method_22_code
def yX7_total : MethodName := ⟨RX7, "total", "(III)J"⟩
abbrev cX7_byCategory : ByteArray := prog_1_method_23_code
def yX7_byCategory : MethodName := ⟨RX7, "byCategory", "(IZ)J"⟩
abbrev cX7_open : ByteArray := prog_1_method_24_code
def yX7_open : MethodName := ⟨RX7, "open", "(I)J"⟩
abbrev cX7_oldestOpen : ByteArray := prog_1_method_25_code
def yX7_oldestOpen : MethodName := ⟨RX7, "oldestOpen", "()I"⟩
abbrev cX7_room : ByteArray := prog_1_method_26_code
def yX7_room : MethodName := ⟨RX7, "room", "(II)I"⟩
abbrev cX7_share : ByteArray := prog_1_method_27_code
def yX7_share : MethodName := ⟨RX7, "share", "(IZ)I"⟩
abbrev cX7_asset : ByteArray := prog_1_method_28_code
def yX7_asset : MethodName := ⟨RX7, "asset", "(II)I"⟩
abbrev cX7_written : ByteArray := prog_1_method_29_code
def yX7_written : MethodName := ⟨RX7, "written", "(II)I"⟩
abbrev cX7_bookValue : ByteArray := prog_1_method_30_code
def yX7_bookValue : MethodName := ⟨RX7, "bookValue", "(II)I"⟩
abbrev cX7_pool : ByteArray := prog_1_method_31_code
def yX7_pool : MethodName := ⟨RX7, "pool", "(I)I"⟩
abbrev cX7_poolWritten : ByteArray := prog_1_method_32_code
def yX7_poolWritten : MethodName := ⟨RX7, "poolWritten", "(I)I"⟩
abbrev cX7_profit : ByteArray := prog_1_method_33_code
def yX7_profit : MethodName := ⟨RX7, "profit", "(I)J"⟩
abbrev cX7_profitTo : ByteArray := prog_1_method_34_code
def yX7_profitTo : MethodName := ⟨RX7, "profitTo", "(I)J"⟩
abbrev cX7_tax : ByteArray := prog_1_method_35_code
def yX7_tax : MethodName := ⟨RX7, "tax", "(I)J"⟩
abbrev cX7_rate : ByteArray := prog_1_method_36_code
def yX7_rate : MethodName := ⟨RX7, "rate", "(I)I"⟩
abbrev cX7_yearTax : ByteArray := prog_1_method_37_code
def yX7_yearTax : MethodName := ⟨RX7, "yearTax", "()J"⟩
abbrev cX7_prepayment : ByteArray := prog_1_method_38_code
def yX7_prepayment : MethodName := ⟨RX7, "prepayment", "(I)I"⟩
abbrev cX7_recomputed : ByteArray := prog_1_method_39_code
def yX7_recomputed : MethodName := ⟨RX7, "recomputed", "(I)I"⟩
abbrev cX7_correction : ByteArray := prog_1_method_40_code
def yX7_correction : MethodName := ⟨RX7, "correction", "(I)I"⟩
abbrev cX7_settlement : ByteArray := prog_1_method_41_code
def yX7_settlement : MethodName := ⟨RX7, "settlement", "()J"⟩
abbrev cX7_interest : ByteArray := prog_1_method_42_code
def yX7_interest : MethodName := ⟨RX7, "interest", "()J"⟩
abbrev cX7_effectiveRate : ByteArray := prog_1_method_43_code
def yX7_effectiveRate : MethodName := ⟨RX7, "effectiveRate", "()D"⟩
abbrev cX7_whatIf : ByteArray := prog_1_method_44_code
def yX7_whatIf : MethodName := ⟨RX7, "whatIf", "(III)J"⟩
abbrev cX7_neededIncome : ByteArray := prog_1_method_45_code
def yX7_neededIncome : MethodName := ⟨RX7, "neededIncome", "(I)I"⟩
abbrev cX7_balance : ByteArray := prog_1_method_46_code
def yX7_balance : MethodName := ⟨RX7, "balance", "(I)J"⟩
abbrev cX7_lowestDay : ByteArray := prog_1_method_47_code
def yX7_lowestDay : MethodName := ⟨RX7, "lowestDay", "()I"⟩
abbrev cX7_daysBelow : ByteArray := prog_1_method_48_code
def yX7_daysBelow : MethodName := ⟨RX7, "daysBelow", "(I)I"⟩
abbrev cX7_bestMonth : ByteArray := prog_1_method_49_code
def yX7_bestMonth : MethodName := ⟨RX7, "bestMonth", "()I"⟩
abbrev cX7_requireArgument : ByteArray := prog_1_method_50_code
def yX7_requireArgument : MethodName := ⟨RX7, "requireArgument", "(Z)V"⟩
abbrev cX7_requireState : ByteArray := prog_1_method_51_code
def yX7_requireState : MethodName := ⟨RX7, "requireState", "(Z)V"⟩
abbrev cX7_requireElement : ByteArray := prog_1_method_52_code
def yX7_requireElement : MethodName := ⟨RX7, "requireElement", "(Z)V"⟩
abbrev cX7_requireIndex : ByteArray := prog_1_method_53_code
def yX7_requireIndex : MethodName := ⟨RX7, "requireIndex", "(II)V"⟩
abbrev cX7_requireQuarter : ByteArray := prog_1_method_54_code
def yX7_requireQuarter : MethodName := ⟨RX7, "requireQuarter", "(I)V"⟩
abbrev cX7_within : ByteArray := prog_1_method_55_code
def yX7_within : MethodName := ⟨RX7, "within", "(III)Z"⟩
abbrev cX7_isDayOrNone : ByteArray := prog_1_method_56_code
def yX7_isDayOrNone : MethodName := ⟨RX7, "isDayOrNone", "(I)Z"⟩
abbrev cX7_bytesIn : ByteArray := prog_1_method_57_code
def yX7_bytesIn : MethodName := ⟨RX7, "bytesIn", "(I)I"⟩
abbrev cX7_putBytes : ByteArray := prog_1_method_58_code
def yX7_putBytes : MethodName := ⟨RX7, "putBytes", "(I)V"⟩
abbrev cX7_commonDivisor : ByteArray := prog_1_method_59_code
def yX7_commonDivisor : MethodName := ⟨RX7, "commonDivisor", "(II)I"⟩
abbrev cX7_yearProfit : ByteArray := prog_1_method_60_code
def yX7_yearProfit : MethodName := ⟨RX7, "yearProfit", "()J"⟩
abbrev cX7_targetAt : ByteArray := prog_1_method_61_code
def yX7_targetAt : MethodName := ⟨RX7, "targetAt", "(IJ)J"⟩
abbrev cX7_prepaymentNow : ByteArray := prog_1_method_62_code
def yX7_prepaymentNow : MethodName := ⟨RX7, "prepaymentNow", "(I)I"⟩
abbrev cX7_additionalTax : ByteArray := prog_1_method_63_code
def yX7_additionalTax : MethodName := ⟨RX7, "additionalTax", "(JJ)J"⟩
abbrev cX7_leftOf : ByteArray := prog_1_method_64_code
def yX7_leftOf : MethodName := ⟨RX7, "leftOf", "(IJ)J"⟩
def RX8 : String := "CashLedgerModel"
def TX8 : u_T := fun k => match k with
  | 0 => ("CashLedgerModel", "thrown", "I", false)
  | 1 => ("CashLedgerModel", "buffer", "[I", true)
  | 2 => ("CashLedgerModel", "length", "I", false)
  | 3 => ("CashLedgerModel", "at", "I", false)
  | 4 => ("CashLedgerModel", "from", "I", false)
  | 5 => ("CashLedgerModel", "kind", "I", false)
  | 6 => ("CashLedgerModel", "wrong", "I", false)
  | 7 => ("CashLedgerModel", "number", "J", false)
  | 8 => ("CashLedgerModel", "read", "[I", true)
  | 9 => ("CashLedgerModel", "now", "[I", true)
  | 10 => ("CashLedgerModel", "saved", "[I", true)
  | 11 => ("CashLedgerModel", "history", "[I", true)
  | 12 => ("CashLedgerModel", "entries", "I", false)
  | 13 => ("CashLedgerModel", "told", "I", false)
  | 14 => ("CashLedgerModel", "isSaved", "Z", false)
  | _ => ("CashLedgerModel", "brought", "[J", true)
def tyX8 : Nat → FieldType := fun k => match k with
  | 0 => .int
  | 1 => .array .int
  | 2 => .int
  | 3 => .int
  | 4 => .int
  | 5 => .int
  | 6 => .int
  | 7 => .long
  | 8 => .array .int
  | 9 => .array .int
  | 10 => .array .int
  | 11 => .array .int
  | 12 => .int
  | 13 => .int
  | 14 => .boolean
  | _ => .array .long
abbrev wsX80 : List Cond := u_ws RX8 TX8 16
theorem nmX8 : ∀ a, a < 16 → ∀ b, b < 16 → a ≠ b → (TX8 a).2.1 ≠ (TX8 b).2.1 := by decide +kernel
theorem tyX8_ok : ∀ k, k < 16 → parseFieldDescriptor (TX8 k).2.2.1 = some (tyX8 k) := by decide +kernel
abbrev cX8_init : ByteArray := prog_10_method_1_code
def yX8_init : MethodName := ⟨RX8, "<init>", "()V"⟩
abbrev cX8_thrown : ByteArray := prog_10_method_2_code
def yX8_thrown : MethodName := ⟨RX8, "thrown", "()I"⟩
abbrev cX8_in : ByteArray := prog_10_method_3_code
def yX8_in : MethodName := ⟨RX8, "in", "(JJJ)Z"⟩
abbrev cX8_fails : ByteArray := prog_10_method_4_code
def yX8_fails : MethodName := ⟨RX8, "fails", "(ZI)Z"⟩
abbrev cX8_byteOf : ByteArray := prog_10_method_5_code
def yX8_byteOf : MethodName := ⟨RX8, "byteOf", "(IIIIII)I"⟩
abbrev cX8_append : ByteArray := prog_10_method_6_code
def yX8_append : MethodName := ⟨RX8, "append", "(IIIII)I"⟩
abbrev cX8_truncate : ByteArray := prog_10_method_7_code
def yX8_truncate : MethodName := ⟨RX8, "truncate", "(I)I"⟩
abbrev cX8_peek : ByteArray := prog_10_method_8_code
def yX8_peek : MethodName := ⟨RX8, "peek", "(I)I"⟩
abbrev cX8_isLetter : ByteArray := prog_10_method_9_code
def yX8_isLetter : MethodName := ⟨RX8, "isLetter", "(I)Z"⟩
abbrev cX8_isDigit : ByteArray := prog_10_method_10_code
def yX8_isDigit : MethodName := ⟨RX8, "isDigit", "(I)Z"⟩
abbrev cX8_step : ByteArray := prog_10_method_11_code
def yX8_step : MethodName := ⟨RX8, "step", "()V"⟩
abbrev cX8_fail : ByteArray := prog_10_method_12_code
def yX8_fail : MethodName := ⟨RX8, "fail", "()V"⟩
abbrev cX8_isGood : ByteArray := prog_10_method_13_code
def yX8_isGood : MethodName := ⟨RX8, "isGood", "()Z"⟩
abbrev cX8_isWord : ByteArray := prog_10_method_14_code
def yX8_isWord : MethodName := ⟨RX8, "isWord", "(Ljava/lang/String;)Z"⟩
abbrev cX8_takeNumber : ByteArray := prog_10_method_15_code
def yX8_takeNumber : MethodName := ⟨RX8, "takeNumber", "(II)I"⟩
abbrev cX8_begin : ByteArray := prog_10_method_16_code
def yX8_begin : MethodName := ⟨RX8, "begin", "()V"⟩
abbrev cX8_readBracket : ByteArray := prog_10_method_17_code
def yX8_readBracket : MethodName := ⟨RX8, "readBracket", "(II)V"⟩
abbrev cX8_bracketStatement : ByteArray := prog_10_method_18_code
def yX8_bracketStatement : MethodName := ⟨RX8, "bracketStatement", "()V"⟩
abbrev cX8_roomStatement : ByteArray := prog_10_method_19_code
def yX8_roomStatement : MethodName := ⟨RX8, "roomStatement", "()V"⟩
abbrev cX8_once : ByteArray := prog_10_method_20_code
def yX8_once : MethodName := ⟨RX8, "once", "(Ljava/lang/String;I)Z"⟩
abbrev cX8_take : ByteArray := prog_10_method_21_code
def yX8_take : MethodName := ⟨RX8, "take", "(III)V"⟩
abbrev cX8_readStatement : ByteArray := prog_10_method_22_code
def yX8_readStatement : MethodName := ⟨RX8, "readStatement", "()V"⟩
abbrev cX8_parse : ByteArray := prog_10_method_23_code
def yX8_parse : MethodName := ⟨RX8, "parse", "()I"⟩
abbrev cX8_errorPosition : ByteArray := prog_10_method_24_code
def yX8_errorPosition : MethodName := ⟨RX8, "errorPosition", "()I"⟩
abbrev cX8_takeRead : ByteArray := prog_10_method_25_code
def yX8_takeRead : MethodName := ⟨RX8, "takeRead", "()V"⟩
abbrev cX8_load : ByteArray := prog_10_method_26_code
def yX8_load : MethodName := ⟨RX8, "load", "()I"⟩
abbrev cX8_record : ByteArray := prog_10_method_27_code
def yX8_record : MethodName := ⟨RX8, "record", "()V"⟩
abbrev cX8_undo : ByteArray := prog_10_method_28_code
def yX8_undo : MethodName := ⟨RX8, "undo", "()I"⟩
abbrev cX8_undoCount : ByteArray := prog_10_method_29_code
def yX8_undoCount : MethodName := ⟨RX8, "undoCount", "()I"⟩
abbrev cX8_save : ByteArray := prog_10_method_30_code
def yX8_save : MethodName := ⟨RX8, "save", "()I"⟩
abbrev cX8_restore : ByteArray := prog_10_method_31_code
def yX8_restore : MethodName := ⟨RX8, "restore", "()I"⟩
abbrev cX8_isEntry : ByteArray := prog_10_method_32_code
def yX8_isEntry : MethodName := ⟨RX8, "isEntry", "(I)Z"⟩
abbrev cX8_isRoom : ByteArray := prog_10_method_33_code
def yX8_isRoom : MethodName := ⟨RX8, "isRoom", "(I)Z"⟩
abbrev cX8_isAsset : ByteArray := prog_10_method_34_code
def yX8_isAsset : MethodName := ⟨RX8, "isAsset", "(I)Z"⟩
abbrev cX8_isDay : ByteArray := prog_10_method_35_code
def yX8_isDay : MethodName := ⟨RX8, "isDay", "(I)Z"⟩
abbrev cX8_isDayOrNone : ByteArray := prog_10_method_36_code
def yX8_isDayOrNone : MethodName := ⟨RX8, "isDayOrNone", "(I)Z"⟩
abbrev cX8_isMonth : ByteArray := prog_10_method_37_code
def yX8_isMonth : MethodName := ⟨RX8, "isMonth", "(I)Z"⟩
abbrev cX8_isQuarter : ByteArray := prog_10_method_38_code
def yX8_isQuarter : MethodName := ⟨RX8, "isQuarter", "(I)Z"⟩
abbrev cX8_isKind : ByteArray := prog_10_method_39_code
def yX8_isKind : MethodName := ⟨RX8, "isKind", "(I)Z"⟩
abbrev cX8_isAmount : ByteArray := prog_10_method_40_code
def yX8_isAmount : MethodName := ⟨RX8, "isAmount", "(I)Z"⟩
abbrev cX8_entryPart : ByteArray := prog_10_method_41_code
def yX8_entryPart : MethodName := ⟨RX8, "entryPart", "(II)I"⟩
abbrev cX8_roomPart : ByteArray := prog_10_method_42_code
def yX8_roomPart : MethodName := ⟨RX8, "roomPart", "(II)I"⟩
abbrev cX8_assetPart : ByteArray := prog_10_method_43_code
def yX8_assetPart : MethodName := ⟨RX8, "assetPart", "(II)I"⟩
abbrev cX8_isCancelled : ByteArray := prog_10_method_44_code
def yX8_isCancelled : MethodName := ⟨RX8, "isCancelled", "(I)Z"⟩
abbrev cX8_isOpen : ByteArray := prog_10_method_45_code
def yX8_isOpen : MethodName := ⟨RX8, "isOpen", "(I)Z"⟩
abbrev cX8_counts : ByteArray := prog_10_method_46_code
def yX8_counts : MethodName := ⟨RX8, "counts", "(I)Z"⟩
abbrev cX8_countsIn : ByteArray := prog_10_method_47_code
def yX8_countsIn : MethodName := ⟨RX8, "countsIn", "(III)Z"⟩
abbrev cX8_become : ByteArray := prog_10_method_48_code
def yX8_become : MethodName := ⟨RX8, "become", "(II)I"⟩
abbrev cX8_addEntry : ByteArray := prog_10_method_49_code
def yX8_addEntry : MethodName := ⟨RX8, "addEntry", "(IIIII)I"⟩
abbrev cX8_pay : ByteArray := prog_10_method_50_code
def yX8_pay : MethodName := ⟨RX8, "pay", "(II)I"⟩
abbrev cX8_cancel : ByteArray := prog_10_method_51_code
def yX8_cancel : MethodName := ⟨RX8, "cancel", "(I)I"⟩
abbrev cX8_addRoom : ByteArray := prog_10_method_52_code
def yX8_addRoom : MethodName := ⟨RX8, "addRoom", "(I)I"⟩
abbrev cX8_setOffice : ByteArray := prog_10_method_53_code
def yX8_setOffice : MethodName := ⟨RX8, "setOffice", "(III)I"⟩
abbrev cX8_addAsset : ByteArray := prog_10_method_54_code
def yX8_addAsset : MethodName := ⟨RX8, "addAsset", "(III)I"⟩
abbrev cX8_isSold : ByteArray := prog_10_method_55_code
def yX8_isSold : MethodName := ⟨RX8, "isSold", "(I)Z"⟩
abbrev cX8_sellAsset : ByteArray := prog_10_method_56_code
def yX8_sellAsset : MethodName := ⟨RX8, "sellAsset", "(III)I"⟩
abbrev cX8_closeQuarter : ByteArray := prog_10_method_57_code
def yX8_closeQuarter : MethodName := ⟨RX8, "closeQuarter", "()I"⟩
abbrev cX8_setStart : ByteArray := prog_10_method_58_code
def yX8_setStart : MethodName := ⟨RX8, "setStart", "(I)I"⟩
abbrev cX8_usedDays : ByteArray := prog_10_method_59_code
def yX8_usedDays : MethodName := ⟨RX8, "usedDays", "(III)I"⟩
abbrev cX8_shareAbove : ByteArray := prog_10_method_60_code
def yX8_shareAbove : MethodName := ⟨RX8, "shareAbove", "(I)I"⟩
abbrev cX8_shareBelow : ByteArray := prog_10_method_61_code
def yX8_shareBelow : MethodName := ⟨RX8, "shareBelow", "()I"⟩
abbrev cX8_common : ByteArray := prog_10_method_62_code
def yX8_common : MethodName := ⟨RX8, "common", "(II)I"⟩
abbrev cX8_deducted : ByteArray := prog_10_method_63_code
def yX8_deducted : MethodName := ⟨RX8, "deducted", "(III)J"⟩
abbrev cX8_deductedOf : ByteArray := prog_10_method_64_code
def yX8_deductedOf : MethodName := ⟨RX8, "deductedOf", "(I)J"⟩
abbrev cX8_sortOf : ByteArray := prog_10_method_65_code
def yX8_sortOf : MethodName := ⟨RX8, "sortOf", "(I)I"⟩
abbrev cX8_boughtIn : ByteArray := prog_10_method_66_code
def yX8_boughtIn : MethodName := ⟨RX8, "boughtIn", "(I)I"⟩
abbrev cX8_soldIn : ByteArray := prog_10_method_67_code
def yX8_soldIn : MethodName := ⟨RX8, "soldIn", "(I)I"⟩
abbrev cX8_byLife : ByteArray := prog_10_method_68_code
def yX8_byLife : MethodName := ⟨RX8, "byLife", "(II)I"⟩
abbrev cX8_writtenTo : ByteArray := prog_10_method_69_code
def yX8_writtenTo : MethodName := ⟨RX8, "writtenTo", "(II)I"⟩
abbrev cX8_writtenIn : ByteArray := prog_10_method_70_code
def yX8_writtenIn : MethodName := ⟨RX8, "writtenIn", "(II)I"⟩
abbrev cX8_valueOf : ByteArray := prog_10_method_71_code
def yX8_valueOf : MethodName := ⟨RX8, "valueOf", "(II)I"⟩
abbrev cX8_poolTo : ByteArray := prog_10_method_72_code
def yX8_poolTo : MethodName := ⟨RX8, "poolTo", "(I)I"⟩
abbrev cX8_poolOff : ByteArray := prog_10_method_73_code
def yX8_poolOff : MethodName := ⟨RX8, "poolOff", "(I)I"⟩
abbrev cX8_entriesIn : ByteArray := prog_10_method_74_code
def yX8_entriesIn : MethodName := ⟨RX8, "entriesIn", "(I)J"⟩
abbrev cX8_assetsIn : ByteArray := prog_10_method_75_code
def yX8_assetsIn : MethodName := ⟨RX8, "assetsIn", "(I)J"⟩
abbrev cX8_profitOf : ByteArray := prog_10_method_76_code
def yX8_profitOf : MethodName := ⟨RX8, "profitOf", "(I)J"⟩
abbrev cX8_profitsTo : ByteArray := prog_10_method_77_code
def yX8_profitsTo : MethodName := ⟨RX8, "profitsTo", "(I)J"⟩
abbrev cX8_yearProfit : ByteArray := prog_10_method_78_code
def yX8_yearProfit : MethodName := ⟨RX8, "yearProfit", "()J"⟩
abbrev cX8_limitOf : ByteArray := prog_10_method_79_code
def yX8_limitOf : MethodName := ⟨RX8, "limitOf", "(I)I"⟩
abbrev cX8_rateOf : ByteArray := prog_10_method_80_code
def yX8_rateOf : MethodName := ⟨RX8, "rateOf", "(I)I"⟩
abbrev cX8_taxOf : ByteArray := prog_10_method_81_code
def yX8_taxOf : MethodName := ⟨RX8, "taxOf", "(J)J"⟩
abbrev cX8_prepaymentFor : ByteArray := prog_10_method_82_code
def yX8_prepaymentFor : MethodName := ⟨RX8, "prepaymentFor", "(IJ)I"⟩
abbrev cX8_prepaidTo : ByteArray := prog_10_method_83_code
def yX8_prepaidTo : MethodName := ⟨RX8, "prepaidTo", "(I)J"⟩
abbrev cX8_againFor : ByteArray := prog_10_method_84_code
def yX8_againFor : MethodName := ⟨RX8, "againFor", "(I)I"⟩
abbrev cX8_count : ByteArray := prog_10_method_85_code
def yX8_count : MethodName := ⟨RX8, "count", "(I)I"⟩
abbrev cX8_openMany : ByteArray := prog_10_method_86_code
def yX8_openMany : MethodName := ⟨RX8, "openMany", "()I"⟩
abbrev cX8_flagged : ByteArray := prog_10_method_87_code
def yX8_flagged : MethodName := ⟨RX8, "flagged", "(I)I"⟩
abbrev cX8_soldMany : ByteArray := prog_10_method_88_code
def yX8_soldMany : MethodName := ⟨RX8, "soldMany", "()I"⟩
abbrev cX8_entry : ByteArray := prog_10_method_89_code
def yX8_entry : MethodName := ⟨RX8, "entry", "(II)I"⟩
abbrev cX8_deductible : ByteArray := prog_10_method_90_code
def yX8_deductible : MethodName := ⟨RX8, "deductible", "(I)I"⟩
abbrev cX8_total : ByteArray := prog_10_method_91_code
def yX8_total : MethodName := ⟨RX8, "total", "(III)J"⟩
abbrev cX8_byCategory : ByteArray := prog_10_method_92_code
def yX8_byCategory : MethodName := ⟨RX8, "byCategory", "(IZ)J"⟩
abbrev cX8_open : ByteArray := prog_10_method_93_code
def yX8_open : MethodName := ⟨RX8, "open", "(I)J"⟩
abbrev cX8_oldestOpen : ByteArray := prog_10_method_94_code
def yX8_oldestOpen : MethodName := ⟨RX8, "oldestOpen", "()I"⟩
abbrev cX8_room : ByteArray := prog_10_method_95_code
def yX8_room : MethodName := ⟨RX8, "room", "(II)I"⟩
abbrev cX8_share : ByteArray := prog_10_method_96_code
def yX8_share : MethodName := ⟨RX8, "share", "(IZ)I"⟩
abbrev cX8_asset : ByteArray := prog_10_method_97_code
def yX8_asset : MethodName := ⟨RX8, "asset", "(II)I"⟩
abbrev cX8_written : ByteArray := prog_10_method_98_code
def yX8_written : MethodName := ⟨RX8, "written", "(II)I"⟩
abbrev cX8_bookValue : ByteArray := prog_10_method_99_code
def yX8_bookValue : MethodName := ⟨RX8, "bookValue", "(II)I"⟩
abbrev cX8_pool : ByteArray := prog_10_method_100_code
def yX8_pool : MethodName := ⟨RX8, "pool", "(I)I"⟩
abbrev cX8_poolWritten : ByteArray := prog_10_method_101_code
def yX8_poolWritten : MethodName := ⟨RX8, "poolWritten", "(I)I"⟩
abbrev cX8_profit : ByteArray := prog_10_method_102_code
def yX8_profit : MethodName := ⟨RX8, "profit", "(I)J"⟩
abbrev cX8_profitTo : ByteArray := prog_10_method_103_code
def yX8_profitTo : MethodName := ⟨RX8, "profitTo", "(I)J"⟩
abbrev cX8_tax : ByteArray := prog_10_method_104_code
def yX8_tax : MethodName := ⟨RX8, "tax", "(I)J"⟩
abbrev cX8_rate : ByteArray := prog_10_method_105_code
def yX8_rate : MethodName := ⟨RX8, "rate", "(I)I"⟩
abbrev cX8_yearTax : ByteArray := prog_10_method_106_code
def yX8_yearTax : MethodName := ⟨RX8, "yearTax", "()J"⟩
abbrev cX8_isClosed : ByteArray := prog_10_method_107_code
def yX8_isClosed : MethodName := ⟨RX8, "isClosed", "(I)Z"⟩
abbrev cX8_prepayment : ByteArray := prog_10_method_108_code
def yX8_prepayment : MethodName := ⟨RX8, "prepayment", "(I)I"⟩
abbrev cX8_recomputed : ByteArray := prog_10_method_109_code
def yX8_recomputed : MethodName := ⟨RX8, "recomputed", "(I)I"⟩
abbrev cX8_correctionOf : ByteArray := prog_10_method_110_code
def yX8_correctionOf : MethodName := ⟨RX8, "correctionOf", "(I)I"⟩
abbrev cX8_correction : ByteArray := prog_10_method_111_code
def yX8_correction : MethodName := ⟨RX8, "correction", "(I)I"⟩
abbrev cX8_settlement : ByteArray := prog_10_method_112_code
def yX8_settlement : MethodName := ⟨RX8, "settlement", "()J"⟩
abbrev cX8_interest : ByteArray := prog_10_method_113_code
def yX8_interest : MethodName := ⟨RX8, "interest", "()J"⟩
abbrev cX8_effectiveRate : ByteArray := prog_10_method_114_code
def yX8_effectiveRate : MethodName := ⟨RX8, "effectiveRate", "()D"⟩
abbrev cX8_whatIf : ByteArray := prog_10_method_115_code
def yX8_whatIf : MethodName := ⟨RX8, "whatIf", "(III)J"⟩
abbrev cX8_netOf : ByteArray := prog_10_method_116_code
def yX8_netOf : MethodName := ⟨RX8, "netOf", "(JJJ)J"⟩
abbrev cX8_neededIncome : ByteArray := prog_10_method_117_code
def yX8_neededIncome : MethodName := ⟨RX8, "neededIncome", "(I)I"⟩
abbrev cX8_entriesUpTo : ByteArray := prog_10_method_118_code
def yX8_entriesUpTo : MethodName := ⟨RX8, "entriesUpTo", "(I)J"⟩
abbrev cX8_assetsUpTo : ByteArray := prog_10_method_119_code
def yX8_assetsUpTo : MethodName := ⟨RX8, "assetsUpTo", "(I)J"⟩
abbrev cX8_prepaidUpTo : ByteArray := prog_10_method_120_code
def yX8_prepaidUpTo : MethodName := ⟨RX8, "prepaidUpTo", "(I)J"⟩
abbrev cX8_balanceAt : ByteArray := prog_10_method_121_code
def yX8_balanceAt : MethodName := ⟨RX8, "balanceAt", "(I)J"⟩
abbrev cX8_balance : ByteArray := prog_10_method_122_code
def yX8_balance : MethodName := ⟨RX8, "balance", "(I)J"⟩
abbrev cX8_layEntries : ByteArray := prog_10_method_123_code
def yX8_layEntries : MethodName := ⟨RX8, "layEntries", "()V"⟩
abbrev cX8_layAssets : ByteArray := prog_10_method_124_code
def yX8_layAssets : MethodName := ⟨RX8, "layAssets", "()V"⟩
abbrev cX8_layDays : ByteArray := prog_10_method_125_code
def yX8_layDays : MethodName := ⟨RX8, "layDays", "()V"⟩
abbrev cX8_lowestDay : ByteArray := prog_10_method_126_code
def yX8_lowestDay : MethodName := ⟨RX8, "lowestDay", "()I"⟩
abbrev cX8_daysBelow : ByteArray := prog_10_method_127_code
def yX8_daysBelow : MethodName := ⟨RX8, "daysBelow", "(I)I"⟩
abbrev cX8_takenIn : ByteArray := prog_10_method_128_code
def yX8_takenIn : MethodName := ⟨RX8, "takenIn", "(I)J"⟩
abbrev cX8_bestMonth : ByteArray := prog_10_method_129_code
def yX8_bestMonth : MethodName := ⟨RX8, "bestMonth", "()I"⟩
def RJ9 : String := "java/lang/Math"
abbrev cJ9_max_7cf53 : ByteArray := prog_18_method_65_code
def yJ9_max_7cf53 : MethodName := ⟨RJ9, "max", "(II)I"⟩
abbrev cJ9_max_f86c9 : ByteArray := prog_18_method_66_code
def yJ9_max_f86c9 : MethodName := ⟨RJ9, "max", "(JJ)J"⟩
abbrev cJ9_min_7cf53 : ByteArray := prog_18_method_69_code
def yJ9_min_7cf53 : MethodName := ⟨RJ9, "min", "(II)I"⟩
abbrev cJ9_min_f86c9 : ByteArray := prog_18_method_70_code
def yJ9_min_f86c9 : MethodName := ⟨RJ9, "min", "(JJ)J"⟩
def RJ0 : String := "java/lang/String"
def TJ0 : u_T := fun k => match k with
  | _ => ("", "", "", false)
abbrev cJ0_length_8abf5 : ByteArray := prog_20_method_54_code
def yJ0_length_8abf5 : MethodName := ⟨RJ0, "length", "()I"⟩
abbrev cJ0_charAt_5068e : ByteArray := prog_20_method_56_code
def yJ0_charAt_5068e : MethodName := ⟨RJ0, "charAt", "(I)C"⟩
abbrev cJ0_coder_7d493 : ByteArray := prog_20_method_152_code
def yJ0_coder_7d493 : MethodName := ⟨RJ0, "coder", "()B"⟩
abbrev cJ0_isLatin1_aae02 : ByteArray := prog_20_method_154_code
def yJ0_isLatin1_aae02 : MethodName := ⟨RJ0, "isLatin1", "()Z"⟩
abbrev cJ0_checkIndex_df160 : ByteArray := prog_20_method_155_code
def yJ0_checkIndex_df160 : MethodName := ⟨RJ0, "checkIndex", "(II)V"⟩
def RJ1 : String := "java/lang/StringLatin1"
abbrev cJ1_charAt_3b067 : ByteArray := prog_21_method_2_code
def yJ1_charAt_3b067 : MethodName := ⟨RJ1, "charAt", "([BI)C"⟩
def RJ2 : String := "java/lang/StringUTF16"
abbrev cJ2_getChar_3b067 : ByteArray := prog_22_method_5_code
def yJ2_getChar_3b067 : MethodName := ⟨RJ2, "getChar", "([BI)C"⟩
abbrev cJ2_length_9d52b : ByteArray := prog_22_method_6_code
def yJ2_length_9d52b : MethodName := ⟨RJ2, "length", "([B)I"⟩
abbrev cJ2_charAt_3b067 : ByteArray := prog_22_method_83_code
def yJ2_charAt_3b067 : MethodName := ⟨RJ2, "charAt", "([BI)C"⟩
abbrev cJ2_checkIndex_2214a : ByteArray := prog_22_method_91_code
def yJ2_checkIndex_2214a : MethodName := ⟨RJ2, "checkIndex", "(I[B)V"⟩
def RJ3 : String := "jdk/internal/util/Preconditions"
abbrev cJ3_checkIndex_8e157 : ByteArray := prog_27_method_11_code
def yJ3_checkIndex_8e157 : MethodName := ⟨RJ3, "checkIndex", "(IILjava/util/function/BiFunction;)I"⟩
def RL : String := "CashLedgerLaw"
abbrev cL_append : ByteArray := method_3_code
def yL_append : MethodName := ⟨RL, "append", "(LCashLedger;IIIII[J)I"⟩
abbrev cL_truncate : ByteArray := method_4_code
def yL_truncate : MethodName := ⟨RL, "truncate", "(LCashLedger;I[J)I"⟩
abbrev cL_load : ByteArray := method_5_code
def yL_load : MethodName := ⟨RL, "load", "(LCashLedger;[J)I"⟩
abbrev cL_addEntry : ByteArray := method_6_code
def yL_addEntry : MethodName := ⟨RL, "addEntry", "(LCashLedger;IIIII[J)I"⟩
abbrev cL_pay : ByteArray := method_7_code
def yL_pay : MethodName := ⟨RL, "pay", "(LCashLedger;II[J)I"⟩
abbrev cL_cancel : ByteArray := method_8_code
def yL_cancel : MethodName := ⟨RL, "cancel", "(LCashLedger;I[J)I"⟩
abbrev cL_addRoom : ByteArray := method_9_code
def yL_addRoom : MethodName := ⟨RL, "addRoom", "(LCashLedger;I[J)I"⟩
abbrev cL_setOffice : ByteArray := method_10_code
def yL_setOffice : MethodName := ⟨RL, "setOffice", "(LCashLedger;III[J)I"⟩
abbrev cL_addAsset : ByteArray := method_11_code
def yL_addAsset : MethodName := ⟨RL, "addAsset", "(LCashLedger;III[J)I"⟩
abbrev cL_sellAsset : ByteArray := method_12_code
def yL_sellAsset : MethodName := ⟨RL, "sellAsset", "(LCashLedger;III[J)I"⟩
abbrev cL_closeQuarter : ByteArray := method_13_code
def yL_closeQuarter : MethodName := ⟨RL, "closeQuarter", "(LCashLedger;[J)I"⟩
abbrev cL_setStart : ByteArray := method_14_code
def yL_setStart : MethodName := ⟨RL, "setStart", "(LCashLedger;I[J)I"⟩
abbrev cL_undo : ByteArray := method_15_code
def yL_undo : MethodName := ⟨RL, "undo", "(LCashLedger;[J)I"⟩
abbrev cL_restore : ByteArray := method_16_code
def yL_restore : MethodName := ⟨RL, "restore", "(LCashLedger;[J)I"⟩
abbrev cL_count : ByteArray := method_17_code
def yL_count : MethodName := ⟨RL, "count", "(LCashLedger;I[J)I"⟩
abbrev cL_entry : ByteArray := method_18_code
def yL_entry : MethodName := ⟨RL, "entry", "(LCashLedger;II[J)I"⟩
abbrev cL_deductible : ByteArray := method_19_code
def yL_deductible : MethodName := ⟨RL, "deductible", "(LCashLedger;I[J)I"⟩
abbrev cL_total : ByteArray := method_20_code
def yL_total : MethodName := ⟨RL, "total", "(LCashLedger;III[J)I"⟩
abbrev cL_byCategory : ByteArray := method_21_code
def yL_byCategory : MethodName := ⟨RL, "byCategory", "(LCashLedger;IZ[J)I"⟩
abbrev cL_open : ByteArray := method_22_code
def yL_open : MethodName := ⟨RL, "open", "(LCashLedger;I[J)I"⟩
abbrev cL_oldestOpen : ByteArray := method_23_code
def yL_oldestOpen : MethodName := ⟨RL, "oldestOpen", "(LCashLedger;[J)I"⟩
abbrev cL_room : ByteArray := method_24_code
def yL_room : MethodName := ⟨RL, "room", "(LCashLedger;II[J)I"⟩
abbrev cL_share : ByteArray := method_25_code
def yL_share : MethodName := ⟨RL, "share", "(LCashLedger;IZ[J)I"⟩
abbrev cL_asset : ByteArray := method_26_code
def yL_asset : MethodName := ⟨RL, "asset", "(LCashLedger;II[J)I"⟩
abbrev cL_written : ByteArray := method_27_code
def yL_written : MethodName := ⟨RL, "written", "(LCashLedger;II[J)I"⟩
abbrev cL_bookValue : ByteArray := method_28_code
def yL_bookValue : MethodName := ⟨RL, "bookValue", "(LCashLedger;II[J)I"⟩
abbrev cL_pool : ByteArray := method_29_code
def yL_pool : MethodName := ⟨RL, "pool", "(LCashLedger;I[J)I"⟩
abbrev cL_poolWritten : ByteArray := method_30_code
def yL_poolWritten : MethodName := ⟨RL, "poolWritten", "(LCashLedger;I[J)I"⟩
abbrev cL_profit : ByteArray := method_31_code
def yL_profit : MethodName := ⟨RL, "profit", "(LCashLedger;I[J)I"⟩
abbrev cL_profitTo : ByteArray := method_32_code
def yL_profitTo : MethodName := ⟨RL, "profitTo", "(LCashLedger;I[J)I"⟩
abbrev cL_prepayment : ByteArray := method_33_code
def yL_prepayment : MethodName := ⟨RL, "prepayment", "(LCashLedger;I[J)I"⟩
abbrev cL_recomputed : ByteArray := method_34_code
def yL_recomputed : MethodName := ⟨RL, "recomputed", "(LCashLedger;I[J)I"⟩
abbrev cL_correction : ByteArray := method_35_code
def yL_correction : MethodName := ⟨RL, "correction", "(LCashLedger;I[J)I"⟩
abbrev cL_settlement : ByteArray := method_36_code
def yL_settlement : MethodName := ⟨RL, "settlement", "(LCashLedger;[J)I"⟩
abbrev cL_effectiveRate : ByteArray := method_37_code
def yL_effectiveRate : MethodName := ⟨RL, "effectiveRate", "(LCashLedger;[D)I"⟩
abbrev cL_whatIf : ByteArray := method_38_code
def yL_whatIf : MethodName := ⟨RL, "whatIf", "(LCashLedger;III[J)I"⟩
abbrev cL_neededIncome : ByteArray := method_39_code
def yL_neededIncome : MethodName := ⟨RL, "neededIncome", "(LCashLedger;I[J)I"⟩
abbrev cL_balance : ByteArray := method_40_code
def yL_balance : MethodName := ⟨RL, "balance", "(LCashLedger;I[J)I"⟩
abbrev cL_law : ByteArray := code
def yL_law : MethodName := ⟨RL, "law", "([I)Z"⟩
abbrev vwCl : List vw_C := [(RX0, TX0, 7), (RX1, TX1, 8), (RX2, TX2, 3), (RX3, TX3, 4), (RX4, TX4, 9), (RX5, TX5, 11), (RX6, TX6, 6), (RX7, TX7, 9), (RX8, TX8, 16)]
end
section
/-! 02: the abstract heap (positions), the judgement G, a rule an instruction, contracts CT (returns) and CX (returns or throws) -/
def lw_good : List Cond := lw_tbl.filter goodWord
theorem lw_good_in {v : Cond} {n : Nat} (h : lw_tbl[n]? = some v) (hg : goodWord v = true) : v ∈ lw_good := List.mem_filter.mpr ⟨List.mem_of_getElem? h, hg⟩
theorem lw_good_ok {v : Cond} (h : v ∈ lw_good) : GoodIn lw_good (v :: lw_good) := fun x hx => by
  have hm : x ∈ lw_good := (List.mem_cons.mp hx).elim (fun e => e ▸ h) id
  exact ⟨hm, good_of_word (List.mem_filter.mp hm).2⟩
def nw_is (v : Cond) : Bool := match v with
  | .fieldLinkNest _ _ _ _ _ _ => true
  | .methodLinkNest _ _ _ _ => true
  | _ => false
def nw_all : List Cond := lw_tbl.filter nw_is
def NW (U : State) : Prop := ∀ v ∈ nw_all, va_Nw v U
theorem NW.warm {s U : State} (hW : s.WarmedH U.vm) (h : NW s) : NW U := by
  intro v hv
  have h1 := h v hv
  have h2 := (List.mem_filter.mp hv).2
  unfold nw_is at h2
  split at h2
  · exact va_Nw.warmF hW h1
  · exact va_Nw.warmM hW h1
  · cases h2
theorem NW.same {s U : State} (hv : s.vm = U.vm) (h : NW s) : NW U := by
  intro v hm
  have h1 := h v hm
  have h2 := (List.mem_filter.mp hm).2
  unfold nw_is at h2
  split at h2
  · exact va_Nw.same rfl hv h1
  · exact va_Nw.same rfl hv h1
  · cases h2
def rho (B : Nat) (od : Nat → Option Nat) (k : Nat) : Nat := match od k with
  | none => B + k
  | some a => a
def trV (B : Nat) (od : Nat → Option Nat) (v : Value) : Value := match v with
  | .ref k => .ref (rho B od k)
  | x => x
theorem trV_cat (B : Nat) (od : Nat → Option Nat) (v : Value) : (trV B od v).category = v.category := by cases v <;> rfl
theorem rho_inj {B : Nat} {od : Nat → Option Nat} {a b : Nat} (ha : od a = none) (hb : od b = none) (h : a ≠ b) : rho B od a ≠ rho B od b := by
  unfold rho; rw [ha, hb]; dsimp only; omega
theorem rho_lo {B : Nat} {od : Nat → Option Nat} {a : Nat} (ha : od a = none) : rho B od a = B + a := by
  unfold rho; rw [ha]
def trE (B : Nat) (od : Nat → Option Nat) (x : va_E) : va_E := match x with
  | .inl (cA, n, .inr (.inr (.inr (.inr f)))) => .inl (cA, n, .inr (.inr (.inr (.inr (fun j => (f j).map (rho B od))))))
  | .inl (cA, n, .inl f) => .inl (cA, n, .inl f)
  | .inl (cA, n, .inr (.inl f)) => .inl (cA, n, .inr (.inl f))
  | .inl (cA, n, .inr (.inr (.inl f))) => .inl (cA, n, .inr (.inr (.inl f)))
  | .inl (cA, n, .inr (.inr (.inr (.inl f)))) => .inl (cA, n, .inr (.inr (.inr (.inl f))))
  | .inr (ci, fs) => .inr (ci, fs.map (trV B od))
abbrev AH : Type := Nat → Option va_E
def upA (A : AH) (k : Nat) (x : va_E) : AH := fun j => if j = k then some x else A j
def RelA (D : va_G) (B : Nat) (od : Nat → Option Nat) (A : AH) (z : Nat) (H : Heap) : Prop := (∀ k x, A k = some x → od k = none ∧ va_at D vwCl (rho B od k, trE B od x) H) ∧ (z ≠ 0 → H.size + 1 = B + z)
def tysc (cy : Nat → ClassId) : List (ClassId × FieldType) := [(cy 0, .int), (cy 1, .long), (cy 2, .boolean), (cy 3, .double), (cy 4, .object RX6)]
/-- writing one position: the rest stays -/
theorem RelA.put {D : va_G} {B : Nat} {od : Nat → Option Nat} {A : AH} {z k : Nat} {x : va_E} {H H1 : Heap} (h : RelA D B od A z H) (hk : od k = none) (hx : va_at D vwCl (rho B od k, trE B od x) H1) (hz : H1.size = H.size) (ho : ∀ q : Nat, q ≠ rho B od k → H1[q]? = H[q]?) : RelA D B od (upA A k x) z H1 := by
  refine ⟨fun j y hj => ?_, fun hz0 => by rw [hz]; exact h.2 hz0⟩
  unfold upA at hj
  by_cases e : j = k
  · rw [if_pos e] at hj
    cases hj
    subst e
    exact ⟨hk, hx⟩
  · rw [if_neg e] at hj
    obtain ⟨h1, h2⟩ := h.1 j y hj
    exact ⟨h1, h2.kept (ho _ (rho_inj h1 hk e))⟩
/-- a new cell at the end -/
theorem RelA.push {D : va_G} {B : Nat} {od : Nat → Option Nat} {A : AH} {z : Nat} {x : va_E} {H H1 : Heap} (h : RelA D B od A (z + 1) H) (hk : od z = none) (hx : va_at D vwCl (H.size, trE B od x) H1) (hz : H1.size = H.size + 1) (ho : ∀ q : Nat, q < H.size → H1[q]? = H[q]?) : RelA D B od (upA A z x) (z + 2) H1 ∧ H.size = rho B od z := by
  have hs := h.2 (by omega)
  have hr : H.size = rho B od z := by rw [rho_lo hk]; omega
  refine ⟨⟨fun j y hj => ?_, fun _ => by omega⟩, hr⟩
  unfold upA at hj
  by_cases e : j = z
  · rw [if_pos e] at hj
    cases hj
    subst e
    exact ⟨hk, by rw [← hr]; exact hx⟩
  · rw [if_neg e] at hj
    obtain ⟨h1, h2⟩ := h.1 j y hj
    exact ⟨h1, h2.kept (ho _ h2.lt)⟩
theorem RelA.weak {D : va_G} {B : Nat} {od : Nat → Option Nat} {A A' : AH} {z z' : Nat} {H : Heap} (h : RelA D B od A z H) (hA : ∀ k x, A' k = some x → A k = some x) (hz : z' = z ∨ z' = 0) : RelA D B od A' z' H :=
  ⟨fun k x hk => h.1 k x (hA k x hk), fun hz0 => hz.elim (fun e => by rw [e]; exact h.2 (e ▸ hz0)) (fun e => absurd e hz0)⟩
-- locals
def LR (B : Nat) (od : Nat → Option Nat) (ls : Array Slot) (nL : Nat) (lv : List (Option Value)) : Prop := ls.size = nL ∧ lv_wf ls ∧ ∀ (i : Nat) (v : Value), lv[i]? = some (some v) → ls[i]? = some (.val (trV B od v))
def lvP (B : Nat) (od : Nat → Option Nat) (lv : List (Option Value)) : List (Nat × Value) := (List.range lv.length).filterMap (fun i => (lv.getD i none).map (fun v => (i, trV B od v)))
theorem lvP_mem {B : Nat} {od : Nat → Option Nat} {lv : List (Option Value)} {q : Nat × Value} : q ∈ lvP B od lv ↔ ∃ v, lv[q.1]? = some (some v) ∧ q.2 = trV B od v := by
  unfold lvP
  rw [List.mem_filterMap]
  constructor
  · rintro ⟨i, hi, h⟩
    have hl := List.mem_range.mp hi
    rw [List.getD_eq_getElem?_getD, List.getElem?_eq_getElem hl, Option.getD_some] at h
    cases hv : lv[i] with
    | none => rw [hv] at h; cases h
    | some v =>
      rw [hv] at h
      cases h
      exact ⟨v, by rw [List.getElem?_eq_getElem hl, hv], rfl⟩
  · rintro ⟨v, h1, h2⟩
    refine ⟨q.1, List.mem_range.mpr (List.getElem?_eq_some_iff.mp h1).1, ?_⟩
    rw [List.getD_eq_getElem?_getD, h1]
    obtain ⟨a, b⟩ := q
    dsimp only at h2
    rw [h2]; rfl
theorem LR.has {B : Nat} {od : Nat → Option Nat} {ls : Array Slot} {nL : Nat} {lv : List (Option Value)} (h : LR B od ls nL lv) : lv_has ls nL (lvP B od lv) := by
  refine ⟨h.1, h.2.1, fun q hq => ?_⟩
  obtain ⟨v, h1, h2⟩ := lvP_mem.mp hq
  rw [h2]; exact h.2.2 _ _ h1
theorem LR.at {B : Nat} {od : Nat → Option Nat} {ls : Array Slot} {nL : Nat} {lv : List (Option Value)} (h : LR B od ls nL lv) {i : Nat} {v : Value} (hi : lv[i]? = some (some v)) : ls[i]? = some (.val (trV B od v)) := h.2.2 i v hi
def isC2 (v : Option (Option Value)) : Bool := match v with
  | some (some (.long _)) => true
  | some (some (.double _)) => true
  | _ => false
theorem isC2_cat {v : Value} : v.category = 2 → isC2 (some (some v)) = true := by cases v <;> simp [Value.category, isC2]
def lset1 (lv : List (Option Value)) (i : Nat) (v : Value) : List (Option Value) := match i with
  | 0 => lv.set 0 (some v)
  | j + 1 => if isC2 lv[j]? = true then (lv.set j none).set (j + 1) (some v) else lv.set (j + 1) (some v)
def lset2 (lv : List (Option Value)) (i : Nat) (v : Value) : List (Option Value) := (lset1 lv i v).set (i + 1) none
theorem lset1_get {lv : List (Option Value)} {i j : Nat} {v x : Value} (h : (lset1 lv i v)[j]? = some (some x)) : (j = i ∧ x = v) ∨ (j ≠ i ∧ lv[j]? = some (some x) ∧ ¬ (j + 1 = i ∧ x.category = 2)) := by
  cases i with
  | zero =>
    unfold lset1 at h
    rw [List.getElem?_set] at h
    by_cases e : 0 = j
    · rw [if_pos e] at h
      split at h
      · cases h; exact Or.inl ⟨e.symm, rfl⟩
      · cases h
    · rw [if_neg e] at h
      exact Or.inr ⟨fun q => e q.symm, h, fun q => by omega⟩
  | succ k =>
    unfold lset1 at h
    dsimp only at h
    by_cases hc : isC2 lv[k]? = true
    · rw [if_pos hc, List.getElem?_set, List.getElem?_set] at h
      by_cases e : k + 1 = j
      · rw [if_pos e] at h
        split at h
        · cases h; exact Or.inl ⟨e.symm, rfl⟩
        · cases h
      · rw [if_neg e] at h
        by_cases e2 : k = j
        · rw [if_pos e2] at h
          split at h
          · cases h
          · cases h
        · rw [if_neg e2] at h
          exact Or.inr ⟨fun q => e q.symm, h, fun q => e2 (by omega)⟩
    · rw [if_neg hc, List.getElem?_set] at h
      by_cases e : k + 1 = j
      · rw [if_pos e] at h
        split at h
        · cases h; exact Or.inl ⟨e.symm, rfl⟩
        · cases h
      · rw [if_neg e] at h
        refine Or.inr ⟨fun q => e q.symm, h, fun q => hc ?_⟩
        have hj : j = k := by omega
        rw [← hj, h]
        exact isC2_cat q.2
theorem LR.set1 {B : Nat} {od : Nat → Option Nat} {ls : Array Slot} {nL : Nat} {lv : List (Option Value)} (h : LR B od ls nL lv) {i : Nat} {v : Value} (hi : i < nL) (hc : v.category = 1) : ∃ l2, (i, trV B od v) :: (lvP B od lv).filter (fun q => !(q.1 == i) && !(q.1 + 1 == i && q.2.category == 2)) = l2 ∧ ∀ ls', lv_has ls' nL l2 → LR B od ls' nL (lset1 lv i v) := by
  refine ⟨_, rfl, fun ls' h' => ⟨h'.1, h'.2.1, fun j x hx => ?_⟩⟩
  rcases lset1_get hx with ⟨rfl, rfl⟩ | ⟨h1, h2, h3⟩
  · exact h'.2.2 _ List.mem_cons_self
  · refine h'.2.2 (j, trV B od x) (List.mem_cons_of_mem _ (List.mem_filter.mpr ⟨lvP_mem.mpr ⟨x, h2, rfl⟩, ?_⟩))
    simp only [trV_cat, Bool.and_eq_true, Bool.not_eq_true', beq_eq_false_iff_ne, ne_eq]
    refine ⟨h1, ?_⟩
    cases hq : (j + 1 == i && x.category == 2) with
    | false => rfl
    | true =>
      simp only [Bool.and_eq_true, beq_iff_eq] at hq
      exact absurd hq h3
theorem LR.set2 {B : Nat} {od : Nat → Option Nat} {ls : Array Slot} {nL : Nat} {lv : List (Option Value)} (h : LR B od ls nL lv) {i : Nat} {v : Value} (hi : i + 1 < nL) (hc : v.category = 2) : ∃ l2, (i, trV B od v) :: (lvP B od lv).filter (fun q => !(q.1 == i) && (!(q.1 == i + 1) && !(q.1 + 1 == i && q.2.category == 2))) = l2 ∧ ∀ ls', lv_has ls' nL l2 → LR B od ls' nL (lset2 lv i v) := by
  refine ⟨_, rfl, fun ls' h' => ⟨h'.1, h'.2.1, fun j x hx => ?_⟩⟩
  unfold lset2 at hx
  rw [List.getElem?_set] at hx
  by_cases e : i + 1 = j
  · rw [if_pos e] at hx
    split at hx
    · cases hx
    · cases hx
  · rw [if_neg e] at hx
    rcases lset1_get hx with ⟨rfl, rfl⟩ | ⟨h1, h2, h3⟩
    · exact h'.2.2 _ List.mem_cons_self
    · refine h'.2.2 (j, trV B od x) (List.mem_cons_of_mem _ (List.mem_filter.mpr ⟨lvP_mem.mpr ⟨x, h2, rfl⟩, ?_⟩))
      simp only [trV_cat, Bool.and_eq_true, Bool.not_eq_true', beq_eq_false_iff_ne, ne_eq]
      refine ⟨h1, fun q => e q.symm, ?_⟩
      cases hq : (j + 1 == i && x.category == 2) with
      | false => rfl
      | true =>
        simp only [Bool.and_eq_true, beq_iff_eq] at hq
        exact absurd hq h3
-- the entry's locals
def entL : List Value → List (Option Value)
  | [] => []
  | v :: vs => if v.category = 2 then some v :: none :: entL vs else some v :: entL vs
theorem entL_mem {B : Nat} {od : Nat → Option Nat} : ∀ (vs : List Value) (b i : Nat) (v : Value), (entL vs)[i]? = some (some v) → (b + i, trV B od v) ∈ lv_args b (vs.map (trV B od)) := by
  intro vs
  induction vs with
  | nil => intro b i v h; simp [entL] at h
  | cons x xs ih =>
    intro b i v h
    unfold entL at h
    rw [List.map_cons]
    unfold lv_args
    by_cases hc : x.category = 2
    · rw [if_pos hc] at h
      rw [trV_cat, if_pos hc]
      match i, h with
      | 0, h => simp at h; subst h; exact List.mem_cons_self
      | 1, h => simp at h
      | k + 2, h =>
        have h' : (entL xs)[k]? = some (some v) := by simpa using h
        have := ih (b + 2) k v h'
        rw [show b + (k + 2) = b + 2 + k by omega]
        exact List.mem_cons_of_mem _ this
    · rw [if_neg hc] at h
      rw [trV_cat, if_neg hc]
      match i, h with
      | 0, h => simp at h; subst h; exact List.mem_cons_self
      | k + 1, h =>
        have h' : (entL xs)[k]? = some (some v) := by simpa using h
        have := ih (b + 1) k v h'
        rw [show b + (k + 1) = b + 1 + k by omega]
        exact List.mem_cons_of_mem _ this
def entN (vs : List Value) (n : Nat) : List (Option Value) := entL vs ++ List.replicate (n - (entL vs).length) none
theorem LR.entry {B : Nat} {od : Nat → Option Nat} {vs : List Value} {n : Nat} {ls : Array Slot} (h : lv_has ls n (lv_args 0 (vs.map (trV B od)))) : LR B od ls n (entN vs n) := by
  refine ⟨h.1, h.2.1, fun i v hv => ?_⟩
  unfold entN at hv
  rw [List.getElem?_append] at hv
  split at hv
  · have := h.2.2 _ (entL_mem (B := B) (od := od) vs 0 i v hv)
    rw [Nat.zero_add] at this
    exact this
  · rw [List.getElem?_replicate] at hv
    split at hv
    · cases hv
    · cases hv
theorem lg_len (B : Nat) (od : Nat → Option Nat) (vs : List Value) : (lg_sl (vs.map (trV B od))).length = (entL vs).length := by
  induction vs with
  | nil => rfl
  | cons x xs ih =>
    unfold lg_sl at ih ⊢
    rw [List.map_cons, List.flatMap_cons, List.length_append, ih]
    rw [show entL (x :: xs) = if x.category = 2 then some x :: none :: entL xs else some x :: entL xs from rfl, trV_cat]
    by_cases hc : x.category = 2
    · rw [if_pos hc, if_pos hc]; simp; omega
    · rw [if_neg hc, if_neg hc]; simp; omega
-- the code's table: (pc, instruction, length, the next row, the target row)
abbrev PT : Type := Nat × Instr × Nat × Nat × Nat
def isTerm (x : Instr) : Bool := match x with
  | .goto _ => true
  | .ireturn => true
  | .lreturn => true
  | .dreturn => true
  | .areturn => true
  | .return_ => true
  | .athrow => true
  | .tableswitch _ _ _ _ => true
  | _ => false
def brOff (x : Instr) : Option Int := match x with
  | .goto o => some o
  | .ifCond _ o => some o
  | .if_icmp _ o => some o
  | .ifnull o => some o
  | .ifnonnull o => some o
  | _ => none
def okRow (tab : List PT) (q : PT) : Bool := (isTerm q.2.1 || (match tab[q.2.2.2.1]? with | some r => r.1 == q.1 + q.2.2.1 | none => false)) && (match brOff q.2.1 with | none => true | some d => (match tab[q.2.2.2.2]? with | some r => (q.1 : Int) + d == (r.1 : Int) | none => false))
def OkTab (cc : ByteArray) (tab : List PT) : Prop := (∀ q ∈ tab, decode cc q.1 = .ok (q.2.1, q.2.2.1)) ∧ (tab.all (okRow tab)) = true
theorem OkTab.dec {cc : ByteArray} {tab : List PT} (h : OkTab cc tab) {i pc len nx tg : Nat} {x : Instr} (hi : tab[i]? = some (pc, x, len, nx, tg)) : decode cc pc = .ok (x, len) := h.1 (pc, x, len, nx, tg) (List.mem_of_getElem? hi)
theorem OkTab.fall {cc : ByteArray} {tab : List PT} (h : OkTab cc tab) {i pc len nx tg : Nat} {x : Instr} (hi : tab[i]? = some (pc, x, len, nx, tg)) (ht : isTerm x = false) : ∃ q, tab[nx]? = some q ∧ q.1 = pc + len := by
  have h1 := List.all_eq_true.mp h.2 _ (List.mem_of_getElem? hi)
  unfold okRow at h1
  rw [Bool.and_eq_true, Bool.or_eq_true] at h1
  rcases h1.1 with h2 | h2
  · exact absurd (ht.symm.trans h2) (by decide)
  · dsimp only at h2
    split at h2
    · rename_i r hr
      exact ⟨r, hr, by simpa using h2⟩
    · cases h2
theorem OkTab.br {cc : ByteArray} {tab : List PT} (h : OkTab cc tab) {i pc len nx tg : Nat} {x : Instr} {d : Int} (hi : tab[i]? = some (pc, x, len, nx, tg)) (hd : brOff x = some d) : ∃ q, tab[tg]? = some q ∧ (pc : Int) + d = (q.1 : Int) := by
  have h1 := List.all_eq_true.mp h.2 _ (List.mem_of_getElem? hi)
  unfold okRow at h1
  rw [Bool.and_eq_true] at h1
  have h2 := h1.2
  dsimp only at h2
  rw [hd] at h2
  dsimp only at h2
  split at h2
  · rename_i r hr
    exact ⟨r, hr, by simpa using h2⟩
  · cases h2
/-- string constants: the class that names it, its number there, its text -/
def strT : List (String × Nat × String) := [("CashLedger$SetupReader", 68, "start"), ("CashLedger$SetupReader", 77, "assets"), ("CashLedger$SetupReader", 82, "interest"), ("CashLedger$SetupReader", 87, "top"), ("CashLedger$SetupReader", 92, "bracket"), ("CashLedger$SetupReader", 97, "room"), ("CashLedger$SetupReader", 142, "office"), ("CashLedger", 343, "the ledger's state does not allow this call"), ("CashLedger", 339, "an argument is out of range, or the text is not valid"), ("CashLedger", 353, "there is nothing of this number"), ("CashLedger", 230, "what is out of range"), ("CashLedger", 348, "there is no such value"), ("CashLedgerModel", 134, "bracket"), ("CashLedgerModel", 139, "room"), ("CashLedgerModel", 128, "office"), ("CashLedgerModel", 144, "start"), ("CashLedgerModel", 155, "assets"), ("CashLedgerModel", 157, "interest"), ("CashLedgerModel", 159, "top")]
def OldF (B : Nat) (od : Nat → Option Nat) (U : State) (H : Heap) : Prop := vx_Zq Bundle.tN "UNASSIGNED_STACK" Bundle.steD (fun q => B ≤ q) U H ∧ vx_Zq Bundle.tN "SUPPRESSED_SENTINEL" Bundle.listD (fun q => B ≤ q) U H ∧ (∀ (j : Nat) (q : String × Nat × String), strT[j]? = some q → ∃ a, od (1000000 + j) = some a ∧ vk_R q.1 q.2.1 q.2.2 a U) ∧ ∀ k, k < 1000000 → od k = none
def Wd (D : va_G) (cy : Nat → ClassId) (B : Nat) (od : Nat → Option Nat) (A : AH) (z : Nat) (U : State) : Prop := va_K D vwCl (tysc cy) U ∧ NW U ∧ RelA D B od A z U.heap ∧ B ≤ U.heap.size ∧ OldF B od U U.heap
theorem OldF.kept {B : Nat} {od : Nat → Option Nat} {U : State} {H H1 : Heap} (h : OldF B od U H) (hq : ∀ a : Nat, a < H.size → ¬ B ≤ a → H1[a]? = H[a]?) : OldF B od U H1 := ⟨h.1.kept hq, h.2.1.kept hq, h.2.2⟩
theorem OldF.warm {B : Nat} {od : Nat → Option Nat} {s U : State} {H : Heap} (hW : s.WarmedH U.vm) (h : OldF B od s H) : OldF B od U H := ⟨vx_Zq.moved hW.alike h.1, vx_Zq.moved hW.alike h.2.1, fun j q hj => by obtain ⟨a, h1, h2⟩ := h.2.2.1 j q hj; exact ⟨a, h1, h2.warm hW⟩, h.2.2.2⟩
theorem OldF.same {B : Nat} {od : Nat → Option Nat} {s U : State} {H : Heap} (hv : U.vm = s.vm) (h : OldF B od s H) : OldF B od U H := ⟨vx_Zq.moved (hv ▸ Vm.Alike.refl s.vm) h.1, vx_Zq.moved (hv ▸ Vm.Alike.refl s.vm) h.2.1, fun j q hj => by obtain ⟨a, h1, h2⟩ := h.2.2.1 j q hj; exact ⟨a, h1, h2.same hv⟩, h.2.2.2⟩
theorem Wd.same {D : va_G} {cy : Nat → ClassId} {B : Nat} {od : Nat → Option Nat} {A : AH} {z : Nat} {s U : State} (hv : U.vm = s.vm) (hh : U.heap = s.heap) (h : Wd D cy B od A z s) : Wd D cy B od A z U := by
  obtain ⟨h1, h2, h3, h4, h5⟩ := h
  exact ⟨va_K.moved (hv ▸ Vm.Alike.refl s.vm) h1, NW.same hv.symm h2, by rw [hh]; exact h3, by rw [hh]; exact h4, by rw [hh]; exact OldF.same hv h5⟩
def PcA (D : va_G) (cy : Nat → ClassId) (B : Nat) (od : Nat → Option Nat) (av : List Value) (A : AH) (z : Nat) : Array Value → State → Prop := fun v U => v = (av.map (trV B od)).toArray ∧ Wd D cy B od A z U
theorem PcA.blind {D : va_G} {cy : Nat → ClassId} {B : Nat} {od : Nat → Option Nat} {av : List Value} {A : AH} {z : Nat} : FrameBlind (PcA D cy B od av A z) := fun _ U _ _ h => ⟨h.1, Wd.same (s := U) rfl rfl h.2⟩
abbrev QT : Type := Option Value → AH → Nat → Prop
abbrev QX : Type := String → AH → Prop
def QcA (D : va_G) (B : Nat) (od : Nat → Option Nat) (Q : QT) : Array Value → State → Outcome → State → Prop := fun _ st oc t => (∃ (v : Option Value) (A' : AH) (z' : Nat), oc = .returned (v.map (trV B od)) ∧ Q v A' z' ∧ RelA D B od A' z' t.heap) ∧ va_F (fun q => B ≤ q) st t
def XcA (D : va_G) (B : Nat) (od : Nat → Option Nat) (Q : QX) : String → State → State → Prop := fun E st t => (∃ A' : AH, Q E A' ∧ RelA D B od A' 0 t.heap) ∧ va_F (fun q => B ≤ q) st t
def CT (l : Launch) (D : va_G) (cy : Nat → ClassId) (B : Nat) (od : Nat → Option Nat) (y : MethodName) (bytes : ByteArray) (maxL : Nat) (ret : Option FieldType) (rm : Room) (av : List Value) (A : AH) (z : Nat) (Q : QT) : Prop := Met l y (Cond.code y bytes maxL ret :: lw_good) rm (PcA D cy B od av A z) (QcA D B od Q) rm.cells rm.slots (fun q => B ≤ q)
def CX (l : Launch) (D : va_G) (cy : Nat → ClassId) (B : Nat) (od : Nat → Option Nat) (y : MethodName) (bytes : ByteArray) (maxL : Nat) (ret : Option FieldType) (rm : Room) (av : List Value) (A : AH) (z : Nat) (Q : QT) (Qx : QX) : Prop := vx_Met l y (Cond.code y bytes maxL ret :: lw_good) rm (PcA D cy B od av A z) (QcA D B od Q) (XcA D B od Qx) rm.cells rm.slots (fun q => B ≤ q)
section CORE
variable {p : Program} {l : Launch} {e : Env} {R : Room} {s : State} {m : MethodId} {args : Array Value} {below : List Frame} {meth : Method} {c : Code}
variable {D : va_G} {cy : Nat → ClassId} {B : Nat} {od : Nat → Option Nat} {cc : ByteArray} {nL : Nat} {tab : List PT} {own : String} {ret : Option FieldType}
/-- what holds all through a method's body -/
def Cx (p : Program) (s : State) (m : MethodId) (args : Array Value) (meth : Method) (c : Code) (D : va_G) (cy : Nat → ClassId) (B : Nat) (od : Nat → Option Nat) (cc : ByteArray) (nL : Nat) (tab : List PT) (own : String) (ret : Option FieldType) : Prop :=
  (p.tables.exec = Jvm.exec ∧ c.code = cc ∧ c.maxLocals = nL ∧ s.vm.findClass own = some m.cls ∧ ∀ v ∈ lw_good, v.before args s = true) ∧ va_K D vwCl (tysc cy) s ∧ NW s ∧ OkTab cc tab ∧ meth.sig.returnType = ret ∧ meth.locks = false ∧ B ≤ s.heap.size ∧ OldF B od s s.heap
/-- the end: b tells whether the body may throw -/
def FinQ (b : Bool) (D : va_G) (B : Nat) (od : Nat → Option Nat) (Q : QT) (Qx : QX) (args : Array Value) (s : State) (below : List Frame) (mc ms : Nat) : State → Prop := match b with
  | false => MQ below (QcA D B od Q) args s mc ms (fun q => B ≤ q)
  | true => vx_MQ below (QcA D B od Q) (XcA D B od Qx) args s mc ms (fun q => B ≤ q)
def G (p : Program) (l : Launch) (e : Env) (R : Room) (s : State) (m : MethodId) (args : Array Value) (below : List Frame) (meth : Method) (c : Code) (D : va_G) (B : Nat) (od : Nat → Option Nat) (nL : Nat) (tab : List PT) (F : State → Prop) (cells slots : Nat) (A : AH) (z i : Nat) (lv : List (Option Value)) (st : List Value) : Prop :=
  ∀ q, tab[i]? = some q → ∀ (H : Heap) (locs : List Loc) (ls : Array Slot), RelA D B od A z H → va_S (fun q => B ≤ q) s.heap H locs → LR B od ls nL lv → W p l e R s m args below meth c H locs cells slots F (F0 m q.1 ls (st.map (trV B od)))
theorem Cx.world {A : AH} {z : Nat} {H : Heap} {locs : List Loc} (X : Cx p s m args meth c D cy B od cc nL tab own ret) (hR : RelA D B od A z H) (hS : va_S (fun q => B ≤ q) s.heap H locs) : ∀ U : State, U.heap = H → s.WarmedH U.vm → Wd D cy B od A z U := by
  obtain ⟨-, hK, hN, -, -, -, hB, hO⟩ := X
  intro U hU hW
  refine ⟨va_K.moved hW.alike hK, hN.warm hW, by rw [hU]; exact hR, by rw [hU]; exact Nat.le_trans hB hS.1, ?_⟩
  rw [hU]
  exact OldF.warm hW (hO.kept (fun a h1 h2 => hS.2.1 a h1 h2))
variable {F : State → Prop} {cells slots : Nat} {A : AH} {z i pc len nx tg : Nat} {lv : List (Option Value)} {st : List Value}

theorem g_iconst (X : Cx p s m args meth c D cy B od cc nL tab own ret) {n : Int} {v : Int32} (hi : tab[i]? = some (pc, .iconst n, 1, nx, tg)) (hv : Int32.ofInt n = v) (kk : G p l e R s m args below meth c D B od nL tab F cells slots A z nx lv (.int v :: st)) : G p l e R s m args below meth c D B od nL tab F cells slots A z i lv st := by
  intro q hq H locs ls hR hS hl
  cases Option.some.inj (hi.symm.trans hq)
  obtain ⟨q2, hq2, e2⟩ := X.2.2.2.1.fall hi rfl
  have K := kk q2 hq2 H locs ls hR hS hl
  rw [e2] at K
  exact lv_iconst X.1.1 X.1.2.1 (X.2.2.2.1.dec hi) hv K
theorem g_bipush (X : Cx p s m args meth c D cy B od cc nL tab own ret) {n : Int} {v : Int32} (hi : tab[i]? = some (pc, .bipush n, 2, nx, tg)) (hv : (Int8.ofInt n).toInt32 = v) (kk : G p l e R s m args below meth c D B od nL tab F cells slots A z nx lv (.int v :: st)) : G p l e R s m args below meth c D B od nL tab F cells slots A z i lv st := by
  intro q hq H locs ls hR hS hl
  cases Option.some.inj (hi.symm.trans hq)
  obtain ⟨q2, hq2, e2⟩ := X.2.2.2.1.fall hi rfl
  have K := kk q2 hq2 H locs ls hR hS hl
  rw [e2] at K
  exact lv_bipush X.1.1 X.1.2.1 (X.2.2.2.1.dec hi) hv K
theorem g_sipush (X : Cx p s m args meth c D cy B od cc nL tab own ret) {n : Int} {v : Int32} (hi : tab[i]? = some (pc, .sipush n, 3, nx, tg)) (hv : (Int16.ofInt n).toInt32 = v) (kk : G p l e R s m args below meth c D B od nL tab F cells slots A z nx lv (.int v :: st)) : G p l e R s m args below meth c D B od nL tab F cells slots A z i lv st := by
  intro q hq H locs ls hR hS hl
  cases Option.some.inj (hi.symm.trans hq)
  obtain ⟨q2, hq2, e2⟩ := X.2.2.2.1.fall hi rfl
  have K := kk q2 hq2 H locs ls hR hS hl
  rw [e2] at K
  exact lv_sipush X.1.1 X.1.2.1 (X.2.2.2.1.dec hi) hv K
theorem g_lconst (X : Cx p s m args meth c D cy B od cc nL tab own ret) {n : Fin 2} {v : Int64} (hi : tab[i]? = some (pc, .lconst n, 1, nx, tg)) (hv : Int64.ofNat (n : Nat) = v) (kk : G p l e R s m args below meth c D B od nL tab F cells slots A z nx lv (.long v :: st)) : G p l e R s m args below meth c D B od nL tab F cells slots A z i lv st := by
  intro q hq H locs ls hR hS hl
  cases Option.some.inj (hi.symm.trans hq)
  obtain ⟨q2, hq2, e2⟩ := X.2.2.2.1.fall hi rfl
  have K := kk q2 hq2 H locs ls hR hS hl
  rw [e2] at K
  exact lv_lconst X.1.1 X.1.2.1 (X.2.2.2.1.dec hi) hv K
theorem g_dconst0 (X : Cx p s m args meth c D cy B od cc nL tab own ret)  (hi : tab[i]? = some (pc, .dconst 0, 1, nx, tg))  (kk : G p l e R s m args below meth c D B od nL tab F cells slots A z nx lv (.double 0 :: st)) : G p l e R s m args below meth c D B od nL tab F cells slots A z i lv st := by
  intro q hq H locs ls hR hS hl
  cases Option.some.inj (hi.symm.trans hq)
  obtain ⟨q2, hq2, e2⟩ := X.2.2.2.1.fall hi rfl
  have K := kk q2 hq2 H locs ls hR hS hl
  rw [e2] at K
  exact lv_dconst0 X.1.1 X.1.2.1 (X.2.2.2.1.dec hi) K
theorem g_ldc (X : Cx p s m args meth c D cy B od cc nL tab own ret) {ix : Nat} {v : Int32} (hi : tab[i]? = some (pc, .ldc ix, 2, nx, tg)) (hw : Cond.constant own ix v ∈ lw_good) (kk : G p l e R s m args below meth c D B od nL tab F cells slots A z nx lv (.int v :: st)) : G p l e R s m args below meth c D B od nL tab F cells slots A z i lv st := by
  intro q hq H locs ls hR hS hl
  cases Option.some.inj (hi.symm.trans hq)
  obtain ⟨q2, hq2, e2⟩ := X.2.2.2.1.fall hi rfl
  have K := kk q2 hq2 H locs ls hR hS hl
  rw [e2] at K
  exact lv_ldc X.1.1 X.1.2.1 X.1.2.2.2.1 (X.1.2.2.2.2 _ hw) (X.2.2.2.1.dec hi) K
theorem g_ldcw (X : Cx p s m args meth c D cy B od cc nL tab own ret) {ix : Nat} {v : Int32} (hi : tab[i]? = some (pc, .ldc_w ix, 3, nx, tg)) (hw : Cond.constant own ix v ∈ lw_good) (kk : G p l e R s m args below meth c D B od nL tab F cells slots A z nx lv (.int v :: st)) : G p l e R s m args below meth c D B od nL tab F cells slots A z i lv st := by
  intro q hq H locs ls hR hS hl
  cases Option.some.inj (hi.symm.trans hq)
  obtain ⟨q2, hq2, e2⟩ := X.2.2.2.1.fall hi rfl
  have K := kk q2 hq2 H locs ls hR hS hl
  rw [e2] at K
  exact lv_ldcw X.1.1 X.1.2.1 X.1.2.2.2.1 (X.1.2.2.2.2 _ hw) (X.2.2.2.1.dec hi) K
theorem g_ldc2 (X : Cx p s m args meth c D cy B od cc nL tab own ret) {ix : Nat} {v : Int64} (hi : tab[i]? = some (pc, .ldc2_w ix, 3, nx, tg)) (hw : Cond.constantLong own ix v ∈ lw_good) (kk : G p l e R s m args below meth c D B od nL tab F cells slots A z nx lv (.long v :: st)) : G p l e R s m args below meth c D B od nL tab F cells slots A z i lv st := by
  intro q hq H locs ls hR hS hl
  cases Option.some.inj (hi.symm.trans hq)
  obtain ⟨q2, hq2, e2⟩ := X.2.2.2.1.fall hi rfl
  have K := kk q2 hq2 H locs ls hR hS hl
  rw [e2] at K
  exact lv_ldc2 X.1.1 X.1.2.1 X.1.2.2.2.1 (X.1.2.2.2.2 _ hw) (X.2.2.2.1.dec hi) K
theorem g_ldc2d (X : Cx p s m args meth c D cy B od cc nL tab own ret) {ix : Nat} {v : UInt64} (hi : tab[i]? = some (pc, .ldc2_w ix, 3, nx, tg)) (hw : Cond.constantDouble own ix v ∈ lw_good) (kk : G p l e R s m args below meth c D B od nL tab F cells slots A z nx lv (.double v :: st)) : G p l e R s m args below meth c D B od nL tab F cells slots A z i lv st := by
  intro q hq H locs ls hR hS hl
  cases Option.some.inj (hi.symm.trans hq)
  obtain ⟨q2, hq2, e2⟩ := X.2.2.2.1.fall hi rfl
  have K := kk q2 hq2 H locs ls hR hS hl
  rw [e2] at K
  exact lv_ldc2d X.1.1 X.1.2.1 X.1.2.2.2.1 (X.1.2.2.2.2 _ hw) (X.2.2.2.1.dec hi) K
theorem g_iload (X : Cx p s m args meth c D cy B od cc nL tab own ret) {k : Nat} {x : Int32} (hi : tab[i]? = some (pc, .iload k, 2, nx, tg)) (hk : lv[k]? = some (some (.int x))) (kk : G p l e R s m args below meth c D B od nL tab F cells slots A z nx lv (.int x :: st)) : G p l e R s m args below meth c D B od nL tab F cells slots A z i lv st := by
  intro q hq H locs ls hR hS hl
  cases Option.some.inj (hi.symm.trans hq)
  obtain ⟨q2, hq2, e2⟩ := X.2.2.2.1.fall hi rfl
  have K := kk q2 hq2 H locs ls hR hS hl
  rw [e2] at K
  exact lv_iload X.1.1 X.1.2.1 (X.2.2.2.1.dec hi) (hl.at hk) K
theorem g_iload_n (X : Cx p s m args meth c D cy B od cc nL tab own ret) {k : Fin 4} {x : Int32} (hi : tab[i]? = some (pc, .iload_n k, 1, nx, tg)) (hk : lv[(k : Nat)]? = some (some (.int x))) (kk : G p l e R s m args below meth c D B od nL tab F cells slots A z nx lv (.int x :: st)) : G p l e R s m args below meth c D B od nL tab F cells slots A z i lv st := by
  intro q hq H locs ls hR hS hl
  cases Option.some.inj (hi.symm.trans hq)
  obtain ⟨q2, hq2, e2⟩ := X.2.2.2.1.fall hi rfl
  have K := kk q2 hq2 H locs ls hR hS hl
  rw [e2] at K
  exact lv_iload_n X.1.1 X.1.2.1 (X.2.2.2.1.dec hi) rfl (hl.at hk) K
theorem g_lload (X : Cx p s m args meth c D cy B od cc nL tab own ret) {k : Nat} {x : Int64} (hi : tab[i]? = some (pc, .lload k, 2, nx, tg)) (hk : lv[k]? = some (some (.long x))) (kk : G p l e R s m args below meth c D B od nL tab F cells slots A z nx lv (.long x :: st)) : G p l e R s m args below meth c D B od nL tab F cells slots A z i lv st := by
  intro q hq H locs ls hR hS hl
  cases Option.some.inj (hi.symm.trans hq)
  obtain ⟨q2, hq2, e2⟩ := X.2.2.2.1.fall hi rfl
  have K := kk q2 hq2 H locs ls hR hS hl
  rw [e2] at K
  exact lv_lload X.1.1 X.1.2.1 (X.2.2.2.1.dec hi) (hl.at hk) K
theorem g_lload_n (X : Cx p s m args meth c D cy B od cc nL tab own ret) {k : Fin 4} {x : Int64} (hi : tab[i]? = some (pc, .lload_n k, 1, nx, tg)) (hk : lv[(k : Nat)]? = some (some (.long x))) (kk : G p l e R s m args below meth c D B od nL tab F cells slots A z nx lv (.long x :: st)) : G p l e R s m args below meth c D B od nL tab F cells slots A z i lv st := by
  intro q hq H locs ls hR hS hl
  cases Option.some.inj (hi.symm.trans hq)
  obtain ⟨q2, hq2, e2⟩ := X.2.2.2.1.fall hi rfl
  have K := kk q2 hq2 H locs ls hR hS hl
  rw [e2] at K
  exact lv_lload_n X.1.1 X.1.2.1 (X.2.2.2.1.dec hi) rfl (hl.at hk) K
theorem g_dload (X : Cx p s m args meth c D cy B od cc nL tab own ret) {k : Nat} {x : UInt64} (hi : tab[i]? = some (pc, .dload k, 2, nx, tg)) (hk : lv[k]? = some (some (.double x))) (kk : G p l e R s m args below meth c D B od nL tab F cells slots A z nx lv (.double x :: st)) : G p l e R s m args below meth c D B od nL tab F cells slots A z i lv st := by
  intro q hq H locs ls hR hS hl
  cases Option.some.inj (hi.symm.trans hq)
  obtain ⟨q2, hq2, e2⟩ := X.2.2.2.1.fall hi rfl
  have K := kk q2 hq2 H locs ls hR hS hl
  rw [e2] at K
  exact lv_dload X.1.1 X.1.2.1 (X.2.2.2.1.dec hi) (hl.at hk) K
theorem g_dload_n (X : Cx p s m args meth c D cy B od cc nL tab own ret) {k : Fin 4} {x : UInt64} (hi : tab[i]? = some (pc, .dload_n k, 1, nx, tg)) (hk : lv[(k : Nat)]? = some (some (.double x))) (kk : G p l e R s m args below meth c D B od nL tab F cells slots A z nx lv (.double x :: st)) : G p l e R s m args below meth c D B od nL tab F cells slots A z i lv st := by
  intro q hq H locs ls hR hS hl
  cases Option.some.inj (hi.symm.trans hq)
  obtain ⟨q2, hq2, e2⟩ := X.2.2.2.1.fall hi rfl
  have K := kk q2 hq2 H locs ls hR hS hl
  rw [e2] at K
  exact lv_dload_n X.1.1 X.1.2.1 (X.2.2.2.1.dec hi) rfl (hl.at hk) K
theorem g_aload (X : Cx p s m args meth c D cy B od cc nL tab own ret) {k : Nat} {x : Nat} (hi : tab[i]? = some (pc, .aload k, 2, nx, tg)) (hk : lv[k]? = some (some (.ref x))) (kk : G p l e R s m args below meth c D B od nL tab F cells slots A z nx lv (.ref x :: st)) : G p l e R s m args below meth c D B od nL tab F cells slots A z i lv st := by
  intro q hq H locs ls hR hS hl
  cases Option.some.inj (hi.symm.trans hq)
  obtain ⟨q2, hq2, e2⟩ := X.2.2.2.1.fall hi rfl
  have K := kk q2 hq2 H locs ls hR hS hl
  rw [e2] at K
  exact lv_aload X.1.1 X.1.2.1 (X.2.2.2.1.dec hi) (hl.at hk) K
theorem g_aload_n (X : Cx p s m args meth c D cy B od cc nL tab own ret) {k : Fin 4} {x : Nat} (hi : tab[i]? = some (pc, .aload_n k, 1, nx, tg)) (hk : lv[(k : Nat)]? = some (some (.ref x))) (kk : G p l e R s m args below meth c D B od nL tab F cells slots A z nx lv (.ref x :: st)) : G p l e R s m args below meth c D B od nL tab F cells slots A z i lv st := by
  intro q hq H locs ls hR hS hl
  cases Option.some.inj (hi.symm.trans hq)
  obtain ⟨q2, hq2, e2⟩ := X.2.2.2.1.fall hi rfl
  have K := kk q2 hq2 H locs ls hR hS hl
  rw [e2] at K
  exact lv_aload_n X.1.1 X.1.2.1 (X.2.2.2.1.dec hi) rfl (hl.at hk) K
theorem g_istore (X : Cx p s m args meth c D cy B od cc nL tab own ret) {k : Nat} {x : Int32} (hi : tab[i]? = some (pc, .istore k, 2, nx, tg)) (hn : k < nL) (kk : G p l e R s m args below meth c D B od nL tab F cells slots A z nx (lset1 lv k (.int x)) st) : G p l e R s m args below meth c D B od nL tab F cells slots A z i lv (.int x :: st) := by
  intro q hq H locs ls hR hS hl
  cases Option.some.inj (hi.symm.trans hq)
  obtain ⟨q2, hq2, e2⟩ := X.2.2.2.1.fall hi rfl
  obtain ⟨l2, h2, h3⟩ := hl.set1 (v := .int x) hn rfl
  refine lv_istore X.1.1 X.1.2.1 (X.2.2.2.1.dec hi) hl.has hn h2 (fun ls2 hl2 => ?_)
  have K := kk q2 hq2 H locs ls2 hR hS (h3 ls2 hl2)
  rw [e2] at K
  exact K
theorem g_istore_n (X : Cx p s m args meth c D cy B od cc nL tab own ret) {k : Fin 4} {x : Int32} (hi : tab[i]? = some (pc, .istore_n k, 1, nx, tg)) (hn : (k : Nat) < nL) (kk : G p l e R s m args below meth c D B od nL tab F cells slots A z nx (lset1 lv (k : Nat) (.int x)) st) : G p l e R s m args below meth c D B od nL tab F cells slots A z i lv (.int x :: st) := by
  intro q hq H locs ls hR hS hl
  cases Option.some.inj (hi.symm.trans hq)
  obtain ⟨q2, hq2, e2⟩ := X.2.2.2.1.fall hi rfl
  obtain ⟨l2, h2, h3⟩ := hl.set1 (v := .int x) hn rfl
  refine lv_istore_n X.1.1 X.1.2.1 (X.2.2.2.1.dec hi) rfl hl.has hn h2 (fun ls2 hl2 => ?_)
  have K := kk q2 hq2 H locs ls2 hR hS (h3 ls2 hl2)
  rw [e2] at K
  exact K
theorem g_lstore (X : Cx p s m args meth c D cy B od cc nL tab own ret) {k : Nat} {x : Int64} (hi : tab[i]? = some (pc, .lstore k, 2, nx, tg)) (hn : k + 1 < nL) (kk : G p l e R s m args below meth c D B od nL tab F cells slots A z nx (lset2 lv k (.long x)) st) : G p l e R s m args below meth c D B od nL tab F cells slots A z i lv (.long x :: st) := by
  intro q hq H locs ls hR hS hl
  cases Option.some.inj (hi.symm.trans hq)
  obtain ⟨q2, hq2, e2⟩ := X.2.2.2.1.fall hi rfl
  obtain ⟨l2, h2, h3⟩ := hl.set2 (v := .long x) hn rfl
  refine lv_lstore X.1.1 X.1.2.1 (X.2.2.2.1.dec hi) hl.has hn h2 (fun ls2 hl2 => ?_)
  have K := kk q2 hq2 H locs ls2 hR hS (h3 ls2 hl2)
  rw [e2] at K
  exact K
theorem g_lstore_n (X : Cx p s m args meth c D cy B od cc nL tab own ret) {k : Fin 4} {x : Int64} (hi : tab[i]? = some (pc, .lstore_n k, 1, nx, tg)) (hn : (k : Nat) + 1 < nL) (kk : G p l e R s m args below meth c D B od nL tab F cells slots A z nx (lset2 lv (k : Nat) (.long x)) st) : G p l e R s m args below meth c D B od nL tab F cells slots A z i lv (.long x :: st) := by
  intro q hq H locs ls hR hS hl
  cases Option.some.inj (hi.symm.trans hq)
  obtain ⟨q2, hq2, e2⟩ := X.2.2.2.1.fall hi rfl
  obtain ⟨l2, h2, h3⟩ := hl.set2 (v := .long x) hn rfl
  refine lv_lstore_n X.1.1 X.1.2.1 (X.2.2.2.1.dec hi) rfl hl.has hn h2 (fun ls2 hl2 => ?_)
  have K := kk q2 hq2 H locs ls2 hR hS (h3 ls2 hl2)
  rw [e2] at K
  exact K
theorem g_dstore (X : Cx p s m args meth c D cy B od cc nL tab own ret) {k : Nat} {x : UInt64} (hi : tab[i]? = some (pc, .dstore k, 2, nx, tg)) (hn : k + 1 < nL) (kk : G p l e R s m args below meth c D B od nL tab F cells slots A z nx (lset2 lv k (.double x)) st) : G p l e R s m args below meth c D B od nL tab F cells slots A z i lv (.double x :: st) := by
  intro q hq H locs ls hR hS hl
  cases Option.some.inj (hi.symm.trans hq)
  obtain ⟨q2, hq2, e2⟩ := X.2.2.2.1.fall hi rfl
  obtain ⟨l2, h2, h3⟩ := hl.set2 (v := .double x) hn rfl
  refine lv_dstore X.1.1 X.1.2.1 (X.2.2.2.1.dec hi) hl.has hn h2 (fun ls2 hl2 => ?_)
  have K := kk q2 hq2 H locs ls2 hR hS (h3 ls2 hl2)
  rw [e2] at K
  exact K
theorem g_dstore_n (X : Cx p s m args meth c D cy B od cc nL tab own ret) {k : Fin 4} {x : UInt64} (hi : tab[i]? = some (pc, .dstore_n k, 1, nx, tg)) (hn : (k : Nat) + 1 < nL) (kk : G p l e R s m args below meth c D B od nL tab F cells slots A z nx (lset2 lv (k : Nat) (.double x)) st) : G p l e R s m args below meth c D B od nL tab F cells slots A z i lv (.double x :: st) := by
  intro q hq H locs ls hR hS hl
  cases Option.some.inj (hi.symm.trans hq)
  obtain ⟨q2, hq2, e2⟩ := X.2.2.2.1.fall hi rfl
  obtain ⟨l2, h2, h3⟩ := hl.set2 (v := .double x) hn rfl
  refine lv_dstore_n X.1.1 X.1.2.1 (X.2.2.2.1.dec hi) rfl hl.has hn h2 (fun ls2 hl2 => ?_)
  have K := kk q2 hq2 H locs ls2 hR hS (h3 ls2 hl2)
  rw [e2] at K
  exact K
theorem g_astore (X : Cx p s m args meth c D cy B od cc nL tab own ret) {k : Nat} {x : Nat} (hi : tab[i]? = some (pc, .astore k, 2, nx, tg)) (hn : k < nL) (kk : G p l e R s m args below meth c D B od nL tab F cells slots A z nx (lset1 lv k (.ref x)) st) : G p l e R s m args below meth c D B od nL tab F cells slots A z i lv (.ref x :: st) := by
  intro q hq H locs ls hR hS hl
  cases Option.some.inj (hi.symm.trans hq)
  obtain ⟨q2, hq2, e2⟩ := X.2.2.2.1.fall hi rfl
  obtain ⟨l2, h2, h3⟩ := hl.set1 (v := .ref x) hn rfl
  refine lv_astore X.1.1 X.1.2.1 (X.2.2.2.1.dec hi) hl.has hn h2 (fun ls2 hl2 => ?_)
  have K := kk q2 hq2 H locs ls2 hR hS (h3 ls2 hl2)
  rw [e2] at K
  exact K
theorem g_astore_n (X : Cx p s m args meth c D cy B od cc nL tab own ret) {k : Fin 4} {x : Nat} (hi : tab[i]? = some (pc, .astore_n k, 1, nx, tg)) (hn : (k : Nat) < nL) (kk : G p l e R s m args below meth c D B od nL tab F cells slots A z nx (lset1 lv (k : Nat) (.ref x)) st) : G p l e R s m args below meth c D B od nL tab F cells slots A z i lv (.ref x :: st) := by
  intro q hq H locs ls hR hS hl
  cases Option.some.inj (hi.symm.trans hq)
  obtain ⟨q2, hq2, e2⟩ := X.2.2.2.1.fall hi rfl
  obtain ⟨l2, h2, h3⟩ := hl.set1 (v := .ref x) hn rfl
  refine lv_astore_n X.1.1 X.1.2.1 (X.2.2.2.1.dec hi) rfl hl.has hn h2 (fun ls2 hl2 => ?_)
  have K := kk q2 hq2 H locs ls2 hR hS (h3 ls2 hl2)
  rw [e2] at K
  exact K
theorem g_iinc (X : Cx p s m args meth c D cy B od cc nL tab own ret) {k : Nat} {n : Int} {x : Int32} (hi : tab[i]? = some (pc, .iinc k n, 3, nx, tg)) (hk : lv[k]? = some (some (.int x))) (hn : k < nL) (kk : G p l e R s m args below meth c D B od nL tab F cells slots A z nx (lset1 lv k (.int (x + Int32.ofInt n))) st) : G p l e R s m args below meth c D B od nL tab F cells slots A z i lv st := by
  intro q hq H locs ls hR hS hl
  cases Option.some.inj (hi.symm.trans hq)
  obtain ⟨q2, hq2, e2⟩ := X.2.2.2.1.fall hi rfl
  obtain ⟨l2, h2, h3⟩ := hl.set1 (v := .int (x + Int32.ofInt n)) hn rfl
  obtain ⟨k2, hk2⟩ := List.getElem?_of_mem (lvP_mem.mpr ⟨.int x, hk, rfl⟩ : ((k, trV B od (.int x)) : Nat × Value) ∈ lvP B od lv)
  refine lv_iinc X.1.1 X.1.2.1 (X.2.2.2.1.dec hi) hl.has hk2 rfl hn h2 (fun ls2 hl2 => ?_)
  have K := kk q2 hq2 H locs ls2 hR hS (h3 ls2 hl2)
  rw [e2] at K
  exact K
theorem g_iadd (X : Cx p s m args meth c D cy B od cc nL tab own ret) {x y : Int32} (hi : tab[i]? = some (pc, .iadd, 1, nx, tg))  (kk : G p l e R s m args below meth c D B od nL tab F cells slots A z nx lv (.int (x + y) :: st)) : G p l e R s m args below meth c D B od nL tab F cells slots A z i lv (.int y :: .int x :: st) := by
  intro q hq H locs ls hR hS hl
  cases Option.some.inj (hi.symm.trans hq)
  obtain ⟨q2, hq2, e2⟩ := X.2.2.2.1.fall hi rfl
  have K := kk q2 hq2 H locs ls hR hS hl
  rw [e2] at K
  exact lv_iadd X.1.1 X.1.2.1 (X.2.2.2.1.dec hi) K
theorem g_isub (X : Cx p s m args meth c D cy B od cc nL tab own ret) {x y : Int32} (hi : tab[i]? = some (pc, .isub, 1, nx, tg))  (kk : G p l e R s m args below meth c D B od nL tab F cells slots A z nx lv (.int (x - y) :: st)) : G p l e R s m args below meth c D B od nL tab F cells slots A z i lv (.int y :: .int x :: st) := by
  intro q hq H locs ls hR hS hl
  cases Option.some.inj (hi.symm.trans hq)
  obtain ⟨q2, hq2, e2⟩ := X.2.2.2.1.fall hi rfl
  have K := kk q2 hq2 H locs ls hR hS hl
  rw [e2] at K
  exact lv_isub X.1.1 X.1.2.1 (X.2.2.2.1.dec hi) K
theorem g_imul (X : Cx p s m args meth c D cy B od cc nL tab own ret) {x y : Int32} (hi : tab[i]? = some (pc, .imul, 1, nx, tg))  (kk : G p l e R s m args below meth c D B od nL tab F cells slots A z nx lv (.int (x * y) :: st)) : G p l e R s m args below meth c D B od nL tab F cells slots A z i lv (.int y :: .int x :: st) := by
  intro q hq H locs ls hR hS hl
  cases Option.some.inj (hi.symm.trans hq)
  obtain ⟨q2, hq2, e2⟩ := X.2.2.2.1.fall hi rfl
  have K := kk q2 hq2 H locs ls hR hS hl
  rw [e2] at K
  exact lv_imul X.1.1 X.1.2.1 (X.2.2.2.1.dec hi) K
theorem g_iand (X : Cx p s m args meth c D cy B od cc nL tab own ret) {x y : Int32} (hi : tab[i]? = some (pc, .iand, 1, nx, tg))  (kk : G p l e R s m args below meth c D B od nL tab F cells slots A z nx lv (.int (x &&& y) :: st)) : G p l e R s m args below meth c D B od nL tab F cells slots A z i lv (.int y :: .int x :: st) := by
  intro q hq H locs ls hR hS hl
  cases Option.some.inj (hi.symm.trans hq)
  obtain ⟨q2, hq2, e2⟩ := X.2.2.2.1.fall hi rfl
  have K := kk q2 hq2 H locs ls hR hS hl
  rw [e2] at K
  exact lv_iand X.1.1 X.1.2.1 (X.2.2.2.1.dec hi) K
theorem g_ior (X : Cx p s m args meth c D cy B od cc nL tab own ret) {x y : Int32} (hi : tab[i]? = some (pc, .ior, 1, nx, tg))  (kk : G p l e R s m args below meth c D B od nL tab F cells slots A z nx lv (.int (x ||| y) :: st)) : G p l e R s m args below meth c D B od nL tab F cells slots A z i lv (.int y :: .int x :: st) := by
  intro q hq H locs ls hR hS hl
  cases Option.some.inj (hi.symm.trans hq)
  obtain ⟨q2, hq2, e2⟩ := X.2.2.2.1.fall hi rfl
  have K := kk q2 hq2 H locs ls hR hS hl
  rw [e2] at K
  exact lv_ior X.1.1 X.1.2.1 (X.2.2.2.1.dec hi) K
theorem g_ishl (X : Cx p s m args meth c D cy B od cc nL tab own ret) {x y : Int32} (hi : tab[i]? = some (pc, .ishl, 1, nx, tg))  (kk : G p l e R s m args below meth c D B od nL tab F cells slots A z nx lv (.int (x <<< (y &&& 31)) :: st)) : G p l e R s m args below meth c D B od nL tab F cells slots A z i lv (.int y :: .int x :: st) := by
  intro q hq H locs ls hR hS hl
  cases Option.some.inj (hi.symm.trans hq)
  obtain ⟨q2, hq2, e2⟩ := X.2.2.2.1.fall hi rfl
  have K := kk q2 hq2 H locs ls hR hS hl
  rw [e2] at K
  exact lv_ishl X.1.1 X.1.2.1 (X.2.2.2.1.dec hi) K
theorem g_ishr (X : Cx p s m args meth c D cy B od cc nL tab own ret) {x y : Int32} (hi : tab[i]? = some (pc, .ishr, 1, nx, tg))  (kk : G p l e R s m args below meth c D B od nL tab F cells slots A z nx lv (.int (x >>> (y &&& 31)) :: st)) : G p l e R s m args below meth c D B od nL tab F cells slots A z i lv (.int y :: .int x :: st) := by
  intro q hq H locs ls hR hS hl
  cases Option.some.inj (hi.symm.trans hq)
  obtain ⟨q2, hq2, e2⟩ := X.2.2.2.1.fall hi rfl
  have K := kk q2 hq2 H locs ls hR hS hl
  rw [e2] at K
  exact lv_ishr X.1.1 X.1.2.1 (X.2.2.2.1.dec hi) K
theorem g_iushr (X : Cx p s m args meth c D cy B od cc nL tab own ret) {x y : Int32} (hi : tab[i]? = some (pc, .iushr, 1, nx, tg))  (kk : G p l e R s m args below meth c D B od nL tab F cells slots A z nx lv (.int ((x.toUInt32 >>> (y.toUInt32 &&& Int32.toUInt32 31)).toInt32) :: st)) : G p l e R s m args below meth c D B od nL tab F cells slots A z i lv (.int y :: .int x :: st) := by
  intro q hq H locs ls hR hS hl
  cases Option.some.inj (hi.symm.trans hq)
  obtain ⟨q2, hq2, e2⟩ := X.2.2.2.1.fall hi rfl
  have K := kk q2 hq2 H locs ls hR hS hl
  rw [e2] at K
  exact lv_iushr X.1.1 X.1.2.1 (X.2.2.2.1.dec hi) rfl K
theorem g_idiv (X : Cx p s m args meth c D cy B od cc nL tab own ret) {x y : Int32} (hi : tab[i]? = some (pc, .idiv, 1, nx, tg)) (hne : ¬ y = 0) (kk : G p l e R s m args below meth c D B od nL tab F cells slots A z nx lv (.int (x / y) :: st)) : G p l e R s m args below meth c D B od nL tab F cells slots A z i lv (.int y :: .int x :: st) := by
  intro q hq H locs ls hR hS hl
  cases Option.some.inj (hi.symm.trans hq)
  obtain ⟨q2, hq2, e2⟩ := X.2.2.2.1.fall hi rfl
  have K := kk q2 hq2 H locs ls hR hS hl
  rw [e2] at K
  exact lv_idiv X.1.1 X.1.2.1 (X.2.2.2.1.dec hi) hne K
theorem g_irem (X : Cx p s m args meth c D cy B od cc nL tab own ret) {x y : Int32} (hi : tab[i]? = some (pc, .irem, 1, nx, tg)) (hne : ¬ y = 0) (kk : G p l e R s m args below meth c D B od nL tab F cells slots A z nx lv (.int (x - x / y * y) :: st)) : G p l e R s m args below meth c D B od nL tab F cells slots A z i lv (.int y :: .int x :: st) := by
  intro q hq H locs ls hR hS hl
  cases Option.some.inj (hi.symm.trans hq)
  obtain ⟨q2, hq2, e2⟩ := X.2.2.2.1.fall hi rfl
  have K := kk q2 hq2 H locs ls hR hS hl
  rw [e2] at K
  exact lv_irem X.1.1 X.1.2.1 (X.2.2.2.1.dec hi) hne K
theorem g_ladd (X : Cx p s m args meth c D cy B od cc nL tab own ret) {x y : Int64} (hi : tab[i]? = some (pc, .ladd, 1, nx, tg))  (kk : G p l e R s m args below meth c D B od nL tab F cells slots A z nx lv (.long (x + y) :: st)) : G p l e R s m args below meth c D B od nL tab F cells slots A z i lv (.long y :: .long x :: st) := by
  intro q hq H locs ls hR hS hl
  cases Option.some.inj (hi.symm.trans hq)
  obtain ⟨q2, hq2, e2⟩ := X.2.2.2.1.fall hi rfl
  have K := kk q2 hq2 H locs ls hR hS hl
  rw [e2] at K
  exact lv_ladd X.1.1 X.1.2.1 (X.2.2.2.1.dec hi) K
theorem g_lsub (X : Cx p s m args meth c D cy B od cc nL tab own ret) {x y : Int64} (hi : tab[i]? = some (pc, .lsub, 1, nx, tg))  (kk : G p l e R s m args below meth c D B od nL tab F cells slots A z nx lv (.long (x - y) :: st)) : G p l e R s m args below meth c D B od nL tab F cells slots A z i lv (.long y :: .long x :: st) := by
  intro q hq H locs ls hR hS hl
  cases Option.some.inj (hi.symm.trans hq)
  obtain ⟨q2, hq2, e2⟩ := X.2.2.2.1.fall hi rfl
  have K := kk q2 hq2 H locs ls hR hS hl
  rw [e2] at K
  exact lv_lsub X.1.1 X.1.2.1 (X.2.2.2.1.dec hi) K
theorem g_lmul (X : Cx p s m args meth c D cy B od cc nL tab own ret) {x y : Int64} (hi : tab[i]? = some (pc, .lmul, 1, nx, tg))  (kk : G p l e R s m args below meth c D B od nL tab F cells slots A z nx lv (.long (x * y) :: st)) : G p l e R s m args below meth c D B od nL tab F cells slots A z i lv (.long y :: .long x :: st) := by
  intro q hq H locs ls hR hS hl
  cases Option.some.inj (hi.symm.trans hq)
  obtain ⟨q2, hq2, e2⟩ := X.2.2.2.1.fall hi rfl
  have K := kk q2 hq2 H locs ls hR hS hl
  rw [e2] at K
  exact lv_lmul X.1.1 X.1.2.1 (X.2.2.2.1.dec hi) K
theorem g_ldiv (X : Cx p s m args meth c D cy B od cc nL tab own ret) {x y : Int64} (hi : tab[i]? = some (pc, .ldiv, 1, nx, tg)) (hne : ¬ y = 0) (kk : G p l e R s m args below meth c D B od nL tab F cells slots A z nx lv (.long (x / y) :: st)) : G p l e R s m args below meth c D B od nL tab F cells slots A z i lv (.long y :: .long x :: st) := by
  intro q hq H locs ls hR hS hl
  cases Option.some.inj (hi.symm.trans hq)
  obtain ⟨q2, hq2, e2⟩ := X.2.2.2.1.fall hi rfl
  have K := kk q2 hq2 H locs ls hR hS hl
  rw [e2] at K
  exact lv_ldiv X.1.1 X.1.2.1 (X.2.2.2.1.dec hi) hne K
theorem g_ineg (X : Cx p s m args meth c D cy B od cc nL tab own ret) {x : Int32} (hi : tab[i]? = some (pc, .ineg, 1, nx, tg))  (kk : G p l e R s m args below meth c D B od nL tab F cells slots A z nx lv (.int (-x) :: st)) : G p l e R s m args below meth c D B od nL tab F cells slots A z i lv (.int x :: st) := by
  intro q hq H locs ls hR hS hl
  cases Option.some.inj (hi.symm.trans hq)
  obtain ⟨q2, hq2, e2⟩ := X.2.2.2.1.fall hi rfl
  have K := kk q2 hq2 H locs ls hR hS hl
  rw [e2] at K
  exact lv_ineg X.1.1 X.1.2.1 (X.2.2.2.1.dec hi) K
theorem g_lneg (X : Cx p s m args meth c D cy B od cc nL tab own ret) {x : Int64} (hi : tab[i]? = some (pc, .lneg, 1, nx, tg))  (kk : G p l e R s m args below meth c D B od nL tab F cells slots A z nx lv (.long (-x) :: st)) : G p l e R s m args below meth c D B od nL tab F cells slots A z i lv (.long x :: st) := by
  intro q hq H locs ls hR hS hl
  cases Option.some.inj (hi.symm.trans hq)
  obtain ⟨q2, hq2, e2⟩ := X.2.2.2.1.fall hi rfl
  have K := kk q2 hq2 H locs ls hR hS hl
  rw [e2] at K
  exact lv_lneg X.1.1 X.1.2.1 (X.2.2.2.1.dec hi) K
theorem g_i2l (X : Cx p s m args meth c D cy B od cc nL tab own ret) {x : Int32} (hi : tab[i]? = some (pc, .i2l, 1, nx, tg))  (kk : G p l e R s m args below meth c D B od nL tab F cells slots A z nx lv (.long x.toInt64 :: st)) : G p l e R s m args below meth c D B od nL tab F cells slots A z i lv (.int x :: st) := by
  intro q hq H locs ls hR hS hl
  cases Option.some.inj (hi.symm.trans hq)
  obtain ⟨q2, hq2, e2⟩ := X.2.2.2.1.fall hi rfl
  have K := kk q2 hq2 H locs ls hR hS hl
  rw [e2] at K
  exact lv_i2l X.1.1 X.1.2.1 (X.2.2.2.1.dec hi) rfl K
theorem g_l2i (X : Cx p s m args meth c D cy B od cc nL tab own ret) {x : Int64} (hi : tab[i]? = some (pc, .l2i, 1, nx, tg))  (kk : G p l e R s m args below meth c D B od nL tab F cells slots A z nx lv (.int x.toInt32 :: st)) : G p l e R s m args below meth c D B od nL tab F cells slots A z i lv (.long x :: st) := by
  intro q hq H locs ls hR hS hl
  cases Option.some.inj (hi.symm.trans hq)
  obtain ⟨q2, hq2, e2⟩ := X.2.2.2.1.fall hi rfl
  have K := kk q2 hq2 H locs ls hR hS hl
  rw [e2] at K
  exact lv_l2i X.1.1 X.1.2.1 (X.2.2.2.1.dec hi) rfl K
theorem g_i2c (X : Cx p s m args meth c D cy B od cc nL tab own ret) {x : Int32} (hi : tab[i]? = some (pc, .i2c, 1, nx, tg))  (kk : G p l e R s m args below meth c D B od nL tab F cells slots A z nx lv (.int (x.toUInt32 % 65536).toInt32 :: st)) : G p l e R s m args below meth c D B od nL tab F cells slots A z i lv (.int x :: st) := by
  intro q hq H locs ls hR hS hl
  cases Option.some.inj (hi.symm.trans hq)
  obtain ⟨q2, hq2, e2⟩ := X.2.2.2.1.fall hi rfl
  have K := kk q2 hq2 H locs ls hR hS hl
  rw [e2] at K
  exact lv_i2c X.1.1 X.1.2.1 (X.2.2.2.1.dec hi) rfl K
theorem g_l2d (X : Cx p s m args meth c D cy B od cc nL tab own ret) {x : Int64} (hi : tab[i]? = some (pc, .l2d, 1, nx, tg))  (kk : G p l e R s m args below meth c D B od nL tab F cells slots A z nx lv (.double (FP.l2d x) :: st)) : G p l e R s m args below meth c D B od nL tab F cells slots A z i lv (.long x :: st) := by
  intro q hq H locs ls hR hS hl
  cases Option.some.inj (hi.symm.trans hq)
  obtain ⟨q2, hq2, e2⟩ := X.2.2.2.1.fall hi rfl
  have K := kk q2 hq2 H locs ls hR hS hl
  rw [e2] at K
  exact lv_l2d X.1.1 X.1.2.1 (X.2.2.2.1.dec hi) K
theorem g_dmul (X : Cx p s m args meth c D cy B od cc nL tab own ret) {x y : UInt64} (hi : tab[i]? = some (pc, .dmul, 1, nx, tg)) (hne : vf_n64 (FP.dmul x y)) (kk : G p l e R s m args below meth c D B od nL tab F cells slots A z nx lv (.double (FP.dmul x y) :: st)) : G p l e R s m args below meth c D B od nL tab F cells slots A z i lv (.double y :: .double x :: st) := by
  intro q hq H locs ls hR hS hl
  cases Option.some.inj (hi.symm.trans hq)
  obtain ⟨q2, hq2, e2⟩ := X.2.2.2.1.fall hi rfl
  have K := kk q2 hq2 H locs ls hR hS hl
  rw [e2] at K
  exact lv_dmul X.1.1 X.1.2.1 (X.2.2.2.1.dec hi) hne K
theorem g_ddiv (X : Cx p s m args meth c D cy B od cc nL tab own ret) {x y : UInt64} (hi : tab[i]? = some (pc, .ddiv, 1, nx, tg)) (hne : vf_n64 (FP.ddiv x y)) (kk : G p l e R s m args below meth c D B od nL tab F cells slots A z nx lv (.double (FP.ddiv x y) :: st)) : G p l e R s m args below meth c D B od nL tab F cells slots A z i lv (.double y :: .double x :: st) := by
  intro q hq H locs ls hR hS hl
  cases Option.some.inj (hi.symm.trans hq)
  obtain ⟨q2, hq2, e2⟩ := X.2.2.2.1.fall hi rfl
  have K := kk q2 hq2 H locs ls hR hS hl
  rw [e2] at K
  exact lv_ddiv X.1.1 X.1.2.1 (X.2.2.2.1.dec hi) hne K
theorem g_dcmp (X : Cx p s m args meth c D cy B od cc nL tab own ret) {op : CmpOp} {x y : UInt64} (hi : tab[i]? = some (pc, .dcmp op, 1, nx, tg))  (kk : G p l e R s m args below meth c D B od nL tab F cells slots A z nx lv (.int (Op.cmpValue (FP.dcmp x y) op) :: st)) : G p l e R s m args below meth c D B od nL tab F cells slots A z i lv (.double y :: .double x :: st) := by
  intro q hq H locs ls hR hS hl
  cases Option.some.inj (hi.symm.trans hq)
  obtain ⟨q2, hq2, e2⟩ := X.2.2.2.1.fall hi rfl
  have K := kk q2 hq2 H locs ls hR hS hl
  rw [e2] at K
  exact lv_dcmp X.1.1 X.1.2.1 (X.2.2.2.1.dec hi) K
theorem g_lcmp (X : Cx p s m args meth c D cy B od cc nL tab own ret) {x y : Int64} (hi : tab[i]? = some (pc, .lcmp, 1, nx, tg))  (kk : G p l e R s m args below meth c D B od nL tab F cells slots A z nx lv (.int (lg_cmp x y) :: st)) : G p l e R s m args below meth c D B od nL tab F cells slots A z i lv (.long y :: .long x :: st) := by
  intro q hq H locs ls hR hS hl
  cases Option.some.inj (hi.symm.trans hq)
  obtain ⟨q2, hq2, e2⟩ := X.2.2.2.1.fall hi rfl
  have K := kk q2 hq2 H locs ls hR hS hl
  rw [e2] at K
  exact W.lcmp X.1.1 X.1.2.1 (X.2.2.2.1.dec hi) K
theorem g_dup (X : Cx p s m args meth c D cy B od cc nL tab own ret) {va : Value} (hi : tab[i]? = some (pc, .dup, 1, nx, tg)) (hva : va.category = 1) (kk : G p l e R s m args below meth c D B od nL tab F cells slots A z nx lv (va :: va :: st)) : G p l e R s m args below meth c D B od nL tab F cells slots A z i lv (va :: st) := by
  intro q hq H locs ls hR hS hl
  cases Option.some.inj (hi.symm.trans hq)
  obtain ⟨q2, hq2, e2⟩ := X.2.2.2.1.fall hi rfl
  have K := kk q2 hq2 H locs ls hR hS hl
  rw [e2] at K
  exact lv_dup X.1.1 X.1.2.1 (X.2.2.2.1.dec hi) ((trV_cat B od va).trans hva) K
theorem g_dup2 (X : Cx p s m args meth c D cy B od cc nL tab own ret) {va vb : Value} (hi : tab[i]? = some (pc, .dup2, 1, nx, tg)) (hva : va.category = 1) (hvb : vb.category = 1) (kk : G p l e R s m args below meth c D B od nL tab F cells slots A z nx lv (va :: vb :: va :: vb :: st)) : G p l e R s m args below meth c D B od nL tab F cells slots A z i lv (va :: vb :: st) := by
  intro q hq H locs ls hR hS hl
  cases Option.some.inj (hi.symm.trans hq)
  obtain ⟨q2, hq2, e2⟩ := X.2.2.2.1.fall hi rfl
  have K := kk q2 hq2 H locs ls hR hS hl
  rw [e2] at K
  exact lv_dup2_11 X.1.1 X.1.2.1 (X.2.2.2.1.dec hi) ((trV_cat B od va).trans hva) ((trV_cat B od vb).trans hvb) K
theorem g_pop (X : Cx p s m args meth c D cy B od cc nL tab own ret) {va : Value} (hi : tab[i]? = some (pc, .pop, 1, nx, tg)) (hva : va.category = 1) (kk : G p l e R s m args below meth c D B od nL tab F cells slots A z nx lv st) : G p l e R s m args below meth c D B od nL tab F cells slots A z i lv (va :: st) := by
  intro q hq H locs ls hR hS hl
  cases Option.some.inj (hi.symm.trans hq)
  obtain ⟨q2, hq2, e2⟩ := X.2.2.2.1.fall hi rfl
  have K := kk q2 hq2 H locs ls hR hS hl
  rw [e2] at K
  exact lv_pop X.1.1 X.1.2.1 (X.2.2.2.1.dec hi) ((trV_cat B od va).trans hva) K
theorem g_goto (X : Cx p s m args meth c D cy B od cc nL tab own ret) {d : Int} (hi : tab[i]? = some (pc, .goto d, 3, nx, tg)) (kk : G p l e R s m args below meth c D B od nL tab F cells slots A z tg lv st) : G p l e R s m args below meth c D B od nL tab F cells slots A z i lv st := by
  intro q hq H locs ls hR hS hl
  cases Option.some.inj (hi.symm.trans hq)
  obtain ⟨q2, hq2, e2⟩ := X.2.2.2.1.br hi rfl
  exact lv_goto X.1.1 X.1.2.1 (X.2.2.2.1.dec hi) e2 (kk q2 hq2 H locs ls hR hS hl)
theorem g_if_eq (X : Cx p s m args meth c D cy B od cc nL tab own ret) {x : Int32} {d : Int} (hi : tab[i]? = some (pc, .ifCond .eq d, 3, nx, tg)) (kt : x = 0 → G p l e R s m args below meth c D B od nL tab F cells slots A z tg lv st) (kf : ¬ x = 0 → G p l e R s m args below meth c D B od nL tab F cells slots A z nx lv st) : G p l e R s m args below meth c D B od nL tab F cells slots A z i lv (.int x :: st) := by
  intro q hq H locs ls hR hS hl
  cases Option.some.inj (hi.symm.trans hq)
  obtain ⟨q2, hq2, e2⟩ := X.2.2.2.1.fall hi rfl
  obtain ⟨q3, hq3, e3⟩ := X.2.2.2.1.br hi rfl
  refine lv_if_eq X.1.1 X.1.2.1 (X.2.2.2.1.dec hi) e3 (fun h => kt h q3 hq3 H locs ls hR hS hl) (fun h => ?_)
  have K := kf h q2 hq2 H locs ls hR hS hl
  rw [e2] at K
  exact K
theorem g_if_ne (X : Cx p s m args meth c D cy B od cc nL tab own ret) {x : Int32} {d : Int} (hi : tab[i]? = some (pc, .ifCond .ne d, 3, nx, tg)) (kt : ¬ x = 0 → G p l e R s m args below meth c D B od nL tab F cells slots A z tg lv st) (kf : x = 0 → G p l e R s m args below meth c D B od nL tab F cells slots A z nx lv st) : G p l e R s m args below meth c D B od nL tab F cells slots A z i lv (.int x :: st) := by
  intro q hq H locs ls hR hS hl
  cases Option.some.inj (hi.symm.trans hq)
  obtain ⟨q2, hq2, e2⟩ := X.2.2.2.1.fall hi rfl
  obtain ⟨q3, hq3, e3⟩ := X.2.2.2.1.br hi rfl
  refine lv_if_ne X.1.1 X.1.2.1 (X.2.2.2.1.dec hi) e3 (fun h => kt h q3 hq3 H locs ls hR hS hl) (fun h => ?_)
  have K := kf h q2 hq2 H locs ls hR hS hl
  rw [e2] at K
  exact K
theorem g_if_lt (X : Cx p s m args meth c D cy B od cc nL tab own ret) {x : Int32} {d : Int} (hi : tab[i]? = some (pc, .ifCond .lt d, 3, nx, tg)) (kt : x < 0 → G p l e R s m args below meth c D B od nL tab F cells slots A z tg lv st) (kf : ¬ x < 0 → G p l e R s m args below meth c D B od nL tab F cells slots A z nx lv st) : G p l e R s m args below meth c D B od nL tab F cells slots A z i lv (.int x :: st) := by
  intro q hq H locs ls hR hS hl
  cases Option.some.inj (hi.symm.trans hq)
  obtain ⟨q2, hq2, e2⟩ := X.2.2.2.1.fall hi rfl
  obtain ⟨q3, hq3, e3⟩ := X.2.2.2.1.br hi rfl
  refine lv_if_lt X.1.1 X.1.2.1 (X.2.2.2.1.dec hi) e3 (fun h => kt h q3 hq3 H locs ls hR hS hl) (fun h => ?_)
  have K := kf h q2 hq2 H locs ls hR hS hl
  rw [e2] at K
  exact K
theorem g_if_ge (X : Cx p s m args meth c D cy B od cc nL tab own ret) {x : Int32} {d : Int} (hi : tab[i]? = some (pc, .ifCond .ge d, 3, nx, tg)) (kt : 0 ≤ x → G p l e R s m args below meth c D B od nL tab F cells slots A z tg lv st) (kf : ¬ 0 ≤ x → G p l e R s m args below meth c D B od nL tab F cells slots A z nx lv st) : G p l e R s m args below meth c D B od nL tab F cells slots A z i lv (.int x :: st) := by
  intro q hq H locs ls hR hS hl
  cases Option.some.inj (hi.symm.trans hq)
  obtain ⟨q2, hq2, e2⟩ := X.2.2.2.1.fall hi rfl
  obtain ⟨q3, hq3, e3⟩ := X.2.2.2.1.br hi rfl
  refine lv_if_ge X.1.1 X.1.2.1 (X.2.2.2.1.dec hi) e3 (fun h => kt h q3 hq3 H locs ls hR hS hl) (fun h => ?_)
  have K := kf h q2 hq2 H locs ls hR hS hl
  rw [e2] at K
  exact K
theorem g_if_gt (X : Cx p s m args meth c D cy B od cc nL tab own ret) {x : Int32} {d : Int} (hi : tab[i]? = some (pc, .ifCond .gt d, 3, nx, tg)) (kt : 0 < x → G p l e R s m args below meth c D B od nL tab F cells slots A z tg lv st) (kf : ¬ 0 < x → G p l e R s m args below meth c D B od nL tab F cells slots A z nx lv st) : G p l e R s m args below meth c D B od nL tab F cells slots A z i lv (.int x :: st) := by
  intro q hq H locs ls hR hS hl
  cases Option.some.inj (hi.symm.trans hq)
  obtain ⟨q2, hq2, e2⟩ := X.2.2.2.1.fall hi rfl
  obtain ⟨q3, hq3, e3⟩ := X.2.2.2.1.br hi rfl
  refine lv_if_gt X.1.1 X.1.2.1 (X.2.2.2.1.dec hi) e3 (fun h => kt h q3 hq3 H locs ls hR hS hl) (fun h => ?_)
  have K := kf h q2 hq2 H locs ls hR hS hl
  rw [e2] at K
  exact K
theorem g_if_le (X : Cx p s m args meth c D cy B od cc nL tab own ret) {x : Int32} {d : Int} (hi : tab[i]? = some (pc, .ifCond .le d, 3, nx, tg)) (kt : x ≤ 0 → G p l e R s m args below meth c D B od nL tab F cells slots A z tg lv st) (kf : ¬ x ≤ 0 → G p l e R s m args below meth c D B od nL tab F cells slots A z nx lv st) : G p l e R s m args below meth c D B od nL tab F cells slots A z i lv (.int x :: st) := by
  intro q hq H locs ls hR hS hl
  cases Option.some.inj (hi.symm.trans hq)
  obtain ⟨q2, hq2, e2⟩ := X.2.2.2.1.fall hi rfl
  obtain ⟨q3, hq3, e3⟩ := X.2.2.2.1.br hi rfl
  refine lv_if_le X.1.1 X.1.2.1 (X.2.2.2.1.dec hi) e3 (fun h => kt h q3 hq3 H locs ls hR hS hl) (fun h => ?_)
  have K := kf h q2 hq2 H locs ls hR hS hl
  rw [e2] at K
  exact K
theorem g_icmp_eq (X : Cx p s m args meth c D cy B od cc nL tab own ret) {x y : Int32} {d : Int} (hi : tab[i]? = some (pc, .if_icmp .eq d, 3, nx, tg)) (kt : x = y → G p l e R s m args below meth c D B od nL tab F cells slots A z tg lv st) (kf : ¬ x = y → G p l e R s m args below meth c D B od nL tab F cells slots A z nx lv st) : G p l e R s m args below meth c D B od nL tab F cells slots A z i lv (.int y :: .int x :: st) := by
  intro q hq H locs ls hR hS hl
  cases Option.some.inj (hi.symm.trans hq)
  obtain ⟨q2, hq2, e2⟩ := X.2.2.2.1.fall hi rfl
  obtain ⟨q3, hq3, e3⟩ := X.2.2.2.1.br hi rfl
  refine lv_icmp_eq X.1.1 X.1.2.1 (X.2.2.2.1.dec hi) e3 (fun h => kt h q3 hq3 H locs ls hR hS hl) (fun h => ?_)
  have K := kf h q2 hq2 H locs ls hR hS hl
  rw [e2] at K
  exact K
theorem g_icmp_ne (X : Cx p s m args meth c D cy B od cc nL tab own ret) {x y : Int32} {d : Int} (hi : tab[i]? = some (pc, .if_icmp .ne d, 3, nx, tg)) (kt : ¬ x = y → G p l e R s m args below meth c D B od nL tab F cells slots A z tg lv st) (kf : x = y → G p l e R s m args below meth c D B od nL tab F cells slots A z nx lv st) : G p l e R s m args below meth c D B od nL tab F cells slots A z i lv (.int y :: .int x :: st) := by
  intro q hq H locs ls hR hS hl
  cases Option.some.inj (hi.symm.trans hq)
  obtain ⟨q2, hq2, e2⟩ := X.2.2.2.1.fall hi rfl
  obtain ⟨q3, hq3, e3⟩ := X.2.2.2.1.br hi rfl
  refine lv_icmp_ne X.1.1 X.1.2.1 (X.2.2.2.1.dec hi) e3 (fun h => kt h q3 hq3 H locs ls hR hS hl) (fun h => ?_)
  have K := kf h q2 hq2 H locs ls hR hS hl
  rw [e2] at K
  exact K
theorem g_icmp_lt (X : Cx p s m args meth c D cy B od cc nL tab own ret) {x y : Int32} {d : Int} (hi : tab[i]? = some (pc, .if_icmp .lt d, 3, nx, tg)) (kt : x < y → G p l e R s m args below meth c D B od nL tab F cells slots A z tg lv st) (kf : ¬ x < y → G p l e R s m args below meth c D B od nL tab F cells slots A z nx lv st) : G p l e R s m args below meth c D B od nL tab F cells slots A z i lv (.int y :: .int x :: st) := by
  intro q hq H locs ls hR hS hl
  cases Option.some.inj (hi.symm.trans hq)
  obtain ⟨q2, hq2, e2⟩ := X.2.2.2.1.fall hi rfl
  obtain ⟨q3, hq3, e3⟩ := X.2.2.2.1.br hi rfl
  refine lv_icmp_lt X.1.1 X.1.2.1 (X.2.2.2.1.dec hi) e3 (fun h => kt h q3 hq3 H locs ls hR hS hl) (fun h => ?_)
  have K := kf h q2 hq2 H locs ls hR hS hl
  rw [e2] at K
  exact K
theorem g_icmp_ge (X : Cx p s m args meth c D cy B od cc nL tab own ret) {x y : Int32} {d : Int} (hi : tab[i]? = some (pc, .if_icmp .ge d, 3, nx, tg)) (kt : y ≤ x → G p l e R s m args below meth c D B od nL tab F cells slots A z tg lv st) (kf : ¬ y ≤ x → G p l e R s m args below meth c D B od nL tab F cells slots A z nx lv st) : G p l e R s m args below meth c D B od nL tab F cells slots A z i lv (.int y :: .int x :: st) := by
  intro q hq H locs ls hR hS hl
  cases Option.some.inj (hi.symm.trans hq)
  obtain ⟨q2, hq2, e2⟩ := X.2.2.2.1.fall hi rfl
  obtain ⟨q3, hq3, e3⟩ := X.2.2.2.1.br hi rfl
  refine lv_icmp_ge X.1.1 X.1.2.1 (X.2.2.2.1.dec hi) e3 (fun h => kt h q3 hq3 H locs ls hR hS hl) (fun h => ?_)
  have K := kf h q2 hq2 H locs ls hR hS hl
  rw [e2] at K
  exact K
theorem g_icmp_gt (X : Cx p s m args meth c D cy B od cc nL tab own ret) {x y : Int32} {d : Int} (hi : tab[i]? = some (pc, .if_icmp .gt d, 3, nx, tg)) (kt : y < x → G p l e R s m args below meth c D B od nL tab F cells slots A z tg lv st) (kf : ¬ y < x → G p l e R s m args below meth c D B od nL tab F cells slots A z nx lv st) : G p l e R s m args below meth c D B od nL tab F cells slots A z i lv (.int y :: .int x :: st) := by
  intro q hq H locs ls hR hS hl
  cases Option.some.inj (hi.symm.trans hq)
  obtain ⟨q2, hq2, e2⟩ := X.2.2.2.1.fall hi rfl
  obtain ⟨q3, hq3, e3⟩ := X.2.2.2.1.br hi rfl
  refine lv_icmp_gt X.1.1 X.1.2.1 (X.2.2.2.1.dec hi) e3 (fun h => kt h q3 hq3 H locs ls hR hS hl) (fun h => ?_)
  have K := kf h q2 hq2 H locs ls hR hS hl
  rw [e2] at K
  exact K
theorem g_icmp_le (X : Cx p s m args meth c D cy B od cc nL tab own ret) {x y : Int32} {d : Int} (hi : tab[i]? = some (pc, .if_icmp .le d, 3, nx, tg)) (kt : x ≤ y → G p l e R s m args below meth c D B od nL tab F cells slots A z tg lv st) (kf : ¬ x ≤ y → G p l e R s m args below meth c D B od nL tab F cells slots A z nx lv st) : G p l e R s m args below meth c D B od nL tab F cells slots A z i lv (.int y :: .int x :: st) := by
  intro q hq H locs ls hR hS hl
  cases Option.some.inj (hi.symm.trans hq)
  obtain ⟨q2, hq2, e2⟩ := X.2.2.2.1.fall hi rfl
  obtain ⟨q3, hq3, e3⟩ := X.2.2.2.1.br hi rfl
  refine lv_icmp_le X.1.1 X.1.2.1 (X.2.2.2.1.dec hi) e3 (fun h => kt h q3 hq3 H locs ls hR hS hl) (fun h => ?_)
  have K := kf h q2 hq2 H locs ls hR hS hl
  rw [e2] at K
  exact K
theorem g_ifnull (X : Cx p s m args meth c D cy B od cc nL tab own ret) {d : Int} {x : Nat} (hi : tab[i]? = some (pc, .ifnull d, 3, nx, tg)) (kk : G p l e R s m args below meth c D B od nL tab F cells slots A z nx lv st) : G p l e R s m args below meth c D B od nL tab F cells slots A z i lv (.ref x :: st) := by
  intro q hq H locs ls hR hS hl
  cases Option.some.inj (hi.symm.trans hq)
  obtain ⟨q2, hq2, e2⟩ := X.2.2.2.1.fall hi rfl
  have K := kk q2 hq2 H locs ls hR hS hl
  rw [e2] at K
  exact lv_ifnull X.1.1 X.1.2.1 (X.2.2.2.1.dec hi) K
end CORE
end
section
/-! 03: the rules that touch the heap; calls; ends -/
section CORE3
variable {p : Program} {l : Launch} {e : Env} {R : Room} {s : State} {m : MethodId} {args : Array Value} {below : List Frame} {meth : Method} {c : Code}
variable {D : va_G} {cy : Nat → ClassId} {B : Nat} {od : Nat → Option Nat} {cc : ByteArray} {nL : Nat} {tab : List PT} {own : String} {ret : Option FieldType}
variable {F : State → Prop} {cells slots : Nat} {A : AH} {z i pc len nx tg : Nat} {lv : List (Option Value)} {st : List Value}
theorem va_P1 {cl : List vw_C} {q : Nat × va_E} {H : Heap} (h : va_at D cl q H) : va_P D cl [q] H := fun k r hk => by
  match k, hk with
  | 0, hk => cases hk; exact h
  | k + 1, hk => simp at hk
/-- a field, linked by its number in a class: class C has N slots with names T and types ty0, it is the slot k -/
def FLk (own : String) (ix : Nat) (C : String) (T : u_T) (N : Nat) (ty0 : Nat → FieldType) (k : Nat) : Prop := k < N ∧ (∀ w ∈ u_ws C T N, w ∈ lw_good) ∧ (∀ k, k < N → parseFieldDescriptor (T k).2.2.1 = some (ty0 k)) ∧ (∀ a, a < N → ∀ b, b < N → a ≠ b → (T a).2.1 ≠ (T b).2.1) ∧ (Cond.fieldLink own ix (T k).1 (T k).2.1 (T k).2.2.1 ∈ lw_good ∨ ∃ host, Cond.fieldLinkNest own ix (T k).1 (T k).2.1 (T k).2.2.1 host ∈ nw_all)
set_option maxHeartbeats 100000 in
theorem wv_iast {pc : Nat} {ls : Array Slot} {rest : List Value} {locs : List Loc} {H : Heap} (hexec : p.tables.exec = Jvm.exec) (hb : c.code = cc) {a n : Nat} {f : Nat → Int32} {cA : ClassId} (hat : H[a]? = some (vp_cell cA (n, .inl f))) (harr : ArrOfT s cA .int) {x : Int32} {v : Int32} (hin : vp_in x n) (hdg : decode cc pc = .ok (.iastore, 1))
    (kk : ∀ H1 : Heap, H1[a]? = some (vp_cell cA (n, .inl (upd f x.toNatClampNeg v))) → H1.size = H.size → (∀ q : Nat, q ≠ a → H1[q]? = H[q]?) → W p l e R s m args below meth c H1 (locs ++ [⟨a, x.toNatClampNeg⟩]) cells slots F (F0 m (pc + 1) ls rest)) : W p l e R s m args below meth c H locs cells slots F (F0 m pc ls (.int v :: .int x :: .ref a :: rest)) := by
  refine W.iast hexec hb hat (harr n (fun j => .int (f j))) (fun q => by cases q) (by show ¬ (x < 0 ∨ (arrV _ _ _).slots.size ≤ _); rw [arrV_size]; exact hin) rfl rfl hdg fun H1 e1 z9 oq => ?_
  refine kk H1 ?_ z9 oq
  rw [e1]
  rw [vp_cell_i, vp_cell_i, arrV_store]
  congr 2
  funext q
  by_cases hq : q = x.toNatClampNeg
  · subst hq
    simp [updV, upd]
  · simp [updV, upd, vp_updL, vf_upd, hq]
set_option maxHeartbeats 100000 in
theorem wv_zast {pc : Nat} {ls : Array Slot} {rest : List Value} {locs : List Loc} {H : Heap} (hexec : p.tables.exec = Jvm.exec) (hb : c.code = cc) {a n : Nat} {f : Nat → Int32} {cA : ClassId} (hat : H[a]? = some (vp_cell cA (n, .inl f))) (harr : ArrOfT s cA .boolean) {x : Int32} {v : Int32} (hin : vp_in x n) (hv : v = 0 ∨ v = 1) (hdg : decode cc pc = .ok (.bastore, 1))
    (kk : ∀ H1 : Heap, H1[a]? = some (vp_cell cA (n, .inl (upd f x.toNatClampNeg v))) → H1.size = H.size → (∀ q : Nat, q ≠ a → H1[q]? = H[q]?) → W p l e R s m args below meth c H1 (locs ++ [⟨a, x.toNatClampNeg⟩]) cells slots F (F0 m (pc + 1) ls rest)) : W p l e R s m args below meth c H locs cells slots F (F0 m pc ls (.int v :: .int x :: .ref a :: rest)) := by
  refine W.zast hexec hb hat (harr n (fun j => .int (f j))) (fun q => by cases q) (by show ¬ (x < 0 ∨ (arrV _ _ _).slots.size ≤ _); rw [arrV_size]; exact hin) rfl rfl hdg fun H1 e1 z9 oq => ?_
  refine kk H1 ?_ z9 oq
  rw [e1]
  rw [vp_cell_i, vp_cell_i, arrV_store]
  congr 2
  funext q
  by_cases hq : q = x.toNatClampNeg
  · subst hq
    rcases hv with rfl | rfl <;> simp [updV, upd] <;> rfl
  · simp [updV, upd, vp_updL, vf_upd, hq]
set_option maxHeartbeats 100000 in
theorem wv_last {pc : Nat} {ls : Array Slot} {rest : List Value} {locs : List Loc} {H : Heap} (hexec : p.tables.exec = Jvm.exec) (hb : c.code = cc) {a n : Nat} {f : Nat → Int64} {cA : ClassId} (hat : H[a]? = some (vp_cell cA (n, .inr (.inl (f))))) (harr : ArrOfT s cA .long) {x : Int32} {v : Int64} (hin : vp_in x n) (hdg : decode cc pc = .ok (.lastore, 1))
    (kk : ∀ H1 : Heap, H1[a]? = some (vp_cell cA (n, .inr (.inl (vp_updL f x.toNatClampNeg v)))) → H1.size = H.size → (∀ q : Nat, q ≠ a → H1[q]? = H[q]?) → W p l e R s m args below meth c H1 (locs ++ [⟨a, x.toNatClampNeg⟩]) cells slots F (F0 m (pc + 1) ls rest)) : W p l e R s m args below meth c H locs cells slots F (F0 m pc ls (.long v :: .int x :: .ref a :: rest)) := by
  refine W.last hexec hb hat (harr n (fun j => .long (f j))) (fun q => by cases q) (by show ¬ (x < 0 ∨ (arrV _ _ _).slots.size ≤ _); rw [arrV_size]; exact hin) rfl rfl hdg fun H1 e1 z9 oq => ?_
  refine kk H1 ?_ z9 oq
  rw [e1]
  rw [vp_cell_l, vp_cell_l, arrV_store]
  congr 2
  funext q
  by_cases hq : q = x.toNatClampNeg
  · subst hq
    simp [updV, vp_updL]
  · simp [updV, upd, vp_updL, vf_upd, hq]
set_option maxHeartbeats 100000 in
theorem wv_dast {pc : Nat} {ls : Array Slot} {rest : List Value} {locs : List Loc} {H : Heap} (hexec : p.tables.exec = Jvm.exec) (hb : c.code = cc) {a n : Nat} {f : Nat → UInt64} {cA : ClassId} (hat : H[a]? = some (vp_cell cA (n, .inr (.inr (.inr (.inl (f))))))) (harr : ArrOfT s cA .double) {x : Int32} {v : UInt64} (hin : vp_in x n) (hdg : decode cc pc = .ok (.dastore, 1))
    (kk : ∀ H1 : Heap, H1[a]? = some (vp_cell cA (n, .inr (.inr (.inr (.inl (vf_upd f x.toNatClampNeg v)))))) → H1.size = H.size → (∀ q : Nat, q ≠ a → H1[q]? = H[q]?) → W p l e R s m args below meth c H1 (locs ++ [⟨a, x.toNatClampNeg⟩]) cells slots F (F0 m (pc + 1) ls rest)) : W p l e R s m args below meth c H locs cells slots F (F0 m pc ls (.double v :: .int x :: .ref a :: rest)) := by
  refine W.dast hexec hb hat (harr n (fun j => .double (f j))) (fun q => by cases q) (by show ¬ (x < 0 ∨ (arrV _ _ _).slots.size ≤ _); rw [arrV_size]; exact hin) rfl rfl hdg fun H1 e1 z9 oq => ?_
  refine kk H1 ?_ z9 oq
  rw [e1]
  rw [vp_cell_d, vp_cell_d, arrV_store]
  congr 2
  funext q
  by_cases hq : q = x.toNatClampNeg
  · subst hq
    simp [updV, vf_upd]
  · simp [updV, upd, vp_updL, vf_upd, hq]
set_option maxHeartbeats 100000 in
theorem wv_put {pc : Nat} {ls : Array Slot} {rest : List Value} {locs : List Loc} {H : Heap} (hexec : p.tables.exec = Jvm.exec) (hb : c.code = cc) (hts : ∀ w ∈ lw_good, w.before args s = true) (hNW : NW s) (hown : s.vm.findClass own = some m.cls) (hK : va_K D vwCl (tysc cy) s) {ix : Nat} {C : String} {T : u_T} {N : Nat} {ty0 : Nat → FieldType} {k : Nat} (hf : FLk own ix C T N ty0 k) (hfin : (T k).2.2.2 = false) {ci : Nat} (hc : vwCl[ci]? = some (C, T, N)) {a : Nat} {fs : List Value} (hat : va_at D vwCl (a, .inr (ci, fs)) H) (hl9 : k < fs.length) {v : Value} (hn : narrow (ty0 k) v = v) (hfit : fits (ty0 k) v = true) (hdg : decode cc pc = .ok (.putfield ix, 3))
    (kk : ∀ (H1 : Heap) (j : Nat), va_at D vwCl (a, .inr (ci, fs.set k v)) H1 → H1.size = H.size → (∀ q : Nat, q ≠ a → H1[q]? = H[q]?) → W p l e R s m args below meth c H1 (locs ++ [⟨a, j⟩]) cells slots F (F0 m (pc + 3) ls rest)) : W p l e R s m args below meth c H locs cells slots F (F0 m pc ls (v :: .ref a :: rest)) := by
  obtain ⟨hk, hin, hty, hnm, hlk⟩ := hf
  have hap := va_apart (own := own) hts hin ty0 hty hnm hK hc
  obtain ⟨r, h1, cell, q1, q2, q3, q4⟩ := hat
  have hr : r = (C, T, N) := Option.some.inj (h1.symm.trans hc)
  subst hr
  obtain ⟨hS, hfc, kC, hkC, hkind⟩ := hK.1 ci _ hc
  obtain ⟨cf, kf, fi, f, hi, hsl⟩ := hS k hk
  have hlay := hts _ (hin _ (u_in_lay hk))
  unfold u_lay at hlay
  rw [if_neg (by rw [hfin]; decide)] at hlay
  have hst := (u_facts hfc hkC (u_lays hts hin hk) hi).1
  have h6 := u_store hfc hkC hkind hlay hi (hty k hk) hn hfit
  have fin : ∀ H' : Heap, H'[a]? = some (cell.setSlot f.slot v) → H'.size = H.size → (∀ q, q ≠ a → H'[q]? = H[q]?) → W p l e R s m args below meth c H' (locs ++ [⟨a, f.slot⟩]) cells slots F (F0 m (pc + 3) ls rest) := by
    intro H' e1 e2 e3
    rw [hsl] at e1
    exact kk H' f.slot ⟨_, hc, t_OB.to (V := updV (vp_V fs) k v) ⟨_, e1, q2, q3, t_set q4 hap hk v⟩ (fun j _ => vp_updV_set hl9 v j)⟩ e2 e3
  rcases hlk with h | ⟨host, h⟩
  · exact W.putK hexec hb (f := f) ⟨hown, hts _ h, ⟨_, _, _, hi⟩, hst⟩ (by rw [q2]; exact h6) q1 q3 (by rw [hsl]; exact k2_hasslot (q4 k hk)) rfl rfl hdg fun H' e1 e2 e3 => fin H' e1 e2 e3
  · exact va_WputK hexec hb (f := f) hown (va_Nw.use rfl (hNW _ h)) hi hst (by rw [q2]; exact h6) q1 q3 (by rw [hsl]; exact k2_hasslot (q4 k hk)) rfl rfl hdg fun H' e1 e2 e3 => fin H' e1 e2 e3
set_option maxHeartbeats 100000 in
theorem wv_putF {pc : Nat} {ls : Array Slot} {rest : List Value} {locs : List Loc} {H : Heap} (hexec : p.tables.exec = Jvm.exec) (hb : c.code = cc) (hts : ∀ w ∈ lw_good, w.before args s = true) (hNW : NW s) (hown : s.vm.findClass own = some m.cls) (hK : va_K D vwCl (tysc cy) s) {ix : Nat} {C : String} {T : u_T} {N : Nat} {ty0 : Nat → FieldType} {k : Nat} (hf : FLk own ix C T N ty0 k) (hfin : (T k).2.2.2 = true) (hin2 : meth.name = "<init>") (hdecl : (T k).1 = own) (hlf : Cond.fieldLink own ix (T k).1 (T k).2.1 (T k).2.2.1 ∈ lw_good) {ci : Nat} (hc : vwCl[ci]? = some (C, T, N)) {a : Nat} {fs : List Value} (hat : va_at D vwCl (a, .inr (ci, fs)) H) (hl9 : k < fs.length) {v : Value} (hn : narrow (ty0 k) v = v) (hfit : fits (ty0 k) v = true) (hdg : decode cc pc = .ok (.putfield ix, 3))
    (kk : ∀ (H1 : Heap) (j : Nat), va_at D vwCl (a, .inr (ci, fs.set k v)) H1 → H1.size = H.size → (∀ q : Nat, q ≠ a → H1[q]? = H[q]?) → W p l e R s m args below meth c H1 (locs ++ [⟨a, j⟩]) cells slots F (F0 m (pc + 3) ls rest)) : W p l e R s m args below meth c H locs cells slots F (F0 m pc ls (v :: .ref a :: rest)) := by
  obtain ⟨hk, hin, hty, hnm, hlk⟩ := hf
  have hap := va_apart (own := own) hts hin ty0 hty hnm hK hc
  obtain ⟨r, h1, cell, q1, q2, q3, q4⟩ := hat
  have hr : r = (C, T, N) := Option.some.inj (h1.symm.trans hc)
  subst hr
  obtain ⟨hS, hfc, kC, hkC, hkind⟩ := hK.1 ci _ hc
  obtain ⟨cf, kf, fi, f, hi, hsl⟩ := hS k hk
  have hlay := hts _ (hin _ (u_in_lay hk))
  unfold u_lay at hlay
  rw [if_pos hfin] at hlay
  have hst := (u_facts hfc hkC (u_lays hts hin hk) hi).1
  have hcf : m.cls = cf := by
    obtain ⟨_, _, c', _, _, _, -, -, hf', -, -, -, hown2, -⟩ := Cond.laysFinal_spec hlay
    have e1 : c' = cf := by have := hi.symm.trans hf'; simp at this; exact this.1.symm
    rw [hdecl] at hown2
    rw [← e1]; exact Option.some.inj (hown.symm.trans hown2)
  have h6 := u_fits hfc hkC hkind (Or.inr hlay) hi (hty k hk) hn hfit
  have fin : ∀ H' : Heap, H'[a]? = some (cell.setSlot f.slot v) → H'.size = H.size → (∀ q, q ≠ a → H'[q]? = H[q]?) → W p l e R s m args below meth c H' (locs ++ [⟨a, f.slot⟩]) cells slots F (F0 m (pc + 3) ls rest) := by
    intro H' e1 e2 e3
    rw [hsl] at e1
    exact kk H' f.slot ⟨_, hc, t_OB.to (V := updV (vp_V fs) k v) ⟨_, e1, q2, q3, t_set q4 hap hk v⟩ (fun j _ => vp_updV_set hl9 v j)⟩ e2 e3
  exact W.putFinK hexec hb hown (hts _ hlf) hi hst hcf hin2 (by rw [q2]; exact h6) q1 q3 (by rw [hsl]; exact k2_hasslot (q4 k hk)) rfl rfl hdg fun H' e1 e2 e3 => fin H' e1 e2 e3
theorem g_get (X : Cx p s m args meth c D cy B od cc nL tab own ret) {ix : Nat} (hi : tab[i]? = some (pc, .getfield ix, 3, nx, tg)) {C : String} {T : u_T} {N : Nat} {ty0 : Nat → FieldType} {k : Nat} (hf : FLk own ix C T N ty0 k) {ci : Nat} (hc : vwCl[ci]? = some (C, T, N)) {a : Nat} {fs : List Value} (hA : A a = some (.inr (ci, fs))) {v : Value} (hv : fs[k]? = some v)
    (kk : G p l e R s m args below meth c D B od nL tab F cells slots A z nx lv (v :: st)) : G p l e R s m args below meth c D B od nL tab F cells slots A z i lv (.ref a :: st) := by
  intro q hq H locs ls hR hS hl
  cases Option.some.inj (hi.symm.trans hq)
  obtain ⟨q2, hq2, e2⟩ := X.2.2.2.1.fall hi rfl
  have K := kk q2 hq2 H locs ls hR hS hl
  rw [e2] at K
  obtain ⟨hk, hin, -, -, hlk⟩ := hf
  have hP : va_P D vwCl [(rho B od a, .inr (ci, fs.map (trV B od)))] H := va_P1 (hR.1 a _ hA).2
  rcases hlk with h | ⟨host, h⟩
  · exact va_get X.1.1 X.1.2.1 X.1.2.2.2.2 hin X.1.2.2.2.1 X.2.1 hP 0 rfl hc k hk (X.1.2.2.2.2 _ h) (fun _ h => h) (v := trV B od v) (by rw [List.getElem?_map, hv]; rfl) (X.2.2.2.1.dec hi) K
  · exact va_getN X.1.1 X.1.2.1 X.1.2.2.2.2 hin X.1.2.2.2.1 X.2.1 hP 0 rfl hc k hk (va_Nw.use rfl (X.2.2.1 _ h)) (fun _ h => h) (v := trV B od v) (by rw [List.getElem?_map, hv]; rfl) (X.2.2.2.1.dec hi) K
theorem va_Sput {a : Nat} {j : Nat} {H H1 : Heap} {locs : List Loc} (hS : va_S (fun q => B ≤ q) s.heap H locs) (ha : od a = none) (z : H1.size = H.size) (oq : ∀ q : Nat, q ≠ rho B od a → H1[q]? = H[q]?) : va_S (fun q => B ≤ q) s.heap H1 (locs ++ [⟨rho B od a, j⟩]) := hS.put z oq (by show B ≤ rho B od a; rw [rho_lo ha]; omega)
set_option maxHeartbeats 100000 in
theorem g_put (X : Cx p s m args meth c D cy B od cc nL tab own ret) {ix : Nat} (hi : tab[i]? = some (pc, .putfield ix, 3, nx, tg)) {C : String} {T : u_T} {N : Nat} {ty0 : Nat → FieldType} {k : Nat} (hf : FLk own ix C T N ty0 k) (hfin : (T k).2.2.2 = false) {ci : Nat} (hc : vwCl[ci]? = some (C, T, N)) {a : Nat} {fs : List Value} (hA : A a = some (.inr (ci, fs))) (hl9 : k < fs.length) {v : Value} (hn : narrow (ty0 k) (trV B od v) = trV B od v) (hfit : fits (ty0 k) (trV B od v) = true)
    (kk : G p l e R s m args below meth c D B od nL tab F cells slots (upA A a (.inr (ci, fs.set k v))) z nx lv st) : G p l e R s m args below meth c D B od nL tab F cells slots A z i lv (v :: .ref a :: st) := by
  intro q hq H locs ls hR hS hl
  cases Option.some.inj (hi.symm.trans hq)
  obtain ⟨q2, hq2, e2⟩ := X.2.2.2.1.fall hi rfl
  obtain ⟨hlt, hat⟩ := hR.1 a _ hA
  have hd : decode cc pc = .ok (.putfield ix, 3) := X.2.2.2.1.dec hi
  refine wv_put X.1.1 X.1.2.1 X.1.2.2.2.2 X.2.2.1 X.1.2.2.2.1 X.2.1 hf hfin hc (fs := fs.map (trV B od)) hat (by rw [List.length_map]; exact hl9) hn hfit hd (fun H1 j h1 z9 oq => ?_)
  have h2 : va_at D vwCl (rho B od a, trE B od (.inr (ci, fs.set k v))) H1 := by
    show va_at D vwCl (rho B od a, .inr (ci, (fs.set k v).map (trV B od))) H1
    rw [List.map_set]; exact h1
  have K := kk q2 hq2 H1 _ ls (hR.put hlt h2 z9 oq) (va_Sput (j := j) hS hlt z9 oq) hl
  rw [e2] at K
  exact K
set_option maxHeartbeats 100000 in
theorem g_putF (X : Cx p s m args meth c D cy B od cc nL tab own ret) {ix : Nat} (hi : tab[i]? = some (pc, .putfield ix, 3, nx, tg)) {C : String} {T : u_T} {N : Nat} {ty0 : Nat → FieldType} {k : Nat} (hf : FLk own ix C T N ty0 k) (hfin : (T k).2.2.2 = true) (hin2 : meth.name = "<init>") (hdecl : (T k).1 = own) (hlf : Cond.fieldLink own ix (T k).1 (T k).2.1 (T k).2.2.1 ∈ lw_good) {ci : Nat} (hc : vwCl[ci]? = some (C, T, N)) {a : Nat} {fs : List Value} (hA : A a = some (.inr (ci, fs))) (hl9 : k < fs.length) {v : Value} (hn : narrow (ty0 k) (trV B od v) = trV B od v) (hfit : fits (ty0 k) (trV B od v) = true)
    (kk : G p l e R s m args below meth c D B od nL tab F cells slots (upA A a (.inr (ci, fs.set k v))) z nx lv st) : G p l e R s m args below meth c D B od nL tab F cells slots A z i lv (v :: .ref a :: st) := by
  intro q hq H locs ls hR hS hl
  cases Option.some.inj (hi.symm.trans hq)
  obtain ⟨q2, hq2, e2⟩ := X.2.2.2.1.fall hi rfl
  obtain ⟨hlt, hat⟩ := hR.1 a _ hA
  have hd : decode cc pc = .ok (.putfield ix, 3) := X.2.2.2.1.dec hi
  refine wv_putF X.1.1 X.1.2.1 X.1.2.2.2.2 X.2.2.1 X.1.2.2.2.1 X.2.1 hf hfin hin2 hdecl hlf hc (fs := fs.map (trV B od)) hat (by rw [List.length_map]; exact hl9) hn hfit hd (fun H1 j h1 z9 oq => ?_)
  have h2 : va_at D vwCl (rho B od a, trE B od (.inr (ci, fs.set k v))) H1 := by
    show va_at D vwCl (rho B od a, .inr (ci, (fs.set k v).map (trV B od))) H1
    rw [List.map_set]; exact h1
  have K := kk q2 hq2 H1 _ ls (hR.put hlt h2 z9 oq) (va_Sput (j := j) hS hlt z9 oq) hl
  rw [e2] at K
  exact K
theorem g_iald (X : Cx p s m args meth c D cy B od cc nL tab own ret) (hi : tab[i]? = some (pc, .iaload, 1, nx, tg)) {a n : Nat} {f : Nat → Int32} {x : Int32} (hA : A a = some (.inl (cy 0, n, .inl f))) (hin : vp_in x n) (kk : G p l e R s m args below meth c D B od nL tab F cells slots A z nx lv (.int (f x.toNatClampNeg) :: st)) : G p l e R s m args below meth c D B od nL tab F cells slots A z i lv (.int x :: .ref a :: st) := by
  intro q hq H locs ls hR hS hl
  cases Option.some.inj (hi.symm.trans hq)
  obtain ⟨q2, hq2, e2⟩ := X.2.2.2.1.fall hi rfl
  have K := kk q2 hq2 H locs ls hR hS hl
  rw [e2] at K
  exact va_iald X.1.1 X.1.2.1 X.2.1 (va_P1 (hR.1 a _ hA).2) 0 0 rfl rfl hin (X.2.2.2.1.dec hi) K
theorem g_lald (X : Cx p s m args meth c D cy B od cc nL tab own ret) (hi : tab[i]? = some (pc, .laload, 1, nx, tg)) {a n : Nat} {f : Nat → Int64} {x : Int32} (hA : A a = some (.inl (cy 1, n, .inr (.inl f)))) (hin : vp_in x n) (kk : G p l e R s m args below meth c D B od nL tab F cells slots A z nx lv (.long (f x.toNatClampNeg) :: st)) : G p l e R s m args below meth c D B od nL tab F cells slots A z i lv (.int x :: .ref a :: st) := by
  intro q hq H locs ls hR hS hl
  cases Option.some.inj (hi.symm.trans hq)
  obtain ⟨q2, hq2, e2⟩ := X.2.2.2.1.fall hi rfl
  have K := kk q2 hq2 H locs ls hR hS hl
  rw [e2] at K
  exact va_lald X.1.1 X.1.2.1 X.2.1 (va_P1 (hR.1 a _ hA).2) 0 1 rfl rfl hin (X.2.2.2.1.dec hi) K
theorem g_zald (X : Cx p s m args meth c D cy B od cc nL tab own ret) (hi : tab[i]? = some (pc, .baload, 1, nx, tg)) {a n : Nat} {f : Nat → Int32} {x : Int32} (hA : A a = some (.inl (cy 2, n, .inl f))) (hin : vp_in x n) (kk : G p l e R s m args below meth c D B od nL tab F cells slots A z nx lv (.int (f x.toNatClampNeg) :: st)) : G p l e R s m args below meth c D B od nL tab F cells slots A z i lv (.int x :: .ref a :: st) := by
  intro q hq H locs ls hR hS hl
  cases Option.some.inj (hi.symm.trans hq)
  obtain ⟨q2, hq2, e2⟩ := X.2.2.2.1.fall hi rfl
  have K := kk q2 hq2 H locs ls hR hS hl
  rw [e2] at K
  exact va_zald X.1.1 X.1.2.1 X.2.1 (va_P1 (hR.1 a _ hA).2) 0 2 rfl rfl hin (X.2.2.2.1.dec hi) K
theorem g_dald (X : Cx p s m args meth c D cy B od cc nL tab own ret) (hi : tab[i]? = some (pc, .daload, 1, nx, tg)) {a n : Nat} {f : Nat → UInt64} {x : Int32} (hA : A a = some (.inl (cy 3, n, .inr (.inr (.inr (.inl f)))))) (hin : vp_in x n) (kk : G p l e R s m args below meth c D B od nL tab F cells slots A z nx lv (.double (f x.toNatClampNeg) :: st)) : G p l e R s m args below meth c D B od nL tab F cells slots A z i lv (.int x :: .ref a :: st) := by
  intro q hq H locs ls hR hS hl
  cases Option.some.inj (hi.symm.trans hq)
  obtain ⟨q2, hq2, e2⟩ := X.2.2.2.1.fall hi rfl
  have K := kk q2 hq2 H locs ls hR hS hl
  rw [e2] at K
  exact va_dald X.1.1 X.1.2.1 X.2.1 (va_P1 (hR.1 a _ hA).2) 0 3 rfl rfl hin (X.2.2.2.1.dec hi) K
theorem g_aald (X : Cx p s m args meth c D cy B od cc nL tab own ret) (hi : tab[i]? = some (pc, .aaload, 1, nx, tg)) {a n b : Nat} {f : Nat → Option Nat} {x : Int32} (hA : A a = some (.inl (cy 4, n, .inr (.inr (.inr (.inr f)))))) (hin : vp_in x n) (hb : f x.toNatClampNeg = some b) (kk : G p l e R s m args below meth c D B od nL tab F cells slots A z nx lv (.ref b :: st)) : G p l e R s m args below meth c D B od nL tab F cells slots A z i lv (.int x :: .ref a :: st) := by
  intro q hq H locs ls hR hS hl
  cases Option.some.inj (hi.symm.trans hq)
  obtain ⟨q2, hq2, e2⟩ := X.2.2.2.1.fall hi rfl
  have K := kk q2 hq2 H locs ls hR hS hl
  rw [e2] at K
  refine va_aldq X.1.1 X.1.2.1 X.2.1 (va_P1 (hR.1 a _ hA).2) 0 4 rfl rfl hin (X.2.2.2.1.dec hi) ?_
  dsimp only
  rw [hb]
  exact K
theorem g_alen (X : Cx p s m args meth c D cy B od cc nL tab own ret) (hi : tab[i]? = some (pc, .arraylength, 1, nx, tg)) {a n t0 : Nat} {ty : FieldType} {x : (Nat → Int32) ⊕ (Nat → Int64)} (ht : (tysc cy)[t0]? = some (cy t0, ty)) (hA : A a = some (.inl (cy t0, n, x.elim (fun f => .inl f) (fun f => .inr (.inl f))))) (kk : G p l e R s m args below meth c D B od nL tab F cells slots A z nx lv (.int (nI n) :: st)) : G p l e R s m args below meth c D B od nL tab F cells slots A z i lv (.ref a :: st) := by
  intro q hq H locs ls hR hS hl
  cases Option.some.inj (hi.symm.trans hq)
  obtain ⟨q2, hq2, e2⟩ := X.2.2.2.1.fall hi rfl
  have K := kk q2 hq2 H locs ls hR hS hl
  rw [e2] at K
  rcases x with f | f
  · exact va_alen X.1.1 X.1.2.1 X.2.1 (va_P1 (hR.1 a _ hA).2) 0 t0 rfl ht rfl (X.2.2.2.1.dec hi) K
  · exact va_alen X.1.1 X.1.2.1 X.2.1 (va_P1 (hR.1 a _ hA).2) 0 t0 rfl ht rfl (X.2.2.2.1.dec hi) K
set_option maxHeartbeats 100000 in
theorem g_iast (X : Cx p s m args meth c D cy B od cc nL tab own ret) (hi : tab[i]? = some (pc, .iastore, 1, nx, tg)) {a n : Nat} {f : Nat → Int32} {x : Int32} {v : Int32} (hA : A a = some (.inl (cy 0, n, .inl (f)))) (hin : vp_in x n) 
    (kk : G p l e R s m args below meth c D B od nL tab F cells slots (upA A a (.inl (cy 0, n, .inl (upd f x.toNatClampNeg v)))) z nx lv st) : G p l e R s m args below meth c D B od nL tab F cells slots A z i lv (.int v :: .int x :: .ref a :: st) := by
  intro q hq H locs ls hR hS hl
  cases Option.some.inj (hi.symm.trans hq)
  obtain ⟨q2, hq2, e2⟩ := X.2.2.2.1.fall hi rfl
  obtain ⟨hlt, hat⟩ := hR.1 a _ hA
  have hd : decode cc pc = .ok (.iastore, 1) := X.2.2.2.1.dec hi
  have hat : H[rho B od a]? = some (vp_cell (cy 0) (n, .inl (f))) := hat
  refine wv_iast X.1.1 X.1.2.1 hat (X.2.1.2 0 _ rfl).1 hin hd (fun H1 h1 z9 oq => ?_)
  have h2 : va_at D vwCl (rho B od a, trE B od (.inl (cy 0, n, .inl (upd f x.toNatClampNeg v)))) H1 := h1
  have K := kk q2 hq2 H1 _ ls (hR.put hlt h2 z9 oq) (va_Sput (j := x.toNatClampNeg) hS hlt z9 oq) hl
  rw [e2] at K
  exact K
set_option maxHeartbeats 100000 in
theorem g_zast (X : Cx p s m args meth c D cy B od cc nL tab own ret) (hi : tab[i]? = some (pc, .bastore, 1, nx, tg)) {a n : Nat} {f : Nat → Int32} {x : Int32} {v : Int32} (hA : A a = some (.inl (cy 2, n, .inl (f)))) (hin : vp_in x n) (hv : v = 0 ∨ v = 1)
    (kk : G p l e R s m args below meth c D B od nL tab F cells slots (upA A a (.inl (cy 2, n, .inl (upd f x.toNatClampNeg v)))) z nx lv st) : G p l e R s m args below meth c D B od nL tab F cells slots A z i lv (.int v :: .int x :: .ref a :: st) := by
  intro q hq H locs ls hR hS hl
  cases Option.some.inj (hi.symm.trans hq)
  obtain ⟨q2, hq2, e2⟩ := X.2.2.2.1.fall hi rfl
  obtain ⟨hlt, hat⟩ := hR.1 a _ hA
  have hd : decode cc pc = .ok (.bastore, 1) := X.2.2.2.1.dec hi
  have hat : H[rho B od a]? = some (vp_cell (cy 2) (n, .inl (f))) := hat
  refine wv_zast X.1.1 X.1.2.1 hat (X.2.1.2 2 _ rfl).1 hin hv hd (fun H1 h1 z9 oq => ?_)
  have h2 : va_at D vwCl (rho B od a, trE B od (.inl (cy 2, n, .inl (upd f x.toNatClampNeg v)))) H1 := h1
  have K := kk q2 hq2 H1 _ ls (hR.put hlt h2 z9 oq) (va_Sput (j := x.toNatClampNeg) hS hlt z9 oq) hl
  rw [e2] at K
  exact K
set_option maxHeartbeats 100000 in
theorem g_last (X : Cx p s m args meth c D cy B od cc nL tab own ret) (hi : tab[i]? = some (pc, .lastore, 1, nx, tg)) {a n : Nat} {f : Nat → Int64} {x : Int32} {v : Int64} (hA : A a = some (.inl (cy 1, n, .inr (.inl (f))))) (hin : vp_in x n) 
    (kk : G p l e R s m args below meth c D B od nL tab F cells slots (upA A a (.inl (cy 1, n, .inr (.inl (vp_updL f x.toNatClampNeg v))))) z nx lv st) : G p l e R s m args below meth c D B od nL tab F cells slots A z i lv (.long v :: .int x :: .ref a :: st) := by
  intro q hq H locs ls hR hS hl
  cases Option.some.inj (hi.symm.trans hq)
  obtain ⟨q2, hq2, e2⟩ := X.2.2.2.1.fall hi rfl
  obtain ⟨hlt, hat⟩ := hR.1 a _ hA
  have hd : decode cc pc = .ok (.lastore, 1) := X.2.2.2.1.dec hi
  have hat : H[rho B od a]? = some (vp_cell (cy 1) (n, .inr (.inl (f)))) := hat
  refine wv_last X.1.1 X.1.2.1 hat (X.2.1.2 1 _ rfl).1 hin hd (fun H1 h1 z9 oq => ?_)
  have h2 : va_at D vwCl (rho B od a, trE B od (.inl (cy 1, n, .inr (.inl (vp_updL f x.toNatClampNeg v))))) H1 := h1
  have K := kk q2 hq2 H1 _ ls (hR.put hlt h2 z9 oq) (va_Sput (j := x.toNatClampNeg) hS hlt z9 oq) hl
  rw [e2] at K
  exact K
set_option maxHeartbeats 100000 in
theorem g_dast (X : Cx p s m args meth c D cy B od cc nL tab own ret) (hi : tab[i]? = some (pc, .dastore, 1, nx, tg)) {a n : Nat} {f : Nat → UInt64} {x : Int32} {v : UInt64} (hA : A a = some (.inl (cy 3, n, .inr (.inr (.inr (.inl (f))))))) (hin : vp_in x n) 
    (kk : G p l e R s m args below meth c D B od nL tab F cells slots (upA A a (.inl (cy 3, n, .inr (.inr (.inr (.inl (vf_upd f x.toNatClampNeg v))))))) z nx lv st) : G p l e R s m args below meth c D B od nL tab F cells slots A z i lv (.double v :: .int x :: .ref a :: st) := by
  intro q hq H locs ls hR hS hl
  cases Option.some.inj (hi.symm.trans hq)
  obtain ⟨q2, hq2, e2⟩ := X.2.2.2.1.fall hi rfl
  obtain ⟨hlt, hat⟩ := hR.1 a _ hA
  have hd : decode cc pc = .ok (.dastore, 1) := X.2.2.2.1.dec hi
  have hat : H[rho B od a]? = some (vp_cell (cy 3) (n, .inr (.inr (.inr (.inl (f)))))) := hat
  refine wv_dast X.1.1 X.1.2.1 hat (X.2.1.2 3 _ rfl).1 hin hd (fun H1 h1 z9 oq => ?_)
  have h2 : va_at D vwCl (rho B od a, trE B od (.inl (cy 3, n, .inr (.inr (.inr (.inl (vf_upd f x.toNatClampNeg v))))))) H1 := h1
  have K := kk q2 hq2 H1 _ ls (hR.put hlt h2 z9 oq) (va_Sput (j := x.toNatClampNeg) hS hlt z9 oq) hl
  rw [e2] at K
  exact K
end CORE3
end
section
/-! 04: new objects, calls, ends, a method's contract out of its body -/
section CORE4
variable {p : Program} {l : Launch} {e : Env} {R : Room} {s : State} {m : MethodId} {args : Array Value} {below : List Frame} {meth : Method} {c : Code}
variable {D : va_G} {cy : Nat → ClassId} {B : Nat} {od : Nat → Option Nat} {cc : ByteArray} {nL : Nat} {tab : List PT} {own : String} {ret : Option FieldType}
variable {F : State → Prop} {cells slots : Nat} {A : AH} {z i pc len nx tg : Nat} {lv : List (Option Value)} {st : List Value}
theorem Cx.od0 (X : Cx p s m args meth c D cy B od cc nL tab own ret) {k : Nat} (h : k < 1000000) : od k = none := X.2.2.2.2.2.2.2.2.2.2 k h
theorem va_Spush {H H1 : Heap} {locs : List Loc} (hS : va_S (fun q => B ≤ q) s.heap H locs) (z1 : H1.size = H.size + 1) (o1 : ∀ q : Nat, q < H.size → H1[q]? = H[q]?) : va_S (fun q => B ≤ q) s.heap H1 locs := ⟨Nat.le_trans hS.1 (by omega), fun x h1 h2 => (o1 x (Nat.lt_of_lt_of_le h1 hS.1)).trans (hS.2.1 x h1 h2), hS.2.2⟩
/-- new C -/
def NWk (own : String) (ix : Nat) (C : String) (T : u_T) (N : Nat) (ty0 : Nat → FieldType) : Prop := (∀ w ∈ u_ws C T N, w ∈ lw_good) ∧ (∀ k, k < N → parseFieldDescriptor (T k).2.2.1 = some (ty0 k)) ∧ Cond.classLink own ix C ∈ lw_good ∧ Cond.instantiable C N ∈ lw_good ∧ Cond.initialized C ∈ lw_good
theorem g_new (X : Cx p s m args meth c D cy B od cc nL tab own ret) {ix : Nat} (hi : tab[i]? = some (pc, .new ix, 3, nx, tg)) {C : String} {T : u_T} {N : Nat} {ty0 : Nat → FieldType} (hf : NWk own ix C T N ty0) {ci : Nat} (hc : vwCl[ci]? = some (C, T, N)) {fs : List Value} (hfs : (List.range N).map (fun j => defaultValue (ty0 j)) = fs) (hnr : fs.map (trV B od) = fs) (hz : z < 1000000) (hcells : cells + 1 ≤ R.cells) (hslots : slots + N ≤ R.slots)
    (kk : G p l e R s m args below meth c D B od nL tab F (cells + 1) (slots + N) (upA A z (.inr (ci, fs))) (z + 2) nx lv (.ref z :: st)) : G p l e R s m args below meth c D B od nL tab F cells slots A (z + 1) i lv st := by
  intro q hq H locs ls hR hS hl
  cases Option.some.inj (hi.symm.trans hq)
  obtain ⟨q2, hq2, e2⟩ := X.2.2.2.1.fall hi rfl
  obtain ⟨hin, hty, h1, h2, h3⟩ := hf
  have hKn := X.2.1.1 ci _ hc
  refine W.newcK X.1.1 X.1.2.1 X.1.2.2.2.1 (X.1.2.2.2.2 _ h1) (X.1.2.2.2.2 _ h2) (X.1.2.2.2.2 _ h3) rfl (X.2.2.2.1.dec hi) hcells hslots hKn.2.1 rfl fun H1 kC hkC e1 z1 o1 => ?_
  have hat : va_at D vwCl (H.size, trE B od (.inr (ci, fs))) H1 := by
    show va_at D vwCl (H.size, .inr (ci, fs.map (trV B od))) H1
    rw [hnr]
    refine ⟨_, hc, (u_born ty0 X.1.2.2.2.2 hin hKn hkC e1 hty).to (fun j hj => ?_)⟩
    unfold vp_V
    rw [← hfs, List.getD_eq_getElem?_getD, List.getElem?_map, List.getElem?_range hj]
    rfl
  obtain ⟨hR2, hr⟩ := hR.push (X.od0 hz) hat z1 o1
  have K := kk q2 hq2 H1 locs ls hR2 (va_Spush hS z1 o1) hl
  rw [e2] at K
  rw [hr]
  exact K
theorem tysc_cls {t0 : Nat} {ty : FieldType} (hK : va_K D vwCl (tysc cy) s) (ht : (tysc cy)[t0]? = some (cy t0, ty)) : va_RA s (cy t0) ty := (hK.2 t0 _ ht).2
theorem g_newai (X : Cx p s m args meth c D cy B od cc nL tab own ret) (hi : tab[i]? = some (pc, .newarray .int, 2, nx, tg)) (hw : Cond.arrayClass .int ∈ lw_good) {x : Int32} {N : Nat} (hx : ¬ x < 0) (hN : x.toNatClampNeg = N) (hbytes : N * 4 ≤ 536870912) (hz : z < 1000000) (hcells : cells + 1 ≤ R.cells) (hslots : slots + N ≤ R.slots)
    (kk : G p l e R s m args below meth c D B od nL tab F (cells + 1) (slots + N) (upA A z (.inl (cy 0, N, .inl (fun _ => 0)))) (z + 2) nx lv (.ref z :: st)) : G p l e R s m args below meth c D B od nL tab F cells slots A (z + 1) i lv (.int x :: st) := by
  intro q hq H locs ls hR hS hl
  cases Option.some.inj (hi.symm.trans hq)
  obtain ⟨q2, hq2, e2⟩ := X.2.2.2.1.fall hi rfl
  refine va_newaK (atype := .int) X.1.1 X.1.2.1 (X.1.2.2.2.2 _ hw) rfl (X.2.2.2.1.dec hi) rfl hx hN hbytes hcells hslots rfl fun H1 cA e1 z1 o1 hAr hNm => ?_
  have hcA : cA = cy 0 := Option.some.inj (hNm.symm.trans (tysc_cls (t0 := 0) (ty := .int) X.2.1 rfl))
  have hat : va_at D vwCl (H.size, trE B od (.inl (cy 0, N, .inl (fun _ => 0)))) H1 := by
    show H1[H.size]? = some (vp_cell (cy 0) (N, .inl (fun _ => 0)))
    rw [← hcA]; exact e1
  obtain ⟨hR2, hr⟩ := hR.push (X.od0 hz) hat z1 o1
  have K := kk q2 hq2 H1 locs ls hR2 (va_Spush hS z1 o1) hl
  rw [e2] at K
  rw [hr]
  exact K
theorem g_newaz (X : Cx p s m args meth c D cy B od cc nL tab own ret) (hi : tab[i]? = some (pc, .newarray .boolean, 2, nx, tg)) (hw : Cond.arrayClass .boolean ∈ lw_good) {x : Int32} {N : Nat} (hx : ¬ x < 0) (hN : x.toNatClampNeg = N) (hbytes : N * 1 ≤ 536870912) (hz : z < 1000000) (hcells : cells + 1 ≤ R.cells) (hslots : slots + N ≤ R.slots)
    (kk : G p l e R s m args below meth c D B od nL tab F (cells + 1) (slots + N) (upA A z (.inl (cy 2, N, .inl (fun _ => 0)))) (z + 2) nx lv (.ref z :: st)) : G p l e R s m args below meth c D B od nL tab F cells slots A (z + 1) i lv (.int x :: st) := by
  intro q hq H locs ls hR hS hl
  cases Option.some.inj (hi.symm.trans hq)
  obtain ⟨q2, hq2, e2⟩ := X.2.2.2.1.fall hi rfl
  refine va_newaK (atype := .boolean) X.1.1 X.1.2.1 (X.1.2.2.2.2 _ hw) rfl (X.2.2.2.1.dec hi) rfl hx hN hbytes hcells hslots rfl fun H1 cA e1 z1 o1 hAr hNm => ?_
  have hcA : cA = cy 2 := Option.some.inj (hNm.symm.trans (tysc_cls (t0 := 2) (ty := .boolean) X.2.1 rfl))
  have hat : va_at D vwCl (H.size, trE B od (.inl (cy 2, N, .inl (fun _ => 0)))) H1 := by
    show H1[H.size]? = some (vp_cell (cy 2) (N, .inl (fun _ => 0)))
    rw [← hcA]; exact e1
  obtain ⟨hR2, hr⟩ := hR.push (X.od0 hz) hat z1 o1
  have K := kk q2 hq2 H1 locs ls hR2 (va_Spush hS z1 o1) hl
  rw [e2] at K
  rw [hr]
  exact K
theorem g_newal (X : Cx p s m args meth c D cy B od cc nL tab own ret) (hi : tab[i]? = some (pc, .newarray .long, 2, nx, tg)) (hw : Cond.arrayClass .long ∈ lw_good) {x : Int32} {N : Nat} (hx : ¬ x < 0) (hN : x.toNatClampNeg = N) (hbytes : N * 8 ≤ 536870912) (hz : z < 1000000) (hcells : cells + 1 ≤ R.cells) (hslots : slots + N ≤ R.slots)
    (kk : G p l e R s m args below meth c D B od nL tab F (cells + 1) (slots + N) (upA A z (.inl (cy 1, N, .inr (.inl (fun _ => 0))))) (z + 2) nx lv (.ref z :: st)) : G p l e R s m args below meth c D B od nL tab F cells slots A (z + 1) i lv (.int x :: st) := by
  intro q hq H locs ls hR hS hl
  cases Option.some.inj (hi.symm.trans hq)
  obtain ⟨q2, hq2, e2⟩ := X.2.2.2.1.fall hi rfl
  refine va_newaK (atype := .long) X.1.1 X.1.2.1 (X.1.2.2.2.2 _ hw) rfl (X.2.2.2.1.dec hi) rfl hx hN hbytes hcells hslots rfl fun H1 cA e1 z1 o1 hAr hNm => ?_
  have hcA : cA = cy 1 := Option.some.inj (hNm.symm.trans (tysc_cls (t0 := 1) (ty := .long) X.2.1 rfl))
  have hat : va_at D vwCl (H.size, trE B od (.inl (cy 1, N, .inr (.inl (fun _ => 0))))) H1 := by
    show H1[H.size]? = some (vp_cell (cy 1) (N, .inr (.inl (fun _ => 0))))
    rw [← hcA]; exact e1
  obtain ⟨hR2, hr⟩ := hR.push (X.od0 hz) hat z1 o1
  have K := kk q2 hq2 H1 locs ls hR2 (va_Spush hS z1 o1) hl
  rw [e2] at K
  rw [hr]
  exact K
theorem g_newad (X : Cx p s m args meth c D cy B od cc nL tab own ret) (hi : tab[i]? = some (pc, .newarray .double, 2, nx, tg)) (hw : Cond.arrayClass .double ∈ lw_good) {x : Int32} {N : Nat} (hx : ¬ x < 0) (hN : x.toNatClampNeg = N) (hbytes : N * 8 ≤ 536870912) (hz : z < 1000000) (hcells : cells + 1 ≤ R.cells) (hslots : slots + N ≤ R.slots)
    (kk : G p l e R s m args below meth c D B od nL tab F (cells + 1) (slots + N) (upA A z (.inl (cy 3, N, .inr (.inr (.inr (.inl (fun _ => 0))))))) (z + 2) nx lv (.ref z :: st)) : G p l e R s m args below meth c D B od nL tab F cells slots A (z + 1) i lv (.int x :: st) := by
  intro q hq H locs ls hR hS hl
  cases Option.some.inj (hi.symm.trans hq)
  obtain ⟨q2, hq2, e2⟩ := X.2.2.2.1.fall hi rfl
  refine va_newaK (atype := .double) X.1.1 X.1.2.1 (X.1.2.2.2.2 _ hw) rfl (X.2.2.2.1.dec hi) rfl hx hN hbytes hcells hslots rfl fun H1 cA e1 z1 o1 hAr hNm => ?_
  have hcA : cA = cy 3 := Option.some.inj (hNm.symm.trans (tysc_cls (t0 := 3) (ty := .double) X.2.1 rfl))
  have hat : va_at D vwCl (H.size, trE B od (.inl (cy 3, N, .inr (.inr (.inr (.inl (fun _ => 0))))))) H1 := by
    show H1[H.size]? = some (vp_cell (cy 3) (N, .inr (.inr (.inr (.inl (fun _ => 0))))))
    rw [← hcA]; exact e1
  obtain ⟨hR2, hr⟩ := hR.push (X.od0 hz) hat z1 o1
  have K := kk q2 hq2 H1 locs ls hR2 (va_Spush hS z1 o1) hl
  rw [e2] at K
  rw [hr]
  exact K
theorem g_objInit (X : Cx p s m args meth c D cy B od cc nL tab own ret) {ix : Nat} (hi : tab[i]? = some (pc, .invokespecial ix, 3, nx, tg)) {a : Nat} (hw : Cond.methodLink own ix objectInit ∈ lw_good ∧ Cond.instanceMethod objectInit ∈ lw_good ∧ Cond.code objectInit ⟨#[0xb1]⟩ 1 none ∈ lw_good) (hf : 1 ≤ R.frames) (hst : (st.map fun v => v.category).sum ≤ 8) (hlo : 20 ≤ R.locals)
    (kk : G p l e R s m args below meth c D B od nL tab F cells slots A z nx lv st) : G p l e R s m args below meth c D B od nL tab F cells slots A z i lv (.ref a :: st) := by
  intro q hq H locs ls hR hS hl
  cases Option.some.inj (hi.symm.trans hq)
  obtain ⟨q2, hq2, e2⟩ := X.2.2.2.1.fall hi rfl
  have K := kk q2 hq2 H locs ls hR hS hl
  rw [e2] at K
  have hst2 : ((st.map (trV B od)).map fun v => v.category).sum ≤ 8 := by
    rw [List.map_map, show ((fun v : Value => v.category) ∘ trV B od) = (fun v => v.category) from funext fun v => trV_cat B od v]; exact hst
  have hrm := lv_room (m := m) (pc := pc) (ls := ls) (rest := st.map (trV B od)) hst2
  refine W.objInit X.1.1 X.1.2.1 X.1.2.2.2.1 (X.1.2.2.2.2 _ hw.1) (X.1.2.2.2.2 _ hw.2.1) (X.1.2.2.2.2 _ hw.2.2) rfl (hl.1.trans X.1.2.2.1.symm) rfl (X.2.2.2.1.dec hi) hf ?_ K
  have : 2 * (F0 m pc ls (st.map (trV B od))).monitorRoom + ((st.map (trV B od)).map fun v => v.category).sum + 12 ≤ R.locals := by omega
  exact this
-- ends
theorem g_retW {Q : QT} {Qx : QX} {mc ms : Nat} {b : Bool} {g : JFrame} {H : Heap} {locs : List Loc} (hc : cells ≤ mc) (hs : slots ≤ ms) (k : W p l e R s m args below meth c H locs mc ms (MQ below (QcA D B od Q) args s mc ms (fun q => B ≤ q)) g) : W p l e R s m args below meth c H locs cells slots (FinQ b D B od Q Qx args s below mc ms) g := by
  refine W.widen hc hs ?_
  cases b
  · exact k
  · exact vx_ret k
theorem g_iret (X : Cx p s m args meth c D cy B od cc nL tab own ret) (hi : tab[i]? = some (pc, .ireturn, 1, nx, tg)) {Q : QT} {Qx : QX} {mc ms : Nat} {b : Bool} {ty : FieldType} {v : Int32} (hr : ret = some ty) (hn : narrow ty (.int v) = .int v) (hc : cells ≤ mc) (hs : slots ≤ ms) (hQ : Q (some (.int v)) A z) : G p l e R s m args below meth c D B od nL tab (FinQ b D B od Q Qx args s below mc ms) cells slots A z i lv [.int v] := by
  intro q hq H locs ls hR hS hl
  cases Option.some.inj (hi.symm.trans hq)
  have hret := X.2.2.2.2.1
  have hlk := X.2.2.2.2.2.1
  exact g_retW hc hs (W.zret (v := v) X.1.1 X.1.2.1 (hret.trans hr) hn (fun t ht _ => ⟨⟨some (.int v), A, z, rfl, hQ, by rw [ht]; exact hR⟩, hS.F ht⟩) hS.2.2 (X.2.2.2.1.dec hi) hlk)
theorem g_lret (X : Cx p s m args meth c D cy B od cc nL tab own ret) (hi : tab[i]? = some (pc, .lreturn, 1, nx, tg)) {Q : QT} {Qx : QX} {mc ms : Nat} {b : Bool} {v : Int64} (hr : ret = some .long) (hc : cells ≤ mc) (hs : slots ≤ ms) (hQ : Q (some (.long v)) A z) : G p l e R s m args below meth c D B od nL tab (FinQ b D B od Q Qx args s below mc ms) cells slots A z i lv [.long v] := by
  intro q hq H locs ls hR hS hl
  cases Option.some.inj (hi.symm.trans hq)
  have hret := X.2.2.2.2.1
  have hlk := X.2.2.2.2.2.1
  exact g_retW hc hs (W.lret (v := v) X.1.1 X.1.2.1 (hret.trans hr) (fun t ht _ => ⟨⟨some (.long v), A, z, rfl, hQ, by rw [ht]; exact hR⟩, hS.F ht⟩) hS.2.2 (X.2.2.2.1.dec hi) hlk)
theorem g_dret (X : Cx p s m args meth c D cy B od cc nL tab own ret) (hi : tab[i]? = some (pc, .dreturn, 1, nx, tg)) {Q : QT} {Qx : QX} {mc ms : Nat} {b : Bool} {v : UInt64} (hr : ret = some .double) (hc : cells ≤ mc) (hs : slots ≤ ms) (hQ : Q (some (.double v)) A z) : G p l e R s m args below meth c D B od nL tab (FinQ b D B od Q Qx args s below mc ms) cells slots A z i lv [.double v] := by
  intro q hq H locs ls hR hS hl
  cases Option.some.inj (hi.symm.trans hq)
  have hret := X.2.2.2.2.1
  have hlk := X.2.2.2.2.2.1
  exact g_retW hc hs (W.dret (v := v) X.1.1 X.1.2.1 (hret.trans hr) (fun t ht _ => ⟨⟨some (.double v), A, z, rfl, hQ, by rw [ht]; exact hR⟩, hS.F ht⟩) hS.2.2 (X.2.2.2.1.dec hi) hlk)
theorem g_aret (X : Cx p s m args meth c D cy B od cc nL tab own ret) (hi : tab[i]? = some (pc, .areturn, 1, nx, tg)) {Q : QT} {Qx : QX} {mc ms : Nat} {b : Bool} {v : Nat} {nm : String} (hr : ret = some (.object nm)) (hc : cells ≤ mc) (hs : slots ≤ ms) (hQ : Q (some (.ref v)) A z) : G p l e R s m args below meth c D B od nL tab (FinQ b D B od Q Qx args s below mc ms) cells slots A z i lv [.ref v] := by
  intro q hq H locs ls hR hS hl
  cases Option.some.inj (hi.symm.trans hq)
  have hret := X.2.2.2.2.1
  have hlk := X.2.2.2.2.2.1
  exact g_retW hc hs (W.aret (v := .ref (rho B od v)) X.1.1 X.1.2.1 (hret.trans hr) (Or.inl ⟨nm, rfl⟩) (Or.inr ⟨_, rfl⟩) (fun t ht _ => ⟨⟨some (.ref v), A, z, rfl, hQ, by rw [ht]; exact hR⟩, hS.F ht⟩) hS.2.2 (X.2.2.2.1.dec hi) hlk)
theorem g_vret (X : Cx p s m args meth c D cy B od cc nL tab own ret) (hi : tab[i]? = some (pc, .return_, 1, nx, tg)) {Q : QT} {Qx : QX} {mc ms : Nat} {b : Bool} (hr : ret = none) (hc : cells ≤ mc) (hs : slots ≤ ms) (hQ : Q none A z) : G p l e R s m args below meth c D B od nL tab (FinQ b D B od Q Qx args s below mc ms) cells slots A z i lv [] := by
  intro q hq H locs ls hR hS hl
  cases Option.some.inj (hi.symm.trans hq)
  have hret := X.2.2.2.2.1
  have hlk := X.2.2.2.2.2.1
  exact g_retW hc hs (W.vret X.1.1 X.1.2.1 (hret.trans hr) (fun t ht _ => ⟨⟨none, A, z, rfl, hQ, by rw [ht]; exact hR⟩, hS.F ht⟩) hS.2.2 (X.2.2.2.1.dec hi) hlk)
-- links of calls
def LkC (y : MethodName) (bytes : ByteArray) (maxL : Nat) (rt : Option FieldType) (n : Nat) : Prop := Cond.code y bytes maxL rt ∈ lw_good ∧ Cond.initialized y.cls ∈ lw_good ∧ (y.cls ≠ "java/lang/invoke/MethodHandle" ∧ y.cls ≠ "java/lang/invoke/VarHandle") ∧ (parseMethodDescriptor y.desc).map (fun d => d.parameters.length) = some n
def LkM (own : String) (ix : Nat) (y : MethodName) : Prop := Cond.methodLink own ix y ∈ lw_good
def LkN (own : String) (ix : Nat) (y : MethodName) : Prop := ∃ host, Cond.methodLinkNest own ix y host ∈ nw_all
def LkSel (y : MethodName) : Prop := Cond.instanceMethod y ∈ lw_good ∧ Cond.selects y.cls y y ∈ lw_good
theorem lk_len {y : MethodName} {n : Nat} (h : (parseMethodDescriptor y.desc).map (fun d => d.parameters.length) = some n) : ∀ sig, parseMethodDescriptor y.desc = some sig → n = sig.parameters.length := by
  intro sig hs
  rw [hs] at h
  exact (Option.some.inj h).symm
section CALLS
variable {y : MethodName} {bytes : ByteArray} {maxL n ix : Nat} {rt : Option FieldType} {rm : Room} {As rest : List Value} {b : Nat} {Q' : QT} {Qx' : QX}
theorem mkB (X : Cx p s m args meth c D cy B od cc nL tab own ret) (h : LkC y bytes maxL rt n) (hl : LkM own ix y) (hR : rm.frames + 1 ≤ R.frames ∧ 8 + (maxL + 11) + rm.locals ≤ R.locals) : CallB R s args own ix y bytes maxL rt (Cond.code y bytes maxL rt :: lw_good) rm rm.cells rm.slots n :=
  ⟨rfl, rfl, hR.1, hR.2, pay_in X.1.2.2.2.2 (lw_good_ok h.1), List.mem_cons_self, X.1.2.2.2.2 _ h.1, X.1.2.2.2.2 _ h.2.1, h.2.2.1, lk_len h.2.2.2, X.1.2.2.2.2 _ hl⟩
theorem mkN (X : Cx p s m args meth c D cy B od cc nL tab own ret) (h : LkC y bytes maxL rt n) {host : String} (hl : Cond.methodLinkNest own ix y host ∈ nw_all) (hR : rm.frames + 1 ≤ R.frames ∧ 8 + (maxL + 11) + rm.locals ≤ R.locals) : va_CN R s args own ix y host bytes maxL rt (Cond.code y bytes maxL rt :: lw_good) rm rm.cells rm.slots n :=
  ⟨⟨rfl, rfl, hR.1, hR.2, pay_in X.1.2.2.2.2 (lw_good_ok h.1), List.mem_cons_self⟩, X.1.2.2.2.2 _ h.1, X.1.2.2.2.2 _ h.2.1, h.2.2.1, lk_len h.2.2.2, va_Nw.use rfl (X.2.2.1 _ hl)⟩
theorem run_go {H : Heap} {locs : List Loc} {mc ms : Nat} {ls : Array Slot} {st0 rs : List Value} {a : Array Value} (hr : va_Run p l e R s m args below meth c H locs cells slots mc ms (F0 m pc ls st0) rs (QcA D B od Q' a) (fun q => B ≤ q)) (hS : va_S (fun q => B ≤ q) s.heap H locs)
    (kk : ∀ (v : Option Value) (A' : AH) (z' : Nat) (H1 : Heap) (locs1 : List Loc), Q' v A' z' → RelA D B od A' z' H1 → va_S (fun q => B ≤ q) s.heap H1 locs1 → W p l e R s m args below meth c H1 locs1 (cells + mc) (slots + ms) F (F0 m (pc + 3) ls ((v.map (trV B od)).toList ++ rs))) : W p l e R s m args below meth c H locs cells slots F (F0 m pc ls st0) := by
  intro T hT X
  obtain ⟨v, st₀, t, T', L, h0, X', hL, e1, e2, ⟨⟨v', A', z', hv, hp, hb⟩, hz, hk⟩, st⟩ := hr T hT X
  have hv : v = v'.map (trV B od) := by cases hv; rfl
  subst hv
  rw [h0] at hz hk
  obtain ⟨t2, a1, b1⟩ := kk v' A' z' T'.heap (locs ++ L) hp (by rw [e1]; exact hb)
    ⟨Nat.le_trans hS.1 (by rw [e1]; exact hz), fun q h1 h2 => by rw [e1, hk q (Nat.lt_of_lt_of_le h1 hS.1) h2]; exact hS.2.1 q h1 h2, fun q hq => by
      rcases List.mem_append.mp hq with h | h
      · exact hS.2.2 q h
      · exact hL q h⟩ T' rfl X'
  exact ⟨t2, st t2 a1, b1⟩
theorem st_cat {rest : List Value} (hst : (rest.map fun v => v.category).sum ≤ 8) : ((rest.map (trV B od)).map fun v => v.category).sum ≤ 8 := by
  rw [List.map_map, show ((fun v : Value => v.category) ∘ trV B od) = (fun v => v.category) from funext fun v => trV_cat B od v]; exact hst
theorem st_ret {v : Option Value} {rest : List Value} : (v.map (trV B od)).toList ++ rest.map (trV B od) = (v.toList ++ rest).map (trV B od) := by cases v <;> rfl
theorem recv {H : Heap} {ci : Nat} {fs : List Value} {C : String} {T : u_T} {N : Nat} (X : Cx p s m args meth c D cy B od cc nL tab own ret) (hR : RelA D B od A z H) (hA : A b = some (.inr (ci, fs))) (hc : vwCl[ci]? = some (C, T, N)) : ∃ cell : Cell, H[rho B od b]? = some cell ∧ cell.vm.isStatics = false ∧ s.vm.findClass C = some cell.cls := va_recv (q := (C, T, N)) (ws := [(rho B od b, .inr (ci, fs.map (trV B od)))]) X.2.1 (va_P1 (hR.1 b _ hA).2) (q0 := 0) hc rfl
theorem g_callV (X : Cx p s m args meth c D cy B od cc nL tab own ret) (hi : tab[i]? = some (pc, .invokevirtual ix, 3, nx, tg)) (hL : LkC y bytes maxL rt n) (hM : LkM own ix y) (hSe : LkSel y) (hC : CT l D cy B od y bytes maxL rt rm (.ref b :: As) A z Q') {ci : Nat} {fs : List Value} {T : u_T} {N : Nat} (hA : A b = some (.inr (ci, fs))) (hc : vwCl[ci]? = some (y.cls, T, N)) (hst : st = As.reverse ++ .ref b :: rest) (hn : As.length = n) (hw : (rest.map fun v => v.category).sum ≤ 8) (hRm : rm.frames + 1 ≤ R.frames ∧ 8 + (maxL + 11) + rm.locals ≤ R.locals) (hf : cells + rm.cells ≤ R.cells ∧ slots + rm.slots ≤ R.slots)
    (kk : ∀ (v : Option Value) (A' : AH) (z' : Nat), Q' v A' z' → G p l e R s m args below meth c D B od nL tab F (cells + rm.cells) (slots + rm.slots) A' z' nx lv (v.toList ++ rest)) : G p l e R s m args below meth c D B od nL tab F cells slots A z i lv st := by
  intro q hq H locs ls hR hS hl
  cases Option.some.inj (hi.symm.trans hq)
  obtain ⟨q2, hq2, e2⟩ := X.2.2.2.1.fall hi rfl
  subst hst
  rw [List.map_append, List.map_reverse, List.map_cons]
  refine run_go (va_runV (As := As.map (trV B od)) (b := rho B od b) (rest := rest.map (trV B od)) X.1 hC ⟨mkB X hL hM hRm, X.1.2.2.2.2 _ hSe.1, X.1.2.2.2.2 _ hSe.2⟩ ⟨PcA.blind, recv X hR hA hc, fun U hU hW => ⟨rfl, X.world hR hS U hU hW⟩⟩ rfl ((List.length_map _).trans hn) hl.1 rfl (lv_room (st_cat hw)) (X.2.2.2.1.dec hi) hf) hS (fun v A' z' H1 locs1 hq hR1 hS1 => ?_)
  have K := kk v A' z' hq q2 hq2 H1 locs1 ls hR1 hS1 hl
  rw [e2, ← st_ret] at K
  exact K
theorem g_callVN (X : Cx p s m args meth c D cy B od cc nL tab own ret) (hi : tab[i]? = some (pc, .invokevirtual ix, 3, nx, tg)) (hL : LkC y bytes maxL rt n) (hM : LkN own ix y) (hSe : LkSel y) (hC : CT l D cy B od y bytes maxL rt rm (.ref b :: As) A z Q') {ci : Nat} {fs : List Value} {T : u_T} {N : Nat} (hA : A b = some (.inr (ci, fs))) (hc : vwCl[ci]? = some (y.cls, T, N)) (hst : st = As.reverse ++ .ref b :: rest) (hn : As.length = n) (hw : (rest.map fun v => v.category).sum ≤ 8) (hRm : rm.frames + 1 ≤ R.frames ∧ 8 + (maxL + 11) + rm.locals ≤ R.locals) (hf : cells + rm.cells ≤ R.cells ∧ slots + rm.slots ≤ R.slots)
    (kk : ∀ (v : Option Value) (A' : AH) (z' : Nat), Q' v A' z' → G p l e R s m args below meth c D B od nL tab F (cells + rm.cells) (slots + rm.slots) A' z' nx lv (v.toList ++ rest)) : G p l e R s m args below meth c D B od nL tab F cells slots A z i lv st := by
  intro q hq H locs ls hR hS hl
  cases Option.some.inj (hi.symm.trans hq)
  obtain ⟨q2, hq2, e2⟩ := X.2.2.2.1.fall hi rfl
  obtain ⟨host, hM⟩ := hM
  subst hst
  rw [List.map_append, List.map_reverse, List.map_cons]
  refine run_go (va_runVN (As := As.map (trV B od)) (b := rho B od b) (rest := rest.map (trV B od)) X.1 hC ⟨mkN X hL hM hRm, X.1.2.2.2.2 _ hSe.1, X.1.2.2.2.2 _ hSe.2⟩ ⟨PcA.blind, recv X hR hA hc, fun U hU hW => ⟨rfl, X.world hR hS U hU hW⟩⟩ rfl ((List.length_map _).trans hn) hl.1 rfl (lv_room (st_cat hw)) (X.2.2.2.1.dec hi) hf) hS (fun v A' z' H1 locs1 hq hR1 hS1 => ?_)
  have K := kk v A' z' hq q2 hq2 H1 locs1 ls hR1 hS1 hl
  rw [e2, ← st_ret] at K
  exact K
theorem g_callS (X : Cx p s m args meth c D cy B od cc nL tab own ret) (hi : tab[i]? = some (pc, .invokestatic ix, 3, nx, tg)) (hL : LkC y bytes maxL rt n) (hM : LkM own ix y) (hSt : Cond.static y ∈ lw_good) (hC : CT l D cy B od y bytes maxL rt rm As A z Q') (hst : st = As.reverse ++ rest) (hn : As.length = n) (hw : (rest.map fun v => v.category).sum ≤ 8) (hRm : rm.frames + 1 ≤ R.frames ∧ 8 + (maxL + 11) + rm.locals ≤ R.locals) (hf : cells + rm.cells ≤ R.cells ∧ slots + rm.slots ≤ R.slots)
    (kk : ∀ (v : Option Value) (A' : AH) (z' : Nat), Q' v A' z' → G p l e R s m args below meth c D B od nL tab F (cells + rm.cells) (slots + rm.slots) A' z' nx lv (v.toList ++ rest)) : G p l e R s m args below meth c D B od nL tab F cells slots A z i lv st := by
  intro q hq H locs ls hR hS hl
  cases Option.some.inj (hi.symm.trans hq)
  obtain ⟨q2, hq2, e2⟩ := X.2.2.2.1.fall hi rfl
  subst hst
  rw [List.map_append, List.map_reverse]
  refine run_go (va_runS (As := As.map (trV B od)) (rest := rest.map (trV B od)) X.1 hC ⟨mkB X hL hM hRm, X.1.2.2.2.2 _ hSt⟩ ⟨PcA.blind, fun U hU hW => ⟨rfl, X.world hR hS U hU hW⟩⟩ rfl ((List.length_map _).trans hn) hl.1 rfl (lv_room (st_cat hw)) (X.2.2.2.1.dec hi) hf) hS (fun v A' z' H1 locs1 hq hR1 hS1 => ?_)
  have K := kk v A' z' hq q2 hq2 H1 locs1 ls hR1 hS1 hl
  rw [e2, ← st_ret] at K
  exact K
theorem g_callSN (X : Cx p s m args meth c D cy B od cc nL tab own ret) (hi : tab[i]? = some (pc, .invokestatic ix, 3, nx, tg)) (hL : LkC y bytes maxL rt n) (hM : LkN own ix y) (hSt : Cond.static y ∈ lw_good) (hC : CT l D cy B od y bytes maxL rt rm As A z Q') (hst : st = As.reverse ++ rest) (hn : As.length = n) (hw : (rest.map fun v => v.category).sum ≤ 8) (hRm : rm.frames + 1 ≤ R.frames ∧ 8 + (maxL + 11) + rm.locals ≤ R.locals) (hf : cells + rm.cells ≤ R.cells ∧ slots + rm.slots ≤ R.slots)
    (kk : ∀ (v : Option Value) (A' : AH) (z' : Nat), Q' v A' z' → G p l e R s m args below meth c D B od nL tab F (cells + rm.cells) (slots + rm.slots) A' z' nx lv (v.toList ++ rest)) : G p l e R s m args below meth c D B od nL tab F cells slots A z i lv st := by
  intro q hq H locs ls hR hS hl
  cases Option.some.inj (hi.symm.trans hq)
  obtain ⟨q2, hq2, e2⟩ := X.2.2.2.1.fall hi rfl
  obtain ⟨host, hM⟩ := hM
  subst hst
  rw [List.map_append, List.map_reverse]
  refine run_go (va_runSN (As := As.map (trV B od)) (rest := rest.map (trV B od)) X.1 hC ⟨mkN X hL hM hRm, X.1.2.2.2.2 _ hSt, trivial⟩ ⟨PcA.blind, fun U hU hW => ⟨rfl, X.world hR hS U hU hW⟩⟩ rfl ((List.length_map _).trans hn) hl.1 rfl (lv_room (st_cat hw)) (X.2.2.2.1.dec hi) hf) hS (fun v A' z' H1 locs1 hq hR1 hS1 => ?_)
  have K := kk v A' z' hq q2 hq2 H1 locs1 ls hR1 hS1 hl
  rw [e2, ← st_ret] at K
  exact K
theorem g_callI (X : Cx p s m args meth c D cy B od cc nL tab own ret) (hi : tab[i]? = some (pc, .invokespecial ix, 3, nx, tg)) (hL : LkC y bytes maxL none n) (hM : LkM own ix y) (hI : Cond.instanceMethod y ∈ lw_good) (hy : y.name = "<init>") (hC : CT l D cy B od y bytes maxL none rm (.ref b :: As) A z Q') (hst : st = As.reverse ++ .ref b :: rest) (hn : As.length = n) (hw : (rest.map fun v => v.category).sum ≤ 8) (hRm : rm.frames + 1 ≤ R.frames ∧ 8 + (maxL + 11) + rm.locals ≤ R.locals) (hf : cells + rm.cells ≤ R.cells ∧ slots + rm.slots ≤ R.slots)
    (kk : ∀ (v : Option Value) (A' : AH) (z' : Nat), Q' v A' z' → G p l e R s m args below meth c D B od nL tab F (cells + rm.cells) (slots + rm.slots) A' z' nx lv (v.toList ++ rest)) : G p l e R s m args below meth c D B od nL tab F cells slots A z i lv st := by
  intro q hq H locs ls hR hS hl
  cases Option.some.inj (hi.symm.trans hq)
  obtain ⟨q2, hq2, e2⟩ := X.2.2.2.1.fall hi rfl
  subst hst
  rw [List.map_append, List.map_reverse, List.map_cons]
  refine run_go (va_runI (As := As.map (trV B od)) (b := rho B od b) (rest := rest.map (trV B od)) X.1 hC ⟨mkB X hL hM hRm, hy, X.1.2.2.2.2 _ hI⟩ ⟨PcA.blind, fun U hU hW => ⟨rfl, X.world hR hS U hU hW⟩⟩ rfl ((List.length_map _).trans hn) hl.1 rfl (lv_room (st_cat hw)) (X.2.2.2.1.dec hi) hf) hS (fun v A' z' H1 locs1 hq hR1 hS1 => ?_)
  have K := kk v A' z' hq q2 hq2 H1 locs1 ls hR1 hS1 hl
  rw [e2, ← st_ret] at K
  exact K
theorem g_callIN (X : Cx p s m args meth c D cy B od cc nL tab own ret) (hi : tab[i]? = some (pc, .invokespecial ix, 3, nx, tg)) (hL : LkC y bytes maxL none n) (hM : LkN own ix y) (hI : Cond.instanceMethod y ∈ lw_good) (hy : y.name = "<init>") (hC : CT l D cy B od y bytes maxL none rm (.ref b :: As) A z Q') (hst : st = As.reverse ++ .ref b :: rest) (hn : As.length = n) (hw : (rest.map fun v => v.category).sum ≤ 8) (hRm : rm.frames + 1 ≤ R.frames ∧ 8 + (maxL + 11) + rm.locals ≤ R.locals) (hf : cells + rm.cells ≤ R.cells ∧ slots + rm.slots ≤ R.slots)
    (kk : ∀ (v : Option Value) (A' : AH) (z' : Nat), Q' v A' z' → G p l e R s m args below meth c D B od nL tab F (cells + rm.cells) (slots + rm.slots) A' z' nx lv (v.toList ++ rest)) : G p l e R s m args below meth c D B od nL tab F cells slots A z i lv st := by
  intro q hq H locs ls hR hS hl
  cases Option.some.inj (hi.symm.trans hq)
  obtain ⟨q2, hq2, e2⟩ := X.2.2.2.1.fall hi rfl
  obtain ⟨host, hM⟩ := hM
  subst hst
  rw [List.map_append, List.map_reverse, List.map_cons]
  refine run_go (va_runIN (As := As.map (trV B od)) (b := rho B od b) (rest := rest.map (trV B od)) X.1 hC ⟨mkN X hL hM hRm, hy, X.1.2.2.2.2 _ hI⟩ ⟨PcA.blind, fun U hU hW => ⟨rfl, X.world hR hS U hU hW⟩⟩ rfl ((List.length_map _).trans hn) hl.1 rfl (lv_room (st_cat hw)) (X.2.2.2.1.dec hi) hf) hS (fun v A' z' H1 locs1 hq hR1 hS1 => ?_)
  have K := kk v A' z' hq q2 hq2 H1 locs1 ls hR1 hS1 hl
  rw [e2, ← st_ret] at K
  exact K
end CALLS
-- contracts out of bodies
theorem CT.of {y : MethodName} {bytes : ByteArray} {maxL : Nat} {rt : Option FieldType} {rm : Room} {av : List Value} {Q : QT} (hy : plainName y.cls = true) (tb : List PT) (hok : OkTab bytes tb) (hlen : (entL av).length ≤ maxL) {q0 : PT} (h0 : tb[0]? = some q0) (h00 : q0.1 = 0)
    (body : ∀ (p : Program) (e : Env) (s : State) (m : MethodId) (args : Array Value) (below : List Frame) (meth : Method) (c : Code), Cx p s m args meth c D cy B od bytes maxL tb y.cls rt → meth.name = y.name → G p l e rm s m args below meth c D B od maxL tb (FinQ false D B od Q (fun _ _ => True) args s below rm.cells rm.slots) 0 0 A z 0 (entN av maxL) []) : CT l D cy B od y bytes maxL rt rm av A z Q := by
  refine Met.ofW (cc := bytes) (maxL := maxL) (ret := rt) hy rfl ?_
  intro p e s m args below meth c s₁ Bd hml hv
  obtain ⟨hav, hK, hN, hR, hB, hO⟩ := hv
  have X : Cx p s m args meth c D cy B od bytes maxL tb y.cls rt := ⟨⟨Bd.exec, Bd.bytes, hml, findClass_of_methodNamed Bd.named, fun v hv => atoms_spec Bd.pre _ (List.mem_cons_of_mem _ hv)⟩, hK, hN, hok, Bd.returns, Bd.notSynchronized, hB, hO⟩
  have g := body p e s m args below meth c X (name_of_methodNamed Bd.named Bd.method).1
  have hl := lv_entry (av.map (trV B od)) (n := maxL) (by rw [lg_len]; exact hlen)
  have K := g q0 h0 s.heap [] _ hR va_S.rf (LR.entry hl)
  rw [h00] at K
  rw [hav, lg_entry_eq]
  exact hav ▸ K
theorem CX.of {y : MethodName} {bytes : ByteArray} {maxL : Nat} {rt : Option FieldType} {rm : Room} {av : List Value} {Q : QT} {Qx : QX} (hy : plainName y.cls = true) (tb : List PT) (hok : OkTab bytes tb) (hlen : (entL av).length ≤ maxL) {q0 : PT} (h0 : tb[0]? = some q0) (h00 : q0.1 = 0)
    (body : ∀ (p : Program) (e : Env) (s : State) (m : MethodId) (args : Array Value) (below : List Frame) (meth : Method) (c : Code), Cx p s m args meth c D cy B od bytes maxL tb y.cls rt → (∀ x ∈ c.exceptionTable.toList, False) → G p l e rm s m args below meth c D B od maxL tb (FinQ true D B od Q Qx args s below rm.cells rm.slots) 0 0 A z 0 (entN av maxL) []) : CX l D cy B od y bytes maxL rt rm av A z Q Qx := by
  refine vx_ofW (cc := bytes) (maxL := maxL) (ret := rt) hy rfl ?_
  intro p e s m args below meth c s₁ Bd hml hxt hv
  obtain ⟨hav, hK, hN, hR, hB, hO⟩ := hv
  have X : Cx p s m args meth c D cy B od bytes maxL tb y.cls rt := ⟨⟨Bd.exec, Bd.bytes, hml, findClass_of_methodNamed Bd.named, fun v hv => atoms_spec Bd.pre _ (List.mem_cons_of_mem _ hv)⟩, hK, hN, hok, Bd.returns, Bd.notSynchronized, hB, hO⟩
  have g := body p e s m args below meth c X hxt
  have hl := lv_entry (av.map (trV B od)) (n := maxL) (by rw [lg_len]; exact hlen)
  have K := g q0 h0 s.heap [] _ hR va_S.rf (LR.entry hl)
  rw [h00] at K
  rw [hav, lg_entry_eq]
  exact hav ▸ K
end CORE4
end
section
/-! 05: the code of the inner classes, row by row -/
def tX0_init : List PT := [(0, .aload_n 0, 1, 1, 0), (1, .invokespecial 3, 3, 2, 0), (4, .aload_n 0, 1, 3, 0), (5, .bipush 12, 2, 4, 0), (7, .newarray .int, 2, 5, 0), (9, .putfield 9, 3, 6, 0), (12, .aload_n 0, 1, 7, 0), (13, .bipush 12, 2, 8, 0), (15, .newarray .int, 2, 9, 0), (17, .putfield 15, 3, 10, 0), (20, .aload_n 0, 1, 11, 0), (21, .bipush 12, 2, 12, 0), (23, .newarray .int, 2, 13, 0), (25, .putfield 18, 3, 14, 0), (28, .aload_n 0, 1, 15, 0), (29, .bipush 12, 2, 16, 0), (31, .newarray .int, 2, 17, 0), (33, .putfield 21, 3, 18, 0), (36, .aload_n 0, 1, 19, 0), (37, .bipush 12, 2, 20, 0), (39, .newarray .int, 2, 21, 0), (41, .putfield 24, 3, 22, 0), (44, .aload_n 0, 1, 23, 0), (45, .bipush 12, 2, 24, 0), (47, .newarray .int, 2, 25, 0), (49, .putfield 27, 3, 26, 0), (52, .return_, 1, 27, 0)]
set_option maxRecDepth 100000 in
theorem okX0_init : OkTab cX0_init tX0_init := ⟨by decide +kernel, by decide +kernel⟩
def tX0_add : List PT := [(0, .aload_n 0, 1, 1, 0), (1, .getfield 30, 3, 2, 0), (4, .bipush 12, 2, 3, 0), (6, .if_icmp .lt 5, 3, 4, 6), (9, .iconst (-1), 1, 5, 0), (10, .ireturn, 1, 6, 0), (11, .aload_n 0, 1, 7, 0), (12, .getfield 9, 3, 8, 0), (15, .aload_n 0, 1, 9, 0), (16, .getfield 30, 3, 10, 0), (19, .iload_n 1, 1, 11, 0), (20, .iastore, 1, 12, 0), (21, .aload_n 0, 1, 13, 0), (22, .getfield 15, 3, 14, 0), (25, .aload_n 0, 1, 15, 0), (26, .getfield 30, 3, 16, 0), (29, .iload_n 2, 1, 17, 0), (30, .iastore, 1, 18, 0), (31, .aload_n 0, 1, 19, 0), (32, .getfield 18, 3, 20, 0), (35, .aload_n 0, 1, 21, 0), (36, .getfield 30, 3, 22, 0), (39, .iload_n 3, 1, 23, 0), (40, .iastore, 1, 24, 0), (41, .aload_n 0, 1, 25, 0), (42, .getfield 21, 3, 26, 0), (45, .aload_n 0, 1, 27, 0), (46, .getfield 30, 3, 28, 0), (49, .iload 4, 2, 29, 0), (51, .iastore, 1, 30, 0), (52, .aload_n 0, 1, 31, 0), (53, .getfield 24, 3, 32, 0), (56, .aload_n 0, 1, 33, 0), (57, .getfield 30, 3, 34, 0), (60, .iconst (-1), 1, 35, 0), (61, .iastore, 1, 36, 0), (62, .aload_n 0, 1, 37, 0), (63, .getfield 27, 3, 38, 0), (66, .aload_n 0, 1, 39, 0), (67, .getfield 30, 3, 40, 0), (70, .iconst (-1), 1, 41, 0), (71, .iastore, 1, 42, 0), (72, .aload_n 0, 1, 43, 0), (73, .dup, 1, 44, 0), (74, .getfield 30, 3, 45, 0), (77, .iconst 1, 1, 46, 0), (78, .iadd, 1, 47, 0), (79, .putfield 30, 3, 48, 0), (82, .aload_n 0, 1, 49, 0), (83, .getfield 30, 3, 50, 0), (86, .iconst 1, 1, 51, 0), (87, .isub, 1, 52, 0), (88, .ireturn, 1, 53, 0)]
set_option maxRecDepth 100000 in
theorem okX0_add : OkTab cX0_add tX0_add := ⟨by decide +kernel, by decide +kernel⟩
def tX0_copyFrom : List PT := [(0, .aload_n 0, 1, 1, 0), (1, .aload_n 1, 1, 2, 0), (2, .getfield 30, 3, 3, 0), (5, .putfield 30, 3, 4, 0), (8, .iconst 0, 1, 5, 0), (9, .istore_n 2, 1, 6, 0), (10, .iload_n 2, 1, 7, 0), (11, .aload_n 0, 1, 8, 0), (12, .getfield 30, 3, 9, 0), (15, .if_icmp .ge 81, 3, 10, 60), (18, .aload_n 0, 1, 11, 0), (19, .getfield 9, 3, 12, 0), (22, .iload_n 2, 1, 13, 0), (23, .aload_n 1, 1, 14, 0), (24, .getfield 9, 3, 15, 0), (27, .iload_n 2, 1, 16, 0), (28, .iaload, 1, 17, 0), (29, .iastore, 1, 18, 0), (30, .aload_n 0, 1, 19, 0), (31, .getfield 15, 3, 20, 0), (34, .iload_n 2, 1, 21, 0), (35, .aload_n 1, 1, 22, 0), (36, .getfield 15, 3, 23, 0), (39, .iload_n 2, 1, 24, 0), (40, .iaload, 1, 25, 0), (41, .iastore, 1, 26, 0), (42, .aload_n 0, 1, 27, 0), (43, .getfield 18, 3, 28, 0), (46, .iload_n 2, 1, 29, 0), (47, .aload_n 1, 1, 30, 0), (48, .getfield 18, 3, 31, 0), (51, .iload_n 2, 1, 32, 0), (52, .iaload, 1, 33, 0), (53, .iastore, 1, 34, 0), (54, .aload_n 0, 1, 35, 0), (55, .getfield 21, 3, 36, 0), (58, .iload_n 2, 1, 37, 0), (59, .aload_n 1, 1, 38, 0), (60, .getfield 21, 3, 39, 0), (63, .iload_n 2, 1, 40, 0), (64, .iaload, 1, 41, 0), (65, .iastore, 1, 42, 0), (66, .aload_n 0, 1, 43, 0), (67, .getfield 24, 3, 44, 0), (70, .iload_n 2, 1, 45, 0), (71, .aload_n 1, 1, 46, 0), (72, .getfield 24, 3, 47, 0), (75, .iload_n 2, 1, 48, 0), (76, .iaload, 1, 49, 0), (77, .iastore, 1, 50, 0), (78, .aload_n 0, 1, 51, 0), (79, .getfield 27, 3, 52, 0), (82, .iload_n 2, 1, 53, 0), (83, .aload_n 1, 1, 54, 0), (84, .getfield 27, 3, 55, 0), (87, .iload_n 2, 1, 56, 0), (88, .iaload, 1, 57, 0), (89, .iastore, 1, 58, 0), (90, .iinc 2 1, 3, 59, 0), (93, .goto (-83), 3, 60, 6), (96, .return_, 1, 61, 0)]
set_option maxRecDepth 100000 in
theorem okX0_copyFrom : OkTab cX0_copyFrom tX0_copyFrom := ⟨by decide +kernel, by decide +kernel⟩
def tX0_soldOnes : List PT := [(0, .iconst 0, 1, 1, 0), (1, .istore_n 1, 1, 2, 0), (2, .iconst 0, 1, 3, 0), (3, .istore_n 2, 1, 4, 0), (4, .iload_n 2, 1, 5, 0), (5, .aload_n 0, 1, 6, 0), (6, .getfield 30, 3, 7, 0), (9, .if_icmp .ge 22, 3, 8, 17), (12, .aload_n 0, 1, 9, 0), (13, .getfield 24, 3, 10, 0), (16, .iload_n 2, 1, 11, 0), (17, .iaload, 1, 12, 0), (18, .iconst (-1), 1, 13, 0), (19, .if_icmp .eq 6, 3, 14, 15), (22, .iinc 1 1, 3, 15, 0), (25, .iinc 2 1, 3, 16, 0), (28, .goto (-24), 3, 17, 4), (31, .iload_n 1, 1, 18, 0), (32, .ireturn, 1, 19, 0)]
set_option maxRecDepth 100000 in
theorem okX0_soldOnes : OkTab cX0_soldOnes tX0_soldOnes := ⟨by decide +kernel, by decide +kernel⟩
def tX0_isSoldBy : List PT := [(0, .aload_n 0, 1, 1, 0), (1, .getfield 24, 3, 2, 0), (4, .iload_n 1, 1, 3, 0), (5, .iaload, 1, 4, 0), (6, .iconst (-1), 1, 5, 0), (7, .if_icmp .eq 20, 3, 6, 16), (10, .aload_n 0, 1, 7, 0), (11, .getfield 24, 3, 8, 0), (14, .iload_n 1, 1, 9, 0), (15, .iaload, 1, 10, 0), (16, .bipush 30, 2, 11, 0), (18, .idiv, 1, 12, 0), (19, .iload_n 2, 1, 13, 0), (20, .if_icmp .gt 7, 3, 14, 16), (23, .iconst 1, 1, 15, 0), (24, .goto 4, 3, 16, 17), (27, .iconst 0, 1, 17, 0), (28, .ireturn, 1, 18, 0)]
set_option maxRecDepth 100000 in
theorem okX0_isSoldBy : OkTab cX0_isSoldBy tX0_isSoldBy := ⟨by decide +kernel, by decide +kernel⟩
def tX0_writtenUpTo : List PT := [(0, .iload_n 2, 1, 1, 0), (1, .aload_n 0, 1, 2, 0), (2, .getfield 15, 3, 3, 0), (5, .iload_n 1, 1, 4, 0), (6, .iaload, 1, 5, 0), (7, .bipush 30, 2, 6, 0), (9, .idiv, 1, 7, 0), (10, .isub, 1, 8, 0), (11, .iconst 1, 1, 9, 0), (12, .iadd, 1, 10, 0), (13, .istore_n 3, 1, 11, 0), (14, .aload_n 0, 1, 12, 0), (15, .getfield 21, 3, 13, 0), (18, .iload_n 1, 1, 14, 0), (19, .iaload, 1, 15, 0), (20, .iconst 1, 1, 16, 0), (21, .if_icmp .eq 8, 3, 17, 20), (24, .iload_n 3, 1, 18, 0), (25, .iconst 1, 1, 19, 0), (26, .if_icmp .ge 5, 3, 20, 22), (29, .iconst 0, 1, 21, 0), (30, .ireturn, 1, 22, 0), (31, .aload_n 0, 1, 23, 0), (32, .getfield 21, 3, 24, 0), (35, .iload_n 1, 1, 25, 0), (36, .iaload, 1, 26, 0), (37, .ifCond .eq 22, 3, 27, 38), (40, .iload_n 3, 1, 28, 0), (41, .aload_n 0, 1, 29, 0), (42, .getfield 18, 3, 30, 0), (45, .iload_n 1, 1, 31, 0), (46, .iaload, 1, 32, 0), (47, .if_icmp .ge 12, 3, 33, 38), (50, .aload_n 0, 1, 34, 0), (51, .iload_n 1, 1, 35, 0), (52, .iload_n 2, 1, 36, 0), (53, .invokevirtual 34, 3, 37, 0), (56, .ifCond .eq 10, 3, 38, 43), (59, .aload_n 0, 1, 39, 0), (60, .getfield 9, 3, 40, 0), (63, .iload_n 1, 1, 41, 0), (64, .iaload, 1, 42, 0), (65, .ireturn, 1, 43, 0), (66, .aload_n 0, 1, 44, 0), (67, .getfield 9, 3, 45, 0), (70, .iload_n 1, 1, 46, 0), (71, .iaload, 1, 47, 0), (72, .iload_n 3, 1, 48, 0), (73, .imul, 1, 49, 0), (74, .aload_n 0, 1, 50, 0), (75, .getfield 18, 3, 51, 0), (78, .iload_n 1, 1, 52, 0), (79, .iaload, 1, 53, 0), (80, .idiv, 1, 54, 0), (81, .ireturn, 1, 55, 0)]
set_option maxRecDepth 100000 in
theorem okX0_writtenUpTo : OkTab cX0_writtenUpTo tX0_writtenUpTo := ⟨by decide +kernel, by decide +kernel⟩
def tX0_writtenIn : List PT := [(0, .aload_n 0, 1, 1, 0), (1, .iload_n 1, 1, 2, 0), (2, .iload_n 2, 1, 3, 0), (3, .invokevirtual 38, 3, 4, 0), (6, .aload_n 0, 1, 5, 0), (7, .iload_n 1, 1, 6, 0), (8, .iload_n 2, 1, 7, 0), (9, .iconst 1, 1, 8, 0), (10, .isub, 1, 9, 0), (11, .invokevirtual 38, 3, 10, 0), (14, .isub, 1, 11, 0), (15, .ireturn, 1, 12, 0)]
set_option maxRecDepth 100000 in
theorem okX0_writtenIn : OkTab cX0_writtenIn tX0_writtenIn := ⟨by decide +kernel, by decide +kernel⟩
def tX0_valueAt : List PT := [(0, .iload_n 2, 1, 1, 0), (1, .aload_n 0, 1, 2, 0), (2, .getfield 15, 3, 3, 0), (5, .iload_n 1, 1, 4, 0), (6, .iaload, 1, 5, 0), (7, .bipush 30, 2, 6, 0), (9, .idiv, 1, 7, 0), (10, .if_icmp .lt 7, 3, 8, 10), (13, .iconst 1, 1, 9, 0), (14, .goto 4, 3, 10, 11), (17, .iconst 0, 1, 11, 0), (18, .istore_n 3, 1, 12, 0), (19, .aload_n 0, 1, 13, 0), (20, .getfield 21, 3, 14, 0), (23, .iload_n 1, 1, 15, 0), (24, .iaload, 1, 16, 0), (25, .iconst 1, 1, 17, 0), (26, .if_icmp .eq 16, 3, 18, 25), (29, .iload_n 3, 1, 19, 0), (30, .ifCond .eq 12, 3, 20, 25), (33, .aload_n 0, 1, 21, 0), (34, .iload_n 1, 1, 22, 0), (35, .iload_n 2, 1, 23, 0), (36, .invokevirtual 34, 3, 24, 0), (39, .ifCond .eq 5, 3, 25, 27), (42, .iconst 0, 1, 26, 0), (43, .ireturn, 1, 27, 0), (44, .aload_n 0, 1, 28, 0), (45, .getfield 9, 3, 29, 0), (48, .iload_n 1, 1, 30, 0), (49, .iaload, 1, 31, 0), (50, .aload_n 0, 1, 32, 0), (51, .iload_n 1, 1, 33, 0), (52, .iload_n 2, 1, 34, 0), (53, .invokevirtual 38, 3, 35, 0), (56, .isub, 1, 36, 0), (57, .ireturn, 1, 37, 0)]
set_option maxRecDepth 100000 in
theorem okX0_valueAt : OkTab cX0_valueAt tX0_valueAt := ⟨by decide +kernel, by decide +kernel⟩
def tX0_allWrittenUpTo : List PT := [(0, .iload_n 1, 1, 1, 0), (1, .iconst 1, 1, 2, 0), (2, .iadd, 1, 3, 0), (3, .iconst 3, 1, 4, 0), (4, .imul, 1, 5, 0), (5, .iconst 1, 1, 6, 0), (6, .isub, 1, 7, 0), (7, .istore_n 2, 1, 8, 0), (8, .aload_n 0, 1, 9, 0), (9, .iload_n 1, 1, 10, 0), (10, .invokevirtual 42, 3, 11, 0), (13, .i2l, 1, 12, 0), (14, .lstore_n 3, 1, 13, 0), (15, .iconst 0, 1, 14, 0), (16, .istore 5, 2, 15, 0), (18, .iload 5, 2, 16, 0), (20, .aload_n 0, 1, 17, 0), (21, .getfield 30, 3, 18, 0), (24, .if_icmp .ge 20, 3, 19, 29), (27, .lload_n 3, 1, 20, 0), (28, .aload_n 0, 1, 21, 0), (29, .iload 5, 2, 22, 0), (31, .iload_n 2, 1, 23, 0), (32, .invokevirtual 38, 3, 24, 0), (35, .i2l, 1, 25, 0), (36, .ladd, 1, 26, 0), (37, .lstore_n 3, 1, 27, 0), (38, .iinc 5 1, 3, 28, 0), (41, .goto (-23), 3, 29, 15), (44, .lload_n 3, 1, 30, 0), (45, .lreturn, 1, 31, 0)]
set_option maxRecDepth 100000 in
theorem okX0_allWrittenUpTo : OkTab cX0_allWrittenUpTo tX0_allWrittenUpTo := ⟨by decide +kernel, by decide +kernel⟩
def tX0_poolAt : List PT := [(0, .iconst 0, 1, 1, 0), (1, .istore_n 2, 1, 2, 0), (2, .iconst 0, 1, 3, 0), (3, .istore_n 3, 1, 4, 0), (4, .iload_n 3, 1, 5, 0), (5, .aload_n 0, 1, 6, 0), (6, .getfield 30, 3, 7, 0), (9, .if_icmp .ge 41, 3, 8, 31), (12, .aload_n 0, 1, 9, 0), (13, .getfield 21, 3, 10, 0), (16, .iload_n 3, 1, 11, 0), (17, .iaload, 1, 12, 0), (18, .iconst 1, 1, 13, 0), (19, .if_icmp .ne 25, 3, 14, 29), (22, .aload_n 0, 1, 15, 0), (23, .getfield 15, 3, 16, 0), (26, .iload_n 3, 1, 17, 0), (27, .iaload, 1, 18, 0), (28, .bipush 90, 2, 19, 0), (30, .idiv, 1, 20, 0), (31, .iload_n 1, 1, 21, 0), (32, .if_icmp .gt 12, 3, 22, 29), (35, .iload_n 2, 1, 23, 0), (36, .aload_n 0, 1, 24, 0), (37, .getfield 9, 3, 25, 0), (40, .iload_n 3, 1, 26, 0), (41, .iaload, 1, 27, 0), (42, .iadd, 1, 28, 0), (43, .istore_n 2, 1, 29, 0), (44, .iinc 3 1, 3, 30, 0), (47, .goto (-43), 3, 31, 4), (50, .iload_n 2, 1, 32, 0), (51, .ireturn, 1, 33, 0)]
set_option maxRecDepth 100000 in
theorem okX0_poolAt : OkTab cX0_poolAt tX0_poolAt := ⟨by decide +kernel, by decide +kernel⟩
def tX0_poolWrittenUpTo : List PT := [(0, .aload_n 0, 1, 1, 0), (1, .iload_n 1, 1, 2, 0), (2, .invokevirtual 46, 3, 3, 0), (5, .iload_n 1, 1, 4, 0), (6, .iconst 1, 1, 5, 0), (7, .iadd, 1, 6, 0), (8, .imul, 1, 7, 0), (9, .bipush 20, 2, 8, 0), (11, .idiv, 1, 9, 0), (12, .ireturn, 1, 10, 0)]
set_option maxRecDepth 100000 in
theorem okX0_poolWrittenUpTo : OkTab cX0_poolWrittenUpTo tX0_poolWrittenUpTo := ⟨by decide +kernel, by decide +kernel⟩
def tX0_poolWrittenIn : List PT := [(0, .aload_n 0, 1, 1, 0), (1, .iload_n 1, 1, 2, 0), (2, .invokevirtual 42, 3, 3, 0), (5, .aload_n 0, 1, 4, 0), (6, .iload_n 1, 1, 5, 0), (7, .iconst 1, 1, 6, 0), (8, .isub, 1, 7, 0), (9, .invokevirtual 42, 3, 8, 0), (12, .isub, 1, 9, 0), (13, .ireturn, 1, 10, 0)]
set_option maxRecDepth 100000 in
theorem okX0_poolWrittenIn : OkTab cX0_poolWrittenIn tX0_poolWrittenIn := ⟨by decide +kernel, by decide +kernel⟩
def tX0_soldFor : List PT := [(0, .lconst 0, 1, 1, 0), (1, .lstore_n 3, 1, 2, 0), (2, .iconst 0, 1, 3, 0), (3, .istore 5, 2, 4, 0), (5, .iload 5, 2, 5, 0), (7, .aload_n 0, 1, 6, 0), (8, .getfield 30, 3, 7, 0), (11, .if_icmp .ge 46, 3, 8, 32), (14, .aload_n 0, 1, 9, 0), (15, .getfield 24, 3, 10, 0), (18, .iload 5, 2, 11, 0), (20, .iaload, 1, 12, 0), (21, .iconst (-1), 1, 13, 0), (22, .if_icmp .eq 29, 3, 14, 30), (25, .aload_n 0, 1, 15, 0), (26, .getfield 24, 3, 16, 0), (29, .iload 5, 2, 17, 0), (31, .iaload, 1, 18, 0), (32, .iload_n 1, 1, 19, 0), (33, .iload_n 2, 1, 20, 0), (34, .invokestatic 49, 3, 21, 0), (37, .ifCond .eq 14, 3, 22, 30), (40, .lload_n 3, 1, 23, 0), (41, .aload_n 0, 1, 24, 0), (42, .getfield 27, 3, 25, 0), (45, .iload 5, 2, 26, 0), (47, .iaload, 1, 27, 0), (48, .i2l, 1, 28, 0), (49, .ladd, 1, 29, 0), (50, .lstore_n 3, 1, 30, 0), (51, .iinc 5 1, 3, 31, 0), (54, .goto (-49), 3, 32, 4), (57, .lload_n 3, 1, 33, 0), (58, .lreturn, 1, 34, 0)]
set_option maxRecDepth 100000 in
theorem okX0_soldFor : OkTab cX0_soldFor tX0_soldFor := ⟨by decide +kernel, by decide +kernel⟩
def tX1_init : List PT := [(0, .aload_n 0, 1, 1, 0), (1, .invokespecial 3, 3, 2, 0), (4, .aload_n 0, 1, 3, 0), (5, .bipush 60, 2, 4, 0), (7, .newarray .int, 2, 5, 0), (9, .putfield 9, 3, 6, 0), (12, .aload_n 0, 1, 7, 0), (13, .bipush 60, 2, 8, 0), (15, .newarray .int, 2, 9, 0), (17, .putfield 15, 3, 10, 0), (20, .aload_n 0, 1, 11, 0), (21, .bipush 60, 2, 12, 0), (23, .newarray .int, 2, 13, 0), (25, .putfield 18, 3, 14, 0), (28, .aload_n 0, 1, 15, 0), (29, .bipush 60, 2, 16, 0), (31, .newarray .int, 2, 17, 0), (33, .putfield 21, 3, 18, 0), (36, .aload_n 0, 1, 19, 0), (37, .bipush 60, 2, 20, 0), (39, .newarray .int, 2, 21, 0), (41, .putfield 24, 3, 22, 0), (44, .aload_n 0, 1, 23, 0), (45, .bipush 60, 2, 24, 0), (47, .newarray .boolean, 2, 25, 0), (49, .putfield 27, 3, 26, 0), (52, .aload_n 0, 1, 27, 0), (53, .bipush 60, 2, 28, 0), (55, .newarray .boolean, 2, 29, 0), (57, .putfield 31, 3, 30, 0), (60, .return_, 1, 31, 0)]
set_option maxRecDepth 100000 in
theorem okX1_init : OkTab cX1_init tX1_init := ⟨by decide +kernel, by decide +kernel⟩
def tX1_add : List PT := [(0, .aload_n 0, 1, 1, 0), (1, .getfield 34, 3, 2, 0), (4, .bipush 60, 2, 3, 0), (6, .if_icmp .lt 5, 3, 4, 6), (9, .iconst (-1), 1, 5, 0), (10, .ireturn, 1, 6, 0), (11, .aload_n 0, 1, 7, 0), (12, .getfield 9, 3, 8, 0), (15, .aload_n 0, 1, 9, 0), (16, .getfield 34, 3, 10, 0), (19, .iload_n 1, 1, 11, 0), (20, .iastore, 1, 12, 0), (21, .aload_n 0, 1, 13, 0), (22, .getfield 15, 3, 14, 0), (25, .aload_n 0, 1, 15, 0), (26, .getfield 34, 3, 16, 0), (29, .iload_n 2, 1, 17, 0), (30, .iastore, 1, 18, 0), (31, .aload_n 0, 1, 19, 0), (32, .getfield 18, 3, 20, 0), (35, .aload_n 0, 1, 21, 0), (36, .getfield 34, 3, 22, 0), (39, .iload_n 3, 1, 23, 0), (40, .iastore, 1, 24, 0), (41, .aload_n 0, 1, 25, 0), (42, .getfield 21, 3, 26, 0), (45, .aload_n 0, 1, 27, 0), (46, .getfield 34, 3, 28, 0), (49, .iload 4, 2, 29, 0), (51, .iastore, 1, 30, 0), (52, .aload_n 0, 1, 31, 0), (53, .getfield 24, 3, 32, 0), (56, .aload_n 0, 1, 33, 0), (57, .getfield 34, 3, 34, 0), (60, .iload 5, 2, 35, 0), (62, .iastore, 1, 36, 0), (63, .aload_n 0, 1, 37, 0), (64, .getfield 27, 3, 38, 0), (67, .aload_n 0, 1, 39, 0), (68, .getfield 34, 3, 40, 0), (71, .iconst 0, 1, 41, 0), (72, .bastore, 1, 42, 0), (73, .aload_n 0, 1, 43, 0), (74, .getfield 31, 3, 44, 0), (77, .aload_n 0, 1, 45, 0), (78, .getfield 34, 3, 46, 0), (81, .iload 6, 2, 47, 0), (83, .bastore, 1, 48, 0), (84, .aload_n 0, 1, 49, 0), (85, .dup, 1, 50, 0), (86, .getfield 34, 3, 51, 0), (89, .iconst 1, 1, 52, 0), (90, .iadd, 1, 53, 0), (91, .putfield 34, 3, 54, 0), (94, .aload_n 0, 1, 55, 0), (95, .getfield 34, 3, 56, 0), (98, .iconst 1, 1, 57, 0), (99, .isub, 1, 58, 0), (100, .ireturn, 1, 59, 0)]
set_option maxRecDepth 100000 in
theorem okX1_add : OkTab cX1_add tX1_add := ⟨by decide +kernel, by decide +kernel⟩
def tX1_copyFrom : List PT := [(0, .aload_n 0, 1, 1, 0), (1, .aload_n 1, 1, 2, 0), (2, .getfield 34, 3, 3, 0), (5, .putfield 34, 3, 4, 0), (8, .iconst 0, 1, 5, 0), (9, .istore_n 2, 1, 6, 0), (10, .iload_n 2, 1, 7, 0), (11, .aload_n 0, 1, 8, 0), (12, .getfield 34, 3, 9, 0), (15, .if_icmp .ge 93, 3, 10, 68), (18, .aload_n 0, 1, 11, 0), (19, .getfield 9, 3, 12, 0), (22, .iload_n 2, 1, 13, 0), (23, .aload_n 1, 1, 14, 0), (24, .getfield 9, 3, 15, 0), (27, .iload_n 2, 1, 16, 0), (28, .iaload, 1, 17, 0), (29, .iastore, 1, 18, 0), (30, .aload_n 0, 1, 19, 0), (31, .getfield 15, 3, 20, 0), (34, .iload_n 2, 1, 21, 0), (35, .aload_n 1, 1, 22, 0), (36, .getfield 15, 3, 23, 0), (39, .iload_n 2, 1, 24, 0), (40, .iaload, 1, 25, 0), (41, .iastore, 1, 26, 0), (42, .aload_n 0, 1, 27, 0), (43, .getfield 18, 3, 28, 0), (46, .iload_n 2, 1, 29, 0), (47, .aload_n 1, 1, 30, 0), (48, .getfield 18, 3, 31, 0), (51, .iload_n 2, 1, 32, 0), (52, .iaload, 1, 33, 0), (53, .iastore, 1, 34, 0), (54, .aload_n 0, 1, 35, 0), (55, .getfield 21, 3, 36, 0), (58, .iload_n 2, 1, 37, 0), (59, .aload_n 1, 1, 38, 0), (60, .getfield 21, 3, 39, 0), (63, .iload_n 2, 1, 40, 0), (64, .iaload, 1, 41, 0), (65, .iastore, 1, 42, 0), (66, .aload_n 0, 1, 43, 0), (67, .getfield 24, 3, 44, 0), (70, .iload_n 2, 1, 45, 0), (71, .aload_n 1, 1, 46, 0), (72, .getfield 24, 3, 47, 0), (75, .iload_n 2, 1, 48, 0), (76, .iaload, 1, 49, 0), (77, .iastore, 1, 50, 0), (78, .aload_n 0, 1, 51, 0), (79, .getfield 27, 3, 52, 0), (82, .iload_n 2, 1, 53, 0), (83, .aload_n 1, 1, 54, 0), (84, .getfield 27, 3, 55, 0), (87, .iload_n 2, 1, 56, 0), (88, .baload, 1, 57, 0), (89, .bastore, 1, 58, 0), (90, .aload_n 0, 1, 59, 0), (91, .getfield 31, 3, 60, 0), (94, .iload_n 2, 1, 61, 0), (95, .aload_n 1, 1, 62, 0), (96, .getfield 31, 3, 63, 0), (99, .iload_n 2, 1, 64, 0), (100, .baload, 1, 65, 0), (101, .bastore, 1, 66, 0), (102, .iinc 2 1, 3, 67, 0), (105, .goto (-95), 3, 68, 6), (108, .return_, 1, 69, 0)]
set_option maxRecDepth 100000 in
theorem okX1_copyFrom : OkTab cX1_copyFrom tX1_copyFrom := ⟨by decide +kernel, by decide +kernel⟩
def tX1_isOpen : List PT := [(0, .aload_n 0, 1, 1, 0), (1, .getfield 24, 3, 2, 0), (4, .iload_n 1, 1, 3, 0), (5, .iaload, 1, 4, 0), (6, .iconst (-1), 1, 5, 0), (7, .if_icmp .ne 16, 3, 6, 13), (10, .aload_n 0, 1, 7, 0), (11, .getfield 27, 3, 8, 0), (14, .iload_n 1, 1, 9, 0), (15, .baload, 1, 10, 0), (16, .ifCond .ne 7, 3, 11, 13), (19, .iconst 1, 1, 12, 0), (20, .goto 4, 3, 13, 14), (23, .iconst 0, 1, 14, 0), (24, .ireturn, 1, 15, 0)]
set_option maxRecDepth 100000 in
theorem okX1_isOpen : OkTab cX1_isOpen tX1_isOpen := ⟨by decide +kernel, by decide +kernel⟩
def tX1_counts : List PT := [(0, .aload_n 0, 1, 1, 0), (1, .getfield 24, 3, 2, 0), (4, .iload_n 1, 1, 3, 0), (5, .iaload, 1, 4, 0), (6, .iconst (-1), 1, 5, 0), (7, .if_icmp .eq 16, 3, 6, 13), (10, .aload_n 0, 1, 7, 0), (11, .getfield 27, 3, 8, 0), (14, .iload_n 1, 1, 9, 0), (15, .baload, 1, 10, 0), (16, .ifCond .ne 7, 3, 11, 13), (19, .iconst 1, 1, 12, 0), (20, .goto 4, 3, 13, 14), (23, .iconst 0, 1, 14, 0), (24, .ireturn, 1, 15, 0)]
set_option maxRecDepth 100000 in
theorem okX1_counts : OkTab cX1_counts tX1_counts := ⟨by decide +kernel, by decide +kernel⟩
def tX1_countsWithin : List PT := [(0, .aload_n 0, 1, 1, 0), (1, .iload_n 1, 1, 2, 0), (2, .invokevirtual 38, 3, 3, 0), (5, .ifCond .eq 27, 3, 4, 18), (8, .aload_n 0, 1, 5, 0), (9, .getfield 24, 3, 6, 0), (12, .iload_n 1, 1, 7, 0), (13, .iaload, 1, 8, 0), (14, .iload_n 2, 1, 9, 0), (15, .if_icmp .lt 17, 3, 10, 18), (18, .aload_n 0, 1, 11, 0), (19, .getfield 24, 3, 12, 0), (22, .iload_n 1, 1, 13, 0), (23, .iaload, 1, 14, 0), (24, .iload_n 3, 1, 15, 0), (25, .if_icmp .gt 7, 3, 16, 18), (28, .iconst 1, 1, 17, 0), (29, .goto 4, 3, 18, 19), (32, .iconst 0, 1, 19, 0), (33, .ireturn, 1, 20, 0)]
set_option maxRecDepth 100000 in
theorem okX1_countsWithin : OkTab cX1_countsWithin tX1_countsWithin := ⟨by decide +kernel, by decide +kernel⟩
def tX1_openOnes : List PT := [(0, .iconst 0, 1, 1, 0), (1, .istore_n 1, 1, 2, 0), (2, .iconst 0, 1, 3, 0), (3, .istore_n 2, 1, 4, 0), (4, .iload_n 2, 1, 5, 0), (5, .aload_n 0, 1, 6, 0), (6, .getfield 34, 3, 7, 0), (9, .if_icmp .ge 20, 3, 8, 15), (12, .aload_n 0, 1, 9, 0), (13, .iload_n 2, 1, 10, 0), (14, .invokevirtual 42, 3, 11, 0), (17, .ifCond .eq 6, 3, 12, 13), (20, .iinc 1 1, 3, 13, 0), (23, .iinc 2 1, 3, 14, 0), (26, .goto (-22), 3, 15, 4), (29, .iload_n 1, 1, 16, 0), (30, .ireturn, 1, 17, 0)]
set_option maxRecDepth 100000 in
theorem okX1_openOnes : OkTab cX1_openOnes tX1_openOnes := ⟨by decide +kernel, by decide +kernel⟩
def tX1_cancelledOnes : List PT := [(0, .iconst 0, 1, 1, 0), (1, .istore_n 1, 1, 2, 0), (2, .iconst 0, 1, 3, 0), (3, .istore_n 2, 1, 4, 0), (4, .iload_n 2, 1, 5, 0), (5, .aload_n 0, 1, 6, 0), (6, .getfield 34, 3, 7, 0), (9, .if_icmp .ge 21, 3, 8, 16), (12, .aload_n 0, 1, 9, 0), (13, .getfield 27, 3, 10, 0), (16, .iload_n 2, 1, 11, 0), (17, .baload, 1, 12, 0), (18, .ifCond .eq 6, 3, 13, 14), (21, .iinc 1 1, 3, 14, 0), (24, .iinc 2 1, 3, 15, 0), (27, .goto (-23), 3, 16, 4), (30, .iload_n 1, 1, 17, 0), (31, .ireturn, 1, 18, 0)]
set_option maxRecDepth 100000 in
theorem okX1_cancelledOnes : OkTab cX1_cancelledOnes tX1_cancelledOnes := ⟨by decide +kernel, by decide +kernel⟩
def tX1_lateOnes : List PT := [(0, .iconst 0, 1, 1, 0), (1, .istore_n 1, 1, 2, 0), (2, .iconst 0, 1, 3, 0), (3, .istore_n 2, 1, 4, 0), (4, .iload_n 2, 1, 5, 0), (5, .aload_n 0, 1, 6, 0), (6, .getfield 34, 3, 7, 0), (9, .if_icmp .ge 21, 3, 8, 16), (12, .aload_n 0, 1, 9, 0), (13, .getfield 31, 3, 10, 0), (16, .iload_n 2, 1, 11, 0), (17, .baload, 1, 12, 0), (18, .ifCond .eq 6, 3, 13, 14), (21, .iinc 1 1, 3, 14, 0), (24, .iinc 2 1, 3, 15, 0), (27, .goto (-23), 3, 16, 4), (30, .iload_n 1, 1, 17, 0), (31, .ireturn, 1, 18, 0)]
set_option maxRecDepth 100000 in
theorem okX1_lateOnes : OkTab cX1_lateOnes tX1_lateOnes := ⟨by decide +kernel, by decide +kernel⟩
def tX1_sumPaid : List PT := [(0, .lconst 0, 1, 1, 0), (1, .lstore 4, 2, 2, 0), (3, .iconst 0, 1, 3, 0), (4, .istore 6, 2, 4, 0), (6, .iload 6, 2, 5, 0), (8, .aload_n 0, 1, 6, 0), (9, .getfield 34, 3, 7, 0), (12, .if_icmp .ge 44, 3, 8, 30), (15, .aload_n 0, 1, 9, 0), (16, .getfield 9, 3, 10, 0), (19, .iload 6, 2, 11, 0), (21, .iaload, 1, 12, 0), (22, .iload_n 1, 1, 13, 0), (23, .if_icmp .ne 27, 3, 14, 28), (26, .aload_n 0, 1, 15, 0), (27, .iload 6, 2, 16, 0), (29, .iload_n 2, 1, 17, 0), (30, .iload_n 3, 1, 18, 0), (31, .invokevirtual 45, 3, 19, 0), (34, .ifCond .eq 16, 3, 20, 28), (37, .lload 4, 2, 21, 0), (39, .aload_n 0, 1, 22, 0), (40, .getfield 18, 3, 23, 0), (43, .iload 6, 2, 24, 0), (45, .iaload, 1, 25, 0), (46, .i2l, 1, 26, 0), (47, .ladd, 1, 27, 0), (48, .lstore 4, 2, 28, 0), (50, .iinc 6 1, 3, 29, 0), (53, .goto (-47), 3, 30, 4), (56, .lload 4, 2, 31, 0), (58, .lreturn, 1, 32, 0)]
set_option maxRecDepth 100000 in
theorem okX1_sumPaid : OkTab cX1_sumPaid tX1_sumPaid := ⟨by decide +kernel, by decide +kernel⟩
def tX1_incomesOf : List PT := [(0, .lconst 0, 1, 1, 0), (1, .lstore_n 2, 1, 2, 0), (2, .iconst 0, 1, 3, 0), (3, .istore 4, 2, 4, 0), (5, .iload 4, 2, 5, 0), (7, .aload_n 0, 1, 6, 0), (8, .getfield 34, 3, 7, 0), (11, .if_icmp .ge 50, 3, 8, 33), (14, .aload_n 0, 1, 9, 0), (15, .getfield 9, 3, 10, 0), (18, .iload 4, 2, 11, 0), (20, .iaload, 1, 12, 0), (21, .ifCond .ne 34, 3, 13, 31), (24, .aload_n 0, 1, 14, 0), (25, .getfield 15, 3, 15, 0), (28, .iload 4, 2, 16, 0), (30, .iaload, 1, 17, 0), (31, .iload_n 1, 1, 18, 0), (32, .if_icmp .ne 23, 3, 19, 31), (35, .aload_n 0, 1, 20, 0), (36, .iload 4, 2, 21, 0), (38, .invokevirtual 38, 3, 22, 0), (41, .ifCond .eq 14, 3, 23, 31), (44, .lload_n 2, 1, 24, 0), (45, .aload_n 0, 1, 25, 0), (46, .getfield 18, 3, 26, 0), (49, .iload 4, 2, 27, 0), (51, .iaload, 1, 28, 0), (52, .i2l, 1, 29, 0), (53, .ladd, 1, 30, 0), (54, .lstore_n 2, 1, 31, 0), (55, .iinc 4 1, 3, 32, 0), (58, .goto (-53), 3, 33, 4), (61, .lload_n 2, 1, 34, 0), (62, .lreturn, 1, 35, 0)]
set_option maxRecDepth 100000 in
theorem okX1_incomesOf : OkTab cX1_incomesOf tX1_incomesOf := ⟨by decide +kernel, by decide +kernel⟩
def tX1_sumOpen : List PT := [(0, .lconst 0, 1, 1, 0), (1, .lstore_n 2, 1, 2, 0), (2, .iconst 0, 1, 3, 0), (3, .istore 4, 2, 4, 0), (5, .iload 4, 2, 5, 0), (7, .aload_n 0, 1, 6, 0), (8, .getfield 34, 3, 7, 0), (11, .if_icmp .ge 40, 3, 8, 28), (14, .aload_n 0, 1, 9, 0), (15, .getfield 9, 3, 10, 0), (18, .iload 4, 2, 11, 0), (20, .iaload, 1, 12, 0), (21, .iload_n 1, 1, 13, 0), (22, .if_icmp .ne 23, 3, 14, 26), (25, .aload_n 0, 1, 15, 0), (26, .iload 4, 2, 16, 0), (28, .invokevirtual 42, 3, 17, 0), (31, .ifCond .eq 14, 3, 18, 26), (34, .lload_n 2, 1, 19, 0), (35, .aload_n 0, 1, 20, 0), (36, .getfield 18, 3, 21, 0), (39, .iload 4, 2, 22, 0), (41, .iaload, 1, 23, 0), (42, .i2l, 1, 24, 0), (43, .ladd, 1, 25, 0), (44, .lstore_n 2, 1, 26, 0), (45, .iinc 4 1, 3, 27, 0), (48, .goto (-43), 3, 28, 4), (51, .lload_n 2, 1, 29, 0), (52, .lreturn, 1, 30, 0)]
set_option maxRecDepth 100000 in
theorem okX1_sumOpen : OkTab cX1_sumOpen tX1_sumOpen := ⟨by decide +kernel, by decide +kernel⟩
def tX1_firstInvoicedOpen : List PT := [(0, .iconst (-1), 1, 1, 0), (1, .istore_n 1, 1, 2, 0), (2, .iconst 0, 1, 3, 0), (3, .istore_n 2, 1, 4, 0), (4, .iload_n 2, 1, 5, 0), (5, .aload_n 0, 1, 6, 0), (6, .getfield 34, 3, 7, 0), (9, .if_icmp .ge 39, 3, 8, 28), (12, .aload_n 0, 1, 9, 0), (13, .iload_n 2, 1, 10, 0), (14, .invokevirtual 42, 3, 11, 0), (17, .ifCond .eq 25, 3, 12, 26), (20, .iload_n 1, 1, 13, 0), (21, .iconst (-1), 1, 14, 0), (22, .if_icmp .eq 18, 3, 15, 24), (25, .aload_n 0, 1, 16, 0), (26, .getfield 21, 3, 17, 0), (29, .iload_n 2, 1, 18, 0), (30, .iaload, 1, 19, 0), (31, .aload_n 0, 1, 20, 0), (32, .getfield 21, 3, 21, 0), (35, .iload_n 1, 1, 22, 0), (36, .iaload, 1, 23, 0), (37, .if_icmp .ge 5, 3, 24, 26), (40, .iload_n 2, 1, 25, 0), (41, .istore_n 1, 1, 26, 0), (42, .iinc 2 1, 3, 27, 0), (45, .goto (-41), 3, 28, 4), (48, .iload_n 1, 1, 29, 0), (49, .ireturn, 1, 30, 0)]
set_option maxRecDepth 100000 in
theorem okX1_firstInvoicedOpen : OkTab cX1_firstInvoicedOpen tX1_firstInvoicedOpen := ⟨by decide +kernel, by decide +kernel⟩
def tX2_init : List PT := [(0, .aload_n 0, 1, 1, 0), (1, .invokespecial 3, 3, 2, 0), (4, .aload_n 0, 1, 3, 0), (5, .bipush 8, 2, 4, 0), (7, .anewarray 9, 3, 5, 0), (10, .putfield 11, 3, 6, 0), (13, .iconst 0, 1, 7, 0), (14, .istore_n 1, 1, 8, 0), (15, .iload_n 1, 1, 9, 0), (16, .bipush 8, 2, 10, 0), (18, .if_icmp .ge 22, 3, 11, 20), (21, .aload_n 0, 1, 12, 0), (22, .getfield 11, 3, 13, 0), (25, .iload_n 1, 1, 14, 0), (26, .new 9, 3, 15, 0), (29, .dup, 1, 16, 0), (30, .invokespecial 17, 3, 17, 0), (33, .aastore, 1, 18, 0), (34, .iinc 1 1, 3, 19, 0), (37, .goto (-22), 3, 20, 8), (40, .return_, 1, 21, 0)]
set_option maxRecDepth 100000 in
theorem okX2_init : OkTab cX2_init tX2_init := ⟨by decide +kernel, by decide +kernel⟩
def tX2_clear : List PT := [(0, .aload_n 0, 1, 1, 0), (1, .iconst 0, 1, 2, 0), (2, .putfield 18, 3, 3, 0), (5, .aload_n 0, 1, 4, 0), (6, .iconst 0, 1, 5, 0), (7, .putfield 22, 3, 6, 0), (10, .return_, 1, 7, 0)]
set_option maxRecDepth 100000 in
theorem okX2_clear : OkTab cX2_clear tX2_clear := ⟨by decide +kernel, by decide +kernel⟩
def tX2_remember : List PT := [(0, .aload_n 0, 1, 1, 0), (1, .getfield 11, 3, 2, 0), (4, .aload_n 0, 1, 3, 0), (5, .getfield 18, 3, 4, 0), (8, .aaload, 1, 5, 0), (9, .astore_n 2, 1, 6, 0), (10, .aload_n 2, 1, 7, 0), (11, .ifnull 8, 3, 8, 11), (14, .aload_n 2, 1, 9, 0), (15, .aload_n 1, 1, 10, 0), (16, .invokevirtual 25, 3, 11, 0), (19, .aload_n 0, 1, 12, 0), (20, .aload_n 0, 1, 13, 0), (21, .getfield 18, 3, 14, 0), (24, .iconst 1, 1, 15, 0), (25, .iadd, 1, 16, 0), (26, .bipush 8, 2, 17, 0), (28, .irem, 1, 18, 0), (29, .putfield 18, 3, 19, 0), (32, .aload_n 0, 1, 20, 0), (33, .aload_n 0, 1, 21, 0), (34, .getfield 22, 3, 22, 0), (37, .iconst 1, 1, 23, 0), (38, .iadd, 1, 24, 0), (39, .bipush 8, 2, 25, 0), (41, .invokestatic 29, 3, 26, 0), (44, .putfield 22, 3, 27, 0), (47, .return_, 1, 28, 0)]
set_option maxRecDepth 100000 in
theorem okX2_remember : OkTab cX2_remember tX2_remember := ⟨by decide +kernel, by decide +kernel⟩
def tX2_takeBack : List PT := [(0, .aload_n 0, 1, 1, 0), (1, .aload_n 0, 1, 2, 0), (2, .getfield 18, 3, 3, 0), (5, .bipush 8, 2, 4, 0), (7, .iadd, 1, 5, 0), (8, .iconst 1, 1, 6, 0), (9, .isub, 1, 7, 0), (10, .bipush 8, 2, 8, 0), (12, .irem, 1, 9, 0), (13, .putfield 18, 3, 10, 0), (16, .aload_n 0, 1, 11, 0), (17, .aload_n 0, 1, 12, 0), (18, .getfield 22, 3, 13, 0), (21, .iconst 1, 1, 14, 0), (22, .isub, 1, 15, 0), (23, .iconst 0, 1, 16, 0), (24, .invokestatic 35, 3, 17, 0), (27, .putfield 22, 3, 18, 0), (30, .aload_n 0, 1, 19, 0), (31, .getfield 11, 3, 20, 0), (34, .aload_n 0, 1, 21, 0), (35, .getfield 18, 3, 22, 0), (38, .aaload, 1, 23, 0), (39, .astore_n 2, 1, 24, 0), (40, .aload_n 2, 1, 25, 0), (41, .ifnull 8, 3, 26, 29), (44, .aload_n 1, 1, 27, 0), (45, .aload_n 2, 1, 28, 0), (46, .invokevirtual 25, 3, 29, 0), (49, .return_, 1, 30, 0)]
set_option maxRecDepth 100000 in
theorem okX2_takeBack : OkTab cX2_takeBack tX2_takeBack := ⟨by decide +kernel, by decide +kernel⟩
def tX3_init : List PT := [(0, .aload_n 0, 1, 1, 0), (1, .invokespecial 3, 3, 2, 0), (4, .aload_n 0, 1, 3, 0), (5, .bipush 6, 2, 4, 0), (7, .newarray .int, 2, 5, 0), (9, .putfield 9, 3, 6, 0), (12, .aload_n 0, 1, 7, 0), (13, .bipush 6, 2, 8, 0), (15, .newarray .int, 2, 9, 0), (17, .putfield 15, 3, 10, 0), (20, .aload_n 0, 1, 11, 0), (21, .bipush 6, 2, 12, 0), (23, .newarray .int, 2, 13, 0), (25, .putfield 18, 3, 14, 0), (28, .return_, 1, 15, 0)]
set_option maxRecDepth 100000 in
theorem okX3_init : OkTab cX3_init tX3_init := ⟨by decide +kernel, by decide +kernel⟩
def tX3_add : List PT := [(0, .aload_n 0, 1, 1, 0), (1, .getfield 21, 3, 2, 0), (4, .bipush 6, 2, 3, 0), (6, .if_icmp .lt 5, 3, 4, 6), (9, .iconst (-1), 1, 5, 0), (10, .ireturn, 1, 6, 0), (11, .aload_n 0, 1, 7, 0), (12, .getfield 9, 3, 8, 0), (15, .aload_n 0, 1, 9, 0), (16, .getfield 21, 3, 10, 0), (19, .iload_n 1, 1, 11, 0), (20, .iastore, 1, 12, 0), (21, .aload_n 0, 1, 13, 0), (22, .getfield 15, 3, 14, 0), (25, .aload_n 0, 1, 15, 0), (26, .getfield 21, 3, 16, 0), (29, .iload_n 2, 1, 17, 0), (30, .iastore, 1, 18, 0), (31, .aload_n 0, 1, 19, 0), (32, .getfield 18, 3, 20, 0), (35, .aload_n 0, 1, 21, 0), (36, .getfield 21, 3, 22, 0), (39, .iload_n 3, 1, 23, 0), (40, .iastore, 1, 24, 0), (41, .aload_n 0, 1, 25, 0), (42, .dup, 1, 26, 0), (43, .getfield 21, 3, 27, 0), (46, .iconst 1, 1, 28, 0), (47, .iadd, 1, 29, 0), (48, .putfield 21, 3, 30, 0), (51, .aload_n 0, 1, 31, 0), (52, .getfield 21, 3, 32, 0), (55, .iconst 1, 1, 33, 0), (56, .isub, 1, 34, 0), (57, .ireturn, 1, 35, 0)]
set_option maxRecDepth 100000 in
theorem okX3_add : OkTab cX3_add tX3_add := ⟨by decide +kernel, by decide +kernel⟩
def tX3_copyFrom : List PT := [(0, .aload_n 0, 1, 1, 0), (1, .aload_n 1, 1, 2, 0), (2, .getfield 21, 3, 3, 0), (5, .putfield 21, 3, 4, 0), (8, .iconst 0, 1, 5, 0), (9, .istore_n 2, 1, 6, 0), (10, .iload_n 2, 1, 7, 0), (11, .aload_n 0, 1, 8, 0), (12, .getfield 21, 3, 9, 0), (15, .if_icmp .ge 45, 3, 10, 36), (18, .aload_n 0, 1, 11, 0), (19, .getfield 9, 3, 12, 0), (22, .iload_n 2, 1, 13, 0), (23, .aload_n 1, 1, 14, 0), (24, .getfield 9, 3, 15, 0), (27, .iload_n 2, 1, 16, 0), (28, .iaload, 1, 17, 0), (29, .iastore, 1, 18, 0), (30, .aload_n 0, 1, 19, 0), (31, .getfield 15, 3, 20, 0), (34, .iload_n 2, 1, 21, 0), (35, .aload_n 1, 1, 22, 0), (36, .getfield 15, 3, 23, 0), (39, .iload_n 2, 1, 24, 0), (40, .iaload, 1, 25, 0), (41, .iastore, 1, 26, 0), (42, .aload_n 0, 1, 27, 0), (43, .getfield 18, 3, 28, 0), (46, .iload_n 2, 1, 29, 0), (47, .aload_n 1, 1, 30, 0), (48, .getfield 18, 3, 31, 0), (51, .iload_n 2, 1, 32, 0), (52, .iaload, 1, 33, 0), (53, .iastore, 1, 34, 0), (54, .iinc 2 1, 3, 35, 0), (57, .goto (-47), 3, 36, 6), (60, .return_, 1, 37, 0)]
set_option maxRecDepth 100000 in
theorem okX3_copyFrom : OkTab cX3_copyFrom tX3_copyFrom := ⟨by decide +kernel, by decide +kernel⟩
def tX3_daysUsed : List PT := [(0, .aload_n 0, 1, 1, 0), (1, .getfield 15, 3, 2, 0), (4, .iload_n 1, 1, 3, 0), (5, .iaload, 1, 4, 0), (6, .iload_n 2, 1, 5, 0), (7, .if_icmp .le 12, 3, 6, 11), (10, .aload_n 0, 1, 7, 0), (11, .getfield 15, 3, 8, 0), (14, .iload_n 1, 1, 9, 0), (15, .iaload, 1, 10, 0), (16, .goto 4, 3, 11, 12), (19, .iload_n 2, 1, 12, 0), (20, .istore 4, 2, 13, 0), (22, .aload_n 0, 1, 14, 0), (23, .getfield 18, 3, 15, 0), (26, .iload_n 1, 1, 16, 0), (27, .iaload, 1, 17, 0), (28, .iload_n 3, 1, 18, 0), (29, .if_icmp .ge 12, 3, 19, 24), (32, .aload_n 0, 1, 20, 0), (33, .getfield 18, 3, 21, 0), (36, .iload_n 1, 1, 22, 0), (37, .iaload, 1, 23, 0), (38, .goto 4, 3, 24, 25), (41, .iload_n 3, 1, 25, 0), (42, .istore 5, 2, 26, 0), (44, .aload_n 0, 1, 27, 0), (45, .getfield 15, 3, 28, 0), (48, .iload_n 1, 1, 29, 0), (49, .iaload, 1, 30, 0), (50, .iconst (-1), 1, 31, 0), (51, .if_icmp .eq 10, 3, 32, 35), (54, .iload 5, 2, 33, 0), (56, .iload 4, 2, 34, 0), (58, .if_icmp .ge 7, 3, 35, 37), (61, .iconst 0, 1, 36, 0), (62, .goto 10, 3, 37, 42), (65, .iload 5, 2, 38, 0), (67, .iload 4, 2, 39, 0), (69, .isub, 1, 40, 0), (70, .iconst 1, 1, 41, 0), (71, .iadd, 1, 42, 0), (72, .ireturn, 1, 43, 0)]
set_option maxRecDepth 100000 in
theorem okX3_daysUsed : OkTab cX3_daysUsed tX3_daysUsed := ⟨by decide +kernel, by decide +kernel⟩
def tX3_usedIn : List PT := [(0, .iload_n 1, 1, 1, 0), (1, .bipush 30, 2, 2, 0), (3, .imul, 1, 3, 0), (4, .istore_n 2, 1, 4, 0), (5, .iconst 0, 1, 5, 0), (6, .istore_n 3, 1, 6, 0), (7, .iconst 0, 1, 7, 0), (8, .istore 4, 2, 8, 0), (10, .iload 4, 2, 9, 0), (12, .aload_n 0, 1, 10, 0), (13, .getfield 21, 3, 11, 0), (16, .if_icmp .ge 33, 3, 12, 31), (19, .iload_n 3, 1, 13, 0), (20, .aload_n 0, 1, 14, 0), (21, .getfield 9, 3, 15, 0), (24, .iload 4, 2, 16, 0), (26, .iaload, 1, 17, 0), (27, .aload_n 0, 1, 18, 0), (28, .iload 4, 2, 19, 0), (30, .iload_n 2, 1, 20, 0), (31, .iload_n 2, 1, 21, 0), (32, .bipush 30, 2, 22, 0), (34, .iadd, 1, 23, 0), (35, .iconst 1, 1, 24, 0), (36, .isub, 1, 25, 0), (37, .invokevirtual 25, 3, 26, 0), (40, .imul, 1, 27, 0), (41, .iadd, 1, 28, 0), (42, .istore_n 3, 1, 29, 0), (43, .iinc 4 1, 3, 30, 0), (46, .goto (-36), 3, 31, 8), (49, .iload_n 3, 1, 32, 0), (50, .ireturn, 1, 33, 0)]
set_option maxRecDepth 100000 in
theorem okX3_usedIn : OkTab cX3_usedIn tX3_usedIn := ⟨by decide +kernel, by decide +kernel⟩
def tX3_wholeMonth : List PT := [(0, .iconst 0, 1, 1, 0), (1, .istore_n 1, 1, 2, 0), (2, .iconst 0, 1, 3, 0), (3, .istore_n 2, 1, 4, 0), (4, .iload_n 2, 1, 5, 0), (5, .aload_n 0, 1, 6, 0), (6, .getfield 21, 3, 7, 0), (9, .if_icmp .ge 21, 3, 8, 19), (12, .iload_n 1, 1, 9, 0), (13, .aload_n 0, 1, 10, 0), (14, .getfield 9, 3, 11, 0), (17, .iload_n 2, 1, 12, 0), (18, .iaload, 1, 13, 0), (19, .bipush 30, 2, 14, 0), (21, .imul, 1, 15, 0), (22, .iadd, 1, 16, 0), (23, .istore_n 1, 1, 17, 0), (24, .iinc 2 1, 3, 18, 0), (27, .goto (-23), 3, 19, 4), (30, .iload_n 1, 1, 20, 0), (31, .ireturn, 1, 21, 0)]
set_option maxRecDepth 100000 in
theorem okX3_wholeMonth : OkTab cX3_wholeMonth tX3_wholeMonth := ⟨by decide +kernel, by decide +kernel⟩
def tX4_init : List PT := [(0, .aload_n 0, 1, 1, 0), (1, .invokespecial 3, 3, 2, 0), (4, .aload_n 0, 1, 3, 0), (5, .iconst 5, 1, 4, 0), (6, .newarray .int, 2, 5, 0), (8, .putfield 9, 3, 6, 0), (11, .aload_n 0, 1, 7, 0), (12, .iconst 5, 1, 8, 0), (13, .newarray .int, 2, 9, 0), (15, .putfield 15, 3, 10, 0), (18, .aload_n 0, 1, 11, 0), (19, .new 18, 3, 12, 0), (22, .dup, 1, 13, 0), (23, .invokespecial 20, 3, 14, 0), (26, .putfield 21, 3, 15, 0), (29, .aload_n 0, 1, 16, 0), (30, .invokevirtual 25, 3, 17, 0), (33, .return_, 1, 18, 0)]
set_option maxRecDepth 100000 in
theorem okX4_init : OkTab cX4_init tX4_init := ⟨by decide +kernel, by decide +kernel⟩
def tX4_useDefaults : List PT := [(0, .aload_n 0, 1, 1, 0), (1, .iconst 0, 1, 2, 0), (2, .putfield 28, 3, 3, 0), (5, .aload_n 0, 1, 4, 0), (6, .ldc 32, 2, 5, 0), (8, .putfield 33, 3, 6, 0), (11, .aload_n 0, 1, 7, 0), (12, .ldc 36, 2, 8, 0), (14, .putfield 37, 3, 9, 0), (17, .aload_n 0, 1, 10, 0), (18, .iconst 5, 1, 11, 0), (19, .putfield 40, 3, 12, 0), (22, .aload_n 0, 1, 13, 0), (23, .sipush 420, 3, 14, 0), (26, .putfield 43, 3, 15, 0), (29, .aload_n 0, 1, 16, 0), (30, .iconst 0, 1, 17, 0), (31, .putfield 46, 3, 18, 0), (34, .aload_n 0, 1, 19, 0), (35, .getfield 21, 3, 20, 0), (38, .iconst 0, 1, 21, 0), (39, .putfield 49, 3, 22, 0), (42, .return_, 1, 23, 0)]
set_option maxRecDepth 100000 in
theorem okX4_useDefaults : OkTab cX4_useDefaults tX4_useDefaults := ⟨by decide +kernel, by decide +kernel⟩
def tX4_addBracket : List PT := [(0, .aload_n 0, 1, 1, 0), (1, .getfield 46, 3, 2, 0), (4, .iconst 5, 1, 3, 0), (5, .if_icmp .ge 33, 3, 4, 22), (8, .aload_n 0, 1, 5, 0), (9, .getfield 9, 3, 6, 0), (12, .aload_n 0, 1, 7, 0), (13, .getfield 46, 3, 8, 0), (16, .iload_n 1, 1, 9, 0), (17, .iastore, 1, 10, 0), (18, .aload_n 0, 1, 11, 0), (19, .getfield 15, 3, 12, 0), (22, .aload_n 0, 1, 13, 0), (23, .getfield 46, 3, 14, 0), (26, .iload_n 2, 1, 15, 0), (27, .iastore, 1, 16, 0), (28, .aload_n 0, 1, 17, 0), (29, .dup, 1, 18, 0), (30, .getfield 46, 3, 19, 0), (33, .iconst 1, 1, 20, 0), (34, .iadd, 1, 21, 0), (35, .putfield 46, 3, 22, 0), (38, .return_, 1, 23, 0)]
set_option maxRecDepth 100000 in
theorem okX4_addBracket : OkTab cX4_addBracket tX4_addBracket := ⟨by decide +kernel, by decide +kernel⟩
def tX4_lastLimit : List PT := [(0, .aload_n 0, 1, 1, 0), (1, .getfield 46, 3, 2, 0), (4, .ifCond .ne 7, 3, 3, 5), (7, .iconst 0, 1, 4, 0), (8, .goto 14, 3, 5, 12), (11, .aload_n 0, 1, 6, 0), (12, .getfield 9, 3, 7, 0), (15, .aload_n 0, 1, 8, 0), (16, .getfield 46, 3, 9, 0), (19, .iconst 1, 1, 10, 0), (20, .isub, 1, 11, 0), (21, .iaload, 1, 12, 0), (22, .ireturn, 1, 13, 0)]
set_option maxRecDepth 100000 in
theorem okX4_lastLimit : OkTab cX4_lastLimit tX4_lastLimit := ⟨by decide +kernel, by decide +kernel⟩
def tX4_sortOf : List PT := [(0, .iload_n 1, 1, 1, 0), (1, .aload_n 0, 1, 2, 0), (2, .getfield 33, 3, 3, 0), (5, .if_icmp .gt 5, 3, 4, 6), (8, .iconst 0, 1, 5, 0), (9, .ireturn, 1, 6, 0), (10, .iload_n 1, 1, 7, 0), (11, .aload_n 0, 1, 8, 0), (12, .getfield 37, 3, 9, 0), (15, .if_icmp .gt 7, 3, 10, 12), (18, .iconst 1, 1, 11, 0), (19, .goto 4, 3, 12, 13), (22, .iconst 2, 1, 13, 0), (23, .ireturn, 1, 14, 0)]
set_option maxRecDepth 100000 in
theorem okX4_sortOf : OkTab cX4_sortOf tX4_sortOf := ⟨by decide +kernel, by decide +kernel⟩
def tX4_taxOf : List PT := [(0, .lload_n 1, 1, 1, 0), (1, .lconst 0, 1, 2, 0), (2, .lcmp, 1, 3, 0), (3, .ifCond .gt 5, 3, 4, 6), (6, .lconst 0, 1, 5, 0), (7, .lreturn, 1, 6, 0), (8, .lconst 0, 1, 7, 0), (9, .lstore_n 3, 1, 8, 0), (10, .lconst 0, 1, 9, 0), (11, .lstore 5, 2, 10, 0), (13, .iconst 0, 1, 11, 0), (14, .istore 7, 2, 12, 0), (16, .iload 7, 2, 13, 0), (18, .aload_n 0, 1, 14, 0), (19, .getfield 46, 3, 15, 0), (22, .if_icmp .ge 50, 3, 16, 44), (25, .lload_n 3, 1, 17, 0), (26, .lconst 0, 1, 18, 0), (27, .lload_n 1, 1, 19, 0), (28, .aload_n 0, 1, 20, 0), (29, .getfield 9, 3, 21, 0), (32, .iload 7, 2, 22, 0), (34, .iaload, 1, 23, 0), (35, .i2l, 1, 24, 0), (36, .invokestatic 52, 3, 25, 0), (39, .lload 5, 2, 26, 0), (41, .lsub, 1, 27, 0), (42, .invokestatic 58, 3, 28, 0), (45, .aload_n 0, 1, 29, 0), (46, .getfield 15, 3, 30, 0), (49, .iload 7, 2, 31, 0), (51, .iaload, 1, 32, 0), (52, .i2l, 1, 33, 0), (53, .lmul, 1, 34, 0), (54, .ladd, 1, 35, 0), (55, .lstore_n 3, 1, 36, 0), (56, .aload_n 0, 1, 37, 0), (57, .getfield 9, 3, 38, 0), (60, .iload 7, 2, 39, 0), (62, .iaload, 1, 40, 0), (63, .i2l, 1, 41, 0), (64, .lstore 5, 2, 42, 0), (66, .iinc 7 1, 3, 43, 0), (69, .goto (-53), 3, 44, 12), (72, .lload_n 3, 1, 45, 0), (73, .lconst 0, 1, 46, 0), (74, .lload_n 1, 1, 47, 0), (75, .lload 5, 2, 48, 0), (77, .lsub, 1, 49, 0), (78, .invokestatic 58, 3, 50, 0), (81, .aload_n 0, 1, 51, 0), (82, .getfield 43, 3, 52, 0), (85, .i2l, 1, 53, 0), (86, .lmul, 1, 54, 0), (87, .ladd, 1, 55, 0), (88, .lstore_n 3, 1, 56, 0), (89, .lload_n 3, 1, 57, 0), (90, .ldc2_w 61, 3, 58, 0), (93, .ldiv, 1, 59, 0), (94, .lreturn, 1, 60, 0)]
set_option maxRecDepth 100000 in
theorem okX4_taxOf : OkTab cX4_taxOf tX4_taxOf := ⟨by decide +kernel, by decide +kernel⟩
def tX4_rateOf : List PT := [(0, .iconst 0, 1, 1, 0), (1, .istore_n 2, 1, 2, 0), (2, .iload_n 2, 1, 3, 0), (3, .aload_n 0, 1, 4, 0), (4, .getfield 46, 3, 5, 0), (7, .if_icmp .ge 26, 3, 6, 19), (10, .aload_n 0, 1, 7, 0), (11, .getfield 9, 3, 8, 0), (14, .iload_n 2, 1, 9, 0), (15, .iaload, 1, 10, 0), (16, .iload_n 1, 1, 11, 0), (17, .if_icmp .lt 10, 3, 12, 17), (20, .aload_n 0, 1, 13, 0), (21, .getfield 15, 3, 14, 0), (24, .iload_n 2, 1, 15, 0), (25, .iaload, 1, 16, 0), (26, .ireturn, 1, 17, 0), (27, .iinc 2 1, 3, 18, 0), (30, .goto (-28), 3, 19, 2), (33, .aload_n 0, 1, 20, 0), (34, .getfield 43, 3, 21, 0), (37, .ireturn, 1, 22, 0)]
set_option maxRecDepth 100000 in
theorem okX4_rateOf : OkTab cX4_rateOf tX4_rateOf := ⟨by decide +kernel, by decide +kernel⟩
def tX5_init : List PT := [(0, .aload_n 0, 1, 1, 0), (1, .invokespecial 3, 3, 2, 0), (4, .aload_n 0, 1, 3, 0), (5, .sipush 400, 3, 4, 0), (8, .newarray .int, 2, 5, 0), (10, .putfield 9, 3, 6, 0), (13, .aload_n 0, 1, 7, 0), (14, .new 15, 3, 8, 0), (17, .dup, 1, 9, 0), (18, .invokespecial 17, 3, 10, 0), (21, .putfield 18, 3, 11, 0), (24, .return_, 1, 12, 0)]
set_option maxRecDepth 100000 in
theorem okX5_init : OkTab cX5_init tX5_init := ⟨by decide +kernel, by decide +kernel⟩
def tX5_read : List PT := [(0, .aload_n 0, 1, 1, 0), (1, .aload_n 1, 1, 2, 0), (2, .iload_n 2, 1, 3, 0), (3, .invokevirtual 22, 3, 4, 0), (6, .aload_n 0, 1, 5, 0), (7, .invokevirtual 26, 3, 6, 0), (10, .iconst 0, 1, 7, 0), (11, .istore_n 3, 1, 8, 0), (12, .iload_n 3, 1, 9, 0), (13, .sipush 400, 3, 10, 0), (16, .if_icmp .ge 61, 3, 11, 40), (19, .aload_n 0, 1, 12, 0), (20, .invokevirtual 29, 3, 13, 0), (23, .ifCond .ne 8, 3, 14, 17), (26, .aload_n 0, 1, 15, 0), (27, .getfield 33, 3, 16, 0), (30, .ireturn, 1, 17, 0), (31, .aload_n 0, 1, 18, 0), (32, .getfield 37, 3, 19, 0), (35, .ifCond .ne 5, 3, 20, 22), (38, .iconst (-1), 1, 21, 0), (39, .ireturn, 1, 22, 0), (40, .aload_n 0, 1, 23, 0), (41, .getfield 37, 3, 24, 0), (44, .iconst 3, 1, 25, 0), (45, .if_icmp .ne 17, 3, 26, 33), (48, .aload_n 0, 1, 27, 0), (49, .getfield 9, 3, 28, 0), (52, .aload_n 0, 1, 29, 0), (53, .getfield 33, 3, 30, 0), (56, .iaload, 1, 31, 0), (57, .bipush 59, 2, 32, 0), (59, .if_icmp .eq 8, 3, 33, 36), (62, .aload_n 0, 1, 34, 0), (63, .getfield 33, 3, 35, 0), (66, .ireturn, 1, 36, 0), (67, .aload_n 0, 1, 37, 0), (68, .invokevirtual 26, 3, 38, 0), (71, .iinc 3 1, 3, 39, 0), (74, .goto (-62), 3, 40, 8), (77, .aload_n 0, 1, 41, 0), (78, .getfield 33, 3, 42, 0), (81, .ireturn, 1, 43, 0)]
set_option maxRecDepth 100000 in
theorem okX5_read : OkTab cX5_read tX5_read := ⟨by decide +kernel, by decide +kernel⟩
def tX5_handOver : List PT := [(0, .aload_n 0, 1, 1, 0), (1, .getfield 18, 3, 2, 0), (4, .astore_n 2, 1, 3, 0), (5, .aload_n 0, 1, 4, 0), (6, .aload_n 1, 1, 5, 0), (7, .putfield 18, 3, 6, 0), (10, .aload_n 2, 1, 7, 0), (11, .areturn, 1, 8, 0)]
set_option maxRecDepth 100000 in
theorem okX5_handOver : OkTab cX5_handOver tX5_handOver := ⟨by decide +kernel, by decide +kernel⟩
def tX5_begin : List PT := [(0, .aload_n 0, 1, 1, 0), (1, .iload_n 2, 1, 2, 0), (2, .aload_n 1, 1, 3, 0), (3, .arraylength, 1, 4, 0), (4, .sipush 400, 3, 5, 0), (7, .invokestatic 40, 3, 6, 0), (10, .invokestatic 40, 3, 7, 0), (13, .putfield 46, 3, 8, 0), (16, .iconst 0, 1, 9, 0), (17, .istore_n 3, 1, 10, 0), (18, .iload_n 3, 1, 11, 0), (19, .aload_n 0, 1, 12, 0), (20, .getfield 46, 3, 13, 0), (23, .if_icmp .ge 18, 3, 14, 23), (26, .aload_n 0, 1, 15, 0), (27, .getfield 9, 3, 16, 0), (30, .iload_n 3, 1, 17, 0), (31, .aload_n 1, 1, 18, 0), (32, .iload_n 3, 1, 19, 0), (33, .iaload, 1, 20, 0), (34, .iastore, 1, 21, 0), (35, .iinc 3 1, 3, 22, 0), (38, .goto (-20), 3, 23, 10), (41, .aload_n 0, 1, 24, 0), (42, .getfield 18, 3, 25, 0), (45, .invokevirtual 49, 3, 26, 0), (48, .aload_n 0, 1, 27, 0), (49, .iconst 0, 1, 28, 0), (50, .putfield 52, 3, 29, 0), (53, .aload_n 0, 1, 30, 0), (54, .iconst 0, 1, 31, 0), (55, .putfield 56, 3, 32, 0), (58, .aload_n 0, 1, 33, 0), (59, .iconst 0, 1, 34, 0), (60, .putfield 59, 3, 35, 0), (63, .aload_n 0, 1, 36, 0), (64, .iconst 0, 1, 37, 0), (65, .putfield 62, 3, 38, 0), (68, .aload_n 0, 1, 39, 0), (69, .iconst 0, 1, 40, 0), (70, .putfield 65, 3, 41, 0), (73, .return_, 1, 42, 0)]
set_option maxRecDepth 100000 in
theorem okX5_begin : OkTab cX5_begin tX5_begin := ⟨by decide +kernel, by decide +kernel⟩
def tX5_readStatement : List PT := [(0, .aload_n 0, 1, 1, 0), (1, .ldc 68, 2, 2, 0), (3, .invokevirtual 70, 3, 3, 0), (6, .ifCond .eq 8, 3, 4, 7), (9, .aload_n 0, 1, 5, 0), (10, .invokevirtual 74, 3, 6, 0), (13, .ireturn, 1, 7, 0), (14, .aload_n 0, 1, 8, 0), (15, .ldc 77, 2, 9, 0), (17, .invokevirtual 70, 3, 10, 0), (20, .ifCond .eq 8, 3, 11, 14), (23, .aload_n 0, 1, 12, 0), (24, .invokevirtual 79, 3, 13, 0), (27, .ireturn, 1, 14, 0), (28, .aload_n 0, 1, 15, 0), (29, .ldc 82, 2, 16, 0), (31, .invokevirtual 70, 3, 17, 0), (34, .ifCond .eq 8, 3, 18, 21), (37, .aload_n 0, 1, 19, 0), (38, .invokevirtual 84, 3, 20, 0), (41, .ireturn, 1, 21, 0), (42, .aload_n 0, 1, 22, 0), (43, .ldc 87, 2, 23, 0), (45, .invokevirtual 70, 3, 24, 0), (48, .ifCond .eq 8, 3, 25, 28), (51, .aload_n 0, 1, 26, 0), (52, .invokevirtual 89, 3, 27, 0), (55, .ireturn, 1, 28, 0), (56, .aload_n 0, 1, 29, 0), (57, .ldc 92, 2, 30, 0), (59, .invokevirtual 70, 3, 31, 0), (62, .ifCond .eq 8, 3, 32, 35), (65, .aload_n 0, 1, 33, 0), (66, .invokevirtual 94, 3, 34, 0), (69, .ireturn, 1, 35, 0), (70, .aload_n 0, 1, 36, 0), (71, .ldc 97, 2, 37, 0), (73, .invokevirtual 70, 3, 38, 0), (76, .ifCond .eq 14, 3, 39, 44), (79, .aload_n 0, 1, 40, 0), (80, .invokevirtual 99, 3, 41, 0), (83, .ifCond .eq 7, 3, 42, 44), (86, .iconst 1, 1, 43, 0), (87, .goto 4, 3, 44, 45), (90, .iconst 0, 1, 45, 0), (91, .ireturn, 1, 46, 0)]
set_option maxRecDepth 100000 in
theorem okX5_readStatement : OkTab cX5_readStatement tX5_readStatement := ⟨by decide +kernel, by decide +kernel⟩
def tX5_readStart : List PT := [(0, .aload_n 0, 1, 1, 0), (1, .getfield 52, 3, 2, 0), (4, .ifCond .eq 5, 3, 3, 5), (7, .iconst 0, 1, 4, 0), (8, .ireturn, 1, 5, 0), (9, .aload_n 0, 1, 6, 0), (10, .iconst 1, 1, 7, 0), (11, .putfield 52, 3, 8, 0), (14, .aload_n 0, 1, 9, 0), (15, .invokevirtual 26, 3, 10, 0), (18, .aload_n 0, 1, 11, 0), (19, .getfield 18, 3, 12, 0), (22, .aload_n 0, 1, 13, 0), (23, .iconst 0, 1, 14, 0), (24, .ldc 102, 2, 15, 0), (26, .invokevirtual 103, 3, 16, 0), (29, .putfield 106, 3, 17, 0), (32, .aload_n 0, 1, 18, 0), (33, .getfield 18, 3, 19, 0), (36, .getfield 106, 3, 20, 0), (39, .iconst (-1), 1, 21, 0), (40, .if_icmp .eq 7, 3, 22, 24), (43, .iconst 1, 1, 23, 0), (44, .goto 4, 3, 24, 25), (47, .iconst 0, 1, 25, 0), (48, .ireturn, 1, 26, 0)]
set_option maxRecDepth 100000 in
theorem okX5_readStart : OkTab cX5_readStart tX5_readStart := ⟨by decide +kernel, by decide +kernel⟩
def tX5_readAssets : List PT := [(0, .aload_n 0, 1, 1, 0), (1, .getfield 56, 3, 2, 0), (4, .ifCond .eq 5, 3, 3, 5), (7, .iconst 0, 1, 4, 0), (8, .ireturn, 1, 5, 0), (9, .aload_n 0, 1, 6, 0), (10, .iconst 1, 1, 7, 0), (11, .putfield 56, 3, 8, 0), (14, .aload_n 0, 1, 9, 0), (15, .invokevirtual 26, 3, 10, 0), (18, .aload_n 0, 1, 11, 0), (19, .getfield 18, 3, 12, 0), (22, .aload_n 0, 1, 13, 0), (23, .iconst 0, 1, 14, 0), (24, .ldc 108, 2, 15, 0), (26, .invokevirtual 103, 3, 16, 0), (29, .putfield 109, 3, 17, 0), (32, .aload_n 0, 1, 18, 0), (33, .getfield 18, 3, 19, 0), (36, .getfield 109, 3, 20, 0), (39, .iconst (-1), 1, 21, 0), (40, .if_icmp .ne 5, 3, 22, 24), (43, .iconst 0, 1, 23, 0), (44, .ireturn, 1, 24, 0), (45, .aload_n 0, 1, 25, 0), (46, .getfield 18, 3, 26, 0), (49, .aload_n 0, 1, 27, 0), (50, .aload_n 0, 1, 28, 0), (51, .getfield 18, 3, 29, 0), (54, .getfield 109, 3, 30, 0), (57, .ldc 108, 2, 31, 0), (59, .invokevirtual 103, 3, 32, 0), (62, .putfield 112, 3, 33, 0), (65, .aload_n 0, 1, 34, 0), (66, .getfield 18, 3, 35, 0), (69, .getfield 112, 3, 36, 0), (72, .iconst (-1), 1, 37, 0), (73, .if_icmp .eq 7, 3, 38, 40), (76, .iconst 1, 1, 39, 0), (77, .goto 4, 3, 40, 41), (80, .iconst 0, 1, 41, 0), (81, .ireturn, 1, 42, 0)]
set_option maxRecDepth 100000 in
theorem okX5_readAssets : OkTab cX5_readAssets tX5_readAssets := ⟨by decide +kernel, by decide +kernel⟩
def tX5_readInterest : List PT := [(0, .aload_n 0, 1, 1, 0), (1, .getfield 59, 3, 2, 0), (4, .ifCond .eq 5, 3, 3, 5), (7, .iconst 0, 1, 4, 0), (8, .ireturn, 1, 5, 0), (9, .aload_n 0, 1, 6, 0), (10, .iconst 1, 1, 7, 0), (11, .putfield 59, 3, 8, 0), (14, .aload_n 0, 1, 9, 0), (15, .invokevirtual 26, 3, 10, 0), (18, .aload_n 0, 1, 11, 0), (19, .getfield 18, 3, 12, 0), (22, .aload_n 0, 1, 13, 0), (23, .iconst 0, 1, 14, 0), (24, .bipush 100, 2, 15, 0), (26, .invokevirtual 103, 3, 16, 0), (29, .putfield 115, 3, 17, 0), (32, .aload_n 0, 1, 18, 0), (33, .getfield 18, 3, 19, 0), (36, .getfield 115, 3, 20, 0), (39, .iconst (-1), 1, 21, 0), (40, .if_icmp .eq 7, 3, 22, 24), (43, .iconst 1, 1, 23, 0), (44, .goto 4, 3, 24, 25), (47, .iconst 0, 1, 25, 0), (48, .ireturn, 1, 26, 0)]
set_option maxRecDepth 100000 in
theorem okX5_readInterest : OkTab cX5_readInterest tX5_readInterest := ⟨by decide +kernel, by decide +kernel⟩
def tX5_readTop : List PT := [(0, .aload_n 0, 1, 1, 0), (1, .getfield 62, 3, 2, 0), (4, .ifCond .eq 5, 3, 3, 5), (7, .iconst 0, 1, 4, 0), (8, .ireturn, 1, 5, 0), (9, .aload_n 0, 1, 6, 0), (10, .iconst 1, 1, 7, 0), (11, .putfield 62, 3, 8, 0), (14, .aload_n 0, 1, 9, 0), (15, .invokevirtual 26, 3, 10, 0), (18, .aload_n 0, 1, 11, 0), (19, .getfield 18, 3, 12, 0), (22, .aload_n 0, 1, 13, 0), (23, .iconst 0, 1, 14, 0), (24, .sipush 900, 3, 15, 0), (27, .invokevirtual 103, 3, 16, 0), (30, .putfield 118, 3, 17, 0), (33, .aload_n 0, 1, 18, 0), (34, .getfield 18, 3, 19, 0), (37, .getfield 118, 3, 20, 0), (40, .iconst (-1), 1, 21, 0), (41, .if_icmp .eq 7, 3, 22, 24), (44, .iconst 1, 1, 23, 0), (45, .goto 4, 3, 24, 25), (48, .iconst 0, 1, 25, 0), (49, .ireturn, 1, 26, 0)]
set_option maxRecDepth 100000 in
theorem okX5_readTop : OkTab cX5_readTop tX5_readTop := ⟨by decide +kernel, by decide +kernel⟩
def tX5_readBracket : List PT := [(0, .aload_n 0, 1, 1, 0), (1, .getfield 18, 3, 2, 0), (4, .getfield 121, 3, 3, 0), (7, .iconst 5, 1, 4, 0), (8, .if_icmp .lt 5, 3, 5, 7), (11, .iconst 0, 1, 6, 0), (12, .ireturn, 1, 7, 0), (13, .aload_n 0, 1, 8, 0), (14, .invokevirtual 26, 3, 9, 0), (17, .aload_n 0, 1, 10, 0), (18, .aload_n 0, 1, 11, 0), (19, .getfield 18, 3, 12, 0), (22, .invokevirtual 124, 3, 13, 0), (25, .iconst 1, 1, 14, 0), (26, .iadd, 1, 15, 0), (27, .ldc 128, 2, 16, 0), (29, .invokevirtual 103, 3, 17, 0), (32, .istore_n 1, 1, 18, 0), (33, .iload_n 1, 1, 19, 0), (34, .iconst (-1), 1, 20, 0), (35, .if_icmp .ne 5, 3, 21, 23), (38, .iconst 0, 1, 22, 0), (39, .ireturn, 1, 23, 0), (40, .aload_n 0, 1, 24, 0), (41, .iconst 0, 1, 25, 0), (42, .sipush 900, 3, 26, 0), (45, .invokevirtual 103, 3, 27, 0), (48, .istore_n 2, 1, 28, 0), (49, .iload_n 2, 1, 29, 0), (50, .iconst (-1), 1, 30, 0), (51, .if_icmp .ne 5, 3, 31, 33), (54, .iconst 0, 1, 32, 0), (55, .ireturn, 1, 33, 0), (56, .aload_n 0, 1, 34, 0), (57, .getfield 18, 3, 35, 0), (60, .iload_n 1, 1, 36, 0), (61, .iload_n 2, 1, 37, 0), (62, .invokevirtual 129, 3, 38, 0), (65, .iconst 1, 1, 39, 0), (66, .ireturn, 1, 40, 0)]
set_option maxRecDepth 100000 in
theorem okX5_readBracket : OkTab cX5_readBracket tX5_readBracket := ⟨by decide +kernel, by decide +kernel⟩
def tX5_readRoom : List PT := [(0, .aload_n 0, 1, 1, 0), (1, .getfield 18, 3, 2, 0), (4, .getfield 133, 3, 3, 0), (7, .getfield 137, 3, 4, 0), (10, .bipush 6, 2, 5, 0), (12, .if_icmp .lt 5, 3, 6, 8), (15, .iconst 0, 1, 7, 0), (16, .ireturn, 1, 8, 0), (17, .aload_n 0, 1, 9, 0), (18, .invokevirtual 26, 3, 10, 0), (21, .aload_n 0, 1, 11, 0), (22, .iconst 1, 1, 12, 0), (23, .sipush 500, 3, 13, 0), (26, .invokevirtual 103, 3, 14, 0), (29, .istore_n 1, 1, 15, 0), (30, .iload_n 1, 1, 16, 0), (31, .iconst (-1), 1, 17, 0), (32, .if_icmp .ne 5, 3, 18, 20), (35, .iconst 0, 1, 19, 0), (36, .ireturn, 1, 20, 0), (37, .aload_n 0, 1, 21, 0), (38, .ldc 142, 2, 22, 0), (40, .invokevirtual 70, 3, 23, 0), (43, .ifCond .ne 19, 3, 24, 34), (46, .aload_n 0, 1, 25, 0), (47, .getfield 18, 3, 26, 0), (50, .getfield 133, 3, 27, 0), (53, .iload_n 1, 1, 28, 0), (54, .iconst (-1), 1, 29, 0), (55, .iconst (-1), 1, 30, 0), (56, .invokevirtual 144, 3, 31, 0), (59, .pop, 1, 32, 0), (60, .iconst 1, 1, 33, 0), (61, .ireturn, 1, 34, 0), (62, .aload_n 0, 1, 35, 0), (63, .invokevirtual 26, 3, 36, 0), (66, .aload_n 0, 1, 37, 0), (67, .iconst 0, 1, 38, 0), (68, .sipush 359, 3, 39, 0), (71, .invokevirtual 103, 3, 40, 0), (74, .istore_n 2, 1, 41, 0), (75, .iload_n 2, 1, 42, 0), (76, .iconst (-1), 1, 43, 0), (77, .if_icmp .ne 5, 3, 44, 46), (80, .iconst 0, 1, 45, 0), (81, .ireturn, 1, 46, 0), (82, .aload_n 0, 1, 47, 0), (83, .iload_n 2, 1, 48, 0), (84, .sipush 359, 3, 49, 0), (87, .invokevirtual 103, 3, 50, 0), (90, .istore_n 3, 1, 51, 0), (91, .iload_n 3, 1, 52, 0), (92, .iconst (-1), 1, 53, 0), (93, .if_icmp .ne 5, 3, 54, 56), (96, .iconst 0, 1, 55, 0), (97, .ireturn, 1, 56, 0), (98, .aload_n 0, 1, 57, 0), (99, .getfield 18, 3, 58, 0), (102, .getfield 133, 3, 59, 0), (105, .iload_n 1, 1, 60, 0), (106, .iload_n 2, 1, 61, 0), (107, .iload_n 3, 1, 62, 0), (108, .invokevirtual 144, 3, 63, 0), (111, .pop, 1, 64, 0), (112, .iconst 1, 1, 65, 0), (113, .ireturn, 1, 66, 0)]
set_option maxRecDepth 100000 in
theorem okX5_readRoom : OkTab cX5_readRoom tX5_readRoom := ⟨by decide +kernel, by decide +kernel⟩
def tX5_takeNumber : List PT := [(0, .aload_n 0, 1, 1, 0), (1, .getfield 37, 3, 2, 0), (4, .iconst 2, 1, 3, 0), (5, .if_icmp .ne 15, 3, 4, 10), (8, .aload_n 0, 1, 5, 0), (9, .getfield 148, 3, 6, 0), (12, .iload_n 1, 1, 7, 0), (13, .iload_n 2, 1, 8, 0), (14, .invokestatic 151, 3, 9, 0), (17, .ifCond .ne 5, 3, 10, 12), (20, .iconst (-1), 1, 11, 0), (21, .ireturn, 1, 12, 0), (22, .aload_n 0, 1, 13, 0), (23, .getfield 148, 3, 14, 0), (26, .istore_n 3, 1, 15, 0), (27, .aload_n 0, 1, 16, 0), (28, .invokevirtual 26, 3, 17, 0), (31, .iload_n 3, 1, 18, 0), (32, .ireturn, 1, 19, 0)]
set_option maxRecDepth 100000 in
theorem okX5_takeNumber : OkTab cX5_takeNumber tX5_takeNumber := ⟨by decide +kernel, by decide +kernel⟩
def tX5_isWord : List PT := [(0, .aload_n 0, 1, 1, 0), (1, .getfield 37, 3, 2, 0), (4, .iconst 1, 1, 3, 0), (5, .if_icmp .ne 19, 3, 4, 12), (8, .aload_n 0, 1, 5, 0), (9, .getfield 65, 3, 6, 0), (12, .aload_n 0, 1, 7, 0), (13, .getfield 33, 3, 8, 0), (16, .isub, 1, 9, 0), (17, .aload_n 1, 1, 10, 0), (18, .invokevirtual 155, 3, 11, 0), (21, .if_icmp .eq 5, 3, 12, 14), (24, .iconst 0, 1, 13, 0), (25, .ireturn, 1, 14, 0), (26, .iconst 0, 1, 15, 0), (27, .istore_n 2, 1, 16, 0), (28, .iload_n 2, 1, 17, 0), (29, .aload_n 1, 1, 18, 0), (30, .invokevirtual 155, 3, 19, 0), (33, .if_icmp .ge 30, 3, 20, 35), (36, .aload_n 0, 1, 21, 0), (37, .getfield 9, 3, 22, 0), (40, .aload_n 0, 1, 23, 0), (41, .getfield 33, 3, 24, 0), (44, .iload_n 2, 1, 25, 0), (45, .iadd, 1, 26, 0), (46, .iaload, 1, 27, 0), (47, .aload_n 1, 1, 28, 0), (48, .iload_n 2, 1, 29, 0), (49, .invokevirtual 159, 3, 30, 0), (52, .if_icmp .eq 5, 3, 31, 33), (55, .iconst 0, 1, 32, 0), (56, .ireturn, 1, 33, 0), (57, .iinc 2 1, 3, 34, 0), (60, .goto (-32), 3, 35, 16), (63, .iconst 1, 1, 36, 0), (64, .ireturn, 1, 37, 0)]
set_option maxRecDepth 100000 in
theorem okX5_isWord : OkTab cX5_isWord tX5_isWord := ⟨by decide +kernel, by decide +kernel⟩
def tX5_nextToken : List PT := [(0, .aload_n 0, 1, 1, 0), (1, .aload_n 0, 1, 2, 0), (2, .bipush 32, 2, 3, 0), (4, .bipush 32, 2, 4, 0), (6, .invokevirtual 163, 3, 5, 0), (9, .putfield 65, 3, 6, 0), (12, .aload_n 0, 1, 7, 0), (13, .aload_n 0, 1, 8, 0), (14, .getfield 65, 3, 9, 0), (17, .putfield 33, 3, 10, 0), (20, .aload_n 0, 1, 11, 0), (21, .getfield 65, 3, 12, 0), (24, .aload_n 0, 1, 13, 0), (25, .getfield 46, 3, 14, 0), (28, .if_icmp .lt 11, 3, 15, 19), (31, .aload_n 0, 1, 16, 0), (32, .iconst 0, 1, 17, 0), (33, .putfield 37, 3, 18, 0), (36, .goto 122, 3, 19, 80), (39, .aload_n 0, 1, 20, 0), (40, .getfield 9, 3, 21, 0), (43, .aload_n 0, 1, 22, 0), (44, .getfield 65, 3, 23, 0), (47, .iaload, 1, 24, 0), (48, .bipush 97, 2, 25, 0), (50, .if_icmp .lt 37, 3, 26, 43), (53, .aload_n 0, 1, 27, 0), (54, .getfield 9, 3, 28, 0), (57, .aload_n 0, 1, 29, 0), (58, .getfield 65, 3, 30, 0), (61, .iaload, 1, 31, 0), (62, .bipush 122, 2, 32, 0), (64, .if_icmp .gt 23, 3, 33, 43), (67, .aload_n 0, 1, 34, 0), (68, .iconst 1, 1, 35, 0), (69, .putfield 37, 3, 36, 0), (72, .aload_n 0, 1, 37, 0), (73, .aload_n 0, 1, 38, 0), (74, .bipush 97, 2, 39, 0), (76, .bipush 122, 2, 40, 0), (78, .invokevirtual 163, 3, 41, 0), (81, .putfield 65, 3, 42, 0), (84, .goto 74, 3, 43, 80), (87, .aload_n 0, 1, 44, 0), (88, .getfield 9, 3, 45, 0), (91, .aload_n 0, 1, 46, 0), (92, .getfield 65, 3, 47, 0), (95, .iaload, 1, 48, 0), (96, .bipush 48, 2, 49, 0), (98, .if_icmp .lt 45, 3, 50, 71), (101, .aload_n 0, 1, 51, 0), (102, .getfield 9, 3, 52, 0), (105, .aload_n 0, 1, 53, 0), (106, .getfield 65, 3, 54, 0), (109, .iaload, 1, 55, 0), (110, .bipush 57, 2, 56, 0), (112, .if_icmp .gt 31, 3, 57, 71), (115, .aload_n 0, 1, 58, 0), (116, .iconst 2, 1, 59, 0), (117, .putfield 37, 3, 60, 0), (120, .aload_n 0, 1, 61, 0), (121, .aload_n 0, 1, 62, 0), (122, .bipush 48, 2, 63, 0), (124, .bipush 57, 2, 64, 0), (126, .invokevirtual 163, 3, 65, 0), (129, .putfield 65, 3, 66, 0), (132, .aload_n 0, 1, 67, 0), (133, .aload_n 0, 1, 68, 0), (134, .invokevirtual 166, 3, 69, 0), (137, .putfield 148, 3, 70, 0), (140, .goto 18, 3, 71, 80), (143, .aload_n 0, 1, 72, 0), (144, .iconst 3, 1, 73, 0), (145, .putfield 37, 3, 74, 0), (148, .aload_n 0, 1, 75, 0), (149, .dup, 1, 76, 0), (150, .getfield 65, 3, 77, 0), (153, .iconst 1, 1, 78, 0), (154, .iadd, 1, 79, 0), (155, .putfield 65, 3, 80, 0), (158, .return_, 1, 81, 0)]
set_option maxRecDepth 100000 in
theorem okX5_nextToken : OkTab cX5_nextToken tX5_nextToken := ⟨by decide +kernel, by decide +kernel⟩
def tX5_endOfRun : List PT := [(0, .aload_n 0, 1, 1, 0), (1, .getfield 65, 3, 2, 0), (4, .istore_n 3, 1, 3, 0), (5, .iload_n 3, 1, 4, 0), (6, .aload_n 0, 1, 5, 0), (7, .getfield 46, 3, 6, 0), (10, .if_icmp .ge 29, 3, 7, 21), (13, .aload_n 0, 1, 8, 0), (14, .getfield 9, 3, 9, 0), (17, .iload_n 3, 1, 10, 0), (18, .iaload, 1, 11, 0), (19, .iload_n 1, 1, 12, 0), (20, .if_icmp .lt 19, 3, 13, 21), (23, .aload_n 0, 1, 14, 0), (24, .getfield 9, 3, 15, 0), (27, .iload_n 3, 1, 16, 0), (28, .iaload, 1, 17, 0), (29, .iload_n 2, 1, 18, 0), (30, .if_icmp .gt 9, 3, 19, 21), (33, .iinc 3 1, 3, 20, 0), (36, .goto (-31), 3, 21, 3), (39, .iload_n 3, 1, 22, 0), (40, .ireturn, 1, 23, 0)]
set_option maxRecDepth 100000 in
theorem okX5_endOfRun : OkTab cX5_endOfRun tX5_endOfRun := ⟨by decide +kernel, by decide +kernel⟩
def tX5_valueOfDigits : List PT := [(0, .aload_n 0, 1, 1, 0), (1, .getfield 65, 3, 2, 0), (4, .aload_n 0, 1, 3, 0), (5, .getfield 33, 3, 4, 0), (8, .isub, 1, 5, 0), (9, .bipush 8, 2, 6, 0), (11, .if_icmp .le 5, 3, 7, 9), (14, .iconst (-1), 1, 8, 0), (15, .ireturn, 1, 9, 0), (16, .iconst 0, 1, 10, 0), (17, .istore_n 1, 1, 11, 0), (18, .aload_n 0, 1, 12, 0), (19, .getfield 33, 3, 13, 0), (22, .istore_n 2, 1, 14, 0), (23, .iload_n 2, 1, 15, 0), (24, .aload_n 0, 1, 16, 0), (25, .getfield 65, 3, 17, 0), (28, .if_icmp .ge 24, 3, 18, 31), (31, .iload_n 1, 1, 19, 0), (32, .bipush 10, 2, 20, 0), (34, .imul, 1, 21, 0), (35, .aload_n 0, 1, 22, 0), (36, .getfield 9, 3, 23, 0), (39, .iload_n 2, 1, 24, 0), (40, .iaload, 1, 25, 0), (41, .iadd, 1, 26, 0), (42, .bipush 48, 2, 27, 0), (44, .isub, 1, 28, 0), (45, .istore_n 1, 1, 29, 0), (46, .iinc 2 1, 3, 30, 0), (49, .goto (-26), 3, 31, 14), (52, .iload_n 1, 1, 32, 0), (53, .ireturn, 1, 33, 0)]
set_option maxRecDepth 100000 in
theorem okX5_valueOfDigits : OkTab cX5_valueOfDigits tX5_valueOfDigits := ⟨by decide +kernel, by decide +kernel⟩
def tX6_init : List PT := [(0, .aload_n 0, 1, 1, 0), (1, .invokespecial 3, 3, 2, 0), (4, .aload_n 0, 1, 3, 0), (5, .new 9, 3, 4, 0), (8, .dup, 1, 5, 0), (9, .invokespecial 11, 3, 6, 0), (12, .putfield 12, 3, 7, 0), (15, .aload_n 0, 1, 8, 0), (16, .new 18, 3, 9, 0), (19, .dup, 1, 10, 0), (20, .invokespecial 20, 3, 11, 0), (23, .putfield 21, 3, 12, 0), (26, .aload_n 0, 1, 13, 0), (27, .new 25, 3, 14, 0), (30, .dup, 1, 15, 0), (31, .invokespecial 27, 3, 16, 0), (34, .putfield 28, 3, 17, 0), (37, .aload_n 0, 1, 18, 0), (38, .iconst 4, 1, 19, 0), (39, .newarray .int, 2, 20, 0), (41, .putfield 32, 3, 21, 0), (44, .return_, 1, 22, 0)]
set_option maxRecDepth 100000 in
theorem okX6_init : OkTab cX6_init tX6_init := ⟨by decide +kernel, by decide +kernel⟩
def tX6_begin : List PT := [(0, .aload_n 0, 1, 1, 0), (1, .getfield 12, 3, 2, 0), (4, .iconst 0, 1, 3, 0), (5, .putfield 36, 3, 4, 0), (8, .aload_n 0, 1, 5, 0), (9, .getfield 28, 3, 6, 0), (12, .iconst 0, 1, 7, 0), (13, .putfield 40, 3, 8, 0), (16, .aload_n 0, 1, 9, 0), (17, .getfield 21, 3, 10, 0), (20, .aload_n 1, 1, 11, 0), (21, .getfield 41, 3, 12, 0), (24, .invokevirtual 44, 3, 13, 0), (27, .aload_n 0, 1, 14, 0), (28, .iconst 0, 1, 15, 0), (29, .putfield 48, 3, 16, 0), (32, .aload_n 0, 1, 17, 0), (33, .aload_n 1, 1, 18, 0), (34, .getfield 51, 3, 19, 0), (37, .putfield 54, 3, 20, 0), (40, .return_, 1, 21, 0)]
set_option maxRecDepth 100000 in
theorem okX6_begin : OkTab cX6_begin tX6_begin := ⟨by decide +kernel, by decide +kernel⟩
def tX6_copyFrom : List PT := [(0, .aload_n 0, 1, 1, 0), (1, .getfield 12, 3, 2, 0), (4, .aload_n 1, 1, 3, 0), (5, .getfield 12, 3, 4, 0), (8, .invokevirtual 55, 3, 5, 0), (11, .aload_n 0, 1, 6, 0), (12, .getfield 21, 3, 7, 0), (15, .aload_n 1, 1, 8, 0), (16, .getfield 21, 3, 9, 0), (19, .invokevirtual 44, 3, 10, 0), (22, .aload_n 0, 1, 11, 0), (23, .getfield 28, 3, 12, 0), (26, .aload_n 1, 1, 13, 0), (27, .getfield 28, 3, 14, 0), (30, .invokevirtual 58, 3, 15, 0), (33, .aload_n 0, 1, 16, 0), (34, .aload_n 1, 1, 17, 0), (35, .getfield 48, 3, 18, 0), (38, .putfield 48, 3, 19, 0), (41, .aload_n 0, 1, 20, 0), (42, .aload_n 1, 1, 21, 0), (43, .getfield 54, 3, 22, 0), (46, .putfield 54, 3, 23, 0), (49, .iconst 0, 1, 24, 0), (50, .istore_n 2, 1, 25, 0), (51, .iload_n 2, 1, 26, 0), (52, .aload_n 0, 1, 27, 0), (53, .getfield 48, 3, 28, 0), (56, .if_icmp .ge 21, 3, 29, 39), (59, .aload_n 0, 1, 30, 0), (60, .getfield 32, 3, 31, 0), (63, .iload_n 2, 1, 32, 0), (64, .aload_n 1, 1, 33, 0), (65, .getfield 32, 3, 34, 0), (68, .iload_n 2, 1, 35, 0), (69, .iaload, 1, 36, 0), (70, .iastore, 1, 37, 0), (71, .iinc 2 1, 3, 38, 0), (74, .goto (-23), 3, 39, 25), (77, .return_, 1, 40, 0)]
set_option maxRecDepth 100000 in
theorem okX6_copyFrom : OkTab cX6_copyFrom tX6_copyFrom := ⟨by decide +kernel, by decide +kernel⟩
def tX6_deductibleOf : List PT := [(0, .iload_n 1, 1, 1, 0), (1, .iconst 1, 1, 2, 0), (2, .if_icmp .ne 6, 3, 3, 6), (5, .iload_n 2, 1, 4, 0), (6, .i2l, 1, 5, 0), (7, .lreturn, 1, 6, 0), (8, .aload_n 0, 1, 7, 0), (9, .getfield 21, 3, 8, 0), (12, .invokevirtual 61, 3, 9, 0), (15, .i2l, 1, 10, 0), (16, .lstore 4, 2, 11, 0), (18, .iload_n 1, 1, 12, 0), (19, .iconst 2, 1, 13, 0), (20, .if_icmp .ne 10, 3, 14, 18), (23, .lload 4, 2, 15, 0), (25, .lconst 0, 1, 16, 0), (26, .lcmp, 1, 17, 0), (27, .ifCond .ne 5, 3, 18, 20), (30, .lconst 0, 1, 19, 0), (31, .lreturn, 1, 20, 0), (32, .iload_n 2, 1, 21, 0), (33, .i2l, 1, 22, 0), (34, .aload_n 0, 1, 23, 0), (35, .getfield 21, 3, 24, 0), (38, .iload_n 3, 1, 25, 0), (39, .bipush 30, 2, 26, 0), (41, .idiv, 1, 27, 0), (42, .invokevirtual 65, 3, 28, 0), (45, .i2l, 1, 29, 0), (46, .lmul, 1, 30, 0), (47, .lload 4, 2, 31, 0), (49, .ldiv, 1, 32, 0), (50, .lreturn, 1, 33, 0)]
set_option maxRecDepth 100000 in
theorem okX6_deductibleOf : OkTab cX6_deductibleOf tX6_deductibleOf := ⟨by decide +kernel, by decide +kernel⟩
def tX6_deductiblePart : List PT := [(0, .aload_n 0, 1, 1, 0), (1, .getfield 12, 3, 2, 0), (4, .iload_n 1, 1, 3, 0), (5, .invokevirtual 69, 3, 4, 0), (8, .ifCond .ne 5, 3, 5, 7), (11, .iconst 0, 1, 6, 0), (12, .ireturn, 1, 7, 0), (13, .aload_n 0, 1, 8, 0), (14, .aload_n 0, 1, 9, 0), (15, .getfield 12, 3, 10, 0), (18, .getfield 73, 3, 11, 0), (21, .iload_n 1, 1, 12, 0), (22, .iaload, 1, 13, 0), (23, .aload_n 0, 1, 14, 0), (24, .getfield 12, 3, 15, 0), (27, .getfield 76, 3, 16, 0), (30, .iload_n 1, 1, 17, 0), (31, .iaload, 1, 18, 0), (32, .aload_n 0, 1, 19, 0), (33, .getfield 12, 3, 20, 0), (36, .getfield 79, 3, 21, 0), (39, .iload_n 1, 1, 22, 0), (40, .iaload, 1, 23, 0), (41, .invokevirtual 82, 3, 24, 0), (44, .l2i, 1, 25, 0), (45, .ireturn, 1, 26, 0)]
set_option maxRecDepth 100000 in
theorem okX6_deductiblePart : OkTab cX6_deductiblePart tX6_deductiblePart := ⟨by decide +kernel, by decide +kernel⟩
def tX6_deductiblePartsOf : List PT := [(0, .lconst 0, 1, 1, 0), (1, .lstore_n 2, 1, 2, 0), (2, .iconst 0, 1, 3, 0), (3, .istore 4, 2, 4, 0), (5, .iload 4, 2, 5, 0), (7, .aload_n 0, 1, 6, 0), (8, .getfield 12, 3, 7, 0), (11, .getfield 36, 3, 8, 0), (14, .if_icmp .ge 33, 3, 9, 25), (17, .aload_n 0, 1, 10, 0), (18, .getfield 12, 3, 11, 0), (21, .getfield 86, 3, 12, 0), (24, .iload 4, 2, 13, 0), (26, .iaload, 1, 14, 0), (27, .iload_n 1, 1, 15, 0), (28, .if_icmp .ne 13, 3, 16, 23), (31, .lload_n 2, 1, 17, 0), (32, .aload_n 0, 1, 18, 0), (33, .iload 4, 2, 19, 0), (35, .invokevirtual 89, 3, 20, 0), (38, .i2l, 1, 21, 0), (39, .ladd, 1, 22, 0), (40, .lstore_n 2, 1, 23, 0), (41, .iinc 4 1, 3, 24, 0), (44, .goto (-39), 3, 25, 4), (47, .lload_n 2, 1, 26, 0), (48, .lreturn, 1, 27, 0)]
set_option maxRecDepth 100000 in
theorem okX6_deductiblePartsOf : OkTab cX6_deductiblePartsOf tX6_deductiblePartsOf := ⟨by decide +kernel, by decide +kernel⟩
def tX6_deductibleUpTo : List PT := [(0, .lconst 0, 1, 1, 0), (1, .lstore_n 2, 1, 2, 0), (2, .iconst 0, 1, 3, 0), (3, .istore 4, 2, 4, 0), (5, .iload 4, 2, 5, 0), (7, .aload_n 0, 1, 6, 0), (8, .getfield 12, 3, 7, 0), (11, .getfield 36, 3, 8, 0), (14, .if_icmp .ge 60, 3, 9, 38), (17, .aload_n 0, 1, 10, 0), (18, .getfield 12, 3, 11, 0), (21, .iload 4, 2, 12, 0), (23, .iconst 0, 1, 13, 0), (24, .iload_n 1, 1, 14, 0), (25, .invokevirtual 92, 3, 15, 0), (28, .ifCond .eq 40, 3, 16, 36), (31, .lload_n 2, 1, 17, 0), (32, .aload_n 0, 1, 18, 0), (33, .aload_n 0, 1, 19, 0), (34, .getfield 12, 3, 20, 0), (37, .getfield 73, 3, 21, 0), (40, .iload 4, 2, 22, 0), (42, .iaload, 1, 23, 0), (43, .aload_n 0, 1, 24, 0), (44, .getfield 12, 3, 25, 0), (47, .getfield 76, 3, 26, 0), (50, .iload 4, 2, 27, 0), (52, .iaload, 1, 28, 0), (53, .aload_n 0, 1, 29, 0), (54, .getfield 12, 3, 30, 0), (57, .getfield 79, 3, 31, 0), (60, .iload 4, 2, 32, 0), (62, .iaload, 1, 33, 0), (63, .invokevirtual 82, 3, 34, 0), (66, .ladd, 1, 35, 0), (67, .lstore_n 2, 1, 36, 0), (68, .iinc 4 1, 3, 37, 0), (71, .goto (-66), 3, 38, 4), (74, .lload_n 2, 1, 39, 0), (75, .lreturn, 1, 40, 0)]
set_option maxRecDepth 100000 in
theorem okX6_deductibleUpTo : OkTab cX6_deductibleUpTo tX6_deductibleUpTo := ⟨by decide +kernel, by decide +kernel⟩
def tX6_received : List PT := [(0, .aload_n 0, 1, 1, 0), (1, .getfield 12, 3, 2, 0), (4, .iconst 0, 1, 3, 0), (5, .iload_n 1, 1, 4, 0), (6, .iload_n 2, 1, 5, 0), (7, .invokevirtual 96, 3, 6, 0), (10, .aload_n 0, 1, 7, 0), (11, .getfield 28, 3, 8, 0), (14, .iload_n 1, 1, 9, 0), (15, .iload_n 2, 1, 10, 0), (16, .invokevirtual 99, 3, 11, 0), (19, .ladd, 1, 12, 0), (20, .lreturn, 1, 13, 0)]
set_option maxRecDepth 100000 in
theorem okX6_received : OkTab cX6_received tX6_received := ⟨by decide +kernel, by decide +kernel⟩
def tX6_receivedIn : List PT := [(0, .iload_n 1, 1, 1, 0), (1, .bipush 30, 2, 2, 0), (3, .imul, 1, 3, 0), (4, .istore_n 2, 1, 4, 0), (5, .aload_n 0, 1, 5, 0), (6, .iload_n 2, 1, 6, 0), (7, .iload_n 2, 1, 7, 0), (8, .bipush 30, 2, 8, 0), (10, .iadd, 1, 9, 0), (11, .iconst 1, 1, 10, 0), (12, .isub, 1, 11, 0), (13, .invokevirtual 103, 3, 12, 0), (16, .lreturn, 1, 13, 0)]
set_option maxRecDepth 100000 in
theorem okX6_receivedIn : OkTab cX6_receivedIn tX6_receivedIn := ⟨by decide +kernel, by decide +kernel⟩
def tX6_profitUpTo : List PT := [(0, .iload_n 1, 1, 1, 0), (1, .iconst 1, 1, 2, 0), (2, .iadd, 1, 3, 0), (3, .bipush 90, 2, 4, 0), (5, .imul, 1, 5, 0), (6, .iconst 1, 1, 6, 0), (7, .isub, 1, 7, 0), (8, .istore_n 2, 1, 8, 0), (9, .aload_n 0, 1, 9, 0), (10, .iconst 0, 1, 10, 0), (11, .iload_n 2, 1, 11, 0), (12, .invokevirtual 103, 3, 12, 0), (15, .aload_n 0, 1, 13, 0), (16, .iload_n 2, 1, 14, 0), (17, .invokevirtual 106, 3, 15, 0), (20, .lsub, 1, 16, 0), (21, .aload_n 0, 1, 17, 0), (22, .getfield 28, 3, 18, 0), (25, .iload_n 1, 1, 19, 0), (26, .invokevirtual 110, 3, 20, 0), (29, .lsub, 1, 21, 0), (30, .lreturn, 1, 22, 0)]
set_option maxRecDepth 100000 in
theorem okX6_profitUpTo : OkTab cX6_profitUpTo tX6_profitUpTo := ⟨by decide +kernel, by decide +kernel⟩
def tX6_prepaidSoFar : List PT := [(0, .lconst 0, 1, 1, 0), (1, .lstore_n 1, 1, 2, 0), (2, .iconst 0, 1, 3, 0), (3, .istore_n 3, 1, 4, 0), (4, .iload_n 3, 1, 5, 0), (5, .aload_n 0, 1, 6, 0), (6, .getfield 48, 3, 7, 0), (9, .if_icmp .ge 19, 3, 8, 18), (12, .lload_n 1, 1, 9, 0), (13, .aload_n 0, 1, 10, 0), (14, .getfield 32, 3, 11, 0), (17, .iload_n 3, 1, 12, 0), (18, .iaload, 1, 13, 0), (19, .i2l, 1, 14, 0), (20, .ladd, 1, 15, 0), (21, .lstore_n 1, 1, 16, 0), (22, .iinc 3 1, 3, 17, 0), (25, .goto (-21), 3, 18, 4), (28, .lload_n 1, 1, 19, 0), (29, .lreturn, 1, 20, 0)]
set_option maxRecDepth 100000 in
theorem okX6_prepaidSoFar : OkTab cX6_prepaidSoFar tX6_prepaidSoFar := ⟨by decide +kernel, by decide +kernel⟩
def tX6_fillBalances : List PT := [(0, .iconst 0, 1, 1, 0), (1, .istore_n 2, 1, 2, 0), (2, .iload_n 2, 1, 3, 0), (3, .aload_n 1, 1, 4, 0), (4, .arraylength, 1, 5, 0), (5, .if_icmp .ge 13, 3, 6, 12), (8, .aload_n 1, 1, 7, 0), (9, .iload_n 2, 1, 8, 0), (10, .lconst 0, 1, 9, 0), (11, .lastore, 1, 10, 0), (12, .iinc 2 1, 3, 11, 0), (15, .goto (-13), 3, 12, 2), (18, .aload_n 1, 1, 13, 0), (19, .iconst 0, 1, 14, 0), (20, .aload_n 0, 1, 15, 0), (21, .getfield 54, 3, 16, 0), (24, .invokestatic 113, 3, 17, 0), (27, .iconst 0, 1, 18, 0), (28, .istore_n 2, 1, 19, 0), (29, .iload_n 2, 1, 20, 0), (30, .aload_n 0, 1, 21, 0), (31, .getfield 12, 3, 22, 0), (34, .getfield 36, 3, 23, 0), (37, .if_icmp .ge 61, 3, 24, 54), (40, .aload_n 0, 1, 25, 0), (41, .getfield 12, 3, 26, 0), (44, .iload_n 2, 1, 27, 0), (45, .invokevirtual 69, 3, 28, 0), (48, .ifCond .eq 44, 3, 29, 52), (51, .aload_n 0, 1, 30, 0), (52, .getfield 12, 3, 31, 0), (55, .getfield 76, 3, 32, 0), (58, .iload_n 2, 1, 33, 0), (59, .iaload, 1, 34, 0), (60, .istore_n 3, 1, 35, 0), (61, .aload_n 1, 1, 36, 0), (62, .aload_n 0, 1, 37, 0), (63, .getfield 12, 3, 38, 0), (66, .getfield 79, 3, 39, 0), (69, .iload_n 2, 1, 40, 0), (70, .iaload, 1, 41, 0), (71, .aload_n 0, 1, 42, 0), (72, .getfield 12, 3, 43, 0), (75, .getfield 73, 3, 44, 0), (78, .iload_n 2, 1, 45, 0), (79, .iaload, 1, 46, 0), (80, .ifCond .ne 7, 3, 47, 49), (83, .iload_n 3, 1, 48, 0), (84, .goto 5, 3, 49, 51), (87, .iload_n 3, 1, 50, 0), (88, .ineg, 1, 51, 0), (89, .invokestatic 113, 3, 52, 0), (92, .iinc 2 1, 3, 53, 0), (95, .goto (-66), 3, 54, 19), (98, .iconst 0, 1, 55, 0), (99, .istore_n 2, 1, 56, 0), (100, .iload_n 2, 1, 57, 0), (101, .aload_n 0, 1, 58, 0), (102, .getfield 28, 3, 59, 0), (105, .getfield 40, 3, 60, 0), (108, .if_icmp .ge 67, 3, 61, 95), (111, .aload_n 1, 1, 62, 0), (112, .aload_n 0, 1, 63, 0), (113, .getfield 28, 3, 64, 0), (116, .getfield 117, 3, 65, 0), (119, .iload_n 2, 1, 66, 0), (120, .iaload, 1, 67, 0), (121, .aload_n 0, 1, 68, 0), (122, .getfield 28, 3, 69, 0), (125, .getfield 120, 3, 70, 0), (128, .iload_n 2, 1, 71, 0), (129, .iaload, 1, 72, 0), (130, .ineg, 1, 73, 0), (131, .invokestatic 113, 3, 74, 0), (134, .aload_n 0, 1, 75, 0), (135, .getfield 28, 3, 76, 0), (138, .getfield 123, 3, 77, 0), (141, .iload_n 2, 1, 78, 0), (142, .iaload, 1, 79, 0), (143, .iconst (-1), 1, 80, 0), (144, .if_icmp .eq 25, 3, 81, 93), (147, .aload_n 1, 1, 82, 0), (148, .aload_n 0, 1, 83, 0), (149, .getfield 28, 3, 84, 0), (152, .getfield 123, 3, 85, 0), (155, .iload_n 2, 1, 86, 0), (156, .iaload, 1, 87, 0), (157, .aload_n 0, 1, 88, 0), (158, .getfield 28, 3, 89, 0), (161, .getfield 126, 3, 90, 0), (164, .iload_n 2, 1, 91, 0), (165, .iaload, 1, 92, 0), (166, .invokestatic 113, 3, 93, 0), (169, .iinc 2 1, 3, 94, 0), (172, .goto (-72), 3, 95, 56), (175, .iconst 0, 1, 96, 0), (176, .istore_n 2, 1, 97, 0), (177, .iload_n 2, 1, 98, 0), (178, .aload_n 0, 1, 99, 0), (179, .getfield 48, 3, 100, 0), (182, .if_icmp .ge 28, 3, 101, 117), (185, .aload_n 1, 1, 102, 0), (186, .iload_n 2, 1, 103, 0), (187, .iconst 1, 1, 104, 0), (188, .iadd, 1, 105, 0), (189, .bipush 90, 2, 106, 0), (191, .imul, 1, 107, 0), (192, .iconst 1, 1, 108, 0), (193, .isub, 1, 109, 0), (194, .aload_n 0, 1, 110, 0), (195, .getfield 32, 3, 111, 0), (198, .iload_n 2, 1, 112, 0), (199, .iaload, 1, 113, 0), (200, .ineg, 1, 114, 0), (201, .invokestatic 113, 3, 115, 0), (204, .iinc 2 1, 3, 116, 0), (207, .goto (-30), 3, 117, 97), (210, .iconst 1, 1, 118, 0), (211, .istore_n 2, 1, 119, 0), (212, .iload_n 2, 1, 120, 0), (213, .aload_n 1, 1, 121, 0), (214, .arraylength, 1, 122, 0), (215, .if_icmp .ge 20, 3, 123, 136), (218, .aload_n 1, 1, 124, 0), (219, .iload_n 2, 1, 125, 0), (220, .dup2, 1, 126, 0), (221, .laload, 1, 127, 0), (222, .aload_n 1, 1, 128, 0), (223, .iload_n 2, 1, 129, 0), (224, .iconst 1, 1, 130, 0), (225, .isub, 1, 131, 0), (226, .laload, 1, 132, 0), (227, .ladd, 1, 133, 0), (228, .lastore, 1, 134, 0), (229, .iinc 2 1, 3, 135, 0), (232, .goto (-20), 3, 136, 119), (235, .return_, 1, 137, 0)]
set_option maxRecDepth 100000 in
theorem okX6_fillBalances : OkTab cX6_fillBalances tX6_fillBalances := ⟨by decide +kernel, by decide +kernel⟩
def tX6_move : List PT := [(0, .iload_n 1, 1, 1, 0), (1, .ifCond .lt 17, 3, 2, 14), (4, .iload_n 1, 1, 3, 0), (5, .aload_n 0, 1, 4, 0), (6, .arraylength, 1, 5, 0), (7, .if_icmp .ge 11, 3, 6, 14), (10, .aload_n 0, 1, 7, 0), (11, .iload_n 1, 1, 8, 0), (12, .dup2, 1, 9, 0), (13, .laload, 1, 10, 0), (14, .iload_n 2, 1, 11, 0), (15, .i2l, 1, 12, 0), (16, .ladd, 1, 13, 0), (17, .lastore, 1, 14, 0), (18, .return_, 1, 15, 0)]
set_option maxRecDepth 100000 in
theorem okX6_move : OkTab cX6_move tX6_move := ⟨by decide +kernel, by decide +kernel⟩
end
section
/-! 06: the code of CashLedger -/
def tX7_init : List PT := [(0, .aload_n 0, 1, 1, 0), (1, .invokespecial 3, 3, 2, 0), (4, .aload_n 0, 1, 3, 0), (5, .sipush 400, 3, 4, 0), (8, .newarray .int, 2, 5, 0), (10, .putfield 9, 3, 6, 0), (13, .aload_n 0, 1, 7, 0), (14, .new 13, 3, 8, 0), (17, .dup, 1, 9, 0), (18, .invokespecial 15, 3, 10, 0), (21, .putfield 16, 3, 11, 0), (24, .aload_n 0, 1, 12, 0), (25, .new 20, 3, 13, 0), (28, .dup, 1, 14, 0), (29, .invokespecial 22, 3, 15, 0), (32, .putfield 23, 3, 16, 0), (35, .aload_n 0, 1, 17, 0), (36, .new 27, 3, 18, 0), (39, .dup, 1, 19, 0), (40, .invokespecial 29, 3, 20, 0), (43, .putfield 30, 3, 21, 0), (46, .aload_n 0, 1, 22, 0), (47, .new 27, 3, 23, 0), (50, .dup, 1, 24, 0), (51, .invokespecial 29, 3, 25, 0), (54, .putfield 34, 3, 26, 0), (57, .aload_n 0, 1, 27, 0), (58, .new 37, 3, 28, 0), (61, .dup, 1, 29, 0), (62, .invokespecial 39, 3, 30, 0), (65, .putfield 40, 3, 31, 0), (68, .aload_n 0, 1, 32, 0), (69, .sipush 360, 3, 33, 0), (72, .newarray .long, 2, 34, 0), (74, .putfield 44, 3, 35, 0), (77, .aload_n 0, 1, 36, 0), (78, .getfield 23, 3, 37, 0), (81, .ldc 48, 2, 38, 0), (83, .iconst 0, 1, 39, 0), (84, .invokevirtual 49, 3, 40, 0), (87, .aload_n 0, 1, 41, 0), (88, .getfield 23, 3, 42, 0), (91, .ldc 53, 2, 43, 0), (93, .sipush 250, 3, 44, 0), (96, .invokevirtual 49, 3, 45, 0), (99, .aload_n 0, 1, 46, 0), (100, .getfield 30, 3, 47, 0), (103, .aload_n 0, 1, 48, 0), (104, .getfield 23, 3, 49, 0), (107, .invokevirtual 54, 3, 50, 0), (110, .return_, 1, 51, 0)]
set_option maxRecDepth 100000 in
theorem okX7_init : OkTab cX7_init tX7_init := ⟨by decide +kernel, by decide +kernel⟩
def tX7_append : List PT := [(0, .iload_n 1, 1, 1, 0), (1, .invokestatic 58, 3, 2, 0), (4, .iload_n 2, 1, 3, 0), (5, .invokestatic 58, 3, 4, 0), (8, .iadd, 1, 5, 0), (9, .iload_n 3, 1, 6, 0), (10, .invokestatic 58, 3, 7, 0), (13, .iadd, 1, 8, 0), (14, .iload 4, 2, 9, 0), (16, .invokestatic 58, 3, 10, 0), (19, .iadd, 1, 11, 0), (20, .iload 5, 2, 12, 0), (22, .invokestatic 58, 3, 13, 0), (25, .iadd, 1, 14, 0), (26, .istore 6, 2, 15, 0), (28, .aload_n 0, 1, 16, 0), (29, .getfield 62, 3, 17, 0), (32, .iload 6, 2, 18, 0), (34, .iadd, 1, 19, 0), (35, .sipush 400, 3, 20, 0), (38, .if_icmp .gt 7, 3, 21, 23), (41, .iconst 1, 1, 22, 0), (42, .goto 4, 3, 23, 24), (45, .iconst 0, 1, 24, 0), (46, .invokestatic 66, 3, 25, 0), (49, .aload_n 0, 1, 26, 0), (50, .iload_n 1, 1, 27, 0), (51, .invokevirtual 70, 3, 28, 0), (54, .aload_n 0, 1, 29, 0), (55, .iload_n 2, 1, 30, 0), (56, .invokevirtual 70, 3, 31, 0), (59, .aload_n 0, 1, 32, 0), (60, .iload_n 3, 1, 33, 0), (61, .invokevirtual 70, 3, 34, 0), (64, .aload_n 0, 1, 35, 0), (65, .iload 4, 2, 36, 0), (67, .invokevirtual 70, 3, 37, 0), (70, .aload_n 0, 1, 38, 0), (71, .iload 5, 2, 39, 0), (73, .invokevirtual 70, 3, 40, 0), (76, .aload_n 0, 1, 41, 0), (77, .getfield 62, 3, 42, 0), (80, .ireturn, 1, 43, 0)]
set_option maxRecDepth 100000 in
theorem okX7_append : OkTab cX7_append tX7_append := ⟨by decide +kernel, by decide +kernel⟩
def tX7_truncate : List PT := [(0, .iload_n 1, 1, 1, 0), (1, .iconst 0, 1, 2, 0), (2, .aload_n 0, 1, 3, 0), (3, .getfield 62, 3, 4, 0), (6, .invokestatic 74, 3, 5, 0), (9, .invokestatic 78, 3, 6, 0), (12, .aload_n 0, 1, 7, 0), (13, .iload_n 1, 1, 8, 0), (14, .putfield 62, 3, 9, 0), (17, .aload_n 0, 1, 10, 0), (18, .getfield 62, 3, 11, 0), (21, .ireturn, 1, 12, 0)]
set_option maxRecDepth 100000 in
theorem okX7_truncate : OkTab cX7_truncate tX7_truncate := ⟨by decide +kernel, by decide +kernel⟩
def tX7_errorPosition : List PT := [(0, .aload_n 0, 1, 1, 0), (1, .getfield 16, 3, 2, 0), (4, .aload_n 0, 1, 3, 0), (5, .getfield 9, 3, 4, 0), (8, .aload_n 0, 1, 5, 0), (9, .getfield 62, 3, 6, 0), (12, .invokevirtual 81, 3, 7, 0), (15, .ireturn, 1, 8, 0)]
set_option maxRecDepth 100000 in
theorem okX7_errorPosition : OkTab cX7_errorPosition tX7_errorPosition := ⟨by decide +kernel, by decide +kernel⟩
def tX7_load : List PT := [(0, .aload_n 0, 1, 1, 0), (1, .getfield 16, 3, 2, 0), (4, .aload_n 0, 1, 3, 0), (5, .getfield 9, 3, 4, 0), (8, .aload_n 0, 1, 5, 0), (9, .getfield 62, 3, 6, 0), (12, .invokevirtual 81, 3, 7, 0), (15, .iconst (-1), 1, 8, 0), (16, .if_icmp .ne 7, 3, 9, 11), (19, .iconst 1, 1, 10, 0), (20, .goto 4, 3, 11, 12), (23, .iconst 0, 1, 12, 0), (24, .invokestatic 78, 3, 13, 0), (27, .aload_n 0, 1, 14, 0), (28, .aload_n 0, 1, 15, 0), (29, .getfield 16, 3, 16, 0), (32, .aload_n 0, 1, 17, 0), (33, .getfield 23, 3, 18, 0), (36, .invokevirtual 85, 3, 19, 0), (39, .putfield 23, 3, 20, 0), (42, .aload_n 0, 1, 21, 0), (43, .getfield 30, 3, 22, 0), (46, .aload_n 0, 1, 23, 0), (47, .getfield 23, 3, 24, 0), (50, .invokevirtual 54, 3, 25, 0), (53, .aload_n 0, 1, 26, 0), (54, .getfield 40, 3, 27, 0), (57, .invokevirtual 89, 3, 28, 0), (60, .aload_n 0, 1, 29, 0), (61, .iconst 0, 1, 30, 0), (62, .putfield 92, 3, 31, 0), (65, .aload_n 0, 1, 32, 0), (66, .iconst 0, 1, 33, 0), (67, .putfield 62, 3, 34, 0), (70, .aload_n 0, 1, 35, 0), (71, .getfield 30, 3, 36, 0), (74, .getfield 96, 3, 37, 0), (77, .getfield 100, 3, 38, 0), (80, .ireturn, 1, 39, 0)]
set_option maxRecDepth 100000 in
theorem okX7_load : OkTab cX7_load tX7_load := ⟨by decide +kernel, by decide +kernel⟩
def tX7_addEntry : List PT := [(0, .iload_n 1, 1, 1, 0), (1, .iconst 0, 1, 2, 0), (2, .iconst 3, 1, 3, 0), (3, .invokestatic 74, 3, 4, 0), (6, .ifCond .eq 47, 3, 5, 25), (9, .iload_n 2, 1, 6, 0), (10, .iconst 0, 1, 7, 0), (11, .bipush 9, 2, 8, 0), (13, .invokestatic 74, 3, 9, 0), (16, .ifCond .eq 37, 3, 10, 25), (19, .iload_n 3, 1, 11, 0), (20, .iconst 1, 1, 12, 0), (21, .ldc 105, 2, 13, 0), (23, .invokestatic 74, 3, 14, 0), (26, .ifCond .eq 27, 3, 15, 25), (29, .iload 4, 2, 16, 0), (31, .iconst 0, 1, 17, 0), (32, .sipush 359, 3, 18, 0), (35, .invokestatic 74, 3, 19, 0), (38, .ifCond .eq 15, 3, 20, 25), (41, .iload 5, 2, 21, 0), (43, .invokestatic 106, 3, 22, 0), (46, .ifCond .eq 7, 3, 23, 25), (49, .iconst 1, 1, 24, 0), (50, .goto 4, 3, 25, 26), (53, .iconst 0, 1, 26, 0), (54, .invokestatic 78, 3, 27, 0), (57, .aload_n 0, 1, 28, 0), (58, .getfield 30, 3, 29, 0), (61, .getfield 110, 3, 30, 0), (64, .getfield 114, 3, 31, 0), (67, .bipush 60, 2, 32, 0), (69, .if_icmp .ge 7, 3, 33, 35), (72, .iconst 1, 1, 34, 0), (73, .goto 4, 3, 35, 36), (76, .iconst 0, 1, 36, 0), (77, .invokestatic 66, 3, 37, 0), (80, .aload_n 0, 1, 38, 0), (81, .getfield 40, 3, 39, 0), (84, .aload_n 0, 1, 40, 0), (85, .getfield 30, 3, 41, 0), (88, .invokevirtual 117, 3, 42, 0), (91, .iload 5, 2, 43, 0), (93, .iconst (-1), 1, 44, 0), (94, .if_icmp .eq 22, 3, 45, 54), (97, .iload 5, 2, 46, 0), (99, .bipush 90, 2, 47, 0), (101, .idiv, 1, 48, 0), (102, .aload_n 0, 1, 49, 0), (103, .getfield 30, 3, 50, 0), (106, .getfield 121, 3, 51, 0), (109, .if_icmp .ge 7, 3, 52, 54), (112, .iconst 1, 1, 53, 0), (113, .goto 4, 3, 54, 55), (116, .iconst 0, 1, 55, 0), (117, .istore 6, 2, 56, 0), (119, .aload_n 0, 1, 57, 0), (120, .getfield 30, 3, 58, 0), (123, .getfield 110, 3, 59, 0), (126, .iload_n 1, 1, 60, 0), (127, .iload_n 2, 1, 61, 0), (128, .iload_n 3, 1, 62, 0), (129, .iload 4, 2, 63, 0), (131, .iload 5, 2, 64, 0), (133, .iload 6, 2, 65, 0), (135, .invokevirtual 124, 3, 66, 0), (138, .ireturn, 1, 67, 0)]
set_option maxRecDepth 100000 in
theorem okX7_addEntry : OkTab cX7_addEntry tX7_addEntry := ⟨by decide +kernel, by decide +kernel⟩
def tX7_pay : List PT := [(0, .iload_n 1, 1, 1, 0), (1, .aload_n 0, 1, 2, 0), (2, .getfield 30, 3, 3, 0), (5, .getfield 110, 3, 4, 0), (8, .getfield 114, 3, 5, 0), (11, .invokestatic 128, 3, 6, 0), (14, .iload_n 2, 1, 7, 0), (15, .invokestatic 106, 3, 8, 0), (18, .invokestatic 78, 3, 9, 0), (21, .aload_n 0, 1, 10, 0), (22, .getfield 30, 3, 11, 0), (25, .getfield 110, 3, 12, 0), (28, .getfield 131, 3, 13, 0), (31, .iload_n 1, 1, 14, 0), (32, .baload, 1, 15, 0), (33, .ifCond .ne 7, 3, 16, 18), (36, .iconst 1, 1, 17, 0), (37, .goto 4, 3, 18, 19), (40, .iconst 0, 1, 19, 0), (41, .invokestatic 66, 3, 20, 0), (44, .aload_n 0, 1, 21, 0), (45, .getfield 40, 3, 22, 0), (48, .aload_n 0, 1, 23, 0), (49, .getfield 30, 3, 24, 0), (52, .invokevirtual 117, 3, 25, 0), (55, .aload_n 0, 1, 26, 0), (56, .getfield 30, 3, 27, 0), (59, .getfield 110, 3, 28, 0), (62, .getfield 135, 3, 29, 0), (65, .iload_n 1, 1, 30, 0), (66, .iaload, 1, 31, 0), (67, .istore_n 3, 1, 32, 0), (68, .aload_n 0, 1, 33, 0), (69, .getfield 30, 3, 34, 0), (72, .getfield 110, 3, 35, 0), (75, .getfield 135, 3, 36, 0), (78, .iload_n 1, 1, 37, 0), (79, .iload_n 2, 1, 38, 0), (80, .iastore, 1, 39, 0), (81, .iload_n 3, 1, 40, 0), (82, .ireturn, 1, 41, 0)]
set_option maxRecDepth 100000 in
theorem okX7_pay : OkTab cX7_pay tX7_pay := ⟨by decide +kernel, by decide +kernel⟩
def tX7_cancel : List PT := [(0, .iload_n 1, 1, 1, 0), (1, .aload_n 0, 1, 2, 0), (2, .getfield 30, 3, 3, 0), (5, .getfield 110, 3, 4, 0), (8, .getfield 114, 3, 5, 0), (11, .invokestatic 128, 3, 6, 0), (14, .aload_n 0, 1, 7, 0), (15, .getfield 30, 3, 8, 0), (18, .getfield 110, 3, 9, 0), (21, .getfield 131, 3, 10, 0), (24, .iload_n 1, 1, 11, 0), (25, .baload, 1, 12, 0), (26, .ifCond .ne 7, 3, 13, 15), (29, .iconst 1, 1, 14, 0), (30, .goto 4, 3, 15, 16), (33, .iconst 0, 1, 16, 0), (34, .invokestatic 66, 3, 17, 0), (37, .aload_n 0, 1, 18, 0), (38, .getfield 40, 3, 19, 0), (41, .aload_n 0, 1, 20, 0), (42, .getfield 30, 3, 21, 0), (45, .invokevirtual 117, 3, 22, 0), (48, .aload_n 0, 1, 23, 0), (49, .getfield 30, 3, 24, 0), (52, .getfield 110, 3, 25, 0), (55, .getfield 131, 3, 26, 0), (58, .iload_n 1, 1, 27, 0), (59, .iconst 1, 1, 28, 0), (60, .bastore, 1, 29, 0), (61, .aload_n 0, 1, 30, 0), (62, .getfield 30, 3, 31, 0), (65, .getfield 110, 3, 32, 0), (68, .getfield 138, 3, 33, 0), (71, .iload_n 1, 1, 34, 0), (72, .iaload, 1, 35, 0), (73, .ireturn, 1, 36, 0)]
set_option maxRecDepth 100000 in
theorem okX7_cancel : OkTab cX7_cancel tX7_cancel := ⟨by decide +kernel, by decide +kernel⟩
def tX7_addRoom : List PT := [(0, .iload_n 1, 1, 1, 0), (1, .iconst 1, 1, 2, 0), (2, .sipush 500, 3, 3, 0), (5, .invokestatic 74, 3, 4, 0), (8, .invokestatic 78, 3, 5, 0), (11, .aload_n 0, 1, 6, 0), (12, .getfield 30, 3, 7, 0), (15, .getfield 96, 3, 8, 0), (18, .getfield 100, 3, 9, 0), (21, .bipush 6, 2, 10, 0), (23, .if_icmp .ge 7, 3, 11, 13), (26, .iconst 1, 1, 12, 0), (27, .goto 4, 3, 13, 14), (30, .iconst 0, 1, 14, 0), (31, .invokestatic 66, 3, 15, 0), (34, .aload_n 0, 1, 16, 0), (35, .getfield 40, 3, 17, 0), (38, .aload_n 0, 1, 18, 0), (39, .getfield 30, 3, 19, 0), (42, .invokevirtual 117, 3, 20, 0), (45, .aload_n 0, 1, 21, 0), (46, .getfield 30, 3, 22, 0), (49, .getfield 96, 3, 23, 0), (52, .iload_n 1, 1, 24, 0), (53, .iconst (-1), 1, 25, 0), (54, .iconst (-1), 1, 26, 0), (55, .invokevirtual 141, 3, 27, 0), (58, .ireturn, 1, 28, 0)]
set_option maxRecDepth 100000 in
theorem okX7_addRoom : OkTab cX7_addRoom tX7_addRoom := ⟨by decide +kernel, by decide +kernel⟩
def tX7_setOffice : List PT := [(0, .iload_n 1, 1, 1, 0), (1, .aload_n 0, 1, 2, 0), (2, .getfield 30, 3, 3, 0), (5, .getfield 96, 3, 4, 0), (8, .getfield 100, 3, 5, 0), (11, .invokestatic 128, 3, 6, 0), (14, .iload_n 2, 1, 7, 0), (15, .iconst (-1), 1, 8, 0), (16, .if_icmp .eq 25, 3, 9, 19), (19, .iload_n 2, 1, 10, 0), (20, .iconst 0, 1, 11, 0), (21, .sipush 359, 3, 12, 0), (24, .invokestatic 74, 3, 13, 0), (27, .ifCond .eq 18, 3, 14, 21), (30, .iload_n 3, 1, 15, 0), (31, .iload_n 2, 1, 16, 0), (32, .sipush 359, 3, 17, 0), (35, .invokestatic 74, 3, 18, 0), (38, .ifCond .eq 7, 3, 19, 21), (41, .iconst 1, 1, 20, 0), (42, .goto 4, 3, 21, 22), (45, .iconst 0, 1, 22, 0), (46, .invokestatic 78, 3, 23, 0), (49, .aload_n 0, 1, 24, 0), (50, .getfield 40, 3, 25, 0), (53, .aload_n 0, 1, 26, 0), (54, .getfield 30, 3, 27, 0), (57, .invokevirtual 117, 3, 28, 0), (60, .aload_n 0, 1, 29, 0), (61, .getfield 30, 3, 30, 0), (64, .getfield 96, 3, 31, 0), (67, .iload_n 1, 1, 32, 0), (68, .iconst 0, 1, 33, 0), (69, .sipush 359, 3, 34, 0), (72, .invokevirtual 144, 3, 35, 0), (75, .istore 4, 2, 36, 0), (77, .aload_n 0, 1, 37, 0), (78, .getfield 30, 3, 38, 0), (81, .getfield 96, 3, 39, 0), (84, .getfield 147, 3, 40, 0), (87, .iload_n 1, 1, 41, 0), (88, .iload_n 2, 1, 42, 0), (89, .iastore, 1, 43, 0), (90, .aload_n 0, 1, 44, 0), (91, .getfield 30, 3, 45, 0), (94, .getfield 96, 3, 46, 0), (97, .getfield 150, 3, 47, 0), (100, .iload_n 1, 1, 48, 0), (101, .iload_n 2, 1, 49, 0), (102, .iconst (-1), 1, 50, 0), (103, .if_icmp .ne 7, 3, 51, 53), (106, .iconst (-1), 1, 52, 0), (107, .goto 4, 3, 53, 54), (110, .iload_n 3, 1, 54, 0), (111, .iastore, 1, 55, 0), (112, .iload 4, 2, 56, 0), (114, .ireturn, 1, 57, 0)]
set_option maxRecDepth 100000 in
theorem okX7_setOffice : OkTab cX7_setOffice tX7_setOffice := ⟨by decide +kernel, by decide +kernel⟩
def tX7_addAsset : List PT := [(0, .iload_n 1, 1, 1, 0), (1, .iconst 1, 1, 2, 0), (2, .ldc 153, 2, 3, 0), (4, .invokestatic 74, 3, 4, 0), (7, .ifCond .eq 28, 3, 5, 17), (10, .iload_n 2, 1, 6, 0), (11, .iconst 0, 1, 7, 0), (12, .sipush 359, 3, 8, 0), (15, .invokestatic 74, 3, 9, 0), (18, .ifCond .eq 17, 3, 10, 17), (21, .iload_n 3, 1, 11, 0), (22, .iconst 1, 1, 12, 0), (23, .bipush 120, 2, 13, 0), (25, .invokestatic 74, 3, 14, 0), (28, .ifCond .eq 7, 3, 15, 17), (31, .iconst 1, 1, 16, 0), (32, .goto 4, 3, 17, 18), (35, .iconst 0, 1, 18, 0), (36, .invokestatic 78, 3, 19, 0), (39, .aload_n 0, 1, 20, 0), (40, .getfield 30, 3, 21, 0), (43, .getfield 154, 3, 22, 0), (46, .getfield 158, 3, 23, 0), (49, .bipush 12, 2, 24, 0), (51, .if_icmp .ge 7, 3, 25, 27), (54, .iconst 1, 1, 26, 0), (55, .goto 4, 3, 27, 28), (58, .iconst 0, 1, 28, 0), (59, .invokestatic 66, 3, 29, 0), (62, .aload_n 0, 1, 30, 0), (63, .getfield 40, 3, 31, 0), (66, .aload_n 0, 1, 32, 0), (67, .getfield 30, 3, 33, 0), (70, .invokevirtual 117, 3, 34, 0), (73, .aload_n 0, 1, 35, 0), (74, .getfield 30, 3, 36, 0), (77, .getfield 154, 3, 37, 0), (80, .iload_n 1, 1, 38, 0), (81, .iload_n 2, 1, 39, 0), (82, .iload_n 3, 1, 40, 0), (83, .aload_n 0, 1, 41, 0), (84, .getfield 23, 3, 42, 0), (87, .iload_n 1, 1, 43, 0), (88, .invokevirtual 161, 3, 44, 0), (91, .invokevirtual 164, 3, 45, 0), (94, .ireturn, 1, 46, 0)]
set_option maxRecDepth 100000 in
theorem okX7_addAsset : OkTab cX7_addAsset tX7_addAsset := ⟨by decide +kernel, by decide +kernel⟩
def tX7_sellAsset : List PT := [(0, .iload_n 1, 1, 1, 0), (1, .aload_n 0, 1, 2, 0), (2, .getfield 30, 3, 3, 0), (5, .getfield 154, 3, 4, 0), (8, .getfield 158, 3, 5, 0), (11, .invokestatic 128, 3, 6, 0), (14, .iload_n 2, 1, 7, 0), (15, .aload_n 0, 1, 8, 0), (16, .getfield 30, 3, 9, 0), (19, .getfield 154, 3, 10, 0), (22, .getfield 167, 3, 11, 0), (25, .iload_n 1, 1, 12, 0), (26, .iaload, 1, 13, 0), (27, .sipush 359, 3, 14, 0), (30, .invokestatic 74, 3, 15, 0), (33, .ifCond .eq 17, 3, 16, 23), (36, .iload_n 3, 1, 17, 0), (37, .iconst 0, 1, 18, 0), (38, .ldc 153, 2, 19, 0), (40, .invokestatic 74, 3, 20, 0), (43, .ifCond .eq 7, 3, 21, 23), (46, .iconst 1, 1, 22, 0), (47, .goto 4, 3, 23, 24), (50, .iconst 0, 1, 24, 0), (51, .invokestatic 78, 3, 25, 0), (54, .aload_n 0, 1, 26, 0), (55, .getfield 30, 3, 27, 0), (58, .getfield 154, 3, 28, 0), (61, .getfield 170, 3, 29, 0), (64, .iload_n 1, 1, 30, 0), (65, .iaload, 1, 31, 0), (66, .iconst (-1), 1, 32, 0), (67, .if_icmp .ne 7, 3, 33, 35), (70, .iconst 1, 1, 34, 0), (71, .goto 4, 3, 35, 36), (74, .iconst 0, 1, 36, 0), (75, .invokestatic 66, 3, 37, 0), (78, .aload_n 0, 1, 38, 0), (79, .getfield 40, 3, 39, 0), (82, .aload_n 0, 1, 40, 0), (83, .getfield 30, 3, 41, 0), (86, .invokevirtual 117, 3, 42, 0), (89, .aload_n 0, 1, 43, 0), (90, .getfield 30, 3, 44, 0), (93, .getfield 154, 3, 45, 0), (96, .iload_n 1, 1, 46, 0), (97, .iload_n 2, 1, 47, 0), (98, .bipush 30, 2, 48, 0), (100, .idiv, 1, 49, 0), (101, .iconst 1, 1, 50, 0), (102, .isub, 1, 51, 0), (103, .invokevirtual 173, 3, 52, 0), (106, .istore 4, 2, 53, 0), (108, .aload_n 0, 1, 54, 0), (109, .getfield 30, 3, 55, 0), (112, .getfield 154, 3, 56, 0), (115, .getfield 170, 3, 57, 0), (118, .iload_n 1, 1, 58, 0), (119, .iload_n 2, 1, 59, 0), (120, .iastore, 1, 60, 0), (121, .aload_n 0, 1, 61, 0), (122, .getfield 30, 3, 62, 0), (125, .getfield 154, 3, 63, 0), (128, .getfield 177, 3, 64, 0), (131, .iload_n 1, 1, 65, 0), (132, .iload_n 3, 1, 66, 0), (133, .iastore, 1, 67, 0), (134, .iload 4, 2, 68, 0), (136, .ireturn, 1, 69, 0)]
set_option maxRecDepth 100000 in
theorem okX7_sellAsset : OkTab cX7_sellAsset tX7_sellAsset := ⟨by decide +kernel, by decide +kernel⟩
def tX7_closeQuarter : List PT := [(0, .aload_n 0, 1, 1, 0), (1, .getfield 30, 3, 2, 0), (4, .getfield 121, 3, 3, 0), (7, .istore_n 1, 1, 4, 0), (8, .iload_n 1, 1, 5, 0), (9, .iconst 4, 1, 6, 0), (10, .if_icmp .ge 7, 3, 7, 9), (13, .iconst 1, 1, 8, 0), (14, .goto 4, 3, 9, 10), (17, .iconst 0, 1, 10, 0), (18, .invokestatic 66, 3, 11, 0), (21, .aload_n 0, 1, 12, 0), (22, .getfield 40, 3, 13, 0), (25, .aload_n 0, 1, 14, 0), (26, .getfield 30, 3, 15, 0), (29, .invokevirtual 117, 3, 16, 0), (32, .aload_n 0, 1, 17, 0), (33, .iload_n 1, 1, 18, 0), (34, .aload_n 0, 1, 19, 0), (35, .getfield 30, 3, 20, 0), (38, .iload_n 1, 1, 21, 0), (39, .invokevirtual 180, 3, 22, 0), (42, .invokevirtual 184, 3, 23, 0), (45, .lstore_n 2, 1, 24, 0), (46, .lconst 0, 1, 25, 0), (47, .lload_n 2, 1, 26, 0), (48, .aload_n 0, 1, 27, 0), (49, .getfield 30, 3, 28, 0), (52, .invokevirtual 188, 3, 29, 0), (55, .lsub, 1, 30, 0), (56, .invokestatic 192, 3, 31, 0), (59, .l2i, 1, 32, 0), (60, .istore 4, 2, 33, 0), (62, .aload_n 0, 1, 34, 0), (63, .getfield 30, 3, 35, 0), (66, .getfield 198, 3, 36, 0), (69, .iload_n 1, 1, 37, 0), (70, .iload 4, 2, 38, 0), (72, .iastore, 1, 39, 0), (73, .aload_n 0, 1, 40, 0), (74, .getfield 30, 3, 41, 0), (77, .iload_n 1, 1, 42, 0), (78, .iconst 1, 1, 43, 0), (79, .iadd, 1, 44, 0), (80, .putfield 121, 3, 45, 0), (83, .iload 4, 2, 46, 0), (85, .ireturn, 1, 47, 0)]
set_option maxRecDepth 100000 in
theorem okX7_closeQuarter : OkTab cX7_closeQuarter tX7_closeQuarter := ⟨by decide +kernel, by decide +kernel⟩
def tX7_setStart : List PT := [(0, .iload_n 1, 1, 1, 0), (1, .ldc 201, 2, 2, 0), (3, .ldc 105, 2, 3, 0), (5, .invokestatic 74, 3, 4, 0), (8, .invokestatic 78, 3, 5, 0), (11, .aload_n 0, 1, 6, 0), (12, .getfield 40, 3, 7, 0), (15, .aload_n 0, 1, 8, 0), (16, .getfield 30, 3, 9, 0), (19, .invokevirtual 117, 3, 10, 0), (22, .aload_n 0, 1, 11, 0), (23, .getfield 30, 3, 12, 0), (26, .getfield 202, 3, 13, 0), (29, .istore_n 2, 1, 14, 0), (30, .aload_n 0, 1, 15, 0), (31, .getfield 30, 3, 16, 0), (34, .iload_n 1, 1, 17, 0), (35, .putfield 202, 3, 18, 0), (38, .iload_n 2, 1, 19, 0), (39, .ireturn, 1, 20, 0)]
set_option maxRecDepth 100000 in
theorem okX7_setStart : OkTab cX7_setStart tX7_setStart := ⟨by decide +kernel, by decide +kernel⟩
def tX7_undo : List PT := [(0, .aload_n 0, 1, 1, 0), (1, .getfield 40, 3, 2, 0), (4, .getfield 205, 3, 3, 0), (7, .ifCond .le 7, 3, 4, 6), (10, .iconst 1, 1, 5, 0), (11, .goto 4, 3, 6, 7), (14, .iconst 0, 1, 7, 0), (15, .invokestatic 66, 3, 8, 0), (18, .aload_n 0, 1, 9, 0), (19, .getfield 40, 3, 10, 0), (22, .aload_n 0, 1, 11, 0), (23, .getfield 30, 3, 12, 0), (26, .invokevirtual 206, 3, 13, 0), (29, .aload_n 0, 1, 14, 0), (30, .getfield 40, 3, 15, 0), (33, .getfield 205, 3, 16, 0), (36, .ireturn, 1, 17, 0)]
set_option maxRecDepth 100000 in
theorem okX7_undo : OkTab cX7_undo tX7_undo := ⟨by decide +kernel, by decide +kernel⟩
def tX7_undoCount : List PT := [(0, .aload_n 0, 1, 1, 0), (1, .getfield 40, 3, 2, 0), (4, .getfield 205, 3, 3, 0), (7, .ireturn, 1, 4, 0)]
set_option maxRecDepth 100000 in
theorem okX7_undoCount : OkTab cX7_undoCount tX7_undoCount := ⟨by decide +kernel, by decide +kernel⟩
def tX7_save : List PT := [(0, .aload_n 0, 1, 1, 0), (1, .getfield 34, 3, 2, 0), (4, .aload_n 0, 1, 3, 0), (5, .getfield 30, 3, 4, 0), (8, .invokevirtual 209, 3, 5, 0), (11, .aload_n 0, 1, 6, 0), (12, .iconst 1, 1, 7, 0), (13, .putfield 92, 3, 8, 0), (16, .aload_n 0, 1, 9, 0), (17, .getfield 30, 3, 10, 0), (20, .getfield 110, 3, 11, 0), (23, .getfield 114, 3, 12, 0), (26, .ireturn, 1, 13, 0)]
set_option maxRecDepth 100000 in
theorem okX7_save : OkTab cX7_save tX7_save := ⟨by decide +kernel, by decide +kernel⟩
def tX7_restore : List PT := [(0, .aload_n 0, 1, 1, 0), (1, .getfield 92, 3, 2, 0), (4, .invokestatic 66, 3, 3, 0), (7, .aload_n 0, 1, 4, 0), (8, .getfield 30, 3, 5, 0), (11, .aload_n 0, 1, 6, 0), (12, .getfield 34, 3, 7, 0), (15, .invokevirtual 209, 3, 8, 0), (18, .aload_n 0, 1, 9, 0), (19, .getfield 40, 3, 10, 0), (22, .invokevirtual 89, 3, 11, 0), (25, .aload_n 0, 1, 12, 0), (26, .getfield 30, 3, 13, 0), (29, .getfield 110, 3, 14, 0), (32, .getfield 114, 3, 15, 0), (35, .ireturn, 1, 16, 0)]
set_option maxRecDepth 100000 in
theorem okX7_restore : OkTab cX7_restore tX7_restore := ⟨by decide +kernel, by decide +kernel⟩
def tX7_count : List PT := [(0, .iload_n 1, 1, 1, 0), (1, .tableswitch 144 0 8 #[51, 62, 73, 84, 95, 106, 117, 128, 136], 51, 2, 0), (52, .aload_n 0, 1, 3, 0), (53, .getfield 30, 3, 4, 0), (56, .getfield 110, 3, 5, 0), (59, .getfield 114, 3, 6, 0), (62, .ireturn, 1, 7, 0), (63, .aload_n 0, 1, 8, 0), (64, .getfield 30, 3, 9, 0), (67, .getfield 110, 3, 10, 0), (70, .invokevirtual 212, 3, 11, 0), (73, .ireturn, 1, 12, 0), (74, .aload_n 0, 1, 13, 0), (75, .getfield 30, 3, 14, 0), (78, .getfield 110, 3, 15, 0), (81, .invokevirtual 216, 3, 16, 0), (84, .ireturn, 1, 17, 0), (85, .aload_n 0, 1, 18, 0), (86, .getfield 30, 3, 19, 0), (89, .getfield 110, 3, 20, 0), (92, .invokevirtual 219, 3, 21, 0), (95, .ireturn, 1, 22, 0), (96, .aload_n 0, 1, 23, 0), (97, .getfield 30, 3, 24, 0), (100, .getfield 96, 3, 25, 0), (103, .getfield 100, 3, 26, 0), (106, .ireturn, 1, 27, 0), (107, .aload_n 0, 1, 28, 0), (108, .getfield 30, 3, 29, 0), (111, .getfield 154, 3, 30, 0), (114, .getfield 158, 3, 31, 0), (117, .ireturn, 1, 32, 0), (118, .aload_n 0, 1, 33, 0), (119, .getfield 30, 3, 34, 0), (122, .getfield 154, 3, 35, 0), (125, .invokevirtual 222, 3, 36, 0), (128, .ireturn, 1, 37, 0), (129, .aload_n 0, 1, 38, 0), (130, .getfield 30, 3, 39, 0), (133, .getfield 121, 3, 40, 0), (136, .ireturn, 1, 41, 0), (137, .aload_n 0, 1, 42, 0), (138, .getfield 23, 3, 43, 0), (141, .getfield 225, 3, 44, 0), (144, .ireturn, 1, 45, 0), (145, .new 228, 3, 46, 0), (148, .dup, 1, 47, 0), (149, .ldc 230, 2, 48, 0), (151, .invokespecial 232, 3, 49, 0), (154, .athrow, 1, 50, 0)]
set_option maxRecDepth 100000 in
theorem okX7_count : OkTab cX7_count tX7_count := ⟨by decide +kernel, by decide +kernel⟩
def tX7_entry : List PT := [(0, .iload_n 1, 1, 1, 0), (1, .aload_n 0, 1, 2, 0), (2, .getfield 30, 3, 3, 0), (5, .getfield 110, 3, 4, 0), (8, .getfield 114, 3, 5, 0), (11, .invokestatic 128, 3, 6, 0), (14, .iload_n 2, 1, 7, 0), (15, .tableswitch 148 0 6 #[41, 54, 67, 80, 93, 106, 127], 41, 8, 0), (56, .aload_n 0, 1, 9, 0), (57, .getfield 30, 3, 10, 0), (60, .getfield 110, 3, 11, 0), (63, .getfield 235, 3, 12, 0), (66, .iload_n 1, 1, 13, 0), (67, .iaload, 1, 14, 0), (68, .ireturn, 1, 15, 0), (69, .aload_n 0, 1, 16, 0), (70, .getfield 30, 3, 17, 0), (73, .getfield 110, 3, 18, 0), (76, .getfield 238, 3, 19, 0), (79, .iload_n 1, 1, 20, 0), (80, .iaload, 1, 21, 0), (81, .ireturn, 1, 22, 0), (82, .aload_n 0, 1, 23, 0), (83, .getfield 30, 3, 24, 0), (86, .getfield 110, 3, 25, 0), (89, .getfield 138, 3, 26, 0), (92, .iload_n 1, 1, 27, 0), (93, .iaload, 1, 28, 0), (94, .ireturn, 1, 29, 0), (95, .aload_n 0, 1, 30, 0), (96, .getfield 30, 3, 31, 0), (99, .getfield 110, 3, 32, 0), (102, .getfield 241, 3, 33, 0), (105, .iload_n 1, 1, 34, 0), (106, .iaload, 1, 35, 0), (107, .ireturn, 1, 36, 0), (108, .aload_n 0, 1, 37, 0), (109, .getfield 30, 3, 38, 0), (112, .getfield 110, 3, 39, 0), (115, .getfield 135, 3, 40, 0), (118, .iload_n 1, 1, 41, 0), (119, .iaload, 1, 42, 0), (120, .ireturn, 1, 43, 0), (121, .aload_n 0, 1, 44, 0), (122, .getfield 30, 3, 45, 0), (125, .getfield 110, 3, 46, 0), (128, .getfield 131, 3, 47, 0), (131, .iload_n 1, 1, 48, 0), (132, .baload, 1, 49, 0), (133, .ifCond .eq 7, 3, 50, 52), (136, .iconst 1, 1, 51, 0), (137, .goto 4, 3, 52, 53), (140, .iconst 0, 1, 53, 0), (141, .ireturn, 1, 54, 0), (142, .aload_n 0, 1, 55, 0), (143, .getfield 30, 3, 56, 0), (146, .getfield 110, 3, 57, 0), (149, .getfield 244, 3, 58, 0), (152, .iload_n 1, 1, 59, 0), (153, .baload, 1, 60, 0), (154, .ifCond .eq 7, 3, 61, 63), (157, .iconst 1, 1, 62, 0), (158, .goto 4, 3, 63, 64), (161, .iconst 0, 1, 64, 0), (162, .ireturn, 1, 65, 0), (163, .new 228, 3, 66, 0), (166, .dup, 1, 67, 0), (167, .ldc 230, 2, 68, 0), (169, .invokespecial 232, 3, 69, 0), (172, .athrow, 1, 70, 0)]
set_option maxRecDepth 100000 in
theorem okX7_entry : OkTab cX7_entry tX7_entry := ⟨by decide +kernel, by decide +kernel⟩
def tX7_deductible : List PT := [(0, .iload_n 1, 1, 1, 0), (1, .aload_n 0, 1, 2, 0), (2, .getfield 30, 3, 3, 0), (5, .getfield 110, 3, 4, 0), (8, .getfield 114, 3, 5, 0), (11, .invokestatic 128, 3, 6, 0), (14, .aload_n 0, 1, 7, 0), (15, .getfield 30, 3, 8, 0), (18, .iload_n 1, 1, 9, 0), (19, .invokevirtual 247, 3, 10, 0), (22, .ireturn, 1, 11, 0)]
set_option maxRecDepth 100000 in
theorem okX7_deductible : OkTab cX7_deductible tX7_deductible := ⟨by decide +kernel, by decide +kernel⟩
def tX7_total : List PT := [(0, .iload_n 1, 1, 1, 0), (1, .iconst 0, 1, 2, 0), (2, .iconst 3, 1, 3, 0), (3, .invokestatic 74, 3, 4, 0), (6, .ifCond .eq 29, 3, 5, 17), (9, .iload_n 2, 1, 6, 0), (10, .iconst 0, 1, 7, 0), (11, .sipush 359, 3, 8, 0), (14, .invokestatic 74, 3, 9, 0), (17, .ifCond .eq 18, 3, 10, 17), (20, .iload_n 3, 1, 11, 0), (21, .iload_n 2, 1, 12, 0), (22, .sipush 359, 3, 13, 0), (25, .invokestatic 74, 3, 14, 0), (28, .ifCond .eq 7, 3, 15, 17), (31, .iconst 1, 1, 16, 0), (32, .goto 4, 3, 17, 18), (35, .iconst 0, 1, 18, 0), (36, .invokestatic 78, 3, 19, 0), (39, .aload_n 0, 1, 20, 0), (40, .getfield 30, 3, 21, 0), (43, .getfield 110, 3, 22, 0), (46, .iload_n 1, 1, 23, 0), (47, .iload_n 2, 1, 24, 0), (48, .iload_n 3, 1, 25, 0), (49, .invokevirtual 250, 3, 26, 0), (52, .lreturn, 1, 27, 0)]
set_option maxRecDepth 100000 in
theorem okX7_total : OkTab cX7_total tX7_total := ⟨by decide +kernel, by decide +kernel⟩
def tX7_byCategory : List PT := [(0, .iload_n 1, 1, 1, 0), (1, .iconst 0, 1, 2, 0), (2, .bipush 9, 2, 3, 0), (4, .invokestatic 74, 3, 4, 0), (7, .invokestatic 78, 3, 5, 0), (10, .iload_n 2, 1, 6, 0), (11, .ifCond .eq 17, 3, 7, 13), (14, .aload_n 0, 1, 8, 0), (15, .getfield 30, 3, 9, 0), (18, .getfield 110, 3, 10, 0), (21, .iload_n 1, 1, 11, 0), (22, .invokevirtual 254, 3, 12, 0), (25, .goto 11, 3, 13, 17), (28, .aload_n 0, 1, 14, 0), (29, .getfield 30, 3, 15, 0), (32, .iload_n 1, 1, 16, 0), (33, .invokevirtual 257, 3, 17, 0), (36, .lreturn, 1, 18, 0)]
set_option maxRecDepth 100000 in
theorem okX7_byCategory : OkTab cX7_byCategory tX7_byCategory := ⟨by decide +kernel, by decide +kernel⟩
def tX7_open : List PT := [(0, .iload_n 1, 1, 1, 0), (1, .iconst 0, 1, 2, 0), (2, .iconst 3, 1, 3, 0), (3, .invokestatic 74, 3, 4, 0), (6, .invokestatic 78, 3, 5, 0), (9, .aload_n 0, 1, 6, 0), (10, .getfield 30, 3, 7, 0), (13, .getfield 110, 3, 8, 0), (16, .iload_n 1, 1, 9, 0), (17, .invokevirtual 260, 3, 10, 0), (20, .lreturn, 1, 11, 0)]
set_option maxRecDepth 100000 in
theorem okX7_open : OkTab cX7_open tX7_open := ⟨by decide +kernel, by decide +kernel⟩
def tX7_oldestOpen : List PT := [(0, .aload_n 0, 1, 1, 0), (1, .getfield 30, 3, 2, 0), (4, .getfield 110, 3, 3, 0), (7, .invokevirtual 263, 3, 4, 0), (10, .istore_n 1, 1, 5, 0), (11, .iload_n 1, 1, 6, 0), (12, .iconst (-1), 1, 7, 0), (13, .if_icmp .eq 7, 3, 8, 10), (16, .iconst 1, 1, 9, 0), (17, .goto 4, 3, 10, 11), (20, .iconst 0, 1, 11, 0), (21, .invokestatic 266, 3, 12, 0), (24, .iload_n 1, 1, 13, 0), (25, .ireturn, 1, 14, 0)]
set_option maxRecDepth 100000 in
theorem okX7_oldestOpen : OkTab cX7_oldestOpen tX7_oldestOpen := ⟨by decide +kernel, by decide +kernel⟩
def tX7_room : List PT := [(0, .iload_n 1, 1, 1, 0), (1, .aload_n 0, 1, 2, 0), (2, .getfield 30, 3, 3, 0), (5, .getfield 96, 3, 4, 0), (8, .getfield 100, 3, 5, 0), (11, .invokestatic 128, 3, 6, 0), (14, .iload_n 2, 1, 7, 0), (15, .tableswitch 64 0 2 #[25, 38, 51], 25, 8, 0), (40, .aload_n 0, 1, 9, 0), (41, .getfield 30, 3, 10, 0), (44, .getfield 96, 3, 11, 0), (47, .getfield 269, 3, 12, 0), (50, .iload_n 1, 1, 13, 0), (51, .iaload, 1, 14, 0), (52, .ireturn, 1, 15, 0), (53, .aload_n 0, 1, 16, 0), (54, .getfield 30, 3, 17, 0), (57, .getfield 96, 3, 18, 0), (60, .getfield 147, 3, 19, 0), (63, .iload_n 1, 1, 20, 0), (64, .iaload, 1, 21, 0), (65, .ireturn, 1, 22, 0), (66, .aload_n 0, 1, 23, 0), (67, .getfield 30, 3, 24, 0), (70, .getfield 96, 3, 25, 0), (73, .getfield 150, 3, 26, 0), (76, .iload_n 1, 1, 27, 0), (77, .iaload, 1, 28, 0), (78, .ireturn, 1, 29, 0), (79, .new 228, 3, 30, 0), (82, .dup, 1, 31, 0), (83, .ldc 230, 2, 32, 0), (85, .invokespecial 232, 3, 33, 0), (88, .athrow, 1, 34, 0)]
set_option maxRecDepth 100000 in
theorem okX7_room : OkTab cX7_room tX7_room := ⟨by decide +kernel, by decide +kernel⟩
def tX7_share : List PT := [(0, .iload_n 1, 1, 1, 0), (1, .iconst 0, 1, 2, 0), (2, .bipush 11, 2, 3, 0), (4, .invokestatic 74, 3, 4, 0), (7, .invokestatic 78, 3, 5, 0), (10, .aload_n 0, 1, 6, 0), (11, .getfield 30, 3, 7, 0), (14, .getfield 96, 3, 8, 0), (17, .iload_n 1, 1, 9, 0), (18, .invokevirtual 272, 3, 10, 0), (21, .istore_n 3, 1, 11, 0), (22, .aload_n 0, 1, 12, 0), (23, .getfield 30, 3, 13, 0), (26, .getfield 96, 3, 14, 0), (29, .invokevirtual 275, 3, 15, 0), (32, .istore 4, 2, 16, 0), (34, .iload_n 3, 1, 17, 0), (35, .iload 4, 2, 18, 0), (37, .invokestatic 278, 3, 19, 0), (40, .istore 5, 2, 20, 0), (42, .iload_n 3, 1, 21, 0), (43, .ifCond .eq 8, 3, 22, 24), (46, .iload 5, 2, 23, 0), (48, .ifCond .ne 13, 3, 24, 30), (51, .iload_n 2, 1, 25, 0), (52, .ifCond .eq 7, 3, 26, 28), (55, .iconst 1, 1, 27, 0), (56, .goto 4, 3, 28, 29), (59, .iconst 0, 1, 29, 0), (60, .ireturn, 1, 30, 0), (61, .iload_n 2, 1, 31, 0), (62, .ifCond .eq 8, 3, 32, 34), (65, .iload 4, 2, 33, 0), (67, .goto 4, 3, 34, 35), (70, .iload_n 3, 1, 35, 0), (71, .iload 5, 2, 36, 0), (73, .idiv, 1, 37, 0), (74, .ireturn, 1, 38, 0)]
set_option maxRecDepth 100000 in
theorem okX7_share : OkTab cX7_share tX7_share := ⟨by decide +kernel, by decide +kernel⟩
def tX7_asset : List PT := [(0, .iload_n 1, 1, 1, 0), (1, .aload_n 0, 1, 2, 0), (2, .getfield 30, 3, 3, 0), (5, .getfield 154, 3, 4, 0), (8, .getfield 158, 3, 5, 0), (11, .invokestatic 128, 3, 6, 0), (14, .iload_n 2, 1, 7, 0), (15, .tableswitch 115 0 5 #[37, 50, 63, 76, 89, 102], 37, 8, 0), (52, .aload_n 0, 1, 9, 0), (53, .getfield 30, 3, 10, 0), (56, .getfield 154, 3, 11, 0), (59, .getfield 281, 3, 12, 0), (62, .iload_n 1, 1, 13, 0), (63, .iaload, 1, 14, 0), (64, .ireturn, 1, 15, 0), (65, .aload_n 0, 1, 16, 0), (66, .getfield 30, 3, 17, 0), (69, .getfield 154, 3, 18, 0), (72, .getfield 167, 3, 19, 0), (75, .iload_n 1, 1, 20, 0), (76, .iaload, 1, 21, 0), (77, .ireturn, 1, 22, 0), (78, .aload_n 0, 1, 23, 0), (79, .getfield 30, 3, 24, 0), (82, .getfield 154, 3, 25, 0), (85, .getfield 284, 3, 26, 0), (88, .iload_n 1, 1, 27, 0), (89, .iaload, 1, 28, 0), (90, .ireturn, 1, 29, 0), (91, .aload_n 0, 1, 30, 0), (92, .getfield 30, 3, 31, 0), (95, .getfield 154, 3, 32, 0), (98, .getfield 287, 3, 33, 0), (101, .iload_n 1, 1, 34, 0), (102, .iaload, 1, 35, 0), (103, .ireturn, 1, 36, 0), (104, .aload_n 0, 1, 37, 0), (105, .getfield 30, 3, 38, 0), (108, .getfield 154, 3, 39, 0), (111, .getfield 170, 3, 40, 0), (114, .iload_n 1, 1, 41, 0), (115, .iaload, 1, 42, 0), (116, .ireturn, 1, 43, 0), (117, .aload_n 0, 1, 44, 0), (118, .getfield 30, 3, 45, 0), (121, .getfield 154, 3, 46, 0), (124, .getfield 177, 3, 47, 0), (127, .iload_n 1, 1, 48, 0), (128, .iaload, 1, 49, 0), (129, .ireturn, 1, 50, 0), (130, .new 228, 3, 51, 0), (133, .dup, 1, 52, 0), (134, .ldc 230, 2, 53, 0), (136, .invokespecial 232, 3, 54, 0), (139, .athrow, 1, 55, 0)]
set_option maxRecDepth 100000 in
theorem okX7_asset : OkTab cX7_asset tX7_asset := ⟨by decide +kernel, by decide +kernel⟩
def tX7_written : List PT := [(0, .iload_n 1, 1, 1, 0), (1, .aload_n 0, 1, 2, 0), (2, .getfield 30, 3, 3, 0), (5, .getfield 154, 3, 4, 0), (8, .getfield 158, 3, 5, 0), (11, .invokestatic 128, 3, 6, 0), (14, .iload_n 2, 1, 7, 0), (15, .iconst 0, 1, 8, 0), (16, .bipush 11, 2, 9, 0), (18, .invokestatic 74, 3, 10, 0), (21, .invokestatic 78, 3, 11, 0), (24, .aload_n 0, 1, 12, 0), (25, .getfield 30, 3, 13, 0), (28, .getfield 154, 3, 14, 0), (31, .iload_n 1, 1, 15, 0), (32, .iload_n 2, 1, 16, 0), (33, .invokevirtual 290, 3, 17, 0), (36, .ireturn, 1, 18, 0)]
set_option maxRecDepth 100000 in
theorem okX7_written : OkTab cX7_written tX7_written := ⟨by decide +kernel, by decide +kernel⟩
def tX7_bookValue : List PT := [(0, .iload_n 1, 1, 1, 0), (1, .aload_n 0, 1, 2, 0), (2, .getfield 30, 3, 3, 0), (5, .getfield 154, 3, 4, 0), (8, .getfield 158, 3, 5, 0), (11, .invokestatic 128, 3, 6, 0), (14, .iload_n 2, 1, 7, 0), (15, .iconst 0, 1, 8, 0), (16, .bipush 11, 2, 9, 0), (18, .invokestatic 74, 3, 10, 0), (21, .invokestatic 78, 3, 11, 0), (24, .aload_n 0, 1, 12, 0), (25, .getfield 30, 3, 13, 0), (28, .getfield 154, 3, 14, 0), (31, .iload_n 1, 1, 15, 0), (32, .iload_n 2, 1, 16, 0), (33, .invokevirtual 173, 3, 17, 0), (36, .ireturn, 1, 18, 0)]
set_option maxRecDepth 100000 in
theorem okX7_bookValue : OkTab cX7_bookValue tX7_bookValue := ⟨by decide +kernel, by decide +kernel⟩
def tX7_pool : List PT := [(0, .iload_n 1, 1, 1, 0), (1, .invokestatic 293, 3, 2, 0), (4, .aload_n 0, 1, 3, 0), (5, .getfield 30, 3, 4, 0), (8, .getfield 154, 3, 5, 0), (11, .iload_n 1, 1, 6, 0), (12, .invokevirtual 296, 3, 7, 0), (15, .ireturn, 1, 8, 0)]
set_option maxRecDepth 100000 in
theorem okX7_pool : OkTab cX7_pool tX7_pool := ⟨by decide +kernel, by decide +kernel⟩
def tX7_poolWritten : List PT := [(0, .iload_n 1, 1, 1, 0), (1, .invokestatic 293, 3, 2, 0), (4, .aload_n 0, 1, 3, 0), (5, .getfield 30, 3, 4, 0), (8, .getfield 154, 3, 5, 0), (11, .iload_n 1, 1, 6, 0), (12, .invokevirtual 299, 3, 7, 0), (15, .ireturn, 1, 8, 0)]
set_option maxRecDepth 100000 in
theorem okX7_poolWritten : OkTab cX7_poolWritten tX7_poolWritten := ⟨by decide +kernel, by decide +kernel⟩
def tX7_profit : List PT := [(0, .iload_n 1, 1, 1, 0), (1, .invokestatic 293, 3, 2, 0), (4, .aload_n 0, 1, 3, 0), (5, .getfield 30, 3, 4, 0), (8, .iload_n 1, 1, 5, 0), (9, .invokevirtual 180, 3, 6, 0), (12, .aload_n 0, 1, 7, 0), (13, .getfield 30, 3, 8, 0), (16, .iload_n 1, 1, 9, 0), (17, .iconst 1, 1, 10, 0), (18, .isub, 1, 11, 0), (19, .invokevirtual 180, 3, 12, 0), (22, .lsub, 1, 13, 0), (23, .lreturn, 1, 14, 0)]
set_option maxRecDepth 100000 in
theorem okX7_profit : OkTab cX7_profit tX7_profit := ⟨by decide +kernel, by decide +kernel⟩
def tX7_profitTo : List PT := [(0, .iload_n 1, 1, 1, 0), (1, .invokestatic 293, 3, 2, 0), (4, .aload_n 0, 1, 3, 0), (5, .getfield 30, 3, 4, 0), (8, .iload_n 1, 1, 5, 0), (9, .invokevirtual 180, 3, 6, 0), (12, .lreturn, 1, 7, 0)]
set_option maxRecDepth 100000 in
theorem okX7_profitTo : OkTab cX7_profitTo tX7_profitTo := ⟨by decide +kernel, by decide +kernel⟩
def tX7_tax : List PT := [(0, .aload_n 0, 1, 1, 0), (1, .getfield 23, 3, 2, 0), (4, .iload_n 1, 1, 3, 0), (5, .i2l, 1, 4, 0), (6, .invokevirtual 302, 3, 5, 0), (9, .lreturn, 1, 6, 0)]
set_option maxRecDepth 100000 in
theorem okX7_tax : OkTab cX7_tax tX7_tax := ⟨by decide +kernel, by decide +kernel⟩
def tX7_rate : List PT := [(0, .aload_n 0, 1, 1, 0), (1, .getfield 23, 3, 2, 0), (4, .iload_n 1, 1, 3, 0), (5, .invokevirtual 306, 3, 4, 0), (8, .ireturn, 1, 5, 0)]
set_option maxRecDepth 100000 in
theorem okX7_rate : OkTab cX7_rate tX7_rate := ⟨by decide +kernel, by decide +kernel⟩
def tX7_yearTax : List PT := [(0, .aload_n 0, 1, 1, 0), (1, .getfield 23, 3, 2, 0), (4, .aload_n 0, 1, 3, 0), (5, .invokevirtual 309, 3, 4, 0), (8, .invokevirtual 302, 3, 5, 0), (11, .lreturn, 1, 6, 0)]
set_option maxRecDepth 100000 in
theorem okX7_yearTax : OkTab cX7_yearTax tX7_yearTax := ⟨by decide +kernel, by decide +kernel⟩
def tX7_prepayment : List PT := [(0, .iload_n 1, 1, 1, 0), (1, .invokestatic 293, 3, 2, 0), (4, .iload_n 1, 1, 3, 0), (5, .aload_n 0, 1, 4, 0), (6, .getfield 30, 3, 5, 0), (9, .getfield 121, 3, 6, 0), (12, .if_icmp .ge 7, 3, 7, 9), (15, .iconst 1, 1, 8, 0), (16, .goto 4, 3, 9, 10), (19, .iconst 0, 1, 10, 0), (20, .invokestatic 266, 3, 11, 0), (23, .aload_n 0, 1, 12, 0), (24, .getfield 30, 3, 13, 0), (27, .getfield 198, 3, 14, 0), (30, .iload_n 1, 1, 15, 0), (31, .iaload, 1, 16, 0), (32, .ireturn, 1, 17, 0)]
set_option maxRecDepth 100000 in
theorem okX7_prepayment : OkTab cX7_prepayment tX7_prepayment := ⟨by decide +kernel, by decide +kernel⟩
def tX7_recomputed : List PT := [(0, .iload_n 1, 1, 1, 0), (1, .invokestatic 293, 3, 2, 0), (4, .aload_n 0, 1, 3, 0), (5, .iload_n 1, 1, 4, 0), (6, .invokevirtual 312, 3, 5, 0), (9, .ireturn, 1, 6, 0)]
set_option maxRecDepth 100000 in
theorem okX7_recomputed : OkTab cX7_recomputed tX7_recomputed := ⟨by decide +kernel, by decide +kernel⟩
def tX7_correction : List PT := [(0, .iload_n 1, 1, 1, 0), (1, .invokestatic 293, 3, 2, 0), (4, .iload_n 1, 1, 3, 0), (5, .aload_n 0, 1, 4, 0), (6, .getfield 30, 3, 5, 0), (9, .getfield 121, 3, 6, 0), (12, .if_icmp .ge 7, 3, 7, 9), (15, .iconst 1, 1, 8, 0), (16, .goto 4, 3, 9, 10), (19, .iconst 0, 1, 10, 0), (20, .invokestatic 266, 3, 11, 0), (23, .aload_n 0, 1, 12, 0), (24, .iload_n 1, 1, 13, 0), (25, .invokevirtual 312, 3, 14, 0), (28, .aload_n 0, 1, 15, 0), (29, .getfield 30, 3, 16, 0), (32, .getfield 198, 3, 17, 0), (35, .iload_n 1, 1, 18, 0), (36, .iaload, 1, 19, 0), (37, .isub, 1, 20, 0), (38, .ireturn, 1, 21, 0)]
set_option maxRecDepth 100000 in
theorem okX7_correction : OkTab cX7_correction tX7_correction := ⟨by decide +kernel, by decide +kernel⟩
def tX7_settlement : List PT := [(0, .aload_n 0, 1, 1, 0), (1, .getfield 30, 3, 2, 0), (4, .getfield 121, 3, 3, 0), (7, .iconst 4, 1, 4, 0), (8, .if_icmp .ne 7, 3, 5, 7), (11, .iconst 1, 1, 6, 0), (12, .goto 4, 3, 7, 8), (15, .iconst 0, 1, 8, 0), (16, .invokestatic 66, 3, 9, 0), (19, .aload_n 0, 1, 10, 0), (20, .getfield 23, 3, 11, 0), (23, .aload_n 0, 1, 12, 0), (24, .invokevirtual 309, 3, 13, 0), (27, .invokevirtual 302, 3, 14, 0), (30, .aload_n 0, 1, 15, 0), (31, .getfield 30, 3, 16, 0), (34, .invokevirtual 188, 3, 17, 0), (37, .lsub, 1, 18, 0), (38, .lreturn, 1, 19, 0)]
set_option maxRecDepth 100000 in
theorem okX7_settlement : OkTab cX7_settlement tX7_settlement := ⟨by decide +kernel, by decide +kernel⟩
def tX7_interest : List PT := [(0, .lconst 0, 1, 1, 0), (1, .lstore_n 1, 1, 2, 0), (2, .iconst 0, 1, 3, 0), (3, .istore_n 3, 1, 4, 0), (4, .iload_n 3, 1, 5, 0), (5, .aload_n 0, 1, 6, 0), (6, .getfield 30, 3, 7, 0), (9, .getfield 121, 3, 8, 0), (12, .if_icmp .ge 57, 3, 9, 42), (15, .aload_n 0, 1, 10, 0), (16, .iload_n 3, 1, 11, 0), (17, .invokevirtual 312, 3, 12, 0), (20, .aload_n 0, 1, 13, 0), (21, .getfield 30, 3, 14, 0), (24, .getfield 198, 3, 15, 0), (27, .iload_n 3, 1, 16, 0), (28, .iaload, 1, 17, 0), (29, .isub, 1, 18, 0), (30, .i2l, 1, 19, 0), (31, .lstore 4, 2, 20, 0), (33, .lload 4, 2, 21, 0), (35, .lconst 0, 1, 22, 0), (36, .lcmp, 1, 23, 0), (37, .ifCond .le 26, 3, 24, 40), (40, .lload_n 1, 1, 25, 0), (41, .lload 4, 2, 26, 0), (43, .aload_n 0, 1, 27, 0), (44, .getfield 23, 3, 28, 0), (47, .getfield 315, 3, 29, 0), (50, .i2l, 1, 30, 0), (51, .lmul, 1, 31, 0), (52, .iconst 4, 1, 32, 0), (53, .iload_n 3, 1, 33, 0), (54, .isub, 1, 34, 0), (55, .i2l, 1, 35, 0), (56, .lmul, 1, 36, 0), (57, .ldc2_w 318, 3, 37, 0), (60, .ldiv, 1, 38, 0), (61, .ladd, 1, 39, 0), (62, .lstore_n 1, 1, 40, 0), (63, .iinc 3 1, 3, 41, 0), (66, .goto (-62), 3, 42, 4), (69, .lload_n 1, 1, 43, 0), (70, .lreturn, 1, 44, 0)]
set_option maxRecDepth 100000 in
theorem okX7_interest : OkTab cX7_interest tX7_interest := ⟨by decide +kernel, by decide +kernel⟩
def tX7_effectiveRate : List PT := [(0, .aload_n 0, 1, 1, 0), (1, .invokevirtual 309, 3, 2, 0), (4, .lstore_n 1, 1, 3, 0), (5, .lload_n 1, 1, 4, 0), (6, .lconst 0, 1, 5, 0), (7, .lcmp, 1, 6, 0), (8, .ifCond .le 7, 3, 7, 9), (11, .iconst 1, 1, 8, 0), (12, .goto 4, 3, 9, 10), (15, .iconst 0, 1, 10, 0), (16, .invokestatic 266, 3, 11, 0), (19, .aload_n 0, 1, 12, 0), (20, .getfield 23, 3, 13, 0), (23, .lload_n 1, 1, 14, 0), (24, .invokevirtual 302, 3, 15, 0), (27, .l2d, 1, 16, 0), (28, .ldc2_w 320, 3, 17, 0), (31, .dmul, 1, 18, 0), (32, .lload_n 1, 1, 19, 0), (33, .l2d, 1, 20, 0), (34, .ddiv, 1, 21, 0), (35, .dreturn, 1, 22, 0)]
set_option maxRecDepth 100000 in
theorem okX7_effectiveRate : OkTab cX7_effectiveRate tX7_effectiveRate := ⟨by decide +kernel, by decide +kernel⟩
def tX7_whatIf : List PT := [(0, .iload_n 1, 1, 1, 0), (1, .iconst 0, 1, 2, 0), (2, .iconst 3, 1, 3, 0), (3, .invokestatic 74, 3, 4, 0), (6, .ifCond .eq 28, 3, 5, 17), (9, .iload_n 2, 1, 6, 0), (10, .iconst 1, 1, 7, 0), (11, .ldc 105, 2, 8, 0), (13, .invokestatic 74, 3, 9, 0), (16, .ifCond .eq 18, 3, 10, 17), (19, .iload_n 3, 1, 11, 0), (20, .iconst 0, 1, 12, 0), (21, .sipush 359, 3, 13, 0), (24, .invokestatic 74, 3, 14, 0), (27, .ifCond .eq 7, 3, 15, 17), (30, .iconst 1, 1, 16, 0), (31, .goto 4, 3, 17, 18), (34, .iconst 0, 1, 18, 0), (35, .invokestatic 78, 3, 19, 0), (38, .iload_n 1, 1, 20, 0), (39, .ifCond .ne 8, 3, 21, 24), (42, .iload_n 2, 1, 22, 0), (43, .i2l, 1, 23, 0), (44, .goto 14, 3, 24, 31), (47, .aload_n 0, 1, 25, 0), (48, .getfield 30, 3, 26, 0), (51, .iload_n 1, 1, 27, 0), (52, .iload_n 2, 1, 28, 0), (53, .iload_n 3, 1, 29, 0), (54, .invokevirtual 322, 3, 30, 0), (57, .lneg, 1, 31, 0), (58, .lstore 4, 2, 32, 0), (60, .aload_n 0, 1, 33, 0), (61, .aload_n 0, 1, 34, 0), (62, .invokevirtual 309, 3, 35, 0), (65, .lload 4, 2, 36, 0), (67, .invokevirtual 325, 3, 37, 0), (70, .lreturn, 1, 38, 0)]
set_option maxRecDepth 100000 in
theorem okX7_whatIf : OkTab cX7_whatIf tX7_whatIf := ⟨by decide +kernel, by decide +kernel⟩
def tX7_neededIncome : List PT := [(0, .iload_n 1, 1, 1, 0), (1, .iconst 1, 1, 2, 0), (2, .ldc 105, 2, 3, 0), (4, .invokestatic 74, 3, 4, 0), (7, .invokestatic 78, 3, 5, 0), (10, .aload_n 0, 1, 6, 0), (11, .invokevirtual 309, 3, 7, 0), (14, .lstore_n 2, 1, 8, 0), (15, .aload_n 0, 1, 9, 0), (16, .ldc_w 328, 3, 10, 0), (19, .lload_n 2, 1, 11, 0), (20, .invokevirtual 329, 3, 12, 0), (23, .iload_n 1, 1, 13, 0), (24, .i2l, 1, 14, 0), (25, .lcmp, 1, 15, 0), (26, .ifCond .lt 7, 3, 16, 18), (29, .iconst 1, 1, 17, 0), (30, .goto 4, 3, 18, 19), (33, .iconst 0, 1, 19, 0), (34, .invokestatic 266, 3, 20, 0), (37, .iconst 0, 1, 21, 0), (38, .istore 4, 2, 22, 0), (40, .ldc_w 328, 3, 23, 0), (43, .istore 5, 2, 24, 0), (45, .iconst 0, 1, 25, 0), (46, .istore 6, 2, 26, 0), (48, .iload 6, 2, 27, 0), (50, .bipush 32, 2, 28, 0), (52, .if_icmp .ge 51, 3, 29, 55), (55, .iload 5, 2, 30, 0), (57, .iload 4, 2, 31, 0), (59, .isub, 1, 32, 0), (60, .iconst 1, 1, 33, 0), (61, .if_icmp .le 42, 3, 34, 55), (64, .iload 4, 2, 35, 0), (66, .iload 5, 2, 36, 0), (68, .iadd, 1, 37, 0), (69, .iconst 2, 1, 38, 0), (70, .idiv, 1, 39, 0), (71, .istore 7, 2, 40, 0), (73, .aload_n 0, 1, 41, 0), (74, .iload 7, 2, 42, 0), (76, .lload_n 2, 1, 43, 0), (77, .invokevirtual 329, 3, 44, 0), (80, .iload_n 1, 1, 45, 0), (81, .i2l, 1, 46, 0), (82, .lcmp, 1, 47, 0), (83, .ifCond .lt 10, 3, 48, 51), (86, .iload 7, 2, 49, 0), (88, .istore 5, 2, 50, 0), (90, .goto 7, 3, 51, 53), (93, .iload 7, 2, 52, 0), (95, .istore 4, 2, 53, 0), (97, .iinc 6 1, 3, 54, 0), (100, .goto (-52), 3, 55, 26), (103, .iload 5, 2, 56, 0), (105, .ireturn, 1, 57, 0)]
set_option maxRecDepth 100000 in
theorem okX7_neededIncome : OkTab cX7_neededIncome tX7_neededIncome := ⟨by decide +kernel, by decide +kernel⟩
def tX7_balance : List PT := [(0, .iload_n 1, 1, 1, 0), (1, .iconst 0, 1, 2, 0), (2, .sipush 359, 3, 3, 0), (5, .invokestatic 74, 3, 4, 0), (8, .invokestatic 78, 3, 5, 0), (11, .aload_n 0, 1, 6, 0), (12, .getfield 30, 3, 7, 0), (15, .aload_n 0, 1, 8, 0), (16, .getfield 44, 3, 9, 0), (19, .invokevirtual 332, 3, 10, 0), (22, .aload_n 0, 1, 11, 0), (23, .getfield 44, 3, 12, 0), (26, .iload_n 1, 1, 13, 0), (27, .laload, 1, 14, 0), (28, .lreturn, 1, 15, 0)]
set_option maxRecDepth 100000 in
theorem okX7_balance : OkTab cX7_balance tX7_balance := ⟨by decide +kernel, by decide +kernel⟩
def tX7_lowestDay : List PT := [(0, .aload_n 0, 1, 1, 0), (1, .getfield 30, 3, 2, 0), (4, .aload_n 0, 1, 3, 0), (5, .getfield 44, 3, 4, 0), (8, .invokevirtual 332, 3, 5, 0), (11, .iconst 0, 1, 6, 0), (12, .istore_n 1, 1, 7, 0), (13, .iconst 1, 1, 8, 0), (14, .istore_n 2, 1, 9, 0), (15, .iload_n 2, 1, 10, 0), (16, .sipush 360, 3, 11, 0), (19, .if_icmp .ge 27, 3, 12, 26), (22, .aload_n 0, 1, 13, 0), (23, .getfield 44, 3, 14, 0), (26, .iload_n 2, 1, 15, 0), (27, .laload, 1, 16, 0), (28, .aload_n 0, 1, 17, 0), (29, .getfield 44, 3, 18, 0), (32, .iload_n 1, 1, 19, 0), (33, .laload, 1, 20, 0), (34, .lcmp, 1, 21, 0), (35, .ifCond .ge 5, 3, 22, 24), (38, .iload_n 2, 1, 23, 0), (39, .istore_n 1, 1, 24, 0), (40, .iinc 2 1, 3, 25, 0), (43, .goto (-28), 3, 26, 9), (46, .iload_n 1, 1, 27, 0), (47, .ireturn, 1, 28, 0)]
set_option maxRecDepth 100000 in
theorem okX7_lowestDay : OkTab cX7_lowestDay tX7_lowestDay := ⟨by decide +kernel, by decide +kernel⟩
def tX7_daysBelow : List PT := [(0, .aload_n 0, 1, 1, 0), (1, .getfield 30, 3, 2, 0), (4, .aload_n 0, 1, 3, 0), (5, .getfield 44, 3, 4, 0), (8, .invokevirtual 332, 3, 5, 0), (11, .iconst 0, 1, 6, 0), (12, .istore_n 2, 1, 7, 0), (13, .iconst 0, 1, 8, 0), (14, .istore_n 3, 1, 9, 0), (15, .iload_n 3, 1, 10, 0), (16, .sipush 360, 3, 11, 0), (19, .if_icmp .ge 24, 3, 12, 23), (22, .aload_n 0, 1, 13, 0), (23, .getfield 44, 3, 14, 0), (26, .iload_n 3, 1, 15, 0), (27, .laload, 1, 16, 0), (28, .iload_n 1, 1, 17, 0), (29, .i2l, 1, 18, 0), (30, .lcmp, 1, 19, 0), (31, .ifCond .ge 6, 3, 20, 21), (34, .iinc 2 1, 3, 21, 0), (37, .iinc 3 1, 3, 22, 0), (40, .goto (-25), 3, 23, 9), (43, .iload_n 2, 1, 24, 0), (44, .ireturn, 1, 25, 0)]
set_option maxRecDepth 100000 in
theorem okX7_daysBelow : OkTab cX7_daysBelow tX7_daysBelow := ⟨by decide +kernel, by decide +kernel⟩
def tX7_bestMonth : List PT := [(0, .iconst 0, 1, 1, 0), (1, .istore_n 1, 1, 2, 0), (2, .aload_n 0, 1, 3, 0), (3, .getfield 30, 3, 4, 0), (6, .iconst 0, 1, 5, 0), (7, .invokevirtual 336, 3, 6, 0), (10, .lstore_n 2, 1, 7, 0), (11, .iconst 1, 1, 8, 0), (12, .istore 4, 2, 9, 0), (14, .iload 4, 2, 10, 0), (16, .bipush 12, 2, 11, 0), (18, .if_icmp .ge 33, 3, 12, 27), (21, .aload_n 0, 1, 13, 0), (22, .getfield 30, 3, 14, 0), (25, .iload 4, 2, 15, 0), (27, .invokevirtual 336, 3, 16, 0), (30, .lstore 5, 2, 17, 0), (32, .lload 5, 2, 18, 0), (34, .lload_n 2, 1, 19, 0), (35, .lcmp, 1, 20, 0), (36, .ifCond .le 9, 3, 21, 25), (39, .iload 4, 2, 22, 0), (41, .istore_n 1, 1, 23, 0), (42, .lload 5, 2, 24, 0), (44, .lstore_n 2, 1, 25, 0), (45, .iinc 4 1, 3, 26, 0), (48, .goto (-34), 3, 27, 9), (51, .iload_n 1, 1, 28, 0), (52, .ireturn, 1, 29, 0)]
set_option maxRecDepth 100000 in
theorem okX7_bestMonth : OkTab cX7_bestMonth tX7_bestMonth := ⟨by decide +kernel, by decide +kernel⟩
def tX7_requireArgument : List PT := [(0, .iload_n 0, 1, 1, 0), (1, .ifCond .ne 14, 3, 2, 7), (4, .new 228, 3, 3, 0), (7, .dup, 1, 4, 0), (8, .ldc_w 339, 3, 5, 0), (11, .invokespecial 232, 3, 6, 0), (14, .athrow, 1, 7, 0), (15, .return_, 1, 8, 0)]
set_option maxRecDepth 100000 in
theorem okX7_requireArgument : OkTab cX7_requireArgument tX7_requireArgument := ⟨by decide +kernel, by decide +kernel⟩
def tX7_requireState : List PT := [(0, .iload_n 0, 1, 1, 0), (1, .ifCond .ne 14, 3, 2, 7), (4, .new 341, 3, 3, 0), (7, .dup, 1, 4, 0), (8, .ldc_w 343, 3, 5, 0), (11, .invokespecial 345, 3, 6, 0), (14, .athrow, 1, 7, 0), (15, .return_, 1, 8, 0)]
set_option maxRecDepth 100000 in
theorem okX7_requireState : OkTab cX7_requireState tX7_requireState := ⟨by decide +kernel, by decide +kernel⟩
def tX7_requireElement : List PT := [(0, .iload_n 0, 1, 1, 0), (1, .ifCond .ne 14, 3, 2, 7), (4, .new 346, 3, 3, 0), (7, .dup, 1, 4, 0), (8, .ldc_w 348, 3, 5, 0), (11, .invokespecial 350, 3, 6, 0), (14, .athrow, 1, 7, 0), (15, .return_, 1, 8, 0)]
set_option maxRecDepth 100000 in
theorem okX7_requireElement : OkTab cX7_requireElement tX7_requireElement := ⟨by decide +kernel, by decide +kernel⟩
def tX7_requireIndex : List PT := [(0, .iload_n 0, 1, 1, 0), (1, .ifCond .lt 8, 3, 2, 5), (4, .iload_n 0, 1, 3, 0), (5, .iload_n 1, 1, 4, 0), (6, .if_icmp .lt 14, 3, 5, 10), (9, .new 351, 3, 6, 0), (12, .dup, 1, 7, 0), (13, .ldc_w 353, 3, 8, 0), (16, .invokespecial 355, 3, 9, 0), (19, .athrow, 1, 10, 0), (20, .return_, 1, 11, 0)]
set_option maxRecDepth 100000 in
theorem okX7_requireIndex : OkTab cX7_requireIndex tX7_requireIndex := ⟨by decide +kernel, by decide +kernel⟩
def tX7_requireQuarter : List PT := [(0, .iload_n 0, 1, 1, 0), (1, .iconst 0, 1, 2, 0), (2, .iconst 3, 1, 3, 0), (3, .invokestatic 74, 3, 4, 0), (6, .invokestatic 78, 3, 5, 0), (9, .return_, 1, 6, 0)]
set_option maxRecDepth 100000 in
theorem okX7_requireQuarter : OkTab cX7_requireQuarter tX7_requireQuarter := ⟨by decide +kernel, by decide +kernel⟩
def tX7_within : List PT := [(0, .iload_n 0, 1, 1, 0), (1, .iload_n 1, 1, 2, 0), (2, .if_icmp .lt 12, 3, 3, 8), (5, .iload_n 0, 1, 4, 0), (6, .iload_n 2, 1, 5, 0), (7, .if_icmp .gt 7, 3, 6, 8), (10, .iconst 1, 1, 7, 0), (11, .goto 4, 3, 8, 9), (14, .iconst 0, 1, 9, 0), (15, .ireturn, 1, 10, 0)]
set_option maxRecDepth 100000 in
theorem okX7_within : OkTab cX7_within tX7_within := ⟨by decide +kernel, by decide +kernel⟩
def tX7_isDayOrNone : List PT := [(0, .iload_n 0, 1, 1, 0), (1, .iconst (-1), 1, 2, 0), (2, .if_icmp .eq 14, 3, 3, 8), (5, .iload_n 0, 1, 4, 0), (6, .iconst 0, 1, 5, 0), (7, .sipush 359, 3, 6, 0), (10, .invokestatic 74, 3, 7, 0), (13, .ifCond .eq 7, 3, 8, 10), (16, .iconst 1, 1, 9, 0), (17, .goto 4, 3, 10, 11), (20, .iconst 0, 1, 11, 0), (21, .ireturn, 1, 12, 0)]
set_option maxRecDepth 100000 in
theorem okX7_isDayOrNone : OkTab cX7_isDayOrNone tX7_isDayOrNone := ⟨by decide +kernel, by decide +kernel⟩
def tX7_bytesIn : List PT := [(0, .iconst 0, 1, 1, 0), (1, .istore_n 1, 1, 2, 0), (2, .bipush 24, 2, 3, 0), (4, .istore_n 2, 1, 4, 0), (5, .iload_n 2, 1, 5, 0), (6, .ifCond .lt 22, 3, 6, 15), (9, .iload_n 0, 1, 7, 0), (10, .iload_n 2, 1, 8, 0), (11, .iushr, 1, 9, 0), (12, .sipush 255, 3, 10, 0), (15, .iand, 1, 11, 0), (16, .ifCond .eq 6, 3, 12, 13), (19, .iinc 1 1, 3, 13, 0), (22, .iinc 2 (-8), 3, 14, 0), (25, .goto (-20), 3, 15, 4), (28, .iload_n 1, 1, 16, 0), (29, .ireturn, 1, 17, 0)]
set_option maxRecDepth 100000 in
theorem okX7_bytesIn : OkTab cX7_bytesIn tX7_bytesIn := ⟨by decide +kernel, by decide +kernel⟩
def tX7_putBytes : List PT := [(0, .bipush 24, 2, 1, 0), (2, .istore_n 2, 1, 2, 0), (3, .iload_n 2, 1, 3, 0), (4, .ifCond .lt 51, 3, 4, 30), (7, .iload_n 1, 1, 5, 0), (8, .iload_n 2, 1, 6, 0), (9, .iushr, 1, 7, 0), (10, .sipush 255, 3, 8, 0), (13, .iand, 1, 9, 0), (14, .istore_n 3, 1, 10, 0), (15, .iload_n 3, 1, 11, 0), (16, .ifCond .eq 33, 3, 12, 28), (19, .aload_n 0, 1, 13, 0), (20, .getfield 62, 3, 14, 0), (23, .sipush 400, 3, 15, 0), (26, .if_icmp .ge 23, 3, 16, 28), (29, .aload_n 0, 1, 17, 0), (30, .getfield 9, 3, 18, 0), (33, .aload_n 0, 1, 19, 0), (34, .getfield 62, 3, 20, 0), (37, .iload_n 3, 1, 21, 0), (38, .iastore, 1, 22, 0), (39, .aload_n 0, 1, 23, 0), (40, .dup, 1, 24, 0), (41, .getfield 62, 3, 25, 0), (44, .iconst 1, 1, 26, 0), (45, .iadd, 1, 27, 0), (46, .putfield 62, 3, 28, 0), (49, .iinc 2 (-8), 3, 29, 0), (52, .goto (-49), 3, 30, 2), (55, .return_, 1, 31, 0)]
set_option maxRecDepth 100000 in
theorem okX7_putBytes : OkTab cX7_putBytes tX7_putBytes := ⟨by decide +kernel, by decide +kernel⟩
def tX7_commonDivisor : List PT := [(0, .iload_n 0, 1, 1, 0), (1, .istore_n 2, 1, 2, 0), (2, .iload_n 1, 1, 3, 0), (3, .istore_n 3, 1, 4, 0), (4, .iconst 0, 1, 5, 0), (5, .istore 4, 2, 6, 0), (7, .iload 4, 2, 7, 0), (9, .bipush 100, 2, 8, 0), (11, .if_icmp .ge 23, 3, 9, 21), (14, .iload_n 3, 1, 10, 0), (15, .ifCond .eq 19, 3, 11, 21), (18, .iload_n 2, 1, 12, 0), (19, .iload_n 3, 1, 13, 0), (20, .irem, 1, 14, 0), (21, .istore 5, 2, 15, 0), (23, .iload_n 3, 1, 16, 0), (24, .istore_n 2, 1, 17, 0), (25, .iload 5, 2, 18, 0), (27, .istore_n 3, 1, 19, 0), (28, .iinc 4 1, 3, 20, 0), (31, .goto (-24), 3, 21, 6), (34, .iload_n 2, 1, 22, 0), (35, .ireturn, 1, 23, 0)]
set_option maxRecDepth 100000 in
theorem okX7_commonDivisor : OkTab cX7_commonDivisor tX7_commonDivisor := ⟨by decide +kernel, by decide +kernel⟩
def tX7_yearProfit : List PT := [(0, .aload_n 0, 1, 1, 0), (1, .getfield 30, 3, 2, 0), (4, .iconst 3, 1, 3, 0), (5, .invokevirtual 180, 3, 4, 0), (8, .lreturn, 1, 5, 0)]
set_option maxRecDepth 100000 in
theorem okX7_yearProfit : OkTab cX7_yearProfit tX7_yearProfit := ⟨by decide +kernel, by decide +kernel⟩
def tX7_targetAt : List PT := [(0, .lload_n 2, 1, 1, 0), (1, .lconst 0, 1, 2, 0), (2, .lcmp, 1, 3, 0), (3, .ifCond .lt 7, 3, 4, 6), (6, .iload_n 1, 1, 5, 0), (7, .ifCond .ge 5, 3, 6, 8), (10, .lconst 0, 1, 7, 0), (11, .lreturn, 1, 8, 0), (12, .lload_n 2, 1, 9, 0), (13, .ldc2_w 356, 3, 10, 0), (16, .lmul, 1, 11, 0), (17, .iload_n 1, 1, 12, 0), (18, .iconst 1, 1, 13, 0), (19, .iadd, 1, 14, 0), (20, .i2l, 1, 15, 0), (21, .ldiv, 1, 16, 0), (22, .lstore 4, 2, 17, 0), (24, .aload_n 0, 1, 18, 0), (25, .getfield 23, 3, 19, 0), (28, .lload 4, 2, 20, 0), (30, .invokevirtual 302, 3, 21, 0), (33, .iload_n 1, 1, 22, 0), (34, .iconst 1, 1, 23, 0), (35, .iadd, 1, 24, 0), (36, .i2l, 1, 25, 0), (37, .lmul, 1, 26, 0), (38, .ldc2_w 356, 3, 27, 0), (41, .ldiv, 1, 28, 0), (42, .lreturn, 1, 29, 0)]
set_option maxRecDepth 100000 in
theorem okX7_targetAt : OkTab cX7_targetAt tX7_targetAt := ⟨by decide +kernel, by decide +kernel⟩
def tX7_prepaymentNow : List PT := [(0, .lconst 0, 1, 1, 0), (1, .lstore_n 2, 1, 2, 0), (2, .lconst 0, 1, 3, 0), (3, .lstore 4, 2, 4, 0), (5, .iconst 0, 1, 5, 0), (6, .istore 6, 2, 6, 0), (8, .iload 6, 2, 7, 0), (10, .iload_n 1, 1, 8, 0), (11, .if_icmp .gt 37, 3, 9, 27), (14, .lconst 0, 1, 10, 0), (15, .aload_n 0, 1, 11, 0), (16, .iload 6, 2, 12, 0), (18, .aload_n 0, 1, 13, 0), (19, .getfield 30, 3, 14, 0), (22, .iload 6, 2, 15, 0), (24, .invokevirtual 180, 3, 16, 0), (27, .invokevirtual 184, 3, 17, 0), (30, .lload_n 2, 1, 18, 0), (31, .lsub, 1, 19, 0), (32, .invokestatic 192, 3, 20, 0), (35, .lstore 4, 2, 21, 0), (37, .lload_n 2, 1, 22, 0), (38, .lload 4, 2, 23, 0), (40, .ladd, 1, 24, 0), (41, .lstore_n 2, 1, 25, 0), (42, .iinc 6 1, 3, 26, 0), (45, .goto (-37), 3, 27, 6), (48, .lload 4, 2, 28, 0), (50, .l2i, 1, 29, 0), (51, .ireturn, 1, 30, 0)]
set_option maxRecDepth 100000 in
theorem okX7_prepaymentNow : OkTab cX7_prepaymentNow tX7_prepaymentNow := ⟨by decide +kernel, by decide +kernel⟩
def tX7_additionalTax : List PT := [(0, .aload_n 0, 1, 1, 0), (1, .getfield 23, 3, 2, 0), (4, .lload_n 1, 1, 3, 0), (5, .lload_n 3, 1, 4, 0), (6, .ladd, 1, 5, 0), (7, .invokevirtual 302, 3, 6, 0), (10, .aload_n 0, 1, 7, 0), (11, .getfield 23, 3, 8, 0), (14, .lload_n 1, 1, 9, 0), (15, .invokevirtual 302, 3, 10, 0), (18, .lsub, 1, 11, 0), (19, .lreturn, 1, 12, 0)]
set_option maxRecDepth 100000 in
theorem okX7_additionalTax : OkTab cX7_additionalTax tX7_additionalTax := ⟨by decide +kernel, by decide +kernel⟩
def tX7_leftOf : List PT := [(0, .iload_n 1, 1, 1, 0), (1, .i2l, 1, 2, 0), (2, .aload_n 0, 1, 3, 0), (3, .lload_n 2, 1, 4, 0), (4, .iload_n 1, 1, 5, 0), (5, .i2l, 1, 6, 0), (6, .invokevirtual 325, 3, 7, 0), (9, .lsub, 1, 8, 0), (10, .lreturn, 1, 9, 0)]
set_option maxRecDepth 100000 in
theorem okX7_leftOf : OkTab cX7_leftOf tX7_leftOf := ⟨by decide +kernel, by decide +kernel⟩
end
section
/-! 07: the code of the reference -/
def tX8_init : List PT := [(0, .aload_n 0, 1, 1, 0), (1, .invokespecial 3, 3, 2, 0), (4, .aload_n 0, 1, 3, 0), (5, .sipush 400, 3, 4, 0), (8, .newarray .int, 2, 5, 0), (10, .putfield 9, 3, 6, 0), (13, .aload_n 0, 1, 7, 0), (14, .sipush 522, 3, 8, 0), (17, .newarray .int, 2, 9, 0), (19, .putfield 13, 3, 10, 0), (22, .aload_n 0, 1, 11, 0), (23, .sipush 522, 3, 12, 0), (26, .newarray .int, 2, 13, 0), (28, .putfield 16, 3, 14, 0), (31, .aload_n 0, 1, 15, 0), (32, .sipush 522, 3, 16, 0), (35, .newarray .int, 2, 17, 0), (37, .putfield 19, 3, 18, 0), (40, .aload_n 0, 1, 19, 0), (41, .sipush 4176, 3, 20, 0), (44, .newarray .int, 2, 21, 0), (46, .putfield 22, 3, 22, 0), (49, .aload_n 0, 1, 23, 0), (50, .sipush 360, 3, 24, 0), (53, .newarray .long, 2, 25, 0), (55, .putfield 25, 3, 26, 0), (58, .aload_n 0, 1, 27, 0), (59, .invokevirtual 29, 3, 28, 0), (62, .aload_n 0, 1, 29, 0), (63, .ldc 32, 2, 30, 0), (65, .iconst 0, 1, 31, 0), (66, .invokevirtual 33, 3, 32, 0), (69, .aload_n 0, 1, 33, 0), (70, .ldc 37, 2, 34, 0), (72, .sipush 250, 3, 35, 0), (75, .invokevirtual 33, 3, 36, 0), (78, .aload_n 0, 1, 37, 0), (79, .invokevirtual 38, 3, 38, 0), (82, .return_, 1, 39, 0)]
set_option maxRecDepth 100000 in
theorem okX8_init : OkTab cX8_init tX8_init := ⟨by decide +kernel, by decide +kernel⟩
def tX8_thrown : List PT := [(0, .aload_n 0, 1, 1, 0), (1, .getfield 41, 3, 2, 0), (4, .ireturn, 1, 3, 0)]
set_option maxRecDepth 100000 in
theorem okX8_thrown : OkTab cX8_thrown tX8_thrown := ⟨by decide +kernel, by decide +kernel⟩
def tX8_in : List PT := [(0, .lload_n 0, 1, 1, 0), (1, .lload_n 2, 1, 2, 0), (2, .lcmp, 1, 3, 0), (3, .ifCond .lt 14, 3, 4, 10), (6, .lload_n 0, 1, 5, 0), (7, .lload 4, 2, 6, 0), (9, .lcmp, 1, 7, 0), (10, .ifCond .gt 7, 3, 8, 10), (13, .iconst 1, 1, 9, 0), (14, .goto 4, 3, 10, 11), (17, .iconst 0, 1, 11, 0), (18, .ireturn, 1, 12, 0)]
set_option maxRecDepth 100000 in
theorem okX8_in : OkTab cX8_in tX8_in := ⟨by decide +kernel, by decide +kernel⟩
def tX8_fails : List PT := [(0, .iload_n 1, 1, 1, 0), (1, .ifCond .ne 8, 3, 2, 5), (4, .aload_n 0, 1, 3, 0), (5, .iload_n 2, 1, 4, 0), (6, .putfield 41, 3, 5, 0), (9, .iload_n 1, 1, 6, 0), (10, .ifCond .ne 7, 3, 7, 9), (13, .iconst 1, 1, 8, 0), (14, .goto 4, 3, 9, 10), (17, .iconst 0, 1, 10, 0), (18, .ireturn, 1, 11, 0)]
set_option maxRecDepth 100000 in
theorem okX8_fails : OkTab cX8_fails tX8_fails := ⟨by decide +kernel, by decide +kernel⟩
def tX8_byteOf : List PT := [(0, .iload 5, 2, 1, 0), (2, .iconst 4, 1, 2, 0), (3, .if_icmp .ge 7, 3, 3, 5), (6, .iload_n 0, 1, 4, 0), (7, .goto 38, 3, 5, 21), (10, .iload 5, 2, 6, 0), (12, .bipush 8, 2, 7, 0), (14, .if_icmp .ge 7, 3, 8, 10), (17, .iload_n 1, 1, 9, 0), (18, .goto 27, 3, 10, 21), (21, .iload 5, 2, 11, 0), (23, .bipush 12, 2, 12, 0), (25, .if_icmp .ge 7, 3, 13, 15), (28, .iload_n 2, 1, 14, 0), (29, .goto 16, 3, 15, 21), (32, .iload 5, 2, 16, 0), (34, .bipush 16, 2, 17, 0), (36, .if_icmp .ge 7, 3, 18, 20), (39, .iload_n 3, 1, 19, 0), (40, .goto 5, 3, 20, 21), (43, .iload 4, 2, 21, 0), (45, .istore 6, 2, 22, 0), (47, .iload 6, 2, 23, 0), (49, .bipush 24, 2, 24, 0), (51, .bipush 8, 2, 25, 0), (53, .iload 5, 2, 26, 0), (55, .iconst 4, 1, 27, 0), (56, .irem, 1, 28, 0), (57, .imul, 1, 29, 0), (58, .isub, 1, 30, 0), (59, .ishr, 1, 31, 0), (60, .sipush 255, 3, 32, 0), (63, .iand, 1, 33, 0), (64, .ireturn, 1, 34, 0)]
set_option maxRecDepth 100000 in
theorem okX8_byteOf : OkTab cX8_byteOf tX8_byteOf := ⟨by decide +kernel, by decide +kernel⟩
def tX8_append : List PT := [(0, .aload_n 0, 1, 1, 0), (1, .iconst 0, 1, 2, 0), (2, .putfield 41, 3, 3, 0), (5, .iconst 0, 1, 4, 0), (6, .istore 6, 2, 5, 0), (8, .iconst 0, 1, 6, 0), (9, .istore 7, 2, 7, 0), (11, .iload 7, 2, 8, 0), (13, .bipush 20, 2, 9, 0), (15, .if_icmp .ge 34, 3, 10, 26), (18, .iload 6, 2, 11, 0), (20, .iload_n 1, 1, 12, 0), (21, .iload_n 2, 1, 13, 0), (22, .iload_n 3, 1, 14, 0), (23, .iload 4, 2, 15, 0), (25, .iload 5, 2, 16, 0), (27, .iload 7, 2, 17, 0), (29, .invokestatic 45, 3, 18, 0), (32, .ifCond .eq 7, 3, 19, 21), (35, .iconst 1, 1, 20, 0), (36, .goto 4, 3, 21, 22), (39, .iconst 0, 1, 22, 0), (40, .iadd, 1, 23, 0), (41, .istore 6, 2, 24, 0), (43, .iinc 7 1, 3, 25, 0), (46, .goto (-35), 3, 26, 7), (49, .aload_n 0, 1, 27, 0), (50, .aload_n 0, 1, 28, 0), (51, .getfield 49, 3, 29, 0), (54, .iload 6, 2, 30, 0), (56, .iadd, 1, 31, 0), (57, .sipush 400, 3, 32, 0), (60, .if_icmp .gt 7, 3, 33, 35), (63, .iconst 1, 1, 34, 0), (64, .goto 4, 3, 35, 36), (67, .iconst 0, 1, 36, 0), (68, .iconst 1, 1, 37, 0), (69, .invokevirtual 52, 3, 38, 0), (72, .ifCond .eq 5, 3, 39, 41), (75, .iconst 0, 1, 40, 0), (76, .ireturn, 1, 41, 0), (77, .iconst 0, 1, 42, 0), (78, .istore 7, 2, 43, 0), (80, .iload 7, 2, 44, 0), (82, .bipush 20, 2, 45, 0), (84, .if_icmp .ge 49, 3, 46, 70), (87, .iload_n 1, 1, 47, 0), (88, .iload_n 2, 1, 48, 0), (89, .iload_n 3, 1, 49, 0), (90, .iload 4, 2, 50, 0), (92, .iload 5, 2, 51, 0), (94, .iload 7, 2, 52, 0), (96, .invokestatic 45, 3, 53, 0), (99, .istore 8, 2, 54, 0), (101, .iload 8, 2, 55, 0), (103, .ifCond .eq 24, 3, 56, 68), (106, .aload_n 0, 1, 57, 0), (107, .getfield 9, 3, 58, 0), (110, .aload_n 0, 1, 59, 0), (111, .getfield 49, 3, 60, 0), (114, .iload 8, 2, 61, 0), (116, .iastore, 1, 62, 0), (117, .aload_n 0, 1, 63, 0), (118, .dup, 1, 64, 0), (119, .getfield 49, 3, 65, 0), (122, .iconst 1, 1, 66, 0), (123, .iadd, 1, 67, 0), (124, .putfield 49, 3, 68, 0), (127, .iinc 7 1, 3, 69, 0), (130, .goto (-50), 3, 70, 43), (133, .aload_n 0, 1, 71, 0), (134, .getfield 49, 3, 72, 0), (137, .ireturn, 1, 73, 0)]
set_option maxRecDepth 100000 in
theorem okX8_append : OkTab cX8_append tX8_append := ⟨by decide +kernel, by decide +kernel⟩
def tX8_truncate : List PT := [(0, .aload_n 0, 1, 1, 0), (1, .iconst 0, 1, 2, 0), (2, .putfield 41, 3, 3, 0), (5, .aload_n 0, 1, 4, 0), (6, .iload_n 1, 1, 5, 0), (7, .i2l, 1, 6, 0), (8, .lconst 0, 1, 7, 0), (9, .aload_n 0, 1, 8, 0), (10, .getfield 49, 3, 9, 0), (13, .i2l, 1, 10, 0), (14, .invokestatic 56, 3, 11, 0), (17, .iconst 1, 1, 12, 0), (18, .invokevirtual 52, 3, 13, 0), (21, .ifCond .eq 5, 3, 14, 16), (24, .iconst 0, 1, 15, 0), (25, .ireturn, 1, 16, 0), (26, .aload_n 0, 1, 17, 0), (27, .iload_n 1, 1, 18, 0), (28, .putfield 49, 3, 19, 0), (31, .iload_n 1, 1, 20, 0), (32, .ireturn, 1, 21, 0)]
set_option maxRecDepth 100000 in
theorem okX8_truncate : OkTab cX8_truncate tX8_truncate := ⟨by decide +kernel, by decide +kernel⟩
def tX8_peek : List PT := [(0, .iload_n 1, 1, 1, 0), (1, .aload_n 0, 1, 2, 0), (2, .getfield 49, 3, 3, 0), (5, .if_icmp .ge 12, 3, 4, 9), (8, .aload_n 0, 1, 5, 0), (9, .getfield 9, 3, 6, 0), (12, .iload_n 1, 1, 7, 0), (13, .iaload, 1, 8, 0), (14, .goto 4, 3, 9, 10), (17, .iconst (-1), 1, 10, 0), (18, .ireturn, 1, 11, 0)]
set_option maxRecDepth 100000 in
theorem okX8_peek : OkTab cX8_peek tX8_peek := ⟨by decide +kernel, by decide +kernel⟩
def tX8_isLetter : List PT := [(0, .iload_n 0, 1, 1, 0), (1, .bipush 97, 2, 2, 0), (3, .if_icmp .lt 13, 3, 3, 8), (6, .iload_n 0, 1, 4, 0), (7, .bipush 122, 2, 5, 0), (9, .if_icmp .gt 7, 3, 6, 8), (12, .iconst 1, 1, 7, 0), (13, .goto 4, 3, 8, 9), (16, .iconst 0, 1, 9, 0), (17, .ireturn, 1, 10, 0)]
set_option maxRecDepth 100000 in
theorem okX8_isLetter : OkTab cX8_isLetter tX8_isLetter := ⟨by decide +kernel, by decide +kernel⟩
def tX8_isDigit : List PT := [(0, .iload_n 0, 1, 1, 0), (1, .bipush 48, 2, 2, 0), (3, .if_icmp .lt 13, 3, 3, 8), (6, .iload_n 0, 1, 4, 0), (7, .bipush 57, 2, 5, 0), (9, .if_icmp .gt 7, 3, 6, 8), (12, .iconst 1, 1, 7, 0), (13, .goto 4, 3, 8, 9), (16, .iconst 0, 1, 9, 0), (17, .ireturn, 1, 10, 0)]
set_option maxRecDepth 100000 in
theorem okX8_isDigit : OkTab cX8_isDigit tX8_isDigit := ⟨by decide +kernel, by decide +kernel⟩
def tX8_step : List PT := [(0, .aload_n 0, 1, 1, 0), (1, .aload_n 0, 1, 2, 0), (2, .getfield 60, 3, 3, 0), (5, .invokevirtual 63, 3, 4, 0), (8, .bipush 32, 2, 5, 0), (10, .if_icmp .ne 16, 3, 6, 13), (13, .aload_n 0, 1, 7, 0), (14, .dup, 1, 8, 0), (15, .getfield 60, 3, 9, 0), (18, .iconst 1, 1, 10, 0), (19, .iadd, 1, 11, 0), (20, .putfield 60, 3, 12, 0), (23, .goto (-23), 3, 13, 0), (26, .aload_n 0, 1, 14, 0), (27, .aload_n 0, 1, 15, 0), (28, .getfield 60, 3, 16, 0), (31, .putfield 67, 3, 17, 0), (34, .aload_n 0, 1, 18, 0), (35, .aload_n 0, 1, 19, 0), (36, .getfield 60, 3, 20, 0), (39, .invokevirtual 63, 3, 21, 0), (42, .istore_n 1, 1, 22, 0), (43, .aload_n 0, 1, 23, 0), (44, .iload_n 1, 1, 24, 0), (45, .ifCond .ge 7, 3, 25, 27), (48, .iconst 0, 1, 26, 0), (49, .goto 26, 3, 27, 38), (52, .iload_n 1, 1, 28, 0), (53, .invokestatic 70, 3, 29, 0), (56, .ifCond .eq 7, 3, 30, 32), (59, .iconst 1, 1, 31, 0), (60, .goto 15, 3, 32, 38), (63, .iload_n 1, 1, 33, 0), (64, .invokestatic 74, 3, 34, 0), (67, .ifCond .eq 7, 3, 35, 37), (70, .iconst 2, 1, 36, 0), (71, .goto 4, 3, 37, 38), (74, .iconst 3, 1, 38, 0), (75, .putfield 77, 3, 39, 0), (78, .aload_n 0, 1, 40, 0), (79, .lconst 0, 1, 41, 0), (80, .putfield 80, 3, 42, 0), (83, .aload_n 0, 1, 43, 0), (84, .getfield 77, 3, 44, 0), (87, .iconst 3, 1, 45, 0), (88, .if_icmp .ne 13, 3, 46, 52), (91, .aload_n 0, 1, 47, 0), (92, .dup, 1, 48, 0), (93, .getfield 60, 3, 49, 0), (96, .iconst 1, 1, 50, 0), (97, .iadd, 1, 51, 0), (98, .putfield 60, 3, 52, 0), (101, .aload_n 0, 1, 53, 0), (102, .getfield 77, 3, 54, 0), (105, .iconst 1, 1, 55, 0), (106, .if_icmp .ne 30, 3, 56, 69), (109, .aload_n 0, 1, 57, 0), (110, .aload_n 0, 1, 58, 0), (111, .getfield 60, 3, 59, 0), (114, .invokevirtual 63, 3, 60, 0), (117, .invokestatic 70, 3, 61, 0), (120, .ifCond .eq 16, 3, 62, 69), (123, .aload_n 0, 1, 63, 0), (124, .dup, 1, 64, 0), (125, .getfield 60, 3, 65, 0), (128, .iconst 1, 1, 66, 0), (129, .iadd, 1, 67, 0), (130, .putfield 60, 3, 68, 0), (133, .goto (-32), 3, 69, 52), (136, .aload_n 0, 1, 70, 0), (137, .getfield 77, 3, 71, 0), (140, .iconst 2, 1, 72, 0), (141, .if_icmp .ne 62, 3, 73, 102), (144, .aload_n 0, 1, 74, 0), (145, .aload_n 0, 1, 75, 0), (146, .getfield 60, 3, 76, 0), (149, .invokevirtual 63, 3, 77, 0), (152, .invokestatic 74, 3, 78, 0), (155, .ifCond .eq 48, 3, 79, 102), (158, .aload_n 0, 1, 80, 0), (159, .ldc2_w 84, 3, 81, 0), (162, .ldc2_w 86, 3, 82, 0), (165, .aload_n 0, 1, 83, 0), (166, .getfield 80, 3, 84, 0), (169, .lmul, 1, 85, 0), (170, .aload_n 0, 1, 86, 0), (171, .aload_n 0, 1, 87, 0), (172, .getfield 60, 3, 88, 0), (175, .invokevirtual 63, 3, 89, 0), (178, .i2l, 1, 90, 0), (179, .ladd, 1, 91, 0), (180, .ldc2_w 88, 3, 92, 0), (183, .lsub, 1, 93, 0), (184, .invokestatic 90, 3, 94, 0), (187, .putfield 80, 3, 95, 0), (190, .aload_n 0, 1, 96, 0), (191, .dup, 1, 97, 0), (192, .getfield 60, 3, 98, 0), (195, .iconst 1, 1, 99, 0), (196, .iadd, 1, 100, 0), (197, .putfield 60, 3, 101, 0), (200, .goto (-64), 3, 102, 69), (203, .return_, 1, 103, 0)]
set_option maxRecDepth 100000 in
theorem okX8_step : OkTab cX8_step tX8_step := ⟨by decide +kernel, by decide +kernel⟩
def tX8_fail : List PT := [(0, .aload_n 0, 1, 1, 0), (1, .aload_n 0, 1, 2, 0), (2, .getfield 96, 3, 3, 0), (5, .ifCond .ge 10, 3, 4, 7), (8, .aload_n 0, 1, 5, 0), (9, .getfield 67, 3, 6, 0), (12, .goto 7, 3, 7, 9), (15, .aload_n 0, 1, 8, 0), (16, .getfield 96, 3, 9, 0), (19, .putfield 96, 3, 10, 0), (22, .return_, 1, 11, 0)]
set_option maxRecDepth 100000 in
theorem okX8_fail : OkTab cX8_fail tX8_fail := ⟨by decide +kernel, by decide +kernel⟩
def tX8_isGood : List PT := [(0, .aload_n 0, 1, 1, 0), (1, .getfield 96, 3, 2, 0), (4, .ifCond .ge 7, 3, 3, 5), (7, .iconst 1, 1, 4, 0), (8, .goto 4, 3, 5, 6), (11, .iconst 0, 1, 6, 0), (12, .ireturn, 1, 7, 0)]
set_option maxRecDepth 100000 in
theorem okX8_isGood : OkTab cX8_isGood tX8_isGood := ⟨by decide +kernel, by decide +kernel⟩
def tX8_isWord : List PT := [(0, .aload_n 0, 1, 1, 0), (1, .invokevirtual 99, 3, 2, 0), (4, .ifCond .eq 31, 3, 3, 17), (7, .aload_n 0, 1, 4, 0), (8, .getfield 77, 3, 5, 0), (11, .iconst 1, 1, 6, 0), (12, .if_icmp .ne 23, 3, 7, 17), (15, .aload_n 0, 1, 8, 0), (16, .getfield 60, 3, 9, 0), (19, .aload_n 0, 1, 10, 0), (20, .getfield 67, 3, 11, 0), (23, .isub, 1, 12, 0), (24, .aload_n 1, 1, 13, 0), (25, .invokevirtual 103, 3, 14, 0), (28, .if_icmp .ne 7, 3, 15, 17), (31, .iconst 1, 1, 16, 0), (32, .goto 4, 3, 17, 18), (35, .iconst 0, 1, 18, 0), (36, .istore_n 2, 1, 19, 0), (37, .iconst 0, 1, 20, 0), (38, .istore_n 3, 1, 21, 0), (39, .iload_n 2, 1, 22, 0), (40, .ifCond .eq 42, 3, 23, 44), (43, .iload_n 3, 1, 24, 0), (44, .aload_n 1, 1, 25, 0), (45, .invokevirtual 103, 3, 26, 0), (48, .if_icmp .ge 34, 3, 27, 44), (51, .aload_n 0, 1, 28, 0), (52, .getfield 9, 3, 29, 0), (55, .aload_n 0, 1, 30, 0), (56, .getfield 67, 3, 31, 0), (59, .iload_n 3, 1, 32, 0), (60, .iadd, 1, 33, 0), (61, .iaload, 1, 34, 0), (62, .aload_n 1, 1, 35, 0), (63, .iload_n 3, 1, 36, 0), (64, .invokevirtual 108, 3, 37, 0), (67, .if_icmp .ne 7, 3, 38, 40), (70, .iconst 1, 1, 39, 0), (71, .goto 4, 3, 40, 41), (74, .iconst 0, 1, 41, 0), (75, .istore_n 2, 1, 42, 0), (76, .iinc 3 1, 3, 43, 0), (79, .goto (-40), 3, 44, 21), (82, .iload_n 2, 1, 45, 0), (83, .ireturn, 1, 46, 0)]
set_option maxRecDepth 100000 in
theorem okX8_isWord : OkTab cX8_isWord tX8_isWord := ⟨by decide +kernel, by decide +kernel⟩
def tX8_takeNumber : List PT := [(0, .aload_n 0, 1, 1, 0), (1, .invokevirtual 99, 3, 2, 0), (4, .ifCond .eq 39, 3, 3, 22), (7, .aload_n 0, 1, 4, 0), (8, .getfield 77, 3, 5, 0), (11, .iconst 2, 1, 6, 0), (12, .if_icmp .ne 31, 3, 7, 22), (15, .aload_n 0, 1, 8, 0), (16, .getfield 60, 3, 9, 0), (19, .aload_n 0, 1, 10, 0), (20, .getfield 67, 3, 11, 0), (23, .isub, 1, 12, 0), (24, .bipush 8, 2, 13, 0), (26, .if_icmp .gt 17, 3, 14, 22), (29, .aload_n 0, 1, 15, 0), (30, .getfield 80, 3, 16, 0), (33, .iload_n 1, 1, 17, 0), (34, .i2l, 1, 18, 0), (35, .iload_n 2, 1, 19, 0), (36, .i2l, 1, 20, 0), (37, .invokestatic 56, 3, 21, 0), (40, .ifCond .ne 9, 3, 22, 26), (43, .aload_n 0, 1, 23, 0), (44, .invokevirtual 112, 3, 24, 0), (47, .iload_n 1, 1, 25, 0), (48, .ireturn, 1, 26, 0), (49, .aload_n 0, 1, 27, 0), (50, .getfield 80, 3, 28, 0), (53, .l2i, 1, 29, 0), (54, .istore_n 3, 1, 30, 0), (55, .aload_n 0, 1, 31, 0), (56, .invokevirtual 115, 3, 32, 0), (59, .iload_n 3, 1, 33, 0), (60, .ireturn, 1, 34, 0)]
set_option maxRecDepth 100000 in
theorem okX8_takeNumber : OkTab cX8_takeNumber tX8_takeNumber := ⟨by decide +kernel, by decide +kernel⟩
def tX8_begin : List PT := [(0, .iconst 0, 1, 1, 0), (1, .istore_n 1, 1, 2, 0), (2, .iload_n 1, 1, 3, 0), (3, .sipush 522, 3, 4, 0), (6, .if_icmp .ge 16, 3, 5, 12), (9, .aload_n 0, 1, 6, 0), (10, .getfield 13, 3, 7, 0), (13, .iload_n 1, 1, 8, 0), (14, .iconst 0, 1, 9, 0), (15, .iastore, 1, 10, 0), (16, .iinc 1 1, 3, 11, 0), (19, .goto (-17), 3, 12, 2), (22, .aload_n 0, 1, 13, 0), (23, .getfield 13, 3, 14, 0), (26, .iconst 1, 1, 15, 0), (27, .ldc 118, 2, 16, 0), (29, .iastore, 1, 17, 0), (30, .aload_n 0, 1, 18, 0), (31, .getfield 13, 3, 19, 0), (34, .iconst 2, 1, 20, 0), (35, .ldc 119, 2, 21, 0), (37, .iastore, 1, 22, 0), (38, .aload_n 0, 1, 23, 0), (39, .getfield 13, 3, 24, 0), (42, .iconst 3, 1, 25, 0), (43, .iconst 5, 1, 26, 0), (44, .iastore, 1, 27, 0), (45, .aload_n 0, 1, 28, 0), (46, .getfield 13, 3, 29, 0), (49, .iconst 4, 1, 30, 0), (50, .sipush 420, 3, 31, 0), (53, .iastore, 1, 32, 0), (54, .aload_n 0, 1, 33, 0), (55, .iconst 0, 1, 34, 0), (56, .putfield 120, 3, 35, 0), (59, .return_, 1, 36, 0)]
set_option maxRecDepth 100000 in
theorem okX8_begin : OkTab cX8_begin tX8_begin := ⟨by decide +kernel, by decide +kernel⟩
def tX8_readBracket : List PT := [(0, .bipush 6, 2, 1, 0), (2, .iconst 2, 1, 2, 0), (3, .aload_n 0, 1, 3, 0), (4, .getfield 13, 3, 4, 0), (7, .iconst 5, 1, 5, 0), (8, .iaload, 1, 6, 0), (9, .imul, 1, 7, 0), (10, .iadd, 1, 8, 0), (11, .istore_n 3, 1, 9, 0), (12, .aload_n 0, 1, 10, 0), (13, .getfield 13, 3, 11, 0), (16, .iload_n 3, 1, 12, 0), (17, .iload_n 1, 1, 13, 0), (18, .iastore, 1, 14, 0), (19, .aload_n 0, 1, 15, 0), (20, .getfield 13, 3, 16, 0), (23, .iload_n 3, 1, 17, 0), (24, .iconst 1, 1, 18, 0), (25, .iadd, 1, 19, 0), (26, .iload_n 2, 1, 20, 0), (27, .iastore, 1, 21, 0), (28, .aload_n 0, 1, 22, 0), (29, .getfield 13, 3, 23, 0), (32, .iconst 5, 1, 24, 0), (33, .dup2, 1, 25, 0), (34, .iaload, 1, 26, 0), (35, .iconst 1, 1, 27, 0), (36, .iadd, 1, 28, 0), (37, .iastore, 1, 29, 0), (38, .return_, 1, 30, 0)]
set_option maxRecDepth 100000 in
theorem okX8_readBracket : OkTab cX8_readBracket tX8_readBracket := ⟨by decide +kernel, by decide +kernel⟩
def tX8_bracketStatement : List PT := [(0, .aload_n 0, 1, 1, 0), (1, .getfield 13, 3, 2, 0), (4, .iconst 5, 1, 3, 0), (5, .iaload, 1, 4, 0), (6, .istore_n 1, 1, 5, 0), (7, .iload_n 1, 1, 6, 0), (8, .iconst 5, 1, 7, 0), (9, .if_icmp .ne 8, 3, 8, 11), (12, .aload_n 0, 1, 9, 0), (13, .invokevirtual 112, 3, 10, 0), (16, .return_, 1, 11, 0), (17, .aload_n 0, 1, 12, 0), (18, .invokevirtual 115, 3, 13, 0), (21, .iload_n 1, 1, 14, 0), (22, .ifCond .ne 7, 3, 15, 17), (25, .iconst 1, 1, 16, 0), (26, .goto 18, 3, 17, 29), (29, .aload_n 0, 1, 18, 0), (30, .getfield 13, 3, 19, 0), (33, .bipush 6, 2, 20, 0), (35, .iconst 2, 1, 21, 0), (36, .iload_n 1, 1, 22, 0), (37, .imul, 1, 23, 0), (38, .iadd, 1, 24, 0), (39, .iconst 2, 1, 25, 0), (40, .isub, 1, 26, 0), (41, .iaload, 1, 27, 0), (42, .iconst 1, 1, 28, 0), (43, .iadd, 1, 29, 0), (44, .istore_n 2, 1, 30, 0), (45, .aload_n 0, 1, 31, 0), (46, .iload_n 2, 1, 32, 0), (47, .ldc 123, 2, 33, 0), (49, .invokevirtual 124, 3, 34, 0), (52, .istore_n 3, 1, 35, 0), (53, .aload_n 0, 1, 36, 0), (54, .iload_n 3, 1, 37, 0), (55, .aload_n 0, 1, 38, 0), (56, .iconst 0, 1, 39, 0), (57, .sipush 900, 3, 40, 0), (60, .invokevirtual 124, 3, 41, 0), (63, .invokevirtual 33, 3, 42, 0), (66, .return_, 1, 43, 0)]
set_option maxRecDepth 100000 in
theorem okX8_bracketStatement : OkTab cX8_bracketStatement tX8_bracketStatement := ⟨by decide +kernel, by decide +kernel⟩
def tX8_roomStatement : List PT := [(0, .aload_n 0, 1, 1, 0), (1, .getfield 13, 3, 2, 0), (4, .bipush 16, 2, 3, 0), (6, .iaload, 1, 4, 0), (7, .bipush 6, 2, 5, 0), (9, .if_icmp .ne 8, 3, 6, 9), (12, .aload_n 0, 1, 7, 0), (13, .invokevirtual 112, 3, 8, 0), (16, .return_, 1, 9, 0), (17, .aload_n 0, 1, 10, 0), (18, .invokevirtual 115, 3, 11, 0), (21, .bipush 17, 2, 12, 0), (23, .iconst 3, 1, 13, 0), (24, .aload_n 0, 1, 14, 0), (25, .getfield 13, 3, 15, 0), (28, .bipush 16, 2, 16, 0), (30, .iaload, 1, 17, 0), (31, .imul, 1, 18, 0), (32, .iadd, 1, 19, 0), (33, .istore_n 1, 1, 20, 0), (34, .aload_n 0, 1, 21, 0), (35, .getfield 13, 3, 22, 0), (38, .iload_n 1, 1, 23, 0), (39, .iconst 0, 1, 24, 0), (40, .iadd, 1, 25, 0), (41, .aload_n 0, 1, 26, 0), (42, .iconst 1, 1, 27, 0), (43, .sipush 500, 3, 28, 0), (46, .invokevirtual 124, 3, 29, 0), (49, .iastore, 1, 30, 0), (50, .aload_n 0, 1, 31, 0), (51, .getfield 13, 3, 32, 0), (54, .iload_n 1, 1, 33, 0), (55, .iconst 1, 1, 34, 0), (56, .iadd, 1, 35, 0), (57, .iconst (-1), 1, 36, 0), (58, .iastore, 1, 37, 0), (59, .aload_n 0, 1, 38, 0), (60, .getfield 13, 3, 39, 0), (63, .iload_n 1, 1, 40, 0), (64, .iconst 2, 1, 41, 0), (65, .iadd, 1, 42, 0), (66, .iconst (-1), 1, 43, 0), (67, .iastore, 1, 44, 0), (68, .aload_n 0, 1, 45, 0), (69, .ldc 128, 2, 46, 0), (71, .invokevirtual 130, 3, 47, 0), (74, .ifCond .eq 46, 3, 48, 75), (77, .aload_n 0, 1, 49, 0), (78, .invokevirtual 115, 3, 50, 0), (81, .aload_n 0, 1, 51, 0), (82, .getfield 13, 3, 52, 0), (85, .iload_n 1, 1, 53, 0), (86, .iconst 1, 1, 54, 0), (87, .iadd, 1, 55, 0), (88, .aload_n 0, 1, 56, 0), (89, .iconst 0, 1, 57, 0), (90, .sipush 359, 3, 58, 0), (93, .invokevirtual 124, 3, 59, 0), (96, .iastore, 1, 60, 0), (97, .aload_n 0, 1, 61, 0), (98, .getfield 13, 3, 62, 0), (101, .iload_n 1, 1, 63, 0), (102, .iconst 2, 1, 64, 0), (103, .iadd, 1, 65, 0), (104, .aload_n 0, 1, 66, 0), (105, .aload_n 0, 1, 67, 0), (106, .getfield 13, 3, 68, 0), (109, .iload_n 1, 1, 69, 0), (110, .iconst 1, 1, 70, 0), (111, .iadd, 1, 71, 0), (112, .iaload, 1, 72, 0), (113, .sipush 359, 3, 73, 0), (116, .invokevirtual 124, 3, 74, 0), (119, .iastore, 1, 75, 0), (120, .aload_n 0, 1, 76, 0), (121, .getfield 13, 3, 77, 0), (124, .bipush 16, 2, 78, 0), (126, .dup2, 1, 79, 0), (127, .iaload, 1, 80, 0), (128, .iconst 1, 1, 81, 0), (129, .iadd, 1, 82, 0), (130, .iastore, 1, 83, 0), (131, .return_, 1, 84, 0)]
set_option maxRecDepth 100000 in
theorem okX8_roomStatement : OkTab cX8_roomStatement tX8_roomStatement := ⟨by decide +kernel, by decide +kernel⟩
def tX8_once : List PT := [(0, .aload_n 0, 1, 1, 0), (1, .aload_n 1, 1, 2, 0), (2, .invokevirtual 130, 3, 3, 0), (5, .ifCond .ne 5, 3, 4, 6), (8, .iconst 0, 1, 5, 0), (9, .ireturn, 1, 6, 0), (10, .aload_n 0, 1, 7, 0), (11, .getfield 120, 3, 8, 0), (14, .iload_n 2, 1, 9, 0), (15, .ishr, 1, 10, 0), (16, .iconst 1, 1, 11, 0), (17, .iand, 1, 12, 0), (18, .iconst 1, 1, 13, 0), (19, .if_icmp .ne 7, 3, 14, 16), (22, .aload_n 0, 1, 15, 0), (23, .invokevirtual 112, 3, 16, 0), (26, .aload_n 0, 1, 17, 0), (27, .dup, 1, 18, 0), (28, .getfield 120, 3, 19, 0), (31, .iconst 1, 1, 20, 0), (32, .iload_n 2, 1, 21, 0), (33, .ishl, 1, 22, 0), (34, .ior, 1, 23, 0), (35, .putfield 120, 3, 24, 0), (38, .aload_n 0, 1, 25, 0), (39, .invokevirtual 99, 3, 26, 0), (42, .ifCond .eq 7, 3, 27, 29), (45, .aload_n 0, 1, 28, 0), (46, .invokevirtual 115, 3, 29, 0), (49, .iconst 1, 1, 30, 0), (50, .ireturn, 1, 31, 0)]
set_option maxRecDepth 100000 in
theorem okX8_once : OkTab cX8_once tX8_once := ⟨by decide +kernel, by decide +kernel⟩
def tX8_take : List PT := [(0, .aload_n 0, 1, 1, 0), (1, .getfield 13, 3, 2, 0), (4, .iload_n 1, 1, 3, 0), (5, .aload_n 0, 1, 4, 0), (6, .iload_n 2, 1, 5, 0), (7, .iload_n 3, 1, 6, 0), (8, .invokevirtual 124, 3, 7, 0), (11, .iastore, 1, 8, 0), (12, .return_, 1, 9, 0)]
set_option maxRecDepth 100000 in
theorem okX8_take : OkTab cX8_take tX8_take := ⟨by decide +kernel, by decide +kernel⟩
def tX8_readStatement : List PT := [(0, .aload_n 0, 1, 1, 0), (1, .ldc 134, 2, 2, 0), (3, .invokevirtual 130, 3, 3, 0), (6, .ifCond .eq 10, 3, 4, 7), (9, .aload_n 0, 1, 5, 0), (10, .invokevirtual 136, 3, 6, 0), (13, .goto 121, 3, 7, 68), (16, .aload_n 0, 1, 8, 0), (17, .ldc 139, 2, 9, 0), (19, .invokevirtual 130, 3, 10, 0), (22, .ifCond .eq 10, 3, 11, 14), (25, .aload_n 0, 1, 12, 0), (26, .invokevirtual 141, 3, 13, 0), (29, .goto 105, 3, 14, 68), (32, .aload_n 0, 1, 15, 0), (33, .ldc 144, 2, 16, 0), (35, .iconst 0, 1, 17, 0), (36, .invokevirtual 146, 3, 18, 0), (39, .ifCond .eq 14, 3, 19, 25), (42, .aload_n 0, 1, 20, 0), (43, .iconst 0, 1, 21, 0), (44, .iconst 0, 1, 22, 0), (45, .ldc 150, 2, 23, 0), (47, .invokevirtual 151, 3, 24, 0), (50, .goto 84, 3, 25, 68), (53, .aload_n 0, 1, 26, 0), (54, .ldc 155, 2, 27, 0), (56, .iconst 1, 1, 28, 0), (57, .invokevirtual 146, 3, 29, 0), (60, .ifCond .eq 27, 3, 30, 44), (63, .aload_n 0, 1, 31, 0), (64, .iconst 1, 1, 32, 0), (65, .iconst 0, 1, 33, 0), (66, .ldc 32, 2, 34, 0), (68, .invokevirtual 151, 3, 35, 0), (71, .aload_n 0, 1, 36, 0), (72, .iconst 2, 1, 37, 0), (73, .aload_n 0, 1, 38, 0), (74, .getfield 13, 3, 39, 0), (77, .iconst 1, 1, 40, 0), (78, .iaload, 1, 41, 0), (79, .ldc 32, 2, 42, 0), (81, .invokevirtual 151, 3, 43, 0), (84, .goto 50, 3, 44, 68), (87, .aload_n 0, 1, 45, 0), (88, .ldc 157, 2, 46, 0), (90, .iconst 2, 1, 47, 0), (91, .invokevirtual 146, 3, 48, 0), (94, .ifCond .eq 14, 3, 49, 55), (97, .aload_n 0, 1, 50, 0), (98, .iconst 3, 1, 51, 0), (99, .iconst 0, 1, 52, 0), (100, .bipush 100, 2, 53, 0), (102, .invokevirtual 151, 3, 54, 0), (105, .goto 29, 3, 55, 68), (108, .aload_n 0, 1, 56, 0), (109, .ldc 159, 2, 57, 0), (111, .iconst 3, 1, 58, 0), (112, .invokevirtual 146, 3, 59, 0), (115, .ifCond .eq 15, 3, 60, 66), (118, .aload_n 0, 1, 61, 0), (119, .iconst 4, 1, 62, 0), (120, .iconst 0, 1, 63, 0), (121, .sipush 900, 3, 64, 0), (124, .invokevirtual 151, 3, 65, 0), (127, .goto 7, 3, 66, 68), (130, .aload_n 0, 1, 67, 0), (131, .invokevirtual 112, 3, 68, 0), (134, .return_, 1, 69, 0)]
set_option maxRecDepth 100000 in
theorem okX8_readStatement : OkTab cX8_readStatement tX8_readStatement := ⟨by decide +kernel, by decide +kernel⟩
def tX8_parse : List PT := [(0, .aload_n 0, 1, 1, 0), (1, .iconst 0, 1, 2, 0), (2, .putfield 60, 3, 3, 0), (5, .aload_n 0, 1, 4, 0), (6, .iconst (-1), 1, 5, 0), (7, .putfield 96, 3, 6, 0), (10, .aload_n 0, 1, 7, 0), (11, .invokevirtual 29, 3, 8, 0), (14, .aload_n 0, 1, 9, 0), (15, .invokevirtual 115, 3, 10, 0), (18, .aload_n 0, 1, 11, 0), (19, .invokevirtual 161, 3, 12, 0), (22, .aload_n 0, 1, 13, 0), (23, .invokevirtual 99, 3, 14, 0), (26, .ifCond .eq 36, 3, 15, 31), (29, .aload_n 0, 1, 16, 0), (30, .getfield 77, 3, 17, 0), (33, .iconst 3, 1, 18, 0), (34, .if_icmp .ne 28, 3, 19, 31), (37, .aload_n 0, 1, 20, 0), (38, .getfield 9, 3, 21, 0), (41, .aload_n 0, 1, 22, 0), (42, .getfield 67, 3, 23, 0), (45, .iaload, 1, 24, 0), (46, .bipush 59, 2, 25, 0), (48, .if_icmp .ne 14, 3, 26, 31), (51, .aload_n 0, 1, 27, 0), (52, .invokevirtual 115, 3, 28, 0), (55, .aload_n 0, 1, 29, 0), (56, .invokevirtual 161, 3, 30, 0), (59, .goto (-37), 3, 31, 12), (62, .aload_n 0, 1, 32, 0), (63, .invokevirtual 99, 3, 33, 0), (66, .ifCond .eq 14, 3, 34, 39), (69, .aload_n 0, 1, 35, 0), (70, .getfield 77, 3, 36, 0), (73, .ifCond .eq 7, 3, 37, 39), (76, .aload_n 0, 1, 38, 0), (77, .invokevirtual 112, 3, 39, 0), (80, .aload_n 0, 1, 40, 0), (81, .getfield 96, 3, 41, 0), (84, .ireturn, 1, 42, 0)]
set_option maxRecDepth 100000 in
theorem okX8_parse : OkTab cX8_parse tX8_parse := ⟨by decide +kernel, by decide +kernel⟩
def tX8_errorPosition : List PT := [(0, .aload_n 0, 1, 1, 0), (1, .iconst 0, 1, 2, 0), (2, .putfield 41, 3, 3, 0), (5, .aload_n 0, 1, 4, 0), (6, .invokevirtual 164, 3, 5, 0), (9, .ireturn, 1, 6, 0)]
set_option maxRecDepth 100000 in
theorem okX8_errorPosition : OkTab cX8_errorPosition tX8_errorPosition := ⟨by decide +kernel, by decide +kernel⟩
def tX8_takeRead : List PT := [(0, .iconst 0, 1, 1, 0), (1, .istore_n 1, 1, 2, 0), (2, .iload_n 1, 1, 3, 0), (3, .sipush 522, 3, 4, 0), (6, .if_icmp .ge 21, 3, 5, 15), (9, .aload_n 0, 1, 6, 0), (10, .getfield 16, 3, 7, 0), (13, .iload_n 1, 1, 8, 0), (14, .aload_n 0, 1, 9, 0), (15, .getfield 13, 3, 10, 0), (18, .iload_n 1, 1, 11, 0), (19, .iaload, 1, 12, 0), (20, .iastore, 1, 13, 0), (21, .iinc 1 1, 3, 14, 0), (24, .goto (-22), 3, 15, 2), (27, .aload_n 0, 1, 16, 0), (28, .iconst 0, 1, 17, 0), (29, .putfield 167, 3, 18, 0), (32, .aload_n 0, 1, 19, 0), (33, .iconst 0, 1, 20, 0), (34, .putfield 170, 3, 21, 0), (37, .return_, 1, 22, 0)]
set_option maxRecDepth 100000 in
theorem okX8_takeRead : OkTab cX8_takeRead tX8_takeRead := ⟨by decide +kernel, by decide +kernel⟩
def tX8_load : List PT := [(0, .aload_n 0, 1, 1, 0), (1, .iconst 0, 1, 2, 0), (2, .putfield 41, 3, 3, 0), (5, .aload_n 0, 1, 4, 0), (6, .aload_n 0, 1, 5, 0), (7, .invokevirtual 164, 3, 6, 0), (10, .ifCond .ge 7, 3, 7, 9), (13, .iconst 1, 1, 8, 0), (14, .goto 4, 3, 9, 10), (17, .iconst 0, 1, 10, 0), (18, .iconst 1, 1, 11, 0), (19, .invokevirtual 52, 3, 12, 0), (22, .ifCond .eq 5, 3, 13, 15), (25, .iconst 0, 1, 14, 0), (26, .ireturn, 1, 15, 0), (27, .aload_n 0, 1, 16, 0), (28, .invokevirtual 38, 3, 17, 0), (31, .aload_n 0, 1, 18, 0), (32, .iconst 0, 1, 19, 0), (33, .putfield 49, 3, 20, 0), (36, .aload_n 0, 1, 21, 0), (37, .getfield 16, 3, 22, 0), (40, .bipush 16, 2, 23, 0), (42, .iaload, 1, 24, 0), (43, .ireturn, 1, 25, 0)]
set_option maxRecDepth 100000 in
theorem okX8_load : OkTab cX8_load tX8_load := ⟨by decide +kernel, by decide +kernel⟩
def tX8_record : List PT := [(0, .aload_n 0, 1, 1, 0), (1, .getfield 167, 3, 2, 0), (4, .bipush 8, 2, 3, 0), (6, .if_icmp .ne 46, 3, 4, 27), (9, .sipush 522, 3, 5, 0), (12, .istore_n 1, 1, 6, 0), (13, .iload_n 1, 1, 7, 0), (14, .sipush 4176, 3, 8, 0), (17, .if_icmp .ge 25, 3, 9, 21), (20, .aload_n 0, 1, 10, 0), (21, .getfield 22, 3, 11, 0), (24, .iload_n 1, 1, 12, 0), (25, .sipush 522, 3, 13, 0), (28, .isub, 1, 14, 0), (29, .aload_n 0, 1, 15, 0), (30, .getfield 22, 3, 16, 0), (33, .iload_n 1, 1, 17, 0), (34, .iaload, 1, 18, 0), (35, .iastore, 1, 19, 0), (36, .iinc 1 1, 3, 20, 0), (39, .goto (-26), 3, 21, 6), (42, .aload_n 0, 1, 22, 0), (43, .dup, 1, 23, 0), (44, .getfield 167, 3, 24, 0), (47, .iconst 1, 1, 25, 0), (48, .isub, 1, 26, 0), (49, .putfield 167, 3, 27, 0), (52, .iconst 0, 1, 28, 0), (53, .istore_n 1, 1, 29, 0), (54, .iload_n 1, 1, 30, 0), (55, .sipush 522, 3, 31, 0), (58, .if_icmp .ge 30, 3, 32, 47), (61, .aload_n 0, 1, 33, 0), (62, .getfield 22, 3, 34, 0), (65, .sipush 522, 3, 35, 0), (68, .aload_n 0, 1, 36, 0), (69, .getfield 167, 3, 37, 0), (72, .imul, 1, 38, 0), (73, .iload_n 1, 1, 39, 0), (74, .iadd, 1, 40, 0), (75, .aload_n 0, 1, 41, 0), (76, .getfield 16, 3, 42, 0), (79, .iload_n 1, 1, 43, 0), (80, .iaload, 1, 44, 0), (81, .iastore, 1, 45, 0), (82, .iinc 1 1, 3, 46, 0), (85, .goto (-31), 3, 47, 29), (88, .aload_n 0, 1, 48, 0), (89, .dup, 1, 49, 0), (90, .getfield 167, 3, 50, 0), (93, .iconst 1, 1, 51, 0), (94, .iadd, 1, 52, 0), (95, .putfield 167, 3, 53, 0), (98, .return_, 1, 54, 0)]
set_option maxRecDepth 100000 in
theorem okX8_record : OkTab cX8_record tX8_record := ⟨by decide +kernel, by decide +kernel⟩
def tX8_undo : List PT := [(0, .aload_n 0, 1, 1, 0), (1, .iconst 0, 1, 2, 0), (2, .putfield 41, 3, 3, 0), (5, .aload_n 0, 1, 4, 0), (6, .aload_n 0, 1, 5, 0), (7, .getfield 167, 3, 6, 0), (10, .ifCond .le 7, 3, 7, 9), (13, .iconst 1, 1, 8, 0), (14, .goto 4, 3, 9, 10), (17, .iconst 0, 1, 10, 0), (18, .iconst 1, 1, 11, 0), (19, .invokevirtual 52, 3, 12, 0), (22, .ifCond .eq 5, 3, 13, 15), (25, .iconst 0, 1, 14, 0), (26, .ireturn, 1, 15, 0), (27, .aload_n 0, 1, 16, 0), (28, .dup, 1, 17, 0), (29, .getfield 167, 3, 18, 0), (32, .iconst 1, 1, 19, 0), (33, .isub, 1, 20, 0), (34, .putfield 167, 3, 21, 0), (37, .iconst 0, 1, 22, 0), (38, .istore_n 1, 1, 23, 0), (39, .iload_n 1, 1, 24, 0), (40, .sipush 522, 3, 25, 0), (43, .if_icmp .ge 30, 3, 26, 41), (46, .aload_n 0, 1, 27, 0), (47, .getfield 16, 3, 28, 0), (50, .iload_n 1, 1, 29, 0), (51, .aload_n 0, 1, 30, 0), (52, .getfield 22, 3, 31, 0), (55, .sipush 522, 3, 32, 0), (58, .aload_n 0, 1, 33, 0), (59, .getfield 167, 3, 34, 0), (62, .imul, 1, 35, 0), (63, .iload_n 1, 1, 36, 0), (64, .iadd, 1, 37, 0), (65, .iaload, 1, 38, 0), (66, .iastore, 1, 39, 0), (67, .iinc 1 1, 3, 40, 0), (70, .goto (-31), 3, 41, 23), (73, .aload_n 0, 1, 42, 0), (74, .getfield 167, 3, 43, 0), (77, .ireturn, 1, 44, 0)]
set_option maxRecDepth 100000 in
theorem okX8_undo : OkTab cX8_undo tX8_undo := ⟨by decide +kernel, by decide +kernel⟩
def tX8_undoCount : List PT := [(0, .aload_n 0, 1, 1, 0), (1, .iconst 0, 1, 2, 0), (2, .putfield 41, 3, 3, 0), (5, .aload_n 0, 1, 4, 0), (6, .getfield 167, 3, 5, 0), (9, .ireturn, 1, 6, 0)]
set_option maxRecDepth 100000 in
theorem okX8_undoCount : OkTab cX8_undoCount tX8_undoCount := ⟨by decide +kernel, by decide +kernel⟩
def tX8_save : List PT := [(0, .aload_n 0, 1, 1, 0), (1, .iconst 0, 1, 2, 0), (2, .putfield 41, 3, 3, 0), (5, .iconst 0, 1, 4, 0), (6, .istore_n 1, 1, 5, 0), (7, .iload_n 1, 1, 6, 0), (8, .sipush 522, 3, 7, 0), (11, .if_icmp .ge 21, 3, 8, 18), (14, .aload_n 0, 1, 9, 0), (15, .getfield 19, 3, 10, 0), (18, .iload_n 1, 1, 11, 0), (19, .aload_n 0, 1, 12, 0), (20, .getfield 16, 3, 13, 0), (23, .iload_n 1, 1, 14, 0), (24, .iaload, 1, 15, 0), (25, .iastore, 1, 16, 0), (26, .iinc 1 1, 3, 17, 0), (29, .goto (-22), 3, 18, 5), (32, .aload_n 0, 1, 19, 0), (33, .iconst 1, 1, 20, 0), (34, .putfield 170, 3, 21, 0), (37, .aload_n 0, 1, 22, 0), (38, .getfield 16, 3, 23, 0), (41, .bipush 35, 2, 24, 0), (43, .iaload, 1, 25, 0), (44, .ireturn, 1, 26, 0)]
set_option maxRecDepth 100000 in
theorem okX8_save : OkTab cX8_save tX8_save := ⟨by decide +kernel, by decide +kernel⟩
def tX8_restore : List PT := [(0, .aload_n 0, 1, 1, 0), (1, .iconst 0, 1, 2, 0), (2, .putfield 41, 3, 3, 0), (5, .aload_n 0, 1, 4, 0), (6, .aload_n 0, 1, 5, 0), (7, .getfield 170, 3, 6, 0), (10, .iconst 1, 1, 7, 0), (11, .invokevirtual 52, 3, 8, 0), (14, .ifCond .eq 5, 3, 9, 11), (17, .iconst 0, 1, 10, 0), (18, .ireturn, 1, 11, 0), (19, .iconst 0, 1, 12, 0), (20, .istore_n 1, 1, 13, 0), (21, .iload_n 1, 1, 14, 0), (22, .sipush 522, 3, 15, 0), (25, .if_icmp .ge 21, 3, 16, 26), (28, .aload_n 0, 1, 17, 0), (29, .getfield 16, 3, 18, 0), (32, .iload_n 1, 1, 19, 0), (33, .aload_n 0, 1, 20, 0), (34, .getfield 19, 3, 21, 0), (37, .iload_n 1, 1, 22, 0), (38, .iaload, 1, 23, 0), (39, .iastore, 1, 24, 0), (40, .iinc 1 1, 3, 25, 0), (43, .goto (-22), 3, 26, 13), (46, .aload_n 0, 1, 27, 0), (47, .iconst 0, 1, 28, 0), (48, .putfield 167, 3, 29, 0), (51, .aload_n 0, 1, 30, 0), (52, .getfield 16, 3, 31, 0), (55, .bipush 35, 2, 32, 0), (57, .iaload, 1, 33, 0), (58, .ireturn, 1, 34, 0)]
set_option maxRecDepth 100000 in
theorem okX8_restore : OkTab cX8_restore tX8_restore := ⟨by decide +kernel, by decide +kernel⟩
def tX8_isEntry : List PT := [(0, .iload_n 1, 1, 1, 0), (1, .i2l, 1, 2, 0), (2, .lconst 0, 1, 3, 0), (3, .aload_n 0, 1, 4, 0), (4, .getfield 16, 3, 5, 0), (7, .bipush 35, 2, 6, 0), (9, .iaload, 1, 7, 0), (10, .iconst 1, 1, 8, 0), (11, .isub, 1, 9, 0), (12, .i2l, 1, 10, 0), (13, .invokestatic 56, 3, 11, 0), (16, .ireturn, 1, 12, 0)]
set_option maxRecDepth 100000 in
theorem okX8_isEntry : OkTab cX8_isEntry tX8_isEntry := ⟨by decide +kernel, by decide +kernel⟩
def tX8_isRoom : List PT := [(0, .iload_n 1, 1, 1, 0), (1, .i2l, 1, 2, 0), (2, .lconst 0, 1, 3, 0), (3, .aload_n 0, 1, 4, 0), (4, .getfield 16, 3, 5, 0), (7, .bipush 16, 2, 6, 0), (9, .iaload, 1, 7, 0), (10, .iconst 1, 1, 8, 0), (11, .isub, 1, 9, 0), (12, .i2l, 1, 10, 0), (13, .invokestatic 56, 3, 11, 0), (16, .ireturn, 1, 12, 0)]
set_option maxRecDepth 100000 in
theorem okX8_isRoom : OkTab cX8_isRoom tX8_isRoom := ⟨by decide +kernel, by decide +kernel⟩
def tX8_isAsset : List PT := [(0, .iload_n 1, 1, 1, 0), (1, .i2l, 1, 2, 0), (2, .lconst 0, 1, 3, 0), (3, .aload_n 0, 1, 4, 0), (4, .getfield 16, 3, 5, 0), (7, .sipush 456, 3, 6, 0), (10, .iaload, 1, 7, 0), (11, .iconst 1, 1, 8, 0), (12, .isub, 1, 9, 0), (13, .i2l, 1, 10, 0), (14, .invokestatic 56, 3, 11, 0), (17, .ireturn, 1, 12, 0)]
set_option maxRecDepth 100000 in
theorem okX8_isAsset : OkTab cX8_isAsset tX8_isAsset := ⟨by decide +kernel, by decide +kernel⟩
def tX8_isDay : List PT := [(0, .iload_n 0, 1, 1, 0), (1, .i2l, 1, 2, 0), (2, .lconst 0, 1, 3, 0), (3, .ldc2_w 174, 3, 4, 0), (6, .invokestatic 56, 3, 5, 0), (9, .ireturn, 1, 6, 0)]
set_option maxRecDepth 100000 in
theorem okX8_isDay : OkTab cX8_isDay tX8_isDay := ⟨by decide +kernel, by decide +kernel⟩
def tX8_isDayOrNone : List PT := [(0, .iload_n 0, 1, 1, 0), (1, .i2l, 1, 2, 0), (2, .ldc2_w 176, 3, 3, 0), (5, .ldc2_w 174, 3, 4, 0), (8, .invokestatic 56, 3, 5, 0), (11, .ireturn, 1, 6, 0)]
set_option maxRecDepth 100000 in
theorem okX8_isDayOrNone : OkTab cX8_isDayOrNone tX8_isDayOrNone := ⟨by decide +kernel, by decide +kernel⟩
def tX8_isMonth : List PT := [(0, .iload_n 0, 1, 1, 0), (1, .i2l, 1, 2, 0), (2, .lconst 0, 1, 3, 0), (3, .ldc2_w 178, 3, 4, 0), (6, .invokestatic 56, 3, 5, 0), (9, .ireturn, 1, 6, 0)]
set_option maxRecDepth 100000 in
theorem okX8_isMonth : OkTab cX8_isMonth tX8_isMonth := ⟨by decide +kernel, by decide +kernel⟩
def tX8_isQuarter : List PT := [(0, .iload_n 0, 1, 1, 0), (1, .i2l, 1, 2, 0), (2, .lconst 0, 1, 3, 0), (3, .ldc2_w 180, 3, 4, 0), (6, .invokestatic 56, 3, 5, 0), (9, .ireturn, 1, 6, 0)]
set_option maxRecDepth 100000 in
theorem okX8_isQuarter : OkTab cX8_isQuarter tX8_isQuarter := ⟨by decide +kernel, by decide +kernel⟩
def tX8_isKind : List PT := [(0, .iload_n 0, 1, 1, 0), (1, .i2l, 1, 2, 0), (2, .lconst 0, 1, 3, 0), (3, .ldc2_w 180, 3, 4, 0), (6, .invokestatic 56, 3, 5, 0), (9, .ireturn, 1, 6, 0)]
set_option maxRecDepth 100000 in
theorem okX8_isKind : OkTab cX8_isKind tX8_isKind := ⟨by decide +kernel, by decide +kernel⟩
def tX8_isAmount : List PT := [(0, .iload_n 0, 1, 1, 0), (1, .i2l, 1, 2, 0), (2, .lconst 1, 1, 3, 0), (3, .ldc2_w 182, 3, 4, 0), (6, .invokestatic 56, 3, 5, 0), (9, .ireturn, 1, 6, 0)]
set_option maxRecDepth 100000 in
theorem okX8_isAmount : OkTab cX8_isAmount tX8_isAmount := ⟨by decide +kernel, by decide +kernel⟩
def tX8_entryPart : List PT := [(0, .aload_n 0, 1, 1, 0), (1, .getfield 16, 3, 2, 0), (4, .bipush 36, 2, 3, 0), (6, .bipush 7, 2, 4, 0), (8, .iload_n 1, 1, 5, 0), (9, .imul, 1, 6, 0), (10, .iadd, 1, 7, 0), (11, .iload_n 2, 1, 8, 0), (12, .iadd, 1, 9, 0), (13, .iaload, 1, 10, 0), (14, .ireturn, 1, 11, 0)]
set_option maxRecDepth 100000 in
theorem okX8_entryPart : OkTab cX8_entryPart tX8_entryPart := ⟨by decide +kernel, by decide +kernel⟩
def tX8_roomPart : List PT := [(0, .aload_n 0, 1, 1, 0), (1, .getfield 16, 3, 2, 0), (4, .bipush 17, 2, 3, 0), (6, .iconst 3, 1, 4, 0), (7, .iload_n 1, 1, 5, 0), (8, .imul, 1, 6, 0), (9, .iadd, 1, 7, 0), (10, .iload_n 2, 1, 8, 0), (11, .iadd, 1, 9, 0), (12, .iaload, 1, 10, 0), (13, .ireturn, 1, 11, 0)]
set_option maxRecDepth 100000 in
theorem okX8_roomPart : OkTab cX8_roomPart tX8_roomPart := ⟨by decide +kernel, by decide +kernel⟩
def tX8_assetPart : List PT := [(0, .aload_n 0, 1, 1, 0), (1, .getfield 16, 3, 2, 0), (4, .sipush 457, 3, 3, 0), (7, .iconst 5, 1, 4, 0), (8, .iload_n 1, 1, 5, 0), (9, .imul, 1, 6, 0), (10, .iadd, 1, 7, 0), (11, .iload_n 2, 1, 8, 0), (12, .iadd, 1, 9, 0), (13, .iaload, 1, 10, 0), (14, .ireturn, 1, 11, 0)]
set_option maxRecDepth 100000 in
theorem okX8_assetPart : OkTab cX8_assetPart tX8_assetPart := ⟨by decide +kernel, by decide +kernel⟩
def tX8_isCancelled : List PT := [(0, .aload_n 0, 1, 1, 0), (1, .iload_n 1, 1, 2, 0), (2, .iconst 5, 1, 3, 0), (3, .invokevirtual 184, 3, 4, 0), (6, .iconst 1, 1, 5, 0), (7, .if_icmp .ne 7, 3, 6, 8), (10, .iconst 1, 1, 7, 0), (11, .goto 4, 3, 8, 9), (14, .iconst 0, 1, 9, 0), (15, .ireturn, 1, 10, 0)]
set_option maxRecDepth 100000 in
theorem okX8_isCancelled : OkTab cX8_isCancelled tX8_isCancelled := ⟨by decide +kernel, by decide +kernel⟩
def tX8_isOpen : List PT := [(0, .aload_n 0, 1, 1, 0), (1, .iload_n 1, 1, 2, 0), (2, .invokevirtual 187, 3, 3, 0), (5, .ifCond .ne 17, 3, 4, 12), (8, .aload_n 0, 1, 5, 0), (9, .iload_n 1, 1, 6, 0), (10, .iconst 4, 1, 7, 0), (11, .invokevirtual 184, 3, 8, 0), (14, .iconst (-1), 1, 9, 0), (15, .if_icmp .ne 7, 3, 10, 12), (18, .iconst 1, 1, 11, 0), (19, .goto 4, 3, 12, 13), (22, .iconst 0, 1, 13, 0), (23, .ireturn, 1, 14, 0)]
set_option maxRecDepth 100000 in
theorem okX8_isOpen : OkTab cX8_isOpen tX8_isOpen := ⟨by decide +kernel, by decide +kernel⟩
def tX8_counts : List PT := [(0, .aload_n 0, 1, 1, 0), (1, .iload_n 1, 1, 2, 0), (2, .invokevirtual 187, 3, 3, 0), (5, .ifCond .ne 17, 3, 4, 12), (8, .aload_n 0, 1, 5, 0), (9, .iload_n 1, 1, 6, 0), (10, .iconst 4, 1, 7, 0), (11, .invokevirtual 184, 3, 8, 0), (14, .iconst (-1), 1, 9, 0), (15, .if_icmp .eq 7, 3, 10, 12), (18, .iconst 1, 1, 11, 0), (19, .goto 4, 3, 12, 13), (22, .iconst 0, 1, 13, 0), (23, .ireturn, 1, 14, 0)]
set_option maxRecDepth 100000 in
theorem okX8_counts : OkTab cX8_counts tX8_counts := ⟨by decide +kernel, by decide +kernel⟩
def tX8_countsIn : List PT := [(0, .aload_n 0, 1, 1, 0), (1, .iload_n 1, 1, 2, 0), (2, .invokevirtual 190, 3, 3, 0), (5, .ifCond .eq 24, 3, 4, 17), (8, .aload_n 0, 1, 5, 0), (9, .iload_n 1, 1, 6, 0), (10, .iconst 4, 1, 7, 0), (11, .invokevirtual 184, 3, 8, 0), (14, .i2l, 1, 9, 0), (15, .iload_n 2, 1, 10, 0), (16, .i2l, 1, 11, 0), (17, .iload_n 3, 1, 12, 0), (18, .i2l, 1, 13, 0), (19, .invokestatic 56, 3, 14, 0), (22, .ifCond .eq 7, 3, 15, 17), (25, .iconst 1, 1, 16, 0), (26, .goto 4, 3, 17, 18), (29, .iconst 0, 1, 18, 0), (30, .ireturn, 1, 19, 0)]
set_option maxRecDepth 100000 in
theorem okX8_countsIn : OkTab cX8_countsIn tX8_countsIn := ⟨by decide +kernel, by decide +kernel⟩
def tX8_become : List PT := [(0, .aload_n 0, 1, 1, 0), (1, .invokevirtual 193, 3, 2, 0), (4, .aload_n 0, 1, 3, 0), (5, .getfield 16, 3, 4, 0), (8, .iload_n 1, 1, 5, 0), (9, .iaload, 1, 6, 0), (10, .istore_n 3, 1, 7, 0), (11, .aload_n 0, 1, 8, 0), (12, .getfield 16, 3, 9, 0), (15, .iload_n 1, 1, 10, 0), (16, .iload_n 2, 1, 11, 0), (17, .iastore, 1, 12, 0), (18, .iload_n 3, 1, 13, 0), (19, .ireturn, 1, 14, 0)]
set_option maxRecDepth 100000 in
theorem okX8_become : OkTab cX8_become tX8_become := ⟨by decide +kernel, by decide +kernel⟩
def tX8_addEntry : List PT := [(0, .aload_n 0, 1, 1, 0), (1, .iconst 0, 1, 2, 0), (2, .putfield 41, 3, 3, 0), (5, .iload_n 1, 1, 4, 0), (6, .invokestatic 196, 3, 5, 0), (9, .ifCond .eq 42, 3, 6, 23), (12, .iload_n 2, 1, 7, 0), (13, .i2l, 1, 8, 0), (14, .lconst 0, 1, 9, 0), (15, .ldc2_w 199, 3, 10, 0), (18, .invokestatic 56, 3, 11, 0), (21, .ifCond .eq 30, 3, 12, 23), (24, .iload_n 3, 1, 13, 0), (25, .invokestatic 201, 3, 14, 0), (28, .ifCond .eq 23, 3, 15, 23), (31, .iload 4, 2, 16, 0), (33, .invokestatic 204, 3, 17, 0), (36, .ifCond .eq 15, 3, 18, 23), (39, .iload 5, 2, 19, 0), (41, .invokestatic 207, 3, 20, 0), (44, .ifCond .eq 7, 3, 21, 23), (47, .iconst 1, 1, 22, 0), (48, .goto 4, 3, 23, 24), (51, .iconst 0, 1, 24, 0), (52, .istore 6, 2, 25, 0), (54, .aload_n 0, 1, 26, 0), (55, .iload 6, 2, 27, 0), (57, .iconst 1, 1, 28, 0), (58, .invokevirtual 52, 3, 29, 0), (61, .ifCond .ne 28, 3, 30, 43), (64, .aload_n 0, 1, 31, 0), (65, .aload_n 0, 1, 32, 0), (66, .getfield 16, 3, 33, 0), (69, .bipush 35, 2, 34, 0), (71, .iaload, 1, 35, 0), (72, .bipush 60, 2, 36, 0), (74, .if_icmp .ge 7, 3, 37, 39), (77, .iconst 1, 1, 38, 0), (78, .goto 4, 3, 39, 40), (81, .iconst 0, 1, 40, 0), (82, .iconst 2, 1, 41, 0), (83, .invokevirtual 52, 3, 42, 0), (86, .ifCond .eq 5, 3, 43, 45), (89, .iconst 0, 1, 44, 0), (90, .ireturn, 1, 45, 0), (91, .aload_n 0, 1, 46, 0), (92, .invokevirtual 193, 3, 47, 0), (95, .bipush 36, 2, 48, 0), (97, .bipush 7, 2, 49, 0), (99, .aload_n 0, 1, 50, 0), (100, .getfield 16, 3, 51, 0), (103, .bipush 35, 2, 52, 0), (105, .iaload, 1, 53, 0), (106, .imul, 1, 54, 0), (107, .iadd, 1, 55, 0), (108, .istore 7, 2, 56, 0), (110, .aload_n 0, 1, 57, 0), (111, .getfield 16, 3, 58, 0), (114, .iload 7, 2, 59, 0), (116, .iconst 0, 1, 60, 0), (117, .iadd, 1, 61, 0), (118, .iload_n 1, 1, 62, 0), (119, .iastore, 1, 63, 0), (120, .aload_n 0, 1, 64, 0), (121, .getfield 16, 3, 65, 0), (124, .iload 7, 2, 66, 0), (126, .iconst 1, 1, 67, 0), (127, .iadd, 1, 68, 0), (128, .iload_n 2, 1, 69, 0), (129, .iastore, 1, 70, 0), (130, .aload_n 0, 1, 71, 0), (131, .getfield 16, 3, 72, 0), (134, .iload 7, 2, 73, 0), (136, .iconst 2, 1, 74, 0), (137, .iadd, 1, 75, 0), (138, .iload_n 3, 1, 76, 0), (139, .iastore, 1, 77, 0), (140, .aload_n 0, 1, 78, 0), (141, .getfield 16, 3, 79, 0), (144, .iload 7, 2, 80, 0), (146, .iconst 3, 1, 81, 0), (147, .iadd, 1, 82, 0), (148, .iload 4, 2, 83, 0), (150, .iastore, 1, 84, 0), (151, .aload_n 0, 1, 85, 0), (152, .getfield 16, 3, 86, 0), (155, .iload 7, 2, 87, 0), (157, .iconst 4, 1, 88, 0), (158, .iadd, 1, 89, 0), (159, .iload 5, 2, 90, 0), (161, .iastore, 1, 91, 0), (162, .aload_n 0, 1, 92, 0), (163, .getfield 16, 3, 93, 0), (166, .iload 7, 2, 94, 0), (168, .iconst 5, 1, 95, 0), (169, .iadd, 1, 96, 0), (170, .iconst 0, 1, 97, 0), (171, .iastore, 1, 98, 0), (172, .aload_n 0, 1, 99, 0), (173, .getfield 16, 3, 100, 0), (176, .iload 7, 2, 101, 0), (178, .bipush 6, 2, 102, 0), (180, .iadd, 1, 103, 0), (181, .iload 5, 2, 104, 0), (183, .iconst (-1), 1, 105, 0), (184, .if_icmp .eq 23, 3, 106, 116), (187, .iload 5, 2, 107, 0), (189, .bipush 90, 2, 108, 0), (191, .idiv, 1, 109, 0), (192, .aload_n 0, 1, 110, 0), (193, .getfield 16, 3, 111, 0), (196, .sipush 517, 3, 112, 0), (199, .iaload, 1, 113, 0), (200, .if_icmp .ge 7, 3, 114, 116), (203, .iconst 1, 1, 115, 0), (204, .goto 4, 3, 116, 117), (207, .iconst 0, 1, 117, 0), (208, .iastore, 1, 118, 0), (209, .aload_n 0, 1, 119, 0), (210, .getfield 16, 3, 120, 0), (213, .bipush 35, 2, 121, 0), (215, .dup2, 1, 122, 0), (216, .iaload, 1, 123, 0), (217, .iconst 1, 1, 124, 0), (218, .iadd, 1, 125, 0), (219, .iastore, 1, 126, 0), (220, .aload_n 0, 1, 127, 0), (221, .getfield 16, 3, 128, 0), (224, .bipush 35, 2, 129, 0), (226, .iaload, 1, 130, 0), (227, .iconst 1, 1, 131, 0), (228, .isub, 1, 132, 0), (229, .ireturn, 1, 133, 0)]
set_option maxRecDepth 100000 in
theorem okX8_addEntry : OkTab cX8_addEntry tX8_addEntry := ⟨by decide +kernel, by decide +kernel⟩
def tX8_pay : List PT := [(0, .aload_n 0, 1, 1, 0), (1, .iconst 0, 1, 2, 0), (2, .putfield 41, 3, 3, 0), (5, .aload_n 0, 1, 4, 0), (6, .aload_n 0, 1, 5, 0), (7, .iload_n 1, 1, 6, 0), (8, .invokevirtual 210, 3, 7, 0), (11, .iconst 1, 1, 8, 0), (12, .invokevirtual 52, 3, 9, 0), (15, .ifCond .ne 36, 3, 10, 27), (18, .aload_n 0, 1, 11, 0), (19, .iload_n 2, 1, 12, 0), (20, .invokestatic 207, 3, 13, 0), (23, .iconst 2, 1, 14, 0), (24, .invokevirtual 52, 3, 15, 0), (27, .ifCond .ne 24, 3, 16, 27), (30, .aload_n 0, 1, 17, 0), (31, .aload_n 0, 1, 18, 0), (32, .iload_n 1, 1, 19, 0), (33, .invokevirtual 187, 3, 20, 0), (36, .ifCond .ne 7, 3, 21, 23), (39, .iconst 1, 1, 22, 0), (40, .goto 4, 3, 23, 24), (43, .iconst 0, 1, 24, 0), (44, .iconst 3, 1, 25, 0), (45, .invokevirtual 52, 3, 26, 0), (48, .ifCond .eq 5, 3, 27, 29), (51, .iconst 0, 1, 28, 0), (52, .ireturn, 1, 29, 0), (53, .aload_n 0, 1, 30, 0), (54, .bipush 36, 2, 31, 0), (56, .bipush 7, 2, 32, 0), (58, .iload_n 1, 1, 33, 0), (59, .imul, 1, 34, 0), (60, .iadd, 1, 35, 0), (61, .iconst 4, 1, 36, 0), (62, .iadd, 1, 37, 0), (63, .iload_n 2, 1, 38, 0), (64, .invokevirtual 213, 3, 39, 0), (67, .ireturn, 1, 40, 0)]
set_option maxRecDepth 100000 in
theorem okX8_pay : OkTab cX8_pay tX8_pay := ⟨by decide +kernel, by decide +kernel⟩
def tX8_cancel : List PT := [(0, .aload_n 0, 1, 1, 0), (1, .iconst 0, 1, 2, 0), (2, .putfield 41, 3, 3, 0), (5, .aload_n 0, 1, 4, 0), (6, .aload_n 0, 1, 5, 0), (7, .iload_n 1, 1, 6, 0), (8, .invokevirtual 210, 3, 7, 0), (11, .iconst 1, 1, 8, 0), (12, .invokevirtual 52, 3, 9, 0), (15, .ifCond .ne 24, 3, 10, 21), (18, .aload_n 0, 1, 11, 0), (19, .aload_n 0, 1, 12, 0), (20, .iload_n 1, 1, 13, 0), (21, .invokevirtual 187, 3, 14, 0), (24, .ifCond .ne 7, 3, 15, 17), (27, .iconst 1, 1, 16, 0), (28, .goto 4, 3, 17, 18), (31, .iconst 0, 1, 18, 0), (32, .iconst 2, 1, 19, 0), (33, .invokevirtual 52, 3, 20, 0), (36, .ifCond .eq 5, 3, 21, 23), (39, .iconst 0, 1, 22, 0), (40, .ireturn, 1, 23, 0), (41, .aload_n 0, 1, 24, 0), (42, .bipush 36, 2, 25, 0), (44, .bipush 7, 2, 26, 0), (46, .iload_n 1, 1, 27, 0), (47, .imul, 1, 28, 0), (48, .iadd, 1, 29, 0), (49, .iconst 5, 1, 30, 0), (50, .iadd, 1, 31, 0), (51, .iconst 1, 1, 32, 0), (52, .invokevirtual 213, 3, 33, 0), (55, .istore_n 2, 1, 34, 0), (56, .aload_n 0, 1, 35, 0), (57, .iload_n 1, 1, 36, 0), (58, .iconst 2, 1, 37, 0), (59, .invokevirtual 184, 3, 38, 0), (62, .ireturn, 1, 39, 0)]
set_option maxRecDepth 100000 in
theorem okX8_cancel : OkTab cX8_cancel tX8_cancel := ⟨by decide +kernel, by decide +kernel⟩
def tX8_addRoom : List PT := [(0, .aload_n 0, 1, 1, 0), (1, .iconst 0, 1, 2, 0), (2, .putfield 41, 3, 3, 0), (5, .aload_n 0, 1, 4, 0), (6, .iload_n 1, 1, 5, 0), (7, .i2l, 1, 6, 0), (8, .lconst 1, 1, 7, 0), (9, .ldc2_w 216, 3, 8, 0), (12, .invokestatic 56, 3, 9, 0), (15, .iconst 1, 1, 10, 0), (16, .invokevirtual 52, 3, 11, 0), (19, .ifCond .ne 28, 3, 12, 25), (22, .aload_n 0, 1, 13, 0), (23, .aload_n 0, 1, 14, 0), (24, .getfield 16, 3, 15, 0), (27, .bipush 16, 2, 16, 0), (29, .iaload, 1, 17, 0), (30, .bipush 6, 2, 18, 0), (32, .if_icmp .ge 7, 3, 19, 21), (35, .iconst 1, 1, 20, 0), (36, .goto 4, 3, 21, 22), (39, .iconst 0, 1, 22, 0), (40, .iconst 2, 1, 23, 0), (41, .invokevirtual 52, 3, 24, 0), (44, .ifCond .eq 5, 3, 25, 27), (47, .iconst 0, 1, 26, 0), (48, .ireturn, 1, 27, 0), (49, .aload_n 0, 1, 28, 0), (50, .invokevirtual 193, 3, 29, 0), (53, .bipush 17, 2, 30, 0), (55, .iconst 3, 1, 31, 0), (56, .aload_n 0, 1, 32, 0), (57, .getfield 16, 3, 33, 0), (60, .bipush 16, 2, 34, 0), (62, .iaload, 1, 35, 0), (63, .imul, 1, 36, 0), (64, .iadd, 1, 37, 0), (65, .istore_n 2, 1, 38, 0), (66, .aload_n 0, 1, 39, 0), (67, .getfield 16, 3, 40, 0), (70, .iload_n 2, 1, 41, 0), (71, .iconst 0, 1, 42, 0), (72, .iadd, 1, 43, 0), (73, .iload_n 1, 1, 44, 0), (74, .iastore, 1, 45, 0), (75, .aload_n 0, 1, 46, 0), (76, .getfield 16, 3, 47, 0), (79, .iload_n 2, 1, 48, 0), (80, .iconst 1, 1, 49, 0), (81, .iadd, 1, 50, 0), (82, .iconst (-1), 1, 51, 0), (83, .iastore, 1, 52, 0), (84, .aload_n 0, 1, 53, 0), (85, .getfield 16, 3, 54, 0), (88, .iload_n 2, 1, 55, 0), (89, .iconst 2, 1, 56, 0), (90, .iadd, 1, 57, 0), (91, .iconst (-1), 1, 58, 0), (92, .iastore, 1, 59, 0), (93, .aload_n 0, 1, 60, 0), (94, .getfield 16, 3, 61, 0), (97, .bipush 16, 2, 62, 0), (99, .dup2, 1, 63, 0), (100, .iaload, 1, 64, 0), (101, .iconst 1, 1, 65, 0), (102, .iadd, 1, 66, 0), (103, .iastore, 1, 67, 0), (104, .aload_n 0, 1, 68, 0), (105, .getfield 16, 3, 69, 0), (108, .bipush 16, 2, 70, 0), (110, .iaload, 1, 71, 0), (111, .iconst 1, 1, 72, 0), (112, .isub, 1, 73, 0), (113, .ireturn, 1, 74, 0)]
set_option maxRecDepth 100000 in
theorem okX8_addRoom : OkTab cX8_addRoom tX8_addRoom := ⟨by decide +kernel, by decide +kernel⟩
def tX8_setOffice : List PT := [(0, .aload_n 0, 1, 1, 0), (1, .iconst 0, 1, 2, 0), (2, .putfield 41, 3, 3, 0), (5, .aload_n 0, 1, 4, 0), (6, .aload_n 0, 1, 5, 0), (7, .iload_n 1, 1, 6, 0), (8, .invokevirtual 218, 3, 7, 0), (11, .iconst 1, 1, 8, 0), (12, .invokevirtual 52, 3, 9, 0), (15, .ifCond .ne 41, 3, 10, 30), (18, .aload_n 0, 1, 11, 0), (19, .iload_n 2, 1, 12, 0), (20, .iconst (-1), 1, 13, 0), (21, .if_icmp .eq 23, 3, 14, 24), (24, .iload_n 2, 1, 15, 0), (25, .invokestatic 204, 3, 16, 0), (28, .ifCond .eq 20, 3, 17, 26), (31, .iload_n 3, 1, 18, 0), (32, .i2l, 1, 19, 0), (33, .iload_n 2, 1, 20, 0), (34, .i2l, 1, 21, 0), (35, .ldc2_w 174, 3, 22, 0), (38, .invokestatic 56, 3, 23, 0), (41, .ifCond .eq 7, 3, 24, 26), (44, .iconst 1, 1, 25, 0), (45, .goto 4, 3, 26, 27), (48, .iconst 0, 1, 27, 0), (49, .iconst 2, 1, 28, 0), (50, .invokevirtual 52, 3, 29, 0), (53, .ifCond .eq 5, 3, 30, 32), (56, .iconst 0, 1, 31, 0), (57, .ireturn, 1, 32, 0), (58, .aload_n 0, 1, 33, 0), (59, .iload_n 1, 1, 34, 0), (60, .iconst 0, 1, 35, 0), (61, .sipush 359, 3, 36, 0), (64, .invokevirtual 221, 3, 37, 0), (67, .istore 4, 2, 38, 0), (69, .aload_n 0, 1, 39, 0), (70, .invokevirtual 193, 3, 40, 0), (73, .aload_n 0, 1, 41, 0), (74, .getfield 16, 3, 42, 0), (77, .bipush 17, 2, 43, 0), (79, .iconst 3, 1, 44, 0), (80, .iload_n 1, 1, 45, 0), (81, .imul, 1, 46, 0), (82, .iadd, 1, 47, 0), (83, .iconst 1, 1, 48, 0), (84, .iadd, 1, 49, 0), (85, .iload_n 2, 1, 50, 0), (86, .iastore, 1, 51, 0), (87, .aload_n 0, 1, 52, 0), (88, .getfield 16, 3, 53, 0), (91, .bipush 17, 2, 54, 0), (93, .iconst 3, 1, 55, 0), (94, .iload_n 1, 1, 56, 0), (95, .imul, 1, 57, 0), (96, .iadd, 1, 58, 0), (97, .iconst 2, 1, 59, 0), (98, .iadd, 1, 60, 0), (99, .iload_n 2, 1, 61, 0), (100, .iconst (-1), 1, 62, 0), (101, .if_icmp .ne 7, 3, 63, 65), (104, .iconst (-1), 1, 64, 0), (105, .goto 4, 3, 65, 66), (108, .iload_n 3, 1, 66, 0), (109, .iastore, 1, 67, 0), (110, .iload 4, 2, 68, 0), (112, .ireturn, 1, 69, 0)]
set_option maxRecDepth 100000 in
theorem okX8_setOffice : OkTab cX8_setOffice tX8_setOffice := ⟨by decide +kernel, by decide +kernel⟩
def tX8_addAsset : List PT := [(0, .aload_n 0, 1, 1, 0), (1, .iconst 0, 1, 2, 0), (2, .putfield 41, 3, 3, 0), (5, .aload_n 0, 1, 4, 0), (6, .iload_n 1, 1, 5, 0), (7, .i2l, 1, 6, 0), (8, .lconst 1, 1, 7, 0), (9, .ldc2_w 225, 3, 8, 0), (12, .invokestatic 56, 3, 9, 0), (15, .ifCond .eq 26, 3, 10, 21), (18, .iload_n 2, 1, 11, 0), (19, .invokestatic 204, 3, 12, 0), (22, .ifCond .eq 19, 3, 13, 21), (25, .iload_n 3, 1, 14, 0), (26, .i2l, 1, 15, 0), (27, .lconst 1, 1, 16, 0), (28, .ldc2_w 227, 3, 17, 0), (31, .invokestatic 56, 3, 18, 0), (34, .ifCond .eq 7, 3, 19, 21), (37, .iconst 1, 1, 20, 0), (38, .goto 4, 3, 21, 22), (41, .iconst 0, 1, 22, 0), (42, .iconst 1, 1, 23, 0), (43, .invokevirtual 52, 3, 24, 0), (46, .ifCond .ne 29, 3, 25, 38), (49, .aload_n 0, 1, 26, 0), (50, .aload_n 0, 1, 27, 0), (51, .getfield 16, 3, 28, 0), (54, .sipush 456, 3, 29, 0), (57, .iaload, 1, 30, 0), (58, .bipush 12, 2, 31, 0), (60, .if_icmp .ge 7, 3, 32, 34), (63, .iconst 1, 1, 33, 0), (64, .goto 4, 3, 34, 35), (67, .iconst 0, 1, 35, 0), (68, .iconst 2, 1, 36, 0), (69, .invokevirtual 52, 3, 37, 0), (72, .ifCond .eq 5, 3, 38, 40), (75, .iconst 0, 1, 39, 0), (76, .ireturn, 1, 40, 0), (77, .aload_n 0, 1, 41, 0), (78, .invokevirtual 193, 3, 42, 0), (81, .sipush 457, 3, 43, 0), (84, .iconst 5, 1, 44, 0), (85, .aload_n 0, 1, 45, 0), (86, .getfield 16, 3, 46, 0), (89, .sipush 456, 3, 47, 0), (92, .iaload, 1, 48, 0), (93, .imul, 1, 49, 0), (94, .iadd, 1, 50, 0), (95, .istore 4, 2, 51, 0), (97, .aload_n 0, 1, 52, 0), (98, .getfield 16, 3, 53, 0), (101, .iload 4, 2, 54, 0), (103, .iconst 0, 1, 55, 0), (104, .iadd, 1, 56, 0), (105, .iload_n 1, 1, 57, 0), (106, .iastore, 1, 58, 0), (107, .aload_n 0, 1, 59, 0), (108, .getfield 16, 3, 60, 0), (111, .iload 4, 2, 61, 0), (113, .iconst 1, 1, 62, 0), (114, .iadd, 1, 63, 0), (115, .iload_n 2, 1, 64, 0), (116, .iastore, 1, 65, 0), (117, .aload_n 0, 1, 66, 0), (118, .getfield 16, 3, 67, 0), (121, .iload 4, 2, 68, 0), (123, .iconst 2, 1, 69, 0), (124, .iadd, 1, 70, 0), (125, .iload_n 3, 1, 71, 0), (126, .iastore, 1, 72, 0), (127, .aload_n 0, 1, 73, 0), (128, .getfield 16, 3, 74, 0), (131, .iload 4, 2, 75, 0), (133, .iconst 3, 1, 76, 0), (134, .iadd, 1, 77, 0), (135, .iconst (-1), 1, 78, 0), (136, .iastore, 1, 79, 0), (137, .aload_n 0, 1, 80, 0), (138, .getfield 16, 3, 81, 0), (141, .iload 4, 2, 82, 0), (143, .iconst 4, 1, 83, 0), (144, .iadd, 1, 84, 0), (145, .iconst (-1), 1, 85, 0), (146, .iastore, 1, 86, 0), (147, .aload_n 0, 1, 87, 0), (148, .getfield 16, 3, 88, 0), (151, .sipush 456, 3, 89, 0), (154, .dup2, 1, 90, 0), (155, .iaload, 1, 91, 0), (156, .iconst 1, 1, 92, 0), (157, .iadd, 1, 93, 0), (158, .iastore, 1, 94, 0), (159, .aload_n 0, 1, 95, 0), (160, .getfield 16, 3, 96, 0), (163, .sipush 456, 3, 97, 0), (166, .iaload, 1, 98, 0), (167, .iconst 1, 1, 99, 0), (168, .isub, 1, 100, 0), (169, .ireturn, 1, 101, 0)]
set_option maxRecDepth 100000 in
theorem okX8_addAsset : OkTab cX8_addAsset tX8_addAsset := ⟨by decide +kernel, by decide +kernel⟩
def tX8_isSold : List PT := [(0, .aload_n 0, 1, 1, 0), (1, .iload_n 1, 1, 2, 0), (2, .iconst 3, 1, 3, 0), (3, .invokevirtual 229, 3, 4, 0), (6, .iconst (-1), 1, 5, 0), (7, .if_icmp .eq 7, 3, 6, 8), (10, .iconst 1, 1, 7, 0), (11, .goto 4, 3, 8, 9), (14, .iconst 0, 1, 9, 0), (15, .ireturn, 1, 10, 0)]
set_option maxRecDepth 100000 in
theorem okX8_isSold : OkTab cX8_isSold tX8_isSold := ⟨by decide +kernel, by decide +kernel⟩
def tX8_sellAsset : List PT := [(0, .aload_n 0, 1, 1, 0), (1, .iconst 0, 1, 2, 0), (2, .putfield 41, 3, 3, 0), (5, .aload_n 0, 1, 4, 0), (6, .aload_n 0, 1, 5, 0), (7, .iload_n 1, 1, 6, 0), (8, .invokevirtual 232, 3, 7, 0), (11, .iconst 1, 1, 8, 0), (12, .invokevirtual 52, 3, 9, 0), (15, .ifCond .ne 67, 3, 10, 44), (18, .aload_n 0, 1, 11, 0), (19, .iload_n 2, 1, 12, 0), (20, .i2l, 1, 13, 0), (21, .aload_n 0, 1, 14, 0), (22, .iload_n 1, 1, 15, 0), (23, .iconst 1, 1, 16, 0), (24, .invokevirtual 229, 3, 17, 0), (27, .i2l, 1, 18, 0), (28, .ldc2_w 174, 3, 19, 0), (31, .invokestatic 56, 3, 20, 0), (34, .ifCond .eq 19, 3, 21, 29), (37, .iload_n 3, 1, 22, 0), (38, .i2l, 1, 23, 0), (39, .lconst 0, 1, 24, 0), (40, .ldc2_w 225, 3, 25, 0), (43, .invokestatic 56, 3, 26, 0), (46, .ifCond .eq 7, 3, 27, 29), (49, .iconst 1, 1, 28, 0), (50, .goto 4, 3, 29, 30), (53, .iconst 0, 1, 30, 0), (54, .iconst 2, 1, 31, 0), (55, .invokevirtual 52, 3, 32, 0), (58, .ifCond .ne 24, 3, 33, 44), (61, .aload_n 0, 1, 34, 0), (62, .aload_n 0, 1, 35, 0), (63, .iload_n 1, 1, 36, 0), (64, .invokevirtual 235, 3, 37, 0), (67, .ifCond .ne 7, 3, 38, 40), (70, .iconst 1, 1, 39, 0), (71, .goto 4, 3, 40, 41), (74, .iconst 0, 1, 41, 0), (75, .iconst 3, 1, 42, 0), (76, .invokevirtual 52, 3, 43, 0), (79, .ifCond .eq 5, 3, 44, 46), (82, .iconst 0, 1, 45, 0), (83, .ireturn, 1, 46, 0), (84, .iload_n 2, 1, 47, 0), (85, .bipush 30, 2, 48, 0), (87, .idiv, 1, 49, 0), (88, .istore 4, 2, 50, 0), (90, .iload 4, 2, 51, 0), (92, .ifCond .ne 7, 3, 52, 54), (95, .iconst 0, 1, 53, 0), (96, .goto 12, 3, 54, 60), (99, .aload_n 0, 1, 55, 0), (100, .iload_n 1, 1, 56, 0), (101, .iload 4, 2, 57, 0), (103, .iconst 1, 1, 58, 0), (104, .isub, 1, 59, 0), (105, .invokevirtual 238, 3, 60, 0), (108, .istore 5, 2, 61, 0), (110, .aload_n 0, 1, 62, 0), (111, .invokevirtual 193, 3, 63, 0), (114, .aload_n 0, 1, 64, 0), (115, .getfield 16, 3, 65, 0), (118, .sipush 457, 3, 66, 0), (121, .iconst 5, 1, 67, 0), (122, .iload_n 1, 1, 68, 0), (123, .imul, 1, 69, 0), (124, .iadd, 1, 70, 0), (125, .iconst 3, 1, 71, 0), (126, .iadd, 1, 72, 0), (127, .iload_n 2, 1, 73, 0), (128, .iastore, 1, 74, 0), (129, .aload_n 0, 1, 75, 0), (130, .getfield 16, 3, 76, 0), (133, .sipush 457, 3, 77, 0), (136, .iconst 5, 1, 78, 0), (137, .iload_n 1, 1, 79, 0), (138, .imul, 1, 80, 0), (139, .iadd, 1, 81, 0), (140, .iconst 4, 1, 82, 0), (141, .iadd, 1, 83, 0), (142, .iload_n 3, 1, 84, 0), (143, .iastore, 1, 85, 0), (144, .iload 5, 2, 86, 0), (146, .ireturn, 1, 87, 0)]
set_option maxRecDepth 100000 in
theorem okX8_sellAsset : OkTab cX8_sellAsset tX8_sellAsset := ⟨by decide +kernel, by decide +kernel⟩
def tX8_closeQuarter : List PT := [(0, .aload_n 0, 1, 1, 0), (1, .iconst 0, 1, 2, 0), (2, .putfield 41, 3, 3, 0), (5, .aload_n 0, 1, 4, 0), (6, .aload_n 0, 1, 5, 0), (7, .getfield 16, 3, 6, 0), (10, .sipush 517, 3, 7, 0), (13, .iaload, 1, 8, 0), (14, .iconst 4, 1, 9, 0), (15, .if_icmp .ge 7, 3, 10, 12), (18, .iconst 1, 1, 11, 0), (19, .goto 4, 3, 12, 13), (22, .iconst 0, 1, 13, 0), (23, .iconst 1, 1, 14, 0), (24, .invokevirtual 52, 3, 15, 0), (27, .ifCond .eq 5, 3, 16, 18), (30, .iconst 0, 1, 17, 0), (31, .ireturn, 1, 18, 0), (32, .aload_n 0, 1, 19, 0), (33, .getfield 16, 3, 20, 0), (36, .sipush 517, 3, 21, 0), (39, .iaload, 1, 22, 0), (40, .istore_n 1, 1, 23, 0), (41, .aload_n 0, 1, 24, 0), (42, .iload_n 1, 1, 25, 0), (43, .aload_n 0, 1, 26, 0), (44, .iload_n 1, 1, 27, 0), (45, .invokevirtual 241, 3, 28, 0), (48, .invokevirtual 245, 3, 29, 0), (51, .istore_n 2, 1, 30, 0), (52, .aload_n 0, 1, 31, 0), (53, .invokevirtual 193, 3, 32, 0), (56, .aload_n 0, 1, 33, 0), (57, .getfield 16, 3, 34, 0), (60, .sipush 518, 3, 35, 0), (63, .iload_n 1, 1, 36, 0), (64, .iadd, 1, 37, 0), (65, .iload_n 2, 1, 38, 0), (66, .iastore, 1, 39, 0), (67, .aload_n 0, 1, 40, 0), (68, .getfield 16, 3, 41, 0), (71, .sipush 517, 3, 42, 0), (74, .dup2, 1, 43, 0), (75, .iaload, 1, 44, 0), (76, .iconst 1, 1, 45, 0), (77, .iadd, 1, 46, 0), (78, .iastore, 1, 47, 0), (79, .iload_n 2, 1, 48, 0), (80, .ireturn, 1, 49, 0)]
set_option maxRecDepth 100000 in
theorem okX8_closeQuarter : OkTab cX8_closeQuarter tX8_closeQuarter := ⟨by decide +kernel, by decide +kernel⟩
def tX8_setStart : List PT := [(0, .aload_n 0, 1, 1, 0), (1, .iconst 0, 1, 2, 0), (2, .putfield 41, 3, 3, 0), (5, .aload_n 0, 1, 4, 0), (6, .iload_n 1, 1, 5, 0), (7, .i2l, 1, 6, 0), (8, .ldc2_w 249, 3, 7, 0), (11, .ldc2_w 182, 3, 8, 0), (14, .invokestatic 56, 3, 9, 0), (17, .iconst 1, 1, 10, 0), (18, .invokevirtual 52, 3, 11, 0), (21, .ifCond .eq 7, 3, 12, 14), (24, .iconst 0, 1, 13, 0), (25, .goto 9, 3, 14, 18), (28, .aload_n 0, 1, 15, 0), (29, .iconst 0, 1, 16, 0), (30, .iload_n 1, 1, 17, 0), (31, .invokevirtual 213, 3, 18, 0), (34, .ireturn, 1, 19, 0)]
set_option maxRecDepth 100000 in
theorem okX8_setStart : OkTab cX8_setStart tX8_setStart := ⟨by decide +kernel, by decide +kernel⟩
def tX8_usedDays : List PT := [(0, .aload_n 0, 1, 1, 0), (1, .iload_n 1, 1, 2, 0), (2, .iconst 1, 1, 3, 0), (3, .invokevirtual 251, 3, 4, 0), (6, .iconst (-1), 1, 5, 0), (7, .if_icmp .ne 5, 3, 6, 8), (10, .iconst 0, 1, 7, 0), (11, .ireturn, 1, 8, 0), (12, .iload_n 2, 1, 9, 0), (13, .aload_n 0, 1, 10, 0), (14, .iload_n 1, 1, 11, 0), (15, .iconst 1, 1, 12, 0), (16, .invokevirtual 251, 3, 13, 0), (19, .invokestatic 254, 3, 14, 0), (22, .istore 4, 2, 15, 0), (24, .iload_n 3, 1, 16, 0), (25, .aload_n 0, 1, 17, 0), (26, .iload_n 1, 1, 18, 0), (27, .iconst 2, 1, 19, 0), (28, .invokevirtual 251, 3, 20, 0), (31, .invokestatic 257, 3, 21, 0), (34, .istore 5, 2, 22, 0), (36, .iconst 0, 1, 23, 0), (37, .iload 5, 2, 24, 0), (39, .iload 4, 2, 25, 0), (41, .isub, 1, 26, 0), (42, .iconst 1, 1, 27, 0), (43, .iadd, 1, 28, 0), (44, .invokestatic 254, 3, 29, 0), (47, .ireturn, 1, 30, 0)]
set_option maxRecDepth 100000 in
theorem okX8_usedDays : OkTab cX8_usedDays tX8_usedDays := ⟨by decide +kernel, by decide +kernel⟩
def tX8_shareAbove : List PT := [(0, .iconst 0, 1, 1, 0), (1, .istore_n 2, 1, 2, 0), (2, .iconst 0, 1, 3, 0), (3, .istore_n 3, 1, 4, 0), (4, .iload_n 3, 1, 5, 0), (5, .aload_n 0, 1, 6, 0), (6, .getfield 16, 3, 7, 0), (9, .bipush 16, 2, 8, 0), (11, .iaload, 1, 9, 0), (12, .if_icmp .ge 37, 3, 10, 33), (15, .iload_n 2, 1, 11, 0), (16, .aload_n 0, 1, 12, 0), (17, .iload_n 3, 1, 13, 0), (18, .iconst 0, 1, 14, 0), (19, .invokevirtual 251, 3, 15, 0), (22, .aload_n 0, 1, 16, 0), (23, .iload_n 3, 1, 17, 0), (24, .bipush 30, 2, 18, 0), (26, .iload_n 1, 1, 19, 0), (27, .imul, 1, 20, 0), (28, .bipush 30, 2, 21, 0), (30, .iload_n 1, 1, 22, 0), (31, .imul, 1, 23, 0), (32, .bipush 30, 2, 24, 0), (34, .iadd, 1, 25, 0), (35, .iconst 1, 1, 26, 0), (36, .isub, 1, 27, 0), (37, .invokevirtual 221, 3, 28, 0), (40, .imul, 1, 29, 0), (41, .iadd, 1, 30, 0), (42, .istore_n 2, 1, 31, 0), (43, .iinc 3 1, 3, 32, 0), (46, .goto (-42), 3, 33, 4), (49, .iload_n 2, 1, 34, 0), (50, .ireturn, 1, 35, 0)]
set_option maxRecDepth 100000 in
theorem okX8_shareAbove : OkTab cX8_shareAbove tX8_shareAbove := ⟨by decide +kernel, by decide +kernel⟩
def tX8_shareBelow : List PT := [(0, .iconst 0, 1, 1, 0), (1, .istore_n 1, 1, 2, 0), (2, .iconst 0, 1, 3, 0), (3, .istore_n 2, 1, 4, 0), (4, .iload_n 2, 1, 5, 0), (5, .aload_n 0, 1, 6, 0), (6, .getfield 16, 3, 7, 0), (9, .bipush 16, 2, 8, 0), (11, .iaload, 1, 9, 0), (12, .if_icmp .ge 18, 3, 10, 19), (15, .iload_n 1, 1, 11, 0), (16, .aload_n 0, 1, 12, 0), (17, .iload_n 2, 1, 13, 0), (18, .iconst 0, 1, 14, 0), (19, .invokevirtual 251, 3, 15, 0), (22, .iadd, 1, 16, 0), (23, .istore_n 1, 1, 17, 0), (24, .iinc 2 1, 3, 18, 0), (27, .goto (-23), 3, 19, 4), (30, .iload_n 1, 1, 20, 0), (31, .ifCond .ne 7, 3, 21, 23), (34, .iconst 1, 1, 22, 0), (35, .goto 7, 3, 23, 26), (38, .bipush 30, 2, 24, 0), (40, .iload_n 1, 1, 25, 0), (41, .imul, 1, 26, 0), (42, .ireturn, 1, 27, 0)]
set_option maxRecDepth 100000 in
theorem okX8_shareBelow : OkTab cX8_shareBelow tX8_shareBelow := ⟨by decide +kernel, by decide +kernel⟩
def tX8_common : List PT := [(0, .iload_n 0, 1, 1, 0), (1, .istore_n 2, 1, 2, 0), (2, .iload_n 1, 1, 3, 0), (3, .istore_n 3, 1, 4, 0), (4, .iload_n 3, 1, 5, 0), (5, .ifCond .eq 16, 3, 6, 15), (8, .iload_n 2, 1, 7, 0), (9, .iload_n 3, 1, 8, 0), (10, .irem, 1, 9, 0), (11, .istore 4, 2, 10, 0), (13, .iload_n 3, 1, 11, 0), (14, .istore_n 2, 1, 12, 0), (15, .iload 4, 2, 13, 0), (17, .istore_n 3, 1, 14, 0), (18, .goto (-14), 3, 15, 4), (21, .iload_n 2, 1, 16, 0), (22, .ireturn, 1, 17, 0)]
set_option maxRecDepth 100000 in
theorem okX8_common : OkTab cX8_common tX8_common := ⟨by decide +kernel, by decide +kernel⟩
def tX8_deducted : List PT := [(0, .iload_n 1, 1, 1, 0), (1, .iconst 1, 1, 2, 0), (2, .if_icmp .ne 6, 3, 3, 6), (5, .iload_n 2, 1, 4, 0), (6, .i2l, 1, 5, 0), (7, .lreturn, 1, 6, 0), (8, .iload_n 1, 1, 7, 0), (9, .iconst 2, 1, 8, 0), (10, .if_icmp .ne 24, 3, 9, 23), (13, .iload_n 2, 1, 10, 0), (14, .i2l, 1, 11, 0), (15, .aload_n 0, 1, 12, 0), (16, .iload_n 3, 1, 13, 0), (17, .bipush 30, 2, 14, 0), (19, .idiv, 1, 15, 0), (20, .invokevirtual 259, 3, 16, 0), (23, .i2l, 1, 17, 0), (24, .lmul, 1, 18, 0), (25, .aload_n 0, 1, 19, 0), (26, .invokevirtual 262, 3, 20, 0), (29, .i2l, 1, 21, 0), (30, .ldiv, 1, 22, 0), (31, .goto 4, 3, 23, 24), (34, .lconst 0, 1, 24, 0), (35, .lreturn, 1, 25, 0)]
set_option maxRecDepth 100000 in
theorem okX8_deducted : OkTab cX8_deducted tX8_deducted := ⟨by decide +kernel, by decide +kernel⟩
def tX8_deductedOf : List PT := [(0, .aload_n 0, 1, 1, 0), (1, .iload_n 1, 1, 2, 0), (2, .invokevirtual 190, 3, 3, 0), (5, .ifCond .eq 28, 3, 4, 19), (8, .aload_n 0, 1, 5, 0), (9, .aload_n 0, 1, 6, 0), (10, .iload_n 1, 1, 7, 0), (11, .iconst 0, 1, 8, 0), (12, .invokevirtual 184, 3, 9, 0), (15, .aload_n 0, 1, 10, 0), (16, .iload_n 1, 1, 11, 0), (17, .iconst 2, 1, 12, 0), (18, .invokevirtual 184, 3, 13, 0), (21, .aload_n 0, 1, 14, 0), (22, .iload_n 1, 1, 15, 0), (23, .iconst 4, 1, 16, 0), (24, .invokevirtual 184, 3, 17, 0), (27, .invokevirtual 265, 3, 18, 0), (30, .goto 4, 3, 19, 20), (33, .lconst 0, 1, 20, 0), (34, .lreturn, 1, 21, 0)]
set_option maxRecDepth 100000 in
theorem okX8_deductedOf : OkTab cX8_deductedOf tX8_deductedOf := ⟨by decide +kernel, by decide +kernel⟩
def tX8_sortOf : List PT := [(0, .aload_n 0, 1, 1, 0), (1, .iload_n 1, 1, 2, 0), (2, .iconst 0, 1, 3, 0), (3, .invokevirtual 229, 3, 4, 0), (6, .istore_n 2, 1, 5, 0), (7, .iload_n 2, 1, 6, 0), (8, .aload_n 0, 1, 7, 0), (9, .getfield 16, 3, 8, 0), (12, .iconst 1, 1, 9, 0), (13, .iaload, 1, 10, 0), (14, .if_icmp .gt 7, 3, 11, 13), (17, .iconst 0, 1, 12, 0), (18, .goto 18, 3, 13, 22), (21, .iload_n 2, 1, 14, 0), (22, .aload_n 0, 1, 15, 0), (23, .getfield 16, 3, 16, 0), (26, .iconst 2, 1, 17, 0), (27, .iaload, 1, 18, 0), (28, .if_icmp .gt 7, 3, 19, 21), (31, .iconst 1, 1, 20, 0), (32, .goto 4, 3, 21, 22), (35, .iconst 2, 1, 22, 0), (36, .ireturn, 1, 23, 0)]
set_option maxRecDepth 100000 in
theorem okX8_sortOf : OkTab cX8_sortOf tX8_sortOf := ⟨by decide +kernel, by decide +kernel⟩
def tX8_boughtIn : List PT := [(0, .aload_n 0, 1, 1, 0), (1, .iload_n 1, 1, 2, 0), (2, .iconst 1, 1, 3, 0), (3, .invokevirtual 229, 3, 4, 0), (6, .bipush 30, 2, 5, 0), (8, .idiv, 1, 6, 0), (9, .ireturn, 1, 7, 0)]
set_option maxRecDepth 100000 in
theorem okX8_boughtIn : OkTab cX8_boughtIn tX8_boughtIn := ⟨by decide +kernel, by decide +kernel⟩
def tX8_soldIn : List PT := [(0, .aload_n 0, 1, 1, 0), (1, .iload_n 1, 1, 2, 0), (2, .invokevirtual 235, 3, 3, 0), (5, .ifCond .eq 15, 3, 4, 11), (8, .aload_n 0, 1, 5, 0), (9, .iload_n 1, 1, 6, 0), (10, .iconst 3, 1, 7, 0), (11, .invokevirtual 229, 3, 8, 0), (14, .bipush 30, 2, 9, 0), (16, .idiv, 1, 10, 0), (17, .goto 5, 3, 11, 12), (20, .bipush 12, 2, 12, 0), (22, .ireturn, 1, 13, 0)]
set_option maxRecDepth 100000 in
theorem okX8_soldIn : OkTab cX8_soldIn tX8_soldIn := ⟨by decide +kernel, by decide +kernel⟩
def tX8_byLife : List PT := [(0, .iload_n 2, 1, 1, 0), (1, .aload_n 0, 1, 2, 0), (2, .iload_n 1, 1, 3, 0), (3, .invokevirtual 269, 3, 4, 0), (6, .isub, 1, 5, 0), (7, .iconst 1, 1, 6, 0), (8, .iadd, 1, 7, 0), (9, .istore_n 3, 1, 8, 0), (10, .iload_n 3, 1, 9, 0), (11, .ifCond .gt 5, 3, 10, 12), (14, .iconst 0, 1, 11, 0), (15, .ireturn, 1, 12, 0), (16, .aload_n 0, 1, 13, 0), (17, .iload_n 1, 1, 14, 0), (18, .iconst 0, 1, 15, 0), (19, .invokevirtual 229, 3, 16, 0), (22, .i2l, 1, 17, 0), (23, .iload_n 3, 1, 18, 0), (24, .i2l, 1, 19, 0), (25, .lmul, 1, 20, 0), (26, .aload_n 0, 1, 21, 0), (27, .iload_n 1, 1, 22, 0), (28, .iconst 2, 1, 23, 0), (29, .invokevirtual 229, 3, 24, 0), (32, .i2l, 1, 25, 0), (33, .ldiv, 1, 26, 0), (34, .lstore 4, 2, 27, 0), (36, .lload 4, 2, 28, 0), (38, .aload_n 0, 1, 29, 0), (39, .iload_n 1, 1, 30, 0), (40, .iconst 0, 1, 31, 0), (41, .invokevirtual 229, 3, 32, 0), (44, .i2l, 1, 33, 0), (45, .invokestatic 90, 3, 34, 0), (48, .l2i, 1, 35, 0), (49, .ireturn, 1, 36, 0)]
set_option maxRecDepth 100000 in
theorem okX8_byLife : OkTab cX8_byLife tX8_byLife := ⟨by decide +kernel, by decide +kernel⟩
def tX8_writtenTo : List PT := [(0, .iload_n 2, 1, 1, 0), (1, .aload_n 0, 1, 2, 0), (2, .iload_n 1, 1, 3, 0), (3, .invokevirtual 269, 3, 4, 0), (6, .if_icmp .ge 5, 3, 5, 7), (9, .iconst 0, 1, 6, 0), (10, .ireturn, 1, 7, 0), (11, .aload_n 0, 1, 8, 0), (12, .iload_n 1, 1, 9, 0), (13, .invokevirtual 272, 3, 10, 0), (16, .ifCond .eq 12, 3, 11, 16), (19, .iload_n 2, 1, 12, 0), (20, .aload_n 0, 1, 13, 0), (21, .iload_n 1, 1, 14, 0), (22, .invokevirtual 275, 3, 15, 0), (25, .if_icmp .lt 10, 3, 16, 21), (28, .aload_n 0, 1, 17, 0), (29, .iload_n 1, 1, 18, 0), (30, .iconst 0, 1, 19, 0), (31, .invokevirtual 229, 3, 20, 0), (34, .ireturn, 1, 21, 0), (35, .aload_n 0, 1, 22, 0), (36, .iload_n 1, 1, 23, 0), (37, .iload_n 2, 1, 24, 0), (38, .invokevirtual 278, 3, 25, 0), (41, .ireturn, 1, 26, 0)]
set_option maxRecDepth 100000 in
theorem okX8_writtenTo : OkTab cX8_writtenTo tX8_writtenTo := ⟨by decide +kernel, by decide +kernel⟩
def tX8_writtenIn : List PT := [(0, .aload_n 0, 1, 1, 0), (1, .iload_n 1, 1, 2, 0), (2, .invokevirtual 272, 3, 3, 0), (5, .iconst 1, 1, 4, 0), (6, .if_icmp .ne 5, 3, 5, 7), (9, .iconst 0, 1, 6, 0), (10, .ireturn, 1, 7, 0), (11, .iload_n 2, 1, 8, 0), (12, .ifCond .ne 7, 3, 9, 11), (15, .iconst 0, 1, 10, 0), (16, .goto 11, 3, 11, 17), (19, .aload_n 0, 1, 12, 0), (20, .iload_n 1, 1, 13, 0), (21, .iload_n 2, 1, 14, 0), (22, .iconst 1, 1, 15, 0), (23, .isub, 1, 16, 0), (24, .invokevirtual 281, 3, 17, 0), (27, .istore_n 3, 1, 18, 0), (28, .aload_n 0, 1, 19, 0), (29, .iload_n 1, 1, 20, 0), (30, .iload_n 2, 1, 21, 0), (31, .invokevirtual 281, 3, 22, 0), (34, .iload_n 3, 1, 23, 0), (35, .isub, 1, 24, 0), (36, .ireturn, 1, 25, 0)]
set_option maxRecDepth 100000 in
theorem okX8_writtenIn : OkTab cX8_writtenIn tX8_writtenIn := ⟨by decide +kernel, by decide +kernel⟩
def tX8_valueOf : List PT := [(0, .iload_n 2, 1, 1, 0), (1, .aload_n 0, 1, 2, 0), (2, .iload_n 1, 1, 3, 0), (3, .invokevirtual 269, 3, 4, 0), (6, .if_icmp .lt 25, 3, 5, 17), (9, .iload_n 2, 1, 6, 0), (10, .aload_n 0, 1, 7, 0), (11, .iload_n 1, 1, 8, 0), (12, .invokevirtual 275, 3, 9, 0), (15, .if_icmp .ge 16, 3, 10, 17), (18, .aload_n 0, 1, 11, 0), (19, .iload_n 1, 1, 12, 0), (20, .invokevirtual 272, 3, 13, 0), (23, .iconst 1, 1, 14, 0), (24, .if_icmp .eq 7, 3, 15, 17), (27, .iconst 1, 1, 16, 0), (28, .goto 4, 3, 17, 18), (31, .iconst 0, 1, 18, 0), (32, .istore_n 3, 1, 19, 0), (33, .iload_n 3, 1, 20, 0), (34, .ifCond .eq 19, 3, 21, 31), (37, .aload_n 0, 1, 22, 0), (38, .iload_n 1, 1, 23, 0), (39, .iconst 0, 1, 24, 0), (40, .invokevirtual 229, 3, 25, 0), (43, .aload_n 0, 1, 26, 0), (44, .iload_n 1, 1, 27, 0), (45, .iload_n 2, 1, 28, 0), (46, .invokevirtual 281, 3, 29, 0), (49, .isub, 1, 30, 0), (50, .goto 4, 3, 31, 32), (53, .iconst 0, 1, 32, 0), (54, .ireturn, 1, 33, 0)]
set_option maxRecDepth 100000 in
theorem okX8_valueOf : OkTab cX8_valueOf tX8_valueOf := ⟨by decide +kernel, by decide +kernel⟩
def tX8_poolTo : List PT := [(0, .iconst 0, 1, 1, 0), (1, .istore_n 2, 1, 2, 0), (2, .iconst 0, 1, 3, 0), (3, .istore_n 3, 1, 4, 0), (4, .iload_n 3, 1, 5, 0), (5, .aload_n 0, 1, 6, 0), (6, .getfield 16, 3, 7, 0), (9, .sipush 456, 3, 8, 0), (12, .iaload, 1, 9, 0), (13, .if_icmp .ge 56, 3, 10, 40), (16, .aload_n 0, 1, 11, 0), (17, .iload_n 3, 1, 12, 0), (18, .invokevirtual 272, 3, 13, 0), (21, .iconst 1, 1, 14, 0), (22, .if_icmp .ne 20, 3, 15, 25), (25, .aload_n 0, 1, 16, 0), (26, .iload_n 3, 1, 17, 0), (27, .iconst 1, 1, 18, 0), (28, .invokevirtual 229, 3, 19, 0), (31, .bipush 90, 2, 20, 0), (33, .idiv, 1, 21, 0), (34, .iload_n 1, 1, 22, 0), (35, .if_icmp .gt 7, 3, 23, 25), (38, .iconst 1, 1, 24, 0), (39, .goto 4, 3, 25, 26), (42, .iconst 0, 1, 26, 0), (43, .istore 4, 2, 27, 0), (45, .iload_n 2, 1, 28, 0), (46, .iload 4, 2, 29, 0), (48, .ifCond .eq 12, 3, 30, 35), (51, .aload_n 0, 1, 31, 0), (52, .iload_n 3, 1, 32, 0), (53, .iconst 0, 1, 33, 0), (54, .invokevirtual 229, 3, 34, 0), (57, .goto 4, 3, 35, 36), (60, .iconst 0, 1, 36, 0), (61, .iadd, 1, 37, 0), (62, .istore_n 2, 1, 38, 0), (63, .iinc 3 1, 3, 39, 0), (66, .goto (-62), 3, 40, 4), (69, .iload_n 2, 1, 41, 0), (70, .ireturn, 1, 42, 0)]
set_option maxRecDepth 100000 in
theorem okX8_poolTo : OkTab cX8_poolTo tX8_poolTo := ⟨by decide +kernel, by decide +kernel⟩
def tX8_poolOff : List PT := [(0, .aload_n 0, 1, 1, 0), (1, .iload_n 1, 1, 2, 0), (2, .invokevirtual 284, 3, 3, 0), (5, .iload_n 1, 1, 4, 0), (6, .iconst 1, 1, 5, 0), (7, .iadd, 1, 6, 0), (8, .imul, 1, 7, 0), (9, .bipush 20, 2, 8, 0), (11, .idiv, 1, 9, 0), (12, .istore_n 2, 1, 10, 0), (13, .iload_n 1, 1, 11, 0), (14, .ifCond .ne 7, 3, 12, 14), (17, .iconst 0, 1, 13, 0), (18, .goto 15, 3, 14, 23), (21, .aload_n 0, 1, 15, 0), (22, .iload_n 1, 1, 16, 0), (23, .iconst 1, 1, 17, 0), (24, .isub, 1, 18, 0), (25, .invokevirtual 284, 3, 19, 0), (28, .iload_n 1, 1, 20, 0), (29, .imul, 1, 21, 0), (30, .bipush 20, 2, 22, 0), (32, .idiv, 1, 23, 0), (33, .istore_n 3, 1, 24, 0), (34, .iload_n 2, 1, 25, 0), (35, .iload_n 3, 1, 26, 0), (36, .isub, 1, 27, 0), (37, .ireturn, 1, 28, 0)]
set_option maxRecDepth 100000 in
theorem okX8_poolOff : OkTab cX8_poolOff tX8_poolOff := ⟨by decide +kernel, by decide +kernel⟩
def tX8_entriesIn : List PT := [(0, .lconst 0, 1, 1, 0), (1, .lstore_n 2, 1, 2, 0), (2, .iconst 0, 1, 3, 0), (3, .istore 4, 2, 4, 0), (5, .iload 4, 2, 5, 0), (7, .aload_n 0, 1, 6, 0), (8, .getfield 16, 3, 7, 0), (11, .bipush 35, 2, 8, 0), (13, .iaload, 1, 9, 0), (14, .if_icmp .ge 68, 3, 10, 48), (17, .aload_n 0, 1, 11, 0), (18, .iload 4, 2, 12, 0), (20, .bipush 90, 2, 13, 0), (22, .iload_n 1, 1, 14, 0), (23, .imul, 1, 15, 0), (24, .bipush 90, 2, 16, 0), (26, .iload_n 1, 1, 17, 0), (27, .imul, 1, 18, 0), (28, .bipush 90, 2, 19, 0), (30, .iadd, 1, 20, 0), (31, .iconst 1, 1, 21, 0), (32, .isub, 1, 22, 0), (33, .invokevirtual 287, 3, 23, 0), (36, .ifCond .ne 6, 3, 24, 25), (39, .goto 37, 3, 25, 46), (42, .lload_n 2, 1, 26, 0), (43, .aload_n 0, 1, 27, 0), (44, .iload 4, 2, 28, 0), (46, .iconst 0, 1, 29, 0), (47, .invokevirtual 184, 3, 30, 0), (50, .ifCond .ne 14, 3, 31, 37), (53, .aload_n 0, 1, 32, 0), (54, .iload 4, 2, 33, 0), (56, .iconst 2, 1, 34, 0), (57, .invokevirtual 184, 3, 35, 0), (60, .i2l, 1, 36, 0), (61, .goto 4, 3, 37, 38), (64, .lconst 0, 1, 38, 0), (65, .ladd, 1, 39, 0), (66, .lstore_n 2, 1, 40, 0), (67, .lload_n 2, 1, 41, 0), (68, .aload_n 0, 1, 42, 0), (69, .iload 4, 2, 43, 0), (71, .invokevirtual 291, 3, 44, 0), (74, .lsub, 1, 45, 0), (75, .lstore_n 2, 1, 46, 0), (76, .iinc 4 1, 3, 47, 0), (79, .goto (-74), 3, 48, 4), (82, .lload_n 2, 1, 49, 0), (83, .lreturn, 1, 50, 0)]
set_option maxRecDepth 100000 in
theorem okX8_entriesIn : OkTab cX8_entriesIn tX8_entriesIn := ⟨by decide +kernel, by decide +kernel⟩
def tX8_assetsIn : List PT := [(0, .lconst 0, 1, 1, 0), (1, .lstore_n 2, 1, 2, 0), (2, .iconst 0, 1, 3, 0), (3, .istore 4, 2, 4, 0), (5, .iload 4, 2, 5, 0), (7, .aload_n 0, 1, 6, 0), (8, .getfield 16, 3, 7, 0), (11, .sipush 456, 3, 8, 0), (14, .iaload, 1, 9, 0), (15, .if_icmp .ge 92, 3, 10, 61), (18, .aload_n 0, 1, 11, 0), (19, .iload 4, 2, 12, 0), (21, .invokevirtual 235, 3, 13, 0), (24, .ifCond .eq 21, 3, 14, 24), (27, .aload_n 0, 1, 15, 0), (28, .iload 4, 2, 16, 0), (30, .iconst 3, 1, 17, 0), (31, .invokevirtual 229, 3, 18, 0), (34, .bipush 90, 2, 19, 0), (36, .idiv, 1, 20, 0), (37, .iload_n 1, 1, 21, 0), (38, .if_icmp .ne 7, 3, 22, 24), (41, .iconst 1, 1, 23, 0), (42, .goto 4, 3, 24, 25), (45, .iconst 0, 1, 25, 0), (46, .istore 5, 2, 26, 0), (48, .lload_n 2, 1, 27, 0), (49, .iload 5, 2, 28, 0), (51, .ifCond .eq 14, 3, 29, 35), (54, .aload_n 0, 1, 30, 0), (55, .iload 4, 2, 31, 0), (57, .iconst 4, 1, 32, 0), (58, .invokevirtual 229, 3, 33, 0), (61, .i2l, 1, 34, 0), (62, .goto 4, 3, 35, 36), (65, .lconst 0, 1, 36, 0), (66, .ladd, 1, 37, 0), (67, .lstore_n 2, 1, 38, 0), (68, .iconst 3, 1, 39, 0), (69, .iload_n 1, 1, 40, 0), (70, .imul, 1, 41, 0), (71, .istore 6, 2, 42, 0), (73, .iload 6, 2, 43, 0), (75, .iconst 3, 1, 44, 0), (76, .iload_n 1, 1, 45, 0), (77, .imul, 1, 46, 0), (78, .iconst 3, 1, 47, 0), (79, .iadd, 1, 48, 0), (80, .if_icmp .ge 21, 3, 49, 59), (83, .lload_n 2, 1, 50, 0), (84, .aload_n 0, 1, 51, 0), (85, .iload 4, 2, 52, 0), (87, .iload 6, 2, 53, 0), (89, .invokevirtual 294, 3, 54, 0), (92, .i2l, 1, 55, 0), (93, .lsub, 1, 56, 0), (94, .lstore_n 2, 1, 57, 0), (95, .iinc 6 1, 3, 58, 0), (98, .goto (-25), 3, 59, 42), (101, .iinc 4 1, 3, 60, 0), (104, .goto (-99), 3, 61, 4), (107, .lload_n 2, 1, 62, 0), (108, .lreturn, 1, 63, 0)]
set_option maxRecDepth 100000 in
theorem okX8_assetsIn : OkTab cX8_assetsIn tX8_assetsIn := ⟨by decide +kernel, by decide +kernel⟩
def tX8_profitOf : List PT := [(0, .aload_n 0, 1, 1, 0), (1, .iload_n 1, 1, 2, 0), (2, .invokevirtual 297, 3, 3, 0), (5, .aload_n 0, 1, 4, 0), (6, .iload_n 1, 1, 5, 0), (7, .invokevirtual 300, 3, 6, 0), (10, .ladd, 1, 7, 0), (11, .aload_n 0, 1, 8, 0), (12, .iload_n 1, 1, 9, 0), (13, .invokevirtual 303, 3, 10, 0), (16, .i2l, 1, 11, 0), (17, .lsub, 1, 12, 0), (18, .lreturn, 1, 13, 0)]
set_option maxRecDepth 100000 in
theorem okX8_profitOf : OkTab cX8_profitOf tX8_profitOf := ⟨by decide +kernel, by decide +kernel⟩
def tX8_profitsTo : List PT := [(0, .lconst 0, 1, 1, 0), (1, .lstore_n 2, 1, 2, 0), (2, .iconst 0, 1, 3, 0), (3, .istore 4, 2, 4, 0), (5, .iload 4, 2, 5, 0), (7, .iload_n 1, 1, 6, 0), (8, .if_icmp .gt 18, 3, 7, 15), (11, .lload_n 2, 1, 8, 0), (12, .aload_n 0, 1, 9, 0), (13, .iload 4, 2, 10, 0), (15, .invokevirtual 306, 3, 11, 0), (18, .ladd, 1, 12, 0), (19, .lstore_n 2, 1, 13, 0), (20, .iinc 4 1, 3, 14, 0), (23, .goto (-18), 3, 15, 4), (26, .lload_n 2, 1, 16, 0), (27, .lreturn, 1, 17, 0)]
set_option maxRecDepth 100000 in
theorem okX8_profitsTo : OkTab cX8_profitsTo tX8_profitsTo := ⟨by decide +kernel, by decide +kernel⟩
def tX8_yearProfit : List PT := [(0, .aload_n 0, 1, 1, 0), (1, .iconst 3, 1, 2, 0), (2, .invokevirtual 309, 3, 3, 0), (5, .lreturn, 1, 4, 0)]
set_option maxRecDepth 100000 in
theorem okX8_yearProfit : OkTab cX8_yearProfit tX8_yearProfit := ⟨by decide +kernel, by decide +kernel⟩
def tX8_limitOf : List PT := [(0, .aload_n 0, 1, 1, 0), (1, .getfield 16, 3, 2, 0), (4, .bipush 6, 2, 3, 0), (6, .iconst 2, 1, 4, 0), (7, .iload_n 1, 1, 5, 0), (8, .imul, 1, 6, 0), (9, .iadd, 1, 7, 0), (10, .iaload, 1, 8, 0), (11, .ireturn, 1, 9, 0)]
set_option maxRecDepth 100000 in
theorem okX8_limitOf : OkTab cX8_limitOf tX8_limitOf := ⟨by decide +kernel, by decide +kernel⟩
def tX8_rateOf : List PT := [(0, .iload_n 1, 1, 1, 0), (1, .aload_n 0, 1, 2, 0), (2, .getfield 16, 3, 3, 0), (5, .iconst 5, 1, 4, 0), (6, .iaload, 1, 5, 0), (7, .if_icmp .ge 19, 3, 6, 17), (10, .aload_n 0, 1, 7, 0), (11, .getfield 16, 3, 8, 0), (14, .bipush 6, 2, 9, 0), (16, .iconst 2, 1, 10, 0), (17, .iload_n 1, 1, 11, 0), (18, .imul, 1, 12, 0), (19, .iadd, 1, 13, 0), (20, .iconst 1, 1, 14, 0), (21, .iadd, 1, 15, 0), (22, .iaload, 1, 16, 0), (23, .goto 9, 3, 17, 21), (26, .aload_n 0, 1, 18, 0), (27, .getfield 16, 3, 19, 0), (30, .iconst 4, 1, 20, 0), (31, .iaload, 1, 21, 0), (32, .ireturn, 1, 22, 0)]
set_option maxRecDepth 100000 in
theorem okX8_rateOf : OkTab cX8_rateOf tX8_rateOf := ⟨by decide +kernel, by decide +kernel⟩
def tX8_taxOf : List PT := [(0, .lconst 0, 1, 1, 0), (1, .lstore_n 3, 1, 2, 0), (2, .lconst 0, 1, 3, 0), (3, .lstore 5, 2, 4, 0), (5, .iconst 0, 1, 5, 0), (6, .istore 7, 2, 6, 0), (8, .iload 7, 2, 7, 0), (10, .aload_n 0, 1, 8, 0), (11, .getfield 16, 3, 9, 0), (14, .iconst 5, 1, 10, 0), (15, .iaload, 1, 11, 0), (16, .if_icmp .gt 74, 3, 12, 50), (19, .iload 7, 2, 13, 0), (21, .aload_n 0, 1, 14, 0), (22, .getfield 16, 3, 15, 0), (25, .iconst 5, 1, 16, 0), (26, .iaload, 1, 17, 0), (27, .if_icmp .ge 13, 3, 18, 23), (30, .aload_n 0, 1, 19, 0), (31, .iload 7, 2, 20, 0), (33, .invokevirtual 312, 3, 21, 0), (36, .i2l, 1, 22, 0), (37, .goto 6, 3, 23, 24), (40, .ldc2_w 317, 3, 24, 0), (43, .lstore 8, 2, 25, 0), (45, .lload_n 1, 1, 26, 0), (46, .lload 8, 2, 27, 0), (48, .invokestatic 90, 3, 28, 0), (51, .lload 5, 2, 29, 0), (53, .lsub, 1, 30, 0), (54, .lstore 10, 2, 31, 0), (56, .lload_n 3, 1, 32, 0), (57, .lload 10, 2, 33, 0), (59, .lconst 0, 1, 34, 0), (60, .lcmp, 1, 35, 0), (61, .ifCond .le 16, 3, 36, 43), (64, .lload 10, 2, 37, 0), (66, .aload_n 0, 1, 38, 0), (67, .iload 7, 2, 39, 0), (69, .invokevirtual 319, 3, 40, 0), (72, .i2l, 1, 41, 0), (73, .lmul, 1, 42, 0), (74, .goto 4, 3, 43, 44), (77, .lconst 0, 1, 44, 0), (78, .ladd, 1, 45, 0), (79, .lstore_n 3, 1, 46, 0), (80, .lload 8, 2, 47, 0), (82, .lstore 5, 2, 48, 0), (84, .iinc 7 1, 3, 49, 0), (87, .goto (-79), 3, 50, 6), (90, .lload_n 3, 1, 51, 0), (91, .ldc2_w 322, 3, 52, 0), (94, .ldiv, 1, 53, 0), (95, .lreturn, 1, 54, 0)]
set_option maxRecDepth 100000 in
theorem okX8_taxOf : OkTab cX8_taxOf tX8_taxOf := ⟨by decide +kernel, by decide +kernel⟩
def tX8_prepaymentFor : List PT := [(0, .aload_n 0, 1, 1, 0), (1, .iload_n 1, 1, 2, 0), (2, .invokevirtual 309, 3, 3, 0), (5, .lstore 4, 2, 4, 0), (7, .lload 4, 2, 5, 0), (9, .lconst 0, 1, 6, 0), (10, .lcmp, 1, 7, 0), (11, .ifCond .ge 7, 3, 8, 10), (14, .lconst 0, 1, 9, 0), (15, .goto 14, 3, 10, 18), (18, .lload 4, 2, 11, 0), (20, .ldc2_w 324, 3, 12, 0), (23, .lmul, 1, 13, 0), (24, .iload_n 1, 1, 14, 0), (25, .iconst 1, 1, 15, 0), (26, .iadd, 1, 16, 0), (27, .i2l, 1, 17, 0), (28, .ldiv, 1, 18, 0), (29, .lstore 6, 2, 19, 0), (31, .aload_n 0, 1, 20, 0), (32, .lload 6, 2, 21, 0), (34, .invokevirtual 326, 3, 22, 0), (37, .iload_n 1, 1, 23, 0), (38, .iconst 1, 1, 24, 0), (39, .iadd, 1, 25, 0), (40, .i2l, 1, 26, 0), (41, .lmul, 1, 27, 0), (42, .ldc2_w 324, 3, 28, 0), (45, .ldiv, 1, 29, 0), (46, .lstore 8, 2, 30, 0), (48, .lconst 0, 1, 31, 0), (49, .lload 8, 2, 32, 0), (51, .lload_n 2, 1, 33, 0), (52, .lsub, 1, 34, 0), (53, .invokestatic 330, 3, 35, 0), (56, .l2i, 1, 36, 0), (57, .ireturn, 1, 37, 0)]
set_option maxRecDepth 100000 in
theorem okX8_prepaymentFor : OkTab cX8_prepaymentFor tX8_prepaymentFor := ⟨by decide +kernel, by decide +kernel⟩
def tX8_prepaidTo : List PT := [(0, .lconst 0, 1, 1, 0), (1, .lstore_n 2, 1, 2, 0), (2, .iconst 0, 1, 3, 0), (3, .istore 4, 2, 4, 0), (5, .iload 4, 2, 5, 0), (7, .iload_n 1, 1, 6, 0), (8, .if_icmp .ge 24, 3, 7, 19), (11, .lload_n 2, 1, 8, 0), (12, .aload_n 0, 1, 9, 0), (13, .getfield 16, 3, 10, 0), (16, .sipush 518, 3, 11, 0), (19, .iload 4, 2, 12, 0), (21, .iadd, 1, 13, 0), (22, .iaload, 1, 14, 0), (23, .i2l, 1, 15, 0), (24, .ladd, 1, 16, 0), (25, .lstore_n 2, 1, 17, 0), (26, .iinc 4 1, 3, 18, 0), (29, .goto (-24), 3, 19, 4), (32, .lload_n 2, 1, 20, 0), (33, .lreturn, 1, 21, 0)]
set_option maxRecDepth 100000 in
theorem okX8_prepaidTo : OkTab cX8_prepaidTo tX8_prepaidTo := ⟨by decide +kernel, by decide +kernel⟩
def tX8_againFor : List PT := [(0, .lconst 0, 1, 1, 0), (1, .lstore_n 2, 1, 2, 0), (2, .iconst 0, 1, 3, 0), (3, .istore 4, 2, 4, 0), (5, .iconst 0, 1, 5, 0), (6, .istore 5, 2, 6, 0), (8, .iload 5, 2, 7, 0), (10, .iload_n 1, 1, 8, 0), (11, .if_icmp .gt 24, 3, 9, 21), (14, .aload_n 0, 1, 10, 0), (15, .iload 5, 2, 11, 0), (17, .lload_n 2, 1, 12, 0), (18, .invokevirtual 245, 3, 13, 0), (21, .istore 4, 2, 14, 0), (23, .lload_n 2, 1, 15, 0), (24, .iload 4, 2, 16, 0), (26, .i2l, 1, 17, 0), (27, .ladd, 1, 18, 0), (28, .lstore_n 2, 1, 19, 0), (29, .iinc 5 1, 3, 20, 0), (32, .goto (-24), 3, 21, 6), (35, .iload 4, 2, 22, 0), (37, .ireturn, 1, 23, 0)]
set_option maxRecDepth 100000 in
theorem okX8_againFor : OkTab cX8_againFor tX8_againFor := ⟨by decide +kernel, by decide +kernel⟩
def tX8_count : List PT := [(0, .aload_n 0, 1, 1, 0), (1, .iconst 0, 1, 2, 0), (2, .putfield 41, 3, 3, 0), (5, .iload_n 1, 1, 4, 0), (6, .tableswitch 114 0 8 #[50, 58, 63, 69, 76, 84, 93, 98, 107], 50, 5, 0), (56, .aload_n 0, 1, 6, 0), (57, .getfield 16, 3, 7, 0), (60, .bipush 35, 2, 8, 0), (62, .iaload, 1, 9, 0), (63, .ireturn, 1, 10, 0), (64, .aload_n 0, 1, 11, 0), (65, .invokevirtual 332, 3, 12, 0), (68, .ireturn, 1, 13, 0), (69, .aload_n 0, 1, 14, 0), (70, .iconst 5, 1, 15, 0), (71, .invokevirtual 335, 3, 16, 0), (74, .ireturn, 1, 17, 0), (75, .aload_n 0, 1, 18, 0), (76, .bipush 6, 2, 19, 0), (78, .invokevirtual 335, 3, 20, 0), (81, .ireturn, 1, 21, 0), (82, .aload_n 0, 1, 22, 0), (83, .getfield 16, 3, 23, 0), (86, .bipush 16, 2, 24, 0), (88, .iaload, 1, 25, 0), (89, .ireturn, 1, 26, 0), (90, .aload_n 0, 1, 27, 0), (91, .getfield 16, 3, 28, 0), (94, .sipush 456, 3, 29, 0), (97, .iaload, 1, 30, 0), (98, .ireturn, 1, 31, 0), (99, .aload_n 0, 1, 32, 0), (100, .invokevirtual 338, 3, 33, 0), (103, .ireturn, 1, 34, 0), (104, .aload_n 0, 1, 35, 0), (105, .getfield 16, 3, 36, 0), (108, .sipush 517, 3, 37, 0), (111, .iaload, 1, 38, 0), (112, .ireturn, 1, 39, 0), (113, .aload_n 0, 1, 40, 0), (114, .getfield 16, 3, 41, 0), (117, .iconst 5, 1, 42, 0), (118, .iaload, 1, 43, 0), (119, .ireturn, 1, 44, 0), (120, .aload_n 0, 1, 45, 0), (121, .iconst 1, 1, 46, 0), (122, .putfield 41, 3, 47, 0), (125, .iconst 0, 1, 48, 0), (126, .ireturn, 1, 49, 0)]
set_option maxRecDepth 100000 in
theorem okX8_count : OkTab cX8_count tX8_count := ⟨by decide +kernel, by decide +kernel⟩
def tX8_openMany : List PT := [(0, .iconst 0, 1, 1, 0), (1, .istore_n 1, 1, 2, 0), (2, .iconst 0, 1, 3, 0), (3, .istore_n 2, 1, 4, 0), (4, .iload_n 2, 1, 5, 0), (5, .aload_n 0, 1, 6, 0), (6, .getfield 16, 3, 7, 0), (9, .bipush 35, 2, 8, 0), (11, .iaload, 1, 9, 0), (12, .if_icmp .ge 25, 3, 10, 22), (15, .iload_n 1, 1, 11, 0), (16, .aload_n 0, 1, 12, 0), (17, .iload_n 2, 1, 13, 0), (18, .invokevirtual 341, 3, 14, 0), (21, .ifCond .eq 7, 3, 15, 17), (24, .iconst 1, 1, 16, 0), (25, .goto 4, 3, 17, 18), (28, .iconst 0, 1, 18, 0), (29, .iadd, 1, 19, 0), (30, .istore_n 1, 1, 20, 0), (31, .iinc 2 1, 3, 21, 0), (34, .goto (-30), 3, 22, 4), (37, .iload_n 1, 1, 23, 0), (38, .ireturn, 1, 24, 0)]
set_option maxRecDepth 100000 in
theorem okX8_openMany : OkTab cX8_openMany tX8_openMany := ⟨by decide +kernel, by decide +kernel⟩
def tX8_flagged : List PT := [(0, .iconst 0, 1, 1, 0), (1, .istore_n 2, 1, 2, 0), (2, .iconst 0, 1, 3, 0), (3, .istore_n 3, 1, 4, 0), (4, .iload_n 3, 1, 5, 0), (5, .aload_n 0, 1, 6, 0), (6, .getfield 16, 3, 7, 0), (9, .bipush 35, 2, 8, 0), (11, .iaload, 1, 9, 0), (12, .if_icmp .ge 18, 3, 10, 19), (15, .iload_n 2, 1, 11, 0), (16, .aload_n 0, 1, 12, 0), (17, .iload_n 3, 1, 13, 0), (18, .iload_n 1, 1, 14, 0), (19, .invokevirtual 184, 3, 15, 0), (22, .iadd, 1, 16, 0), (23, .istore_n 2, 1, 17, 0), (24, .iinc 3 1, 3, 18, 0), (27, .goto (-23), 3, 19, 4), (30, .iload_n 2, 1, 20, 0), (31, .ireturn, 1, 21, 0)]
set_option maxRecDepth 100000 in
theorem okX8_flagged : OkTab cX8_flagged tX8_flagged := ⟨by decide +kernel, by decide +kernel⟩
def tX8_soldMany : List PT := [(0, .iconst 0, 1, 1, 0), (1, .istore_n 1, 1, 2, 0), (2, .iconst 0, 1, 3, 0), (3, .istore_n 2, 1, 4, 0), (4, .iload_n 2, 1, 5, 0), (5, .aload_n 0, 1, 6, 0), (6, .getfield 16, 3, 7, 0), (9, .sipush 456, 3, 8, 0), (12, .iaload, 1, 9, 0), (13, .if_icmp .ge 25, 3, 10, 22), (16, .iload_n 1, 1, 11, 0), (17, .aload_n 0, 1, 12, 0), (18, .iload_n 2, 1, 13, 0), (19, .invokevirtual 235, 3, 14, 0), (22, .ifCond .eq 7, 3, 15, 17), (25, .iconst 1, 1, 16, 0), (26, .goto 4, 3, 17, 18), (29, .iconst 0, 1, 18, 0), (30, .iadd, 1, 19, 0), (31, .istore_n 1, 1, 20, 0), (32, .iinc 2 1, 3, 21, 0), (35, .goto (-31), 3, 22, 4), (38, .iload_n 1, 1, 23, 0), (39, .ireturn, 1, 24, 0)]
set_option maxRecDepth 100000 in
theorem okX8_soldMany : OkTab cX8_soldMany tX8_soldMany := ⟨by decide +kernel, by decide +kernel⟩
def tX8_entry : List PT := [(0, .aload_n 0, 1, 1, 0), (1, .iconst 0, 1, 2, 0), (2, .putfield 41, 3, 3, 0), (5, .aload_n 0, 1, 4, 0), (6, .aload_n 0, 1, 5, 0), (7, .iload_n 1, 1, 6, 0), (8, .invokevirtual 210, 3, 7, 0), (11, .iconst 1, 1, 8, 0), (12, .invokevirtual 52, 3, 9, 0), (15, .ifCond .ne 20, 3, 10, 19), (18, .aload_n 0, 1, 11, 0), (19, .iload_n 2, 1, 12, 0), (20, .i2l, 1, 13, 0), (21, .lconst 0, 1, 14, 0), (22, .ldc2_w 344, 3, 15, 0), (25, .invokestatic 56, 3, 16, 0), (28, .iconst 2, 1, 17, 0), (29, .invokevirtual 52, 3, 18, 0), (32, .ifCond .eq 5, 3, 19, 21), (35, .iconst 0, 1, 20, 0), (36, .ireturn, 1, 21, 0), (37, .aload_n 0, 1, 22, 0), (38, .iload_n 1, 1, 23, 0), (39, .iload_n 2, 1, 24, 0), (40, .invokevirtual 184, 3, 25, 0), (43, .ireturn, 1, 26, 0)]
set_option maxRecDepth 100000 in
theorem okX8_entry : OkTab cX8_entry tX8_entry := ⟨by decide +kernel, by decide +kernel⟩
def tX8_deductible : List PT := [(0, .aload_n 0, 1, 1, 0), (1, .iconst 0, 1, 2, 0), (2, .putfield 41, 3, 3, 0), (5, .aload_n 0, 1, 4, 0), (6, .aload_n 0, 1, 5, 0), (7, .iload_n 1, 1, 6, 0), (8, .invokevirtual 210, 3, 7, 0), (11, .iconst 1, 1, 8, 0), (12, .invokevirtual 52, 3, 9, 0), (15, .ifCond .eq 7, 3, 10, 12), (18, .iconst 0, 1, 11, 0), (19, .goto 9, 3, 12, 16), (22, .aload_n 0, 1, 13, 0), (23, .iload_n 1, 1, 14, 0), (24, .invokevirtual 291, 3, 15, 0), (27, .l2i, 1, 16, 0), (28, .ireturn, 1, 17, 0)]
set_option maxRecDepth 100000 in
theorem okX8_deductible : OkTab cX8_deductible tX8_deductible := ⟨by decide +kernel, by decide +kernel⟩
def tX8_total : List PT := [(0, .aload_n 0, 1, 1, 0), (1, .iconst 0, 1, 2, 0), (2, .putfield 41, 3, 3, 0), (5, .aload_n 0, 1, 4, 0), (6, .iload_n 1, 1, 5, 0), (7, .invokestatic 196, 3, 6, 0), (10, .ifCond .eq 27, 3, 7, 19), (13, .iload_n 2, 1, 8, 0), (14, .invokestatic 204, 3, 9, 0), (17, .ifCond .eq 20, 3, 10, 19), (20, .iload_n 3, 1, 11, 0), (21, .i2l, 1, 12, 0), (22, .iload_n 2, 1, 13, 0), (23, .i2l, 1, 14, 0), (24, .ldc2_w 174, 3, 15, 0), (27, .invokestatic 56, 3, 16, 0), (30, .ifCond .eq 7, 3, 17, 19), (33, .iconst 1, 1, 18, 0), (34, .goto 4, 3, 19, 20), (37, .iconst 0, 1, 20, 0), (38, .iconst 1, 1, 21, 0), (39, .invokevirtual 52, 3, 22, 0), (42, .ifCond .eq 5, 3, 23, 25), (45, .lconst 0, 1, 24, 0), (46, .lreturn, 1, 25, 0), (47, .lconst 0, 1, 26, 0), (48, .lstore 4, 2, 27, 0), (50, .iconst 0, 1, 28, 0), (51, .istore 6, 2, 29, 0), (53, .iload 6, 2, 30, 0), (55, .aload_n 0, 1, 31, 0), (56, .getfield 16, 3, 32, 0), (59, .bipush 35, 2, 33, 0), (61, .iaload, 1, 34, 0), (62, .if_icmp .ge 48, 3, 35, 59), (65, .lload 4, 2, 36, 0), (67, .aload_n 0, 1, 37, 0), (68, .iload 6, 2, 38, 0), (70, .iconst 0, 1, 39, 0), (71, .invokevirtual 184, 3, 40, 0), (74, .iload_n 1, 1, 41, 0), (75, .if_icmp .ne 25, 3, 42, 54), (78, .aload_n 0, 1, 43, 0), (79, .iload 6, 2, 44, 0), (81, .iload_n 2, 1, 45, 0), (82, .iload_n 3, 1, 46, 0), (83, .invokevirtual 287, 3, 47, 0), (86, .ifCond .eq 14, 3, 48, 54), (89, .aload_n 0, 1, 49, 0), (90, .iload 6, 2, 50, 0), (92, .iconst 2, 1, 51, 0), (93, .invokevirtual 184, 3, 52, 0), (96, .i2l, 1, 53, 0), (97, .goto 4, 3, 54, 55), (100, .lconst 0, 1, 55, 0), (101, .ladd, 1, 56, 0), (102, .lstore 4, 2, 57, 0), (104, .iinc 6 1, 3, 58, 0), (107, .goto (-54), 3, 59, 29), (110, .lload 4, 2, 60, 0), (112, .lreturn, 1, 61, 0)]
set_option maxRecDepth 100000 in
theorem okX8_total : OkTab cX8_total tX8_total := ⟨by decide +kernel, by decide +kernel⟩
def tX8_byCategory : List PT := [(0, .aload_n 0, 1, 1, 0), (1, .iconst 0, 1, 2, 0), (2, .putfield 41, 3, 3, 0), (5, .aload_n 0, 1, 4, 0), (6, .iload_n 1, 1, 5, 0), (7, .i2l, 1, 6, 0), (8, .lconst 0, 1, 7, 0), (9, .ldc2_w 199, 3, 8, 0), (12, .invokestatic 56, 3, 9, 0), (15, .iconst 1, 1, 10, 0), (16, .invokevirtual 52, 3, 11, 0), (19, .ifCond .eq 5, 3, 12, 14), (22, .lconst 0, 1, 13, 0), (23, .lreturn, 1, 14, 0), (24, .lconst 0, 1, 15, 0), (25, .lstore_n 3, 1, 16, 0), (26, .iconst 0, 1, 17, 0), (27, .istore 5, 2, 18, 0), (29, .iload 5, 2, 19, 0), (31, .aload_n 0, 1, 20, 0), (32, .getfield 16, 3, 21, 0), (35, .bipush 35, 2, 22, 0), (37, .iaload, 1, 23, 0), (38, .if_icmp .ge 73, 3, 24, 61), (41, .aload_n 0, 1, 25, 0), (42, .iload 5, 2, 26, 0), (44, .iconst 1, 1, 27, 0), (45, .invokevirtual 184, 3, 28, 0), (48, .iload_n 1, 1, 29, 0), (49, .if_icmp .ne 56, 3, 30, 59), (52, .aload_n 0, 1, 31, 0), (53, .iload 5, 2, 32, 0), (55, .invokevirtual 190, 3, 33, 0), (58, .ifCond .ne 6, 3, 34, 35), (61, .goto 44, 3, 35, 59), (64, .iload_n 2, 1, 36, 0), (65, .ifCond .eq 31, 3, 37, 53), (68, .lload_n 3, 1, 38, 0), (69, .aload_n 0, 1, 39, 0), (70, .iload 5, 2, 40, 0), (72, .iconst 0, 1, 41, 0), (73, .invokevirtual 184, 3, 42, 0), (76, .ifCond .ne 14, 3, 43, 49), (79, .aload_n 0, 1, 44, 0), (80, .iload 5, 2, 45, 0), (82, .iconst 2, 1, 46, 0), (83, .invokevirtual 184, 3, 47, 0), (86, .i2l, 1, 48, 0), (87, .goto 4, 3, 49, 50), (90, .lconst 0, 1, 50, 0), (91, .ladd, 1, 51, 0), (92, .lstore_n 3, 1, 52, 0), (93, .goto 12, 3, 53, 59), (96, .lload_n 3, 1, 54, 0), (97, .aload_n 0, 1, 55, 0), (98, .iload 5, 2, 56, 0), (100, .invokevirtual 291, 3, 57, 0), (103, .ladd, 1, 58, 0), (104, .lstore_n 3, 1, 59, 0), (105, .iinc 5 1, 3, 60, 0), (108, .goto (-79), 3, 61, 18), (111, .lload_n 3, 1, 62, 0), (112, .lreturn, 1, 63, 0)]
set_option maxRecDepth 100000 in
theorem okX8_byCategory : OkTab cX8_byCategory tX8_byCategory := ⟨by decide +kernel, by decide +kernel⟩
def tX8_open : List PT := [(0, .aload_n 0, 1, 1, 0), (1, .iconst 0, 1, 2, 0), (2, .putfield 41, 3, 3, 0), (5, .aload_n 0, 1, 4, 0), (6, .iload_n 1, 1, 5, 0), (7, .invokestatic 196, 3, 6, 0), (10, .iconst 1, 1, 7, 0), (11, .invokevirtual 52, 3, 8, 0), (14, .ifCond .eq 5, 3, 9, 11), (17, .lconst 0, 1, 10, 0), (18, .lreturn, 1, 11, 0), (19, .lconst 0, 1, 12, 0), (20, .lstore_n 2, 1, 13, 0), (21, .iconst 0, 1, 14, 0), (22, .istore 4, 2, 15, 0), (24, .iload 4, 2, 16, 0), (26, .aload_n 0, 1, 17, 0), (27, .getfield 16, 3, 18, 0), (30, .bipush 35, 2, 19, 0), (32, .iaload, 1, 20, 0), (33, .if_icmp .ge 44, 3, 21, 43), (36, .lload_n 2, 1, 22, 0), (37, .aload_n 0, 1, 23, 0), (38, .iload 4, 2, 24, 0), (40, .invokevirtual 341, 3, 25, 0), (43, .ifCond .eq 25, 3, 26, 38), (46, .aload_n 0, 1, 27, 0), (47, .iload 4, 2, 28, 0), (49, .iconst 0, 1, 29, 0), (50, .invokevirtual 184, 3, 30, 0), (53, .iload_n 1, 1, 31, 0), (54, .if_icmp .ne 14, 3, 32, 38), (57, .aload_n 0, 1, 33, 0), (58, .iload 4, 2, 34, 0), (60, .iconst 2, 1, 35, 0), (61, .invokevirtual 184, 3, 36, 0), (64, .i2l, 1, 37, 0), (65, .goto 4, 3, 38, 39), (68, .lconst 0, 1, 39, 0), (69, .ladd, 1, 40, 0), (70, .lstore_n 2, 1, 41, 0), (71, .iinc 4 1, 3, 42, 0), (74, .goto (-50), 3, 43, 15), (77, .lload_n 2, 1, 44, 0), (78, .lreturn, 1, 45, 0)]
set_option maxRecDepth 100000 in
theorem okX8_open : OkTab cX8_open tX8_open := ⟨by decide +kernel, by decide +kernel⟩
def tX8_oldestOpen : List PT := [(0, .aload_n 0, 1, 1, 0), (1, .iconst 0, 1, 2, 0), (2, .putfield 41, 3, 3, 0), (5, .iconst (-1), 1, 4, 0), (6, .istore_n 1, 1, 5, 0), (7, .iconst 0, 1, 6, 0), (8, .istore_n 2, 1, 7, 0), (9, .iload_n 2, 1, 8, 0), (10, .aload_n 0, 1, 9, 0), (11, .getfield 16, 3, 10, 0), (14, .bipush 35, 2, 11, 0), (16, .iaload, 1, 12, 0), (17, .if_icmp .ge 39, 3, 13, 33), (20, .aload_n 0, 1, 14, 0), (21, .iload_n 2, 1, 15, 0), (22, .invokevirtual 341, 3, 16, 0), (25, .ifCond .eq 25, 3, 17, 31), (28, .iload_n 1, 1, 18, 0), (29, .iconst (-1), 1, 19, 0), (30, .if_icmp .eq 18, 3, 20, 29), (33, .aload_n 0, 1, 21, 0), (34, .iload_n 2, 1, 22, 0), (35, .iconst 3, 1, 23, 0), (36, .invokevirtual 184, 3, 24, 0), (39, .aload_n 0, 1, 25, 0), (40, .iload_n 1, 1, 26, 0), (41, .iconst 3, 1, 27, 0), (42, .invokevirtual 184, 3, 28, 0), (45, .if_icmp .ge 5, 3, 29, 31), (48, .iload_n 2, 1, 30, 0), (49, .istore_n 1, 1, 31, 0), (50, .iinc 2 1, 3, 32, 0), (53, .goto (-44), 3, 33, 7), (56, .aload_n 0, 1, 34, 0), (57, .iload_n 1, 1, 35, 0), (58, .iconst (-1), 1, 36, 0), (59, .if_icmp .eq 7, 3, 37, 39), (62, .iconst 1, 1, 38, 0), (63, .goto 4, 3, 39, 40), (66, .iconst 0, 1, 40, 0), (67, .iconst 1, 1, 41, 0), (68, .invokevirtual 52, 3, 42, 0), (71, .ifCond .eq 7, 3, 43, 45), (74, .iconst 0, 1, 44, 0), (75, .goto 4, 3, 45, 46), (78, .iload_n 1, 1, 46, 0), (79, .ireturn, 1, 47, 0)]
set_option maxRecDepth 100000 in
theorem okX8_oldestOpen : OkTab cX8_oldestOpen tX8_oldestOpen := ⟨by decide +kernel, by decide +kernel⟩
def tX8_room : List PT := [(0, .aload_n 0, 1, 1, 0), (1, .iconst 0, 1, 2, 0), (2, .putfield 41, 3, 3, 0), (5, .aload_n 0, 1, 4, 0), (6, .aload_n 0, 1, 5, 0), (7, .iload_n 1, 1, 6, 0), (8, .invokevirtual 218, 3, 7, 0), (11, .iconst 1, 1, 8, 0), (12, .invokevirtual 52, 3, 9, 0), (15, .ifCond .ne 20, 3, 10, 19), (18, .aload_n 0, 1, 11, 0), (19, .iload_n 2, 1, 12, 0), (20, .i2l, 1, 13, 0), (21, .lconst 0, 1, 14, 0), (22, .ldc2_w 346, 3, 15, 0), (25, .invokestatic 56, 3, 16, 0), (28, .iconst 2, 1, 17, 0), (29, .invokevirtual 52, 3, 18, 0), (32, .ifCond .eq 5, 3, 19, 21), (35, .iconst 0, 1, 20, 0), (36, .ireturn, 1, 21, 0), (37, .aload_n 0, 1, 22, 0), (38, .iload_n 1, 1, 23, 0), (39, .iload_n 2, 1, 24, 0), (40, .invokevirtual 251, 3, 25, 0), (43, .ireturn, 1, 26, 0)]
set_option maxRecDepth 100000 in
theorem okX8_room : OkTab cX8_room tX8_room := ⟨by decide +kernel, by decide +kernel⟩
def tX8_share : List PT := [(0, .aload_n 0, 1, 1, 0), (1, .iconst 0, 1, 2, 0), (2, .putfield 41, 3, 3, 0), (5, .aload_n 0, 1, 4, 0), (6, .iload_n 1, 1, 5, 0), (7, .invokestatic 348, 3, 6, 0), (10, .iconst 1, 1, 7, 0), (11, .invokevirtual 52, 3, 8, 0), (14, .ifCond .eq 5, 3, 9, 11), (17, .iconst 0, 1, 10, 0), (18, .ireturn, 1, 11, 0), (19, .aload_n 0, 1, 12, 0), (20, .iload_n 1, 1, 13, 0), (21, .invokevirtual 259, 3, 14, 0), (24, .istore_n 3, 1, 15, 0), (25, .aload_n 0, 1, 16, 0), (26, .invokevirtual 262, 3, 17, 0), (29, .istore 4, 2, 18, 0), (31, .iload_n 3, 1, 19, 0), (32, .iload 4, 2, 20, 0), (34, .invokestatic 351, 3, 21, 0), (37, .istore 5, 2, 22, 0), (39, .iload_n 2, 1, 23, 0), (40, .ifCond .eq 8, 3, 24, 26), (43, .iload 4, 2, 25, 0), (45, .goto 4, 3, 26, 27), (48, .iload_n 3, 1, 27, 0), (49, .iload 5, 2, 28, 0), (51, .idiv, 1, 29, 0), (52, .ireturn, 1, 30, 0)]
set_option maxRecDepth 100000 in
theorem okX8_share : OkTab cX8_share tX8_share := ⟨by decide +kernel, by decide +kernel⟩
def tX8_asset : List PT := [(0, .aload_n 0, 1, 1, 0), (1, .iconst 0, 1, 2, 0), (2, .putfield 41, 3, 3, 0), (5, .aload_n 0, 1, 4, 0), (6, .aload_n 0, 1, 5, 0), (7, .iload_n 1, 1, 6, 0), (8, .invokevirtual 232, 3, 7, 0), (11, .iconst 1, 1, 8, 0), (12, .invokevirtual 52, 3, 9, 0), (15, .ifCond .ne 20, 3, 10, 19), (18, .aload_n 0, 1, 11, 0), (19, .iload_n 2, 1, 12, 0), (20, .i2l, 1, 13, 0), (21, .lconst 0, 1, 14, 0), (22, .ldc2_w 354, 3, 15, 0), (25, .invokestatic 56, 3, 16, 0), (28, .iconst 2, 1, 17, 0), (29, .invokevirtual 52, 3, 18, 0), (32, .ifCond .eq 5, 3, 19, 21), (35, .iconst 0, 1, 20, 0), (36, .ireturn, 1, 21, 0), (37, .iload_n 2, 1, 22, 0), (38, .iconst 3, 1, 23, 0), (39, .if_icmp .ne 9, 3, 24, 28), (42, .aload_n 0, 1, 25, 0), (43, .iload_n 1, 1, 26, 0), (44, .invokevirtual 272, 3, 27, 0), (47, .ireturn, 1, 28, 0), (48, .aload_n 0, 1, 29, 0), (49, .iload_n 1, 1, 30, 0), (50, .iload_n 2, 1, 31, 0), (51, .iconst 3, 1, 32, 0), (52, .if_icmp .ge 7, 3, 33, 35), (55, .iload_n 2, 1, 34, 0), (56, .goto 6, 3, 35, 38), (59, .iload_n 2, 1, 36, 0), (60, .iconst 1, 1, 37, 0), (61, .isub, 1, 38, 0), (62, .invokevirtual 229, 3, 39, 0), (65, .ireturn, 1, 40, 0)]
set_option maxRecDepth 100000 in
theorem okX8_asset : OkTab cX8_asset tX8_asset := ⟨by decide +kernel, by decide +kernel⟩
def tX8_written : List PT := [(0, .aload_n 0, 1, 1, 0), (1, .iconst 0, 1, 2, 0), (2, .putfield 41, 3, 3, 0), (5, .aload_n 0, 1, 4, 0), (6, .aload_n 0, 1, 5, 0), (7, .iload_n 1, 1, 6, 0), (8, .invokevirtual 232, 3, 7, 0), (11, .iconst 1, 1, 8, 0), (12, .invokevirtual 52, 3, 9, 0), (15, .ifCond .ne 15, 3, 10, 16), (18, .aload_n 0, 1, 11, 0), (19, .iload_n 2, 1, 12, 0), (20, .invokestatic 348, 3, 13, 0), (23, .iconst 2, 1, 14, 0), (24, .invokevirtual 52, 3, 15, 0), (27, .ifCond .eq 5, 3, 16, 18), (30, .iconst 0, 1, 17, 0), (31, .ireturn, 1, 18, 0), (32, .aload_n 0, 1, 19, 0), (33, .iload_n 1, 1, 20, 0), (34, .iload_n 2, 1, 21, 0), (35, .invokevirtual 294, 3, 22, 0), (38, .ireturn, 1, 23, 0)]
set_option maxRecDepth 100000 in
theorem okX8_written : OkTab cX8_written tX8_written := ⟨by decide +kernel, by decide +kernel⟩
def tX8_bookValue : List PT := [(0, .aload_n 0, 1, 1, 0), (1, .iconst 0, 1, 2, 0), (2, .putfield 41, 3, 3, 0), (5, .aload_n 0, 1, 4, 0), (6, .aload_n 0, 1, 5, 0), (7, .iload_n 1, 1, 6, 0), (8, .invokevirtual 232, 3, 7, 0), (11, .iconst 1, 1, 8, 0), (12, .invokevirtual 52, 3, 9, 0), (15, .ifCond .ne 15, 3, 10, 16), (18, .aload_n 0, 1, 11, 0), (19, .iload_n 2, 1, 12, 0), (20, .invokestatic 348, 3, 13, 0), (23, .iconst 2, 1, 14, 0), (24, .invokevirtual 52, 3, 15, 0), (27, .ifCond .eq 5, 3, 16, 18), (30, .iconst 0, 1, 17, 0), (31, .ireturn, 1, 18, 0), (32, .aload_n 0, 1, 19, 0), (33, .iload_n 1, 1, 20, 0), (34, .iload_n 2, 1, 21, 0), (35, .invokevirtual 238, 3, 22, 0), (38, .ireturn, 1, 23, 0)]
set_option maxRecDepth 100000 in
theorem okX8_bookValue : OkTab cX8_bookValue tX8_bookValue := ⟨by decide +kernel, by decide +kernel⟩
def tX8_pool : List PT := [(0, .aload_n 0, 1, 1, 0), (1, .iconst 0, 1, 2, 0), (2, .putfield 41, 3, 3, 0), (5, .aload_n 0, 1, 4, 0), (6, .iload_n 1, 1, 5, 0), (7, .invokestatic 356, 3, 6, 0), (10, .iconst 1, 1, 7, 0), (11, .invokevirtual 52, 3, 8, 0), (14, .ifCond .eq 7, 3, 9, 11), (17, .iconst 0, 1, 10, 0), (18, .goto 8, 3, 11, 14), (21, .aload_n 0, 1, 12, 0), (22, .iload_n 1, 1, 13, 0), (23, .invokevirtual 284, 3, 14, 0), (26, .ireturn, 1, 15, 0)]
set_option maxRecDepth 100000 in
theorem okX8_pool : OkTab cX8_pool tX8_pool := ⟨by decide +kernel, by decide +kernel⟩
def tX8_poolWritten : List PT := [(0, .aload_n 0, 1, 1, 0), (1, .iconst 0, 1, 2, 0), (2, .putfield 41, 3, 3, 0), (5, .aload_n 0, 1, 4, 0), (6, .iload_n 1, 1, 5, 0), (7, .invokestatic 356, 3, 6, 0), (10, .iconst 1, 1, 7, 0), (11, .invokevirtual 52, 3, 8, 0), (14, .ifCond .eq 7, 3, 9, 11), (17, .iconst 0, 1, 10, 0), (18, .goto 8, 3, 11, 14), (21, .aload_n 0, 1, 12, 0), (22, .iload_n 1, 1, 13, 0), (23, .invokevirtual 303, 3, 14, 0), (26, .ireturn, 1, 15, 0)]
set_option maxRecDepth 100000 in
theorem okX8_poolWritten : OkTab cX8_poolWritten tX8_poolWritten := ⟨by decide +kernel, by decide +kernel⟩
def tX8_profit : List PT := [(0, .aload_n 0, 1, 1, 0), (1, .iconst 0, 1, 2, 0), (2, .putfield 41, 3, 3, 0), (5, .aload_n 0, 1, 4, 0), (6, .iload_n 1, 1, 5, 0), (7, .invokestatic 356, 3, 6, 0), (10, .iconst 1, 1, 7, 0), (11, .invokevirtual 52, 3, 8, 0), (14, .ifCond .eq 7, 3, 9, 11), (17, .lconst 0, 1, 10, 0), (18, .goto 8, 3, 11, 14), (21, .aload_n 0, 1, 12, 0), (22, .iload_n 1, 1, 13, 0), (23, .invokevirtual 306, 3, 14, 0), (26, .lreturn, 1, 15, 0)]
set_option maxRecDepth 100000 in
theorem okX8_profit : OkTab cX8_profit tX8_profit := ⟨by decide +kernel, by decide +kernel⟩
def tX8_profitTo : List PT := [(0, .aload_n 0, 1, 1, 0), (1, .iconst 0, 1, 2, 0), (2, .putfield 41, 3, 3, 0), (5, .aload_n 0, 1, 4, 0), (6, .iload_n 1, 1, 5, 0), (7, .invokestatic 356, 3, 6, 0), (10, .iconst 1, 1, 7, 0), (11, .invokevirtual 52, 3, 8, 0), (14, .ifCond .eq 7, 3, 9, 11), (17, .lconst 0, 1, 10, 0), (18, .goto 8, 3, 11, 14), (21, .aload_n 0, 1, 12, 0), (22, .iload_n 1, 1, 13, 0), (23, .invokevirtual 309, 3, 14, 0), (26, .lreturn, 1, 15, 0)]
set_option maxRecDepth 100000 in
theorem okX8_profitTo : OkTab cX8_profitTo tX8_profitTo := ⟨by decide +kernel, by decide +kernel⟩
def tX8_tax : List PT := [(0, .aload_n 0, 1, 1, 0), (1, .iconst 0, 1, 2, 0), (2, .putfield 41, 3, 3, 0), (5, .aload_n 0, 1, 4, 0), (6, .iload_n 1, 1, 5, 0), (7, .i2l, 1, 6, 0), (8, .invokevirtual 326, 3, 7, 0), (11, .lreturn, 1, 8, 0)]
set_option maxRecDepth 100000 in
theorem okX8_tax : OkTab cX8_tax tX8_tax := ⟨by decide +kernel, by decide +kernel⟩
def tX8_rate : List PT := [(0, .aload_n 0, 1, 1, 0), (1, .iconst 0, 1, 2, 0), (2, .putfield 41, 3, 3, 0), (5, .iconst 0, 1, 4, 0), (6, .istore_n 2, 1, 5, 0), (7, .iload_n 2, 1, 6, 0), (8, .aload_n 0, 1, 7, 0), (9, .getfield 16, 3, 8, 0), (12, .iconst 5, 1, 9, 0), (13, .iaload, 1, 10, 0), (14, .if_icmp .ge 18, 3, 11, 18), (17, .aload_n 0, 1, 12, 0), (18, .iload_n 2, 1, 13, 0), (19, .invokevirtual 312, 3, 14, 0), (22, .iload_n 1, 1, 15, 0), (23, .if_icmp .ge 9, 3, 16, 18), (26, .iinc 2 1, 3, 17, 0), (29, .goto (-22), 3, 18, 5), (32, .aload_n 0, 1, 19, 0), (33, .iload_n 2, 1, 20, 0), (34, .invokevirtual 319, 3, 21, 0), (37, .ireturn, 1, 22, 0)]
set_option maxRecDepth 100000 in
theorem okX8_rate : OkTab cX8_rate tX8_rate := ⟨by decide +kernel, by decide +kernel⟩
def tX8_yearTax : List PT := [(0, .aload_n 0, 1, 1, 0), (1, .iconst 0, 1, 2, 0), (2, .putfield 41, 3, 3, 0), (5, .aload_n 0, 1, 4, 0), (6, .aload_n 0, 1, 5, 0), (7, .invokevirtual 359, 3, 6, 0), (10, .invokevirtual 326, 3, 7, 0), (13, .lreturn, 1, 8, 0)]
set_option maxRecDepth 100000 in
theorem okX8_yearTax : OkTab cX8_yearTax tX8_yearTax := ⟨by decide +kernel, by decide +kernel⟩
def tX8_isClosed : List PT := [(0, .iload_n 1, 1, 1, 0), (1, .aload_n 0, 1, 2, 0), (2, .getfield 16, 3, 3, 0), (5, .sipush 517, 3, 4, 0), (8, .iaload, 1, 5, 0), (9, .if_icmp .ge 7, 3, 6, 8), (12, .iconst 1, 1, 7, 0), (13, .goto 4, 3, 8, 9), (16, .iconst 0, 1, 9, 0), (17, .ireturn, 1, 10, 0)]
set_option maxRecDepth 100000 in
theorem okX8_isClosed : OkTab cX8_isClosed tX8_isClosed := ⟨by decide +kernel, by decide +kernel⟩
def tX8_prepayment : List PT := [(0, .aload_n 0, 1, 1, 0), (1, .iconst 0, 1, 2, 0), (2, .putfield 41, 3, 3, 0), (5, .aload_n 0, 1, 4, 0), (6, .iload_n 1, 1, 5, 0), (7, .invokestatic 356, 3, 6, 0), (10, .iconst 1, 1, 7, 0), (11, .invokevirtual 52, 3, 8, 0), (14, .ifCond .ne 16, 3, 9, 16), (17, .aload_n 0, 1, 10, 0), (18, .aload_n 0, 1, 11, 0), (19, .iload_n 1, 1, 12, 0), (20, .invokevirtual 363, 3, 13, 0), (23, .iconst 2, 1, 14, 0), (24, .invokevirtual 52, 3, 15, 0), (27, .ifCond .eq 5, 3, 16, 18), (30, .iconst 0, 1, 17, 0), (31, .ireturn, 1, 18, 0), (32, .aload_n 0, 1, 19, 0), (33, .getfield 16, 3, 20, 0), (36, .sipush 518, 3, 21, 0), (39, .iload_n 1, 1, 22, 0), (40, .iadd, 1, 23, 0), (41, .iaload, 1, 24, 0), (42, .ireturn, 1, 25, 0)]
set_option maxRecDepth 100000 in
theorem okX8_prepayment : OkTab cX8_prepayment tX8_prepayment := ⟨by decide +kernel, by decide +kernel⟩
def tX8_recomputed : List PT := [(0, .aload_n 0, 1, 1, 0), (1, .iconst 0, 1, 2, 0), (2, .putfield 41, 3, 3, 0), (5, .aload_n 0, 1, 4, 0), (6, .iload_n 1, 1, 5, 0), (7, .invokestatic 356, 3, 6, 0), (10, .iconst 1, 1, 7, 0), (11, .invokevirtual 52, 3, 8, 0), (14, .ifCond .eq 7, 3, 9, 11), (17, .iconst 0, 1, 10, 0), (18, .goto 8, 3, 11, 14), (21, .aload_n 0, 1, 12, 0), (22, .iload_n 1, 1, 13, 0), (23, .invokevirtual 366, 3, 14, 0), (26, .ireturn, 1, 15, 0)]
set_option maxRecDepth 100000 in
theorem okX8_recomputed : OkTab cX8_recomputed tX8_recomputed := ⟨by decide +kernel, by decide +kernel⟩
def tX8_correctionOf : List PT := [(0, .aload_n 0, 1, 1, 0), (1, .iload_n 1, 1, 2, 0), (2, .invokevirtual 366, 3, 3, 0), (5, .aload_n 0, 1, 4, 0), (6, .getfield 16, 3, 5, 0), (9, .sipush 518, 3, 6, 0), (12, .iload_n 1, 1, 7, 0), (13, .iadd, 1, 8, 0), (14, .iaload, 1, 9, 0), (15, .isub, 1, 10, 0), (16, .ireturn, 1, 11, 0)]
set_option maxRecDepth 100000 in
theorem okX8_correctionOf : OkTab cX8_correctionOf tX8_correctionOf := ⟨by decide +kernel, by decide +kernel⟩
def tX8_correction : List PT := [(0, .aload_n 0, 1, 1, 0), (1, .iconst 0, 1, 2, 0), (2, .putfield 41, 3, 3, 0), (5, .aload_n 0, 1, 4, 0), (6, .iload_n 1, 1, 5, 0), (7, .invokestatic 356, 3, 6, 0), (10, .iconst 1, 1, 7, 0), (11, .invokevirtual 52, 3, 8, 0), (14, .ifCond .ne 16, 3, 9, 16), (17, .aload_n 0, 1, 10, 0), (18, .aload_n 0, 1, 11, 0), (19, .iload_n 1, 1, 12, 0), (20, .invokevirtual 363, 3, 13, 0), (23, .iconst 2, 1, 14, 0), (24, .invokevirtual 52, 3, 15, 0), (27, .ifCond .eq 5, 3, 16, 18), (30, .iconst 0, 1, 17, 0), (31, .ireturn, 1, 18, 0), (32, .aload_n 0, 1, 19, 0), (33, .iload_n 1, 1, 20, 0), (34, .invokevirtual 369, 3, 21, 0), (37, .ireturn, 1, 22, 0)]
set_option maxRecDepth 100000 in
theorem okX8_correction : OkTab cX8_correction tX8_correction := ⟨by decide +kernel, by decide +kernel⟩
def tX8_settlement : List PT := [(0, .aload_n 0, 1, 1, 0), (1, .iconst 0, 1, 2, 0), (2, .putfield 41, 3, 3, 0), (5, .aload_n 0, 1, 4, 0), (6, .aload_n 0, 1, 5, 0), (7, .getfield 16, 3, 6, 0), (10, .sipush 517, 3, 7, 0), (13, .iaload, 1, 8, 0), (14, .iconst 4, 1, 9, 0), (15, .if_icmp .ne 7, 3, 10, 12), (18, .iconst 1, 1, 11, 0), (19, .goto 4, 3, 12, 13), (22, .iconst 0, 1, 13, 0), (23, .iconst 1, 1, 14, 0), (24, .invokevirtual 52, 3, 15, 0), (27, .ifCond .eq 5, 3, 16, 18), (30, .lconst 0, 1, 17, 0), (31, .lreturn, 1, 18, 0), (32, .aload_n 0, 1, 19, 0), (33, .aload_n 0, 1, 20, 0), (34, .invokevirtual 359, 3, 21, 0), (37, .invokevirtual 326, 3, 22, 0), (40, .aload_n 0, 1, 23, 0), (41, .iconst 4, 1, 24, 0), (42, .invokevirtual 241, 3, 25, 0), (45, .lsub, 1, 26, 0), (46, .lreturn, 1, 27, 0)]
set_option maxRecDepth 100000 in
theorem okX8_settlement : OkTab cX8_settlement tX8_settlement := ⟨by decide +kernel, by decide +kernel⟩
def tX8_interest : List PT := [(0, .aload_n 0, 1, 1, 0), (1, .iconst 0, 1, 2, 0), (2, .putfield 41, 3, 3, 0), (5, .lconst 0, 1, 4, 0), (6, .lstore_n 1, 1, 5, 0), (7, .iconst 0, 1, 6, 0), (8, .istore_n 3, 1, 7, 0), (9, .iload_n 3, 1, 8, 0), (10, .aload_n 0, 1, 9, 0), (11, .getfield 16, 3, 10, 0), (14, .sipush 517, 3, 11, 0), (17, .iaload, 1, 12, 0), (18, .if_icmp .ge 50, 3, 13, 43), (21, .aload_n 0, 1, 14, 0), (22, .iload_n 3, 1, 15, 0), (23, .invokevirtual 369, 3, 16, 0), (26, .i2l, 1, 17, 0), (27, .lstore 4, 2, 18, 0), (29, .lload_n 1, 1, 19, 0), (30, .lload 4, 2, 20, 0), (32, .lconst 0, 1, 21, 0), (33, .lcmp, 1, 22, 0), (34, .ifCond .le 25, 3, 23, 38), (37, .lload 4, 2, 24, 0), (39, .aload_n 0, 1, 25, 0), (40, .getfield 16, 3, 26, 0), (43, .iconst 3, 1, 27, 0), (44, .iaload, 1, 28, 0), (45, .i2l, 1, 29, 0), (46, .lmul, 1, 30, 0), (47, .iconst 4, 1, 31, 0), (48, .iload_n 3, 1, 32, 0), (49, .isub, 1, 33, 0), (50, .i2l, 1, 34, 0), (51, .lmul, 1, 35, 0), (52, .ldc2_w 322, 3, 36, 0), (55, .ldiv, 1, 37, 0), (56, .goto 4, 3, 38, 39), (59, .lconst 0, 1, 39, 0), (60, .ladd, 1, 40, 0), (61, .lstore_n 1, 1, 41, 0), (62, .iinc 3 1, 3, 42, 0), (65, .goto (-56), 3, 43, 7), (68, .lload_n 1, 1, 44, 0), (69, .lreturn, 1, 45, 0)]
set_option maxRecDepth 100000 in
theorem okX8_interest : OkTab cX8_interest tX8_interest := ⟨by decide +kernel, by decide +kernel⟩
def tX8_effectiveRate : List PT := [(0, .aload_n 0, 1, 1, 0), (1, .iconst 0, 1, 2, 0), (2, .putfield 41, 3, 3, 0), (5, .aload_n 0, 1, 4, 0), (6, .invokevirtual 359, 3, 5, 0), (9, .lstore_n 1, 1, 6, 0), (10, .aload_n 0, 1, 7, 0), (11, .lload_n 1, 1, 8, 0), (12, .lconst 0, 1, 9, 0), (13, .lcmp, 1, 10, 0), (14, .ifCond .le 7, 3, 11, 13), (17, .iconst 1, 1, 12, 0), (18, .goto 4, 3, 13, 14), (21, .iconst 0, 1, 14, 0), (22, .iconst 1, 1, 15, 0), (23, .invokevirtual 52, 3, 16, 0), (26, .ifCond .eq 5, 3, 17, 19), (29, .dconst 0, 1, 18, 0), (30, .dreturn, 1, 19, 0), (31, .aload_n 0, 1, 20, 0), (32, .lload_n 1, 1, 21, 0), (33, .invokevirtual 326, 3, 22, 0), (36, .l2d, 1, 23, 0), (37, .ldc2_w 372, 3, 24, 0), (40, .dmul, 1, 25, 0), (41, .lload_n 1, 1, 26, 0), (42, .l2d, 1, 27, 0), (43, .ddiv, 1, 28, 0), (44, .dreturn, 1, 29, 0)]
set_option maxRecDepth 100000 in
theorem okX8_effectiveRate : OkTab cX8_effectiveRate tX8_effectiveRate := ⟨by decide +kernel, by decide +kernel⟩
def tX8_whatIf : List PT := [(0, .aload_n 0, 1, 1, 0), (1, .iconst 0, 1, 2, 0), (2, .putfield 41, 3, 3, 0), (5, .aload_n 0, 1, 4, 0), (6, .iload_n 1, 1, 5, 0), (7, .invokestatic 196, 3, 6, 0), (10, .ifCond .eq 21, 3, 7, 15), (13, .iload_n 2, 1, 8, 0), (14, .invokestatic 201, 3, 9, 0), (17, .ifCond .eq 14, 3, 10, 15), (20, .iload_n 3, 1, 11, 0), (21, .invokestatic 204, 3, 12, 0), (24, .ifCond .eq 7, 3, 13, 15), (27, .iconst 1, 1, 14, 0), (28, .goto 4, 3, 15, 16), (31, .iconst 0, 1, 16, 0), (32, .iconst 1, 1, 17, 0), (33, .invokevirtual 52, 3, 18, 0), (36, .ifCond .eq 5, 3, 19, 21), (39, .lconst 0, 1, 20, 0), (40, .lreturn, 1, 21, 0), (41, .aload_n 0, 1, 22, 0), (42, .invokevirtual 359, 3, 23, 0), (45, .lstore 4, 2, 24, 0), (47, .iload_n 1, 1, 25, 0), (48, .ifCond .ne 8, 3, 26, 29), (51, .iload_n 2, 1, 27, 0), (52, .i2l, 1, 28, 0), (53, .goto 11, 3, 29, 35), (56, .aload_n 0, 1, 30, 0), (57, .iload_n 1, 1, 31, 0), (58, .iload_n 2, 1, 32, 0), (59, .iload_n 3, 1, 33, 0), (60, .invokevirtual 265, 3, 34, 0), (63, .lneg, 1, 35, 0), (64, .lstore 6, 2, 36, 0), (66, .aload_n 0, 1, 37, 0), (67, .lload 4, 2, 38, 0), (69, .lload 6, 2, 39, 0), (71, .ladd, 1, 40, 0), (72, .invokevirtual 326, 3, 41, 0), (75, .aload_n 0, 1, 42, 0), (76, .lload 4, 2, 43, 0), (78, .invokevirtual 326, 3, 44, 0), (81, .lsub, 1, 45, 0), (82, .lreturn, 1, 46, 0)]
set_option maxRecDepth 100000 in
theorem okX8_whatIf : OkTab cX8_whatIf tX8_whatIf := ⟨by decide +kernel, by decide +kernel⟩
def tX8_netOf : List PT := [(0, .lload_n 0, 1, 1, 0), (1, .lload_n 2, 1, 2, 0), (2, .lsub, 1, 3, 0), (3, .lload 4, 2, 4, 0), (5, .ladd, 1, 5, 0), (6, .lreturn, 1, 6, 0)]
set_option maxRecDepth 100000 in
theorem okX8_netOf : OkTab cX8_netOf tX8_netOf := ⟨by decide +kernel, by decide +kernel⟩
def tX8_neededIncome : List PT := [(0, .aload_n 0, 1, 1, 0), (1, .iconst 0, 1, 2, 0), (2, .putfield 41, 3, 3, 0), (5, .aload_n 0, 1, 4, 0), (6, .iload_n 1, 1, 5, 0), (7, .invokestatic 201, 3, 6, 0), (10, .iconst 1, 1, 7, 0), (11, .invokevirtual 52, 3, 8, 0), (14, .ifCond .eq 5, 3, 9, 11), (17, .iconst 0, 1, 10, 0), (18, .ireturn, 1, 11, 0), (19, .aload_n 0, 1, 12, 0), (20, .invokevirtual 359, 3, 13, 0), (23, .lstore_n 2, 1, 14, 0), (24, .aload_n 0, 1, 15, 0), (25, .lload_n 2, 1, 16, 0), (26, .invokevirtual 326, 3, 17, 0), (29, .lstore 4, 2, 18, 0), (31, .aload_n 0, 1, 19, 0), (32, .ldc2_w 374, 3, 20, 0), (35, .aload_n 0, 1, 21, 0), (36, .lload_n 2, 1, 22, 0), (37, .ldc2_w 374, 3, 23, 0), (40, .ladd, 1, 24, 0), (41, .invokevirtual 326, 3, 25, 0), (44, .lload 4, 2, 26, 0), (46, .invokestatic 376, 3, 27, 0), (49, .iload_n 1, 1, 28, 0), (50, .i2l, 1, 29, 0), (51, .lcmp, 1, 30, 0), (52, .ifCond .lt 7, 3, 31, 33), (55, .iconst 1, 1, 32, 0), (56, .goto 4, 3, 33, 34), (59, .iconst 0, 1, 34, 0), (60, .iconst 2, 1, 35, 0), (61, .invokevirtual 52, 3, 36, 0), (64, .ifCond .eq 5, 3, 37, 39), (67, .iconst 0, 1, 38, 0), (68, .ireturn, 1, 39, 0), (69, .iconst 0, 1, 40, 0), (70, .istore 6, 2, 41, 0), (72, .ldc_w 380, 3, 42, 0), (75, .istore 7, 2, 43, 0), (77, .iload 7, 2, 44, 0), (79, .iload 6, 2, 45, 0), (81, .isub, 1, 46, 0), (82, .iconst 1, 1, 47, 0), (83, .if_icmp .le 49, 3, 48, 74), (86, .iload 6, 2, 49, 0), (88, .iload 7, 2, 50, 0), (90, .iadd, 1, 51, 0), (91, .iconst 2, 1, 52, 0), (92, .idiv, 1, 53, 0), (93, .istore 8, 2, 54, 0), (95, .iload 8, 2, 55, 0), (97, .i2l, 1, 56, 0), (98, .aload_n 0, 1, 57, 0), (99, .lload_n 2, 1, 58, 0), (100, .iload 8, 2, 59, 0), (102, .i2l, 1, 60, 0), (103, .ladd, 1, 61, 0), (104, .invokevirtual 326, 3, 62, 0), (107, .lload 4, 2, 63, 0), (109, .invokestatic 376, 3, 64, 0), (112, .iload_n 1, 1, 65, 0), (113, .i2l, 1, 66, 0), (114, .lcmp, 1, 67, 0), (115, .ifCond .lt 10, 3, 68, 71), (118, .iload 8, 2, 69, 0), (120, .istore 7, 2, 70, 0), (122, .goto 7, 3, 71, 73), (125, .iload 8, 2, 72, 0), (127, .istore 6, 2, 73, 0), (129, .goto (-52), 3, 74, 43), (132, .iload 7, 2, 75, 0), (134, .ireturn, 1, 76, 0)]
set_option maxRecDepth 100000 in
theorem okX8_neededIncome : OkTab cX8_neededIncome tX8_neededIncome := ⟨by decide +kernel, by decide +kernel⟩
def tX8_entriesUpTo : List PT := [(0, .lconst 0, 1, 1, 0), (1, .lstore_n 2, 1, 2, 0), (2, .iconst 0, 1, 3, 0), (3, .istore 4, 2, 4, 0), (5, .iload 4, 2, 5, 0), (7, .aload_n 0, 1, 6, 0), (8, .getfield 16, 3, 7, 0), (11, .bipush 35, 2, 8, 0), (13, .iaload, 1, 9, 0), (14, .if_icmp .ge 53, 3, 10, 38), (17, .aload_n 0, 1, 11, 0), (18, .iload 4, 2, 12, 0), (20, .iconst 0, 1, 13, 0), (21, .iload_n 1, 1, 14, 0), (22, .invokevirtual 287, 3, 15, 0), (25, .ifCond .eq 36, 3, 16, 36), (28, .lload_n 2, 1, 17, 0), (29, .aload_n 0, 1, 18, 0), (30, .iload 4, 2, 19, 0), (32, .iconst 0, 1, 20, 0), (33, .invokevirtual 184, 3, 21, 0), (36, .ifCond .ne 14, 3, 22, 28), (39, .aload_n 0, 1, 23, 0), (40, .iload 4, 2, 24, 0), (42, .iconst 2, 1, 25, 0), (43, .invokevirtual 184, 3, 26, 0), (46, .i2l, 1, 27, 0), (47, .goto 12, 3, 28, 34), (50, .aload_n 0, 1, 29, 0), (51, .iload 4, 2, 30, 0), (53, .iconst 2, 1, 31, 0), (54, .invokevirtual 184, 3, 32, 0), (57, .ineg, 1, 33, 0), (58, .i2l, 1, 34, 0), (59, .ladd, 1, 35, 0), (60, .lstore_n 2, 1, 36, 0), (61, .iinc 4 1, 3, 37, 0), (64, .goto (-59), 3, 38, 4), (67, .lload_n 2, 1, 39, 0), (68, .lreturn, 1, 40, 0)]
set_option maxRecDepth 100000 in
theorem okX8_entriesUpTo : OkTab cX8_entriesUpTo tX8_entriesUpTo := ⟨by decide +kernel, by decide +kernel⟩
def tX8_assetsUpTo : List PT := [(0, .lconst 0, 1, 1, 0), (1, .lstore_n 2, 1, 2, 0), (2, .iconst 0, 1, 3, 0), (3, .istore 4, 2, 4, 0), (5, .iload 4, 2, 5, 0), (7, .aload_n 0, 1, 6, 0), (8, .getfield 16, 3, 7, 0), (11, .sipush 456, 3, 8, 0), (14, .iaload, 1, 9, 0), (15, .if_icmp .ge 70, 3, 10, 48), (18, .lload_n 2, 1, 11, 0), (19, .aload_n 0, 1, 12, 0), (20, .iload 4, 2, 13, 0), (22, .iconst 1, 1, 14, 0), (23, .invokevirtual 229, 3, 15, 0), (26, .iload_n 1, 1, 16, 0), (27, .if_icmp .gt 14, 3, 17, 23), (30, .aload_n 0, 1, 18, 0), (31, .iload 4, 2, 19, 0), (33, .iconst 0, 1, 20, 0), (34, .invokevirtual 229, 3, 21, 0), (37, .i2l, 1, 22, 0), (38, .goto 4, 3, 23, 24), (41, .lconst 0, 1, 24, 0), (42, .lsub, 1, 25, 0), (43, .lstore_n 2, 1, 26, 0), (44, .lload_n 2, 1, 27, 0), (45, .aload_n 0, 1, 28, 0), (46, .iload 4, 2, 29, 0), (48, .invokevirtual 235, 3, 30, 0), (51, .ifCond .eq 25, 3, 31, 43), (54, .aload_n 0, 1, 32, 0), (55, .iload 4, 2, 33, 0), (57, .iconst 3, 1, 34, 0), (58, .invokevirtual 229, 3, 35, 0), (61, .iload_n 1, 1, 36, 0), (62, .if_icmp .gt 14, 3, 37, 43), (65, .aload_n 0, 1, 38, 0), (66, .iload 4, 2, 39, 0), (68, .iconst 4, 1, 40, 0), (69, .invokevirtual 229, 3, 41, 0), (72, .i2l, 1, 42, 0), (73, .goto 4, 3, 43, 44), (76, .lconst 0, 1, 44, 0), (77, .ladd, 1, 45, 0), (78, .lstore_n 2, 1, 46, 0), (79, .iinc 4 1, 3, 47, 0), (82, .goto (-77), 3, 48, 4), (85, .lload_n 2, 1, 49, 0), (86, .lreturn, 1, 50, 0)]
set_option maxRecDepth 100000 in
theorem okX8_assetsUpTo : OkTab cX8_assetsUpTo tX8_assetsUpTo := ⟨by decide +kernel, by decide +kernel⟩
def tX8_prepaidUpTo : List PT := [(0, .lconst 0, 1, 1, 0), (1, .lstore_n 2, 1, 2, 0), (2, .iconst 0, 1, 3, 0), (3, .istore 4, 2, 4, 0), (5, .iload 4, 2, 5, 0), (7, .aload_n 0, 1, 6, 0), (8, .getfield 16, 3, 7, 0), (11, .sipush 517, 3, 8, 0), (14, .iaload, 1, 9, 0), (15, .if_icmp .ge 42, 3, 10, 33), (18, .lload_n 2, 1, 11, 0), (19, .bipush 90, 2, 12, 0), (21, .iload 4, 2, 13, 0), (23, .imul, 1, 14, 0), (24, .bipush 90, 2, 15, 0), (26, .iadd, 1, 16, 0), (27, .iconst 1, 1, 17, 0), (28, .isub, 1, 18, 0), (29, .iload_n 1, 1, 19, 0), (30, .if_icmp .gt 18, 3, 20, 28), (33, .aload_n 0, 1, 21, 0), (34, .getfield 16, 3, 22, 0), (37, .sipush 518, 3, 23, 0), (40, .iload 4, 2, 24, 0), (42, .iadd, 1, 25, 0), (43, .iaload, 1, 26, 0), (44, .i2l, 1, 27, 0), (45, .goto 4, 3, 28, 29), (48, .lconst 0, 1, 29, 0), (49, .ladd, 1, 30, 0), (50, .lstore_n 2, 1, 31, 0), (51, .iinc 4 1, 3, 32, 0), (54, .goto (-49), 3, 33, 4), (57, .lload_n 2, 1, 34, 0), (58, .lreturn, 1, 35, 0)]
set_option maxRecDepth 100000 in
theorem okX8_prepaidUpTo : OkTab cX8_prepaidUpTo tX8_prepaidUpTo := ⟨by decide +kernel, by decide +kernel⟩
def tX8_balanceAt : List PT := [(0, .aload_n 0, 1, 1, 0), (1, .getfield 16, 3, 2, 0), (4, .iconst 0, 1, 3, 0), (5, .iaload, 1, 4, 0), (6, .i2l, 1, 5, 0), (7, .aload_n 0, 1, 6, 0), (8, .iload_n 1, 1, 7, 0), (9, .invokevirtual 381, 3, 8, 0), (12, .ladd, 1, 9, 0), (13, .aload_n 0, 1, 10, 0), (14, .iload_n 1, 1, 11, 0), (15, .invokevirtual 384, 3, 12, 0), (18, .ladd, 1, 13, 0), (19, .aload_n 0, 1, 14, 0), (20, .iload_n 1, 1, 15, 0), (21, .invokevirtual 387, 3, 16, 0), (24, .lsub, 1, 17, 0), (25, .lreturn, 1, 18, 0)]
set_option maxRecDepth 100000 in
theorem okX8_balanceAt : OkTab cX8_balanceAt tX8_balanceAt := ⟨by decide +kernel, by decide +kernel⟩
def tX8_balance : List PT := [(0, .aload_n 0, 1, 1, 0), (1, .iconst 0, 1, 2, 0), (2, .putfield 41, 3, 3, 0), (5, .aload_n 0, 1, 4, 0), (6, .iload_n 1, 1, 5, 0), (7, .invokestatic 204, 3, 6, 0), (10, .iconst 1, 1, 7, 0), (11, .invokevirtual 52, 3, 8, 0), (14, .ifCond .eq 7, 3, 9, 11), (17, .lconst 0, 1, 10, 0), (18, .goto 8, 3, 11, 14), (21, .aload_n 0, 1, 12, 0), (22, .iload_n 1, 1, 13, 0), (23, .invokevirtual 390, 3, 14, 0), (26, .lreturn, 1, 15, 0)]
set_option maxRecDepth 100000 in
theorem okX8_balance : OkTab cX8_balance tX8_balance := ⟨by decide +kernel, by decide +kernel⟩
def tX8_layEntries : List PT := [(0, .iconst 0, 1, 1, 0), (1, .istore_n 1, 1, 2, 0), (2, .iload_n 1, 1, 3, 0), (3, .aload_n 0, 1, 4, 0), (4, .getfield 16, 3, 5, 0), (7, .bipush 35, 2, 6, 0), (9, .iaload, 1, 7, 0), (10, .if_icmp .ge 59, 3, 8, 42), (13, .aload_n 0, 1, 9, 0), (14, .iload_n 1, 1, 10, 0), (15, .invokevirtual 190, 3, 11, 0), (18, .ifCond .ne 6, 3, 12, 13), (21, .goto 42, 3, 13, 40), (24, .aload_n 0, 1, 14, 0), (25, .iload_n 1, 1, 15, 0), (26, .iconst 0, 1, 16, 0), (27, .invokevirtual 184, 3, 17, 0), (30, .ifCond .ne 7, 3, 18, 20), (33, .iconst 1, 1, 19, 0), (34, .goto 4, 3, 20, 21), (37, .iconst (-1), 1, 21, 0), (38, .istore_n 2, 1, 22, 0), (39, .aload_n 0, 1, 23, 0), (40, .getfield 25, 3, 24, 0), (43, .aload_n 0, 1, 25, 0), (44, .iload_n 1, 1, 26, 0), (45, .iconst 4, 1, 27, 0), (46, .invokevirtual 184, 3, 28, 0), (49, .dup2, 1, 29, 0), (50, .laload, 1, 30, 0), (51, .iload_n 2, 1, 31, 0), (52, .i2l, 1, 32, 0), (53, .aload_n 0, 1, 33, 0), (54, .iload_n 1, 1, 34, 0), (55, .iconst 2, 1, 35, 0), (56, .invokevirtual 184, 3, 36, 0), (59, .i2l, 1, 37, 0), (60, .lmul, 1, 38, 0), (61, .ladd, 1, 39, 0), (62, .lastore, 1, 40, 0), (63, .iinc 1 1, 3, 41, 0), (66, .goto (-64), 3, 42, 2), (69, .return_, 1, 43, 0)]
set_option maxRecDepth 100000 in
theorem okX8_layEntries : OkTab cX8_layEntries tX8_layEntries := ⟨by decide +kernel, by decide +kernel⟩
def tX8_layAssets : List PT := [(0, .iconst 0, 1, 1, 0), (1, .istore_n 1, 1, 2, 0), (2, .iload_n 1, 1, 3, 0), (3, .aload_n 0, 1, 4, 0), (4, .getfield 16, 3, 5, 0), (7, .sipush 456, 3, 6, 0), (10, .iaload, 1, 7, 0), (11, .if_icmp .ge 59, 3, 8, 44), (14, .aload_n 0, 1, 9, 0), (15, .getfield 25, 3, 10, 0), (18, .aload_n 0, 1, 11, 0), (19, .iload_n 1, 1, 12, 0), (20, .iconst 1, 1, 13, 0), (21, .invokevirtual 229, 3, 14, 0), (24, .dup2, 1, 15, 0), (25, .laload, 1, 16, 0), (26, .aload_n 0, 1, 17, 0), (27, .iload_n 1, 1, 18, 0), (28, .iconst 0, 1, 19, 0), (29, .invokevirtual 229, 3, 20, 0), (32, .i2l, 1, 21, 0), (33, .lsub, 1, 22, 0), (34, .lastore, 1, 23, 0), (35, .aload_n 0, 1, 24, 0), (36, .iload_n 1, 1, 25, 0), (37, .invokevirtual 235, 3, 26, 0), (40, .ifCond .eq 24, 3, 27, 42), (43, .aload_n 0, 1, 28, 0), (44, .getfield 25, 3, 29, 0), (47, .aload_n 0, 1, 30, 0), (48, .iload_n 1, 1, 31, 0), (49, .iconst 3, 1, 32, 0), (50, .invokevirtual 229, 3, 33, 0), (53, .dup2, 1, 34, 0), (54, .laload, 1, 35, 0), (55, .aload_n 0, 1, 36, 0), (56, .iload_n 1, 1, 37, 0), (57, .iconst 4, 1, 38, 0), (58, .invokevirtual 229, 3, 39, 0), (61, .i2l, 1, 40, 0), (62, .ladd, 1, 41, 0), (63, .lastore, 1, 42, 0), (64, .iinc 1 1, 3, 43, 0), (67, .goto (-65), 3, 44, 2), (70, .return_, 1, 45, 0)]
set_option maxRecDepth 100000 in
theorem okX8_layAssets : OkTab cX8_layAssets tX8_layAssets := ⟨by decide +kernel, by decide +kernel⟩
def tX8_layDays : List PT := [(0, .iconst 0, 1, 1, 0), (1, .istore_n 1, 1, 2, 0), (2, .iload_n 1, 1, 3, 0), (3, .sipush 360, 3, 4, 0), (6, .if_icmp .ge 16, 3, 5, 12), (9, .aload_n 0, 1, 6, 0), (10, .getfield 25, 3, 7, 0), (13, .iload_n 1, 1, 8, 0), (14, .lconst 0, 1, 9, 0), (15, .lastore, 1, 10, 0), (16, .iinc 1 1, 3, 11, 0), (19, .goto (-17), 3, 12, 2), (22, .aload_n 0, 1, 13, 0), (23, .invokevirtual 393, 3, 14, 0), (26, .aload_n 0, 1, 15, 0), (27, .invokevirtual 396, 3, 16, 0), (30, .iconst 0, 1, 17, 0), (31, .istore_n 1, 1, 18, 0), (32, .iload_n 1, 1, 19, 0), (33, .aload_n 0, 1, 20, 0), (34, .getfield 16, 3, 21, 0), (37, .sipush 517, 3, 22, 0), (40, .iaload, 1, 23, 0), (41, .if_icmp .ge 37, 3, 24, 46), (44, .aload_n 0, 1, 25, 0), (45, .getfield 25, 3, 26, 0), (48, .bipush 90, 2, 27, 0), (50, .iload_n 1, 1, 28, 0), (51, .imul, 1, 29, 0), (52, .bipush 90, 2, 30, 0), (54, .iadd, 1, 31, 0), (55, .iconst 1, 1, 32, 0), (56, .isub, 1, 33, 0), (57, .dup2, 1, 34, 0), (58, .laload, 1, 35, 0), (59, .aload_n 0, 1, 36, 0), (60, .getfield 16, 3, 37, 0), (63, .sipush 518, 3, 38, 0), (66, .iload_n 1, 1, 39, 0), (67, .iadd, 1, 40, 0), (68, .iaload, 1, 41, 0), (69, .i2l, 1, 42, 0), (70, .lsub, 1, 43, 0), (71, .lastore, 1, 44, 0), (72, .iinc 1 1, 3, 45, 0), (75, .goto (-43), 3, 46, 18), (78, .return_, 1, 47, 0)]
set_option maxRecDepth 100000 in
theorem okX8_layDays : OkTab cX8_layDays tX8_layDays := ⟨by decide +kernel, by decide +kernel⟩
def tX8_lowestDay : List PT := [(0, .aload_n 0, 1, 1, 0), (1, .iconst 0, 1, 2, 0), (2, .putfield 41, 3, 3, 0), (5, .aload_n 0, 1, 4, 0), (6, .invokevirtual 399, 3, 5, 0), (9, .iconst 0, 1, 6, 0), (10, .istore_n 1, 1, 7, 0), (11, .lconst 0, 1, 8, 0), (12, .lstore_n 2, 1, 9, 0), (13, .aload_n 0, 1, 10, 0), (14, .getfield 16, 3, 11, 0), (17, .iconst 0, 1, 12, 0), (18, .iaload, 1, 13, 0), (19, .i2l, 1, 14, 0), (20, .lstore 4, 2, 15, 0), (22, .iconst 0, 1, 16, 0), (23, .istore 6, 2, 17, 0), (25, .iload 6, 2, 18, 0), (27, .sipush 360, 3, 19, 0), (30, .if_icmp .ge 39, 3, 20, 39), (33, .lload 4, 2, 21, 0), (35, .aload_n 0, 1, 22, 0), (36, .getfield 25, 3, 23, 0), (39, .iload 6, 2, 24, 0), (41, .laload, 1, 25, 0), (42, .ladd, 1, 26, 0), (43, .lstore 4, 2, 27, 0), (45, .iload 6, 2, 28, 0), (47, .ifCond .eq 10, 3, 29, 33), (50, .lload 4, 2, 30, 0), (52, .lload_n 2, 1, 31, 0), (53, .lcmp, 1, 32, 0), (54, .ifCond .ge 9, 3, 33, 37), (57, .iload 6, 2, 34, 0), (59, .istore_n 1, 1, 35, 0), (60, .lload 4, 2, 36, 0), (62, .lstore_n 2, 1, 37, 0), (63, .iinc 6 1, 3, 38, 0), (66, .goto (-41), 3, 39, 17), (69, .iload_n 1, 1, 40, 0), (70, .ireturn, 1, 41, 0)]
set_option maxRecDepth 100000 in
theorem okX8_lowestDay : OkTab cX8_lowestDay tX8_lowestDay := ⟨by decide +kernel, by decide +kernel⟩
def tX8_daysBelow : List PT := [(0, .aload_n 0, 1, 1, 0), (1, .iconst 0, 1, 2, 0), (2, .putfield 41, 3, 3, 0), (5, .aload_n 0, 1, 4, 0), (6, .invokevirtual 399, 3, 5, 0), (9, .iconst 0, 1, 6, 0), (10, .istore_n 2, 1, 7, 0), (11, .aload_n 0, 1, 8, 0), (12, .getfield 16, 3, 9, 0), (15, .iconst 0, 1, 10, 0), (16, .iaload, 1, 11, 0), (17, .i2l, 1, 12, 0), (18, .lstore_n 3, 1, 13, 0), (19, .iconst 0, 1, 14, 0), (20, .istore 5, 2, 15, 0), (22, .iload 5, 2, 16, 0), (24, .sipush 360, 3, 17, 0), (27, .if_icmp .ge 34, 3, 18, 38), (30, .lload_n 3, 1, 19, 0), (31, .aload_n 0, 1, 20, 0), (32, .getfield 25, 3, 21, 0), (35, .iload 5, 2, 22, 0), (37, .laload, 1, 23, 0), (38, .ladd, 1, 24, 0), (39, .lstore_n 3, 1, 25, 0), (40, .iload_n 2, 1, 26, 0), (41, .lload_n 3, 1, 27, 0), (42, .iload_n 1, 1, 28, 0), (43, .i2l, 1, 29, 0), (44, .lcmp, 1, 30, 0), (45, .ifCond .ge 7, 3, 31, 33), (48, .iconst 1, 1, 32, 0), (49, .goto 4, 3, 33, 34), (52, .iconst 0, 1, 34, 0), (53, .iadd, 1, 35, 0), (54, .istore_n 2, 1, 36, 0), (55, .iinc 5 1, 3, 37, 0), (58, .goto (-36), 3, 38, 15), (61, .iload_n 2, 1, 39, 0), (62, .ireturn, 1, 40, 0)]
set_option maxRecDepth 100000 in
theorem okX8_daysBelow : OkTab cX8_daysBelow tX8_daysBelow := ⟨by decide +kernel, by decide +kernel⟩
def tX8_takenIn : List PT := [(0, .bipush 30, 2, 1, 0), (2, .iload_n 1, 1, 2, 0), (3, .imul, 1, 3, 0), (4, .istore_n 2, 1, 4, 0), (5, .iload_n 2, 1, 5, 0), (6, .bipush 30, 2, 6, 0), (8, .iadd, 1, 7, 0), (9, .iconst 1, 1, 8, 0), (10, .isub, 1, 9, 0), (11, .istore_n 3, 1, 10, 0), (12, .lconst 0, 1, 11, 0), (13, .lstore 4, 2, 12, 0), (15, .iconst 0, 1, 13, 0), (16, .istore 6, 2, 14, 0), (18, .iload 6, 2, 15, 0), (20, .aload_n 0, 1, 16, 0), (21, .getfield 16, 3, 17, 0), (24, .bipush 35, 2, 18, 0), (26, .iaload, 1, 19, 0), (27, .if_icmp .ge 47, 3, 20, 43), (30, .lload 4, 2, 21, 0), (32, .aload_n 0, 1, 22, 0), (33, .iload 6, 2, 23, 0), (35, .iconst 0, 1, 24, 0), (36, .invokevirtual 184, 3, 25, 0), (39, .ifCond .ne 25, 3, 26, 38), (42, .aload_n 0, 1, 27, 0), (43, .iload 6, 2, 28, 0), (45, .iload_n 2, 1, 29, 0), (46, .iload_n 3, 1, 30, 0), (47, .invokevirtual 287, 3, 31, 0), (50, .ifCond .eq 14, 3, 32, 38), (53, .aload_n 0, 1, 33, 0), (54, .iload 6, 2, 34, 0), (56, .iconst 2, 1, 35, 0), (57, .invokevirtual 184, 3, 36, 0), (60, .i2l, 1, 37, 0), (61, .goto 4, 3, 38, 39), (64, .lconst 0, 1, 39, 0), (65, .ladd, 1, 40, 0), (66, .lstore 4, 2, 41, 0), (68, .iinc 6 1, 3, 42, 0), (71, .goto (-53), 3, 43, 14), (74, .iconst 0, 1, 44, 0), (75, .istore 6, 2, 45, 0), (77, .iload 6, 2, 46, 0), (79, .aload_n 0, 1, 47, 0), (80, .getfield 16, 3, 48, 0), (83, .sipush 456, 3, 49, 0), (86, .iaload, 1, 50, 0), (87, .if_icmp .ge 45, 3, 51, 72), (90, .lload 4, 2, 52, 0), (92, .aload_n 0, 1, 53, 0), (93, .iload 6, 2, 54, 0), (95, .invokevirtual 235, 3, 55, 0), (98, .ifCond .eq 24, 3, 56, 67), (101, .aload_n 0, 1, 57, 0), (102, .iload 6, 2, 58, 0), (104, .invokevirtual 275, 3, 59, 0), (107, .iload_n 1, 1, 60, 0), (108, .if_icmp .ne 14, 3, 61, 67), (111, .aload_n 0, 1, 62, 0), (112, .iload 6, 2, 63, 0), (114, .iconst 4, 1, 64, 0), (115, .invokevirtual 229, 3, 65, 0), (118, .i2l, 1, 66, 0), (119, .goto 4, 3, 67, 68), (122, .lconst 0, 1, 68, 0), (123, .ladd, 1, 69, 0), (124, .lstore 4, 2, 70, 0), (126, .iinc 6 1, 3, 71, 0), (129, .goto (-52), 3, 72, 45), (132, .lload 4, 2, 73, 0), (134, .lreturn, 1, 74, 0)]
set_option maxRecDepth 100000 in
theorem okX8_takenIn : OkTab cX8_takenIn tX8_takenIn := ⟨by decide +kernel, by decide +kernel⟩
def tX8_bestMonth : List PT := [(0, .aload_n 0, 1, 1, 0), (1, .iconst 0, 1, 2, 0), (2, .putfield 41, 3, 3, 0), (5, .iconst 0, 1, 4, 0), (6, .istore_n 1, 1, 5, 0), (7, .iconst 1, 1, 6, 0), (8, .istore_n 2, 1, 7, 0), (9, .iload_n 2, 1, 8, 0), (10, .bipush 12, 2, 9, 0), (12, .if_icmp .ge 29, 3, 10, 24), (15, .aload_n 0, 1, 11, 0), (16, .iload_n 2, 1, 12, 0), (17, .invokevirtual 402, 3, 13, 0), (20, .aload_n 0, 1, 14, 0), (21, .iload_n 1, 1, 15, 0), (22, .invokevirtual 402, 3, 16, 0), (25, .lcmp, 1, 17, 0), (26, .ifCond .le 7, 3, 18, 20), (29, .iload_n 2, 1, 19, 0), (30, .goto 4, 3, 20, 21), (33, .iload_n 1, 1, 21, 0), (34, .istore_n 1, 1, 22, 0), (35, .iinc 2 1, 3, 23, 0), (38, .goto (-29), 3, 24, 7), (41, .iload_n 1, 1, 25, 0), (42, .ireturn, 1, 26, 0)]
set_option maxRecDepth 100000 in
theorem okX8_bestMonth : OkTab cX8_bestMonth tX8_bestMonth := ⟨by decide +kernel, by decide +kernel⟩
end
section
/-! 08: rooms and links -/
theorem inX0_0 : u_lay RX0 TX0 0 ∈ lw_good := lw_good_in (n := 365) (by decide +kernel) rfl
theorem inX0_1 : u_lay RX0 TX0 1 ∈ lw_good := lw_good_in (n := 367) (by decide +kernel) rfl
theorem inX0_2 : u_lay RX0 TX0 2 ∈ lw_good := lw_good_in (n := 369) (by decide +kernel) rfl
theorem inX0_3 : u_lay RX0 TX0 3 ∈ lw_good := lw_good_in (n := 371) (by decide +kernel) rfl
theorem inX0_4 : u_lay RX0 TX0 4 ∈ lw_good := lw_good_in (n := 373) (by decide +kernel) rfl
theorem inX0_5 : u_lay RX0 TX0 5 ∈ lw_good := lw_good_in (n := 375) (by decide +kernel) rfl
theorem inX0_6 : u_lay RX0 TX0 6 ∈ lw_good := lw_good_in (n := 377) (by decide +kernel) rfl
theorem inX0 : ∀ w ∈ u_ws RX0 TX0 7, w ∈ lw_good := by
  intro w hw
  obtain ⟨k, hk, rfl⟩ := List.mem_map.mp hw
  have hk := List.mem_range.mp hk
  match k, hk with
  | 0, _ => exact inX0_0
  | 1, _ => exact inX0_1
  | 2, _ => exact inX0_2
  | 3, _ => exact inX0_3
  | 4, _ => exact inX0_4
  | 5, _ => exact inX0_5
  | 6, _ => exact inX0_6
  | k + 7, hk => exact absurd hk (by omega)
theorem inX1_0 : u_lay RX1 TX1 0 ∈ lw_good := lw_good_in (n := 320) (by decide +kernel) rfl
theorem inX1_1 : u_lay RX1 TX1 1 ∈ lw_good := lw_good_in (n := 322) (by decide +kernel) rfl
theorem inX1_2 : u_lay RX1 TX1 2 ∈ lw_good := lw_good_in (n := 324) (by decide +kernel) rfl
theorem inX1_3 : u_lay RX1 TX1 3 ∈ lw_good := lw_good_in (n := 326) (by decide +kernel) rfl
theorem inX1_4 : u_lay RX1 TX1 4 ∈ lw_good := lw_good_in (n := 328) (by decide +kernel) rfl
theorem inX1_5 : u_lay RX1 TX1 5 ∈ lw_good := lw_good_in (n := 330) (by decide +kernel) rfl
theorem inX1_6 : u_lay RX1 TX1 6 ∈ lw_good := lw_good_in (n := 332) (by decide +kernel) rfl
theorem inX1_7 : u_lay RX1 TX1 7 ∈ lw_good := lw_good_in (n := 334) (by decide +kernel) rfl
theorem inX1 : ∀ w ∈ u_ws RX1 TX1 8, w ∈ lw_good := by
  intro w hw
  obtain ⟨k, hk, rfl⟩ := List.mem_map.mp hw
  have hk := List.mem_range.mp hk
  match k, hk with
  | 0, _ => exact inX1_0
  | 1, _ => exact inX1_1
  | 2, _ => exact inX1_2
  | 3, _ => exact inX1_3
  | 4, _ => exact inX1_4
  | 5, _ => exact inX1_5
  | 6, _ => exact inX1_6
  | 7, _ => exact inX1_7
  | k + 8, hk => exact absurd hk (by omega)
theorem inX2_0 : u_lay RX2 TX2 0 ∈ lw_good := lw_good_in (n := 418) (by decide +kernel) rfl
theorem inX2_1 : u_lay RX2 TX2 1 ∈ lw_good := lw_good_in (n := 420) (by decide +kernel) rfl
theorem inX2_2 : u_lay RX2 TX2 2 ∈ lw_good := lw_good_in (n := 422) (by decide +kernel) rfl
theorem inX2 : ∀ w ∈ u_ws RX2 TX2 3, w ∈ lw_good := by
  intro w hw
  obtain ⟨k, hk, rfl⟩ := List.mem_map.mp hw
  have hk := List.mem_range.mp hk
  match k, hk with
  | 0, _ => exact inX2_0
  | 1, _ => exact inX2_1
  | 2, _ => exact inX2_2
  | k + 3, hk => exact absurd hk (by omega)
theorem inX3_0 : u_lay RX3 TX3 0 ∈ lw_good := lw_good_in (n := 196) (by decide +kernel) rfl
theorem inX3_1 : u_lay RX3 TX3 1 ∈ lw_good := lw_good_in (n := 198) (by decide +kernel) rfl
theorem inX3_2 : u_lay RX3 TX3 2 ∈ lw_good := lw_good_in (n := 200) (by decide +kernel) rfl
theorem inX3_3 : u_lay RX3 TX3 3 ∈ lw_good := lw_good_in (n := 202) (by decide +kernel) rfl
theorem inX3 : ∀ w ∈ u_ws RX3 TX3 4, w ∈ lw_good := by
  intro w hw
  obtain ⟨k, hk, rfl⟩ := List.mem_map.mp hw
  have hk := List.mem_range.mp hk
  match k, hk with
  | 0, _ => exact inX3_0
  | 1, _ => exact inX3_1
  | 2, _ => exact inX3_2
  | 3, _ => exact inX3_3
  | k + 4, hk => exact absurd hk (by omega)
theorem inX4_0 : u_lay RX4 TX4 0 ∈ lw_good := lw_good_in (n := 232) (by decide +kernel) rfl
theorem inX4_1 : u_lay RX4 TX4 1 ∈ lw_good := lw_good_in (n := 234) (by decide +kernel) rfl
theorem inX4_2 : u_lay RX4 TX4 2 ∈ lw_good := lw_good_in (n := 236) (by decide +kernel) rfl
theorem inX4_3 : u_lay RX4 TX4 3 ∈ lw_good := lw_good_in (n := 238) (by decide +kernel) rfl
theorem inX4_4 : u_lay RX4 TX4 4 ∈ lw_good := lw_good_in (n := 240) (by decide +kernel) rfl
theorem inX4_5 : u_lay RX4 TX4 5 ∈ lw_good := lw_good_in (n := 242) (by decide +kernel) rfl
theorem inX4_6 : u_lay RX4 TX4 6 ∈ lw_good := lw_good_in (n := 244) (by decide +kernel) rfl
theorem inX4_7 : u_lay RX4 TX4 7 ∈ lw_good := lw_good_in (n := 246) (by decide +kernel) rfl
theorem inX4_8 : u_lay RX4 TX4 8 ∈ lw_good := lw_good_in (n := 248) (by decide +kernel) rfl
theorem inX4 : ∀ w ∈ u_ws RX4 TX4 9, w ∈ lw_good := by
  intro w hw
  obtain ⟨k, hk, rfl⟩ := List.mem_map.mp hw
  have hk := List.mem_range.mp hk
  match k, hk with
  | 0, _ => exact inX4_0
  | 1, _ => exact inX4_1
  | 2, _ => exact inX4_2
  | 3, _ => exact inX4_3
  | 4, _ => exact inX4_4
  | 5, _ => exact inX4_5
  | 6, _ => exact inX4_6
  | 7, _ => exact inX4_7
  | 8, _ => exact inX4_8
  | k + 9, hk => exact absurd hk (by omega)
theorem inX5_0 : u_lay RX5 TX5 0 ∈ lw_good := lw_good_in (n := 262) (by decide +kernel) rfl
theorem inX5_1 : u_lay RX5 TX5 1 ∈ lw_good := lw_good_in (n := 264) (by decide +kernel) rfl
theorem inX5_2 : u_lay RX5 TX5 2 ∈ lw_good := lw_good_in (n := 266) (by decide +kernel) rfl
theorem inX5_3 : u_lay RX5 TX5 3 ∈ lw_good := lw_good_in (n := 268) (by decide +kernel) rfl
theorem inX5_4 : u_lay RX5 TX5 4 ∈ lw_good := lw_good_in (n := 270) (by decide +kernel) rfl
theorem inX5_5 : u_lay RX5 TX5 5 ∈ lw_good := lw_good_in (n := 272) (by decide +kernel) rfl
theorem inX5_6 : u_lay RX5 TX5 6 ∈ lw_good := lw_good_in (n := 274) (by decide +kernel) rfl
theorem inX5_7 : u_lay RX5 TX5 7 ∈ lw_good := lw_good_in (n := 276) (by decide +kernel) rfl
theorem inX5_8 : u_lay RX5 TX5 8 ∈ lw_good := lw_good_in (n := 278) (by decide +kernel) rfl
theorem inX5_9 : u_lay RX5 TX5 9 ∈ lw_good := lw_good_in (n := 280) (by decide +kernel) rfl
theorem inX5_10 : u_lay RX5 TX5 10 ∈ lw_good := lw_good_in (n := 282) (by decide +kernel) rfl
theorem inX5 : ∀ w ∈ u_ws RX5 TX5 11, w ∈ lw_good := by
  intro w hw
  obtain ⟨k, hk, rfl⟩ := List.mem_map.mp hw
  have hk := List.mem_range.mp hk
  match k, hk with
  | 0, _ => exact inX5_0
  | 1, _ => exact inX5_1
  | 2, _ => exact inX5_2
  | 3, _ => exact inX5_3
  | 4, _ => exact inX5_4
  | 5, _ => exact inX5_5
  | 6, _ => exact inX5_6
  | 7, _ => exact inX5_7
  | 8, _ => exact inX5_8
  | 9, _ => exact inX5_9
  | 10, _ => exact inX5_10
  | k + 11, hk => exact absurd hk (by omega)
theorem inX6_0 : u_lay RX6 TX6 0 ∈ lw_good := lw_good_in (n := 392) (by decide +kernel) rfl
theorem inX6_1 : u_lay RX6 TX6 1 ∈ lw_good := lw_good_in (n := 394) (by decide +kernel) rfl
theorem inX6_2 : u_lay RX6 TX6 2 ∈ lw_good := lw_good_in (n := 396) (by decide +kernel) rfl
theorem inX6_3 : u_lay RX6 TX6 3 ∈ lw_good := lw_good_in (n := 398) (by decide +kernel) rfl
theorem inX6_4 : u_lay RX6 TX6 4 ∈ lw_good := lw_good_in (n := 400) (by decide +kernel) rfl
theorem inX6_5 : u_lay RX6 TX6 5 ∈ lw_good := lw_good_in (n := 402) (by decide +kernel) rfl
theorem inX6 : ∀ w ∈ u_ws RX6 TX6 6, w ∈ lw_good := by
  intro w hw
  obtain ⟨k, hk, rfl⟩ := List.mem_map.mp hw
  have hk := List.mem_range.mp hk
  match k, hk with
  | 0, _ => exact inX6_0
  | 1, _ => exact inX6_1
  | 2, _ => exact inX6_2
  | 3, _ => exact inX6_3
  | 4, _ => exact inX6_4
  | 5, _ => exact inX6_5
  | k + 6, hk => exact absurd hk (by omega)
theorem inX7_0 : u_lay RX7 TX7 0 ∈ lw_good := lw_good_in (n := 448) (by decide +kernel) rfl
theorem inX7_1 : u_lay RX7 TX7 1 ∈ lw_good := lw_good_in (n := 450) (by decide +kernel) rfl
theorem inX7_2 : u_lay RX7 TX7 2 ∈ lw_good := lw_good_in (n := 452) (by decide +kernel) rfl
theorem inX7_3 : u_lay RX7 TX7 3 ∈ lw_good := lw_good_in (n := 454) (by decide +kernel) rfl
theorem inX7_4 : u_lay RX7 TX7 4 ∈ lw_good := lw_good_in (n := 456) (by decide +kernel) rfl
theorem inX7_5 : u_lay RX7 TX7 5 ∈ lw_good := lw_good_in (n := 458) (by decide +kernel) rfl
theorem inX7_6 : u_lay RX7 TX7 6 ∈ lw_good := lw_good_in (n := 460) (by decide +kernel) rfl
theorem inX7_7 : u_lay RX7 TX7 7 ∈ lw_good := lw_good_in (n := 462) (by decide +kernel) rfl
theorem inX7_8 : u_lay RX7 TX7 8 ∈ lw_good := lw_good_in (n := 464) (by decide +kernel) rfl
theorem inX7 : ∀ w ∈ u_ws RX7 TX7 9, w ∈ lw_good := by
  intro w hw
  obtain ⟨k, hk, rfl⟩ := List.mem_map.mp hw
  have hk := List.mem_range.mp hk
  match k, hk with
  | 0, _ => exact inX7_0
  | 1, _ => exact inX7_1
  | 2, _ => exact inX7_2
  | 3, _ => exact inX7_3
  | 4, _ => exact inX7_4
  | 5, _ => exact inX7_5
  | 6, _ => exact inX7_6
  | 7, _ => exact inX7_7
  | 8, _ => exact inX7_8
  | k + 9, hk => exact absurd hk (by omega)
theorem inX8_0 : u_lay RX8 TX8 0 ∈ lw_good := lw_good_in (n := 1323) (by decide +kernel) rfl
theorem inX8_1 : u_lay RX8 TX8 1 ∈ lw_good := lw_good_in (n := 1325) (by decide +kernel) rfl
theorem inX8_2 : u_lay RX8 TX8 2 ∈ lw_good := lw_good_in (n := 1327) (by decide +kernel) rfl
theorem inX8_3 : u_lay RX8 TX8 3 ∈ lw_good := lw_good_in (n := 1329) (by decide +kernel) rfl
theorem inX8_4 : u_lay RX8 TX8 4 ∈ lw_good := lw_good_in (n := 1331) (by decide +kernel) rfl
theorem inX8_5 : u_lay RX8 TX8 5 ∈ lw_good := lw_good_in (n := 1333) (by decide +kernel) rfl
theorem inX8_6 : u_lay RX8 TX8 6 ∈ lw_good := lw_good_in (n := 1335) (by decide +kernel) rfl
theorem inX8_7 : u_lay RX8 TX8 7 ∈ lw_good := lw_good_in (n := 1337) (by decide +kernel) rfl
theorem inX8_8 : u_lay RX8 TX8 8 ∈ lw_good := lw_good_in (n := 1339) (by decide +kernel) rfl
theorem inX8_9 : u_lay RX8 TX8 9 ∈ lw_good := lw_good_in (n := 1341) (by decide +kernel) rfl
theorem inX8_10 : u_lay RX8 TX8 10 ∈ lw_good := lw_good_in (n := 1343) (by decide +kernel) rfl
theorem inX8_11 : u_lay RX8 TX8 11 ∈ lw_good := lw_good_in (n := 1345) (by decide +kernel) rfl
theorem inX8_12 : u_lay RX8 TX8 12 ∈ lw_good := lw_good_in (n := 1347) (by decide +kernel) rfl
theorem inX8_13 : u_lay RX8 TX8 13 ∈ lw_good := lw_good_in (n := 1349) (by decide +kernel) rfl
theorem inX8_14 : u_lay RX8 TX8 14 ∈ lw_good := lw_good_in (n := 1351) (by decide +kernel) rfl
theorem inX8_15 : u_lay RX8 TX8 15 ∈ lw_good := lw_good_in (n := 1353) (by decide +kernel) rfl
theorem inX8 : ∀ w ∈ u_ws RX8 TX8 16, w ∈ lw_good := by
  intro w hw
  obtain ⟨k, hk, rfl⟩ := List.mem_map.mp hw
  have hk := List.mem_range.mp hk
  match k, hk with
  | 0, _ => exact inX8_0
  | 1, _ => exact inX8_1
  | 2, _ => exact inX8_2
  | 3, _ => exact inX8_3
  | 4, _ => exact inX8_4
  | 5, _ => exact inX8_5
  | 6, _ => exact inX8_6
  | 7, _ => exact inX8_7
  | 8, _ => exact inX8_8
  | 9, _ => exact inX8_9
  | 10, _ => exact inX8_10
  | 11, _ => exact inX8_11
  | 12, _ => exact inX8_12
  | 13, _ => exact inX8_13
  | 14, _ => exact inX8_14
  | 15, _ => exact inX8_15
  | k + 16, hk => exact absurd hk (by omega)
abbrev rmX0_init : Room := { frames := 1, cells := 6, slots := 72, locals := 20 }
theorem lcX0_init : LkC yX0_init cX0_init 1 none 0 := ⟨lw_good_in (n := 344) (by decide +kernel) rfl, lw_good_in (n := 145) (by decide +kernel) rfl, ⟨by decide +kernel, by decide +kernel⟩, by decide +kernel⟩
theorem liX0_init : Cond.instanceMethod yX0_init ∈ lw_good := lw_good_in (n := 343) (by decide +kernel) rfl
abbrev rmX0_add : Room := { frames := 0, cells := 0, slots := 0, locals := 0 }
theorem lcX0_add : LkC yX0_add cX0_add 5 (some .int) 4 := ⟨lw_good_in (n := 974) (by decide +kernel) rfl, lw_good_in (n := 145) (by decide +kernel) rfl, ⟨by decide +kernel, by decide +kernel⟩, by decide +kernel⟩
theorem lsX0_add : LkSel yX0_add := ⟨lw_good_in (n := 973) (by decide +kernel) rfl, lw_good_in (n := 53) (by decide +kernel) rfl⟩
abbrev rmX0_copyFrom : Room := { frames := 0, cells := 0, slots := 0, locals := 0 }
theorem lcX0_copyFrom : LkC yX0_copyFrom cX0_copyFrom 3 none 1 := ⟨lw_good_in (n := 622) (by decide +kernel) rfl, lw_good_in (n := 145) (by decide +kernel) rfl, ⟨by decide +kernel, by decide +kernel⟩, by decide +kernel⟩
theorem lsX0_copyFrom : LkSel yX0_copyFrom := ⟨lw_good_in (n := 621) (by decide +kernel) rfl, lw_good_in (n := 22) (by decide +kernel) rfl⟩
abbrev rmX0_soldOnes : Room := { frames := 0, cells := 0, slots := 0, locals := 0 }
theorem lcX0_soldOnes : LkC yX0_soldOnes cX0_soldOnes 3 (some .int) 0 := ⟨lw_good_in (n := 1052) (by decide +kernel) rfl, lw_good_in (n := 145) (by decide +kernel) rfl, ⟨by decide +kernel, by decide +kernel⟩, by decide +kernel⟩
theorem lsX0_soldOnes : LkSel yX0_soldOnes := ⟨lw_good_in (n := 1051) (by decide +kernel) rfl, lw_good_in (n := 61) (by decide +kernel) rfl⟩
abbrev rmX0_isSoldBy : Room := { frames := 0, cells := 0, slots := 0, locals := 0 }
theorem lcX0_isSoldBy : LkC yX0_isSoldBy cX0_isSoldBy 3 (some .boolean) 2 := ⟨lw_good_in (n := 719) (by decide +kernel) rfl, lw_good_in (n := 145) (by decide +kernel) rfl, ⟨by decide +kernel, by decide +kernel⟩, by decide +kernel⟩
theorem lsX0_isSoldBy : LkSel yX0_isSoldBy := ⟨lw_good_in (n := 718) (by decide +kernel) rfl, lw_good_in (n := 41) (by decide +kernel) rfl⟩
abbrev rmX0_writtenUpTo : Room := { frames := 1, cells := 0, slots := 0, locals := 22 }
theorem lcX0_writtenUpTo : LkC yX0_writtenUpTo cX0_writtenUpTo 4 (some .int) 2 := ⟨lw_good_in (n := 715) (by decide +kernel) rfl, lw_good_in (n := 145) (by decide +kernel) rfl, ⟨by decide +kernel, by decide +kernel⟩, by decide +kernel⟩
theorem lsX0_writtenUpTo : LkSel yX0_writtenUpTo := ⟨lw_good_in (n := 714) (by decide +kernel) rfl, lw_good_in (n := 40) (by decide +kernel) rfl⟩
abbrev rmX0_writtenIn : Room := { frames := 2, cells := 0, slots := 0, locals := 45 }
theorem lcX0_writtenIn : LkC yX0_writtenIn cX0_writtenIn 3 (some .int) 2 := ⟨lw_good_in (n := 1174) (by decide +kernel) rfl, lw_good_in (n := 145) (by decide +kernel) rfl, ⟨by decide +kernel, by decide +kernel⟩, by decide +kernel⟩
theorem lsX0_writtenIn : LkSel yX0_writtenIn := ⟨lw_good_in (n := 1173) (by decide +kernel) rfl, lw_good_in (n := 67) (by decide +kernel) rfl⟩
abbrev rmX0_valueAt : Room := { frames := 2, cells := 0, slots := 0, locals := 45 }
theorem lcX0_valueAt : LkC yX0_valueAt cX0_valueAt 4 (some .int) 2 := ⟨lw_good_in (n := 985) (by decide +kernel) rfl, lw_good_in (n := 145) (by decide +kernel) rfl, ⟨by decide +kernel, by decide +kernel⟩, by decide +kernel⟩
theorem lsX0_valueAt : LkSel yX0_valueAt := ⟨lw_good_in (n := 984) (by decide +kernel) rfl, lw_good_in (n := 54) (by decide +kernel) rfl⟩
abbrev rmX0_allWrittenUpTo : Room := { frames := 2, cells := 0, slots := 0, locals := 45 }
theorem lcX0_allWrittenUpTo : LkC yX0_allWrittenUpTo cX0_allWrittenUpTo 6 (some .long) 1 := ⟨lw_good_in (n := 703) (by decide +kernel) rfl, lw_good_in (n := 145) (by decide +kernel) rfl, ⟨by decide +kernel, by decide +kernel⟩, by decide +kernel⟩
theorem lsX0_allWrittenUpTo : LkSel yX0_allWrittenUpTo := ⟨lw_good_in (n := 702) (by decide +kernel) rfl, lw_good_in (n := 37) (by decide +kernel) rfl⟩
abbrev rmX0_poolAt : Room := { frames := 0, cells := 0, slots := 0, locals := 0 }
theorem lcX0_poolAt : LkC yX0_poolAt cX0_poolAt 4 (some .int) 1 := ⟨lw_good_in (n := 711) (by decide +kernel) rfl, lw_good_in (n := 145) (by decide +kernel) rfl, ⟨by decide +kernel, by decide +kernel⟩, by decide +kernel⟩
theorem lsX0_poolAt : LkSel yX0_poolAt := ⟨lw_good_in (n := 710) (by decide +kernel) rfl, lw_good_in (n := 39) (by decide +kernel) rfl⟩
abbrev rmX0_poolWrittenUpTo : Room := { frames := 1, cells := 0, slots := 0, locals := 23 }
theorem lcX0_poolWrittenUpTo : LkC yX0_poolWrittenUpTo cX0_poolWrittenUpTo 2 (some .int) 1 := ⟨lw_good_in (n := 707) (by decide +kernel) rfl, lw_good_in (n := 145) (by decide +kernel) rfl, ⟨by decide +kernel, by decide +kernel⟩, by decide +kernel⟩
theorem lsX0_poolWrittenUpTo : LkSel yX0_poolWrittenUpTo := ⟨lw_good_in (n := 706) (by decide +kernel) rfl, lw_good_in (n := 38) (by decide +kernel) rfl⟩
abbrev rmX0_poolWrittenIn : Room := { frames := 2, cells := 0, slots := 0, locals := 44 }
theorem lcX0_poolWrittenIn : LkC yX0_poolWrittenIn cX0_poolWrittenIn 2 (some .int) 1 := ⟨lw_good_in (n := 1203) (by decide +kernel) rfl, lw_good_in (n := 145) (by decide +kernel) rfl, ⟨by decide +kernel, by decide +kernel⟩, by decide +kernel⟩
theorem lsX0_poolWrittenIn : LkSel yX0_poolWrittenIn := ⟨lw_good_in (n := 1202) (by decide +kernel) rfl, lw_good_in (n := 68) (by decide +kernel) rfl⟩
abbrev rmX0_soldFor : Room := { frames := 1, cells := 0, slots := 0, locals := 22 }
theorem lcX0_soldFor : LkC yX0_soldFor cX0_soldFor 6 (some .long) 2 := ⟨lw_good_in (n := 677) (by decide +kernel) rfl, lw_good_in (n := 145) (by decide +kernel) rfl, ⟨by decide +kernel, by decide +kernel⟩, by decide +kernel⟩
theorem lsX0_soldFor : LkSel yX0_soldFor := ⟨lw_good_in (n := 676) (by decide +kernel) rfl, lw_good_in (n := 31) (by decide +kernel) rfl⟩
abbrev rmX1_init : Room := { frames := 1, cells := 7, slots := 420, locals := 20 }
theorem lcX1_init : LkC yX1_init cX1_init 1 none 0 := ⟨lw_good_in (n := 297) (by decide +kernel) rfl, lw_good_in (n := 144) (by decide +kernel) rfl, ⟨by decide +kernel, by decide +kernel⟩, by decide +kernel⟩
theorem liX1_init : Cond.instanceMethod yX1_init ∈ lw_good := lw_good_in (n := 296) (by decide +kernel) rfl
abbrev rmX1_add : Room := { frames := 0, cells := 0, slots := 0, locals := 0 }
theorem lcX1_add : LkC yX1_add cX1_add 7 (some .int) 6 := ⟨lw_good_in (n := 908) (by decide +kernel) rfl, lw_good_in (n := 144) (by decide +kernel) rfl, ⟨by decide +kernel, by decide +kernel⟩, by decide +kernel⟩
theorem lsX1_add : LkSel yX1_add := ⟨lw_good_in (n := 907) (by decide +kernel) rfl, lw_good_in (n := 51) (by decide +kernel) rfl⟩
abbrev rmX1_copyFrom : Room := { frames := 0, cells := 0, slots := 0, locals := 0 }
theorem lcX1_copyFrom : LkC yX1_copyFrom cX1_copyFrom 3 none 1 := ⟨lw_good_in (n := 618) (by decide +kernel) rfl, lw_good_in (n := 144) (by decide +kernel) rfl, ⟨by decide +kernel, by decide +kernel⟩, by decide +kernel⟩
theorem lsX1_copyFrom : LkSel yX1_copyFrom := ⟨lw_good_in (n := 617) (by decide +kernel) rfl, lw_good_in (n := 21) (by decide +kernel) rfl⟩
abbrev rmX1_isOpen : Room := { frames := 0, cells := 0, slots := 0, locals := 0 }
theorem lcX1_isOpen : LkC yX1_isOpen cX1_isOpen 2 (some .boolean) 1 := ⟨lw_good_in (n := 1040) (by decide +kernel) rfl, lw_good_in (n := 144) (by decide +kernel) rfl, ⟨by decide +kernel, by decide +kernel⟩, by decide +kernel⟩
theorem lsX1_isOpen : LkSel yX1_isOpen := ⟨lw_good_in (n := 1039) (by decide +kernel) rfl, lw_good_in (n := 58) (by decide +kernel) rfl⟩
abbrev rmX1_counts : Room := { frames := 0, cells := 0, slots := 0, locals := 0 }
theorem lcX1_counts : LkC yX1_counts cX1_counts 2 (some .boolean) 1 := ⟨lw_good_in (n := 673) (by decide +kernel) rfl, lw_good_in (n := 144) (by decide +kernel) rfl, ⟨by decide +kernel, by decide +kernel⟩, by decide +kernel⟩
theorem lsX1_counts : LkSel yX1_counts := ⟨lw_good_in (n := 672) (by decide +kernel) rfl, lw_good_in (n := 30) (by decide +kernel) rfl⟩
abbrev rmX1_countsWithin : Room := { frames := 1, cells := 0, slots := 0, locals := 21 }
theorem lcX1_countsWithin : LkC yX1_countsWithin cX1_countsWithin 4 (some .boolean) 3 := ⟨lw_good_in (n := 669) (by decide +kernel) rfl, lw_good_in (n := 144) (by decide +kernel) rfl, ⟨by decide +kernel, by decide +kernel⟩, by decide +kernel⟩
theorem lsX1_countsWithin : LkSel yX1_countsWithin := ⟨lw_good_in (n := 668) (by decide +kernel) rfl, lw_good_in (n := 29) (by decide +kernel) rfl⟩
abbrev rmX1_openOnes : Room := { frames := 1, cells := 0, slots := 0, locals := 21 }
theorem lcX1_openOnes : LkC yX1_openOnes cX1_openOnes 3 (some .int) 0 := ⟨lw_good_in (n := 1036) (by decide +kernel) rfl, lw_good_in (n := 144) (by decide +kernel) rfl, ⟨by decide +kernel, by decide +kernel⟩, by decide +kernel⟩
theorem lsX1_openOnes : LkSel yX1_openOnes := ⟨lw_good_in (n := 1035) (by decide +kernel) rfl, lw_good_in (n := 57) (by decide +kernel) rfl⟩
abbrev rmX1_cancelledOnes : Room := { frames := 0, cells := 0, slots := 0, locals := 0 }
theorem lcX1_cancelledOnes : LkC yX1_cancelledOnes cX1_cancelledOnes 3 (some .int) 0 := ⟨lw_good_in (n := 1044) (by decide +kernel) rfl, lw_good_in (n := 144) (by decide +kernel) rfl, ⟨by decide +kernel, by decide +kernel⟩, by decide +kernel⟩
theorem lsX1_cancelledOnes : LkSel yX1_cancelledOnes := ⟨lw_good_in (n := 1043) (by decide +kernel) rfl, lw_good_in (n := 59) (by decide +kernel) rfl⟩
abbrev rmX1_lateOnes : Room := { frames := 0, cells := 0, slots := 0, locals := 0 }
theorem lcX1_lateOnes : LkC yX1_lateOnes cX1_lateOnes 3 (some .int) 0 := ⟨lw_good_in (n := 1048) (by decide +kernel) rfl, lw_good_in (n := 144) (by decide +kernel) rfl, ⟨by decide +kernel, by decide +kernel⟩, by decide +kernel⟩
theorem lsX1_lateOnes : LkSel yX1_lateOnes := ⟨lw_good_in (n := 1047) (by decide +kernel) rfl, lw_good_in (n := 60) (by decide +kernel) rfl⟩
abbrev rmX1_sumPaid : Room := { frames := 2, cells := 0, slots := 0, locals := 44 }
theorem lcX1_sumPaid : LkC yX1_sumPaid cX1_sumPaid 7 (some .long) 3 := ⟨lw_good_in (n := 665) (by decide +kernel) rfl, lw_good_in (n := 144) (by decide +kernel) rfl, ⟨by decide +kernel, by decide +kernel⟩, by decide +kernel⟩
theorem lsX1_sumPaid : LkSel yX1_sumPaid := ⟨lw_good_in (n := 664) (by decide +kernel) rfl, lw_good_in (n := 28) (by decide +kernel) rfl⟩
abbrev rmX1_incomesOf : Room := { frames := 1, cells := 0, slots := 0, locals := 21 }
theorem lcX1_incomesOf : LkC yX1_incomesOf cX1_incomesOf 5 (some .long) 1 := ⟨lw_good_in (n := 1090) (by decide +kernel) rfl, lw_good_in (n := 144) (by decide +kernel) rfl, ⟨by decide +kernel, by decide +kernel⟩, by decide +kernel⟩
theorem lsX1_incomesOf : LkSel yX1_incomesOf := ⟨lw_good_in (n := 1089) (by decide +kernel) rfl, lw_good_in (n := 63) (by decide +kernel) rfl⟩
abbrev rmX1_sumOpen : Room := { frames := 1, cells := 0, slots := 0, locals := 21 }
theorem lcX1_sumOpen : LkC yX1_sumOpen cX1_sumOpen 5 (some .long) 1 := ⟨lw_good_in (n := 1106) (by decide +kernel) rfl, lw_good_in (n := 144) (by decide +kernel) rfl, ⟨by decide +kernel, by decide +kernel⟩, by decide +kernel⟩
theorem lsX1_sumOpen : LkSel yX1_sumOpen := ⟨lw_good_in (n := 1105) (by decide +kernel) rfl, lw_good_in (n := 65) (by decide +kernel) rfl⟩
abbrev rmX1_firstInvoicedOpen : Room := { frames := 1, cells := 0, slots := 0, locals := 21 }
theorem lcX1_firstInvoicedOpen : LkC yX1_firstInvoicedOpen cX1_firstInvoicedOpen 3 (some .int) 0 := ⟨lw_good_in (n := 1118) (by decide +kernel) rfl, lw_good_in (n := 144) (by decide +kernel) rfl, ⟨by decide +kernel, by decide +kernel⟩, by decide +kernel⟩
theorem lsX1_firstInvoicedOpen : LkSel yX1_firstInvoicedOpen := ⟨lw_good_in (n := 1117) (by decide +kernel) rfl, lw_good_in (n := 66) (by decide +kernel) rfl⟩
abbrev rmX2_init : Room := { frames := 3, cells := 169, slots := 4320, locals := 60 }
theorem lcX2_init : LkC yX2_init cX2_init 2 none 0 := ⟨lw_good_in (n := 409) (by decide +kernel) rfl, lw_good_in (n := 146) (by decide +kernel) rfl, ⟨by decide +kernel, by decide +kernel⟩, by decide +kernel⟩
theorem liX2_init : Cond.instanceMethod yX2_init ∈ lw_good := lw_good_in (n := 408) (by decide +kernel) rfl
abbrev rmX2_clear : Room := { frames := 0, cells := 0, slots := 0, locals := 0 }
theorem lcX2_clear : LkC yX2_clear cX2_clear 1 none 0 := ⟨lw_good_in (n := 887) (by decide +kernel) rfl, lw_good_in (n := 146) (by decide +kernel) rfl, ⟨by decide +kernel, by decide +kernel⟩, by decide +kernel⟩
theorem lsX2_clear : LkSel yX2_clear := ⟨lw_good_in (n := 886) (by decide +kernel) rfl, lw_good_in (n := 49) (by decide +kernel) rfl⟩
abbrev rmX2_remember : Room := { frames := 2, cells := 0, slots := 0, locals := 44 }
theorem lcX2_remember : LkC yX2_remember cX2_remember 3 none 1 := ⟨lw_good_in (n := 902) (by decide +kernel) rfl, lw_good_in (n := 146) (by decide +kernel) rfl, ⟨by decide +kernel, by decide +kernel⟩, by decide +kernel⟩
theorem lsX2_remember : LkSel yX2_remember := ⟨lw_good_in (n := 901) (by decide +kernel) rfl, lw_good_in (n := 50) (by decide +kernel) rfl⟩
abbrev rmX2_takeBack : Room := { frames := 2, cells := 0, slots := 0, locals := 44 }
theorem lcX2_takeBack : LkC yX2_takeBack cX2_takeBack 3 none 1 := ⟨lw_good_in (n := 1015) (by decide +kernel) rfl, lw_good_in (n := 146) (by decide +kernel) rfl, ⟨by decide +kernel, by decide +kernel⟩, by decide +kernel⟩
theorem lsX2_takeBack : LkSel yX2_takeBack := ⟨lw_good_in (n := 1014) (by decide +kernel) rfl, lw_good_in (n := 56) (by decide +kernel) rfl⟩
abbrev rmX3_init : Room := { frames := 1, cells := 3, slots := 18, locals := 20 }
theorem lcX3_init : LkC yX3_init cX3_init 1 none 0 := ⟨lw_good_in (n := 184) (by decide +kernel) rfl, lw_good_in (n := 142) (by decide +kernel) rfl, ⟨by decide +kernel, by decide +kernel⟩, by decide +kernel⟩
theorem liX3_init : Cond.instanceMethod yX3_init ∈ lw_good := lw_good_in (n := 183) (by decide +kernel) rfl
abbrev rmX3_add : Room := { frames := 0, cells := 0, slots := 0, locals := 0 }
theorem lcX3_add : LkC yX3_add cX3_add 4 (some .int) 3 := ⟨lw_good_in (n := 601) (by decide +kernel) rfl, lw_good_in (n := 142) (by decide +kernel) rfl, ⟨by decide +kernel, by decide +kernel⟩, by decide +kernel⟩
theorem lsX3_add : LkSel yX3_add := ⟨lw_good_in (n := 600) (by decide +kernel) rfl, lw_good_in (n := 19) (by decide +kernel) rfl⟩
abbrev rmX3_copyFrom : Room := { frames := 0, cells := 0, slots := 0, locals := 0 }
theorem lcX3_copyFrom : LkC yX3_copyFrom cX3_copyFrom 3 none 1 := ⟨lw_good_in (n := 438) (by decide +kernel) rfl, lw_good_in (n := 142) (by decide +kernel) rfl, ⟨by decide +kernel, by decide +kernel⟩, by decide +kernel⟩
theorem lsX3_copyFrom : LkSel yX3_copyFrom := ⟨lw_good_in (n := 437) (by decide +kernel) rfl, lw_good_in (n := 3) (by decide +kernel) rfl⟩
abbrev rmX3_daysUsed : Room := { frames := 0, cells := 0, slots := 0, locals := 0 }
theorem lcX3_daysUsed : LkC yX3_daysUsed cX3_daysUsed 6 (some .int) 3 := ⟨lw_good_in (n := 699) (by decide +kernel) rfl, lw_good_in (n := 142) (by decide +kernel) rfl, ⟨by decide +kernel, by decide +kernel⟩, by decide +kernel⟩
theorem lsX3_daysUsed : LkSel yX3_daysUsed := ⟨lw_good_in (n := 698) (by decide +kernel) rfl, lw_good_in (n := 36) (by decide +kernel) rfl⟩
abbrev rmX3_usedIn : Room := { frames := 1, cells := 0, slots := 0, locals := 25 }
theorem lcX3_usedIn : LkC yX3_usedIn cX3_usedIn 5 (some .int) 1 := ⟨lw_good_in (n := 695) (by decide +kernel) rfl, lw_good_in (n := 142) (by decide +kernel) rfl, ⟨by decide +kernel, by decide +kernel⟩, by decide +kernel⟩
theorem lsX3_usedIn : LkSel yX3_usedIn := ⟨lw_good_in (n := 694) (by decide +kernel) rfl, lw_good_in (n := 35) (by decide +kernel) rfl⟩
abbrev rmX3_wholeMonth : Room := { frames := 0, cells := 0, slots := 0, locals := 0 }
theorem lcX3_wholeMonth : LkC yX3_wholeMonth cX3_wholeMonth 3 (some .int) 0 := ⟨lw_good_in (n := 691) (by decide +kernel) rfl, lw_good_in (n := 142) (by decide +kernel) rfl, ⟨by decide +kernel, by decide +kernel⟩, by decide +kernel⟩
theorem lsX3_wholeMonth : LkSel yX3_wholeMonth := ⟨lw_good_in (n := 690) (by decide +kernel) rfl, lw_good_in (n := 34) (by decide +kernel) rfl⟩
abbrev rmX4_init : Room := { frames := 2, cells := 6, slots := 32, locals := 40 }
theorem lcX4_init : LkC yX4_init cX4_init 1 none 0 := ⟨lw_good_in (n := 178) (by decide +kernel) rfl, lw_good_in (n := 141) (by decide +kernel) rfl, ⟨by decide +kernel, by decide +kernel⟩, by decide +kernel⟩
theorem liX4_init : Cond.instanceMethod yX4_init ∈ lw_good := lw_good_in (n := 177) (by decide +kernel) rfl
abbrev rmX4_useDefaults : Room := { frames := 0, cells := 0, slots := 0, locals := 0 }
theorem lcX4_useDefaults : LkC yX4_useDefaults cX4_useDefaults 1 none 0 := ⟨lw_good_in (n := 209) (by decide +kernel) rfl, lw_good_in (n := 141) (by decide +kernel) rfl, ⟨by decide +kernel, by decide +kernel⟩, by decide +kernel⟩
theorem lsX4_useDefaults : LkSel yX4_useDefaults := ⟨lw_good_in (n := 208) (by decide +kernel) rfl, lw_good_in (n := 0) (by decide +kernel) rfl⟩
abbrev rmX4_addBracket : Room := { frames := 0, cells := 0, slots := 0, locals := 0 }
theorem lcX4_addBracket : LkC yX4_addBracket cX4_addBracket 3 none 2 := ⟨lw_good_in (n := 429) (by decide +kernel) rfl, lw_good_in (n := 141) (by decide +kernel) rfl, ⟨by decide +kernel, by decide +kernel⟩, by decide +kernel⟩
theorem lsX4_addBracket : LkSel yX4_addBracket := ⟨lw_good_in (n := 428) (by decide +kernel) rfl, lw_good_in (n := 1) (by decide +kernel) rfl⟩
abbrev rmX4_lastLimit : Room := { frames := 0, cells := 0, slots := 0, locals := 0 }
theorem lcX4_lastLimit : LkC yX4_lastLimit cX4_lastLimit 1 (some .int) 0 := ⟨lw_good_in (n := 589) (by decide +kernel) rfl, lw_good_in (n := 141) (by decide +kernel) rfl, ⟨by decide +kernel, by decide +kernel⟩, by decide +kernel⟩
theorem lsX4_lastLimit : LkSel yX4_lastLimit := ⟨lw_good_in (n := 588) (by decide +kernel) rfl, lw_good_in (n := 17) (by decide +kernel) rfl⟩
abbrev rmX4_sortOf : Room := { frames := 0, cells := 0, slots := 0, locals := 0 }
theorem lcX4_sortOf : LkC yX4_sortOf cX4_sortOf 2 (some .int) 1 := ⟨lw_good_in (n := 970) (by decide +kernel) rfl, lw_good_in (n := 141) (by decide +kernel) rfl, ⟨by decide +kernel, by decide +kernel⟩, by decide +kernel⟩
theorem lsX4_sortOf : LkSel yX4_sortOf := ⟨lw_good_in (n := 969) (by decide +kernel) rfl, lw_good_in (n := 52) (by decide +kernel) rfl⟩
abbrev rmX4_taxOf : Room := { frames := 1, cells := 0, slots := 0, locals := 21 }
theorem lcX4_taxOf : LkC yX4_taxOf cX4_taxOf 8 (some .long) 1 := ⟨lw_good_in (n := 630) (by decide +kernel) rfl, lw_good_in (n := 141) (by decide +kernel) rfl, ⟨by decide +kernel, by decide +kernel⟩, by decide +kernel⟩
theorem lsX4_taxOf : LkSel yX4_taxOf := ⟨lw_good_in (n := 629) (by decide +kernel) rfl, lw_good_in (n := 23) (by decide +kernel) rfl⟩
abbrev rmX4_rateOf : Room := { frames := 0, cells := 0, slots := 0, locals := 0 }
theorem lcX4_rateOf : LkC yX4_rateOf cX4_rateOf 3 (some .int) 1 := ⟨lw_good_in (n := 645) (by decide +kernel) rfl, lw_good_in (n := 141) (by decide +kernel) rfl, ⟨by decide +kernel, by decide +kernel⟩, by decide +kernel⟩
theorem lsX4_rateOf : LkSel yX4_rateOf := ⟨lw_good_in (n := 644) (by decide +kernel) rfl, lw_good_in (n := 24) (by decide +kernel) rfl⟩
abbrev rmX5_init : Room := { frames := 3, cells := 8, slots := 441, locals := 60 }
theorem lcX5_init : LkC yX5_init cX5_init 1 none 0 := ⟨lw_good_in (n := 172) (by decide +kernel) rfl, lw_good_in (n := 140) (by decide +kernel) rfl, ⟨by decide +kernel, by decide +kernel⟩, by decide +kernel⟩
theorem liX5_init : Cond.instanceMethod yX5_init ∈ lw_good := lw_good_in (n := 171) (by decide +kernel) rfl
abbrev rmX5_read : Room := { frames := 9, cells := 0, slots := 0, locals := 245 }
theorem lcX5_read : LkC yX5_read cX5_read 4 (some .int) 2 := ⟨lw_good_in (n := 475) (by decide +kernel) rfl, lw_good_in (n := 140) (by decide +kernel) rfl, ⟨by decide +kernel, by decide +kernel⟩, by decide +kernel⟩
theorem lsX5_read : LkSel yX5_read := ⟨lw_good_in (n := 474) (by decide +kernel) rfl, lw_good_in (n := 4) (by decide +kernel) rfl⟩
abbrev rmX5_handOver : Room := { frames := 0, cells := 0, slots := 0, locals := 0 }
theorem lcX5_handOver : LkC yX5_handOver cX5_handOver 3 (some (.object "CashLedger$Setup")) 1 := ⟨lw_good_in (n := 883) (by decide +kernel) rfl, lw_good_in (n := 140) (by decide +kernel) rfl, ⟨by decide +kernel, by decide +kernel⟩, by decide +kernel⟩
theorem lsX5_handOver : LkSel yX5_handOver := ⟨lw_good_in (n := 882) (by decide +kernel) rfl, lw_good_in (n := 48) (by decide +kernel) rfl⟩
abbrev rmX5_begin : Room := { frames := 1, cells := 0, slots := 0, locals := 21 }
theorem lcX5_begin : LkC yX5_begin cX5_begin 4 none 2 := ⟨lw_good_in (n := 479) (by decide +kernel) rfl, lw_good_in (n := 140) (by decide +kernel) rfl, ⟨by decide +kernel, by decide +kernel⟩, by decide +kernel⟩
theorem lsX5_begin : LkSel yX5_begin := ⟨lw_good_in (n := 478) (by decide +kernel) rfl, lw_good_in (n := 5) (by decide +kernel) rfl⟩
abbrev rmX5_readStatement : Room := { frames := 8, cells := 0, slots := 0, locals := 225 }
theorem lcX5_readStatement : LkC yX5_readStatement cX5_readStatement 1 (some .boolean) 0 := ⟨lw_good_in (n := 499) (by decide +kernel) rfl, lw_good_in (n := 140) (by decide +kernel) rfl, ⟨by decide +kernel, by decide +kernel⟩, by decide +kernel⟩
theorem lsX5_readStatement : LkSel yX5_readStatement := ⟨lw_good_in (n := 498) (by decide +kernel) rfl, lw_good_in (n := 9) (by decide +kernel) rfl⟩
abbrev rmX5_readStart : Room := { frames := 3, cells := 0, slots := 0, locals := 66 }
theorem lcX5_readStart : LkC yX5_readStart cX5_readStart 1 (some .boolean) 0 := ⟨lw_good_in (n := 556) (by decide +kernel) rfl, lw_good_in (n := 140) (by decide +kernel) rfl, ⟨by decide +kernel, by decide +kernel⟩, by decide +kernel⟩
theorem lsX5_readStart : LkSel yX5_readStart := ⟨lw_good_in (n := 555) (by decide +kernel) rfl, lw_good_in (n := 11) (by decide +kernel) rfl⟩
abbrev rmX5_readAssets : Room := { frames := 3, cells := 0, slots := 0, locals := 66 }
theorem lcX5_readAssets : LkC yX5_readAssets cX5_readAssets 1 (some .boolean) 0 := ⟨lw_good_in (n := 569) (by decide +kernel) rfl, lw_good_in (n := 140) (by decide +kernel) rfl, ⟨by decide +kernel, by decide +kernel⟩, by decide +kernel⟩
theorem lsX5_readAssets : LkSel yX5_readAssets := ⟨lw_good_in (n := 568) (by decide +kernel) rfl, lw_good_in (n := 13) (by decide +kernel) rfl⟩
abbrev rmX5_readInterest : Room := { frames := 3, cells := 0, slots := 0, locals := 66 }
theorem lcX5_readInterest : LkC yX5_readInterest cX5_readInterest 1 (some .boolean) 0 := ⟨lw_good_in (n := 575) (by decide +kernel) rfl, lw_good_in (n := 140) (by decide +kernel) rfl, ⟨by decide +kernel, by decide +kernel⟩, by decide +kernel⟩
theorem lsX5_readInterest : LkSel yX5_readInterest := ⟨lw_good_in (n := 574) (by decide +kernel) rfl, lw_good_in (n := 14) (by decide +kernel) rfl⟩
abbrev rmX5_readTop : Room := { frames := 3, cells := 0, slots := 0, locals := 66 }
theorem lcX5_readTop : LkC yX5_readTop cX5_readTop 1 (some .boolean) 0 := ⟨lw_good_in (n := 580) (by decide +kernel) rfl, lw_good_in (n := 140) (by decide +kernel) rfl, ⟨by decide +kernel, by decide +kernel⟩, by decide +kernel⟩
theorem lsX5_readTop : LkSel yX5_readTop := ⟨lw_good_in (n := 579) (by decide +kernel) rfl, lw_good_in (n := 15) (by decide +kernel) rfl⟩
abbrev rmX5_readBracket : Room := { frames := 3, cells := 0, slots := 0, locals := 66 }
theorem lcX5_readBracket : LkC yX5_readBracket cX5_readBracket 3 (some .boolean) 0 := ⟨lw_good_in (n := 585) (by decide +kernel) rfl, lw_good_in (n := 140) (by decide +kernel) rfl, ⟨by decide +kernel, by decide +kernel⟩, by decide +kernel⟩
theorem lsX5_readBracket : LkSel yX5_readBracket := ⟨lw_good_in (n := 584) (by decide +kernel) rfl, lw_good_in (n := 16) (by decide +kernel) rfl⟩
abbrev rmX5_readRoom : Room := { frames := 7, cells := 0, slots := 0, locals := 202 }
theorem lcX5_readRoom : LkC yX5_readRoom cX5_readRoom 4 (some .boolean) 0 := ⟨lw_good_in (n := 596) (by decide +kernel) rfl, lw_good_in (n := 140) (by decide +kernel) rfl, ⟨by decide +kernel, by decide +kernel⟩, by decide +kernel⟩
theorem lsX5_readRoom : LkSel yX5_readRoom := ⟨lw_good_in (n := 595) (by decide +kernel) rfl, lw_good_in (n := 18) (by decide +kernel) rfl⟩
abbrev rmX5_takeNumber : Room := { frames := 2, cells := 0, slots := 0, locals := 43 }
theorem lcX5_takeNumber : LkC yX5_takeNumber cX5_takeNumber 4 (some .int) 2 := ⟨lw_good_in (n := 561) (by decide +kernel) rfl, lw_good_in (n := 140) (by decide +kernel) rfl, ⟨by decide +kernel, by decide +kernel⟩, by decide +kernel⟩
theorem lsX5_takeNumber : LkSel yX5_takeNumber := ⟨lw_good_in (n := 560) (by decide +kernel) rfl, lw_good_in (n := 12) (by decide +kernel) rfl⟩
abbrev rmX5_isWord : Room := { frames := 6, cells := 0, slots := 0, locals := 180 }
theorem lcX5_isWord : LkC yX5_isWord cX5_isWord 3 (some .boolean) 1 := ⟨lw_good_in (n := 504) (by decide +kernel) rfl, lw_good_in (n := 140) (by decide +kernel) rfl, ⟨by decide +kernel, by decide +kernel⟩, by decide +kernel⟩
theorem lsX5_isWord : LkSel yX5_isWord := ⟨lw_good_in (n := 503) (by decide +kernel) rfl, lw_good_in (n := 10) (by decide +kernel) rfl⟩
abbrev rmX5_nextToken : Room := { frames := 1, cells := 0, slots := 0, locals := 23 }
theorem lcX5_nextToken : LkC yX5_nextToken cX5_nextToken 1 none 0 := ⟨lw_good_in (n := 487) (by decide +kernel) rfl, lw_good_in (n := 140) (by decide +kernel) rfl, ⟨by decide +kernel, by decide +kernel⟩, by decide +kernel⟩
theorem lsX5_nextToken : LkSel yX5_nextToken := ⟨lw_good_in (n := 486) (by decide +kernel) rfl, lw_good_in (n := 6) (by decide +kernel) rfl⟩
abbrev rmX5_endOfRun : Room := { frames := 0, cells := 0, slots := 0, locals := 0 }
theorem lcX5_endOfRun : LkC yX5_endOfRun cX5_endOfRun 4 (some .int) 2 := ⟨lw_good_in (n := 491) (by decide +kernel) rfl, lw_good_in (n := 140) (by decide +kernel) rfl, ⟨by decide +kernel, by decide +kernel⟩, by decide +kernel⟩
theorem lsX5_endOfRun : LkSel yX5_endOfRun := ⟨lw_good_in (n := 490) (by decide +kernel) rfl, lw_good_in (n := 7) (by decide +kernel) rfl⟩
abbrev rmX5_valueOfDigits : Room := { frames := 0, cells := 0, slots := 0, locals := 0 }
theorem lcX5_valueOfDigits : LkC yX5_valueOfDigits cX5_valueOfDigits 3 (some .int) 0 := ⟨lw_good_in (n := 495) (by decide +kernel) rfl, lw_good_in (n := 140) (by decide +kernel) rfl, ⟨by decide +kernel, by decide +kernel⟩, by decide +kernel⟩
theorem lsX5_valueOfDigits : LkSel yX5_valueOfDigits := ⟨lw_good_in (n := 494) (by decide +kernel) rfl, lw_good_in (n := 8) (by decide +kernel) rfl⟩
abbrev rmX6_init : Room := { frames := 2, cells := 20, slots := 533, locals := 40 }
theorem lcX6_init : LkC yX6_init cX6_init 1 none 0 := ⟨lw_good_in (n := 291) (by decide +kernel) rfl, lw_good_in (n := 143) (by decide +kernel) rfl, ⟨by decide +kernel, by decide +kernel⟩, by decide +kernel⟩
theorem liX6_init : Cond.instanceMethod yX6_init ∈ lw_good := lw_good_in (n := 290) (by decide +kernel) rfl
abbrev rmX6_begin : Room := { frames := 1, cells := 0, slots := 0, locals := 22 }
theorem lcX6_begin : LkC yX6_begin cX6_begin 2 none 1 := ⟨lw_good_in (n := 434) (by decide +kernel) rfl, lw_good_in (n := 143) (by decide +kernel) rfl, ⟨by decide +kernel, by decide +kernel⟩, by decide +kernel⟩
theorem lsX6_begin : LkSel yX6_begin := ⟨lw_good_in (n := 433) (by decide +kernel) rfl, lw_good_in (n := 2) (by decide +kernel) rfl⟩
abbrev rmX6_copyFrom : Room := { frames := 1, cells := 0, slots := 0, locals := 22 }
theorem lcX6_copyFrom : LkC yX6_copyFrom cX6_copyFrom 3 none 1 := ⟨lw_good_in (n := 614) (by decide +kernel) rfl, lw_good_in (n := 143) (by decide +kernel) rfl, ⟨by decide +kernel, by decide +kernel⟩, by decide +kernel⟩
theorem lsX6_copyFrom : LkSel yX6_copyFrom := ⟨lw_good_in (n := 613) (by decide +kernel) rfl, lw_good_in (n := 20) (by decide +kernel) rfl⟩
abbrev rmX6_deductibleOf : Room := { frames := 2, cells := 0, slots := 0, locals := 49 }
theorem lcX6_deductibleOf : LkC yX6_deductibleOf cX6_deductibleOf 6 (some .long) 3 := ⟨lw_good_in (n := 687) (by decide +kernel) rfl, lw_good_in (n := 143) (by decide +kernel) rfl, ⟨by decide +kernel, by decide +kernel⟩, by decide +kernel⟩
theorem lsX6_deductibleOf : LkSel yX6_deductibleOf := ⟨lw_good_in (n := 686) (by decide +kernel) rfl, lw_good_in (n := 33) (by decide +kernel) rfl⟩
abbrev rmX6_deductiblePart : Room := { frames := 3, cells := 0, slots := 0, locals := 74 }
theorem lcX6_deductiblePart : LkC yX6_deductiblePart cX6_deductiblePart 2 (some .int) 1 := ⟨lw_good_in (n := 1071) (by decide +kernel) rfl, lw_good_in (n := 143) (by decide +kernel) rfl, ⟨by decide +kernel, by decide +kernel⟩, by decide +kernel⟩
theorem lsX6_deductiblePart : LkSel yX6_deductiblePart := ⟨lw_good_in (n := 1070) (by decide +kernel) rfl, lw_good_in (n := 62) (by decide +kernel) rfl⟩
abbrev rmX6_deductiblePartsOf : Room := { frames := 4, cells := 0, slots := 0, locals := 95 }
theorem lcX6_deductiblePartsOf : LkC yX6_deductiblePartsOf cX6_deductiblePartsOf 5 (some .long) 1 := ⟨lw_good_in (n := 1094) (by decide +kernel) rfl, lw_good_in (n := 143) (by decide +kernel) rfl, ⟨by decide +kernel, by decide +kernel⟩, by decide +kernel⟩
theorem lsX6_deductiblePartsOf : LkSel yX6_deductiblePartsOf := ⟨lw_good_in (n := 1093) (by decide +kernel) rfl, lw_good_in (n := 64) (by decide +kernel) rfl⟩
abbrev rmX6_deductibleUpTo : Room := { frames := 3, cells := 0, slots := 0, locals := 74 }
theorem lcX6_deductibleUpTo : LkC yX6_deductibleUpTo cX6_deductibleUpTo 5 (some .long) 1 := ⟨lw_good_in (n := 682) (by decide +kernel) rfl, lw_good_in (n := 143) (by decide +kernel) rfl, ⟨by decide +kernel, by decide +kernel⟩, by decide +kernel⟩
theorem lsX6_deductibleUpTo : LkSel yX6_deductibleUpTo := ⟨lw_good_in (n := 681) (by decide +kernel) rfl, lw_good_in (n := 32) (by decide +kernel) rfl⟩
abbrev rmX6_received : Room := { frames := 3, cells := 0, slots := 0, locals := 70 }
theorem lcX6_received : LkC yX6_received cX6_received 3 (some .long) 2 := ⟨lw_good_in (n := 661) (by decide +kernel) rfl, lw_good_in (n := 143) (by decide +kernel) rfl, ⟨by decide +kernel, by decide +kernel⟩, by decide +kernel⟩
theorem lsX6_received : LkSel yX6_received := ⟨lw_good_in (n := 660) (by decide +kernel) rfl, lw_good_in (n := 27) (by decide +kernel) rfl⟩
abbrev rmX6_receivedIn : Room := { frames := 4, cells := 0, slots := 0, locals := 92 }
theorem lcX6_receivedIn : LkC yX6_receivedIn cX6_receivedIn 3 (some .long) 1 := ⟨lw_good_in (n := 758) (by decide +kernel) rfl, lw_good_in (n := 143) (by decide +kernel) rfl, ⟨by decide +kernel, by decide +kernel⟩, by decide +kernel⟩
theorem lsX6_receivedIn : LkSel yX6_receivedIn := ⟨lw_good_in (n := 757) (by decide +kernel) rfl, lw_good_in (n := 45) (by decide +kernel) rfl⟩
abbrev rmX6_profitUpTo : Room := { frames := 4, cells := 0, slots := 0, locals := 98 }
theorem lcX6_profitUpTo : LkC yX6_profitUpTo cX6_profitUpTo 3 (some .long) 1 := ⟨lw_good_in (n := 657) (by decide +kernel) rfl, lw_good_in (n := 143) (by decide +kernel) rfl, ⟨by decide +kernel, by decide +kernel⟩, by decide +kernel⟩
theorem lsX6_profitUpTo : LkSel yX6_profitUpTo := ⟨lw_good_in (n := 656) (by decide +kernel) rfl, lw_good_in (n := 26) (by decide +kernel) rfl⟩
abbrev rmX6_prepaidSoFar : Room := { frames := 0, cells := 0, slots := 0, locals := 0 }
theorem lcX6_prepaidSoFar : LkC yX6_prepaidSoFar cX6_prepaidSoFar 4 (some .long) 0 := ⟨lw_good_in (n := 996) (by decide +kernel) rfl, lw_good_in (n := 143) (by decide +kernel) rfl, ⟨by decide +kernel, by decide +kernel⟩, by decide +kernel⟩
theorem lsX6_prepaidSoFar : LkSel yX6_prepaidSoFar := ⟨lw_good_in (n := 995) (by decide +kernel) rfl, lw_good_in (n := 55) (by decide +kernel) rfl⟩
abbrev rmX6_fillBalances : Room := { frames := 1, cells := 0, slots := 0, locals := 22 }
theorem lcX6_fillBalances : LkC yX6_fillBalances cX6_fillBalances 4 none 1 := ⟨lw_good_in (n := 742) (by decide +kernel) rfl, lw_good_in (n := 143) (by decide +kernel) rfl, ⟨by decide +kernel, by decide +kernel⟩, by decide +kernel⟩
theorem lsX6_fillBalances : LkSel yX6_fillBalances := ⟨lw_good_in (n := 741) (by decide +kernel) rfl, lw_good_in (n := 44) (by decide +kernel) rfl⟩
abbrev rmX6_move : Room := { frames := 0, cells := 0, slots := 0, locals := 0 }
theorem lcX6_move : LkC yX6_move cX6_move 3 none 3 := ⟨lw_good_in (n := 745) (by decide +kernel) rfl, lw_good_in (n := 143) (by decide +kernel) rfl, ⟨by decide +kernel, by decide +kernel⟩, by decide +kernel⟩
theorem stX6_move : Cond.static yX6_move ∈ lw_good := lw_good_in (n := 744) (by decide +kernel) rfl
abbrev rmX7_init : Room := { frames := 4, cells := 230, slots := 6654, locals := 81 }
theorem lcX7_init : LkC yX7_init cX7_init 1 none 0 := ⟨lw_good_in (n := 164) (by decide +kernel) rfl, lw_good_in (n := 139) (by decide +kernel) rfl, ⟨by decide +kernel, by decide +kernel⟩, by decide +kernel⟩
theorem liX7_init : Cond.instanceMethod yX7_init ∈ lw_good := lw_good_in (n := 163) (by decide +kernel) rfl
abbrev rmX7_append : Room := { frames := 7, cells := 1, slots := 6, locals := 115 }
theorem lcX7_append : LkC yX7_append cX7_append 7 (some .int) 5 := ⟨lw_good_in (n := 766) (by decide +kernel) rfl, lw_good_in (n := 139) (by decide +kernel) rfl, ⟨by decide +kernel, by decide +kernel⟩, by decide +kernel⟩
theorem lsX7_append : LkSel yX7_append := ⟨lw_good_in (n := 764) (by decide +kernel) rfl, lw_good_in (n := 765) (by decide +kernel) rfl⟩
abbrev rmX7_truncate : Room := { frames := 7, cells := 1, slots := 6, locals := 115 }
theorem lcX7_truncate : LkC yX7_truncate cX7_truncate 2 (some .int) 1 := ⟨lw_good_in (n := 852) (by decide +kernel) rfl, lw_good_in (n := 139) (by decide +kernel) rfl, ⟨by decide +kernel, by decide +kernel⟩, by decide +kernel⟩
theorem lsX7_truncate : LkSel yX7_truncate := ⟨lw_good_in (n := 850) (by decide +kernel) rfl, lw_good_in (n := 851) (by decide +kernel) rfl⟩
abbrev rmX7_errorPosition : Room := { frames := 10, cells := 0, slots := 0, locals := 268 }
theorem lcX7_errorPosition : LkC yX7_errorPosition cX7_errorPosition 1 (some .int) 0 := ⟨lw_good_in (n := 471) (by decide +kernel) rfl, lw_good_in (n := 139) (by decide +kernel) rfl, ⟨by decide +kernel, by decide +kernel⟩, by decide +kernel⟩
theorem lsX7_errorPosition : LkSel yX7_errorPosition := ⟨lw_good_in (n := 469) (by decide +kernel) rfl, lw_good_in (n := 470) (by decide +kernel) rfl⟩
abbrev rmX7_load : Room := { frames := 10, cells := 1, slots := 6, locals := 268 }
theorem lcX7_load : LkC yX7_load cX7_load 1 (some .int) 0 := ⟨lw_good_in (n := 879) (by decide +kernel) rfl, lw_good_in (n := 139) (by decide +kernel) rfl, ⟨by decide +kernel, by decide +kernel⟩, by decide +kernel⟩
theorem lsX7_load : LkSel yX7_load := ⟨lw_good_in (n := 877) (by decide +kernel) rfl, lw_good_in (n := 878) (by decide +kernel) rfl⟩
abbrev rmX7_addEntry : Room := { frames := 7, cells := 2, slots := 12, locals := 115 }
theorem lcX7_addEntry : LkC yX7_addEntry cX7_addEntry 7 (some .int) 5 := ⟨lw_good_in (n := 894) (by decide +kernel) rfl, lw_good_in (n := 139) (by decide +kernel) rfl, ⟨by decide +kernel, by decide +kernel⟩, by decide +kernel⟩
theorem lsX7_addEntry : LkSel yX7_addEntry := ⟨lw_good_in (n := 892) (by decide +kernel) rfl, lw_good_in (n := 893) (by decide +kernel) rfl⟩
abbrev rmX7_pay : Room := { frames := 7, cells := 3, slots := 18, locals := 116 }
theorem lcX7_pay : LkC yX7_pay cX7_pay 4 (some .int) 2 := ⟨lw_good_in (n := 916) (by decide +kernel) rfl, lw_good_in (n := 139) (by decide +kernel) rfl, ⟨by decide +kernel, by decide +kernel⟩, by decide +kernel⟩
theorem lsX7_pay : LkSel yX7_pay := ⟨lw_good_in (n := 914) (by decide +kernel) rfl, lw_good_in (n := 915) (by decide +kernel) rfl⟩
abbrev rmX7_cancel : Room := { frames := 7, cells := 2, slots := 12, locals := 116 }
theorem lcX7_cancel : LkC yX7_cancel cX7_cancel 2 (some .int) 1 := ⟨lw_good_in (n := 942) (by decide +kernel) rfl, lw_good_in (n := 139) (by decide +kernel) rfl, ⟨by decide +kernel, by decide +kernel⟩, by decide +kernel⟩
theorem lsX7_cancel : LkSel yX7_cancel := ⟨lw_good_in (n := 940) (by decide +kernel) rfl, lw_good_in (n := 941) (by decide +kernel) rfl⟩
abbrev rmX7_addRoom : Room := { frames := 7, cells := 2, slots := 12, locals := 115 }
theorem lcX7_addRoom : LkC yX7_addRoom cX7_addRoom 2 (some .int) 1 := ⟨lw_good_in (n := 949) (by decide +kernel) rfl, lw_good_in (n := 139) (by decide +kernel) rfl, ⟨by decide +kernel, by decide +kernel⟩, by decide +kernel⟩
theorem lsX7_addRoom : LkSel yX7_addRoom := ⟨lw_good_in (n := 947) (by decide +kernel) rfl, lw_good_in (n := 948) (by decide +kernel) rfl⟩
abbrev rmX7_setOffice : Room := { frames := 7, cells := 2, slots := 12, locals := 116 }
theorem lcX7_setOffice : LkC yX7_setOffice cX7_setOffice 5 (some .int) 3 := ⟨lw_good_in (n := 957) (by decide +kernel) rfl, lw_good_in (n := 139) (by decide +kernel) rfl, ⟨by decide +kernel, by decide +kernel⟩, by decide +kernel⟩
theorem lsX7_setOffice : LkSel yX7_setOffice := ⟨lw_good_in (n := 955) (by decide +kernel) rfl, lw_good_in (n := 956) (by decide +kernel) rfl⟩
abbrev rmX7_addAsset : Room := { frames := 7, cells := 2, slots := 12, locals := 115 }
theorem lcX7_addAsset : LkC yX7_addAsset cX7_addAsset 4 (some .int) 3 := ⟨lw_good_in (n := 965) (by decide +kernel) rfl, lw_good_in (n := 139) (by decide +kernel) rfl, ⟨by decide +kernel, by decide +kernel⟩, by decide +kernel⟩
theorem lsX7_addAsset : LkSel yX7_addAsset := ⟨lw_good_in (n := 963) (by decide +kernel) rfl, lw_good_in (n := 964) (by decide +kernel) rfl⟩
abbrev rmX7_sellAsset : Room := { frames := 7, cells := 3, slots := 18, locals := 116 }
theorem lcX7_sellAsset : LkC yX7_sellAsset cX7_sellAsset 5 (some .int) 3 := ⟨lw_good_in (n := 981) (by decide +kernel) rfl, lw_good_in (n := 139) (by decide +kernel) rfl, ⟨by decide +kernel, by decide +kernel⟩, by decide +kernel⟩
theorem lsX7_sellAsset : LkSel yX7_sellAsset := ⟨lw_good_in (n := 979) (by decide +kernel) rfl, lw_good_in (n := 980) (by decide +kernel) rfl⟩
abbrev rmX7_closeQuarter : Room := { frames := 7, cells := 1, slots := 6, locals := 120 }
theorem lcX7_closeQuarter : LkC yX7_closeQuarter cX7_closeQuarter 5 (some .int) 0 := ⟨lw_good_in (n := 992) (by decide +kernel) rfl, lw_good_in (n := 139) (by decide +kernel) rfl, ⟨by decide +kernel, by decide +kernel⟩, by decide +kernel⟩
theorem lsX7_closeQuarter : LkSel yX7_closeQuarter := ⟨lw_good_in (n := 990) (by decide +kernel) rfl, lw_good_in (n := 991) (by decide +kernel) rfl⟩
abbrev rmX7_setStart : Room := { frames := 7, cells := 1, slots := 6, locals := 115 }
theorem lcX7_setStart : LkC yX7_setStart cX7_setStart 3 (some .int) 1 := ⟨lw_good_in (n := 1003) (by decide +kernel) rfl, lw_good_in (n := 139) (by decide +kernel) rfl, ⟨by decide +kernel, by decide +kernel⟩, by decide +kernel⟩
theorem lsX7_setStart : LkSel yX7_setStart := ⟨lw_good_in (n := 1001) (by decide +kernel) rfl, lw_good_in (n := 1002) (by decide +kernel) rfl⟩
abbrev rmX7_undo : Room := { frames := 7, cells := 1, slots := 6, locals := 115 }
theorem lcX7_undo : LkC yX7_undo cX7_undo 1 (some .int) 0 := ⟨lw_good_in (n := 1011) (by decide +kernel) rfl, lw_good_in (n := 139) (by decide +kernel) rfl, ⟨by decide +kernel, by decide +kernel⟩, by decide +kernel⟩
theorem lsX7_undo : LkSel yX7_undo := ⟨lw_good_in (n := 1009) (by decide +kernel) rfl, lw_good_in (n := 1010) (by decide +kernel) rfl⟩
abbrev rmX7_undoCount : Room := { frames := 0, cells := 0, slots := 0, locals := 0 }
theorem lcX7_undoCount : LkC yX7_undoCount cX7_undoCount 1 (some .int) 0 := ⟨lw_good_in (n := 606) (by decide +kernel) rfl, lw_good_in (n := 139) (by decide +kernel) rfl, ⟨by decide +kernel, by decide +kernel⟩, by decide +kernel⟩
theorem lsX7_undoCount : LkSel yX7_undoCount := ⟨lw_good_in (n := 604) (by decide +kernel) rfl, lw_good_in (n := 605) (by decide +kernel) rfl⟩
abbrev rmX7_save : Room := { frames := 2, cells := 0, slots := 0, locals := 44 }
theorem lcX7_save : LkC yX7_save cX7_save 1 (some .int) 0 := ⟨lw_good_in (n := 610) (by decide +kernel) rfl, lw_good_in (n := 139) (by decide +kernel) rfl, ⟨by decide +kernel, by decide +kernel⟩, by decide +kernel⟩
theorem lsX7_save : LkSel yX7_save := ⟨lw_good_in (n := 608) (by decide +kernel) rfl, lw_good_in (n := 609) (by decide +kernel) rfl⟩
abbrev rmX7_restore : Room := { frames := 7, cells := 1, slots := 6, locals := 115 }
theorem lcX7_restore : LkC yX7_restore cX7_restore 1 (some .int) 0 := ⟨lw_good_in (n := 1025) (by decide +kernel) rfl, lw_good_in (n := 139) (by decide +kernel) rfl, ⟨by decide +kernel, by decide +kernel⟩, by decide +kernel⟩
theorem lsX7_restore : LkSel yX7_restore := ⟨lw_good_in (n := 1023) (by decide +kernel) rfl, lw_good_in (n := 1024) (by decide +kernel) rfl⟩
abbrev rmX7_count : Room := { frames := 6, cells := 1, slots := 6, locals := 95 }
theorem lcX7_count : LkC yX7_count cX7_count 2 (some .int) 1 := ⟨lw_good_in (n := 1032) (by decide +kernel) rfl, lw_good_in (n := 139) (by decide +kernel) rfl, ⟨by decide +kernel, by decide +kernel⟩, by decide +kernel⟩
theorem lsX7_count : LkSel yX7_count := ⟨lw_good_in (n := 1030) (by decide +kernel) rfl, lw_good_in (n := 1031) (by decide +kernel) rfl⟩
abbrev rmX7_entry : Room := { frames := 7, cells := 2, slots := 12, locals := 116 }
theorem lcX7_entry : LkC yX7_entry cX7_entry 3 (some .int) 2 := ⟨lw_good_in (n := 1060) (by decide +kernel) rfl, lw_good_in (n := 139) (by decide +kernel) rfl, ⟨by decide +kernel, by decide +kernel⟩, by decide +kernel⟩
theorem lsX7_entry : LkSel yX7_entry := ⟨lw_good_in (n := 1058) (by decide +kernel) rfl, lw_good_in (n := 1059) (by decide +kernel) rfl⟩
abbrev rmX7_deductible : Room := { frames := 7, cells := 1, slots := 6, locals := 116 }
theorem lcX7_deductible : LkC yX7_deductible cX7_deductible 2 (some .int) 1 := ⟨lw_good_in (n := 1067) (by decide +kernel) rfl, lw_good_in (n := 139) (by decide +kernel) rfl, ⟨by decide +kernel, by decide +kernel⟩, by decide +kernel⟩
theorem lsX7_deductible : LkSel yX7_deductible := ⟨lw_good_in (n := 1065) (by decide +kernel) rfl, lw_good_in (n := 1066) (by decide +kernel) rfl⟩
abbrev rmX7_total : Room := { frames := 7, cells := 1, slots := 6, locals := 115 }
theorem lcX7_total : LkC yX7_total cX7_total 4 (some .long) 3 := ⟨lw_good_in (n := 1078) (by decide +kernel) rfl, lw_good_in (n := 139) (by decide +kernel) rfl, ⟨by decide +kernel, by decide +kernel⟩, by decide +kernel⟩
theorem lsX7_total : LkSel yX7_total := ⟨lw_good_in (n := 1076) (by decide +kernel) rfl, lw_good_in (n := 1077) (by decide +kernel) rfl⟩
abbrev rmX7_byCategory : Room := { frames := 7, cells := 1, slots := 6, locals := 119 }
theorem lcX7_byCategory : LkC yX7_byCategory cX7_byCategory 3 (some .long) 2 := ⟨lw_good_in (n := 1086) (by decide +kernel) rfl, lw_good_in (n := 139) (by decide +kernel) rfl, ⟨by decide +kernel, by decide +kernel⟩, by decide +kernel⟩
theorem lsX7_byCategory : LkSel yX7_byCategory := ⟨lw_good_in (n := 1084) (by decide +kernel) rfl, lw_good_in (n := 1085) (by decide +kernel) rfl⟩
abbrev rmX7_open : Room := { frames := 7, cells := 1, slots := 6, locals := 115 }
theorem lcX7_open : LkC yX7_open cX7_open 2 (some .long) 1 := ⟨lw_good_in (n := 1102) (by decide +kernel) rfl, lw_good_in (n := 139) (by decide +kernel) rfl, ⟨by decide +kernel, by decide +kernel⟩, by decide +kernel⟩
theorem lsX7_open : LkSel yX7_open := ⟨lw_good_in (n := 1100) (by decide +kernel) rfl, lw_good_in (n := 1101) (by decide +kernel) rfl⟩
abbrev rmX7_oldestOpen : Room := { frames := 7, cells := 1, slots := 6, locals := 115 }
theorem lcX7_oldestOpen : LkC yX7_oldestOpen cX7_oldestOpen 2 (some .int) 0 := ⟨lw_good_in (n := 1114) (by decide +kernel) rfl, lw_good_in (n := 139) (by decide +kernel) rfl, ⟨by decide +kernel, by decide +kernel⟩, by decide +kernel⟩
theorem lsX7_oldestOpen : LkSel yX7_oldestOpen := ⟨lw_good_in (n := 1112) (by decide +kernel) rfl, lw_good_in (n := 1113) (by decide +kernel) rfl⟩
abbrev rmX7_room : Room := { frames := 7, cells := 2, slots := 12, locals := 116 }
theorem lcX7_room : LkC yX7_room cX7_room 3 (some .int) 2 := ⟨lw_good_in (n := 1144) (by decide +kernel) rfl, lw_good_in (n := 139) (by decide +kernel) rfl, ⟨by decide +kernel, by decide +kernel⟩, by decide +kernel⟩
theorem lsX7_room : LkSel yX7_room := ⟨lw_good_in (n := 1142) (by decide +kernel) rfl, lw_good_in (n := 1143) (by decide +kernel) rfl⟩
abbrev rmX7_share : Room := { frames := 7, cells := 1, slots := 6, locals := 115 }
theorem lcX7_share : LkC yX7_share cX7_share 6 (some .int) 2 := ⟨lw_good_in (n := 1151) (by decide +kernel) rfl, lw_good_in (n := 139) (by decide +kernel) rfl, ⟨by decide +kernel, by decide +kernel⟩, by decide +kernel⟩
theorem lsX7_share : LkSel yX7_share := ⟨lw_good_in (n := 1149) (by decide +kernel) rfl, lw_good_in (n := 1150) (by decide +kernel) rfl⟩
abbrev rmX7_asset : Room := { frames := 7, cells := 2, slots := 12, locals := 116 }
theorem lcX7_asset : LkC yX7_asset cX7_asset 3 (some .int) 2 := ⟨lw_good_in (n := 1163) (by decide +kernel) rfl, lw_good_in (n := 139) (by decide +kernel) rfl, ⟨by decide +kernel, by decide +kernel⟩, by decide +kernel⟩
theorem lsX7_asset : LkSel yX7_asset := ⟨lw_good_in (n := 1161) (by decide +kernel) rfl, lw_good_in (n := 1162) (by decide +kernel) rfl⟩
abbrev rmX7_written : Room := { frames := 7, cells := 2, slots := 12, locals := 116 }
theorem lcX7_written : LkC yX7_written cX7_written 3 (some .int) 2 := ⟨lw_good_in (n := 1170) (by decide +kernel) rfl, lw_good_in (n := 139) (by decide +kernel) rfl, ⟨by decide +kernel, by decide +kernel⟩, by decide +kernel⟩
theorem lsX7_written : LkSel yX7_written := ⟨lw_good_in (n := 1168) (by decide +kernel) rfl, lw_good_in (n := 1169) (by decide +kernel) rfl⟩
abbrev rmX7_bookValue : Room := { frames := 7, cells := 2, slots := 12, locals := 116 }
theorem lcX7_bookValue : LkC yX7_bookValue cX7_bookValue 3 (some .int) 2 := ⟨lw_good_in (n := 1181) (by decide +kernel) rfl, lw_good_in (n := 139) (by decide +kernel) rfl, ⟨by decide +kernel, by decide +kernel⟩, by decide +kernel⟩
theorem lsX7_bookValue : LkSel yX7_bookValue := ⟨lw_good_in (n := 1179) (by decide +kernel) rfl, lw_good_in (n := 1180) (by decide +kernel) rfl⟩
abbrev rmX7_pool : Room := { frames := 8, cells := 1, slots := 6, locals := 135 }
theorem lcX7_pool : LkC yX7_pool cX7_pool 2 (some .int) 1 := ⟨lw_good_in (n := 1188) (by decide +kernel) rfl, lw_good_in (n := 139) (by decide +kernel) rfl, ⟨by decide +kernel, by decide +kernel⟩, by decide +kernel⟩
theorem lsX7_pool : LkSel yX7_pool := ⟨lw_good_in (n := 1186) (by decide +kernel) rfl, lw_good_in (n := 1187) (by decide +kernel) rfl⟩
abbrev rmX7_poolWritten : Room := { frames := 8, cells := 1, slots := 6, locals := 135 }
theorem lcX7_poolWritten : LkC yX7_poolWritten cX7_poolWritten 2 (some .int) 1 := ⟨lw_good_in (n := 1199) (by decide +kernel) rfl, lw_good_in (n := 139) (by decide +kernel) rfl, ⟨by decide +kernel, by decide +kernel⟩, by decide +kernel⟩
theorem lsX7_poolWritten : LkSel yX7_poolWritten := ⟨lw_good_in (n := 1197) (by decide +kernel) rfl, lw_good_in (n := 1198) (by decide +kernel) rfl⟩
abbrev rmX7_profit : Room := { frames := 8, cells := 1, slots := 6, locals := 135 }
theorem lcX7_profit : LkC yX7_profit cX7_profit 2 (some .long) 1 := ⟨lw_good_in (n := 1210) (by decide +kernel) rfl, lw_good_in (n := 139) (by decide +kernel) rfl, ⟨by decide +kernel, by decide +kernel⟩, by decide +kernel⟩
theorem lsX7_profit : LkSel yX7_profit := ⟨lw_good_in (n := 1208) (by decide +kernel) rfl, lw_good_in (n := 1209) (by decide +kernel) rfl⟩
abbrev rmX7_profitTo : Room := { frames := 8, cells := 1, slots := 6, locals := 135 }
theorem lcX7_profitTo : LkC yX7_profitTo cX7_profitTo 2 (some .long) 1 := ⟨lw_good_in (n := 1217) (by decide +kernel) rfl, lw_good_in (n := 139) (by decide +kernel) rfl, ⟨by decide +kernel, by decide +kernel⟩, by decide +kernel⟩
theorem lsX7_profitTo : LkSel yX7_profitTo := ⟨lw_good_in (n := 1215) (by decide +kernel) rfl, lw_good_in (n := 1216) (by decide +kernel) rfl⟩
abbrev rmX7_tax : Room := { frames := 2, cells := 0, slots := 0, locals := 48 }
theorem lcX7_tax : LkC yX7_tax cX7_tax 2 (some .long) 1 := ⟨lw_good_in (n := 626) (by decide +kernel) rfl, lw_good_in (n := 139) (by decide +kernel) rfl, ⟨by decide +kernel, by decide +kernel⟩, by decide +kernel⟩
theorem lsX7_tax : LkSel yX7_tax := ⟨lw_good_in (n := 624) (by decide +kernel) rfl, lw_good_in (n := 625) (by decide +kernel) rfl⟩
abbrev rmX7_rate : Room := { frames := 1, cells := 0, slots := 0, locals := 22 }
theorem lcX7_rate : LkC yX7_rate cX7_rate 2 (some .int) 1 := ⟨lw_good_in (n := 641) (by decide +kernel) rfl, lw_good_in (n := 139) (by decide +kernel) rfl, ⟨by decide +kernel, by decide +kernel⟩, by decide +kernel⟩
theorem lsX7_rate : LkSel yX7_rate := ⟨lw_good_in (n := 639) (by decide +kernel) rfl, lw_good_in (n := 640) (by decide +kernel) rfl⟩
abbrev rmX7_yearTax : Room := { frames := 6, cells := 0, slots := 0, locals := 140 }
theorem lcX7_yearTax : LkC yX7_yearTax cX7_yearTax 1 (some .long) 0 := ⟨lw_good_in (n := 649) (by decide +kernel) rfl, lw_good_in (n := 139) (by decide +kernel) rfl, ⟨by decide +kernel, by decide +kernel⟩, by decide +kernel⟩
theorem lsX7_yearTax : LkSel yX7_yearTax := ⟨lw_good_in (n := 647) (by decide +kernel) rfl, lw_good_in (n := 648) (by decide +kernel) rfl⟩
abbrev rmX7_prepayment : Room := { frames := 8, cells := 2, slots := 12, locals := 135 }
theorem lcX7_prepayment : LkC yX7_prepayment cX7_prepayment 2 (some .int) 1 := ⟨lw_good_in (n := 1224) (by decide +kernel) rfl, lw_good_in (n := 139) (by decide +kernel) rfl, ⟨by decide +kernel, by decide +kernel⟩, by decide +kernel⟩
theorem lsX7_prepayment : LkSel yX7_prepayment := ⟨lw_good_in (n := 1222) (by decide +kernel) rfl, lw_good_in (n := 1223) (by decide +kernel) rfl⟩
abbrev rmX7_recomputed : Room := { frames := 8, cells := 1, slots := 6, locals := 146 }
theorem lcX7_recomputed : LkC yX7_recomputed cX7_recomputed 2 (some .int) 1 := ⟨lw_good_in (n := 1231) (by decide +kernel) rfl, lw_good_in (n := 139) (by decide +kernel) rfl, ⟨by decide +kernel, by decide +kernel⟩, by decide +kernel⟩
theorem lsX7_recomputed : LkSel yX7_recomputed := ⟨lw_good_in (n := 1229) (by decide +kernel) rfl, lw_good_in (n := 1230) (by decide +kernel) rfl⟩
abbrev rmX7_correction : Room := { frames := 8, cells := 2, slots := 12, locals := 146 }
theorem lcX7_correction : LkC yX7_correction cX7_correction 2 (some .int) 1 := ⟨lw_good_in (n := 1238) (by decide +kernel) rfl, lw_good_in (n := 139) (by decide +kernel) rfl, ⟨by decide +kernel, by decide +kernel⟩, by decide +kernel⟩
theorem lsX7_correction : LkSel yX7_correction := ⟨lw_good_in (n := 1236) (by decide +kernel) rfl, lw_good_in (n := 1237) (by decide +kernel) rfl⟩
abbrev rmX7_settlement : Room := { frames := 7, cells := 1, slots := 6, locals := 140 }
theorem lcX7_settlement : LkC yX7_settlement cX7_settlement 1 (some .long) 0 := ⟨lw_good_in (n := 1245) (by decide +kernel) rfl, lw_good_in (n := 139) (by decide +kernel) rfl, ⟨by decide +kernel, by decide +kernel⟩, by decide +kernel⟩
theorem lsX7_settlement : LkSel yX7_settlement := ⟨lw_good_in (n := 1243) (by decide +kernel) rfl, lw_good_in (n := 1244) (by decide +kernel) rfl⟩
abbrev rmX7_interest : Room := { frames := 6, cells := 0, slots := 0, locals := 146 }
theorem lcX7_interest : LkC yX7_interest cX7_interest 6 (some .long) 0 := ⟨lw_good_in (n := 723) (by decide +kernel) rfl, lw_good_in (n := 139) (by decide +kernel) rfl, ⟨by decide +kernel, by decide +kernel⟩, by decide +kernel⟩
theorem lsX7_interest : LkSel yX7_interest := ⟨lw_good_in (n := 721) (by decide +kernel) rfl, lw_good_in (n := 722) (by decide +kernel) rfl⟩
abbrev rmX7_effectiveRate : Room := { frames := 7, cells := 1, slots := 6, locals := 140 }
theorem lcX7_effectiveRate : LkC yX7_effectiveRate cX7_effectiveRate 3 (some .double) 0 := ⟨lw_good_in (n := 1252) (by decide +kernel) rfl, lw_good_in (n := 139) (by decide +kernel) rfl, ⟨by decide +kernel, by decide +kernel⟩, by decide +kernel⟩
theorem lsX7_effectiveRate : LkSel yX7_effectiveRate := ⟨lw_good_in (n := 1250) (by decide +kernel) rfl, lw_good_in (n := 1251) (by decide +kernel) rfl⟩
abbrev rmX7_whatIf : Room := { frames := 7, cells := 1, slots := 6, locals := 140 }
theorem lcX7_whatIf : LkC yX7_whatIf cX7_whatIf 6 (some .long) 3 := ⟨lw_good_in (n := 1260) (by decide +kernel) rfl, lw_good_in (n := 139) (by decide +kernel) rfl, ⟨by decide +kernel, by decide +kernel⟩, by decide +kernel⟩
theorem lsX7_whatIf : LkSel yX7_whatIf := ⟨lw_good_in (n := 1258) (by decide +kernel) rfl, lw_good_in (n := 1259) (by decide +kernel) rfl⟩
abbrev rmX7_neededIncome : Room := { frames := 7, cells := 2, slots := 12, locals := 140 }
theorem lcX7_neededIncome : LkC yX7_neededIncome cX7_neededIncome 8 (some .int) 1 := ⟨lw_good_in (n := 1272) (by decide +kernel) rfl, lw_good_in (n := 139) (by decide +kernel) rfl, ⟨by decide +kernel, by decide +kernel⟩, by decide +kernel⟩
theorem lsX7_neededIncome : LkSel yX7_neededIncome := ⟨lw_good_in (n := 1270) (by decide +kernel) rfl, lw_good_in (n := 1271) (by decide +kernel) rfl⟩
abbrev rmX7_balance : Room := { frames := 7, cells := 1, slots := 6, locals := 115 }
theorem lcX7_balance : LkC yX7_balance cX7_balance 2 (some .long) 1 := ⟨lw_good_in (n := 1284) (by decide +kernel) rfl, lw_good_in (n := 139) (by decide +kernel) rfl, ⟨by decide +kernel, by decide +kernel⟩, by decide +kernel⟩
theorem lsX7_balance : LkSel yX7_balance := ⟨lw_good_in (n := 1282) (by decide +kernel) rfl, lw_good_in (n := 1283) (by decide +kernel) rfl⟩
abbrev rmX7_lowestDay : Room := { frames := 2, cells := 0, slots := 0, locals := 45 }
theorem lcX7_lowestDay : LkC yX7_lowestDay cX7_lowestDay 3 (some .int) 0 := ⟨lw_good_in (n := 738) (by decide +kernel) rfl, lw_good_in (n := 139) (by decide +kernel) rfl, ⟨by decide +kernel, by decide +kernel⟩, by decide +kernel⟩
theorem lsX7_lowestDay : LkSel yX7_lowestDay := ⟨lw_good_in (n := 736) (by decide +kernel) rfl, lw_good_in (n := 737) (by decide +kernel) rfl⟩
abbrev rmX7_daysBelow : Room := { frames := 2, cells := 0, slots := 0, locals := 45 }
theorem lcX7_daysBelow : LkC yX7_daysBelow cX7_daysBelow 4 (some .int) 1 := ⟨lw_good_in (n := 750) (by decide +kernel) rfl, lw_good_in (n := 139) (by decide +kernel) rfl, ⟨by decide +kernel, by decide +kernel⟩, by decide +kernel⟩
theorem lsX7_daysBelow : LkSel yX7_daysBelow := ⟨lw_good_in (n := 748) (by decide +kernel) rfl, lw_good_in (n := 749) (by decide +kernel) rfl⟩
abbrev rmX7_bestMonth : Room := { frames := 5, cells := 0, slots := 0, locals := 114 }
theorem lcX7_bestMonth : LkC yX7_bestMonth cX7_bestMonth 7 (some .int) 0 := ⟨lw_good_in (n := 754) (by decide +kernel) rfl, lw_good_in (n := 139) (by decide +kernel) rfl, ⟨by decide +kernel, by decide +kernel⟩, by decide +kernel⟩
theorem lsX7_bestMonth : LkSel yX7_bestMonth := ⟨lw_good_in (n := 752) (by decide +kernel) rfl, lw_good_in (n := 753) (by decide +kernel) rfl⟩
abbrev rmX7_requireArgument : Room := { frames := 6, cells := 1, slots := 6, locals := 95 }
theorem lcX7_requireArgument : LkC yX7_requireArgument cX7_requireArgument 1 none 1 := ⟨lw_good_in (n := 856) (by decide +kernel) rfl, lw_good_in (n := 139) (by decide +kernel) rfl, ⟨by decide +kernel, by decide +kernel⟩, by decide +kernel⟩
theorem stX7_requireArgument : Cond.static yX7_requireArgument ∈ lw_good := lw_good_in (n := 855) (by decide +kernel) rfl
abbrev rmX7_requireState : Room := { frames := 6, cells := 1, slots := 6, locals := 95 }
theorem lcX7_requireState : LkC yX7_requireState cX7_requireState 1 none 1 := ⟨lw_good_in (n := 772) (by decide +kernel) rfl, lw_good_in (n := 139) (by decide +kernel) rfl, ⟨by decide +kernel, by decide +kernel⟩, by decide +kernel⟩
theorem stX7_requireState : Cond.static yX7_requireState ∈ lw_good := lw_good_in (n := 771) (by decide +kernel) rfl
abbrev rmX7_requireElement : Room := { frames := 6, cells := 1, slots := 6, locals := 95 }
theorem lcX7_requireElement : LkC yX7_requireElement cX7_requireElement 1 none 1 := ⟨lw_good_in (n := 1121) (by decide +kernel) rfl, lw_good_in (n := 139) (by decide +kernel) rfl, ⟨by decide +kernel, by decide +kernel⟩, by decide +kernel⟩
theorem stX7_requireElement : Cond.static yX7_requireElement ∈ lw_good := lw_good_in (n := 1120) (by decide +kernel) rfl
abbrev rmX7_requireIndex : Room := { frames := 6, cells := 1, slots := 6, locals := 95 }
theorem lcX7_requireIndex : LkC yX7_requireIndex cX7_requireIndex 2 none 2 := ⟨lw_good_in (n := 919) (by decide +kernel) rfl, lw_good_in (n := 139) (by decide +kernel) rfl, ⟨by decide +kernel, by decide +kernel⟩, by decide +kernel⟩
theorem stX7_requireIndex : Cond.static yX7_requireIndex ∈ lw_good := lw_good_in (n := 918) (by decide +kernel) rfl
abbrev rmX7_requireQuarter : Room := { frames := 7, cells := 1, slots := 6, locals := 115 }
theorem lcX7_requireQuarter : LkC yX7_requireQuarter cX7_requireQuarter 1 none 1 := ⟨lw_good_in (n := 1191) (by decide +kernel) rfl, lw_good_in (n := 139) (by decide +kernel) rfl, ⟨by decide +kernel, by decide +kernel⟩, by decide +kernel⟩
theorem stX7_requireQuarter : Cond.static yX7_requireQuarter ∈ lw_good := lw_good_in (n := 1190) (by decide +kernel) rfl
abbrev rmX7_within : Room := { frames := 0, cells := 0, slots := 0, locals := 0 }
theorem lcX7_within : LkC yX7_within cX7_within 3 (some .boolean) 3 := ⟨lw_good_in (n := 564) (by decide +kernel) rfl, lw_good_in (n := 139) (by decide +kernel) rfl, ⟨by decide +kernel, by decide +kernel⟩, by decide +kernel⟩
theorem stX7_within : Cond.static yX7_within ∈ lw_good := lw_good_in (n := 563) (by decide +kernel) rfl
abbrev rmX7_isDayOrNone : Room := { frames := 1, cells := 0, slots := 0, locals := 22 }
theorem lcX7_isDayOrNone : LkC yX7_isDayOrNone cX7_isDayOrNone 1 (some .boolean) 1 := ⟨lw_good_in (n := 898) (by decide +kernel) rfl, lw_good_in (n := 139) (by decide +kernel) rfl, ⟨by decide +kernel, by decide +kernel⟩, by decide +kernel⟩
theorem stX7_isDayOrNone : Cond.static yX7_isDayOrNone ∈ lw_good := lw_good_in (n := 897) (by decide +kernel) rfl
abbrev rmX7_bytesIn : Room := { frames := 0, cells := 0, slots := 0, locals := 0 }
theorem lcX7_bytesIn : LkC yX7_bytesIn cX7_bytesIn 3 (some .int) 1 := ⟨lw_good_in (n := 769) (by decide +kernel) rfl, lw_good_in (n := 139) (by decide +kernel) rfl, ⟨by decide +kernel, by decide +kernel⟩, by decide +kernel⟩
theorem stX7_bytesIn : Cond.static yX7_bytesIn ∈ lw_good := lw_good_in (n := 768) (by decide +kernel) rfl
abbrev rmX7_putBytes : Room := { frames := 0, cells := 0, slots := 0, locals := 0 }
theorem lcX7_putBytes : LkC yX7_putBytes cX7_putBytes 4 none 1 := ⟨lw_good_in (n := 844) (by decide +kernel) rfl, lw_good_in (n := 139) (by decide +kernel) rfl, ⟨by decide +kernel, by decide +kernel⟩, by decide +kernel⟩
theorem lsX7_putBytes : LkSel yX7_putBytes := ⟨lw_good_in (n := 843) (by decide +kernel) rfl, lw_good_in (n := 47) (by decide +kernel) rfl⟩
abbrev rmX7_commonDivisor : Room := { frames := 0, cells := 0, slots := 0, locals := 0 }
theorem lcX7_commonDivisor : LkC yX7_commonDivisor cX7_commonDivisor 6 (some .int) 2 := ⟨lw_good_in (n := 1156) (by decide +kernel) rfl, lw_good_in (n := 139) (by decide +kernel) rfl, ⟨by decide +kernel, by decide +kernel⟩, by decide +kernel⟩
theorem stX7_commonDivisor : Cond.static yX7_commonDivisor ∈ lw_good := lw_good_in (n := 1155) (by decide +kernel) rfl
abbrev rmX7_yearProfit : Room := { frames := 5, cells := 0, slots := 0, locals := 120 }
theorem lcX7_yearProfit : LkC yX7_yearProfit cX7_yearProfit 1 (some .long) 0 := ⟨lw_good_in (n := 653) (by decide +kernel) rfl, lw_good_in (n := 139) (by decide +kernel) rfl, ⟨by decide +kernel, by decide +kernel⟩, by decide +kernel⟩
theorem lsX7_yearProfit : LkSel yX7_yearProfit := ⟨lw_good_in (n := 652) (by decide +kernel) rfl, lw_good_in (n := 25) (by decide +kernel) rfl⟩
abbrev rmX7_targetAt : Room := { frames := 2, cells := 0, slots := 0, locals := 48 }
theorem lcX7_targetAt : LkC yX7_targetAt cX7_targetAt 6 (some .long) 2 := ⟨lw_good_in (n := 731) (by decide +kernel) rfl, lw_good_in (n := 139) (by decide +kernel) rfl, ⟨by decide +kernel, by decide +kernel⟩, by decide +kernel⟩
theorem lsX7_targetAt : LkSel yX7_targetAt := ⟨lw_good_in (n := 730) (by decide +kernel) rfl, lw_good_in (n := 43) (by decide +kernel) rfl⟩
abbrev rmX7_prepaymentNow : Room := { frames := 5, cells := 0, slots := 0, locals := 120 }
theorem lcX7_prepaymentNow : LkC yX7_prepaymentNow cX7_prepaymentNow 7 (some .int) 1 := ⟨lw_good_in (n := 727) (by decide +kernel) rfl, lw_good_in (n := 139) (by decide +kernel) rfl, ⟨by decide +kernel, by decide +kernel⟩, by decide +kernel⟩
theorem lsX7_prepaymentNow : LkSel yX7_prepaymentNow := ⟨lw_good_in (n := 726) (by decide +kernel) rfl, lw_good_in (n := 42) (by decide +kernel) rfl⟩
abbrev rmX7_additionalTax : Room := { frames := 2, cells := 0, slots := 0, locals := 48 }
theorem lcX7_additionalTax : LkC yX7_additionalTax cX7_additionalTax 5 (some .long) 2 := ⟨lw_good_in (n := 1265) (by decide +kernel) rfl, lw_good_in (n := 139) (by decide +kernel) rfl, ⟨by decide +kernel, by decide +kernel⟩, by decide +kernel⟩
theorem lsX7_additionalTax : LkSel yX7_additionalTax := ⟨lw_good_in (n := 1264) (by decide +kernel) rfl, lw_good_in (n := 69) (by decide +kernel) rfl⟩
abbrev rmX7_leftOf : Room := { frames := 3, cells := 0, slots := 0, locals := 72 }
theorem lcX7_leftOf : LkC yX7_leftOf cX7_leftOf 4 (some .long) 2 := ⟨lw_good_in (n := 1277) (by decide +kernel) rfl, lw_good_in (n := 139) (by decide +kernel) rfl, ⟨by decide +kernel, by decide +kernel⟩, by decide +kernel⟩
theorem lsX7_leftOf : LkSel yX7_leftOf := ⟨lw_good_in (n := 1276) (by decide +kernel) rfl, lw_good_in (n := 70) (by decide +kernel) rfl⟩
abbrev rmX8_init : Room := { frames := 1, cells := 6, slots := 6502, locals := 23 }
theorem lcX8_init : LkC yX8_init cX8_init 1 none 0 := ⟨lw_good_in (n := 1289) (by decide +kernel) rfl, lw_good_in (n := 147) (by decide +kernel) rfl, ⟨by decide +kernel, by decide +kernel⟩, by decide +kernel⟩
theorem liX8_init : Cond.instanceMethod yX8_init ∈ lw_good := lw_good_in (n := 1288) (by decide +kernel) rfl
abbrev rmX8_thrown : Room := { frames := 0, cells := 0, slots := 0, locals := 0 }
theorem lcX8_thrown : LkC yX8_thrown cX8_thrown 1 (some .int) 0 := ⟨lw_good_in (n := 1359) (by decide +kernel) rfl, lw_good_in (n := 147) (by decide +kernel) rfl, ⟨by decide +kernel, by decide +kernel⟩, by decide +kernel⟩
theorem lsX8_thrown : LkSel yX8_thrown := ⟨lw_good_in (n := 1357) (by decide +kernel) rfl, lw_good_in (n := 1358) (by decide +kernel) rfl⟩
abbrev rmX8_in : Room := { frames := 0, cells := 0, slots := 0, locals := 0 }
theorem lcX8_in : LkC yX8_in cX8_in 6 (some .boolean) 3 := ⟨lw_good_in (n := 1377) (by decide +kernel) rfl, lw_good_in (n := 147) (by decide +kernel) rfl, ⟨by decide +kernel, by decide +kernel⟩, by decide +kernel⟩
theorem stX8_in : Cond.static yX8_in ∈ lw_good := lw_good_in (n := 1376) (by decide +kernel) rfl
abbrev rmX8_fails : Room := { frames := 0, cells := 0, slots := 0, locals := 0 }
theorem lcX8_fails : LkC yX8_fails cX8_fails 3 (some .boolean) 2 := ⟨lw_good_in (n := 1370) (by decide +kernel) rfl, lw_good_in (n := 147) (by decide +kernel) rfl, ⟨by decide +kernel, by decide +kernel⟩, by decide +kernel⟩
theorem lsX8_fails : LkSel yX8_fails := ⟨lw_good_in (n := 1369) (by decide +kernel) rfl, lw_good_in (n := 74) (by decide +kernel) rfl⟩
abbrev rmX8_byteOf : Room := { frames := 0, cells := 0, slots := 0, locals := 0 }
theorem lcX8_byteOf : LkC yX8_byteOf cX8_byteOf 7 (some .int) 6 := ⟨lw_good_in (n := 1366) (by decide +kernel) rfl, lw_good_in (n := 147) (by decide +kernel) rfl, ⟨by decide +kernel, by decide +kernel⟩, by decide +kernel⟩
theorem stX8_byteOf : Cond.static yX8_byteOf ∈ lw_good := lw_good_in (n := 1365) (by decide +kernel) rfl
abbrev rmX8_append : Room := { frames := 1, cells := 0, slots := 0, locals := 26 }
theorem lcX8_append : LkC yX8_append cX8_append 9 (some .int) 5 := ⟨lw_good_in (n := 1363) (by decide +kernel) rfl, lw_good_in (n := 147) (by decide +kernel) rfl, ⟨by decide +kernel, by decide +kernel⟩, by decide +kernel⟩
theorem lsX8_append : LkSel yX8_append := ⟨lw_good_in (n := 1361) (by decide +kernel) rfl, lw_good_in (n := 1362) (by decide +kernel) rfl⟩
abbrev rmX8_truncate : Room := { frames := 1, cells := 0, slots := 0, locals := 25 }
theorem lcX8_truncate : LkC yX8_truncate cX8_truncate 2 (some .int) 1 := ⟨lw_good_in (n := 1374) (by decide +kernel) rfl, lw_good_in (n := 147) (by decide +kernel) rfl, ⟨by decide +kernel, by decide +kernel⟩, by decide +kernel⟩
theorem lsX8_truncate : LkSel yX8_truncate := ⟨lw_good_in (n := 1372) (by decide +kernel) rfl, lw_good_in (n := 1373) (by decide +kernel) rfl⟩
abbrev rmX8_peek : Room := { frames := 0, cells := 0, slots := 0, locals := 0 }
theorem lcX8_peek : LkC yX8_peek cX8_peek 2 (some .int) 1 := ⟨lw_good_in (n := 1393) (by decide +kernel) rfl, lw_good_in (n := 147) (by decide +kernel) rfl, ⟨by decide +kernel, by decide +kernel⟩, by decide +kernel⟩
theorem lsX8_peek : LkSel yX8_peek := ⟨lw_good_in (n := 1392) (by decide +kernel) rfl, lw_good_in (n := 77) (by decide +kernel) rfl⟩
abbrev rmX8_isLetter : Room := { frames := 0, cells := 0, slots := 0, locals := 0 }
theorem lcX8_isLetter : LkC yX8_isLetter cX8_isLetter 1 (some .boolean) 1 := ⟨lw_good_in (n := 1396) (by decide +kernel) rfl, lw_good_in (n := 147) (by decide +kernel) rfl, ⟨by decide +kernel, by decide +kernel⟩, by decide +kernel⟩
theorem stX8_isLetter : Cond.static yX8_isLetter ∈ lw_good := lw_good_in (n := 1395) (by decide +kernel) rfl
abbrev rmX8_isDigit : Room := { frames := 0, cells := 0, slots := 0, locals := 0 }
theorem lcX8_isDigit : LkC yX8_isDigit cX8_isDigit 1 (some .boolean) 1 := ⟨lw_good_in (n := 1399) (by decide +kernel) rfl, lw_good_in (n := 147) (by decide +kernel) rfl, ⟨by decide +kernel, by decide +kernel⟩, by decide +kernel⟩
theorem stX8_isDigit : Cond.static yX8_isDigit ∈ lw_good := lw_good_in (n := 1398) (by decide +kernel) rfl
abbrev rmX8_step : Room := { frames := 1, cells := 0, slots := 0, locals := 21 }
theorem lcX8_step : LkC yX8_step cX8_step 2 none 0 := ⟨lw_good_in (n := 1389) (by decide +kernel) rfl, lw_good_in (n := 147) (by decide +kernel) rfl, ⟨by decide +kernel, by decide +kernel⟩, by decide +kernel⟩
theorem lsX8_step : LkSel yX8_step := ⟨lw_good_in (n := 1388) (by decide +kernel) rfl, lw_good_in (n := 76) (by decide +kernel) rfl⟩
abbrev rmX8_fail : Room := { frames := 0, cells := 0, slots := 0, locals := 0 }
theorem lcX8_fail : LkC yX8_fail cX8_fail 1 none 0 := ⟨lw_good_in (n := 1426) (by decide +kernel) rfl, lw_good_in (n := 147) (by decide +kernel) rfl, ⟨by decide +kernel, by decide +kernel⟩, by decide +kernel⟩
theorem lsX8_fail : LkSel yX8_fail := ⟨lw_good_in (n := 1425) (by decide +kernel) rfl, lw_good_in (n := 82) (by decide +kernel) rfl⟩
abbrev rmX8_isGood : Room := { frames := 0, cells := 0, slots := 0, locals := 0 }
theorem lcX8_isGood : LkC yX8_isGood cX8_isGood 1 (some .boolean) 0 := ⟨lw_good_in (n := 1416) (by decide +kernel) rfl, lw_good_in (n := 147) (by decide +kernel) rfl, ⟨by decide +kernel, by decide +kernel⟩, by decide +kernel⟩
theorem lsX8_isGood : LkSel yX8_isGood := ⟨lw_good_in (n := 1415) (by decide +kernel) rfl, lw_good_in (n := 80) (by decide +kernel) rfl⟩
abbrev rmX8_isWord : Room := { frames := 6, cells := 0, slots := 0, locals := 180 }
theorem lcX8_isWord : LkC yX8_isWord cX8_isWord 4 (some .boolean) 1 := ⟨lw_good_in (n := 1412) (by decide +kernel) rfl, lw_good_in (n := 147) (by decide +kernel) rfl, ⟨by decide +kernel, by decide +kernel⟩, by decide +kernel⟩
theorem lsX8_isWord : LkSel yX8_isWord := ⟨lw_good_in (n := 1411) (by decide +kernel) rfl, lw_good_in (n := 79) (by decide +kernel) rfl⟩
abbrev rmX8_takeNumber : Room := { frames := 2, cells := 0, slots := 0, locals := 42 }
theorem lcX8_takeNumber : LkC yX8_takeNumber cX8_takeNumber 4 (some .int) 2 := ⟨lw_good_in (n := 1431) (by decide +kernel) rfl, lw_good_in (n := 147) (by decide +kernel) rfl, ⟨by decide +kernel, by decide +kernel⟩, by decide +kernel⟩
theorem lsX8_takeNumber : LkSel yX8_takeNumber := ⟨lw_good_in (n := 1430) (by decide +kernel) rfl, lw_good_in (n := 83) (by decide +kernel) rfl⟩
abbrev rmX8_begin : Room := { frames := 0, cells := 0, slots := 0, locals := 0 }
theorem lcX8_begin : LkC yX8_begin cX8_begin 2 none 0 := ⟨lw_good_in (n := 1294) (by decide +kernel) rfl, lw_good_in (n := 147) (by decide +kernel) rfl, ⟨by decide +kernel, by decide +kernel⟩, by decide +kernel⟩
theorem lsX8_begin : LkSel yX8_begin := ⟨lw_good_in (n := 1293) (by decide +kernel) rfl, lw_good_in (n := 71) (by decide +kernel) rfl⟩
abbrev rmX8_readBracket : Room := { frames := 0, cells := 0, slots := 0, locals := 0 }
theorem lcX8_readBracket : LkC yX8_readBracket cX8_readBracket 4 none 2 := ⟨lw_good_in (n := 1301) (by decide +kernel) rfl, lw_good_in (n := 147) (by decide +kernel) rfl, ⟨by decide +kernel, by decide +kernel⟩, by decide +kernel⟩
theorem lsX8_readBracket : LkSel yX8_readBracket := ⟨lw_good_in (n := 1300) (by decide +kernel) rfl, lw_good_in (n := 72) (by decide +kernel) rfl⟩
abbrev rmX8_bracketStatement : Room := { frames := 3, cells := 0, slots := 0, locals := 65 }
theorem lcX8_bracketStatement : LkC yX8_bracketStatement cX8_bracketStatement 4 none 0 := ⟨lw_good_in (n := 1422) (by decide +kernel) rfl, lw_good_in (n := 147) (by decide +kernel) rfl, ⟨by decide +kernel, by decide +kernel⟩, by decide +kernel⟩
theorem lsX8_bracketStatement : LkSel yX8_bracketStatement := ⟨lw_good_in (n := 1421) (by decide +kernel) rfl, lw_good_in (n := 81) (by decide +kernel) rfl⟩
abbrev rmX8_roomStatement : Room := { frames := 7, cells := 0, slots := 0, locals := 203 }
theorem lcX8_roomStatement : LkC yX8_roomStatement cX8_roomStatement 2 none 0 := ⟨lw_good_in (n := 1436) (by decide +kernel) rfl, lw_good_in (n := 147) (by decide +kernel) rfl, ⟨by decide +kernel, by decide +kernel⟩, by decide +kernel⟩
theorem lsX8_roomStatement : LkSel yX8_roomStatement := ⟨lw_good_in (n := 1435) (by decide +kernel) rfl, lw_good_in (n := 84) (by decide +kernel) rfl⟩
abbrev rmX8_once : Room := { frames := 7, cells := 0, slots := 0, locals := 203 }
theorem lcX8_once : LkC yX8_once cX8_once 3 (some .boolean) 2 := ⟨lw_good_in (n := 1442) (by decide +kernel) rfl, lw_good_in (n := 147) (by decide +kernel) rfl, ⟨by decide +kernel, by decide +kernel⟩, by decide +kernel⟩
theorem lsX8_once : LkSel yX8_once := ⟨lw_good_in (n := 1441) (by decide +kernel) rfl, lw_good_in (n := 85) (by decide +kernel) rfl⟩
abbrev rmX8_take : Room := { frames := 3, cells := 0, slots := 0, locals := 65 }
theorem lcX8_take : LkC yX8_take cX8_take 4 none 3 := ⟨lw_good_in (n := 1447) (by decide +kernel) rfl, lw_good_in (n := 147) (by decide +kernel) rfl, ⟨by decide +kernel, by decide +kernel⟩, by decide +kernel⟩
theorem lsX8_take : LkSel yX8_take := ⟨lw_good_in (n := 1446) (by decide +kernel) rfl, lw_good_in (n := 86) (by decide +kernel) rfl⟩
abbrev rmX8_readStatement : Room := { frames := 8, cells := 0, slots := 0, locals := 225 }
theorem lcX8_readStatement : LkC yX8_readStatement cX8_readStatement 1 none 0 := ⟨lw_good_in (n := 1407) (by decide +kernel) rfl, lw_good_in (n := 147) (by decide +kernel) rfl, ⟨by decide +kernel, by decide +kernel⟩, by decide +kernel⟩
theorem lsX8_readStatement : LkSel yX8_readStatement := ⟨lw_good_in (n := 1406) (by decide +kernel) rfl, lw_good_in (n := 78) (by decide +kernel) rfl⟩
abbrev rmX8_parse : Room := { frames := 9, cells := 0, slots := 0, locals := 245 }
theorem lcX8_parse : LkC yX8_parse cX8_parse 1 (some .int) 0 := ⟨lw_good_in (n := 1385) (by decide +kernel) rfl, lw_good_in (n := 147) (by decide +kernel) rfl, ⟨by decide +kernel, by decide +kernel⟩, by decide +kernel⟩
theorem lsX8_parse : LkSel yX8_parse := ⟨lw_good_in (n := 1384) (by decide +kernel) rfl, lw_good_in (n := 75) (by decide +kernel) rfl⟩
abbrev rmX8_errorPosition : Room := { frames := 10, cells := 0, slots := 0, locals := 265 }
theorem lcX8_errorPosition : LkC yX8_errorPosition cX8_errorPosition 1 (some .int) 0 := ⟨lw_good_in (n := 1381) (by decide +kernel) rfl, lw_good_in (n := 147) (by decide +kernel) rfl, ⟨by decide +kernel, by decide +kernel⟩, by decide +kernel⟩
theorem lsX8_errorPosition : LkSel yX8_errorPosition := ⟨lw_good_in (n := 1379) (by decide +kernel) rfl, lw_good_in (n := 1380) (by decide +kernel) rfl⟩
abbrev rmX8_takeRead : Room := { frames := 0, cells := 0, slots := 0, locals := 0 }
theorem lcX8_takeRead : LkC yX8_takeRead cX8_takeRead 2 none 0 := ⟨lw_good_in (n := 1306) (by decide +kernel) rfl, lw_good_in (n := 147) (by decide +kernel) rfl, ⟨by decide +kernel, by decide +kernel⟩, by decide +kernel⟩
theorem lsX8_takeRead : LkSel yX8_takeRead := ⟨lw_good_in (n := 1305) (by decide +kernel) rfl, lw_good_in (n := 73) (by decide +kernel) rfl⟩
abbrev rmX8_load : Room := { frames := 10, cells := 0, slots := 0, locals := 265 }
theorem lcX8_load : LkC yX8_load cX8_load 1 (some .int) 0 := ⟨lw_good_in (n := 1454) (by decide +kernel) rfl, lw_good_in (n := 147) (by decide +kernel) rfl, ⟨by decide +kernel, by decide +kernel⟩, by decide +kernel⟩
theorem lsX8_load : LkSel yX8_load := ⟨lw_good_in (n := 1452) (by decide +kernel) rfl, lw_good_in (n := 1453) (by decide +kernel) rfl⟩
abbrev rmX8_record : Room := { frames := 0, cells := 0, slots := 0, locals := 0 }
theorem lcX8_record : LkC yX8_record cX8_record 2 none 0 := ⟨lw_good_in (n := 1495) (by decide +kernel) rfl, lw_good_in (n := 147) (by decide +kernel) rfl, ⟨by decide +kernel, by decide +kernel⟩, by decide +kernel⟩
theorem lsX8_record : LkSel yX8_record := ⟨lw_good_in (n := 1494) (by decide +kernel) rfl, lw_good_in (n := 87) (by decide +kernel) rfl⟩
abbrev rmX8_undo : Room := { frames := 1, cells := 0, slots := 0, locals := 22 }
theorem lcX8_undo : LkC yX8_undo cX8_undo 2 (some .int) 0 := ⟨lw_good_in (n := 1458) (by decide +kernel) rfl, lw_good_in (n := 147) (by decide +kernel) rfl, ⟨by decide +kernel, by decide +kernel⟩, by decide +kernel⟩
theorem lsX8_undo : LkSel yX8_undo := ⟨lw_good_in (n := 1456) (by decide +kernel) rfl, lw_good_in (n := 1457) (by decide +kernel) rfl⟩
abbrev rmX8_undoCount : Room := { frames := 0, cells := 0, slots := 0, locals := 0 }
theorem lcX8_undoCount : LkC yX8_undoCount cX8_undoCount 1 (some .int) 0 := ⟨lw_good_in (n := 1462) (by decide +kernel) rfl, lw_good_in (n := 147) (by decide +kernel) rfl, ⟨by decide +kernel, by decide +kernel⟩, by decide +kernel⟩
theorem lsX8_undoCount : LkSel yX8_undoCount := ⟨lw_good_in (n := 1460) (by decide +kernel) rfl, lw_good_in (n := 1461) (by decide +kernel) rfl⟩
abbrev rmX8_save : Room := { frames := 0, cells := 0, slots := 0, locals := 0 }
theorem lcX8_save : LkC yX8_save cX8_save 2 (some .int) 0 := ⟨lw_good_in (n := 1466) (by decide +kernel) rfl, lw_good_in (n := 147) (by decide +kernel) rfl, ⟨by decide +kernel, by decide +kernel⟩, by decide +kernel⟩
theorem lsX8_save : LkSel yX8_save := ⟨lw_good_in (n := 1464) (by decide +kernel) rfl, lw_good_in (n := 1465) (by decide +kernel) rfl⟩
abbrev rmX8_restore : Room := { frames := 1, cells := 0, slots := 0, locals := 22 }
theorem lcX8_restore : LkC yX8_restore cX8_restore 2 (some .int) 0 := ⟨lw_good_in (n := 1470) (by decide +kernel) rfl, lw_good_in (n := 147) (by decide +kernel) rfl, ⟨by decide +kernel, by decide +kernel⟩, by decide +kernel⟩
theorem lsX8_restore : LkSel yX8_restore := ⟨lw_good_in (n := 1468) (by decide +kernel) rfl, lw_good_in (n := 1469) (by decide +kernel) rfl⟩
abbrev rmX8_isEntry : Room := { frames := 1, cells := 0, slots := 0, locals := 25 }
theorem lcX8_isEntry : LkC yX8_isEntry cX8_isEntry 2 (some .boolean) 1 := ⟨lw_good_in (n := 1503) (by decide +kernel) rfl, lw_good_in (n := 147) (by decide +kernel) rfl, ⟨by decide +kernel, by decide +kernel⟩, by decide +kernel⟩
theorem lsX8_isEntry : LkSel yX8_isEntry := ⟨lw_good_in (n := 1502) (by decide +kernel) rfl, lw_good_in (n := 88) (by decide +kernel) rfl⟩
abbrev rmX8_isRoom : Room := { frames := 1, cells := 0, slots := 0, locals := 25 }
theorem lcX8_isRoom : LkC yX8_isRoom cX8_isRoom 2 (some .boolean) 1 := ⟨lw_good_in (n := 1532) (by decide +kernel) rfl, lw_good_in (n := 147) (by decide +kernel) rfl, ⟨by decide +kernel, by decide +kernel⟩, by decide +kernel⟩
theorem lsX8_isRoom : LkSel yX8_isRoom := ⟨lw_good_in (n := 1531) (by decide +kernel) rfl, lw_good_in (n := 92) (by decide +kernel) rfl⟩
abbrev rmX8_isAsset : Room := { frames := 1, cells := 0, slots := 0, locals := 25 }
theorem lcX8_isAsset : LkC yX8_isAsset cX8_isAsset 2 (some .boolean) 1 := ⟨lw_good_in (n := 1556) (by decide +kernel) rfl, lw_good_in (n := 147) (by decide +kernel) rfl, ⟨by decide +kernel, by decide +kernel⟩, by decide +kernel⟩
theorem lsX8_isAsset : LkSel yX8_isAsset := ⟨lw_good_in (n := 1555) (by decide +kernel) rfl, lw_good_in (n := 95) (by decide +kernel) rfl⟩
abbrev rmX8_isDay : Room := { frames := 1, cells := 0, slots := 0, locals := 25 }
theorem lcX8_isDay : LkC yX8_isDay cX8_isDay 1 (some .boolean) 1 := ⟨lw_good_in (n := 1486) (by decide +kernel) rfl, lw_good_in (n := 147) (by decide +kernel) rfl, ⟨by decide +kernel, by decide +kernel⟩, by decide +kernel⟩
theorem stX8_isDay : Cond.static yX8_isDay ∈ lw_good := lw_good_in (n := 1485) (by decide +kernel) rfl
abbrev rmX8_isDayOrNone : Room := { frames := 1, cells := 0, slots := 0, locals := 25 }
theorem lcX8_isDayOrNone : LkC yX8_isDayOrNone cX8_isDayOrNone 1 (some .boolean) 1 := ⟨lw_good_in (n := 1490) (by decide +kernel) rfl, lw_good_in (n := 147) (by decide +kernel) rfl, ⟨by decide +kernel, by decide +kernel⟩, by decide +kernel⟩
theorem stX8_isDayOrNone : Cond.static yX8_isDayOrNone ∈ lw_good := lw_good_in (n := 1489) (by decide +kernel) rfl
abbrev rmX8_isMonth : Room := { frames := 1, cells := 0, slots := 0, locals := 25 }
theorem lcX8_isMonth : LkC yX8_isMonth cX8_isMonth 1 (some .boolean) 1 := ⟨lw_good_in (n := 1730) (by decide +kernel) rfl, lw_good_in (n := 147) (by decide +kernel) rfl, ⟨by decide +kernel, by decide +kernel⟩, by decide +kernel⟩
theorem stX8_isMonth : Cond.static yX8_isMonth ∈ lw_good := lw_good_in (n := 1729) (by decide +kernel) rfl
abbrev rmX8_isQuarter : Room := { frames := 1, cells := 0, slots := 0, locals := 25 }
theorem lcX8_isQuarter : LkC yX8_isQuarter cX8_isQuarter 1 (some .boolean) 1 := ⟨lw_good_in (n := 1754) (by decide +kernel) rfl, lw_good_in (n := 147) (by decide +kernel) rfl, ⟨by decide +kernel, by decide +kernel⟩, by decide +kernel⟩
theorem stX8_isQuarter : Cond.static yX8_isQuarter ∈ lw_good := lw_good_in (n := 1753) (by decide +kernel) rfl
abbrev rmX8_isKind : Room := { frames := 1, cells := 0, slots := 0, locals := 25 }
theorem lcX8_isKind : LkC yX8_isKind cX8_isKind 1 (some .boolean) 1 := ⟨lw_good_in (n := 1477) (by decide +kernel) rfl, lw_good_in (n := 147) (by decide +kernel) rfl, ⟨by decide +kernel, by decide +kernel⟩, by decide +kernel⟩
theorem stX8_isKind : Cond.static yX8_isKind ∈ lw_good := lw_good_in (n := 1476) (by decide +kernel) rfl
abbrev rmX8_isAmount : Room := { frames := 1, cells := 0, slots := 0, locals := 25 }
theorem lcX8_isAmount : LkC yX8_isAmount cX8_isAmount 1 (some .boolean) 1 := ⟨lw_good_in (n := 1482) (by decide +kernel) rfl, lw_good_in (n := 147) (by decide +kernel) rfl, ⟨by decide +kernel, by decide +kernel⟩, by decide +kernel⟩
theorem stX8_isAmount : Cond.static yX8_isAmount ∈ lw_good := lw_good_in (n := 1481) (by decide +kernel) rfl
abbrev rmX8_entryPart : Room := { frames := 0, cells := 0, slots := 0, locals := 0 }
theorem lcX8_entryPart : LkC yX8_entryPart cX8_entryPart 3 (some .int) 2 := ⟨lw_good_in (n := 1511) (by decide +kernel) rfl, lw_good_in (n := 147) (by decide +kernel) rfl, ⟨by decide +kernel, by decide +kernel⟩, by decide +kernel⟩
theorem lsX8_entryPart : LkSel yX8_entryPart := ⟨lw_good_in (n := 1510) (by decide +kernel) rfl, lw_good_in (n := 90) (by decide +kernel) rfl⟩
abbrev rmX8_roomPart : Room := { frames := 0, cells := 0, slots := 0, locals := 0 }
theorem lcX8_roomPart : LkC yX8_roomPart cX8_roomPart 3 (some .int) 2 := ⟨lw_good_in (n := 1540) (by decide +kernel) rfl, lw_good_in (n := 147) (by decide +kernel) rfl, ⟨by decide +kernel, by decide +kernel⟩, by decide +kernel⟩
theorem lsX8_roomPart : LkSel yX8_roomPart := ⟨lw_good_in (n := 1539) (by decide +kernel) rfl, lw_good_in (n := 94) (by decide +kernel) rfl⟩
abbrev rmX8_assetPart : Room := { frames := 0, cells := 0, slots := 0, locals := 0 }
theorem lcX8_assetPart : LkC yX8_assetPart cX8_assetPart 3 (some .int) 2 := ⟨lw_good_in (n := 1560) (by decide +kernel) rfl, lw_good_in (n := 147) (by decide +kernel) rfl, ⟨by decide +kernel, by decide +kernel⟩, by decide +kernel⟩
theorem lsX8_assetPart : LkSel yX8_assetPart := ⟨lw_good_in (n := 1559) (by decide +kernel) rfl, lw_good_in (n := 96) (by decide +kernel) rfl⟩
abbrev rmX8_isCancelled : Room := { frames := 1, cells := 0, slots := 0, locals := 22 }
theorem lcX8_isCancelled : LkC yX8_isCancelled cX8_isCancelled 2 (some .boolean) 1 := ⟨lw_good_in (n := 1507) (by decide +kernel) rfl, lw_good_in (n := 147) (by decide +kernel) rfl, ⟨by decide +kernel, by decide +kernel⟩, by decide +kernel⟩
theorem lsX8_isCancelled : LkSel yX8_isCancelled := ⟨lw_good_in (n := 1506) (by decide +kernel) rfl, lw_good_in (n := 89) (by decide +kernel) rfl⟩
abbrev rmX8_isOpen : Room := { frames := 2, cells := 0, slots := 0, locals := 43 }
theorem lcX8_isOpen : LkC yX8_isOpen cX8_isOpen 2 (some .boolean) 1 := ⟨lw_good_in (n := 1685) (by decide +kernel) rfl, lw_good_in (n := 147) (by decide +kernel) rfl, ⟨by decide +kernel, by decide +kernel⟩, by decide +kernel⟩
theorem lsX8_isOpen : LkSel yX8_isOpen := ⟨lw_good_in (n := 1684) (by decide +kernel) rfl, lw_good_in (n := 123) (by decide +kernel) rfl⟩
abbrev rmX8_counts : Room := { frames := 2, cells := 0, slots := 0, locals := 43 }
theorem lcX8_counts : LkC yX8_counts cX8_counts 2 (some .boolean) 1 := ⟨lw_good_in (n := 1620) (by decide +kernel) rfl, lw_good_in (n := 147) (by decide +kernel) rfl, ⟨by decide +kernel, by decide +kernel⟩, by decide +kernel⟩
theorem lsX8_counts : LkSel yX8_counts := ⟨lw_good_in (n := 1619) (by decide +kernel) rfl, lw_good_in (n := 110) (by decide +kernel) rfl⟩
abbrev rmX8_countsIn : Room := { frames := 3, cells := 0, slots := 0, locals := 64 }
theorem lcX8_countsIn : LkC yX8_countsIn cX8_countsIn 4 (some .boolean) 3 := ⟨lw_good_in (n := 1616) (by decide +kernel) rfl, lw_good_in (n := 147) (by decide +kernel) rfl, ⟨by decide +kernel, by decide +kernel⟩, by decide +kernel⟩
theorem lsX8_countsIn : LkSel yX8_countsIn := ⟨lw_good_in (n := 1615) (by decide +kernel) rfl, lw_good_in (n := 109) (by decide +kernel) rfl⟩
abbrev rmX8_become : Room := { frames := 1, cells := 0, slots := 0, locals := 21 }
theorem lcX8_become : LkC yX8_become cX8_become 4 (some .int) 2 := ⟨lw_good_in (n := 1515) (by decide +kernel) rfl, lw_good_in (n := 147) (by decide +kernel) rfl, ⟨by decide +kernel, by decide +kernel⟩, by decide +kernel⟩
theorem lsX8_become : LkSel yX8_become := ⟨lw_good_in (n := 1514) (by decide +kernel) rfl, lw_good_in (n := 91) (by decide +kernel) rfl⟩
abbrev rmX8_addEntry : Room := { frames := 2, cells := 0, slots := 0, locals := 45 }
theorem lcX8_addEntry : LkC yX8_addEntry cX8_addEntry 8 (some .int) 5 := ⟨lw_good_in (n := 1474) (by decide +kernel) rfl, lw_good_in (n := 147) (by decide +kernel) rfl, ⟨by decide +kernel, by decide +kernel⟩, by decide +kernel⟩
theorem lsX8_addEntry : LkSel yX8_addEntry := ⟨lw_good_in (n := 1472) (by decide +kernel) rfl, lw_good_in (n := 1473) (by decide +kernel) rfl⟩
abbrev rmX8_pay : Room := { frames := 2, cells := 0, slots := 0, locals := 46 }
theorem lcX8_pay : LkC yX8_pay cX8_pay 3 (some .int) 2 := ⟨lw_good_in (n := 1499) (by decide +kernel) rfl, lw_good_in (n := 147) (by decide +kernel) rfl, ⟨by decide +kernel, by decide +kernel⟩, by decide +kernel⟩
theorem lsX8_pay : LkSel yX8_pay := ⟨lw_good_in (n := 1497) (by decide +kernel) rfl, lw_good_in (n := 1498) (by decide +kernel) rfl⟩
abbrev rmX8_cancel : Room := { frames := 2, cells := 0, slots := 0, locals := 46 }
theorem lcX8_cancel : LkC yX8_cancel cX8_cancel 3 (some .int) 1 := ⟨lw_good_in (n := 1519) (by decide +kernel) rfl, lw_good_in (n := 147) (by decide +kernel) rfl, ⟨by decide +kernel, by decide +kernel⟩, by decide +kernel⟩
theorem lsX8_cancel : LkSel yX8_cancel := ⟨lw_good_in (n := 1517) (by decide +kernel) rfl, lw_good_in (n := 1518) (by decide +kernel) rfl⟩
abbrev rmX8_addRoom : Room := { frames := 1, cells := 0, slots := 0, locals := 25 }
theorem lcX8_addRoom : LkC yX8_addRoom cX8_addRoom 3 (some .int) 1 := ⟨lw_good_in (n := 1523) (by decide +kernel) rfl, lw_good_in (n := 147) (by decide +kernel) rfl, ⟨by decide +kernel, by decide +kernel⟩, by decide +kernel⟩
theorem lsX8_addRoom : LkSel yX8_addRoom := ⟨lw_good_in (n := 1521) (by decide +kernel) rfl, lw_good_in (n := 1522) (by decide +kernel) rfl⟩
abbrev rmX8_setOffice : Room := { frames := 2, cells := 0, slots := 0, locals := 47 }
theorem lcX8_setOffice : LkC yX8_setOffice cX8_setOffice 5 (some .int) 3 := ⟨lw_good_in (n := 1528) (by decide +kernel) rfl, lw_good_in (n := 147) (by decide +kernel) rfl, ⟨by decide +kernel, by decide +kernel⟩, by decide +kernel⟩
theorem lsX8_setOffice : LkSel yX8_setOffice := ⟨lw_good_in (n := 1526) (by decide +kernel) rfl, lw_good_in (n := 1527) (by decide +kernel) rfl⟩
abbrev rmX8_addAsset : Room := { frames := 2, cells := 0, slots := 0, locals := 45 }
theorem lcX8_addAsset : LkC yX8_addAsset cX8_addAsset 5 (some .int) 3 := ⟨lw_good_in (n := 1546) (by decide +kernel) rfl, lw_good_in (n := 147) (by decide +kernel) rfl, ⟨by decide +kernel, by decide +kernel⟩, by decide +kernel⟩
theorem lsX8_addAsset : LkSel yX8_addAsset := ⟨lw_good_in (n := 1544) (by decide +kernel) rfl, lw_good_in (n := 1545) (by decide +kernel) rfl⟩
abbrev rmX8_isSold : Room := { frames := 1, cells := 0, slots := 0, locals := 22 }
theorem lcX8_isSold : LkC yX8_isSold cX8_isSold 2 (some .boolean) 1 := ⟨lw_good_in (n := 1564) (by decide +kernel) rfl, lw_good_in (n := 147) (by decide +kernel) rfl, ⟨by decide +kernel, by decide +kernel⟩, by decide +kernel⟩
theorem lsX8_isSold : LkSel yX8_isSold := ⟨lw_good_in (n := 1563) (by decide +kernel) rfl, lw_good_in (n := 97) (by decide +kernel) rfl⟩
abbrev rmX8_sellAsset : Room := { frames := 5, cells := 0, slots := 0, locals := 113 }
theorem lcX8_sellAsset : LkC yX8_sellAsset cX8_sellAsset 6 (some .int) 3 := ⟨lw_good_in (n := 1552) (by decide +kernel) rfl, lw_good_in (n := 147) (by decide +kernel) rfl, ⟨by decide +kernel, by decide +kernel⟩, by decide +kernel⟩
theorem lsX8_sellAsset : LkSel yX8_sellAsset := ⟨lw_good_in (n := 1550) (by decide +kernel) rfl, lw_good_in (n := 1551) (by decide +kernel) rfl⟩
abbrev rmX8_closeQuarter : Room := { frames := 9, cells := 0, slots := 0, locals := 213 }
theorem lcX8_closeQuarter : LkC yX8_closeQuarter cX8_closeQuarter 3 (some .int) 0 := ⟨lw_good_in (n := 1592) (by decide +kernel) rfl, lw_good_in (n := 147) (by decide +kernel) rfl, ⟨by decide +kernel, by decide +kernel⟩, by decide +kernel⟩
theorem lsX8_closeQuarter : LkSel yX8_closeQuarter := ⟨lw_good_in (n := 1590) (by decide +kernel) rfl, lw_good_in (n := 1591) (by decide +kernel) rfl⟩
abbrev rmX8_setStart : Room := { frames := 2, cells := 0, slots := 0, locals := 44 }
theorem lcX8_setStart : LkC yX8_setStart cX8_setStart 2 (some .int) 1 := ⟨lw_good_in (n := 1672) (by decide +kernel) rfl, lw_good_in (n := 147) (by decide +kernel) rfl, ⟨by decide +kernel, by decide +kernel⟩, by decide +kernel⟩
theorem lsX8_setStart : LkSel yX8_setStart := ⟨lw_good_in (n := 1670) (by decide +kernel) rfl, lw_good_in (n := 1671) (by decide +kernel) rfl⟩
abbrev rmX8_usedDays : Room := { frames := 1, cells := 0, slots := 0, locals := 22 }
theorem lcX8_usedDays : LkC yX8_usedDays cX8_usedDays 6 (some .int) 3 := ⟨lw_good_in (n := 1536) (by decide +kernel) rfl, lw_good_in (n := 147) (by decide +kernel) rfl, ⟨by decide +kernel, by decide +kernel⟩, by decide +kernel⟩
theorem lsX8_usedDays : LkSel yX8_usedDays := ⟨lw_good_in (n := 1535) (by decide +kernel) rfl, lw_good_in (n := 93) (by decide +kernel) rfl⟩
abbrev rmX8_shareAbove : Room := { frames := 2, cells := 0, slots := 0, locals := 47 }
theorem lcX8_shareAbove : LkC yX8_shareAbove cX8_shareAbove 4 (some .int) 1 := ⟨lw_good_in (n := 1632) (by decide +kernel) rfl, lw_good_in (n := 147) (by decide +kernel) rfl, ⟨by decide +kernel, by decide +kernel⟩, by decide +kernel⟩
theorem lsX8_shareAbove : LkSel yX8_shareAbove := ⟨lw_good_in (n := 1631) (by decide +kernel) rfl, lw_good_in (n := 113) (by decide +kernel) rfl⟩
abbrev rmX8_shareBelow : Room := { frames := 1, cells := 0, slots := 0, locals := 22 }
theorem lcX8_shareBelow : LkC yX8_shareBelow cX8_shareBelow 3 (some .int) 0 := ⟨lw_good_in (n := 1636) (by decide +kernel) rfl, lw_good_in (n := 147) (by decide +kernel) rfl, ⟨by decide +kernel, by decide +kernel⟩, by decide +kernel⟩
theorem lsX8_shareBelow : LkSel yX8_shareBelow := ⟨lw_good_in (n := 1635) (by decide +kernel) rfl, lw_good_in (n := 114) (by decide +kernel) rfl⟩
abbrev rmX8_common : Room := { frames := 0, cells := 0, slots := 0, locals := 0 }
theorem lcX8_common : LkC yX8_common cX8_common 5 (some .int) 2 := ⟨lw_good_in (n := 1734) (by decide +kernel) rfl, lw_good_in (n := 147) (by decide +kernel) rfl, ⟨by decide +kernel, by decide +kernel⟩, by decide +kernel⟩
theorem stX8_common : Cond.static yX8_common ∈ lw_good := lw_good_in (n := 1733) (by decide +kernel) rfl
abbrev rmX8_deducted : Room := { frames := 3, cells := 0, slots := 0, locals := 70 }
theorem lcX8_deducted : LkC yX8_deducted cX8_deducted 4 (some .long) 3 := ⟨lw_good_in (n := 1628) (by decide +kernel) rfl, lw_good_in (n := 147) (by decide +kernel) rfl, ⟨by decide +kernel, by decide +kernel⟩, by decide +kernel⟩
theorem lsX8_deducted : LkSel yX8_deducted := ⟨lw_good_in (n := 1627) (by decide +kernel) rfl, lw_good_in (n := 112) (by decide +kernel) rfl⟩
abbrev rmX8_deductedOf : Room := { frames := 4, cells := 0, slots := 0, locals := 93 }
theorem lcX8_deductedOf : LkC yX8_deductedOf cX8_deductedOf 2 (some .long) 1 := ⟨lw_good_in (n := 1624) (by decide +kernel) rfl, lw_good_in (n := 147) (by decide +kernel) rfl, ⟨by decide +kernel, by decide +kernel⟩, by decide +kernel⟩
theorem lsX8_deductedOf : LkSel yX8_deductedOf := ⟨lw_good_in (n := 1623) (by decide +kernel) rfl, lw_good_in (n := 111) (by decide +kernel) rfl⟩
abbrev rmX8_sortOf : Room := { frames := 1, cells := 0, slots := 0, locals := 22 }
theorem lcX8_sortOf : LkC yX8_sortOf cX8_sortOf 3 (some .int) 1 := ⟨lw_good_in (n := 1580) (by decide +kernel) rfl, lw_good_in (n := 147) (by decide +kernel) rfl, ⟨by decide +kernel, by decide +kernel⟩, by decide +kernel⟩
theorem lsX8_sortOf : LkSel yX8_sortOf := ⟨lw_good_in (n := 1579) (by decide +kernel) rfl, lw_good_in (n := 101) (by decide +kernel) rfl⟩
abbrev rmX8_boughtIn : Room := { frames := 1, cells := 0, slots := 0, locals := 22 }
theorem lcX8_boughtIn : LkC yX8_boughtIn cX8_boughtIn 2 (some .int) 1 := ⟨lw_good_in (n := 1572) (by decide +kernel) rfl, lw_good_in (n := 147) (by decide +kernel) rfl, ⟨by decide +kernel, by decide +kernel⟩, by decide +kernel⟩
theorem lsX8_boughtIn : LkSel yX8_boughtIn := ⟨lw_good_in (n := 1571) (by decide +kernel) rfl, lw_good_in (n := 99) (by decide +kernel) rfl⟩
abbrev rmX8_soldIn : Room := { frames := 2, cells := 0, slots := 0, locals := 43 }
theorem lcX8_soldIn : LkC yX8_soldIn cX8_soldIn 2 (some .int) 1 := ⟨lw_good_in (n := 1576) (by decide +kernel) rfl, lw_good_in (n := 147) (by decide +kernel) rfl, ⟨by decide +kernel, by decide +kernel⟩, by decide +kernel⟩
theorem lsX8_soldIn : LkSel yX8_soldIn := ⟨lw_good_in (n := 1575) (by decide +kernel) rfl, lw_good_in (n := 100) (by decide +kernel) rfl⟩
abbrev rmX8_byLife : Room := { frames := 2, cells := 0, slots := 0, locals := 43 }
theorem lcX8_byLife : LkC yX8_byLife cX8_byLife 6 (some .int) 2 := ⟨lw_good_in (n := 1588) (by decide +kernel) rfl, lw_good_in (n := 147) (by decide +kernel) rfl, ⟨by decide +kernel, by decide +kernel⟩, by decide +kernel⟩
theorem lsX8_byLife : LkSel yX8_byLife := ⟨lw_good_in (n := 1587) (by decide +kernel) rfl, lw_good_in (n := 103) (by decide +kernel) rfl⟩
abbrev rmX8_writtenTo : Room := { frames := 3, cells := 0, slots := 0, locals := 68 }
theorem lcX8_writtenTo : LkC yX8_writtenTo cX8_writtenTo 3 (some .int) 2 := ⟨lw_good_in (n := 1584) (by decide +kernel) rfl, lw_good_in (n := 147) (by decide +kernel) rfl, ⟨by decide +kernel, by decide +kernel⟩, by decide +kernel⟩
theorem lsX8_writtenTo : LkSel yX8_writtenTo := ⟨lw_good_in (n := 1583) (by decide +kernel) rfl, lw_good_in (n := 102) (by decide +kernel) rfl⟩
abbrev rmX8_writtenIn : Room := { frames := 4, cells := 0, slots := 0, locals := 90 }
theorem lcX8_writtenIn : LkC yX8_writtenIn cX8_writtenIn 4 (some .int) 2 := ⟨lw_good_in (n := 1644) (by decide +kernel) rfl, lw_good_in (n := 147) (by decide +kernel) rfl, ⟨by decide +kernel, by decide +kernel⟩, by decide +kernel⟩
theorem lsX8_writtenIn : LkSel yX8_writtenIn := ⟨lw_good_in (n := 1643) (by decide +kernel) rfl, lw_good_in (n := 116) (by decide +kernel) rfl⟩
abbrev rmX8_valueOf : Room := { frames := 4, cells := 0, slots := 0, locals := 90 }
theorem lcX8_valueOf : LkC yX8_valueOf cX8_valueOf 4 (some .int) 2 := ⟨lw_good_in (n := 1568) (by decide +kernel) rfl, lw_good_in (n := 147) (by decide +kernel) rfl, ⟨by decide +kernel, by decide +kernel⟩, by decide +kernel⟩
theorem lsX8_valueOf : LkSel yX8_valueOf := ⟨lw_good_in (n := 1567) (by decide +kernel) rfl, lw_good_in (n := 98) (by decide +kernel) rfl⟩
abbrev rmX8_poolTo : Room := { frames := 2, cells := 0, slots := 0, locals := 44 }
theorem lcX8_poolTo : LkC yX8_poolTo cX8_poolTo 5 (some .int) 1 := ⟨lw_good_in (n := 1652) (by decide +kernel) rfl, lw_good_in (n := 147) (by decide +kernel) rfl, ⟨by decide +kernel, by decide +kernel⟩, by decide +kernel⟩
theorem lsX8_poolTo : LkSel yX8_poolTo := ⟨lw_good_in (n := 1651) (by decide +kernel) rfl, lw_good_in (n := 118) (by decide +kernel) rfl⟩
abbrev rmX8_poolOff : Room := { frames := 3, cells := 0, slots := 0, locals := 68 }
theorem lcX8_poolOff : LkC yX8_poolOff cX8_poolOff 4 (some .int) 1 := ⟨lw_good_in (n := 1648) (by decide +kernel) rfl, lw_good_in (n := 147) (by decide +kernel) rfl, ⟨by decide +kernel, by decide +kernel⟩, by decide +kernel⟩
theorem lsX8_poolOff : LkSel yX8_poolOff := ⟨lw_good_in (n := 1647) (by decide +kernel) rfl, lw_good_in (n := 117) (by decide +kernel) rfl⟩
abbrev rmX8_entriesIn : Room := { frames := 5, cells := 0, slots := 0, locals := 114 }
theorem lcX8_entriesIn : LkC yX8_entriesIn cX8_entriesIn 5 (some .long) 1 := ⟨lw_good_in (n := 1612) (by decide +kernel) rfl, lw_good_in (n := 147) (by decide +kernel) rfl, ⟨by decide +kernel, by decide +kernel⟩, by decide +kernel⟩
theorem lsX8_entriesIn : LkSel yX8_entriesIn := ⟨lw_good_in (n := 1611) (by decide +kernel) rfl, lw_good_in (n := 108) (by decide +kernel) rfl⟩
abbrev rmX8_assetsIn : Room := { frames := 5, cells := 0, slots := 0, locals := 113 }
theorem lcX8_assetsIn : LkC yX8_assetsIn cX8_assetsIn 7 (some .long) 1 := ⟨lw_good_in (n := 1640) (by decide +kernel) rfl, lw_good_in (n := 147) (by decide +kernel) rfl, ⟨by decide +kernel, by decide +kernel⟩, by decide +kernel⟩
theorem lsX8_assetsIn : LkSel yX8_assetsIn := ⟨lw_good_in (n := 1639) (by decide +kernel) rfl, lw_good_in (n := 115) (by decide +kernel) rfl⟩
abbrev rmX8_profitOf : Room := { frames := 6, cells := 0, slots := 0, locals := 139 }
theorem lcX8_profitOf : LkC yX8_profitOf cX8_profitOf 2 (some .long) 1 := ⟨lw_good_in (n := 1608) (by decide +kernel) rfl, lw_good_in (n := 147) (by decide +kernel) rfl, ⟨by decide +kernel, by decide +kernel⟩, by decide +kernel⟩
theorem lsX8_profitOf : LkSel yX8_profitOf := ⟨lw_good_in (n := 1607) (by decide +kernel) rfl, lw_good_in (n := 107) (by decide +kernel) rfl⟩
abbrev rmX8_profitsTo : Room := { frames := 7, cells := 0, slots := 0, locals := 160 }
theorem lcX8_profitsTo : LkC yX8_profitsTo cX8_profitsTo 5 (some .long) 1 := ⟨lw_good_in (n := 1604) (by decide +kernel) rfl, lw_good_in (n := 147) (by decide +kernel) rfl, ⟨by decide +kernel, by decide +kernel⟩, by decide +kernel⟩
theorem lsX8_profitsTo : LkSel yX8_profitsTo := ⟨lw_good_in (n := 1603) (by decide +kernel) rfl, lw_good_in (n := 106) (by decide +kernel) rfl⟩
abbrev rmX8_yearProfit : Room := { frames := 8, cells := 0, slots := 0, locals := 184 }
theorem lcX8_yearProfit : LkC yX8_yearProfit cX8_yearProfit 1 (some .long) 0 := ⟨lw_good_in (n := 1782) (by decide +kernel) rfl, lw_good_in (n := 147) (by decide +kernel) rfl, ⟨by decide +kernel, by decide +kernel⟩, by decide +kernel⟩
theorem lsX8_yearProfit : LkSel yX8_yearProfit := ⟨lw_good_in (n := 1781) (by decide +kernel) rfl, lw_good_in (n := 126) (by decide +kernel) rfl⟩
abbrev rmX8_limitOf : Room := { frames := 0, cells := 0, slots := 0, locals := 0 }
theorem lcX8_limitOf : LkC yX8_limitOf cX8_limitOf 2 (some .int) 1 := ⟨lw_good_in (n := 1661) (by decide +kernel) rfl, lw_good_in (n := 147) (by decide +kernel) rfl, ⟨by decide +kernel, by decide +kernel⟩, by decide +kernel⟩
theorem lsX8_limitOf : LkSel yX8_limitOf := ⟨lw_good_in (n := 1660) (by decide +kernel) rfl, lw_good_in (n := 120) (by decide +kernel) rfl⟩
abbrev rmX8_rateOf : Room := { frames := 0, cells := 0, slots := 0, locals := 0 }
theorem lcX8_rateOf : LkC yX8_rateOf cX8_rateOf 2 (some .int) 1 := ⟨lw_good_in (n := 1666) (by decide +kernel) rfl, lw_good_in (n := 147) (by decide +kernel) rfl, ⟨by decide +kernel, by decide +kernel⟩, by decide +kernel⟩
theorem lsX8_rateOf : LkSel yX8_rateOf := ⟨lw_good_in (n := 1665) (by decide +kernel) rfl, lw_good_in (n := 121) (by decide +kernel) rfl⟩
abbrev rmX8_taxOf : Room := { frames := 1, cells := 0, slots := 0, locals := 21 }
theorem lcX8_taxOf : LkC yX8_taxOf cX8_taxOf 12 (some .long) 1 := ⟨lw_good_in (n := 1657) (by decide +kernel) rfl, lw_good_in (n := 147) (by decide +kernel) rfl, ⟨by decide +kernel, by decide +kernel⟩, by decide +kernel⟩
theorem lsX8_taxOf : LkSel yX8_taxOf := ⟨lw_good_in (n := 1656) (by decide +kernel) rfl, lw_good_in (n := 119) (by decide +kernel) rfl⟩
abbrev rmX8_prepaymentFor : Room := { frames := 8, cells := 0, slots := 0, locals := 184 }
theorem lcX8_prepaymentFor : LkC yX8_prepaymentFor cX8_prepaymentFor 10 (some .int) 2 := ⟨lw_good_in (n := 1600) (by decide +kernel) rfl, lw_good_in (n := 147) (by decide +kernel) rfl, ⟨by decide +kernel, by decide +kernel⟩, by decide +kernel⟩
theorem lsX8_prepaymentFor : LkSel yX8_prepaymentFor := ⟨lw_good_in (n := 1599) (by decide +kernel) rfl, lw_good_in (n := 105) (by decide +kernel) rfl⟩
abbrev rmX8_prepaidTo : Room := { frames := 0, cells := 0, slots := 0, locals := 0 }
theorem lcX8_prepaidTo : LkC yX8_prepaidTo cX8_prepaidTo 5 (some .long) 1 := ⟨lw_good_in (n := 1596) (by decide +kernel) rfl, lw_good_in (n := 147) (by decide +kernel) rfl, ⟨by decide +kernel, by decide +kernel⟩, by decide +kernel⟩
theorem lsX8_prepaidTo : LkSel yX8_prepaidTo := ⟨lw_good_in (n := 1595) (by decide +kernel) rfl, lw_good_in (n := 104) (by decide +kernel) rfl⟩
abbrev rmX8_againFor : Room := { frames := 9, cells := 0, slots := 0, locals := 213 }
theorem lcX8_againFor : LkC yX8_againFor cX8_againFor 6 (some .int) 1 := ⟨lw_good_in (n := 1798) (by decide +kernel) rfl, lw_good_in (n := 147) (by decide +kernel) rfl, ⟨by decide +kernel, by decide +kernel⟩, by decide +kernel⟩
theorem lsX8_againFor : LkSel yX8_againFor := ⟨lw_good_in (n := 1797) (by decide +kernel) rfl, lw_good_in (n := 128) (by decide +kernel) rfl⟩
abbrev rmX8_count : Room := { frames := 4, cells := 0, slots := 0, locals := 86 }
theorem lcX8_count : LkC yX8_count cX8_count 2 (some .int) 1 := ⟨lw_good_in (n := 1677) (by decide +kernel) rfl, lw_good_in (n := 147) (by decide +kernel) rfl, ⟨by decide +kernel, by decide +kernel⟩, by decide +kernel⟩
theorem lsX8_count : LkSel yX8_count := ⟨lw_good_in (n := 1675) (by decide +kernel) rfl, lw_good_in (n := 1676) (by decide +kernel) rfl⟩
abbrev rmX8_openMany : Room := { frames := 3, cells := 0, slots := 0, locals := 64 }
theorem lcX8_openMany : LkC yX8_openMany cX8_openMany 3 (some .int) 0 := ⟨lw_good_in (n := 1681) (by decide +kernel) rfl, lw_good_in (n := 147) (by decide +kernel) rfl, ⟨by decide +kernel, by decide +kernel⟩, by decide +kernel⟩
theorem lsX8_openMany : LkSel yX8_openMany := ⟨lw_good_in (n := 1680) (by decide +kernel) rfl, lw_good_in (n := 122) (by decide +kernel) rfl⟩
abbrev rmX8_flagged : Room := { frames := 1, cells := 0, slots := 0, locals := 22 }
theorem lcX8_flagged : LkC yX8_flagged cX8_flagged 4 (some .int) 1 := ⟨lw_good_in (n := 1689) (by decide +kernel) rfl, lw_good_in (n := 147) (by decide +kernel) rfl, ⟨by decide +kernel, by decide +kernel⟩, by decide +kernel⟩
theorem lsX8_flagged : LkSel yX8_flagged := ⟨lw_good_in (n := 1688) (by decide +kernel) rfl, lw_good_in (n := 124) (by decide +kernel) rfl⟩
abbrev rmX8_soldMany : Room := { frames := 2, cells := 0, slots := 0, locals := 43 }
theorem lcX8_soldMany : LkC yX8_soldMany cX8_soldMany 3 (some .int) 0 := ⟨lw_good_in (n := 1693) (by decide +kernel) rfl, lw_good_in (n := 147) (by decide +kernel) rfl, ⟨by decide +kernel, by decide +kernel⟩, by decide +kernel⟩
theorem lsX8_soldMany : LkSel yX8_soldMany := ⟨lw_good_in (n := 1692) (by decide +kernel) rfl, lw_good_in (n := 125) (by decide +kernel) rfl⟩
abbrev rmX8_entry : Room := { frames := 2, cells := 0, slots := 0, locals := 46 }
theorem lcX8_entry : LkC yX8_entry cX8_entry 3 (some .int) 2 := ⟨lw_good_in (n := 1697) (by decide +kernel) rfl, lw_good_in (n := 147) (by decide +kernel) rfl, ⟨by decide +kernel, by decide +kernel⟩, by decide +kernel⟩
theorem lsX8_entry : LkSel yX8_entry := ⟨lw_good_in (n := 1695) (by decide +kernel) rfl, lw_good_in (n := 1696) (by decide +kernel) rfl⟩
abbrev rmX8_deductible : Room := { frames := 5, cells := 0, slots := 0, locals := 114 }
theorem lcX8_deductible : LkC yX8_deductible cX8_deductible 2 (some .int) 1 := ⟨lw_good_in (n := 1702) (by decide +kernel) rfl, lw_good_in (n := 147) (by decide +kernel) rfl, ⟨by decide +kernel, by decide +kernel⟩, by decide +kernel⟩
theorem lsX8_deductible : LkSel yX8_deductible := ⟨lw_good_in (n := 1700) (by decide +kernel) rfl, lw_good_in (n := 1701) (by decide +kernel) rfl⟩
abbrev rmX8_total : Room := { frames := 4, cells := 0, slots := 0, locals := 87 }
theorem lcX8_total : LkC yX8_total cX8_total 7 (some .long) 3 := ⟨lw_good_in (n := 1706) (by decide +kernel) rfl, lw_good_in (n := 147) (by decide +kernel) rfl, ⟨by decide +kernel, by decide +kernel⟩, by decide +kernel⟩
theorem lsX8_total : LkSel yX8_total := ⟨lw_good_in (n := 1704) (by decide +kernel) rfl, lw_good_in (n := 1705) (by decide +kernel) rfl⟩
abbrev rmX8_byCategory : Room := { frames := 5, cells := 0, slots := 0, locals := 114 }
theorem lcX8_byCategory : LkC yX8_byCategory cX8_byCategory 6 (some .long) 2 := ⟨lw_good_in (n := 1710) (by decide +kernel) rfl, lw_good_in (n := 147) (by decide +kernel) rfl, ⟨by decide +kernel, by decide +kernel⟩, by decide +kernel⟩
theorem lsX8_byCategory : LkSel yX8_byCategory := ⟨lw_good_in (n := 1708) (by decide +kernel) rfl, lw_good_in (n := 1709) (by decide +kernel) rfl⟩
abbrev rmX8_open : Room := { frames := 3, cells := 0, slots := 0, locals := 64 }
theorem lcX8_open : LkC yX8_open cX8_open 5 (some .long) 1 := ⟨lw_good_in (n := 1714) (by decide +kernel) rfl, lw_good_in (n := 147) (by decide +kernel) rfl, ⟨by decide +kernel, by decide +kernel⟩, by decide +kernel⟩
theorem lsX8_open : LkSel yX8_open := ⟨lw_good_in (n := 1712) (by decide +kernel) rfl, lw_good_in (n := 1713) (by decide +kernel) rfl⟩
abbrev rmX8_oldestOpen : Room := { frames := 3, cells := 0, slots := 0, locals := 64 }
theorem lcX8_oldestOpen : LkC yX8_oldestOpen cX8_oldestOpen 3 (some .int) 0 := ⟨lw_good_in (n := 1718) (by decide +kernel) rfl, lw_good_in (n := 147) (by decide +kernel) rfl, ⟨by decide +kernel, by decide +kernel⟩, by decide +kernel⟩
theorem lsX8_oldestOpen : LkSel yX8_oldestOpen := ⟨lw_good_in (n := 1716) (by decide +kernel) rfl, lw_good_in (n := 1717) (by decide +kernel) rfl⟩
abbrev rmX8_room : Room := { frames := 2, cells := 0, slots := 0, locals := 46 }
theorem lcX8_room : LkC yX8_room cX8_room 3 (some .int) 2 := ⟨lw_good_in (n := 1722) (by decide +kernel) rfl, lw_good_in (n := 147) (by decide +kernel) rfl, ⟨by decide +kernel, by decide +kernel⟩, by decide +kernel⟩
theorem lsX8_room : LkSel yX8_room := ⟨lw_good_in (n := 1720) (by decide +kernel) rfl, lw_good_in (n := 1721) (by decide +kernel) rfl⟩
abbrev rmX8_share : Room := { frames := 3, cells := 0, slots := 0, locals := 70 }
theorem lcX8_share : LkC yX8_share cX8_share 6 (some .int) 2 := ⟨lw_good_in (n := 1727) (by decide +kernel) rfl, lw_good_in (n := 147) (by decide +kernel) rfl, ⟨by decide +kernel, by decide +kernel⟩, by decide +kernel⟩
theorem lsX8_share : LkSel yX8_share := ⟨lw_good_in (n := 1725) (by decide +kernel) rfl, lw_good_in (n := 1726) (by decide +kernel) rfl⟩
abbrev rmX8_asset : Room := { frames := 2, cells := 0, slots := 0, locals := 46 }
theorem lcX8_asset : LkC yX8_asset cX8_asset 3 (some .int) 2 := ⟨lw_good_in (n := 1738) (by decide +kernel) rfl, lw_good_in (n := 147) (by decide +kernel) rfl, ⟨by decide +kernel, by decide +kernel⟩, by decide +kernel⟩
theorem lsX8_asset : LkSel yX8_asset := ⟨lw_good_in (n := 1736) (by decide +kernel) rfl, lw_good_in (n := 1737) (by decide +kernel) rfl⟩
abbrev rmX8_written : Room := { frames := 5, cells := 0, slots := 0, locals := 113 }
theorem lcX8_written : LkC yX8_written cX8_written 3 (some .int) 2 := ⟨lw_good_in (n := 1743) (by decide +kernel) rfl, lw_good_in (n := 147) (by decide +kernel) rfl, ⟨by decide +kernel, by decide +kernel⟩, by decide +kernel⟩
theorem lsX8_written : LkSel yX8_written := ⟨lw_good_in (n := 1741) (by decide +kernel) rfl, lw_good_in (n := 1742) (by decide +kernel) rfl⟩
abbrev rmX8_bookValue : Room := { frames := 5, cells := 0, slots := 0, locals := 113 }
theorem lcX8_bookValue : LkC yX8_bookValue cX8_bookValue 3 (some .int) 2 := ⟨lw_good_in (n := 1747) (by decide +kernel) rfl, lw_good_in (n := 147) (by decide +kernel) rfl, ⟨by decide +kernel, by decide +kernel⟩, by decide +kernel⟩
theorem lsX8_bookValue : LkSel yX8_bookValue := ⟨lw_good_in (n := 1745) (by decide +kernel) rfl, lw_good_in (n := 1746) (by decide +kernel) rfl⟩
abbrev rmX8_pool : Room := { frames := 3, cells := 0, slots := 0, locals := 68 }
theorem lcX8_pool : LkC yX8_pool cX8_pool 2 (some .int) 1 := ⟨lw_good_in (n := 1751) (by decide +kernel) rfl, lw_good_in (n := 147) (by decide +kernel) rfl, ⟨by decide +kernel, by decide +kernel⟩, by decide +kernel⟩
theorem lsX8_pool : LkSel yX8_pool := ⟨lw_good_in (n := 1749) (by decide +kernel) rfl, lw_good_in (n := 1750) (by decide +kernel) rfl⟩
abbrev rmX8_poolWritten : Room := { frames := 4, cells := 0, slots := 0, locals := 91 }
theorem lcX8_poolWritten : LkC yX8_poolWritten cX8_poolWritten 2 (some .int) 1 := ⟨lw_good_in (n := 1758) (by decide +kernel) rfl, lw_good_in (n := 147) (by decide +kernel) rfl, ⟨by decide +kernel, by decide +kernel⟩, by decide +kernel⟩
theorem lsX8_poolWritten : LkSel yX8_poolWritten := ⟨lw_good_in (n := 1756) (by decide +kernel) rfl, lw_good_in (n := 1757) (by decide +kernel) rfl⟩
abbrev rmX8_profit : Room := { frames := 7, cells := 0, slots := 0, locals := 160 }
theorem lcX8_profit : LkC yX8_profit cX8_profit 2 (some .long) 1 := ⟨lw_good_in (n := 1762) (by decide +kernel) rfl, lw_good_in (n := 147) (by decide +kernel) rfl, ⟨by decide +kernel, by decide +kernel⟩, by decide +kernel⟩
theorem lsX8_profit : LkSel yX8_profit := ⟨lw_good_in (n := 1760) (by decide +kernel) rfl, lw_good_in (n := 1761) (by decide +kernel) rfl⟩
abbrev rmX8_profitTo : Room := { frames := 8, cells := 0, slots := 0, locals := 184 }
theorem lcX8_profitTo : LkC yX8_profitTo cX8_profitTo 2 (some .long) 1 := ⟨lw_good_in (n := 1766) (by decide +kernel) rfl, lw_good_in (n := 147) (by decide +kernel) rfl, ⟨by decide +kernel, by decide +kernel⟩, by decide +kernel⟩
theorem lsX8_profitTo : LkSel yX8_profitTo := ⟨lw_good_in (n := 1764) (by decide +kernel) rfl, lw_good_in (n := 1765) (by decide +kernel) rfl⟩
abbrev rmX8_tax : Room := { frames := 2, cells := 0, slots := 0, locals := 52 }
theorem lcX8_tax : LkC yX8_tax cX8_tax 2 (some .long) 1 := ⟨lw_good_in (n := 1770) (by decide +kernel) rfl, lw_good_in (n := 147) (by decide +kernel) rfl, ⟨by decide +kernel, by decide +kernel⟩, by decide +kernel⟩
theorem lsX8_tax : LkSel yX8_tax := ⟨lw_good_in (n := 1768) (by decide +kernel) rfl, lw_good_in (n := 1769) (by decide +kernel) rfl⟩
abbrev rmX8_rate : Room := { frames := 1, cells := 0, slots := 0, locals := 21 }
theorem lcX8_rate : LkC yX8_rate cX8_rate 3 (some .int) 1 := ⟨lw_good_in (n := 1774) (by decide +kernel) rfl, lw_good_in (n := 147) (by decide +kernel) rfl, ⟨by decide +kernel, by decide +kernel⟩, by decide +kernel⟩
theorem lsX8_rate : LkSel yX8_rate := ⟨lw_good_in (n := 1772) (by decide +kernel) rfl, lw_good_in (n := 1773) (by decide +kernel) rfl⟩
abbrev rmX8_yearTax : Room := { frames := 9, cells := 0, slots := 0, locals := 204 }
theorem lcX8_yearTax : LkC yX8_yearTax cX8_yearTax 1 (some .long) 0 := ⟨lw_good_in (n := 1778) (by decide +kernel) rfl, lw_good_in (n := 147) (by decide +kernel) rfl, ⟨by decide +kernel, by decide +kernel⟩, by decide +kernel⟩
theorem lsX8_yearTax : LkSel yX8_yearTax := ⟨lw_good_in (n := 1776) (by decide +kernel) rfl, lw_good_in (n := 1777) (by decide +kernel) rfl⟩
abbrev rmX8_isClosed : Room := { frames := 0, cells := 0, slots := 0, locals := 0 }
theorem lcX8_isClosed : LkC yX8_isClosed cX8_isClosed 2 (some .boolean) 1 := ⟨lw_good_in (n := 1790) (by decide +kernel) rfl, lw_good_in (n := 147) (by decide +kernel) rfl, ⟨by decide +kernel, by decide +kernel⟩, by decide +kernel⟩
theorem lsX8_isClosed : LkSel yX8_isClosed := ⟨lw_good_in (n := 1789) (by decide +kernel) rfl, lw_good_in (n := 127) (by decide +kernel) rfl⟩
abbrev rmX8_prepayment : Room := { frames := 2, cells := 0, slots := 0, locals := 45 }
theorem lcX8_prepayment : LkC yX8_prepayment cX8_prepayment 2 (some .int) 1 := ⟨lw_good_in (n := 1786) (by decide +kernel) rfl, lw_good_in (n := 147) (by decide +kernel) rfl, ⟨by decide +kernel, by decide +kernel⟩, by decide +kernel⟩
theorem lsX8_prepayment : LkSel yX8_prepayment := ⟨lw_good_in (n := 1784) (by decide +kernel) rfl, lw_good_in (n := 1785) (by decide +kernel) rfl⟩
abbrev rmX8_recomputed : Room := { frames := 10, cells := 0, slots := 0, locals := 238 }
theorem lcX8_recomputed : LkC yX8_recomputed cX8_recomputed 2 (some .int) 1 := ⟨lw_good_in (n := 1794) (by decide +kernel) rfl, lw_good_in (n := 147) (by decide +kernel) rfl, ⟨by decide +kernel, by decide +kernel⟩, by decide +kernel⟩
theorem lsX8_recomputed : LkSel yX8_recomputed := ⟨lw_good_in (n := 1792) (by decide +kernel) rfl, lw_good_in (n := 1793) (by decide +kernel) rfl⟩
abbrev rmX8_correctionOf : Room := { frames := 10, cells := 0, slots := 0, locals := 238 }
theorem lcX8_correctionOf : LkC yX8_correctionOf cX8_correctionOf 2 (some .int) 1 := ⟨lw_good_in (n := 1806) (by decide +kernel) rfl, lw_good_in (n := 147) (by decide +kernel) rfl, ⟨by decide +kernel, by decide +kernel⟩, by decide +kernel⟩
theorem lsX8_correctionOf : LkSel yX8_correctionOf := ⟨lw_good_in (n := 1805) (by decide +kernel) rfl, lw_good_in (n := 129) (by decide +kernel) rfl⟩
abbrev rmX8_correction : Room := { frames := 11, cells := 0, slots := 0, locals := 259 }
theorem lcX8_correction : LkC yX8_correction cX8_correction 2 (some .int) 1 := ⟨lw_good_in (n := 1802) (by decide +kernel) rfl, lw_good_in (n := 147) (by decide +kernel) rfl, ⟨by decide +kernel, by decide +kernel⟩, by decide +kernel⟩
theorem lsX8_correction : LkSel yX8_correction := ⟨lw_good_in (n := 1800) (by decide +kernel) rfl, lw_good_in (n := 1801) (by decide +kernel) rfl⟩
abbrev rmX8_settlement : Room := { frames := 9, cells := 0, slots := 0, locals := 204 }
theorem lcX8_settlement : LkC yX8_settlement cX8_settlement 1 (some .long) 0 := ⟨lw_good_in (n := 1810) (by decide +kernel) rfl, lw_good_in (n := 147) (by decide +kernel) rfl, ⟨by decide +kernel, by decide +kernel⟩, by decide +kernel⟩
theorem lsX8_settlement : LkSel yX8_settlement := ⟨lw_good_in (n := 1808) (by decide +kernel) rfl, lw_good_in (n := 1809) (by decide +kernel) rfl⟩
abbrev rmX8_interest : Room := { frames := 11, cells := 0, slots := 0, locals := 259 }
theorem lcX8_interest : LkC yX8_interest cX8_interest 6 (some .long) 0 := ⟨lw_good_in (n := 1814) (by decide +kernel) rfl, lw_good_in (n := 147) (by decide +kernel) rfl, ⟨by decide +kernel, by decide +kernel⟩, by decide +kernel⟩
theorem lsX8_interest : LkSel yX8_interest := ⟨lw_good_in (n := 1812) (by decide +kernel) rfl, lw_good_in (n := 1813) (by decide +kernel) rfl⟩
abbrev rmX8_effectiveRate : Room := { frames := 9, cells := 0, slots := 0, locals := 204 }
theorem lcX8_effectiveRate : LkC yX8_effectiveRate cX8_effectiveRate 3 (some .double) 0 := ⟨lw_good_in (n := 1818) (by decide +kernel) rfl, lw_good_in (n := 147) (by decide +kernel) rfl, ⟨by decide +kernel, by decide +kernel⟩, by decide +kernel⟩
theorem lsX8_effectiveRate : LkSel yX8_effectiveRate := ⟨lw_good_in (n := 1816) (by decide +kernel) rfl, lw_good_in (n := 1817) (by decide +kernel) rfl⟩
abbrev rmX8_whatIf : Room := { frames := 9, cells := 0, slots := 0, locals := 204 }
theorem lcX8_whatIf : LkC yX8_whatIf cX8_whatIf 8 (some .long) 3 := ⟨lw_good_in (n := 1823) (by decide +kernel) rfl, lw_good_in (n := 147) (by decide +kernel) rfl, ⟨by decide +kernel, by decide +kernel⟩, by decide +kernel⟩
theorem lsX8_whatIf : LkSel yX8_whatIf := ⟨lw_good_in (n := 1821) (by decide +kernel) rfl, lw_good_in (n := 1822) (by decide +kernel) rfl⟩
abbrev rmX8_netOf : Room := { frames := 0, cells := 0, slots := 0, locals := 0 }
theorem lcX8_netOf : LkC yX8_netOf cX8_netOf 6 (some .long) 3 := ⟨lw_good_in (n := 1831) (by decide +kernel) rfl, lw_good_in (n := 147) (by decide +kernel) rfl, ⟨by decide +kernel, by decide +kernel⟩, by decide +kernel⟩
theorem stX8_netOf : Cond.static yX8_netOf ∈ lw_good := lw_good_in (n := 1830) (by decide +kernel) rfl
abbrev rmX8_neededIncome : Room := { frames := 9, cells := 0, slots := 0, locals := 204 }
theorem lcX8_neededIncome : LkC yX8_neededIncome cX8_neededIncome 9 (some .int) 1 := ⟨lw_good_in (n := 1827) (by decide +kernel) rfl, lw_good_in (n := 147) (by decide +kernel) rfl, ⟨by decide +kernel, by decide +kernel⟩, by decide +kernel⟩
theorem lsX8_neededIncome : LkSel yX8_neededIncome := ⟨lw_good_in (n := 1825) (by decide +kernel) rfl, lw_good_in (n := 1826) (by decide +kernel) rfl⟩
abbrev rmX8_entriesUpTo : Room := { frames := 4, cells := 0, slots := 0, locals := 87 }
theorem lcX8_entriesUpTo : LkC yX8_entriesUpTo cX8_entriesUpTo 5 (some .long) 1 := ⟨lw_good_in (n := 1844) (by decide +kernel) rfl, lw_good_in (n := 147) (by decide +kernel) rfl, ⟨by decide +kernel, by decide +kernel⟩, by decide +kernel⟩
theorem lsX8_entriesUpTo : LkSel yX8_entriesUpTo := ⟨lw_good_in (n := 1843) (by decide +kernel) rfl, lw_good_in (n := 131) (by decide +kernel) rfl⟩
abbrev rmX8_assetsUpTo : Room := { frames := 2, cells := 0, slots := 0, locals := 43 }
theorem lcX8_assetsUpTo : LkC yX8_assetsUpTo cX8_assetsUpTo 5 (some .long) 1 := ⟨lw_good_in (n := 1848) (by decide +kernel) rfl, lw_good_in (n := 147) (by decide +kernel) rfl, ⟨by decide +kernel, by decide +kernel⟩, by decide +kernel⟩
theorem lsX8_assetsUpTo : LkSel yX8_assetsUpTo := ⟨lw_good_in (n := 1847) (by decide +kernel) rfl, lw_good_in (n := 132) (by decide +kernel) rfl⟩
abbrev rmX8_prepaidUpTo : Room := { frames := 0, cells := 0, slots := 0, locals := 0 }
theorem lcX8_prepaidUpTo : LkC yX8_prepaidUpTo cX8_prepaidUpTo 5 (some .long) 1 := ⟨lw_good_in (n := 1852) (by decide +kernel) rfl, lw_good_in (n := 147) (by decide +kernel) rfl, ⟨by decide +kernel, by decide +kernel⟩, by decide +kernel⟩
theorem lsX8_prepaidUpTo : LkSel yX8_prepaidUpTo := ⟨lw_good_in (n := 1851) (by decide +kernel) rfl, lw_good_in (n := 133) (by decide +kernel) rfl⟩
abbrev rmX8_balanceAt : Room := { frames := 5, cells := 0, slots := 0, locals := 111 }
theorem lcX8_balanceAt : LkC yX8_balanceAt cX8_balanceAt 2 (some .long) 1 := ⟨lw_good_in (n := 1840) (by decide +kernel) rfl, lw_good_in (n := 147) (by decide +kernel) rfl, ⟨by decide +kernel, by decide +kernel⟩, by decide +kernel⟩
theorem lsX8_balanceAt : LkSel yX8_balanceAt := ⟨lw_good_in (n := 1839) (by decide +kernel) rfl, lw_good_in (n := 130) (by decide +kernel) rfl⟩
abbrev rmX8_balance : Room := { frames := 6, cells := 0, slots := 0, locals := 132 }
theorem lcX8_balance : LkC yX8_balance cX8_balance 2 (some .long) 1 := ⟨lw_good_in (n := 1836) (by decide +kernel) rfl, lw_good_in (n := 147) (by decide +kernel) rfl, ⟨by decide +kernel, by decide +kernel⟩, by decide +kernel⟩
theorem lsX8_balance : LkSel yX8_balance := ⟨lw_good_in (n := 1834) (by decide +kernel) rfl, lw_good_in (n := 1835) (by decide +kernel) rfl⟩
abbrev rmX8_layEntries : Room := { frames := 3, cells := 0, slots := 0, locals := 64 }
theorem lcX8_layEntries : LkC yX8_layEntries cX8_layEntries 3 none 0 := ⟨lw_good_in (n := 1864) (by decide +kernel) rfl, lw_good_in (n := 147) (by decide +kernel) rfl, ⟨by decide +kernel, by decide +kernel⟩, by decide +kernel⟩
theorem lsX8_layEntries : LkSel yX8_layEntries := ⟨lw_good_in (n := 1863) (by decide +kernel) rfl, lw_good_in (n := 135) (by decide +kernel) rfl⟩
abbrev rmX8_layAssets : Room := { frames := 2, cells := 0, slots := 0, locals := 43 }
theorem lcX8_layAssets : LkC yX8_layAssets cX8_layAssets 2 none 0 := ⟨lw_good_in (n := 1868) (by decide +kernel) rfl, lw_good_in (n := 147) (by decide +kernel) rfl, ⟨by decide +kernel, by decide +kernel⟩, by decide +kernel⟩
theorem lsX8_layAssets : LkSel yX8_layAssets := ⟨lw_good_in (n := 1867) (by decide +kernel) rfl, lw_good_in (n := 136) (by decide +kernel) rfl⟩
abbrev rmX8_layDays : Room := { frames := 4, cells := 0, slots := 0, locals := 86 }
theorem lcX8_layDays : LkC yX8_layDays cX8_layDays 2 none 0 := ⟨lw_good_in (n := 1860) (by decide +kernel) rfl, lw_good_in (n := 147) (by decide +kernel) rfl, ⟨by decide +kernel, by decide +kernel⟩, by decide +kernel⟩
theorem lsX8_layDays : LkSel yX8_layDays := ⟨lw_good_in (n := 1859) (by decide +kernel) rfl, lw_good_in (n := 134) (by decide +kernel) rfl⟩
abbrev rmX8_lowestDay : Room := { frames := 5, cells := 0, slots := 0, locals := 107 }
theorem lcX8_lowestDay : LkC yX8_lowestDay cX8_lowestDay 7 (some .int) 0 := ⟨lw_good_in (n := 1856) (by decide +kernel) rfl, lw_good_in (n := 147) (by decide +kernel) rfl, ⟨by decide +kernel, by decide +kernel⟩, by decide +kernel⟩
theorem lsX8_lowestDay : LkSel yX8_lowestDay := ⟨lw_good_in (n := 1854) (by decide +kernel) rfl, lw_good_in (n := 1855) (by decide +kernel) rfl⟩
abbrev rmX8_daysBelow : Room := { frames := 5, cells := 0, slots := 0, locals := 107 }
theorem lcX8_daysBelow : LkC yX8_daysBelow cX8_daysBelow 6 (some .int) 1 := ⟨lw_good_in (n := 1872) (by decide +kernel) rfl, lw_good_in (n := 147) (by decide +kernel) rfl, ⟨by decide +kernel, by decide +kernel⟩, by decide +kernel⟩
theorem lsX8_daysBelow : LkSel yX8_daysBelow := ⟨lw_good_in (n := 1870) (by decide +kernel) rfl, lw_good_in (n := 1871) (by decide +kernel) rfl⟩
abbrev rmX8_takenIn : Room := { frames := 4, cells := 0, slots := 0, locals := 87 }
theorem lcX8_takenIn : LkC yX8_takenIn cX8_takenIn 7 (some .long) 1 := ⟨lw_good_in (n := 1880) (by decide +kernel) rfl, lw_good_in (n := 147) (by decide +kernel) rfl, ⟨by decide +kernel, by decide +kernel⟩, by decide +kernel⟩
theorem lsX8_takenIn : LkSel yX8_takenIn := ⟨lw_good_in (n := 1879) (by decide +kernel) rfl, lw_good_in (n := 137) (by decide +kernel) rfl⟩
abbrev rmX8_bestMonth : Room := { frames := 5, cells := 0, slots := 0, locals := 113 }
theorem lcX8_bestMonth : LkC yX8_bestMonth cX8_bestMonth 3 (some .int) 0 := ⟨lw_good_in (n := 1876) (by decide +kernel) rfl, lw_good_in (n := 147) (by decide +kernel) rfl, ⟨by decide +kernel, by decide +kernel⟩, by decide +kernel⟩
theorem lsX8_bestMonth : LkSel yX8_bestMonth := ⟨lw_good_in (n := 1874) (by decide +kernel) rfl, lw_good_in (n := 1875) (by decide +kernel) rfl⟩
theorem lmX0_34 : LkM RX0 34 yX0_isSoldBy := lw_good_in (n := 716) (by decide +kernel) rfl
theorem lmX0_38 : LkM RX0 38 yX0_writtenUpTo := lw_good_in (n := 712) (by decide +kernel) rfl
theorem lmX0_42 : LkM RX0 42 yX0_poolWrittenUpTo := lw_good_in (n := 704) (by decide +kernel) rfl
theorem lmX0_46 : LkM RX0 46 yX0_poolAt := lw_good_in (n := 708) (by decide +kernel) rfl
theorem lnX0_49 : LkN RX0 49 yX7_within := ⟨"CashLedger", List.mem_filter.mpr ⟨List.mem_of_getElem? (i := 678) (by decide +kernel), rfl⟩⟩
theorem lmX1_38 : LkM RX1 38 yX1_counts := lw_good_in (n := 670) (by decide +kernel) rfl
theorem lmX1_42 : LkM RX1 42 yX1_isOpen := lw_good_in (n := 1037) (by decide +kernel) rfl
theorem lmX1_45 : LkM RX1 45 yX1_countsWithin := lw_good_in (n := 666) (by decide +kernel) rfl
theorem lnX2_17 : LkN RX2 17 yX6_init := ⟨"CashLedger", List.mem_filter.mpr ⟨List.mem_of_getElem? (i := 413) (by decide +kernel), rfl⟩⟩
theorem lnX2_25 : LkN RX2 25 yX6_copyFrom := ⟨"CashLedger", List.mem_filter.mpr ⟨List.mem_of_getElem? (i := 903) (by decide +kernel), rfl⟩⟩
theorem lmX3_25 : LkM RX3 25 yX3_daysUsed := lw_good_in (n := 696) (by decide +kernel) rfl
theorem lnX4_20 : LkN RX4 20 yX3_init := ⟨"CashLedger", List.mem_filter.mpr ⟨List.mem_of_getElem? (i := 182) (by decide +kernel), rfl⟩⟩
theorem lmX4_25 : LkM RX4 25 yX4_useDefaults := lw_good_in (n := 206) (by decide +kernel) rfl
theorem lnX5_17 : LkN RX5 17 yX4_init := ⟨"CashLedger", List.mem_filter.mpr ⟨List.mem_of_getElem? (i := 176) (by decide +kernel), rfl⟩⟩
theorem lmX5_22 : LkM RX5 22 yX5_begin := lw_good_in (n := 476) (by decide +kernel) rfl
theorem lmX5_26 : LkM RX5 26 yX5_nextToken := lw_good_in (n := 484) (by decide +kernel) rfl
theorem lmX5_29 : LkM RX5 29 yX5_readStatement := lw_good_in (n := 496) (by decide +kernel) rfl
theorem lnX5_49 : LkN RX5 49 yX4_useDefaults := ⟨"CashLedger", List.mem_filter.mpr ⟨List.mem_of_getElem? (i := 483) (by decide +kernel), rfl⟩⟩
theorem lmX5_70 : LkM RX5 70 yX5_isWord := lw_good_in (n := 501) (by decide +kernel) rfl
theorem lmX5_74 : LkM RX5 74 yX5_readStart := lw_good_in (n := 553) (by decide +kernel) rfl
theorem lmX5_79 : LkM RX5 79 yX5_readAssets := lw_good_in (n := 566) (by decide +kernel) rfl
theorem lmX5_84 : LkM RX5 84 yX5_readInterest := lw_good_in (n := 572) (by decide +kernel) rfl
theorem lmX5_89 : LkM RX5 89 yX5_readTop := lw_good_in (n := 577) (by decide +kernel) rfl
theorem lmX5_94 : LkM RX5 94 yX5_readBracket := lw_good_in (n := 582) (by decide +kernel) rfl
theorem lmX5_99 : LkM RX5 99 yX5_readRoom := lw_good_in (n := 593) (by decide +kernel) rfl
theorem lmX5_103 : LkM RX5 103 yX5_takeNumber := lw_good_in (n := 558) (by decide +kernel) rfl
theorem lnX5_124 : LkN RX5 124 yX4_lastLimit := ⟨"CashLedger", List.mem_filter.mpr ⟨List.mem_of_getElem? (i := 586) (by decide +kernel), rfl⟩⟩
theorem lnX5_129 : LkN RX5 129 yX4_addBracket := ⟨"CashLedger", List.mem_filter.mpr ⟨List.mem_of_getElem? (i := 591) (by decide +kernel), rfl⟩⟩
theorem lnX5_144 : LkN RX5 144 yX3_add := ⟨"CashLedger", List.mem_filter.mpr ⟨List.mem_of_getElem? (i := 598) (by decide +kernel), rfl⟩⟩
theorem lnX5_151 : LkN RX5 151 yX7_within := ⟨"CashLedger", List.mem_filter.mpr ⟨List.mem_of_getElem? (i := 562) (by decide +kernel), rfl⟩⟩
theorem lmX5_163 : LkM RX5 163 yX5_endOfRun := lw_good_in (n := 488) (by decide +kernel) rfl
theorem lmX5_166 : LkM RX5 166 yX5_valueOfDigits := lw_good_in (n := 492) (by decide +kernel) rfl
theorem lnX6_11 : LkN RX6 11 yX1_init := ⟨"CashLedger", List.mem_filter.mpr ⟨List.mem_of_getElem? (i := 295) (by decide +kernel), rfl⟩⟩
theorem lnX6_20 : LkN RX6 20 yX3_init := ⟨"CashLedger", List.mem_filter.mpr ⟨List.mem_of_getElem? (i := 339) (by decide +kernel), rfl⟩⟩
theorem lnX6_27 : LkN RX6 27 yX0_init := ⟨"CashLedger", List.mem_filter.mpr ⟨List.mem_of_getElem? (i := 342) (by decide +kernel), rfl⟩⟩
theorem lnX6_44 : LkN RX6 44 yX3_copyFrom := ⟨"CashLedger", List.mem_filter.mpr ⟨List.mem_of_getElem? (i := 435) (by decide +kernel), rfl⟩⟩
theorem lnX6_55 : LkN RX6 55 yX1_copyFrom := ⟨"CashLedger", List.mem_filter.mpr ⟨List.mem_of_getElem? (i := 615) (by decide +kernel), rfl⟩⟩
theorem lnX6_58 : LkN RX6 58 yX0_copyFrom := ⟨"CashLedger", List.mem_filter.mpr ⟨List.mem_of_getElem? (i := 619) (by decide +kernel), rfl⟩⟩
theorem lnX6_61 : LkN RX6 61 yX3_wholeMonth := ⟨"CashLedger", List.mem_filter.mpr ⟨List.mem_of_getElem? (i := 688) (by decide +kernel), rfl⟩⟩
theorem lnX6_65 : LkN RX6 65 yX3_usedIn := ⟨"CashLedger", List.mem_filter.mpr ⟨List.mem_of_getElem? (i := 692) (by decide +kernel), rfl⟩⟩
theorem lnX6_69 : LkN RX6 69 yX1_counts := ⟨"CashLedger", List.mem_filter.mpr ⟨List.mem_of_getElem? (i := 746) (by decide +kernel), rfl⟩⟩
theorem lmX6_82 : LkM RX6 82 yX6_deductibleOf := lw_good_in (n := 684) (by decide +kernel) rfl
theorem lmX6_89 : LkM RX6 89 yX6_deductiblePart := lw_good_in (n := 1095) (by decide +kernel) rfl
theorem lnX6_92 : LkN RX6 92 yX1_countsWithin := ⟨"CashLedger", List.mem_filter.mpr ⟨List.mem_of_getElem? (i := 683) (by decide +kernel), rfl⟩⟩
theorem lnX6_96 : LkN RX6 96 yX1_sumPaid := ⟨"CashLedger", List.mem_filter.mpr ⟨List.mem_of_getElem? (i := 662) (by decide +kernel), rfl⟩⟩
theorem lnX6_99 : LkN RX6 99 yX0_soldFor := ⟨"CashLedger", List.mem_filter.mpr ⟨List.mem_of_getElem? (i := 674) (by decide +kernel), rfl⟩⟩
theorem lmX6_103 : LkM RX6 103 yX6_received := lw_good_in (n := 658) (by decide +kernel) rfl
theorem lmX6_106 : LkM RX6 106 yX6_deductibleUpTo := lw_good_in (n := 679) (by decide +kernel) rfl
theorem lnX6_110 : LkN RX6 110 yX0_allWrittenUpTo := ⟨"CashLedger", List.mem_filter.mpr ⟨List.mem_of_getElem? (i := 700) (by decide +kernel), rfl⟩⟩
theorem lmX6_113 : LkM RX6 113 yX6_move := lw_good_in (n := 743) (by decide +kernel) rfl
theorem lnX7_15 : LkN RX7 15 yX5_init := ⟨"CashLedger", List.mem_filter.mpr ⟨List.mem_of_getElem? (i := 170) (by decide +kernel), rfl⟩⟩
theorem lnX7_22 : LkN RX7 22 yX4_init := ⟨"CashLedger", List.mem_filter.mpr ⟨List.mem_of_getElem? (i := 286) (by decide +kernel), rfl⟩⟩
theorem lnX7_29 : LkN RX7 29 yX6_init := ⟨"CashLedger", List.mem_filter.mpr ⟨List.mem_of_getElem? (i := 289) (by decide +kernel), rfl⟩⟩
theorem lnX7_39 : LkN RX7 39 yX2_init := ⟨"CashLedger", List.mem_filter.mpr ⟨List.mem_of_getElem? (i := 407) (by decide +kernel), rfl⟩⟩
theorem lnX7_49 : LkN RX7 49 yX4_addBracket := ⟨"CashLedger", List.mem_filter.mpr ⟨List.mem_of_getElem? (i := 426) (by decide +kernel), rfl⟩⟩
theorem lnX7_54 : LkN RX7 54 yX6_begin := ⟨"CashLedger", List.mem_filter.mpr ⟨List.mem_of_getElem? (i := 431) (by decide +kernel), rfl⟩⟩
theorem lmX7_58 : LkM RX7 58 yX7_bytesIn := lw_good_in (n := 767) (by decide +kernel) rfl
theorem lmX7_66 : LkM RX7 66 yX7_requireState := lw_good_in (n := 770) (by decide +kernel) rfl
theorem lmX7_70 : LkM RX7 70 yX7_putBytes := lw_good_in (n := 841) (by decide +kernel) rfl
theorem lmX7_74 : LkM RX7 74 yX7_within := lw_good_in (n := 853) (by decide +kernel) rfl
theorem lmX7_78 : LkM RX7 78 yX7_requireArgument := lw_good_in (n := 854) (by decide +kernel) rfl
theorem lnX7_81 : LkN RX7 81 yX5_read := ⟨"CashLedger", List.mem_filter.mpr ⟨List.mem_of_getElem? (i := 472) (by decide +kernel), rfl⟩⟩
theorem lnX7_85 : LkN RX7 85 yX5_handOver := ⟨"CashLedger", List.mem_filter.mpr ⟨List.mem_of_getElem? (i := 880) (by decide +kernel), rfl⟩⟩
theorem lnX7_89 : LkN RX7 89 yX2_clear := ⟨"CashLedger", List.mem_filter.mpr ⟨List.mem_of_getElem? (i := 884) (by decide +kernel), rfl⟩⟩
theorem lmX7_106 : LkM RX7 106 yX7_isDayOrNone := lw_good_in (n := 896) (by decide +kernel) rfl
theorem lnX7_117 : LkN RX7 117 yX2_remember := ⟨"CashLedger", List.mem_filter.mpr ⟨List.mem_of_getElem? (i := 899) (by decide +kernel), rfl⟩⟩
theorem lnX7_124 : LkN RX7 124 yX1_add := ⟨"CashLedger", List.mem_filter.mpr ⟨List.mem_of_getElem? (i := 905) (by decide +kernel), rfl⟩⟩
theorem lmX7_128 : LkM RX7 128 yX7_requireIndex := lw_good_in (n := 917) (by decide +kernel) rfl
theorem lnX7_141 : LkN RX7 141 yX3_add := ⟨"CashLedger", List.mem_filter.mpr ⟨List.mem_of_getElem? (i := 950) (by decide +kernel), rfl⟩⟩
theorem lnX7_144 : LkN RX7 144 yX3_daysUsed := ⟨"CashLedger", List.mem_filter.mpr ⟨List.mem_of_getElem? (i := 958) (by decide +kernel), rfl⟩⟩
theorem lnX7_161 : LkN RX7 161 yX4_sortOf := ⟨"CashLedger", List.mem_filter.mpr ⟨List.mem_of_getElem? (i := 967) (by decide +kernel), rfl⟩⟩
theorem lnX7_164 : LkN RX7 164 yX0_add := ⟨"CashLedger", List.mem_filter.mpr ⟨List.mem_of_getElem? (i := 971) (by decide +kernel), rfl⟩⟩
theorem lnX7_173 : LkN RX7 173 yX0_valueAt := ⟨"CashLedger", List.mem_filter.mpr ⟨List.mem_of_getElem? (i := 982) (by decide +kernel), rfl⟩⟩
theorem lnX7_180 : LkN RX7 180 yX6_profitUpTo := ⟨"CashLedger", List.mem_filter.mpr ⟨List.mem_of_getElem? (i := 654) (by decide +kernel), rfl⟩⟩
theorem lmX7_184 : LkM RX7 184 yX7_targetAt := lw_good_in (n := 728) (by decide +kernel) rfl
theorem lnX7_188 : LkN RX7 188 yX6_prepaidSoFar := ⟨"CashLedger", List.mem_filter.mpr ⟨List.mem_of_getElem? (i := 993) (by decide +kernel), rfl⟩⟩
theorem lnX7_206 : LkN RX7 206 yX2_takeBack := ⟨"CashLedger", List.mem_filter.mpr ⟨List.mem_of_getElem? (i := 1012) (by decide +kernel), rfl⟩⟩
theorem lnX7_209 : LkN RX7 209 yX6_copyFrom := ⟨"CashLedger", List.mem_filter.mpr ⟨List.mem_of_getElem? (i := 611) (by decide +kernel), rfl⟩⟩
theorem lnX7_212 : LkN RX7 212 yX1_openOnes := ⟨"CashLedger", List.mem_filter.mpr ⟨List.mem_of_getElem? (i := 1033) (by decide +kernel), rfl⟩⟩
theorem lnX7_216 : LkN RX7 216 yX1_cancelledOnes := ⟨"CashLedger", List.mem_filter.mpr ⟨List.mem_of_getElem? (i := 1041) (by decide +kernel), rfl⟩⟩
theorem lnX7_219 : LkN RX7 219 yX1_lateOnes := ⟨"CashLedger", List.mem_filter.mpr ⟨List.mem_of_getElem? (i := 1045) (by decide +kernel), rfl⟩⟩
theorem lnX7_222 : LkN RX7 222 yX0_soldOnes := ⟨"CashLedger", List.mem_filter.mpr ⟨List.mem_of_getElem? (i := 1049) (by decide +kernel), rfl⟩⟩
theorem lnX7_247 : LkN RX7 247 yX6_deductiblePart := ⟨"CashLedger", List.mem_filter.mpr ⟨List.mem_of_getElem? (i := 1068) (by decide +kernel), rfl⟩⟩
theorem lnX7_250 : LkN RX7 250 yX1_sumPaid := ⟨"CashLedger", List.mem_filter.mpr ⟨List.mem_of_getElem? (i := 1079) (by decide +kernel), rfl⟩⟩
theorem lnX7_254 : LkN RX7 254 yX1_incomesOf := ⟨"CashLedger", List.mem_filter.mpr ⟨List.mem_of_getElem? (i := 1087) (by decide +kernel), rfl⟩⟩
theorem lnX7_257 : LkN RX7 257 yX6_deductiblePartsOf := ⟨"CashLedger", List.mem_filter.mpr ⟨List.mem_of_getElem? (i := 1091) (by decide +kernel), rfl⟩⟩
theorem lnX7_260 : LkN RX7 260 yX1_sumOpen := ⟨"CashLedger", List.mem_filter.mpr ⟨List.mem_of_getElem? (i := 1103) (by decide +kernel), rfl⟩⟩
theorem lnX7_263 : LkN RX7 263 yX1_firstInvoicedOpen := ⟨"CashLedger", List.mem_filter.mpr ⟨List.mem_of_getElem? (i := 1115) (by decide +kernel), rfl⟩⟩
theorem lmX7_266 : LkM RX7 266 yX7_requireElement := lw_good_in (n := 1119) (by decide +kernel) rfl
theorem lnX7_272 : LkN RX7 272 yX3_usedIn := ⟨"CashLedger", List.mem_filter.mpr ⟨List.mem_of_getElem? (i := 1152) (by decide +kernel), rfl⟩⟩
theorem lnX7_275 : LkN RX7 275 yX3_wholeMonth := ⟨"CashLedger", List.mem_filter.mpr ⟨List.mem_of_getElem? (i := 1153) (by decide +kernel), rfl⟩⟩
theorem lmX7_278 : LkM RX7 278 yX7_commonDivisor := lw_good_in (n := 1154) (by decide +kernel) rfl
theorem lnX7_290 : LkN RX7 290 yX0_writtenIn := ⟨"CashLedger", List.mem_filter.mpr ⟨List.mem_of_getElem? (i := 1171) (by decide +kernel), rfl⟩⟩
theorem lmX7_293 : LkM RX7 293 yX7_requireQuarter := lw_good_in (n := 1189) (by decide +kernel) rfl
theorem lnX7_296 : LkN RX7 296 yX0_poolAt := ⟨"CashLedger", List.mem_filter.mpr ⟨List.mem_of_getElem? (i := 1192) (by decide +kernel), rfl⟩⟩
theorem lnX7_299 : LkN RX7 299 yX0_poolWrittenIn := ⟨"CashLedger", List.mem_filter.mpr ⟨List.mem_of_getElem? (i := 1200) (by decide +kernel), rfl⟩⟩
theorem lnX7_302 : LkN RX7 302 yX4_taxOf := ⟨"CashLedger", List.mem_filter.mpr ⟨List.mem_of_getElem? (i := 627) (by decide +kernel), rfl⟩⟩
theorem lnX7_306 : LkN RX7 306 yX4_rateOf := ⟨"CashLedger", List.mem_filter.mpr ⟨List.mem_of_getElem? (i := 642) (by decide +kernel), rfl⟩⟩
theorem lmX7_309 : LkM RX7 309 yX7_yearProfit := lw_good_in (n := 650) (by decide +kernel) rfl
theorem lmX7_312 : LkM RX7 312 yX7_prepaymentNow := lw_good_in (n := 724) (by decide +kernel) rfl
theorem lnX7_322 : LkN RX7 322 yX6_deductibleOf := ⟨"CashLedger", List.mem_filter.mpr ⟨List.mem_of_getElem? (i := 1261) (by decide +kernel), rfl⟩⟩
theorem lmX7_325 : LkM RX7 325 yX7_additionalTax := lw_good_in (n := 1262) (by decide +kernel) rfl
theorem lmX7_329 : LkM RX7 329 yX7_leftOf := lw_good_in (n := 1274) (by decide +kernel) rfl
theorem lnX7_332 : LkN RX7 332 yX6_fillBalances := ⟨"CashLedger", List.mem_filter.mpr ⟨List.mem_of_getElem? (i := 739) (by decide +kernel), rfl⟩⟩
theorem lnX7_336 : LkN RX7 336 yX6_receivedIn := ⟨"CashLedger", List.mem_filter.mpr ⟨List.mem_of_getElem? (i := 755) (by decide +kernel), rfl⟩⟩
theorem lmX8_29 : LkM RX8 29 yX8_begin := lw_good_in (n := 1291) (by decide +kernel) rfl
theorem lmX8_33 : LkM RX8 33 yX8_readBracket := lw_good_in (n := 1298) (by decide +kernel) rfl
theorem lmX8_38 : LkM RX8 38 yX8_takeRead := lw_good_in (n := 1303) (by decide +kernel) rfl
theorem lmX8_45 : LkM RX8 45 yX8_byteOf := lw_good_in (n := 1364) (by decide +kernel) rfl
theorem lmX8_52 : LkM RX8 52 yX8_fails := lw_good_in (n := 1367) (by decide +kernel) rfl
theorem lmX8_56 : LkM RX8 56 yX8_in := lw_good_in (n := 1375) (by decide +kernel) rfl
theorem lmX8_63 : LkM RX8 63 yX8_peek := lw_good_in (n := 1390) (by decide +kernel) rfl
theorem lmX8_70 : LkM RX8 70 yX8_isLetter := lw_good_in (n := 1394) (by decide +kernel) rfl
theorem lmX8_74 : LkM RX8 74 yX8_isDigit := lw_good_in (n := 1397) (by decide +kernel) rfl
theorem lmX8_99 : LkM RX8 99 yX8_isGood := lw_good_in (n := 1413) (by decide +kernel) rfl
theorem lmX8_112 : LkM RX8 112 yX8_fail := lw_good_in (n := 1423) (by decide +kernel) rfl
theorem lmX8_115 : LkM RX8 115 yX8_step := lw_good_in (n := 1386) (by decide +kernel) rfl
theorem lmX8_124 : LkM RX8 124 yX8_takeNumber := lw_good_in (n := 1428) (by decide +kernel) rfl
theorem lmX8_130 : LkM RX8 130 yX8_isWord := lw_good_in (n := 1409) (by decide +kernel) rfl
theorem lmX8_136 : LkM RX8 136 yX8_bracketStatement := lw_good_in (n := 1419) (by decide +kernel) rfl
theorem lmX8_141 : LkM RX8 141 yX8_roomStatement := lw_good_in (n := 1433) (by decide +kernel) rfl
theorem lmX8_146 : LkM RX8 146 yX8_once := lw_good_in (n := 1439) (by decide +kernel) rfl
theorem lmX8_151 : LkM RX8 151 yX8_take := lw_good_in (n := 1444) (by decide +kernel) rfl
theorem lmX8_161 : LkM RX8 161 yX8_readStatement := lw_good_in (n := 1404) (by decide +kernel) rfl
theorem lmX8_164 : LkM RX8 164 yX8_parse := lw_good_in (n := 1382) (by decide +kernel) rfl
theorem lmX8_184 : LkM RX8 184 yX8_entryPart := lw_good_in (n := 1508) (by decide +kernel) rfl
theorem lmX8_187 : LkM RX8 187 yX8_isCancelled := lw_good_in (n := 1504) (by decide +kernel) rfl
theorem lmX8_190 : LkM RX8 190 yX8_counts := lw_good_in (n := 1617) (by decide +kernel) rfl
theorem lmX8_193 : LkM RX8 193 yX8_record := lw_good_in (n := 1492) (by decide +kernel) rfl
theorem lmX8_196 : LkM RX8 196 yX8_isKind := lw_good_in (n := 1475) (by decide +kernel) rfl
theorem lmX8_201 : LkM RX8 201 yX8_isAmount := lw_good_in (n := 1480) (by decide +kernel) rfl
theorem lmX8_204 : LkM RX8 204 yX8_isDay := lw_good_in (n := 1484) (by decide +kernel) rfl
theorem lmX8_207 : LkM RX8 207 yX8_isDayOrNone := lw_good_in (n := 1488) (by decide +kernel) rfl
theorem lmX8_210 : LkM RX8 210 yX8_isEntry := lw_good_in (n := 1500) (by decide +kernel) rfl
theorem lmX8_213 : LkM RX8 213 yX8_become := lw_good_in (n := 1512) (by decide +kernel) rfl
theorem lmX8_218 : LkM RX8 218 yX8_isRoom := lw_good_in (n := 1529) (by decide +kernel) rfl
theorem lmX8_221 : LkM RX8 221 yX8_usedDays := lw_good_in (n := 1533) (by decide +kernel) rfl
theorem lmX8_229 : LkM RX8 229 yX8_assetPart := lw_good_in (n := 1557) (by decide +kernel) rfl
theorem lmX8_232 : LkM RX8 232 yX8_isAsset := lw_good_in (n := 1553) (by decide +kernel) rfl
theorem lmX8_235 : LkM RX8 235 yX8_isSold := lw_good_in (n := 1561) (by decide +kernel) rfl
theorem lmX8_238 : LkM RX8 238 yX8_valueOf := lw_good_in (n := 1565) (by decide +kernel) rfl
theorem lmX8_241 : LkM RX8 241 yX8_prepaidTo := lw_good_in (n := 1593) (by decide +kernel) rfl
theorem lmX8_245 : LkM RX8 245 yX8_prepaymentFor := lw_good_in (n := 1597) (by decide +kernel) rfl
theorem lmX8_251 : LkM RX8 251 yX8_roomPart := lw_good_in (n := 1537) (by decide +kernel) rfl
theorem lmX8_259 : LkM RX8 259 yX8_shareAbove := lw_good_in (n := 1629) (by decide +kernel) rfl
theorem lmX8_262 : LkM RX8 262 yX8_shareBelow := lw_good_in (n := 1633) (by decide +kernel) rfl
theorem lmX8_265 : LkM RX8 265 yX8_deducted := lw_good_in (n := 1625) (by decide +kernel) rfl
theorem lmX8_269 : LkM RX8 269 yX8_boughtIn := lw_good_in (n := 1569) (by decide +kernel) rfl
theorem lmX8_272 : LkM RX8 272 yX8_sortOf := lw_good_in (n := 1577) (by decide +kernel) rfl
theorem lmX8_275 : LkM RX8 275 yX8_soldIn := lw_good_in (n := 1573) (by decide +kernel) rfl
theorem lmX8_278 : LkM RX8 278 yX8_byLife := lw_good_in (n := 1585) (by decide +kernel) rfl
theorem lmX8_281 : LkM RX8 281 yX8_writtenTo := lw_good_in (n := 1581) (by decide +kernel) rfl
theorem lmX8_284 : LkM RX8 284 yX8_poolTo := lw_good_in (n := 1649) (by decide +kernel) rfl
theorem lmX8_287 : LkM RX8 287 yX8_countsIn := lw_good_in (n := 1613) (by decide +kernel) rfl
theorem lmX8_291 : LkM RX8 291 yX8_deductedOf := lw_good_in (n := 1621) (by decide +kernel) rfl
theorem lmX8_294 : LkM RX8 294 yX8_writtenIn := lw_good_in (n := 1641) (by decide +kernel) rfl
theorem lmX8_297 : LkM RX8 297 yX8_entriesIn := lw_good_in (n := 1609) (by decide +kernel) rfl
theorem lmX8_300 : LkM RX8 300 yX8_assetsIn := lw_good_in (n := 1637) (by decide +kernel) rfl
theorem lmX8_303 : LkM RX8 303 yX8_poolOff := lw_good_in (n := 1645) (by decide +kernel) rfl
theorem lmX8_306 : LkM RX8 306 yX8_profitOf := lw_good_in (n := 1605) (by decide +kernel) rfl
theorem lmX8_309 : LkM RX8 309 yX8_profitsTo := lw_good_in (n := 1601) (by decide +kernel) rfl
theorem lmX8_312 : LkM RX8 312 yX8_limitOf := lw_good_in (n := 1658) (by decide +kernel) rfl
theorem lmX8_319 : LkM RX8 319 yX8_rateOf := lw_good_in (n := 1663) (by decide +kernel) rfl
theorem lmX8_326 : LkM RX8 326 yX8_taxOf := lw_good_in (n := 1654) (by decide +kernel) rfl
theorem lmX8_332 : LkM RX8 332 yX8_openMany := lw_good_in (n := 1678) (by decide +kernel) rfl
theorem lmX8_335 : LkM RX8 335 yX8_flagged := lw_good_in (n := 1686) (by decide +kernel) rfl
theorem lmX8_338 : LkM RX8 338 yX8_soldMany := lw_good_in (n := 1690) (by decide +kernel) rfl
theorem lmX8_341 : LkM RX8 341 yX8_isOpen := lw_good_in (n := 1682) (by decide +kernel) rfl
theorem lmX8_348 : LkM RX8 348 yX8_isMonth := lw_good_in (n := 1728) (by decide +kernel) rfl
theorem lmX8_351 : LkM RX8 351 yX8_common := lw_good_in (n := 1732) (by decide +kernel) rfl
theorem lmX8_356 : LkM RX8 356 yX8_isQuarter := lw_good_in (n := 1752) (by decide +kernel) rfl
theorem lmX8_359 : LkM RX8 359 yX8_yearProfit := lw_good_in (n := 1779) (by decide +kernel) rfl
theorem lmX8_363 : LkM RX8 363 yX8_isClosed := lw_good_in (n := 1787) (by decide +kernel) rfl
theorem lmX8_366 : LkM RX8 366 yX8_againFor := lw_good_in (n := 1795) (by decide +kernel) rfl
theorem lmX8_369 : LkM RX8 369 yX8_correctionOf := lw_good_in (n := 1803) (by decide +kernel) rfl
theorem lmX8_376 : LkM RX8 376 yX8_netOf := lw_good_in (n := 1829) (by decide +kernel) rfl
theorem lmX8_381 : LkM RX8 381 yX8_entriesUpTo := lw_good_in (n := 1841) (by decide +kernel) rfl
theorem lmX8_384 : LkM RX8 384 yX8_assetsUpTo := lw_good_in (n := 1845) (by decide +kernel) rfl
theorem lmX8_387 : LkM RX8 387 yX8_prepaidUpTo := lw_good_in (n := 1849) (by decide +kernel) rfl
theorem lmX8_390 : LkM RX8 390 yX8_balanceAt := lw_good_in (n := 1837) (by decide +kernel) rfl
theorem lmX8_393 : LkM RX8 393 yX8_layEntries := lw_good_in (n := 1861) (by decide +kernel) rfl
theorem lmX8_396 : LkM RX8 396 yX8_layAssets := lw_good_in (n := 1865) (by decide +kernel) rfl
theorem lmX8_399 : LkM RX8 399 yX8_layDays := lw_good_in (n := 1857) (by decide +kernel) rfl
theorem lmX8_402 : LkM RX8 402 yX8_takenIn := lw_good_in (n := 1877) (by decide +kernel) rfl
theorem flX0_9 : FLk RX0 9 RX0 TX0 7 tyX0 1 := ⟨by decide, inX0, tyX0_ok, nmX0, Or.inl (lw_good_in (n := 349) (by decide +kernel) rfl)⟩
theorem flX0_15 : FLk RX0 15 RX0 TX0 7 tyX0 2 := ⟨by decide, inX0, tyX0_ok, nmX0, Or.inl (lw_good_in (n := 352) (by decide +kernel) rfl)⟩
theorem flX0_18 : FLk RX0 18 RX0 TX0 7 tyX0 3 := ⟨by decide, inX0, tyX0_ok, nmX0, Or.inl (lw_good_in (n := 355) (by decide +kernel) rfl)⟩
theorem flX0_21 : FLk RX0 21 RX0 TX0 7 tyX0 4 := ⟨by decide, inX0, tyX0_ok, nmX0, Or.inl (lw_good_in (n := 357) (by decide +kernel) rfl)⟩
theorem flX0_24 : FLk RX0 24 RX0 TX0 7 tyX0 5 := ⟨by decide, inX0, tyX0_ok, nmX0, Or.inl (lw_good_in (n := 359) (by decide +kernel) rfl)⟩
theorem flX0_27 : FLk RX0 27 RX0 TX0 7 tyX0 6 := ⟨by decide, inX0, tyX0_ok, nmX0, Or.inl (lw_good_in (n := 362) (by decide +kernel) rfl)⟩
theorem flX0_30 : FLk RX0 30 RX0 TX0 7 tyX0 0 := ⟨by decide, inX0, tyX0_ok, nmX0, Or.inl (lw_good_in (n := 346) (by decide +kernel) rfl)⟩
theorem flX1_9 : FLk RX1 9 RX1 TX1 8 tyX1 1 := ⟨by decide, inX1, tyX1_ok, nmX1, Or.inl (lw_good_in (n := 302) (by decide +kernel) rfl)⟩
theorem flX1_15 : FLk RX1 15 RX1 TX1 8 tyX1 2 := ⟨by decide, inX1, tyX1_ok, nmX1, Or.inl (lw_good_in (n := 305) (by decide +kernel) rfl)⟩
theorem flX1_18 : FLk RX1 18 RX1 TX1 8 tyX1 3 := ⟨by decide, inX1, tyX1_ok, nmX1, Or.inl (lw_good_in (n := 308) (by decide +kernel) rfl)⟩
theorem flX1_21 : FLk RX1 21 RX1 TX1 8 tyX1 4 := ⟨by decide, inX1, tyX1_ok, nmX1, Or.inl (lw_good_in (n := 311) (by decide +kernel) rfl)⟩
theorem flX1_24 : FLk RX1 24 RX1 TX1 8 tyX1 5 := ⟨by decide, inX1, tyX1_ok, nmX1, Or.inl (lw_good_in (n := 313) (by decide +kernel) rfl)⟩
theorem flX1_27 : FLk RX1 27 RX1 TX1 8 tyX1 6 := ⟨by decide, inX1, tyX1_ok, nmX1, Or.inl (lw_good_in (n := 316) (by decide +kernel) rfl)⟩
theorem flX1_31 : FLk RX1 31 RX1 TX1 8 tyX1 7 := ⟨by decide, inX1, tyX1_ok, nmX1, Or.inl (lw_good_in (n := 318) (by decide +kernel) rfl)⟩
theorem flX1_34 : FLk RX1 34 RX1 TX1 8 tyX1 0 := ⟨by decide, inX1, tyX1_ok, nmX1, Or.inl (lw_good_in (n := 299) (by decide +kernel) rfl)⟩
theorem flX2_11 : FLk RX2 11 RX2 TX2 3 tyX2 0 := ⟨by decide, inX2, tyX2_ok, nmX2, Or.inl (lw_good_in (n := 414) (by decide +kernel) rfl)⟩
theorem flX2_18 : FLk RX2 18 RX2 TX2 3 tyX2 1 := ⟨by decide, inX2, tyX2_ok, nmX2, Or.inl (lw_good_in (n := 415) (by decide +kernel) rfl)⟩
theorem flX2_22 : FLk RX2 22 RX2 TX2 3 tyX2 2 := ⟨by decide, inX2, tyX2_ok, nmX2, Or.inl (lw_good_in (n := 416) (by decide +kernel) rfl)⟩
theorem flX3_9 : FLk RX3 9 RX3 TX3 4 tyX3 1 := ⟨by decide, inX3, tyX3_ok, nmX3, Or.inl (lw_good_in (n := 190) (by decide +kernel) rfl)⟩
theorem flX3_15 : FLk RX3 15 RX3 TX3 4 tyX3 2 := ⟨by decide, inX3, tyX3_ok, nmX3, Or.inl (lw_good_in (n := 192) (by decide +kernel) rfl)⟩
theorem flX3_18 : FLk RX3 18 RX3 TX3 4 tyX3 3 := ⟨by decide, inX3, tyX3_ok, nmX3, Or.inl (lw_good_in (n := 194) (by decide +kernel) rfl)⟩
theorem flX3_21 : FLk RX3 21 RX3 TX3 4 tyX3 0 := ⟨by decide, inX3, tyX3_ok, nmX3, Or.inl (lw_good_in (n := 186) (by decide +kernel) rfl)⟩
theorem flX4_9 : FLk RX4 9 RX4 TX4 9 tyX4 6 := ⟨by decide, inX4, tyX4_ok, nmX4, Or.inl (lw_good_in (n := 227) (by decide +kernel) rfl)⟩
theorem flX4_15 : FLk RX4 15 RX4 TX4 9 tyX4 7 := ⟨by decide, inX4, tyX4_ok, nmX4, Or.inl (lw_good_in (n := 228) (by decide +kernel) rfl)⟩
theorem flX4_21 : FLk RX4 21 RX4 TX4 9 tyX4 8 := ⟨by decide, inX4, tyX4_ok, nmX4, Or.inl (lw_good_in (n := 229) (by decide +kernel) rfl)⟩
theorem flX4_28 : FLk RX4 28 RX4 TX4 9 tyX4 0 := ⟨by decide, inX4, tyX4_ok, nmX4, Or.inl (lw_good_in (n := 212) (by decide +kernel) rfl)⟩
theorem flX4_33 : FLk RX4 33 RX4 TX4 9 tyX4 1 := ⟨by decide, inX4, tyX4_ok, nmX4, Or.inl (lw_good_in (n := 215) (by decide +kernel) rfl)⟩
theorem flX4_37 : FLk RX4 37 RX4 TX4 9 tyX4 2 := ⟨by decide, inX4, tyX4_ok, nmX4, Or.inl (lw_good_in (n := 217) (by decide +kernel) rfl)⟩
theorem flX4_40 : FLk RX4 40 RX4 TX4 9 tyX4 3 := ⟨by decide, inX4, tyX4_ok, nmX4, Or.inl (lw_good_in (n := 219) (by decide +kernel) rfl)⟩
theorem flX4_43 : FLk RX4 43 RX4 TX4 9 tyX4 4 := ⟨by decide, inX4, tyX4_ok, nmX4, Or.inl (lw_good_in (n := 222) (by decide +kernel) rfl)⟩
theorem flX4_46 : FLk RX4 46 RX4 TX4 9 tyX4 5 := ⟨by decide, inX4, tyX4_ok, nmX4, Or.inl (lw_good_in (n := 224) (by decide +kernel) rfl)⟩
theorem flX4_49 : FLk RX4 49 RX3 TX3 4 tyX3 0 := ⟨by decide, inX3, tyX3_ok, nmX3, Or.inr ⟨"CashLedger", List.mem_filter.mpr ⟨List.mem_of_getElem? (i := 187) (by decide +kernel), rfl⟩⟩⟩
theorem flX5_9 : FLk RX5 9 RX5 TX5 11 tyX5 0 := ⟨by decide, inX5, tyX5_ok, nmX5, Or.inl (lw_good_in (n := 251) (by decide +kernel) rfl)⟩
theorem flX5_18 : FLk RX5 18 RX5 TX5 11 tyX5 6 := ⟨by decide, inX5, tyX5_ok, nmX5, Or.inl (lw_good_in (n := 257) (by decide +kernel) rfl)⟩
theorem flX5_33 : FLk RX5 33 RX5 TX5 11 tyX5 4 := ⟨by decide, inX5, tyX5_ok, nmX5, Or.inl (lw_good_in (n := 255) (by decide +kernel) rfl)⟩
theorem flX5_37 : FLk RX5 37 RX5 TX5 11 tyX5 3 := ⟨by decide, inX5, tyX5_ok, nmX5, Or.inl (lw_good_in (n := 254) (by decide +kernel) rfl)⟩
theorem flX5_46 : FLk RX5 46 RX5 TX5 11 tyX5 1 := ⟨by decide, inX5, tyX5_ok, nmX5, Or.inl (lw_good_in (n := 252) (by decide +kernel) rfl)⟩
theorem flX5_52 : FLk RX5 52 RX5 TX5 11 tyX5 7 := ⟨by decide, inX5, tyX5_ok, nmX5, Or.inl (lw_good_in (n := 258) (by decide +kernel) rfl)⟩
theorem flX5_56 : FLk RX5 56 RX5 TX5 11 tyX5 8 := ⟨by decide, inX5, tyX5_ok, nmX5, Or.inl (lw_good_in (n := 259) (by decide +kernel) rfl)⟩
theorem flX5_59 : FLk RX5 59 RX5 TX5 11 tyX5 9 := ⟨by decide, inX5, tyX5_ok, nmX5, Or.inl (lw_good_in (n := 260) (by decide +kernel) rfl)⟩
theorem flX5_62 : FLk RX5 62 RX5 TX5 11 tyX5 10 := ⟨by decide, inX5, tyX5_ok, nmX5, Or.inl (lw_good_in (n := 261) (by decide +kernel) rfl)⟩
theorem flX5_65 : FLk RX5 65 RX5 TX5 11 tyX5 2 := ⟨by decide, inX5, tyX5_ok, nmX5, Or.inl (lw_good_in (n := 253) (by decide +kernel) rfl)⟩
theorem flX5_106 : FLk RX5 106 RX4 TX4 9 tyX4 0 := ⟨by decide, inX4, tyX4_ok, nmX4, Or.inr ⟨"CashLedger", List.mem_filter.mpr ⟨List.mem_of_getElem? (i := 214) (by decide +kernel), rfl⟩⟩⟩
theorem flX5_109 : FLk RX5 109 RX4 TX4 9 tyX4 1 := ⟨by decide, inX4, tyX4_ok, nmX4, Or.inr ⟨"CashLedger", List.mem_filter.mpr ⟨List.mem_of_getElem? (i := 216) (by decide +kernel), rfl⟩⟩⟩
theorem flX5_112 : FLk RX5 112 RX4 TX4 9 tyX4 2 := ⟨by decide, inX4, tyX4_ok, nmX4, Or.inr ⟨"CashLedger", List.mem_filter.mpr ⟨List.mem_of_getElem? (i := 218) (by decide +kernel), rfl⟩⟩⟩
theorem flX5_115 : FLk RX5 115 RX4 TX4 9 tyX4 3 := ⟨by decide, inX4, tyX4_ok, nmX4, Or.inr ⟨"CashLedger", List.mem_filter.mpr ⟨List.mem_of_getElem? (i := 220) (by decide +kernel), rfl⟩⟩⟩
theorem flX5_118 : FLk RX5 118 RX4 TX4 9 tyX4 4 := ⟨by decide, inX4, tyX4_ok, nmX4, Or.inr ⟨"CashLedger", List.mem_filter.mpr ⟨List.mem_of_getElem? (i := 223) (by decide +kernel), rfl⟩⟩⟩
theorem flX5_121 : FLk RX5 121 RX4 TX4 9 tyX4 5 := ⟨by decide, inX4, tyX4_ok, nmX4, Or.inr ⟨"CashLedger", List.mem_filter.mpr ⟨List.mem_of_getElem? (i := 225) (by decide +kernel), rfl⟩⟩⟩
theorem flX5_133 : FLk RX5 133 RX4 TX4 9 tyX4 8 := ⟨by decide, inX4, tyX4_ok, nmX4, Or.inr ⟨"CashLedger", List.mem_filter.mpr ⟨List.mem_of_getElem? (i := 231) (by decide +kernel), rfl⟩⟩⟩
theorem flX5_137 : FLk RX5 137 RX3 TX3 4 tyX3 0 := ⟨by decide, inX3, tyX3_ok, nmX3, Or.inr ⟨"CashLedger", List.mem_filter.mpr ⟨List.mem_of_getElem? (i := 189) (by decide +kernel), rfl⟩⟩⟩
theorem flX5_148 : FLk RX5 148 RX5 TX5 11 tyX5 5 := ⟨by decide, inX5, tyX5_ok, nmX5, Or.inl (lw_good_in (n := 256) (by decide +kernel) rfl)⟩
theorem flX6_12 : FLk RX6 12 RX6 TX6 6 tyX6 0 := ⟨by decide, inX6, tyX6_ok, nmX6, Or.inl (lw_good_in (n := 380) (by decide +kernel) rfl)⟩
theorem flX6_21 : FLk RX6 21 RX6 TX6 6 tyX6 1 := ⟨by decide, inX6, tyX6_ok, nmX6, Or.inl (lw_good_in (n := 382) (by decide +kernel) rfl)⟩
theorem flX6_28 : FLk RX6 28 RX6 TX6 6 tyX6 2 := ⟨by decide, inX6, tyX6_ok, nmX6, Or.inl (lw_good_in (n := 384) (by decide +kernel) rfl)⟩
theorem flX6_32 : FLk RX6 32 RX6 TX6 6 tyX6 3 := ⟨by decide, inX6, tyX6_ok, nmX6, Or.inl (lw_good_in (n := 386) (by decide +kernel) rfl)⟩
theorem flX6_36 : FLk RX6 36 RX1 TX1 8 tyX1 0 := ⟨by decide, inX1, tyX1_ok, nmX1, Or.inr ⟨"CashLedger", List.mem_filter.mpr ⟨List.mem_of_getElem? (i := 300) (by decide +kernel), rfl⟩⟩⟩
theorem flX6_40 : FLk RX6 40 RX0 TX0 7 tyX0 0 := ⟨by decide, inX0, tyX0_ok, nmX0, Or.inr ⟨"CashLedger", List.mem_filter.mpr ⟨List.mem_of_getElem? (i := 347) (by decide +kernel), rfl⟩⟩⟩
theorem flX6_41 : FLk RX6 41 RX4 TX4 9 tyX4 8 := ⟨by decide, inX4, tyX4_ok, nmX4, Or.inr ⟨"CashLedger", List.mem_filter.mpr ⟨List.mem_of_getElem? (i := 230) (by decide +kernel), rfl⟩⟩⟩
theorem flX6_48 : FLk RX6 48 RX6 TX6 6 tyX6 4 := ⟨by decide, inX6, tyX6_ok, nmX6, Or.inl (lw_good_in (n := 388) (by decide +kernel) rfl)⟩
theorem flX6_51 : FLk RX6 51 RX4 TX4 9 tyX4 0 := ⟨by decide, inX4, tyX4_ok, nmX4, Or.inr ⟨"CashLedger", List.mem_filter.mpr ⟨List.mem_of_getElem? (i := 213) (by decide +kernel), rfl⟩⟩⟩
theorem flX6_54 : FLk RX6 54 RX6 TX6 6 tyX6 5 := ⟨by decide, inX6, tyX6_ok, nmX6, Or.inl (lw_good_in (n := 390) (by decide +kernel) rfl)⟩
theorem flX6_73 : FLk RX6 73 RX1 TX1 8 tyX1 1 := ⟨by decide, inX1, tyX1_ok, nmX1, Or.inr ⟨"CashLedger", List.mem_filter.mpr ⟨List.mem_of_getElem? (i := 303) (by decide +kernel), rfl⟩⟩⟩
theorem flX6_76 : FLk RX6 76 RX1 TX1 8 tyX1 3 := ⟨by decide, inX1, tyX1_ok, nmX1, Or.inr ⟨"CashLedger", List.mem_filter.mpr ⟨List.mem_of_getElem? (i := 309) (by decide +kernel), rfl⟩⟩⟩
theorem flX6_79 : FLk RX6 79 RX1 TX1 8 tyX1 5 := ⟨by decide, inX1, tyX1_ok, nmX1, Or.inr ⟨"CashLedger", List.mem_filter.mpr ⟨List.mem_of_getElem? (i := 314) (by decide +kernel), rfl⟩⟩⟩
theorem flX6_86 : FLk RX6 86 RX1 TX1 8 tyX1 2 := ⟨by decide, inX1, tyX1_ok, nmX1, Or.inr ⟨"CashLedger", List.mem_filter.mpr ⟨List.mem_of_getElem? (i := 306) (by decide +kernel), rfl⟩⟩⟩
theorem flX6_117 : FLk RX6 117 RX0 TX0 7 tyX0 2 := ⟨by decide, inX0, tyX0_ok, nmX0, Or.inr ⟨"CashLedger", List.mem_filter.mpr ⟨List.mem_of_getElem? (i := 354) (by decide +kernel), rfl⟩⟩⟩
theorem flX6_120 : FLk RX6 120 RX0 TX0 7 tyX0 1 := ⟨by decide, inX0, tyX0_ok, nmX0, Or.inr ⟨"CashLedger", List.mem_filter.mpr ⟨List.mem_of_getElem? (i := 350) (by decide +kernel), rfl⟩⟩⟩
theorem flX6_123 : FLk RX6 123 RX0 TX0 7 tyX0 5 := ⟨by decide, inX0, tyX0_ok, nmX0, Or.inr ⟨"CashLedger", List.mem_filter.mpr ⟨List.mem_of_getElem? (i := 361) (by decide +kernel), rfl⟩⟩⟩
theorem flX6_126 : FLk RX6 126 RX0 TX0 7 tyX0 6 := ⟨by decide, inX0, tyX0_ok, nmX0, Or.inr ⟨"CashLedger", List.mem_filter.mpr ⟨List.mem_of_getElem? (i := 364) (by decide +kernel), rfl⟩⟩⟩
theorem flX7_9 : FLk RX7 9 RX7 TX7 9 tyX7 0 := ⟨by decide, inX7, tyX7_ok, nmX7, Or.inl (lw_good_in (n := 439) (by decide +kernel) rfl)⟩
theorem flX7_16 : FLk RX7 16 RX7 TX7 9 tyX7 2 := ⟨by decide, inX7, tyX7_ok, nmX7, Or.inl (lw_good_in (n := 441) (by decide +kernel) rfl)⟩
theorem flX7_23 : FLk RX7 23 RX7 TX7 9 tyX7 3 := ⟨by decide, inX7, tyX7_ok, nmX7, Or.inl (lw_good_in (n := 442) (by decide +kernel) rfl)⟩
theorem flX7_30 : FLk RX7 30 RX7 TX7 9 tyX7 4 := ⟨by decide, inX7, tyX7_ok, nmX7, Or.inl (lw_good_in (n := 443) (by decide +kernel) rfl)⟩
theorem flX7_34 : FLk RX7 34 RX7 TX7 9 tyX7 5 := ⟨by decide, inX7, tyX7_ok, nmX7, Or.inl (lw_good_in (n := 444) (by decide +kernel) rfl)⟩
theorem flX7_40 : FLk RX7 40 RX7 TX7 9 tyX7 7 := ⟨by decide, inX7, tyX7_ok, nmX7, Or.inl (lw_good_in (n := 446) (by decide +kernel) rfl)⟩
theorem flX7_44 : FLk RX7 44 RX7 TX7 9 tyX7 8 := ⟨by decide, inX7, tyX7_ok, nmX7, Or.inl (lw_good_in (n := 447) (by decide +kernel) rfl)⟩
theorem flX7_62 : FLk RX7 62 RX7 TX7 9 tyX7 1 := ⟨by decide, inX7, tyX7_ok, nmX7, Or.inl (lw_good_in (n := 440) (by decide +kernel) rfl)⟩
theorem flX7_92 : FLk RX7 92 RX7 TX7 9 tyX7 6 := ⟨by decide, inX7, tyX7_ok, nmX7, Or.inl (lw_good_in (n := 445) (by decide +kernel) rfl)⟩
theorem flX7_96 : FLk RX7 96 RX6 TX6 6 tyX6 1 := ⟨by decide, inX6, tyX6_ok, nmX6, Or.inr ⟨"CashLedger", List.mem_filter.mpr ⟨List.mem_of_getElem? (i := 383) (by decide +kernel), rfl⟩⟩⟩
theorem flX7_100 : FLk RX7 100 RX3 TX3 4 tyX3 0 := ⟨by decide, inX3, tyX3_ok, nmX3, Or.inr ⟨"CashLedger", List.mem_filter.mpr ⟨List.mem_of_getElem? (i := 188) (by decide +kernel), rfl⟩⟩⟩
theorem flX7_110 : FLk RX7 110 RX6 TX6 6 tyX6 0 := ⟨by decide, inX6, tyX6_ok, nmX6, Or.inr ⟨"CashLedger", List.mem_filter.mpr ⟨List.mem_of_getElem? (i := 381) (by decide +kernel), rfl⟩⟩⟩
theorem flX7_114 : FLk RX7 114 RX1 TX1 8 tyX1 0 := ⟨by decide, inX1, tyX1_ok, nmX1, Or.inr ⟨"CashLedger", List.mem_filter.mpr ⟨List.mem_of_getElem? (i := 301) (by decide +kernel), rfl⟩⟩⟩
theorem flX7_121 : FLk RX7 121 RX6 TX6 6 tyX6 4 := ⟨by decide, inX6, tyX6_ok, nmX6, Or.inr ⟨"CashLedger", List.mem_filter.mpr ⟨List.mem_of_getElem? (i := 389) (by decide +kernel), rfl⟩⟩⟩
theorem flX7_131 : FLk RX7 131 RX1 TX1 8 tyX1 6 := ⟨by decide, inX1, tyX1_ok, nmX1, Or.inr ⟨"CashLedger", List.mem_filter.mpr ⟨List.mem_of_getElem? (i := 317) (by decide +kernel), rfl⟩⟩⟩
theorem flX7_135 : FLk RX7 135 RX1 TX1 8 tyX1 5 := ⟨by decide, inX1, tyX1_ok, nmX1, Or.inr ⟨"CashLedger", List.mem_filter.mpr ⟨List.mem_of_getElem? (i := 315) (by decide +kernel), rfl⟩⟩⟩
theorem flX7_138 : FLk RX7 138 RX1 TX1 8 tyX1 3 := ⟨by decide, inX1, tyX1_ok, nmX1, Or.inr ⟨"CashLedger", List.mem_filter.mpr ⟨List.mem_of_getElem? (i := 310) (by decide +kernel), rfl⟩⟩⟩
theorem flX7_147 : FLk RX7 147 RX3 TX3 4 tyX3 2 := ⟨by decide, inX3, tyX3_ok, nmX3, Or.inr ⟨"CashLedger", List.mem_filter.mpr ⟨List.mem_of_getElem? (i := 193) (by decide +kernel), rfl⟩⟩⟩
theorem flX7_150 : FLk RX7 150 RX3 TX3 4 tyX3 3 := ⟨by decide, inX3, tyX3_ok, nmX3, Or.inr ⟨"CashLedger", List.mem_filter.mpr ⟨List.mem_of_getElem? (i := 195) (by decide +kernel), rfl⟩⟩⟩
theorem flX7_154 : FLk RX7 154 RX6 TX6 6 tyX6 2 := ⟨by decide, inX6, tyX6_ok, nmX6, Or.inr ⟨"CashLedger", List.mem_filter.mpr ⟨List.mem_of_getElem? (i := 385) (by decide +kernel), rfl⟩⟩⟩
theorem flX7_158 : FLk RX7 158 RX0 TX0 7 tyX0 0 := ⟨by decide, inX0, tyX0_ok, nmX0, Or.inr ⟨"CashLedger", List.mem_filter.mpr ⟨List.mem_of_getElem? (i := 348) (by decide +kernel), rfl⟩⟩⟩
theorem flX7_167 : FLk RX7 167 RX0 TX0 7 tyX0 2 := ⟨by decide, inX0, tyX0_ok, nmX0, Or.inr ⟨"CashLedger", List.mem_filter.mpr ⟨List.mem_of_getElem? (i := 353) (by decide +kernel), rfl⟩⟩⟩
theorem flX7_170 : FLk RX7 170 RX0 TX0 7 tyX0 5 := ⟨by decide, inX0, tyX0_ok, nmX0, Or.inr ⟨"CashLedger", List.mem_filter.mpr ⟨List.mem_of_getElem? (i := 360) (by decide +kernel), rfl⟩⟩⟩
theorem flX7_177 : FLk RX7 177 RX0 TX0 7 tyX0 6 := ⟨by decide, inX0, tyX0_ok, nmX0, Or.inr ⟨"CashLedger", List.mem_filter.mpr ⟨List.mem_of_getElem? (i := 363) (by decide +kernel), rfl⟩⟩⟩
theorem flX7_198 : FLk RX7 198 RX6 TX6 6 tyX6 3 := ⟨by decide, inX6, tyX6_ok, nmX6, Or.inr ⟨"CashLedger", List.mem_filter.mpr ⟨List.mem_of_getElem? (i := 387) (by decide +kernel), rfl⟩⟩⟩
theorem flX7_202 : FLk RX7 202 RX6 TX6 6 tyX6 5 := ⟨by decide, inX6, tyX6_ok, nmX6, Or.inr ⟨"CashLedger", List.mem_filter.mpr ⟨List.mem_of_getElem? (i := 391) (by decide +kernel), rfl⟩⟩⟩
theorem flX7_205 : FLk RX7 205 RX2 TX2 3 tyX2 2 := ⟨by decide, inX2, tyX2_ok, nmX2, Or.inr ⟨"CashLedger", List.mem_filter.mpr ⟨List.mem_of_getElem? (i := 417) (by decide +kernel), rfl⟩⟩⟩
theorem flX7_225 : FLk RX7 225 RX4 TX4 9 tyX4 5 := ⟨by decide, inX4, tyX4_ok, nmX4, Or.inr ⟨"CashLedger", List.mem_filter.mpr ⟨List.mem_of_getElem? (i := 226) (by decide +kernel), rfl⟩⟩⟩
theorem flX7_235 : FLk RX7 235 RX1 TX1 8 tyX1 1 := ⟨by decide, inX1, tyX1_ok, nmX1, Or.inr ⟨"CashLedger", List.mem_filter.mpr ⟨List.mem_of_getElem? (i := 304) (by decide +kernel), rfl⟩⟩⟩
theorem flX7_238 : FLk RX7 238 RX1 TX1 8 tyX1 2 := ⟨by decide, inX1, tyX1_ok, nmX1, Or.inr ⟨"CashLedger", List.mem_filter.mpr ⟨List.mem_of_getElem? (i := 307) (by decide +kernel), rfl⟩⟩⟩
theorem flX7_241 : FLk RX7 241 RX1 TX1 8 tyX1 4 := ⟨by decide, inX1, tyX1_ok, nmX1, Or.inr ⟨"CashLedger", List.mem_filter.mpr ⟨List.mem_of_getElem? (i := 312) (by decide +kernel), rfl⟩⟩⟩
theorem flX7_244 : FLk RX7 244 RX1 TX1 8 tyX1 7 := ⟨by decide, inX1, tyX1_ok, nmX1, Or.inr ⟨"CashLedger", List.mem_filter.mpr ⟨List.mem_of_getElem? (i := 319) (by decide +kernel), rfl⟩⟩⟩
theorem flX7_269 : FLk RX7 269 RX3 TX3 4 tyX3 1 := ⟨by decide, inX3, tyX3_ok, nmX3, Or.inr ⟨"CashLedger", List.mem_filter.mpr ⟨List.mem_of_getElem? (i := 191) (by decide +kernel), rfl⟩⟩⟩
theorem flX7_281 : FLk RX7 281 RX0 TX0 7 tyX0 1 := ⟨by decide, inX0, tyX0_ok, nmX0, Or.inr ⟨"CashLedger", List.mem_filter.mpr ⟨List.mem_of_getElem? (i := 351) (by decide +kernel), rfl⟩⟩⟩
theorem flX7_284 : FLk RX7 284 RX0 TX0 7 tyX0 3 := ⟨by decide, inX0, tyX0_ok, nmX0, Or.inr ⟨"CashLedger", List.mem_filter.mpr ⟨List.mem_of_getElem? (i := 356) (by decide +kernel), rfl⟩⟩⟩
theorem flX7_287 : FLk RX7 287 RX0 TX0 7 tyX0 4 := ⟨by decide, inX0, tyX0_ok, nmX0, Or.inr ⟨"CashLedger", List.mem_filter.mpr ⟨List.mem_of_getElem? (i := 358) (by decide +kernel), rfl⟩⟩⟩
theorem flX7_315 : FLk RX7 315 RX4 TX4 9 tyX4 3 := ⟨by decide, inX4, tyX4_ok, nmX4, Or.inr ⟨"CashLedger", List.mem_filter.mpr ⟨List.mem_of_getElem? (i := 221) (by decide +kernel), rfl⟩⟩⟩
theorem flX8_9 : FLk RX8 9 RX8 TX8 16 tyX8 1 := ⟨by decide, inX8, tyX8_ok, nmX8, Or.inl (lw_good_in (n := 1308) (by decide +kernel) rfl)⟩
theorem flX8_13 : FLk RX8 13 RX8 TX8 16 tyX8 8 := ⟨by decide, inX8, tyX8_ok, nmX8, Or.inl (lw_good_in (n := 1315) (by decide +kernel) rfl)⟩
theorem flX8_16 : FLk RX8 16 RX8 TX8 16 tyX8 9 := ⟨by decide, inX8, tyX8_ok, nmX8, Or.inl (lw_good_in (n := 1316) (by decide +kernel) rfl)⟩
theorem flX8_19 : FLk RX8 19 RX8 TX8 16 tyX8 10 := ⟨by decide, inX8, tyX8_ok, nmX8, Or.inl (lw_good_in (n := 1317) (by decide +kernel) rfl)⟩
theorem flX8_22 : FLk RX8 22 RX8 TX8 16 tyX8 11 := ⟨by decide, inX8, tyX8_ok, nmX8, Or.inl (lw_good_in (n := 1318) (by decide +kernel) rfl)⟩
theorem flX8_25 : FLk RX8 25 RX8 TX8 16 tyX8 15 := ⟨by decide, inX8, tyX8_ok, nmX8, Or.inl (lw_good_in (n := 1322) (by decide +kernel) rfl)⟩
theorem flX8_41 : FLk RX8 41 RX8 TX8 16 tyX8 0 := ⟨by decide, inX8, tyX8_ok, nmX8, Or.inl (lw_good_in (n := 1307) (by decide +kernel) rfl)⟩
theorem flX8_49 : FLk RX8 49 RX8 TX8 16 tyX8 2 := ⟨by decide, inX8, tyX8_ok, nmX8, Or.inl (lw_good_in (n := 1309) (by decide +kernel) rfl)⟩
theorem flX8_60 : FLk RX8 60 RX8 TX8 16 tyX8 3 := ⟨by decide, inX8, tyX8_ok, nmX8, Or.inl (lw_good_in (n := 1310) (by decide +kernel) rfl)⟩
theorem flX8_67 : FLk RX8 67 RX8 TX8 16 tyX8 4 := ⟨by decide, inX8, tyX8_ok, nmX8, Or.inl (lw_good_in (n := 1311) (by decide +kernel) rfl)⟩
theorem flX8_77 : FLk RX8 77 RX8 TX8 16 tyX8 5 := ⟨by decide, inX8, tyX8_ok, nmX8, Or.inl (lw_good_in (n := 1312) (by decide +kernel) rfl)⟩
theorem flX8_80 : FLk RX8 80 RX8 TX8 16 tyX8 7 := ⟨by decide, inX8, tyX8_ok, nmX8, Or.inl (lw_good_in (n := 1314) (by decide +kernel) rfl)⟩
theorem flX8_96 : FLk RX8 96 RX8 TX8 16 tyX8 6 := ⟨by decide, inX8, tyX8_ok, nmX8, Or.inl (lw_good_in (n := 1313) (by decide +kernel) rfl)⟩
theorem flX8_120 : FLk RX8 120 RX8 TX8 16 tyX8 13 := ⟨by decide, inX8, tyX8_ok, nmX8, Or.inl (lw_good_in (n := 1320) (by decide +kernel) rfl)⟩
theorem flX8_167 : FLk RX8 167 RX8 TX8 16 tyX8 12 := ⟨by decide, inX8, tyX8_ok, nmX8, Or.inl (lw_good_in (n := 1319) (by decide +kernel) rfl)⟩
theorem flX8_170 : FLk RX8 170 RX8 TX8 16 tyX8 14 := ⟨by decide, inX8, tyX8_ok, nmX8, Or.inl (lw_good_in (n := 1321) (by decide +kernel) rfl)⟩
end
section
/-! 09: rules over numbers of a known range, pure contracts, and how they are called -/
def bI (q : Bool) : Int32 := if q then 1 else 0
theorem bI_0 {q : Bool} : bI q = 0 ↔ q = false := by cases q <;> simp [bI]
theorem bI_n0 {q : Bool} : ¬ bI q = 0 ↔ q = true := by cases q <;> simp [bI]
theorem bI_01 (q : Bool) : bI q = 0 ∨ bI q = 1 := by cases q <;> simp [bI]
theorem bI_nar (q : Bool) : narrow .boolean (.int (bI q)) = .int (bI q) := by cases q <;> rfl
theorem bR0 {q : Bool} (h : q = false) : some (Value.int (nI 0)) = some (Value.int (bI q)) := by subst h; rfl
theorem bR1 {q : Bool} (h : q = true) : some (Value.int (nI 1)) = some (Value.int (bI q)) := by subst h; rfl
theorem ints_c {x : Int32} (a : Int32) (h : x = a) : x = a := h
/-- a method that leaves the heap as it is, its answer r -/
def CR (l : Launch) (D : va_G) (cy : Nat → ClassId) (B : Nat) (od : Nat → Option Nat) (y : MethodName) (bytes : ByteArray) (maxL : Nat) (rt : Option FieldType) (rm : Room) (av : List Value) (A : AH) (r : Value) : Prop := ∀ z, CT l D cy B od y bytes maxL rt rm av A z (fun v A' z' => v = some r ∧ A' = A ∧ z' = z)
section CORE9
variable {p : Program} {l : Launch} {e : Env} {R : Room} {s : State} {m : MethodId} {args : Array Value} {below : List Frame} {meth : Method} {c : Code}
variable {D : va_G} {cy : Nat → ClassId} {B : Nat} {od : Nat → Option Nat} {cc : ByteArray} {nL : Nat} {tab : List PT} {own : String} {ret : Option FieldType}
variable {F : State → Prop} {cells slots : Nat} {A : AH} {z i pc len nx tg : Nat} {lv : List (Option Value)} {st : List Value}
theorem g_ic_eqN (X : Cx p s m args meth c D cy B od cc nL tab own ret) {a b : Nat} {d : Int} (hi : tab[i]? = some (pc, .if_icmp .eq d, 3, nx, tg)) (ha : a < 2 ^ 31) (hb : b < 2 ^ 31) (kt : a = b → G p l e R s m args below meth c D B od nL tab F cells slots A z tg lv st) (kf : ¬ a = b → G p l e R s m args below meth c D B od nL tab F cells slots A z nx lv st) : G p l e R s m args below meth c D B od nL tab F cells slots A z i lv (.int (nI b) :: .int (nI a) :: st) :=
  g_icmp_eq X hi (fun h => kt ((nI_eq ha hb).mp h)) (fun h => kf (fun q => h ((nI_eq ha hb).mpr q)))
theorem g_ic_neN (X : Cx p s m args meth c D cy B od cc nL tab own ret) {a b : Nat} {d : Int} (hi : tab[i]? = some (pc, .if_icmp .ne d, 3, nx, tg)) (ha : a < 2 ^ 31) (hb : b < 2 ^ 31) (kt : ¬ a = b → G p l e R s m args below meth c D B od nL tab F cells slots A z tg lv st) (kf : a = b → G p l e R s m args below meth c D B od nL tab F cells slots A z nx lv st) : G p l e R s m args below meth c D B od nL tab F cells slots A z i lv (.int (nI b) :: .int (nI a) :: st) :=
  g_icmp_ne X hi (fun h => kt (fun q => h ((nI_eq ha hb).mpr q))) (fun h => kf ((nI_eq ha hb).mp h))
theorem g_ic_ltN (X : Cx p s m args meth c D cy B od cc nL tab own ret) {a b : Nat} {d : Int} (hi : tab[i]? = some (pc, .if_icmp .lt d, 3, nx, tg)) (ha : a < 2 ^ 31) (hb : b < 2 ^ 31) (kt : a < b → G p l e R s m args below meth c D B od nL tab F cells slots A z tg lv st) (kf : b ≤ a → G p l e R s m args below meth c D B od nL tab F cells slots A z nx lv st) : G p l e R s m args below meth c D B od nL tab F cells slots A z i lv (.int (nI b) :: .int (nI a) :: st) :=
  g_icmp_lt X hi (fun h => kt ((nI_ltI ha hb).mp h)) (fun h => kf (Nat.not_lt.mp (fun q => h ((nI_ltI ha hb).mpr q))))
theorem g_ic_geN (X : Cx p s m args meth c D cy B od cc nL tab own ret) {a b : Nat} {d : Int} (hi : tab[i]? = some (pc, .if_icmp .ge d, 3, nx, tg)) (ha : a < 2 ^ 31) (hb : b < 2 ^ 31) (kt : b ≤ a → G p l e R s m args below meth c D B od nL tab F cells slots A z tg lv st) (kf : a < b → G p l e R s m args below meth c D B od nL tab F cells slots A z nx lv st) : G p l e R s m args below meth c D B od nL tab F cells slots A z i lv (.int (nI b) :: .int (nI a) :: st) :=
  g_icmp_ge X hi (fun h => kt ((nI_leI hb ha).mp h)) (fun h => kf (Nat.not_le.mp (fun q => h ((nI_leI hb ha).mpr q))))
theorem g_ic_gtN (X : Cx p s m args meth c D cy B od cc nL tab own ret) {a b : Nat} {d : Int} (hi : tab[i]? = some (pc, .if_icmp .gt d, 3, nx, tg)) (ha : a < 2 ^ 31) (hb : b < 2 ^ 31) (kt : b < a → G p l e R s m args below meth c D B od nL tab F cells slots A z tg lv st) (kf : a ≤ b → G p l e R s m args below meth c D B od nL tab F cells slots A z nx lv st) : G p l e R s m args below meth c D B od nL tab F cells slots A z i lv (.int (nI b) :: .int (nI a) :: st) :=
  g_icmp_gt X hi (fun h => kt ((nI_ltI hb ha).mp h)) (fun h => kf (Nat.not_lt.mp (fun q => h ((nI_ltI hb ha).mpr q))))
theorem g_ic_leN (X : Cx p s m args meth c D cy B od cc nL tab own ret) {a b : Nat} {d : Int} (hi : tab[i]? = some (pc, .if_icmp .le d, 3, nx, tg)) (ha : a < 2 ^ 31) (hb : b < 2 ^ 31) (kt : a ≤ b → G p l e R s m args below meth c D B od nL tab F cells slots A z tg lv st) (kf : b < a → G p l e R s m args below meth c D B od nL tab F cells slots A z nx lv st) : G p l e R s m args below meth c D B od nL tab F cells slots A z i lv (.int (nI b) :: .int (nI a) :: st) :=
  g_icmp_le X hi (fun h => kt ((nI_leI ha hb).mp h)) (fun h => kf (Nat.not_le.mp (fun q => h ((nI_leI ha hb).mpr q))))
theorem g_if_eqB (X : Cx p s m args meth c D cy B od cc nL tab own ret) {q : Bool} {d : Int} (hi : tab[i]? = some (pc, .ifCond .eq d, 3, nx, tg)) (kt : q = false → G p l e R s m args below meth c D B od nL tab F cells slots A z tg lv st) (kf : q = true → G p l e R s m args below meth c D B od nL tab F cells slots A z nx lv st) : G p l e R s m args below meth c D B od nL tab F cells slots A z i lv (.int (bI q) :: st) :=
  g_if_eq X hi (fun h => kt (bI_0.mp h)) (fun h => kf (bI_n0.mp h))
theorem g_if_neB (X : Cx p s m args meth c D cy B od cc nL tab own ret) {q : Bool} {d : Int} (hi : tab[i]? = some (pc, .ifCond .ne d, 3, nx, tg)) (kt : q = true → G p l e R s m args below meth c D B od nL tab F cells slots A z tg lv st) (kf : q = false → G p l e R s m args below meth c D B od nL tab F cells slots A z nx lv st) : G p l e R s m args below meth c D B od nL tab F cells slots A z i lv (.int (bI q) :: st) :=
  g_if_ne X hi (fun h => kt (bI_n0.mp h)) (fun h => kf (bI_0.mp h))
theorem lg_eq9 (x y : Int64) : (lg_cmp x y = 0) ↔ (x = y) := by
  rcases Int64.lt_or_le y x with h | h
  · have e1 : lg_cmp x y = 1 := by unfold lg_cmp; rw [if_pos h]
    have n1 : x ≠ y := fun q => absurd h (q ▸ (Int64.lt_irrefl : ¬ x < x))
    have n2 : ¬ x ≤ y := Int64.not_le.mpr h
    have n3 : ¬ x < y := fun q => n2 (Int64.le_of_lt q)
    have n4 : y ≤ x := Int64.le_of_lt h
    rw [e1]; simp [h, n1, n2, n3, n4]
  · by_cases e : x = y
    · subst e
      have e1 : lg_cmp x x = 0 := by unfold lg_cmp; rw [if_neg (Int64.lt_irrefl : ¬ x < x), if_pos rfl]
      rw [e1]; simp [Int64.lt_irrefl]
    · have n0 : ¬ y < x := Int64.not_lt.mpr h
      have e1 : lg_cmp x y = -1 := by unfold lg_cmp; rw [if_neg n0, if_neg e]
      have n1 : x < y := Int64.lt_of_le_of_ne h e
      have n4 : ¬ y ≤ x := Int64.not_le.mpr n1
      rw [e1]; simp [h, e, n1, n4, n0]
theorem g_l_eq (X : Cx p s m args meth c D cy B od cc nL tab own ret) {x y : Int64} {d : Int} {i2 pc2 nx2 tg2 : Nat} (hi : tab[i]? = some (pc, .lcmp, 1, i2, tg)) (hi2 : tab[i2]? = some (pc2, .ifCond .eq d, 3, nx2, tg2)) (kt : x = y → G p l e R s m args below meth c D B od nL tab F cells slots A z tg2 lv st) (kf : ¬ x = y → G p l e R s m args below meth c D B od nL tab F cells slots A z nx2 lv st) : G p l e R s m args below meth c D B od nL tab F cells slots A z i lv (.long y :: .long x :: st) :=
  g_lcmp X hi (g_if_eq X hi2 (fun h => kt ((lg_eq9 x y).mp h)) (fun h => kf (fun q => h ((lg_eq9 x y).mpr q))))
theorem lg_ne9 (x y : Int64) : (¬ lg_cmp x y = 0) ↔ (¬ x = y) := by
  rcases Int64.lt_or_le y x with h | h
  · have e1 : lg_cmp x y = 1 := by unfold lg_cmp; rw [if_pos h]
    have n1 : x ≠ y := fun q => absurd h (q ▸ (Int64.lt_irrefl : ¬ x < x))
    have n2 : ¬ x ≤ y := Int64.not_le.mpr h
    have n3 : ¬ x < y := fun q => n2 (Int64.le_of_lt q)
    have n4 : y ≤ x := Int64.le_of_lt h
    rw [e1]; simp [h, n1, n2, n3, n4]
  · by_cases e : x = y
    · subst e
      have e1 : lg_cmp x x = 0 := by unfold lg_cmp; rw [if_neg (Int64.lt_irrefl : ¬ x < x), if_pos rfl]
      rw [e1]; simp [Int64.lt_irrefl]
    · have n0 : ¬ y < x := Int64.not_lt.mpr h
      have e1 : lg_cmp x y = -1 := by unfold lg_cmp; rw [if_neg n0, if_neg e]
      have n1 : x < y := Int64.lt_of_le_of_ne h e
      have n4 : ¬ y ≤ x := Int64.not_le.mpr n1
      rw [e1]; simp [h, e, n1, n4, n0]
theorem g_l_ne (X : Cx p s m args meth c D cy B od cc nL tab own ret) {x y : Int64} {d : Int} {i2 pc2 nx2 tg2 : Nat} (hi : tab[i]? = some (pc, .lcmp, 1, i2, tg)) (hi2 : tab[i2]? = some (pc2, .ifCond .ne d, 3, nx2, tg2)) (kt : ¬ x = y → G p l e R s m args below meth c D B od nL tab F cells slots A z tg2 lv st) (kf : x = y → G p l e R s m args below meth c D B od nL tab F cells slots A z nx2 lv st) : G p l e R s m args below meth c D B od nL tab F cells slots A z i lv (.long y :: .long x :: st) :=
  g_lcmp X hi (g_if_ne X hi2 (fun h => kt ((lg_ne9 x y).mp h)) (fun h => kf (Classical.not_not.mp (fun q => (Classical.not_not.mpr h) ((lg_ne9 x y).mpr q)))))
theorem lg_lt9 (x y : Int64) : (lg_cmp x y < 0) ↔ (x < y) := by
  rcases Int64.lt_or_le y x with h | h
  · have e1 : lg_cmp x y = 1 := by unfold lg_cmp; rw [if_pos h]
    have n1 : x ≠ y := fun q => absurd h (q ▸ (Int64.lt_irrefl : ¬ x < x))
    have n2 : ¬ x ≤ y := Int64.not_le.mpr h
    have n3 : ¬ x < y := fun q => n2 (Int64.le_of_lt q)
    have n4 : y ≤ x := Int64.le_of_lt h
    rw [e1]; simp [h, n1, n2, n3, n4]
  · by_cases e : x = y
    · subst e
      have e1 : lg_cmp x x = 0 := by unfold lg_cmp; rw [if_neg (Int64.lt_irrefl : ¬ x < x), if_pos rfl]
      rw [e1]; simp [Int64.lt_irrefl]
    · have n0 : ¬ y < x := Int64.not_lt.mpr h
      have e1 : lg_cmp x y = -1 := by unfold lg_cmp; rw [if_neg n0, if_neg e]
      have n1 : x < y := Int64.lt_of_le_of_ne h e
      have n4 : ¬ y ≤ x := Int64.not_le.mpr n1
      rw [e1]; simp [h, e, n1, n4, n0]
theorem g_l_lt (X : Cx p s m args meth c D cy B od cc nL tab own ret) {x y : Int64} {d : Int} {i2 pc2 nx2 tg2 : Nat} (hi : tab[i]? = some (pc, .lcmp, 1, i2, tg)) (hi2 : tab[i2]? = some (pc2, .ifCond .lt d, 3, nx2, tg2)) (kt : x < y → G p l e R s m args below meth c D B od nL tab F cells slots A z tg2 lv st) (kf : ¬ x < y → G p l e R s m args below meth c D B od nL tab F cells slots A z nx2 lv st) : G p l e R s m args below meth c D B od nL tab F cells slots A z i lv (.long y :: .long x :: st) :=
  g_lcmp X hi (g_if_lt X hi2 (fun h => kt ((lg_lt9 x y).mp h)) (fun h => kf (fun q => h ((lg_lt9 x y).mpr q))))
theorem lg_ge9 (x y : Int64) : (0 ≤ lg_cmp x y) ↔ (y ≤ x) := by
  rcases Int64.lt_or_le y x with h | h
  · have e1 : lg_cmp x y = 1 := by unfold lg_cmp; rw [if_pos h]
    have n1 : x ≠ y := fun q => absurd h (q ▸ (Int64.lt_irrefl : ¬ x < x))
    have n2 : ¬ x ≤ y := Int64.not_le.mpr h
    have n3 : ¬ x < y := fun q => n2 (Int64.le_of_lt q)
    have n4 : y ≤ x := Int64.le_of_lt h
    rw [e1]; simp [h, n1, n2, n3, n4]
  · by_cases e : x = y
    · subst e
      have e1 : lg_cmp x x = 0 := by unfold lg_cmp; rw [if_neg (Int64.lt_irrefl : ¬ x < x), if_pos rfl]
      rw [e1]; simp [Int64.lt_irrefl]
    · have n0 : ¬ y < x := Int64.not_lt.mpr h
      have e1 : lg_cmp x y = -1 := by unfold lg_cmp; rw [if_neg n0, if_neg e]
      have n1 : x < y := Int64.lt_of_le_of_ne h e
      have n4 : ¬ y ≤ x := Int64.not_le.mpr n1
      rw [e1]; simp [h, e, n1, n4, n0]
theorem g_l_ge (X : Cx p s m args meth c D cy B od cc nL tab own ret) {x y : Int64} {d : Int} {i2 pc2 nx2 tg2 : Nat} (hi : tab[i]? = some (pc, .lcmp, 1, i2, tg)) (hi2 : tab[i2]? = some (pc2, .ifCond .ge d, 3, nx2, tg2)) (kt : y ≤ x → G p l e R s m args below meth c D B od nL tab F cells slots A z tg2 lv st) (kf : ¬ y ≤ x → G p l e R s m args below meth c D B od nL tab F cells slots A z nx2 lv st) : G p l e R s m args below meth c D B od nL tab F cells slots A z i lv (.long y :: .long x :: st) :=
  g_lcmp X hi (g_if_ge X hi2 (fun h => kt ((lg_ge9 x y).mp h)) (fun h => kf (fun q => h ((lg_ge9 x y).mpr q))))
theorem lg_gt9 (x y : Int64) : (0 < lg_cmp x y) ↔ (y < x) := by
  rcases Int64.lt_or_le y x with h | h
  · have e1 : lg_cmp x y = 1 := by unfold lg_cmp; rw [if_pos h]
    have n1 : x ≠ y := fun q => absurd h (q ▸ (Int64.lt_irrefl : ¬ x < x))
    have n2 : ¬ x ≤ y := Int64.not_le.mpr h
    have n3 : ¬ x < y := fun q => n2 (Int64.le_of_lt q)
    have n4 : y ≤ x := Int64.le_of_lt h
    rw [e1]; simp [h, n1, n2, n3, n4]
  · by_cases e : x = y
    · subst e
      have e1 : lg_cmp x x = 0 := by unfold lg_cmp; rw [if_neg (Int64.lt_irrefl : ¬ x < x), if_pos rfl]
      rw [e1]; simp [Int64.lt_irrefl]
    · have n0 : ¬ y < x := Int64.not_lt.mpr h
      have e1 : lg_cmp x y = -1 := by unfold lg_cmp; rw [if_neg n0, if_neg e]
      have n1 : x < y := Int64.lt_of_le_of_ne h e
      have n4 : ¬ y ≤ x := Int64.not_le.mpr n1
      rw [e1]; simp [h, e, n1, n4, n0]
theorem g_l_gt (X : Cx p s m args meth c D cy B od cc nL tab own ret) {x y : Int64} {d : Int} {i2 pc2 nx2 tg2 : Nat} (hi : tab[i]? = some (pc, .lcmp, 1, i2, tg)) (hi2 : tab[i2]? = some (pc2, .ifCond .gt d, 3, nx2, tg2)) (kt : y < x → G p l e R s m args below meth c D B od nL tab F cells slots A z tg2 lv st) (kf : ¬ y < x → G p l e R s m args below meth c D B od nL tab F cells slots A z nx2 lv st) : G p l e R s m args below meth c D B od nL tab F cells slots A z i lv (.long y :: .long x :: st) :=
  g_lcmp X hi (g_if_gt X hi2 (fun h => kt ((lg_gt9 x y).mp h)) (fun h => kf (fun q => h ((lg_gt9 x y).mpr q))))
theorem lg_le9 (x y : Int64) : (lg_cmp x y ≤ 0) ↔ (x ≤ y) := by
  rcases Int64.lt_or_le y x with h | h
  · have e1 : lg_cmp x y = 1 := by unfold lg_cmp; rw [if_pos h]
    have n1 : x ≠ y := fun q => absurd h (q ▸ (Int64.lt_irrefl : ¬ x < x))
    have n2 : ¬ x ≤ y := Int64.not_le.mpr h
    have n3 : ¬ x < y := fun q => n2 (Int64.le_of_lt q)
    have n4 : y ≤ x := Int64.le_of_lt h
    rw [e1]; simp [h, n1, n2, n3, n4]
  · by_cases e : x = y
    · subst e
      have e1 : lg_cmp x x = 0 := by unfold lg_cmp; rw [if_neg (Int64.lt_irrefl : ¬ x < x), if_pos rfl]
      rw [e1]; simp [Int64.lt_irrefl]
    · have n0 : ¬ y < x := Int64.not_lt.mpr h
      have e1 : lg_cmp x y = -1 := by unfold lg_cmp; rw [if_neg n0, if_neg e]
      have n1 : x < y := Int64.lt_of_le_of_ne h e
      have n4 : ¬ y ≤ x := Int64.not_le.mpr n1
      rw [e1]; simp [h, e, n1, n4, n0]
theorem g_l_le (X : Cx p s m args meth c D cy B od cc nL tab own ret) {x y : Int64} {d : Int} {i2 pc2 nx2 tg2 : Nat} (hi : tab[i]? = some (pc, .lcmp, 1, i2, tg)) (hi2 : tab[i2]? = some (pc2, .ifCond .le d, 3, nx2, tg2)) (kt : x ≤ y → G p l e R s m args below meth c D B od nL tab F cells slots A z tg2 lv st) (kf : ¬ x ≤ y → G p l e R s m args below meth c D B od nL tab F cells slots A z nx2 lv st) : G p l e R s m args below meth c D B od nL tab F cells slots A z i lv (.long y :: .long x :: st) :=
  g_lcmp X hi (g_if_le X hi2 (fun h => kt ((lg_le9 x y).mp h)) (fun h => kf (fun q => h ((lg_le9 x y).mpr q))))
theorem g_iinc1 (X : Cx p s m args meth c D cy B od cc nL tab own ret) {k j : Nat} (hi : tab[i]? = some (pc, .iinc k 1, 3, nx, tg)) (hk : lv[k]? = some (some (.int (nI j)))) (hn : k < nL) (kk : G p l e R s m args below meth c D B od nL tab F cells slots A z nx (lset1 lv k (.int (nI (j + 1)))) st) : G p l e R s m args below meth c D B od nL tab F cells slots A z i lv st := by
  refine g_iinc X hi hk hn ?_
  rw [show nI j + Int32.ofInt 1 = nI (j + 1) from nI_1 j]
  exact kk
theorem g_ialdN (X : Cx p s m args meth c D cy B od cc nL tab own ret) (hi : tab[i]? = some (pc, .iaload, 1, nx, tg)) {a n j : Nat} {f : Nat → Int32} (hA : A a = some (.inl (cy 0, n, .inl f))) (hj : j < n) (hn : n < 2 ^ 31) (kk : G p l e R s m args below meth c D B od nL tab F cells slots A z nx lv (.int (f j) :: st)) : G p l e R s m args below meth c D B od nL tab F cells slots A z i lv (.int (nI j) :: .ref a :: st) := by
  refine g_iald X hi hA (vp_in_nI hj hn) ?_
  rw [nI_clamp (Nat.lt_trans hj hn)]
  exact kk
theorem g_zaldN (X : Cx p s m args meth c D cy B od cc nL tab own ret) (hi : tab[i]? = some (pc, .baload, 1, nx, tg)) {a n j : Nat} {f : Nat → Int32} (hA : A a = some (.inl (cy 2, n, .inl f))) (hj : j < n) (hn : n < 2 ^ 31) (kk : G p l e R s m args below meth c D B od nL tab F cells slots A z nx lv (.int (f j) :: st)) : G p l e R s m args below meth c D B od nL tab F cells slots A z i lv (.int (nI j) :: .ref a :: st) := by
  refine g_zald X hi hA (vp_in_nI hj hn) ?_
  rw [nI_clamp (Nat.lt_trans hj hn)]
  exact kk
theorem g_laldN (X : Cx p s m args meth c D cy B od cc nL tab own ret) (hi : tab[i]? = some (pc, .laload, 1, nx, tg)) {a n j : Nat} {f : Nat → Int64} (hA : A a = some (.inl (cy 1, n, .inr (.inl f)))) (hj : j < n) (hn : n < 2 ^ 31) (kk : G p l e R s m args below meth c D B od nL tab F cells slots A z nx lv (.long (f j) :: st)) : G p l e R s m args below meth c D B od nL tab F cells slots A z i lv (.int (nI j) :: .ref a :: st) := by
  refine g_lald X hi hA (vp_in_nI hj hn) ?_
  rw [nI_clamp (Nat.lt_trans hj hn)]
  exact kk
theorem g_iastN (X : Cx p s m args meth c D cy B od cc nL tab own ret) (hi : tab[i]? = some (pc, .iastore, 1, nx, tg)) {a n j : Nat} {f : Nat → Int32} {v : Int32} (hA : A a = some (.inl (cy 0, n, .inl f))) (hj : j < n) (hn : n < 2 ^ 31) (kk : G p l e R s m args below meth c D B od nL tab F cells slots (upA A a (.inl (cy 0, n, .inl (upd f j v)))) z nx lv st) : G p l e R s m args below meth c D B od nL tab F cells slots A z i lv (.int v :: .int (nI j) :: .ref a :: st) := by
  refine g_iast X hi hA (vp_in_nI hj hn) ?_
  rw [nI_clamp (Nat.lt_trans hj hn)]
  exact kk
theorem g_zastN (X : Cx p s m args meth c D cy B od cc nL tab own ret) (hi : tab[i]? = some (pc, .bastore, 1, nx, tg)) {a n j : Nat} {f : Nat → Int32} {v : Int32} (hA : A a = some (.inl (cy 2, n, .inl f))) (hj : j < n) (hn : n < 2 ^ 31) (hv : v = 0 ∨ v = 1) (kk : G p l e R s m args below meth c D B od nL tab F cells slots (upA A a (.inl (cy 2, n, .inl (upd f j v)))) z nx lv st) : G p l e R s m args below meth c D B od nL tab F cells slots A z i lv (.int v :: .int (nI j) :: .ref a :: st) := by
  refine g_zast X hi hA (vp_in_nI hj hn) hv ?_
  rw [nI_clamp (Nat.lt_trans hj hn)]
  exact kk
theorem g_lastN (X : Cx p s m args meth c D cy B od cc nL tab own ret) (hi : tab[i]? = some (pc, .lastore, 1, nx, tg)) {a n j : Nat} {f : Nat → Int64} {v : Int64} (hA : A a = some (.inl (cy 1, n, .inr (.inl f)))) (hj : j < n) (hn : n < 2 ^ 31) (kk : G p l e R s m args below meth c D B od nL tab F cells slots (upA A a (.inl (cy 1, n, .inr (.inl (vp_updL f j v))))) z nx lv st) : G p l e R s m args below meth c D B od nL tab F cells slots A z i lv (.long v :: .int (nI j) :: .ref a :: st) := by
  refine g_last X hi hA (vp_in_nI hj hn) ?_
  rw [nI_clamp (Nat.lt_trans hj hn)]
  exact kk
section PCALLS
variable {y : MethodName} {bytes : ByteArray} {maxL n ix : Nat} {rt : Option FieldType} {rm : Room} {As rest : List Value} {b : Nat} {r : Value}
theorem g_rV (X : Cx p s m args meth c D cy B od cc nL tab own ret) (hi : tab[i]? = some (pc, .invokevirtual ix, 3, nx, tg)) (hL : LkC y bytes maxL rt n) (hM : LkM own ix y) (hSe : LkSel y) (hC : CR l D cy B od y bytes maxL rt rm (.ref b :: As) A r) {ci : Nat} {fs : List Value} {T : u_T} {N : Nat} (hA : A b = some (.inr (ci, fs))) (hc : vwCl[ci]? = some (y.cls, T, N)) (hst : st = As.reverse ++ .ref b :: rest) (hn : As.length = n) (hw : (rest.map fun v => v.category).sum ≤ 8) (hRm : (rm.frames + 1 ≤ R.frames ∧ 8 + (maxL + 11) + rm.locals ≤ R.locals) ∧ rm.cells = 0 ∧ rm.slots = 0) (hf : cells ≤ R.cells ∧ slots ≤ R.slots)
    (kk : G p l e R s m args below meth c D B od nL tab F cells slots A z nx lv (r :: rest)) : G p l e R s m args below meth c D B od nL tab F cells slots A z i lv st := by
  refine g_callV X hi hL hM hSe (hC z) hA hc hst hn hw hRm.1 (by rw [hRm.2.1, hRm.2.2]; exact hf) (fun v A' z' h => ?_)
  obtain ⟨rfl, rfl, rfl⟩ := h
  rw [hRm.2.1, hRm.2.2]
  exact kk
theorem g_rVN (X : Cx p s m args meth c D cy B od cc nL tab own ret) (hi : tab[i]? = some (pc, .invokevirtual ix, 3, nx, tg)) (hL : LkC y bytes maxL rt n) (hM : LkN own ix y) (hSe : LkSel y) (hC : CR l D cy B od y bytes maxL rt rm (.ref b :: As) A r) {ci : Nat} {fs : List Value} {T : u_T} {N : Nat} (hA : A b = some (.inr (ci, fs))) (hc : vwCl[ci]? = some (y.cls, T, N)) (hst : st = As.reverse ++ .ref b :: rest) (hn : As.length = n) (hw : (rest.map fun v => v.category).sum ≤ 8) (hRm : (rm.frames + 1 ≤ R.frames ∧ 8 + (maxL + 11) + rm.locals ≤ R.locals) ∧ rm.cells = 0 ∧ rm.slots = 0) (hf : cells ≤ R.cells ∧ slots ≤ R.slots)
    (kk : G p l e R s m args below meth c D B od nL tab F cells slots A z nx lv (r :: rest)) : G p l e R s m args below meth c D B od nL tab F cells slots A z i lv st := by
  refine g_callVN X hi hL hM hSe (hC z) hA hc hst hn hw hRm.1 (by rw [hRm.2.1, hRm.2.2]; exact hf) (fun v A' z' h => ?_)
  obtain ⟨rfl, rfl, rfl⟩ := h
  rw [hRm.2.1, hRm.2.2]
  exact kk
theorem g_rS (X : Cx p s m args meth c D cy B od cc nL tab own ret) (hi : tab[i]? = some (pc, .invokestatic ix, 3, nx, tg)) (hL : LkC y bytes maxL rt n) (hM : LkM own ix y) (hSt : Cond.static y ∈ lw_good) (hC : CR l D cy B od y bytes maxL rt rm As A r) (hst : st = As.reverse ++ rest) (hn : As.length = n) (hw : (rest.map fun v => v.category).sum ≤ 8) (hRm : (rm.frames + 1 ≤ R.frames ∧ 8 + (maxL + 11) + rm.locals ≤ R.locals) ∧ rm.cells = 0 ∧ rm.slots = 0) (hf : cells ≤ R.cells ∧ slots ≤ R.slots)
    (kk : G p l e R s m args below meth c D B od nL tab F cells slots A z nx lv (r :: rest)) : G p l e R s m args below meth c D B od nL tab F cells slots A z i lv st := by
  refine g_callS X hi hL hM hSt (hC z) hst hn hw hRm.1 (by rw [hRm.2.1, hRm.2.2]; exact hf) (fun v A' z' h => ?_)
  obtain ⟨rfl, rfl, rfl⟩ := h
  rw [hRm.2.1, hRm.2.2]
  exact kk
theorem g_rSN (X : Cx p s m args meth c D cy B od cc nL tab own ret) (hi : tab[i]? = some (pc, .invokestatic ix, 3, nx, tg)) (hL : LkC y bytes maxL rt n) (hM : LkN own ix y) (hSt : Cond.static y ∈ lw_good) (hC : CR l D cy B od y bytes maxL rt rm As A r) (hst : st = As.reverse ++ rest) (hn : As.length = n) (hw : (rest.map fun v => v.category).sum ≤ 8) (hRm : (rm.frames + 1 ≤ R.frames ∧ 8 + (maxL + 11) + rm.locals ≤ R.locals) ∧ rm.cells = 0 ∧ rm.slots = 0) (hf : cells ≤ R.cells ∧ slots ≤ R.slots)
    (kk : G p l e R s m args below meth c D B od nL tab F cells slots A z nx lv (r :: rest)) : G p l e R s m args below meth c D B od nL tab F cells slots A z i lv st := by
  refine g_callSN X hi hL hM hSt (hC z) hst hn hw hRm.1 (by rw [hRm.2.1, hRm.2.2]; exact hf) (fun v A' z' h => ?_)
  obtain ⟨rfl, rfl, rfl⟩ := h
  rw [hRm.2.1, hRm.2.2]
  exact kk
-- the machine's own max and min
theorem g_math (X : Cx p s m args meth c D cy B od cc nL tab own ret) {y : MethodName} (hi : tab[i]? = some (pc, .invokestatic ix, 3, nx, tg)) (hst : (st.map fun v => v.category).sum ≤ 8) (hR : 1 ≤ R.frames ∧ 21 ≤ R.locals) (hf : cells ≤ R.cells ∧ slots ≤ R.slots) {vs : List Value} {v : Value}
    (row : ∀ (H : Heap) (locs : List Loc) (ls : Array Slot), c.maxLocals = ls.size → W p l e R s m args below meth c H locs cells slots F (F0 m (pc + 3) ls (trV B od v :: st.map (trV B od))) → W p l e R s m args below meth c H locs cells slots F (F0 m pc ls ((vs ++ st).map (trV B od))))
    (kk : G p l e R s m args below meth c D B od nL tab F cells slots A z nx lv (v :: st)) : G p l e R s m args below meth c D B od nL tab F cells slots A z i lv (vs ++ st) := by
  intro q hq H locs ls hR hS hl
  cases Option.some.inj (hi.symm.trans hq)
  obtain ⟨q2, hq2, e2⟩ := X.2.2.2.1.fall hi rfl
  have K := kk q2 hq2 H locs ls hR hS hl
  rw [e2] at K
  exact row H locs ls (X.1.2.2.1.trans hl.1.symm) K

end PCALLS
end CORE9
end
section
/-! 10: the entries -/
/-- entries: how many, and seven rows: kind, category, amount, invoiced, paid, cancelled, late -/
abbrev EV : Type := Nat × (Nat → Nat → Int32)
def EntA (cy : Nat → ClassId) (A : AH) (b : Nat) (E : EV) : Prop := A b = some (.inr (1, [.int (nI E.1), .ref (b + 1), .ref (b + 2), .ref (b + 3), .ref (b + 4), .ref (b + 5), .ref (b + 6), .ref (b + 7)])) ∧ A (b + 1) = some (.inl (cy 0, 60, .inl (E.2 0))) ∧ A (b + 2) = some (.inl (cy 0, 60, .inl (E.2 1))) ∧ A (b + 3) = some (.inl (cy 0, 60, .inl (E.2 2))) ∧ A (b + 4) = some (.inl (cy 0, 60, .inl (E.2 3))) ∧ A (b + 5) = some (.inl (cy 0, 60, .inl (E.2 4))) ∧ A (b + 6) = some (.inl (cy 2, 60, .inl (E.2 5))) ∧ A (b + 7) = some (.inl (cy 2, 60, .inl (E.2 6)))
def eOpen (E : EV) (i : Nat) : Bool := E.2 4 i == -1 && E.2 5 i == 0
def eCnt (E : EV) (i : Nat) : Bool := E.2 4 i != -1 && E.2 5 i == 0
def eCntIn (E : EV) (f t : Int32) (i : Nat) : Bool := eCnt E i && decide (f ≤ E.2 4 i) && decide (E.2 4 i ≤ t)
def cntN (q : Nat → Bool) : Nat → Nat
  | 0 => 0
  | n + 1 => if q n then cntN q n + 1 else cntN q n
theorem cntN_le (q : Nat → Bool) : ∀ n, cntN q n ≤ n
  | 0 => Nat.le_refl _
  | n + 1 => by have := cntN_le q n; unfold cntN; split <;> omega
def sumN (q : Nat → Bool) (f : Nat → Int64) : Nat → Int64
  | 0 => 0
  | n + 1 => if q n then sumN q f n + f n else sumN q f n
/-- the open entry invoiced first, of the first n; none is n9 -/
def oldN (E : EV) : Nat → Option Nat
  | 0 => none
  | n + 1 => if eOpen E n then (match oldN E n with | none => some n | some j => if E.2 3 n < E.2 3 j then some n else some j) else oldN E n
theorem oldN_lt (E : EV) : ∀ n j, oldN E n = some j → j < n
  | 0, j, h => by cases h
  | n + 1, j, h => by
    unfold oldN at h
    split at h
    · split at h
      · cases h; omega
      · rename_i k hk
        have := oldN_lt E n k hk
        split at h <;> cases h <;> omega
    · have := oldN_lt E n j h; omega
def oI (o : Option Nat) : Int32 := match o with | none => -1 | some j => nI j
theorem nI_nm1 {n : Nat} (h : n < 2 ^ 31) : ¬ nI n = -1 := by
  intro q
  have h2 := congrArg Int32.toInt q
  rw [nI_toInt h] at h2
  have : (-1 : Int32).toInt = -1 := by decide
  omega

set_option maxRecDepth 100000 in
set_option maxHeartbeats 400000 in
theorem cr_X1_isOpen (l : Launch) (D : va_G) (cy : Nat → ClassId) (B : Nat) (od : Nat → Option Nat) {A : AH} {b : Nat} {E : EV} (hE9 : EntA cy A b E) {i : Nat} (hi : i < 60) : CR l D cy B od yX1_isOpen cX1_isOpen 2 (some .boolean) rmX1_isOpen [.ref b, .int (nI i)] A (.int (bI (eOpen E i))) := by
  intro z
  refine CT.of (by decide) tX1_isOpen okX1_isOpen (Nat.le_of_ble_eq_true rfl) (q0 := tX1_isOpen[0]) rfl rfl ?_
  intro p e s m args below meth c X _
  obtain ⟨hE, hE0, hE1, hE2, hE3, hE4, hE5, hE6⟩ := hE9
  refine g_aload_n X rfl rfl ?_
  refine g_get X rfl flX1_24 (ci := 1) rfl hE rfl ?_
  refine g_iload_n X rfl rfl ?_
  refine g_ialdN X rfl hE4 (by omega) (by decide) ?_
  refine g_iconst X rfl (v := (-1)) (by decide) ?_
  first | refine g_ic_neN X rfl (by omega) (by omega) (fun h1 => ?_) (fun h1 => ?_) | refine g_icmp_ne X rfl (fun h1 => ?_) (fun h1 => ?_)
  · refine g_iconst X rfl (v := nI 0) (by decide) ?_
    refine g_iret X rfl rfl (by first | rfl | exact bI_nar _ | decide) (Nat.le_refl _) (Nat.le_refl _) ⟨?_, rfl, rfl⟩
    first | exact bR0 (by simp_all [eOpen, ← Int32.not_le, ← Int64.not_le]) | exact bR1 (by simp_all [eOpen, ← Int32.not_le, ← Int64.not_le])
  · refine g_aload_n X rfl rfl ?_
    refine g_get X rfl flX1_27 (ci := 1) rfl hE rfl ?_
    refine g_iload_n X rfl rfl ?_
    refine g_zaldN X rfl hE5 (by omega) (by decide) ?_
    first | refine g_if_neB X rfl (fun h2 => ?_) (fun h2 => ?_) | refine g_if_ne X rfl (fun h2 => ?_) (fun h2 => ?_)
    · refine g_iconst X rfl (v := nI 0) (by decide) ?_
      refine g_iret X rfl rfl (by first | rfl | exact bI_nar _ | decide) (Nat.le_refl _) (Nat.le_refl _) ⟨?_, rfl, rfl⟩
      first | exact bR0 (by simp_all [eOpen, ← Int32.not_le, ← Int64.not_le]) | exact bR1 (by simp_all [eOpen, ← Int32.not_le, ← Int64.not_le])
    · refine g_iconst X rfl (v := nI 1) (by decide) ?_
      refine g_goto X rfl ?_
      refine g_iret X rfl rfl (by first | rfl | exact bI_nar _ | decide) (Nat.le_refl _) (Nat.le_refl _) ⟨?_, rfl, rfl⟩
      first | exact bR0 (by simp_all [eOpen, ← Int32.not_le, ← Int64.not_le]) | exact bR1 (by simp_all [eOpen, ← Int32.not_le, ← Int64.not_le])
set_option maxRecDepth 100000 in
set_option maxHeartbeats 400000 in
theorem cr_X1_counts (l : Launch) (D : va_G) (cy : Nat → ClassId) (B : Nat) (od : Nat → Option Nat) {A : AH} {b : Nat} {E : EV} (hE9 : EntA cy A b E) {i : Nat} (hi : i < 60) : CR l D cy B od yX1_counts cX1_counts 2 (some .boolean) rmX1_counts [.ref b, .int (nI i)] A (.int (bI (eCnt E i))) := by
  intro z
  refine CT.of (by decide) tX1_counts okX1_counts (Nat.le_of_ble_eq_true rfl) (q0 := tX1_counts[0]) rfl rfl ?_
  intro p e s m args below meth c X _
  obtain ⟨hE, hE0, hE1, hE2, hE3, hE4, hE5, hE6⟩ := hE9
  refine g_aload_n X rfl rfl ?_
  refine g_get X rfl flX1_24 (ci := 1) rfl hE rfl ?_
  refine g_iload_n X rfl rfl ?_
  refine g_ialdN X rfl hE4 (by omega) (by decide) ?_
  refine g_iconst X rfl (v := (-1)) (by decide) ?_
  first | refine g_ic_eqN X rfl (by omega) (by omega) (fun h1 => ?_) (fun h1 => ?_) | refine g_icmp_eq X rfl (fun h1 => ?_) (fun h1 => ?_)
  · refine g_iconst X rfl (v := nI 0) (by decide) ?_
    refine g_iret X rfl rfl (by first | rfl | exact bI_nar _ | decide) (Nat.le_refl _) (Nat.le_refl _) ⟨?_, rfl, rfl⟩
    first | exact bR0 (by simp_all [eCnt, ← Int32.not_le, ← Int64.not_le]) | exact bR1 (by simp_all [eCnt, ← Int32.not_le, ← Int64.not_le])
  · refine g_aload_n X rfl rfl ?_
    refine g_get X rfl flX1_27 (ci := 1) rfl hE rfl ?_
    refine g_iload_n X rfl rfl ?_
    refine g_zaldN X rfl hE5 (by omega) (by decide) ?_
    first | refine g_if_neB X rfl (fun h2 => ?_) (fun h2 => ?_) | refine g_if_ne X rfl (fun h2 => ?_) (fun h2 => ?_)
    · refine g_iconst X rfl (v := nI 0) (by decide) ?_
      refine g_iret X rfl rfl (by first | rfl | exact bI_nar _ | decide) (Nat.le_refl _) (Nat.le_refl _) ⟨?_, rfl, rfl⟩
      first | exact bR0 (by simp_all [eCnt, ← Int32.not_le, ← Int64.not_le]) | exact bR1 (by simp_all [eCnt, ← Int32.not_le, ← Int64.not_le])
    · refine g_iconst X rfl (v := nI 1) (by decide) ?_
      refine g_goto X rfl ?_
      refine g_iret X rfl rfl (by first | rfl | exact bI_nar _ | decide) (Nat.le_refl _) (Nat.le_refl _) ⟨?_, rfl, rfl⟩
      first | exact bR0 (by simp_all [eCnt, ← Int32.not_le, ← Int64.not_le]) | exact bR1 (by simp_all [eCnt, ← Int32.not_le, ← Int64.not_le])
set_option maxRecDepth 100000 in
set_option maxHeartbeats 400000 in
theorem cr_X1_countsWithin (l : Launch) (D : va_G) (cy : Nat → ClassId) (B : Nat) (od : Nat → Option Nat) {A : AH} {b : Nat} {E : EV} (hE9 : EntA cy A b E) {i : Nat} (hi : i < 60) {f t : Int32} : CR l D cy B od yX1_countsWithin cX1_countsWithin 4 (some .boolean) rmX1_countsWithin [.ref b, .int (nI i), .int f, .int t] A (.int (bI (eCntIn E f t i))) := by
  intro z
  refine CT.of (by decide) tX1_countsWithin okX1_countsWithin (Nat.le_of_ble_eq_true rfl) (q0 := tX1_countsWithin[0]) rfl rfl ?_
  intro p e s m args below meth c X _
  obtain ⟨hE, hE0, hE1, hE2, hE3, hE4, hE5, hE6⟩ := hE9
  refine g_aload_n X rfl rfl ?_
  refine g_iload_n X rfl rfl ?_
  refine g_rV X rfl lcX1_counts lmX1_38 lsX1_counts (cr_X1_counts l D cy B od (E := E) (i := i) ⟨hE, hE0, hE1, hE2, hE3, hE4, hE5, hE6⟩ (by omega)) (ci := 1) hE rfl rfl rfl (by decide) ⟨⟨by decide, by decide⟩, rfl, rfl⟩ ⟨Nat.zero_le _, Nat.zero_le _⟩ ?_
  first | refine g_if_eqB X rfl (fun h1 => ?_) (fun h1 => ?_) | refine g_if_eq X rfl (fun h1 => ?_) (fun h1 => ?_)
  · refine g_iconst X rfl (v := nI 0) (by decide) ?_
    refine g_iret X rfl rfl (by first | rfl | exact bI_nar _ | decide) (Nat.le_refl _) (Nat.le_refl _) ⟨?_, rfl, rfl⟩
    first | exact bR0 (by simp_all [eCntIn, ← Int32.not_le, ← Int64.not_le]) | exact bR1 (by simp_all [eCntIn, ← Int32.not_le, ← Int64.not_le])
  · refine g_aload_n X rfl rfl ?_
    refine g_get X rfl flX1_24 (ci := 1) rfl hE rfl ?_
    refine g_iload_n X rfl rfl ?_
    refine g_ialdN X rfl hE4 (by omega) (by decide) ?_
    refine g_iload_n X rfl rfl ?_
    refine g_icmp_lt X rfl (fun h2 => ?_) (fun h2 => ?_)
    · refine g_iconst X rfl (v := nI 0) (by decide) ?_
      refine g_iret X rfl rfl (by first | rfl | exact bI_nar _ | decide) (Nat.le_refl _) (Nat.le_refl _) ⟨?_, rfl, rfl⟩
      first | exact bR0 (by simp_all [eCntIn, ← Int32.not_le, ← Int64.not_le]) | exact bR1 (by simp_all [eCntIn, ← Int32.not_le, ← Int64.not_le])
    · refine g_aload_n X rfl rfl ?_
      refine g_get X rfl flX1_24 (ci := 1) rfl hE rfl ?_
      refine g_iload_n X rfl rfl ?_
      refine g_ialdN X rfl hE4 (by omega) (by decide) ?_
      refine g_iload_n X rfl rfl ?_
      refine g_icmp_gt X rfl (fun h3 => ?_) (fun h3 => ?_)
      · refine g_iconst X rfl (v := nI 0) (by decide) ?_
        refine g_iret X rfl rfl (by first | rfl | exact bI_nar _ | decide) (Nat.le_refl _) (Nat.le_refl _) ⟨?_, rfl, rfl⟩
        first | exact bR0 (by simp_all [eCntIn, ← Int32.not_le, ← Int64.not_le]) | exact bR1 (by simp_all [eCntIn, ← Int32.not_le, ← Int64.not_le])
      · refine g_iconst X rfl (v := nI 1) (by decide) ?_
        refine g_goto X rfl ?_
        refine g_iret X rfl rfl (by first | rfl | exact bI_nar _ | decide) (Nat.le_refl _) (Nat.le_refl _) ⟨?_, rfl, rfl⟩
        first | exact bR0 (by simp_all [eCntIn, ← Int32.not_le, ← Int64.not_le]) | exact bR1 (by simp_all [eCntIn, ← Int32.not_le, ← Int64.not_le])
set_option maxRecDepth 100000 in
set_option maxHeartbeats 400000 in
theorem lp_X1_openOnes (l : Launch) (D : va_G) (cy : Nat → ClassId) (B : Nat) (od : Nat → Option Nat) {p : Program} {e : Env} {s : State} {m : MethodId} {args : Array Value} {below : List Frame} {meth : Method} {c : Code} {A : AH} {z : Nat} {b : Nat} {E : EV} (hE9 : EntA cy A b E) (hn : E.1 ≤ 60) (X : Cx p s m args meth c D cy B od cX1_openOnes 3 tX1_openOnes RX1 (some .int)) : ∀ (k i : Nat), 0 ≤ i → i ≤ E.1 → E.1 - i < k → G p l e rmX1_openOnes s m args below meth c D B od 3 tX1_openOnes (FinQ false D B od (fun v A' z' => v = some (.int (nI (cntN (eOpen E) E.1))) ∧ A' = A ∧ z' = z) (fun _ _ => True) args s below 0 0) 0 0 A z 4 [some (.ref b), some (.int (nI (cntN (eOpen E) i))), some (.int (nI i))] [] := by
  obtain ⟨hE, hE0, hE1, hE2, hE3, hE4, hE5, hE6⟩ := hE9
  intro k
  induction k with
  | zero => intro i _ _ h; omega
  | succ k ih =>
    intro i hlo hi hk
    have hc9 := cntN_le (eOpen E) i
    refine g_iload_n X rfl rfl ?_
    refine g_aload_n X rfl rfl ?_
    refine g_get X rfl flX1_34 (ci := 1) rfl hE rfl ?_
    first | refine g_ic_geN X rfl (by omega) (by omega) (fun h1 => ?_) (fun h1 => ?_) | refine g_icmp_ge X rfl (fun h1 => ?_) (fun h1 => ?_)
    · refine g_iload_n X rfl rfl ?_
      refine g_iret X rfl rfl (by first | rfl | exact bI_nar _ | decide) (Nat.le_refl _) (Nat.le_refl _) ⟨?_, rfl, rfl⟩
      rw [show i = E.1 by omega]
    · refine g_aload_n X rfl rfl ?_
      refine g_iload_n X rfl rfl ?_
      refine g_rV X rfl lcX1_isOpen lmX1_42 lsX1_isOpen (cr_X1_isOpen l D cy B od (E := E) (i := i) ⟨hE, hE0, hE1, hE2, hE3, hE4, hE5, hE6⟩ (by omega)) (ci := 1) hE rfl rfl rfl (by decide) ⟨⟨by decide, by decide⟩, rfl, rfl⟩ ⟨Nat.zero_le _, Nat.zero_le _⟩ ?_
      first | refine g_if_eqB X rfl (fun h2 => ?_) (fun h2 => ?_) | refine g_if_eq X rfl (fun h2 => ?_) (fun h2 => ?_)
      · refine g_iinc1 X rfl rfl (by decide) ?_
        refine g_goto X rfl ?_
        have K9 := ih (i + 1) (by omega) (by omega) (by omega)
        first | (rw [show cntN (eOpen E) (i + 1) = cntN (eOpen E) i + 1 by rw [cntN, if_pos (by simp_all)]] at K9; exact K9) | (rw [show cntN (eOpen E) (i + 1) = cntN (eOpen E) i by rw [cntN, if_neg (by simp_all)]] at K9; exact K9)
      · refine g_iinc1 X rfl rfl (by decide) ?_
        refine g_iinc1 X rfl rfl (by decide) ?_
        refine g_goto X rfl ?_
        have K9 := ih (i + 1) (by omega) (by omega) (by omega)
        first | (rw [show cntN (eOpen E) (i + 1) = cntN (eOpen E) i + 1 by rw [cntN, if_pos (by simp_all)]] at K9; exact K9) | (rw [show cntN (eOpen E) (i + 1) = cntN (eOpen E) i by rw [cntN, if_neg (by simp_all)]] at K9; exact K9)
set_option maxRecDepth 100000 in
set_option maxHeartbeats 400000 in
theorem cr_X1_openOnes (l : Launch) (D : va_G) (cy : Nat → ClassId) (B : Nat) (od : Nat → Option Nat) {A : AH} {b : Nat} {E : EV} (hE9 : EntA cy A b E) (hn : E.1 ≤ 60) : CR l D cy B od yX1_openOnes cX1_openOnes 3 (some .int) rmX1_openOnes [.ref b] A (.int (nI (cntN (eOpen E) E.1))) := by
  intro z
  refine CT.of (by decide) tX1_openOnes okX1_openOnes (Nat.le_of_ble_eq_true rfl) (q0 := tX1_openOnes[0]) rfl rfl ?_
  intro p e s m args below meth c X _
  refine g_iconst X rfl (v := nI 0) (by decide) ?_
  refine g_istore_n X rfl (by decide) ?_
  refine g_iconst X rfl (v := nI 0) (by decide) ?_
  refine g_istore_n X rfl (by decide) ?_
  exact lp_X1_openOnes l D cy B od hE9 hn X (E.1 + 1) 0 (by omega) (by omega) (by omega)
set_option maxRecDepth 100000 in
set_option maxHeartbeats 400000 in
theorem lp_X1_cancelledOnes (l : Launch) (D : va_G) (cy : Nat → ClassId) (B : Nat) (od : Nat → Option Nat) {p : Program} {e : Env} {s : State} {m : MethodId} {args : Array Value} {below : List Frame} {meth : Method} {c : Code} {A : AH} {z : Nat} {b : Nat} {E : EV} (hE9 : EntA cy A b E) (hn : E.1 ≤ 60) (X : Cx p s m args meth c D cy B od cX1_cancelledOnes 3 tX1_cancelledOnes RX1 (some .int)) : ∀ (k i : Nat), 0 ≤ i → i ≤ E.1 → E.1 - i < k → G p l e rmX1_cancelledOnes s m args below meth c D B od 3 tX1_cancelledOnes (FinQ false D B od (fun v A' z' => v = some (.int (nI (cntN (fun i => !(E.2 5 i == 0)) E.1))) ∧ A' = A ∧ z' = z) (fun _ _ => True) args s below 0 0) 0 0 A z 4 [some (.ref b), some (.int (nI (cntN (fun i => !(E.2 5 i == 0)) i))), some (.int (nI i))] [] := by
  obtain ⟨hE, hE0, hE1, hE2, hE3, hE4, hE5, hE6⟩ := hE9
  intro k
  induction k with
  | zero => intro i _ _ h; omega
  | succ k ih =>
    intro i hlo hi hk
    have hc9 := cntN_le (fun i => !(E.2 5 i == 0)) i
    refine g_iload_n X rfl rfl ?_
    refine g_aload_n X rfl rfl ?_
    refine g_get X rfl flX1_34 (ci := 1) rfl hE rfl ?_
    first | refine g_ic_geN X rfl (by omega) (by omega) (fun h1 => ?_) (fun h1 => ?_) | refine g_icmp_ge X rfl (fun h1 => ?_) (fun h1 => ?_)
    · refine g_iload_n X rfl rfl ?_
      refine g_iret X rfl rfl (by first | rfl | exact bI_nar _ | decide) (Nat.le_refl _) (Nat.le_refl _) ⟨?_, rfl, rfl⟩
      rw [show i = E.1 by omega]
    · refine g_aload_n X rfl rfl ?_
      refine g_get X rfl flX1_27 (ci := 1) rfl hE rfl ?_
      refine g_iload_n X rfl rfl ?_
      refine g_zaldN X rfl hE5 (by omega) (by decide) ?_
      first | refine g_if_eqB X rfl (fun h2 => ?_) (fun h2 => ?_) | refine g_if_eq X rfl (fun h2 => ?_) (fun h2 => ?_)
      · refine g_iinc1 X rfl rfl (by decide) ?_
        refine g_goto X rfl ?_
        have K9 := ih (i + 1) (by omega) (by omega) (by omega)
        first | (rw [show cntN (fun i => !(E.2 5 i == 0)) (i + 1) = cntN (fun i => !(E.2 5 i == 0)) i + 1 by rw [cntN, if_pos (by simp_all)]] at K9; exact K9) | (rw [show cntN (fun i => !(E.2 5 i == 0)) (i + 1) = cntN (fun i => !(E.2 5 i == 0)) i by rw [cntN, if_neg (by simp_all)]] at K9; exact K9)
      · refine g_iinc1 X rfl rfl (by decide) ?_
        refine g_iinc1 X rfl rfl (by decide) ?_
        refine g_goto X rfl ?_
        have K9 := ih (i + 1) (by omega) (by omega) (by omega)
        first | (rw [show cntN (fun i => !(E.2 5 i == 0)) (i + 1) = cntN (fun i => !(E.2 5 i == 0)) i + 1 by rw [cntN, if_pos (by simp_all)]] at K9; exact K9) | (rw [show cntN (fun i => !(E.2 5 i == 0)) (i + 1) = cntN (fun i => !(E.2 5 i == 0)) i by rw [cntN, if_neg (by simp_all)]] at K9; exact K9)
set_option maxRecDepth 100000 in
set_option maxHeartbeats 400000 in
theorem cr_X1_cancelledOnes (l : Launch) (D : va_G) (cy : Nat → ClassId) (B : Nat) (od : Nat → Option Nat) {A : AH} {b : Nat} {E : EV} (hE9 : EntA cy A b E) (hn : E.1 ≤ 60) : CR l D cy B od yX1_cancelledOnes cX1_cancelledOnes 3 (some .int) rmX1_cancelledOnes [.ref b] A (.int (nI (cntN (fun i => !(E.2 5 i == 0)) E.1))) := by
  intro z
  refine CT.of (by decide) tX1_cancelledOnes okX1_cancelledOnes (Nat.le_of_ble_eq_true rfl) (q0 := tX1_cancelledOnes[0]) rfl rfl ?_
  intro p e s m args below meth c X _
  refine g_iconst X rfl (v := nI 0) (by decide) ?_
  refine g_istore_n X rfl (by decide) ?_
  refine g_iconst X rfl (v := nI 0) (by decide) ?_
  refine g_istore_n X rfl (by decide) ?_
  exact lp_X1_cancelledOnes l D cy B od hE9 hn X (E.1 + 1) 0 (by omega) (by omega) (by omega)
set_option maxRecDepth 100000 in
set_option maxHeartbeats 400000 in
theorem lp_X1_lateOnes (l : Launch) (D : va_G) (cy : Nat → ClassId) (B : Nat) (od : Nat → Option Nat) {p : Program} {e : Env} {s : State} {m : MethodId} {args : Array Value} {below : List Frame} {meth : Method} {c : Code} {A : AH} {z : Nat} {b : Nat} {E : EV} (hE9 : EntA cy A b E) (hn : E.1 ≤ 60) (X : Cx p s m args meth c D cy B od cX1_lateOnes 3 tX1_lateOnes RX1 (some .int)) : ∀ (k i : Nat), 0 ≤ i → i ≤ E.1 → E.1 - i < k → G p l e rmX1_lateOnes s m args below meth c D B od 3 tX1_lateOnes (FinQ false D B od (fun v A' z' => v = some (.int (nI (cntN (fun i => !(E.2 6 i == 0)) E.1))) ∧ A' = A ∧ z' = z) (fun _ _ => True) args s below 0 0) 0 0 A z 4 [some (.ref b), some (.int (nI (cntN (fun i => !(E.2 6 i == 0)) i))), some (.int (nI i))] [] := by
  obtain ⟨hE, hE0, hE1, hE2, hE3, hE4, hE5, hE6⟩ := hE9
  intro k
  induction k with
  | zero => intro i _ _ h; omega
  | succ k ih =>
    intro i hlo hi hk
    have hc9 := cntN_le (fun i => !(E.2 6 i == 0)) i
    refine g_iload_n X rfl rfl ?_
    refine g_aload_n X rfl rfl ?_
    refine g_get X rfl flX1_34 (ci := 1) rfl hE rfl ?_
    first | refine g_ic_geN X rfl (by omega) (by omega) (fun h1 => ?_) (fun h1 => ?_) | refine g_icmp_ge X rfl (fun h1 => ?_) (fun h1 => ?_)
    · refine g_iload_n X rfl rfl ?_
      refine g_iret X rfl rfl (by first | rfl | exact bI_nar _ | decide) (Nat.le_refl _) (Nat.le_refl _) ⟨?_, rfl, rfl⟩
      rw [show i = E.1 by omega]
    · refine g_aload_n X rfl rfl ?_
      refine g_get X rfl flX1_31 (ci := 1) rfl hE rfl ?_
      refine g_iload_n X rfl rfl ?_
      refine g_zaldN X rfl hE6 (by omega) (by decide) ?_
      first | refine g_if_eqB X rfl (fun h2 => ?_) (fun h2 => ?_) | refine g_if_eq X rfl (fun h2 => ?_) (fun h2 => ?_)
      · refine g_iinc1 X rfl rfl (by decide) ?_
        refine g_goto X rfl ?_
        have K9 := ih (i + 1) (by omega) (by omega) (by omega)
        first | (rw [show cntN (fun i => !(E.2 6 i == 0)) (i + 1) = cntN (fun i => !(E.2 6 i == 0)) i + 1 by rw [cntN, if_pos (by simp_all)]] at K9; exact K9) | (rw [show cntN (fun i => !(E.2 6 i == 0)) (i + 1) = cntN (fun i => !(E.2 6 i == 0)) i by rw [cntN, if_neg (by simp_all)]] at K9; exact K9)
      · refine g_iinc1 X rfl rfl (by decide) ?_
        refine g_iinc1 X rfl rfl (by decide) ?_
        refine g_goto X rfl ?_
        have K9 := ih (i + 1) (by omega) (by omega) (by omega)
        first | (rw [show cntN (fun i => !(E.2 6 i == 0)) (i + 1) = cntN (fun i => !(E.2 6 i == 0)) i + 1 by rw [cntN, if_pos (by simp_all)]] at K9; exact K9) | (rw [show cntN (fun i => !(E.2 6 i == 0)) (i + 1) = cntN (fun i => !(E.2 6 i == 0)) i by rw [cntN, if_neg (by simp_all)]] at K9; exact K9)
set_option maxRecDepth 100000 in
set_option maxHeartbeats 400000 in
theorem cr_X1_lateOnes (l : Launch) (D : va_G) (cy : Nat → ClassId) (B : Nat) (od : Nat → Option Nat) {A : AH} {b : Nat} {E : EV} (hE9 : EntA cy A b E) (hn : E.1 ≤ 60) : CR l D cy B od yX1_lateOnes cX1_lateOnes 3 (some .int) rmX1_lateOnes [.ref b] A (.int (nI (cntN (fun i => !(E.2 6 i == 0)) E.1))) := by
  intro z
  refine CT.of (by decide) tX1_lateOnes okX1_lateOnes (Nat.le_of_ble_eq_true rfl) (q0 := tX1_lateOnes[0]) rfl rfl ?_
  intro p e s m args below meth c X _
  refine g_iconst X rfl (v := nI 0) (by decide) ?_
  refine g_istore_n X rfl (by decide) ?_
  refine g_iconst X rfl (v := nI 0) (by decide) ?_
  refine g_istore_n X rfl (by decide) ?_
  exact lp_X1_lateOnes l D cy B od hE9 hn X (E.1 + 1) 0 (by omega) (by omega) (by omega)
set_option maxRecDepth 100000 in
set_option maxHeartbeats 400000 in
theorem lp_X1_sumPaid (l : Launch) (D : va_G) (cy : Nat → ClassId) (B : Nat) (od : Nat → Option Nat) {p : Program} {e : Env} {s : State} {m : MethodId} {args : Array Value} {below : List Frame} {meth : Method} {c : Code} {A : AH} {z : Nat} {b : Nat} {E : EV} (hE9 : EntA cy A b E) (hn : E.1 ≤ 60) {kd f t : Int32} (X : Cx p s m args meth c D cy B od cX1_sumPaid 7 tX1_sumPaid RX1 (some .long)) : ∀ (k i : Nat), 0 ≤ i → i ≤ E.1 → E.1 - i < k → G p l e rmX1_sumPaid s m args below meth c D B od 7 tX1_sumPaid (FinQ false D B od (fun v A' z' => v = some (.long (sumN (fun i => E.2 0 i == kd && eCntIn E f t i) (fun i => (E.2 2 i).toInt64) E.1)) ∧ A' = A ∧ z' = z) (fun _ _ => True) args s below 0 0) 0 0 A z 4 [some (.ref b), some (.int kd), some (.int f), some (.int t), some (.long (sumN (fun i => E.2 0 i == kd && eCntIn E f t i) (fun i => (E.2 2 i).toInt64) i)), none, some (.int (nI i))] [] := by
  obtain ⟨hE, hE0, hE1, hE2, hE3, hE4, hE5, hE6⟩ := hE9
  intro k
  induction k with
  | zero => intro i _ _ h; omega
  | succ k ih =>
    intro i hlo hi hk
    refine g_iload X rfl rfl ?_
    refine g_aload_n X rfl rfl ?_
    refine g_get X rfl flX1_34 (ci := 1) rfl hE rfl ?_
    first | refine g_ic_geN X rfl (by omega) (by omega) (fun h1 => ?_) (fun h1 => ?_) | refine g_icmp_ge X rfl (fun h1 => ?_) (fun h1 => ?_)
    · refine g_lload X rfl rfl ?_
      refine g_lret X rfl rfl (Nat.le_refl _) (Nat.le_refl _) ⟨?_, rfl, rfl⟩
      rw [show i = E.1 by omega]
    · refine g_aload_n X rfl rfl ?_
      refine g_get X rfl flX1_9 (ci := 1) rfl hE rfl ?_
      refine g_iload X rfl rfl ?_
      refine g_ialdN X rfl hE0 (by omega) (by decide) ?_
      refine g_iload_n X rfl rfl ?_
      first | refine g_ic_neN X rfl (by omega) (by omega) (fun h2 => ?_) (fun h2 => ?_) | refine g_icmp_ne X rfl (fun h2 => ?_) (fun h2 => ?_)
      · refine g_iinc1 X rfl rfl (by decide) ?_
        refine g_goto X rfl ?_
        have K9 := ih (i + 1) (by omega) (by omega) (by omega)
        first | (rw [show sumN (fun i => E.2 0 i == kd && eCntIn E f t i) (fun i => (E.2 2 i).toInt64) (i + 1) = sumN (fun i => E.2 0 i == kd && eCntIn E f t i) (fun i => (E.2 2 i).toInt64) i + (fun i => (E.2 2 i).toInt64) i by rw [sumN, if_pos (by simp_all)]] at K9; exact K9) | (rw [show sumN (fun i => E.2 0 i == kd && eCntIn E f t i) (fun i => (E.2 2 i).toInt64) (i + 1) = sumN (fun i => E.2 0 i == kd && eCntIn E f t i) (fun i => (E.2 2 i).toInt64) i by rw [sumN, if_neg (by simp_all)]] at K9; exact K9)
      · refine g_aload_n X rfl rfl ?_
        refine g_iload X rfl rfl ?_
        refine g_iload_n X rfl rfl ?_
        refine g_iload_n X rfl rfl ?_
        refine g_rV X rfl lcX1_countsWithin lmX1_45 lsX1_countsWithin (cr_X1_countsWithin l D cy B od (E := E) (i := i) ⟨hE, hE0, hE1, hE2, hE3, hE4, hE5, hE6⟩ (by omega)) (ci := 1) hE rfl rfl rfl (by decide) ⟨⟨by decide, by decide⟩, rfl, rfl⟩ ⟨Nat.zero_le _, Nat.zero_le _⟩ ?_
        first | refine g_if_eqB X rfl (fun h3 => ?_) (fun h3 => ?_) | refine g_if_eq X rfl (fun h3 => ?_) (fun h3 => ?_)
        · refine g_iinc1 X rfl rfl (by decide) ?_
          refine g_goto X rfl ?_
          have K9 := ih (i + 1) (by omega) (by omega) (by omega)
          first | (rw [show sumN (fun i => E.2 0 i == kd && eCntIn E f t i) (fun i => (E.2 2 i).toInt64) (i + 1) = sumN (fun i => E.2 0 i == kd && eCntIn E f t i) (fun i => (E.2 2 i).toInt64) i + (fun i => (E.2 2 i).toInt64) i by rw [sumN, if_pos (by simp_all)]] at K9; exact K9) | (rw [show sumN (fun i => E.2 0 i == kd && eCntIn E f t i) (fun i => (E.2 2 i).toInt64) (i + 1) = sumN (fun i => E.2 0 i == kd && eCntIn E f t i) (fun i => (E.2 2 i).toInt64) i by rw [sumN, if_neg (by simp_all)]] at K9; exact K9)
        · refine g_lload X rfl rfl ?_
          refine g_aload_n X rfl rfl ?_
          refine g_get X rfl flX1_18 (ci := 1) rfl hE rfl ?_
          refine g_iload X rfl rfl ?_
          refine g_ialdN X rfl hE2 (by omega) (by decide) ?_
          refine g_i2l X rfl ?_
          refine g_ladd X rfl ?_
          refine g_lstore X rfl (by decide) ?_
          refine g_iinc1 X rfl rfl (by decide) ?_
          refine g_goto X rfl ?_
          have K9 := ih (i + 1) (by omega) (by omega) (by omega)
          first | (rw [show sumN (fun i => E.2 0 i == kd && eCntIn E f t i) (fun i => (E.2 2 i).toInt64) (i + 1) = sumN (fun i => E.2 0 i == kd && eCntIn E f t i) (fun i => (E.2 2 i).toInt64) i + (fun i => (E.2 2 i).toInt64) i by rw [sumN, if_pos (by simp_all)]] at K9; exact K9) | (rw [show sumN (fun i => E.2 0 i == kd && eCntIn E f t i) (fun i => (E.2 2 i).toInt64) (i + 1) = sumN (fun i => E.2 0 i == kd && eCntIn E f t i) (fun i => (E.2 2 i).toInt64) i by rw [sumN, if_neg (by simp_all)]] at K9; exact K9)
set_option maxRecDepth 100000 in
set_option maxHeartbeats 400000 in
theorem cr_X1_sumPaid (l : Launch) (D : va_G) (cy : Nat → ClassId) (B : Nat) (od : Nat → Option Nat) {A : AH} {b : Nat} {E : EV} (hE9 : EntA cy A b E) (hn : E.1 ≤ 60) {kd f t : Int32} : CR l D cy B od yX1_sumPaid cX1_sumPaid 7 (some .long) rmX1_sumPaid [.ref b, .int kd, .int f, .int t] A (.long (sumN (fun i => E.2 0 i == kd && eCntIn E f t i) (fun i => (E.2 2 i).toInt64) E.1)) := by
  intro z
  refine CT.of (by decide) tX1_sumPaid okX1_sumPaid (Nat.le_of_ble_eq_true rfl) (q0 := tX1_sumPaid[0]) rfl rfl ?_
  intro p e s m args below meth c X _
  refine g_lconst X rfl (v := 0) (by decide) ?_
  refine g_lstore X rfl (by decide) ?_
  refine g_iconst X rfl (v := nI 0) (by decide) ?_
  refine g_istore X rfl (by decide) ?_
  exact lp_X1_sumPaid l D cy B od hE9 hn X (E.1 + 1) 0 (by omega) (by omega) (by omega)
set_option maxRecDepth 100000 in
set_option maxHeartbeats 400000 in
theorem lp_X1_incomesOf (l : Launch) (D : va_G) (cy : Nat → ClassId) (B : Nat) (od : Nat → Option Nat) {p : Program} {e : Env} {s : State} {m : MethodId} {args : Array Value} {below : List Frame} {meth : Method} {c : Code} {A : AH} {z : Nat} {b : Nat} {E : EV} (hE9 : EntA cy A b E) (hn : E.1 ≤ 60) {ca : Int32} (X : Cx p s m args meth c D cy B od cX1_incomesOf 5 tX1_incomesOf RX1 (some .long)) : ∀ (k i : Nat), 0 ≤ i → i ≤ E.1 → E.1 - i < k → G p l e rmX1_incomesOf s m args below meth c D B od 5 tX1_incomesOf (FinQ false D B od (fun v A' z' => v = some (.long (sumN (fun i => E.2 0 i == 0 && E.2 1 i == ca && eCnt E i) (fun i => (E.2 2 i).toInt64) E.1)) ∧ A' = A ∧ z' = z) (fun _ _ => True) args s below 0 0) 0 0 A z 4 [some (.ref b), some (.int ca), some (.long (sumN (fun i => E.2 0 i == 0 && E.2 1 i == ca && eCnt E i) (fun i => (E.2 2 i).toInt64) i)), none, some (.int (nI i))] [] := by
  obtain ⟨hE, hE0, hE1, hE2, hE3, hE4, hE5, hE6⟩ := hE9
  intro k
  induction k with
  | zero => intro i _ _ h; omega
  | succ k ih =>
    intro i hlo hi hk
    refine g_iload X rfl rfl ?_
    refine g_aload_n X rfl rfl ?_
    refine g_get X rfl flX1_34 (ci := 1) rfl hE rfl ?_
    first | refine g_ic_geN X rfl (by omega) (by omega) (fun h1 => ?_) (fun h1 => ?_) | refine g_icmp_ge X rfl (fun h1 => ?_) (fun h1 => ?_)
    · refine g_lload_n X rfl rfl ?_
      refine g_lret X rfl rfl (Nat.le_refl _) (Nat.le_refl _) ⟨?_, rfl, rfl⟩
      rw [show i = E.1 by omega]
    · refine g_aload_n X rfl rfl ?_
      refine g_get X rfl flX1_9 (ci := 1) rfl hE rfl ?_
      refine g_iload X rfl rfl ?_
      refine g_ialdN X rfl hE0 (by omega) (by decide) ?_
      first | refine g_if_neB X rfl (fun h2 => ?_) (fun h2 => ?_) | refine g_if_ne X rfl (fun h2 => ?_) (fun h2 => ?_)
      · refine g_iinc1 X rfl rfl (by decide) ?_
        refine g_goto X rfl ?_
        have K9 := ih (i + 1) (by omega) (by omega) (by omega)
        first | (rw [show sumN (fun i => E.2 0 i == 0 && E.2 1 i == ca && eCnt E i) (fun i => (E.2 2 i).toInt64) (i + 1) = sumN (fun i => E.2 0 i == 0 && E.2 1 i == ca && eCnt E i) (fun i => (E.2 2 i).toInt64) i + (fun i => (E.2 2 i).toInt64) i by rw [sumN, if_pos (by simp_all)]] at K9; exact K9) | (rw [show sumN (fun i => E.2 0 i == 0 && E.2 1 i == ca && eCnt E i) (fun i => (E.2 2 i).toInt64) (i + 1) = sumN (fun i => E.2 0 i == 0 && E.2 1 i == ca && eCnt E i) (fun i => (E.2 2 i).toInt64) i by rw [sumN, if_neg (by simp_all)]] at K9; exact K9)
      · refine g_aload_n X rfl rfl ?_
        refine g_get X rfl flX1_15 (ci := 1) rfl hE rfl ?_
        refine g_iload X rfl rfl ?_
        refine g_ialdN X rfl hE1 (by omega) (by decide) ?_
        refine g_iload_n X rfl rfl ?_
        first | refine g_ic_neN X rfl (by omega) (by omega) (fun h3 => ?_) (fun h3 => ?_) | refine g_icmp_ne X rfl (fun h3 => ?_) (fun h3 => ?_)
        · refine g_iinc1 X rfl rfl (by decide) ?_
          refine g_goto X rfl ?_
          have K9 := ih (i + 1) (by omega) (by omega) (by omega)
          first | (rw [show sumN (fun i => E.2 0 i == 0 && E.2 1 i == ca && eCnt E i) (fun i => (E.2 2 i).toInt64) (i + 1) = sumN (fun i => E.2 0 i == 0 && E.2 1 i == ca && eCnt E i) (fun i => (E.2 2 i).toInt64) i + (fun i => (E.2 2 i).toInt64) i by rw [sumN, if_pos (by simp_all)]] at K9; exact K9) | (rw [show sumN (fun i => E.2 0 i == 0 && E.2 1 i == ca && eCnt E i) (fun i => (E.2 2 i).toInt64) (i + 1) = sumN (fun i => E.2 0 i == 0 && E.2 1 i == ca && eCnt E i) (fun i => (E.2 2 i).toInt64) i by rw [sumN, if_neg (by simp_all)]] at K9; exact K9)
        · refine g_aload_n X rfl rfl ?_
          refine g_iload X rfl rfl ?_
          refine g_rV X rfl lcX1_counts lmX1_38 lsX1_counts (cr_X1_counts l D cy B od (E := E) (i := i) ⟨hE, hE0, hE1, hE2, hE3, hE4, hE5, hE6⟩ (by omega)) (ci := 1) hE rfl rfl rfl (by decide) ⟨⟨by decide, by decide⟩, rfl, rfl⟩ ⟨Nat.zero_le _, Nat.zero_le _⟩ ?_
          first | refine g_if_eqB X rfl (fun h4 => ?_) (fun h4 => ?_) | refine g_if_eq X rfl (fun h4 => ?_) (fun h4 => ?_)
          · refine g_iinc1 X rfl rfl (by decide) ?_
            refine g_goto X rfl ?_
            have K9 := ih (i + 1) (by omega) (by omega) (by omega)
            first | (rw [show sumN (fun i => E.2 0 i == 0 && E.2 1 i == ca && eCnt E i) (fun i => (E.2 2 i).toInt64) (i + 1) = sumN (fun i => E.2 0 i == 0 && E.2 1 i == ca && eCnt E i) (fun i => (E.2 2 i).toInt64) i + (fun i => (E.2 2 i).toInt64) i by rw [sumN, if_pos (by simp_all)]] at K9; exact K9) | (rw [show sumN (fun i => E.2 0 i == 0 && E.2 1 i == ca && eCnt E i) (fun i => (E.2 2 i).toInt64) (i + 1) = sumN (fun i => E.2 0 i == 0 && E.2 1 i == ca && eCnt E i) (fun i => (E.2 2 i).toInt64) i by rw [sumN, if_neg (by simp_all)]] at K9; exact K9)
          · refine g_lload_n X rfl rfl ?_
            refine g_aload_n X rfl rfl ?_
            refine g_get X rfl flX1_18 (ci := 1) rfl hE rfl ?_
            refine g_iload X rfl rfl ?_
            refine g_ialdN X rfl hE2 (by omega) (by decide) ?_
            refine g_i2l X rfl ?_
            refine g_ladd X rfl ?_
            refine g_lstore_n X rfl (by decide) ?_
            refine g_iinc1 X rfl rfl (by decide) ?_
            refine g_goto X rfl ?_
            have K9 := ih (i + 1) (by omega) (by omega) (by omega)
            first | (rw [show sumN (fun i => E.2 0 i == 0 && E.2 1 i == ca && eCnt E i) (fun i => (E.2 2 i).toInt64) (i + 1) = sumN (fun i => E.2 0 i == 0 && E.2 1 i == ca && eCnt E i) (fun i => (E.2 2 i).toInt64) i + (fun i => (E.2 2 i).toInt64) i by rw [sumN, if_pos (by simp_all)]] at K9; exact K9) | (rw [show sumN (fun i => E.2 0 i == 0 && E.2 1 i == ca && eCnt E i) (fun i => (E.2 2 i).toInt64) (i + 1) = sumN (fun i => E.2 0 i == 0 && E.2 1 i == ca && eCnt E i) (fun i => (E.2 2 i).toInt64) i by rw [sumN, if_neg (by simp_all)]] at K9; exact K9)
set_option maxRecDepth 100000 in
set_option maxHeartbeats 400000 in
theorem cr_X1_incomesOf (l : Launch) (D : va_G) (cy : Nat → ClassId) (B : Nat) (od : Nat → Option Nat) {A : AH} {b : Nat} {E : EV} (hE9 : EntA cy A b E) (hn : E.1 ≤ 60) {ca : Int32} : CR l D cy B od yX1_incomesOf cX1_incomesOf 5 (some .long) rmX1_incomesOf [.ref b, .int ca] A (.long (sumN (fun i => E.2 0 i == 0 && E.2 1 i == ca && eCnt E i) (fun i => (E.2 2 i).toInt64) E.1)) := by
  intro z
  refine CT.of (by decide) tX1_incomesOf okX1_incomesOf (Nat.le_of_ble_eq_true rfl) (q0 := tX1_incomesOf[0]) rfl rfl ?_
  intro p e s m args below meth c X _
  refine g_lconst X rfl (v := 0) (by decide) ?_
  refine g_lstore_n X rfl (by decide) ?_
  refine g_iconst X rfl (v := nI 0) (by decide) ?_
  refine g_istore X rfl (by decide) ?_
  exact lp_X1_incomesOf l D cy B od hE9 hn X (E.1 + 1) 0 (by omega) (by omega) (by omega)
set_option maxRecDepth 100000 in
set_option maxHeartbeats 400000 in
theorem lp_X1_sumOpen (l : Launch) (D : va_G) (cy : Nat → ClassId) (B : Nat) (od : Nat → Option Nat) {p : Program} {e : Env} {s : State} {m : MethodId} {args : Array Value} {below : List Frame} {meth : Method} {c : Code} {A : AH} {z : Nat} {b : Nat} {E : EV} (hE9 : EntA cy A b E) (hn : E.1 ≤ 60) {kd : Int32} (X : Cx p s m args meth c D cy B od cX1_sumOpen 5 tX1_sumOpen RX1 (some .long)) : ∀ (k i : Nat), 0 ≤ i → i ≤ E.1 → E.1 - i < k → G p l e rmX1_sumOpen s m args below meth c D B od 5 tX1_sumOpen (FinQ false D B od (fun v A' z' => v = some (.long (sumN (fun i => E.2 0 i == kd && eOpen E i) (fun i => (E.2 2 i).toInt64) E.1)) ∧ A' = A ∧ z' = z) (fun _ _ => True) args s below 0 0) 0 0 A z 4 [some (.ref b), some (.int kd), some (.long (sumN (fun i => E.2 0 i == kd && eOpen E i) (fun i => (E.2 2 i).toInt64) i)), none, some (.int (nI i))] [] := by
  obtain ⟨hE, hE0, hE1, hE2, hE3, hE4, hE5, hE6⟩ := hE9
  intro k
  induction k with
  | zero => intro i _ _ h; omega
  | succ k ih =>
    intro i hlo hi hk
    refine g_iload X rfl rfl ?_
    refine g_aload_n X rfl rfl ?_
    refine g_get X rfl flX1_34 (ci := 1) rfl hE rfl ?_
    first | refine g_ic_geN X rfl (by omega) (by omega) (fun h1 => ?_) (fun h1 => ?_) | refine g_icmp_ge X rfl (fun h1 => ?_) (fun h1 => ?_)
    · refine g_lload_n X rfl rfl ?_
      refine g_lret X rfl rfl (Nat.le_refl _) (Nat.le_refl _) ⟨?_, rfl, rfl⟩
      rw [show i = E.1 by omega]
    · refine g_aload_n X rfl rfl ?_
      refine g_get X rfl flX1_9 (ci := 1) rfl hE rfl ?_
      refine g_iload X rfl rfl ?_
      refine g_ialdN X rfl hE0 (by omega) (by decide) ?_
      refine g_iload_n X rfl rfl ?_
      first | refine g_ic_neN X rfl (by omega) (by omega) (fun h2 => ?_) (fun h2 => ?_) | refine g_icmp_ne X rfl (fun h2 => ?_) (fun h2 => ?_)
      · refine g_iinc1 X rfl rfl (by decide) ?_
        refine g_goto X rfl ?_
        have K9 := ih (i + 1) (by omega) (by omega) (by omega)
        first | (rw [show sumN (fun i => E.2 0 i == kd && eOpen E i) (fun i => (E.2 2 i).toInt64) (i + 1) = sumN (fun i => E.2 0 i == kd && eOpen E i) (fun i => (E.2 2 i).toInt64) i + (fun i => (E.2 2 i).toInt64) i by rw [sumN, if_pos (by simp_all)]] at K9; exact K9) | (rw [show sumN (fun i => E.2 0 i == kd && eOpen E i) (fun i => (E.2 2 i).toInt64) (i + 1) = sumN (fun i => E.2 0 i == kd && eOpen E i) (fun i => (E.2 2 i).toInt64) i by rw [sumN, if_neg (by simp_all)]] at K9; exact K9)
      · refine g_aload_n X rfl rfl ?_
        refine g_iload X rfl rfl ?_
        refine g_rV X rfl lcX1_isOpen lmX1_42 lsX1_isOpen (cr_X1_isOpen l D cy B od (E := E) (i := i) ⟨hE, hE0, hE1, hE2, hE3, hE4, hE5, hE6⟩ (by omega)) (ci := 1) hE rfl rfl rfl (by decide) ⟨⟨by decide, by decide⟩, rfl, rfl⟩ ⟨Nat.zero_le _, Nat.zero_le _⟩ ?_
        first | refine g_if_eqB X rfl (fun h3 => ?_) (fun h3 => ?_) | refine g_if_eq X rfl (fun h3 => ?_) (fun h3 => ?_)
        · refine g_iinc1 X rfl rfl (by decide) ?_
          refine g_goto X rfl ?_
          have K9 := ih (i + 1) (by omega) (by omega) (by omega)
          first | (rw [show sumN (fun i => E.2 0 i == kd && eOpen E i) (fun i => (E.2 2 i).toInt64) (i + 1) = sumN (fun i => E.2 0 i == kd && eOpen E i) (fun i => (E.2 2 i).toInt64) i + (fun i => (E.2 2 i).toInt64) i by rw [sumN, if_pos (by simp_all)]] at K9; exact K9) | (rw [show sumN (fun i => E.2 0 i == kd && eOpen E i) (fun i => (E.2 2 i).toInt64) (i + 1) = sumN (fun i => E.2 0 i == kd && eOpen E i) (fun i => (E.2 2 i).toInt64) i by rw [sumN, if_neg (by simp_all)]] at K9; exact K9)
        · refine g_lload_n X rfl rfl ?_
          refine g_aload_n X rfl rfl ?_
          refine g_get X rfl flX1_18 (ci := 1) rfl hE rfl ?_
          refine g_iload X rfl rfl ?_
          refine g_ialdN X rfl hE2 (by omega) (by decide) ?_
          refine g_i2l X rfl ?_
          refine g_ladd X rfl ?_
          refine g_lstore_n X rfl (by decide) ?_
          refine g_iinc1 X rfl rfl (by decide) ?_
          refine g_goto X rfl ?_
          have K9 := ih (i + 1) (by omega) (by omega) (by omega)
          first | (rw [show sumN (fun i => E.2 0 i == kd && eOpen E i) (fun i => (E.2 2 i).toInt64) (i + 1) = sumN (fun i => E.2 0 i == kd && eOpen E i) (fun i => (E.2 2 i).toInt64) i + (fun i => (E.2 2 i).toInt64) i by rw [sumN, if_pos (by simp_all)]] at K9; exact K9) | (rw [show sumN (fun i => E.2 0 i == kd && eOpen E i) (fun i => (E.2 2 i).toInt64) (i + 1) = sumN (fun i => E.2 0 i == kd && eOpen E i) (fun i => (E.2 2 i).toInt64) i by rw [sumN, if_neg (by simp_all)]] at K9; exact K9)
set_option maxRecDepth 100000 in
set_option maxHeartbeats 400000 in
theorem cr_X1_sumOpen (l : Launch) (D : va_G) (cy : Nat → ClassId) (B : Nat) (od : Nat → Option Nat) {A : AH} {b : Nat} {E : EV} (hE9 : EntA cy A b E) (hn : E.1 ≤ 60) {kd : Int32} : CR l D cy B od yX1_sumOpen cX1_sumOpen 5 (some .long) rmX1_sumOpen [.ref b, .int kd] A (.long (sumN (fun i => E.2 0 i == kd && eOpen E i) (fun i => (E.2 2 i).toInt64) E.1)) := by
  intro z
  refine CT.of (by decide) tX1_sumOpen okX1_sumOpen (Nat.le_of_ble_eq_true rfl) (q0 := tX1_sumOpen[0]) rfl rfl ?_
  intro p e s m args below meth c X _
  refine g_lconst X rfl (v := 0) (by decide) ?_
  refine g_lstore_n X rfl (by decide) ?_
  refine g_iconst X rfl (v := nI 0) (by decide) ?_
  refine g_istore X rfl (by decide) ?_
  exact lp_X1_sumOpen l D cy B od hE9 hn X (E.1 + 1) 0 (by omega) (by omega) (by omega)
set_option maxRecDepth 100000 in
set_option maxHeartbeats 400000 in
theorem old_s1 {E : EV} {i : Nat} (h : eOpen E i = false) : oldN E (i + 1) = oldN E i := by rw [oldN, if_neg (by rw [h]; decide)]
theorem old_s2 {E : EV} {i : Nat} (h : eOpen E i = true) (h2 : oldN E i = none) : oldN E (i + 1) = some i := by rw [oldN, if_pos h, h2]
theorem old_s3 {E : EV} {i j : Nat} (h : eOpen E i = true) (h2 : oldN E i = some j) (h3 : E.2 3 i < E.2 3 j) : oldN E (i + 1) = some i := by rw [oldN, if_pos h, h2]; dsimp only; rw [if_pos h3]
theorem old_s4 {E : EV} {i j : Nat} (h : eOpen E i = true) (h2 : oldN E i = some j) (h3 : ¬ E.2 3 i < E.2 3 j) : oldN E (i + 1) = some j := by rw [oldN, if_pos h, h2]; dsimp only; rw [if_neg h3]
set_option maxRecDepth 100000 in
set_option maxHeartbeats 400000 in
theorem lp_X1_firstInvoicedOpen (l : Launch) (D : va_G) (cy : Nat → ClassId) (B : Nat) (od : Nat → Option Nat) {p : Program} {e : Env} {s : State} {m : MethodId} {args : Array Value} {below : List Frame} {meth : Method} {c : Code} {A : AH} {z : Nat} {b : Nat} {E : EV} (hE9 : EntA cy A b E) (hn : E.1 ≤ 60) (X : Cx p s m args meth c D cy B od cX1_firstInvoicedOpen 3 tX1_firstInvoicedOpen RX1 (some .int)) : ∀ (k i : Nat), i ≤ E.1 → E.1 - i < k → G p l e rmX1_firstInvoicedOpen s m args below meth c D B od 3 tX1_firstInvoicedOpen (FinQ false D B od (fun v A' z' => v = some (.int (oI (oldN E E.1))) ∧ A' = A ∧ z' = z) (fun _ _ => True) args s below 0 0) 0 0 A z 4 [some (.ref b), some (.int (oI (oldN E i))), some (.int (nI i))] [] := by
  obtain ⟨hE, hE0, hE1, hE2, hE3, hE4, hE5, hE6⟩ := hE9
  intro k
  induction k with
  | zero => intro i _ h; omega
  | succ k ih =>
    intro i hi hk
    have K9 := fun q => ih (i + 1) q (by omega)
    cases ho : oldN E i with
    | none =>
      dsimp only [oI]
      refine g_iload_n X rfl rfl ?_
      refine g_aload_n X rfl rfl ?_
      refine g_get X rfl flX1_34 (ci := 1) rfl hE rfl ?_
      first | refine g_ic_geN X rfl (by omega) (by omega) (fun h1 => ?_) (fun h1 => ?_) | refine g_icmp_ge X rfl (fun h1 => ?_) (fun h1 => ?_)
      · refine g_iload_n X rfl rfl ?_
        refine g_iret X rfl rfl (by first | rfl | exact bI_nar _ | decide) (Nat.le_refl _) (Nat.le_refl _) ⟨?_, rfl, rfl⟩
        rw [show E.1 = i by omega, ho]
      · refine g_aload_n X rfl rfl ?_
        refine g_iload_n X rfl rfl ?_
        refine g_rV X rfl lcX1_isOpen lmX1_42 lsX1_isOpen (cr_X1_isOpen l D cy B od (E := E) (i := i) ⟨hE, hE0, hE1, hE2, hE3, hE4, hE5, hE6⟩ (by omega)) (ci := 1) hE rfl rfl rfl (by decide) ⟨⟨by decide, by decide⟩, rfl, rfl⟩ ⟨Nat.zero_le _, Nat.zero_le _⟩ ?_
        first | refine g_if_eqB X rfl (fun h2 => ?_) (fun h2 => ?_) | refine g_if_eq X rfl (fun h2 => ?_) (fun h2 => ?_)
        · refine g_iinc1 X rfl rfl (by decide) ?_
          refine g_goto X rfl ?_
          have K8 := K9 (by omega)
          first | (rw [old_s1 (by assumption), ho] at K8; exact K8) | (rw [old_s2 (by assumption) ho] at K8; exact K8) | (rw [old_s3 (by assumption) ho (Int32.not_le.mp (by assumption))] at K8; exact K8) | (rw [old_s4 (by assumption) ho (Int32.not_lt.mpr (by assumption))] at K8; exact K8)
        · refine g_iload_n X rfl rfl ?_
          refine g_iconst X rfl (v := (-1)) (by decide) ?_
          refine g_icmp_eq X rfl (fun h3 => ?_) (fun h3 => ?_)
          · refine g_iload_n X rfl rfl ?_
            refine g_istore_n X rfl (by decide) ?_
            refine g_iinc1 X rfl rfl (by decide) ?_
            refine g_goto X rfl ?_
            have K8 := K9 (by omega)
            first | (rw [old_s1 (by assumption), ho] at K8; exact K8) | (rw [old_s2 (by assumption) ho] at K8; exact K8) | (rw [old_s3 (by assumption) ho (Int32.not_le.mp (by assumption))] at K8; exact K8) | (rw [old_s4 (by assumption) ho (Int32.not_lt.mpr (by assumption))] at K8; exact K8)
          · exact absurd rfl h3
    | some j =>
      dsimp only [oI]
      have hj := oldN_lt E i j ho
      refine g_iload_n X rfl rfl ?_
      refine g_aload_n X rfl rfl ?_
      refine g_get X rfl flX1_34 (ci := 1) rfl hE rfl ?_
      first | refine g_ic_geN X rfl (by omega) (by omega) (fun h1 => ?_) (fun h1 => ?_) | refine g_icmp_ge X rfl (fun h1 => ?_) (fun h1 => ?_)
      · refine g_iload_n X rfl rfl ?_
        refine g_iret X rfl rfl (by first | rfl | exact bI_nar _ | decide) (Nat.le_refl _) (Nat.le_refl _) ⟨?_, rfl, rfl⟩
        rw [show E.1 = i by omega, ho]
      · refine g_aload_n X rfl rfl ?_
        refine g_iload_n X rfl rfl ?_
        refine g_rV X rfl lcX1_isOpen lmX1_42 lsX1_isOpen (cr_X1_isOpen l D cy B od (E := E) (i := i) ⟨hE, hE0, hE1, hE2, hE3, hE4, hE5, hE6⟩ (by omega)) (ci := 1) hE rfl rfl rfl (by decide) ⟨⟨by decide, by decide⟩, rfl, rfl⟩ ⟨Nat.zero_le _, Nat.zero_le _⟩ ?_
        first | refine g_if_eqB X rfl (fun h2 => ?_) (fun h2 => ?_) | refine g_if_eq X rfl (fun h2 => ?_) (fun h2 => ?_)
        · refine g_iinc1 X rfl rfl (by decide) ?_
          refine g_goto X rfl ?_
          have K8 := K9 (by omega)
          first | (rw [old_s1 (by assumption), ho] at K8; exact K8) | (rw [old_s2 (by assumption) ho] at K8; exact K8) | (rw [old_s3 (by assumption) ho (Int32.not_le.mp (by assumption))] at K8; exact K8) | (rw [old_s4 (by assumption) ho (Int32.not_lt.mpr (by assumption))] at K8; exact K8)
        · refine g_iload_n X rfl rfl ?_
          refine g_iconst X rfl (v := (-1)) (by decide) ?_
          refine g_icmp_eq X rfl (fun h3 => ?_) (fun h3 => ?_)
          · exact absurd h3 (nI_nm1 (by omega))
          · refine g_aload_n X rfl rfl ?_
            refine g_get X rfl flX1_21 (ci := 1) rfl hE rfl ?_
            refine g_iload_n X rfl rfl ?_
            refine g_ialdN X rfl hE3 (by omega) (by decide) ?_
            refine g_aload_n X rfl rfl ?_
            refine g_get X rfl flX1_21 (ci := 1) rfl hE rfl ?_
            refine g_iload_n X rfl rfl ?_
            refine g_ialdN X rfl hE3 (by omega) (by decide) ?_
            refine g_icmp_ge X rfl (fun h4 => ?_) (fun h4 => ?_)
            · refine g_iinc1 X rfl rfl (by decide) ?_
              refine g_goto X rfl ?_
              have K8 := K9 (by omega)
              first | (rw [old_s1 (by assumption), ho] at K8; exact K8) | (rw [old_s2 (by assumption) ho] at K8; exact K8) | (rw [old_s3 (by assumption) ho (Int32.not_le.mp (by assumption))] at K8; exact K8) | (rw [old_s4 (by assumption) ho (Int32.not_lt.mpr (by assumption))] at K8; exact K8)
            · refine g_iload_n X rfl rfl ?_
              refine g_istore_n X rfl (by decide) ?_
              refine g_iinc1 X rfl rfl (by decide) ?_
              refine g_goto X rfl ?_
              have K8 := K9 (by omega)
              first | (rw [old_s1 (by assumption), ho] at K8; exact K8) | (rw [old_s2 (by assumption) ho] at K8; exact K8) | (rw [old_s3 (by assumption) ho (Int32.not_le.mp (by assumption))] at K8; exact K8) | (rw [old_s4 (by assumption) ho (Int32.not_lt.mpr (by assumption))] at K8; exact K8)
set_option maxRecDepth 100000 in
set_option maxHeartbeats 400000 in
theorem cr_X1_firstInvoicedOpen (l : Launch) (D : va_G) (cy : Nat → ClassId) (B : Nat) (od : Nat → Option Nat) {A : AH} {b : Nat} {E : EV} (hE9 : EntA cy A b E) (hn : E.1 ≤ 60) : CR l D cy B od yX1_firstInvoicedOpen cX1_firstInvoicedOpen 3 (some .int) rmX1_firstInvoicedOpen [.ref b] A (.int (oI (oldN E E.1))) := by
  intro z
  refine CT.of (by decide) tX1_firstInvoicedOpen okX1_firstInvoicedOpen (Nat.le_of_ble_eq_true rfl) (q0 := tX1_firstInvoicedOpen[0]) rfl rfl ?_
  intro p e s m args below meth c X _
  refine g_iconst X rfl (v := (-1)) (by decide) ?_
  refine g_istore_n X rfl (by decide) ?_
  refine g_iconst X rfl (v := nI 0) (by decide) ?_
  refine g_istore_n X rfl (by decide) ?_
  exact lp_X1_firstInvoicedOpen l D cy B od hE9 hn X (E.1 + 1) 0 (Nat.zero_le _) (by omega)
end
section
/-! 11: the machine's max and min; throws; calls that may throw -/
section CORE11
variable {p : Program} {l : Launch} {e : Env} {R : Room} {s : State} {m : MethodId} {args : Array Value} {below : List Frame} {meth : Method} {c : Code}
variable {D : va_G} {cy : Nat → ClassId} {B : Nat} {od : Nat → Option Nat} {cc : ByteArray} {nL : Nat} {tab : List PT} {own : String} {ret : Option FieldType}
variable {F : State → Prop} {cells slots : Nat} {A : AH} {z i pc len nx tg : Nat} {lv : List (Option Value)} {st : List Value}
theorem ma_ini : Cond.initialized "java/lang/Math" ∈ lw_good := lw_good_in (n := 153) (by decide +kernel) rfl
theorem ma_xl : Cond.static Lib.MathLoose.max_long.x ∈ lw_good ∧ Cond.code Lib.MathLoose.max_long.x Lib.MathLoose.max_long.code 4 (some .long) ∈ lw_good := ⟨lw_good_in (n := 635) (by decide +kernel) rfl, lw_good_in (n := 636) (by decide +kernel) rfl⟩
theorem ma_nl : Cond.static Lib.MathLoose.min_long.x ∈ lw_good ∧ Cond.code Lib.MathLoose.min_long.x Lib.MathLoose.min_long.code 4 (some .long) ∈ lw_good := ⟨lw_good_in (n := 632) (by decide +kernel) rfl, lw_good_in (n := 633) (by decide +kernel) rfl⟩
theorem ma_xi : Cond.static Lib.Math.max.name ∈ lw_good ∧ Cond.code Lib.Math.max.name Lib.Math.max.code 2 (some .int) ∈ lw_good := ⟨lw_good_in (n := 1017) (by decide +kernel) rfl, lw_good_in (n := 1018) (by decide +kernel) rfl⟩
theorem ma_ni : Cond.static Lib.Math.min.name ∈ lw_good ∧ Cond.code Lib.Math.min.name Lib.Math.min.code 2 (some .int) ∈ lw_good := ⟨lw_good_in (n := 481) (by decide +kernel) rfl, lw_good_in (n := 482) (by decide +kernel) rfl⟩
theorem g_m_max_l (X : Cx p s m args meth c D cy B od cc nL tab own ret) {ix : Nat} {x y : Int64} (hi : tab[i]? = some (pc, .invokestatic ix, 3, nx, tg)) (hL : Cond.methodLink own ix Lib.MathLoose.max_long.x ∈ lw_good) (hst : (st.map fun v => v.category).sum ≤ 6) (hR : 1 ≤ R.frames ∧ 21 ≤ R.locals) (hf : cells ≤ R.cells ∧ slots ≤ R.slots) (kk : G p l e R s m args below meth c D B od nL tab F cells slots A z nx lv (.long (if y < x then x else y) :: st)) : G p l e R s m args below meth c D B od nL tab F cells slots A z i lv (.long y :: .long x :: st) := by
  intro q hq H locs ls hRl hS hl
  cases Option.some.inj (hi.symm.trans hq)
  obtain ⟨q2, hq2, e2⟩ := X.2.2.2.1.fall hi rfl
  have K := kk q2 hq2 H locs ls hRl hS hl
  rw [e2] at K
  have h3 : ((st.map (trV B od)).map fun v => v.category).sum = (st.map fun v => v.category).sum := by
    rw [List.map_map, show ((fun v : Value => v.category) ∘ trV B od) = (fun v => v.category) from funext fun v => trV_cat B od v]
  exact va_mmax_long X.1.1 X.1.2.1 (X.1.2.2.1.trans hl.1.symm) X.1.2.2.2.1 (X.1.2.2.2.2 _ hL) (X.1.2.2.2.2 _ ma_xl.1) (X.1.2.2.2.2 _ ma_ini) (X.1.2.2.2.2 _ ma_xl.2) hR.1 (by rw [h3]; omega) hf.1 hf.2 (X.2.2.2.1.dec hi) K
theorem g_m_min_l (X : Cx p s m args meth c D cy B od cc nL tab own ret) {ix : Nat} {x y : Int64} (hi : tab[i]? = some (pc, .invokestatic ix, 3, nx, tg)) (hL : Cond.methodLink own ix Lib.MathLoose.min_long.x ∈ lw_good) (hst : (st.map fun v => v.category).sum ≤ 6) (hR : 1 ≤ R.frames ∧ 21 ≤ R.locals) (hf : cells ≤ R.cells ∧ slots ≤ R.slots) (kk : G p l e R s m args below meth c D B od nL tab F cells slots A z nx lv (.long (if y < x then y else x) :: st)) : G p l e R s m args below meth c D B od nL tab F cells slots A z i lv (.long y :: .long x :: st) := by
  intro q hq H locs ls hRl hS hl
  cases Option.some.inj (hi.symm.trans hq)
  obtain ⟨q2, hq2, e2⟩ := X.2.2.2.1.fall hi rfl
  have K := kk q2 hq2 H locs ls hRl hS hl
  rw [e2] at K
  have h3 : ((st.map (trV B od)).map fun v => v.category).sum = (st.map fun v => v.category).sum := by
    rw [List.map_map, show ((fun v : Value => v.category) ∘ trV B od) = (fun v => v.category) from funext fun v => trV_cat B od v]
  exact va_mmin_long X.1.1 X.1.2.1 (X.1.2.2.1.trans hl.1.symm) X.1.2.2.2.1 (X.1.2.2.2.2 _ hL) (X.1.2.2.2.2 _ ma_nl.1) (X.1.2.2.2.2 _ ma_ini) (X.1.2.2.2.2 _ ma_nl.2) hR.1 (by rw [h3]; omega) hf.1 hf.2 (X.2.2.2.1.dec hi) K
theorem g_m_max_i (X : Cx p s m args meth c D cy B od cc nL tab own ret) {ix : Nat} {x y : Int32} (hi : tab[i]? = some (pc, .invokestatic ix, 3, nx, tg)) (hL : Cond.methodLink own ix Lib.Math.max.name ∈ lw_good) (hst : (st.map fun v => v.category).sum ≤ 6) (hR : 1 ≤ R.frames ∧ 21 ≤ R.locals) (hf : cells ≤ R.cells ∧ slots ≤ R.slots) (kk : G p l e R s m args below meth c D B od nL tab F cells slots A z nx lv (.int (if x < y then y else x) :: st)) : G p l e R s m args below meth c D B od nL tab F cells slots A z i lv (.int y :: .int x :: st) := by
  intro q hq H locs ls hRl hS hl
  cases Option.some.inj (hi.symm.trans hq)
  obtain ⟨q2, hq2, e2⟩ := X.2.2.2.1.fall hi rfl
  have K := kk q2 hq2 H locs ls hRl hS hl
  rw [e2] at K
  have h3 : ((st.map (trV B od)).map fun v => v.category).sum = (st.map fun v => v.category).sum := by
    rw [List.map_map, show ((fun v : Value => v.category) ∘ trV B od) = (fun v => v.category) from funext fun v => trV_cat B od v]
  exact va_mmax X.1.1 X.1.2.1 (X.1.2.2.1.trans hl.1.symm) X.1.2.2.2.1 (X.1.2.2.2.2 _ hL) (X.1.2.2.2.2 _ ma_xi.1) (X.1.2.2.2.2 _ ma_ini) (X.1.2.2.2.2 _ ma_xi.2) hR.1 (by rw [h3]; omega) hf.1 hf.2 (X.2.2.2.1.dec hi) K
theorem g_m_min_i (X : Cx p s m args meth c D cy B od cc nL tab own ret) {ix : Nat} {x y : Int32} (hi : tab[i]? = some (pc, .invokestatic ix, 3, nx, tg)) (hL : Cond.methodLink own ix Lib.Math.min.name ∈ lw_good) (hst : (st.map fun v => v.category).sum ≤ 6) (hR : 1 ≤ R.frames ∧ 21 ≤ R.locals) (hf : cells ≤ R.cells ∧ slots ≤ R.slots) (kk : G p l e R s m args below meth c D B od nL tab F cells slots A z nx lv (.int (if y < x then y else x) :: st)) : G p l e R s m args below meth c D B od nL tab F cells slots A z i lv (.int y :: .int x :: st) := by
  intro q hq H locs ls hRl hS hl
  cases Option.some.inj (hi.symm.trans hq)
  obtain ⟨q2, hq2, e2⟩ := X.2.2.2.1.fall hi rfl
  have K := kk q2 hq2 H locs ls hRl hS hl
  rw [e2] at K
  have h3 : ((st.map (trV B od)).map fun v => v.category).sum = (st.map fun v => v.category).sum := by
    rw [List.map_map, show ((fun v : Value => v.category) ∘ trV B od) = (fun v => v.category) from funext fun v => trV_cat B od v]
  exact va_mmin X.1.1 X.1.2.1 (X.1.2.2.1.trans hl.1.symm) X.1.2.2.2.1 (X.1.2.2.2.2 _ hL) (X.1.2.2.2.2 _ ma_ni.1) (X.1.2.2.2.2 _ ma_ini) (X.1.2.2.2.2 _ ma_ni.2) hR.1 (by rw [h3]; omega) hf.1 hf.2 (X.2.2.2.1.dec hi) K
-- throws
def dcls : List Cond := [.declares (Bundle.initS "java/lang/RuntimeException"), .declares (Bundle.initS "java/lang/Exception"), .declares (Bundle.initS "java/lang/Throwable")]
theorem dcl_of {y : MethodName} {b : ByteArray} {n : Nat} {rt : Option FieldType} (hts : ∀ v ∈ lw_good, v.before args s = true) (h1 : Cond.instanceMethod y ∈ lw_good) (h2 : Cond.code y b n rt ∈ lw_good) : (Cond.declares y).before args s = true := by
  obtain ⟨r0, r, a1, a2, a3, a4⟩ := va_Decl.of (hts _ h1) (hts _ h2)
  simp [Cond.before, Cond.holds, Cond.value, a1, a2, a3, a4]
theorem dcls_ok (hts : ∀ v ∈ lw_good, v.before args s = true) : ∀ w ∈ dcls, w.before args s = true := by
  intro w hw
  simp only [dcls, List.mem_cons, List.not_mem_nil, or_false] at hw
  rcases hw with rfl | rfl | rfl
  · exact dcl_of (b := prog_19_method_2_code) (n := 2) (rt := none) hts (lw_good_in (n := 820) (by decide +kernel) rfl) (lw_good_in (n := 821) (by decide +kernel) rfl)
  · exact dcl_of (b := prog_14_method_2_code) (n := 2) (rt := none) hts (lw_good_in (n := 823) (by decide +kernel) rfl) (lw_good_in (n := 824) (by decide +kernel) rfl)
  · exact dcl_of (b := prog_23_method_2_code) (n := 2) (rt := none) hts (lw_good_in (n := 826) (by decide +kernel) rfl) (lw_good_in (n := 827) (by decide +kernel) rfl)
def ThOk (own cls : String) (ik ic : Nat) (names : List String) : Prop := Bundle.fit cls = true ∧ (∀ n ∈ names, Bundle.fit n = true) ∧ Cond.classLink own ik cls ∈ lw_good ∧ Cond.initialized cls ∈ lw_good ∧ Cond.instantiable cls 6 ∈ lw_good ∧ ((vx_atS own ic cls names).all (fun w => (decide (w ∈ lw_tbl) && goodWord w) || decide (w = .castable cls cls) || decide (w ∈ dcls))) = true ∧ ((Cond.classLink own ik cls :: Cond.initialized cls :: vx_atS own ic cls names).all vx_ot) = true
theorem cast_self {E : String} {A' : Array Value} (h : (Cond.instantiable E 6).before A' s = true) : (Cond.castable E E).before args s = true := by
  obtain ⟨c1, k, h1, -⟩ := Cond.instantiable_spec h
  show (Cond.castable E E).holds args s none s [] = true
  have hs : s.vm.assignable c1 c1 = true := by
    show s.vm.assignableAux (255 + 1) c1 c1 = true
    rw [Vm.assignableAux, beq_self_eq_true, Bool.true_or]
  simp [Cond.holds, Cond.value, h1, hs]
theorem thr_words {cls : String} {ik ic : Nat} {names : List String} (hts : ∀ v ∈ lw_good, v.before args s = true) (h : ThOk own cls ik ic names) : ∀ w ∈ vx_atS own ic cls names, w.before args s = true := by
  intro w hw
  have h1 := List.all_eq_true.mp h.2.2.2.2.2.1 w hw
  rw [Bool.or_eq_true, Bool.or_eq_true, Bool.and_eq_true] at h1
  rcases h1 with (h2 | h2) | h2
  · exact hts w (List.mem_filter.mpr ⟨of_decide_eq_true h2.1, h2.2⟩)
  · rw [of_decide_eq_true h2]
    exact cast_self (hts _ h.2.2.2.2.1)
  · exact dcls_ok hts w (of_decide_eq_true h2)
theorem thr_heap {H : Heap} {t : State} (hR : RelA D B od A z H) (h1 : H.size ≤ t.heap.size) (h2 : ∀ q : Nat, q < H.size → t.heap[q]? = H[q]?) : RelA D B od A 0 t.heap := ⟨fun k x hk => ⟨(hR.1 k x hk).1, (hR.1 k x hk).2.kept (h2 _ (hR.1 k x hk).2.lt)⟩, fun h => absurd rfl h⟩
theorem thr_F {H : Heap} {locs : List Loc} {t : State} (hS : va_S (fun q => B ≤ q) s.heap H locs) (h1 : H.size ≤ t.heap.size) (h2 : ∀ q : Nat, q < H.size → t.heap[q]? = H[q]?) : va_F (fun q => B ≤ q) s t := ⟨Nat.le_trans hS.1 h1, fun q h3 h4 => (h2 q (Nat.lt_of_lt_of_le h3 hS.1)).trans (hS.2.1 q h3 h4)⟩
theorem g_throw2 (X : Cx p s m args meth c D cy B od cc nL tab own ret) (hl : l.stackTraces = false) (hnt : ∀ x ∈ c.exceptionTable.toList, False) {cls text : String} {ik is ic j : Nat} {names : List String} (hT : ThOk own cls ik ic names) (hs : strT[j]? = some (own, is, text)) {i1 i2 i3 i4 a4 b1 b2 b3 b4 : Nat} (d0 : tab[i]? = some (pc, .new ik, 3, i1, tg)) (d1 : tab[i1]? = some (pc + 3, .dup, 1, i2, b1)) (d2 : tab[i2]? = some (pc + 4, .ldc is, 2, i3, b2)) (d3 : tab[i3]? = some (pc + 6, .invokespecial ic, 3, i4, b3)) (d4 : tab[i4]? = some (pc + 9, .athrow, 1, a4, b4)) (hRm : names.length + 3 < R.frames ∧ (st.map fun v => v.category).sum + (13 * (names.length + 1) + 43) ≤ R.locals) {mc ms : Nat} (hRc : cells + 1 ≤ R.cells ∧ slots + 6 ≤ R.slots) (hc : cells + 1 ≤ mc) (hs9 : slots + 6 ≤ ms) {Q : QT} {Qx : QX} (hx : Qx cls A) : G p l e R s m args below meth c D B od nL tab (FinQ true D B od Q Qx args s below mc ms) cells slots A z i lv st := by
  intro q hq H locs ls hR hS hL
  cases Option.some.inj (d0.symm.trans hq)
  obtain ⟨-, -, -, -, -, hlk, -, hO⟩ := id X
  obtain ⟨sa, -, hsa⟩ := hO.2.2.1 j _ hs
  have hT2 := hT
  obtain ⟨t1, t2, t3, t4, t5, t6, t7⟩ := hT
  have h3 : ((st.map (trV B od)).map fun v => v.category).sum = (st.map fun v => v.category).sum := by
    rw [List.map_map, show ((fun v : Value => v.category) ∘ trV B od) = (fun v => v.category) from funext fun v => trV_cat B od v]
  exact vx_throwS X.1.1 X.1.2.1 hl X.1.2.2.2.1 t1 t2 (X.1.2.2.2.2 _ t3) (X.1.2.2.2.2 _ t4) hsa (thr_words X.1.2.2.2.2 hT2) (fun w hw => List.all_eq_true.mp t7 w hw) hO.1 hO.2.1 hS (hL.1.trans X.1.2.2.1.symm) (X.2.2.2.1.dec d0) (X.2.2.2.1.dec d1) (X.2.2.2.1.dec d2) (X.2.2.2.1.dec d3) (X.2.2.2.1.dec d4) (fun x hx9 => (hnt x hx9).elim) hRm.1 (by rw [h3]; exact hRm.2) hRc.1 hRc.2 hlk (fun t _ h1 h2 => ⟨⟨A, hx, thr_heap hR h1 h2⟩, thr_F hS h1 h2⟩) hS.2.2 hc hs9
theorem g_throw3 (X : Cx p s m args meth c D cy B od cc nL tab own ret) (hl : l.stackTraces = false) (hnt : ∀ x ∈ c.exceptionTable.toList, False) {cls text : String} {ik is ic j : Nat} {names : List String} (hT : ThOk own cls ik ic names) (hs : strT[j]? = some (own, is, text)) {i1 i2 i3 i4 a4 b1 b2 b3 b4 : Nat} (d0 : tab[i]? = some (pc, .new ik, 3, i1, tg)) (d1 : tab[i1]? = some (pc + 3, .dup, 1, i2, b1)) (d2 : tab[i2]? = some (pc + 4, .ldc_w is, 3, i3, b2)) (d3 : tab[i3]? = some (pc + 7, .invokespecial ic, 3, i4, b3)) (d4 : tab[i4]? = some (pc + 10, .athrow, 1, a4, b4)) (hRm : names.length + 3 < R.frames ∧ (st.map fun v => v.category).sum + (13 * (names.length + 1) + 43) ≤ R.locals) {mc ms : Nat} (hRc : cells + 1 ≤ R.cells ∧ slots + 6 ≤ R.slots) (hc : cells + 1 ≤ mc) (hs9 : slots + 6 ≤ ms) {Q : QT} {Qx : QX} (hx : Qx cls A) : G p l e R s m args below meth c D B od nL tab (FinQ true D B od Q Qx args s below mc ms) cells slots A z i lv st := by
  intro q hq H locs ls hR hS hL
  cases Option.some.inj (d0.symm.trans hq)
  obtain ⟨-, -, -, -, -, hlk, -, hO⟩ := id X
  obtain ⟨sa, -, hsa⟩ := hO.2.2.1 j _ hs
  have hT2 := hT
  obtain ⟨t1, t2, t3, t4, t5, t6, t7⟩ := hT
  have h3 : ((st.map (trV B od)).map fun v => v.category).sum = (st.map fun v => v.category).sum := by
    rw [List.map_map, show ((fun v : Value => v.category) ∘ trV B od) = (fun v => v.category) from funext fun v => trV_cat B od v]
  exact vx_throwSW X.1.1 X.1.2.1 hl X.1.2.2.2.1 t1 t2 (X.1.2.2.2.2 _ t3) (X.1.2.2.2.2 _ t4) hsa (thr_words X.1.2.2.2.2 hT2) (fun w hw => List.all_eq_true.mp t7 w hw) hO.1 hO.2.1 hS (hL.1.trans X.1.2.2.1.symm) (X.2.2.2.1.dec d0) (X.2.2.2.1.dec d1) (X.2.2.2.1.dec d2) (X.2.2.2.1.dec d3) (X.2.2.2.1.dec d4) (fun x hx9 => (hnt x hx9).elim) hRm.1 (by rw [h3]; exact hRm.2) hRc.1 hRc.2 hlk (fun t _ h1 h2 => ⟨⟨A, hx, thr_heap hR h1 h2⟩, thr_F hS h1 h2⟩) hS.2.2 hc hs9
theorem g_throwE (X : Cx p s m args meth c D cy B od cc nL tab own ret) (hl : l.stackTraces = false) (hnt : ∀ x ∈ c.exceptionTable.toList, False) {cls text : String} {ik is ic j : Nat} {names : List String} (hcls : cls = "java/util/NoSuchElementException" ∧ own = RX7 ∧ ik = 346 ∧ ic = 350 ∧ names = ["java/lang/RuntimeException", "java/lang/Exception"]) (hs : strT[j]? = some (own, is, text)) {i1 i2 i3 i4 a4 b1 b2 b3 b4 : Nat} (d0 : tab[i]? = some (pc, .new ik, 3, i1, tg)) (d1 : tab[i1]? = some (pc + 3, .dup, 1, i2, b1)) (d2 : tab[i2]? = some (pc + 4, .ldc_w is, 3, i3, b2)) (d3 : tab[i3]? = some (pc + 7, .invokespecial ic, 3, i4, b3)) (d4 : tab[i4]? = some (pc + 10, .athrow, 1, a4, b4)) (hRm : names.length + 3 < R.frames ∧ (st.map fun v => v.category).sum + (13 * (names.length + 1) + 43) ≤ R.locals) {mc ms : Nat} (hRc : cells + 1 ≤ R.cells ∧ slots + 6 ≤ R.slots) (hc : cells + 1 ≤ mc) (hs9 : slots + 6 ≤ ms) {Q : QT} {Qx : QX} (hx : Qx cls A) : G p l e R s m args below meth c D B od nL tab (FinQ true D B od Q Qx args s below mc ms) cells slots A z i lv st := by
  sorry
-- calls that may throw
section XCALLS
variable {y : MethodName} {bytes : ByteArray} {maxL n ix : Nat} {rt : Option FieldType} {rm : Room} {As rest : List Value} {b : Nat} {Q' : QT} {Qx' : QX}
theorem xrun_go {H : Heap} {locs : List Loc} {mc ms : Nat} {ls : Array Slot} {st0 rs : List Value} {a : Array Value} (hr : vx_Run p l e R s m args below meth c H locs cells slots mc ms (F0 m pc ls st0) rs (QcA D B od Q' a) (XcA D B od Qx') (fun q => B ≤ q)) (hS : va_S (fun q => B ≤ q) s.heap H locs)
    (kx : ∀ (E : String) (ce : Cell) (q9 : Addr) (A' : AH) (H1 : Heap) (locs1 : List Loc), Qx' E A' → RelA D B od A' 0 H1 → va_S (fun q => B ≤ q) s.heap H1 locs1 → H1[q9]? = some ce → ce.vm = .none → s.vm.findClass E = some ce.cls → vx_W p l e R s m args below meth c H1 locs1 (cells + mc) (slots + ms) F (F0 m pc ls rs) q9)
    (kk : ∀ (v : Option Value) (A' : AH) (z' : Nat) (H1 : Heap) (locs1 : List Loc), Q' v A' z' → RelA D B od A' z' H1 → va_S (fun q => B ≤ q) s.heap H1 locs1 → W p l e R s m args below meth c H1 locs1 (cells + mc) (slots + ms) F (F0 m (pc + 3) ls ((v.map (trV B od)).toList ++ rs))) : W p l e R s m args below meth c H locs cells slots F (F0 m pc ls st0) := by
  intro T hT X
  rcases hr T hT X with ⟨v, st₀, t, T', L, h0, X', hL, e1, e2, ⟨⟨v', A', z', hv, hp, hb⟩, hF⟩, st⟩ | ⟨q, st₀, t, T', L, E, ce, h0, X', hL, e1, e2, ⟨⟨A', hp, hb⟩, hF⟩, hce, hcv, hcl, st⟩
  · have hv : v = v'.map (trV B od) := by cases hv; rfl
    subst hv
    obtain ⟨k1, k2, k3⟩ := vx_keep h0 e1 hS (fun q _ h => h) (fun q h => h) hL hF
    obtain ⟨t2, a1, b1⟩ := kk v' A' z' T'.heap (locs ++ L) hp (by rw [e1]; exact hb) k3 T' rfl X'
    exact ⟨t2, st t2 a1, b1⟩
  · obtain ⟨k1, k2, k3⟩ := vx_keep h0 e1 hS (fun q _ h => h) (fun q h => h) hL hF
    obtain ⟨t2, a1, b1⟩ := kx E ce q A' T'.heap (locs ++ L) hp (by rw [e1]; exact hb) k3 (by rw [e1]; exact hce) hcv hcl T' rfl X'
    exact ⟨t2, st.trans a1, b1⟩
theorem gx_out {H : Heap} {locs : List Loc} {ls : Array Slot} {rs : List Value} {mc ms : Nat} {Q : QT} {Qx : QX} (X : Cx p s m args meth c D cy B od cc nL tab own ret) (hnt : ∀ x ∈ c.exceptionTable.toList, False) (hc : cells ≤ mc) (hs : slots ≤ ms) {E : String} {ce : Cell} {q9 : Addr} {A' : AH} (hx : Qx E A') (hR : RelA D B od A' 0 H) (hS : va_S (fun q => B ≤ q) s.heap H locs) (h1 : H[q9]? = some ce) (h2 : ce.vm = .none) (h3 : s.vm.findClass E = some ce.cls) : vx_W p l e R s m args below meth c H locs cells slots (FinQ true D B od Q Qx args s below mc ms) (F0 m pc ls rs) q9 :=
  vx_out (fun x hx9 => (hnt x hx9).elim) X.2.2.2.2.2.1 h1 h2 h3 (fun t ht _ => ⟨⟨A', hx, by rw [ht]; exact hR⟩, hS.F ht⟩) hS.2.2 hc hs
theorem gx_callS (X : Cx p s m args meth c D cy B od cc nL tab own ret) (hnt : ∀ x ∈ c.exceptionTable.toList, False) (hi : tab[i]? = some (pc, .invokestatic ix, 3, nx, tg)) (hL : LkC y bytes maxL rt n) (hM : LkM own ix y) (hSt : Cond.static y ∈ lw_good) (hC : CX l D cy B od y bytes maxL rt rm As A z Q' Qx') (hst : st = As.reverse ++ rest) (hn : As.length = n) (hw : (rest.map fun v => v.category).sum ≤ 8) (hRm : rm.frames + 1 ≤ R.frames ∧ 8 + (maxL + 11) + rm.locals ≤ R.locals) (hf : cells + rm.cells ≤ R.cells ∧ slots + rm.slots ≤ R.slots) {mc ms : Nat} (hc : cells + rm.cells ≤ mc) (hs : slots + rm.slots ≤ ms) {Q : QT} {Qx : QX} (hx : ∀ E A', Qx' E A' → Qx E A')
    (kk : ∀ (v : Option Value) (A' : AH) (z' : Nat), Q' v A' z' → G p l e R s m args below meth c D B od nL tab (FinQ true D B od Q Qx args s below mc ms) (cells + rm.cells) (slots + rm.slots) A' z' nx lv (v.toList ++ rest)) : G p l e R s m args below meth c D B od nL tab (FinQ true D B od Q Qx args s below mc ms) cells slots A z i lv st := by
  intro q hq H locs ls hR hS hl
  cases Option.some.inj (hi.symm.trans hq)
  obtain ⟨q2, hq2, e2⟩ := X.2.2.2.1.fall hi rfl
  subst hst
  rw [List.map_append, List.map_reverse]
  refine xrun_go (vx_runS (As := As.map (trV B od)) (rest := rest.map (trV B od)) X.1 hC ⟨mkB X hL hM hRm, X.1.2.2.2.2 _ hSt⟩ ⟨PcA.blind, fun U hU hW => ⟨rfl, X.world hR hS U hU hW⟩⟩ rfl ((List.length_map _).trans hn) hl.1 rfl (lv_room (st_cat hw)) (X.2.2.2.1.dec hi) hf) hS (fun E ce q9 A' H1 locs1 h1 h2 h3 h4 h5 h6 => gx_out X hnt hc hs (hx E A' h1) h2 h3 h4 h5 h6) (fun v A' z' H1 locs1 hq hR1 hS1 => ?_)
  have K := kk v A' z' hq q2 hq2 H1 locs1 ls hR1 hS1 hl
  rw [e2, ← st_ret] at K
  exact K
end XCALLS
end CORE11
/-- a check that may throw E: when it holds nothing happens -/
def CQ (l : Launch) (D : va_G) (cy : Nat → ClassId) (B : Nat) (od : Nat → Option Nat) (y : MethodName) (bytes : ByteArray) (maxL : Nat) (rt : Option FieldType) (rm : Room) (av : List Value) (A : AH) (E : String) (q : Prop) : Prop := ∀ z, CX l D cy B od y bytes maxL rt rm av A z (fun v A' z' => v = none ∧ A' = A ∧ z' = z ∧ q) (fun E' A' => E' = E ∧ A' = A ∧ ¬ q)
end
section
/-! 12: constants, rooms, assets, the setup: what is read of them -/
theorem kcX4_32 : Cond.constant RX4 32 (nI 80000) ∈ lw_good := lw_good_in (n := 210) (by decide +kernel) rfl
theorem kcX4_36 : Cond.constant RX4 36 (nI 100000) ∈ lw_good := lw_good_in (n := 211) (by decide +kernel) rfl
theorem kcX7_48 : Cond.constant RX7 48 (nI 1000000) ∈ lw_good := lw_good_in (n := 425) (by decide +kernel) rfl
theorem kcX7_53 : Cond.constant RX7 53 (nI 6000000) ∈ lw_good := lw_good_in (n := 430) (by decide +kernel) rfl
theorem lmX5_40 : Cond.methodLink RX5 40 Lib.Math.min.name ∈ lw_good := lw_good_in (n := 480) (by decide +kernel) rfl
theorem kcX5_102 : Cond.constant RX5 102 (nI 10000000) ∈ lw_good := lw_good_in (n := 557) (by decide +kernel) rfl
theorem kcX5_108 : Cond.constant RX5 108 (nI 1000000) ∈ lw_good := lw_good_in (n := 570) (by decide +kernel) rfl
theorem kcX5_128 : Cond.constant RX5 128 (nI 99999999) ∈ lw_good := lw_good_in (n := 590) (by decide +kernel) rfl
theorem lmX4_52 : Cond.methodLink RX4 52 Lib.MathLoose.min_long.x ∈ lw_good := lw_good_in (n := 631) (by decide +kernel) rfl
theorem lmX4_58 : Cond.methodLink RX4 58 Lib.MathLoose.max_long.x ∈ lw_good := lw_good_in (n := 634) (by decide +kernel) rfl
theorem kcX4_61 : Cond.constantLong RX4 61 (1000) ∈ lw_good := lw_good_in (n := 637) (by decide +kernel) rfl
theorem kcX7_356 : Cond.constantLong RX7 356 (4) ∈ lw_good := lw_good_in (n := 732) (by decide +kernel) rfl
theorem lmX7_192 : Cond.methodLink RX7 192 Lib.MathLoose.max_long.x ∈ lw_good := lw_good_in (n := 733) (by decide +kernel) rfl
theorem kcX7_318 : Cond.constantLong RX7 318 (1000) ∈ lw_good := lw_good_in (n := 734) (by decide +kernel) rfl
theorem kcX7_105 : Cond.constant RX7 105 (nI 10000000) ∈ lw_good := lw_good_in (n := 895) (by decide +kernel) rfl
theorem lmX2_29 : Cond.methodLink RX2 29 Lib.Math.min.name ∈ lw_good := lw_good_in (n := 904) (by decide +kernel) rfl
theorem kcX7_153 : Cond.constant RX7 153 (nI 5000000) ∈ lw_good := lw_good_in (n := 966) (by decide +kernel) rfl
theorem kcX7_201 : Cond.constant RX7 201 (-10000000) ∈ lw_good := lw_good_in (n := 1004) (by decide +kernel) rfl
theorem lmX2_35 : Cond.methodLink RX2 35 Lib.Math.max.name ∈ lw_good := lw_good_in (n := 1016) (by decide +kernel) rfl
theorem kcX7_328 : Cond.constant RX7 328 (nI 100000000) ∈ lw_good := lw_good_in (n := 1273) (by decide +kernel) rfl
theorem kcX8_118 : Cond.constant RX8 118 (nI 80000) ∈ lw_good := lw_good_in (n := 1295) (by decide +kernel) rfl
theorem kcX8_119 : Cond.constant RX8 119 (nI 100000) ∈ lw_good := lw_good_in (n := 1296) (by decide +kernel) rfl
theorem kcX8_32 : Cond.constant RX8 32 (nI 1000000) ∈ lw_good := lw_good_in (n := 1297) (by decide +kernel) rfl
theorem kcX8_37 : Cond.constant RX8 37 (nI 6000000) ∈ lw_good := lw_good_in (n := 1302) (by decide +kernel) rfl
theorem kcX8_84 : Cond.constantLong RX8 84 (10000000000) ∈ lw_good := lw_good_in (n := 1400) (by decide +kernel) rfl
theorem kcX8_86 : Cond.constantLong RX8 86 (10) ∈ lw_good := lw_good_in (n := 1401) (by decide +kernel) rfl
theorem kcX8_88 : Cond.constantLong RX8 88 (48) ∈ lw_good := lw_good_in (n := 1402) (by decide +kernel) rfl
theorem lmX8_90 : Cond.methodLink RX8 90 Lib.MathLoose.min_long.x ∈ lw_good := lw_good_in (n := 1403) (by decide +kernel) rfl
theorem kcX8_123 : Cond.constant RX8 123 (nI 99999999) ∈ lw_good := lw_good_in (n := 1427) (by decide +kernel) rfl
theorem kcX8_150 : Cond.constant RX8 150 (nI 10000000) ∈ lw_good := lw_good_in (n := 1443) (by decide +kernel) rfl
theorem kcX8_180 : Cond.constantLong RX8 180 (3) ∈ lw_good := lw_good_in (n := 1478) (by decide +kernel) rfl
theorem kcX8_199 : Cond.constantLong RX8 199 (9) ∈ lw_good := lw_good_in (n := 1479) (by decide +kernel) rfl
theorem kcX8_182 : Cond.constantLong RX8 182 (10000000) ∈ lw_good := lw_good_in (n := 1483) (by decide +kernel) rfl
theorem kcX8_174 : Cond.constantLong RX8 174 (359) ∈ lw_good := lw_good_in (n := 1487) (by decide +kernel) rfl
theorem kcX8_176 : Cond.constantLong RX8 176 (-1) ∈ lw_good := lw_good_in (n := 1491) (by decide +kernel) rfl
theorem kcX8_216 : Cond.constantLong RX8 216 (500) ∈ lw_good := lw_good_in (n := 1524) (by decide +kernel) rfl
theorem lmX8_254 : Cond.methodLink RX8 254 Lib.Math.max.name ∈ lw_good := lw_good_in (n := 1541) (by decide +kernel) rfl
theorem lmX8_257 : Cond.methodLink RX8 257 Lib.Math.min.name ∈ lw_good := lw_good_in (n := 1542) (by decide +kernel) rfl
theorem kcX8_225 : Cond.constantLong RX8 225 (5000000) ∈ lw_good := lw_good_in (n := 1547) (by decide +kernel) rfl
theorem kcX8_227 : Cond.constantLong RX8 227 (120) ∈ lw_good := lw_good_in (n := 1548) (by decide +kernel) rfl
theorem kcX8_324 : Cond.constantLong RX8 324 (4) ∈ lw_good := lw_good_in (n := 1653) (by decide +kernel) rfl
theorem kcX8_317 : Cond.constantLong RX8 317 (9223372036854775807) ∈ lw_good := lw_good_in (n := 1662) (by decide +kernel) rfl
theorem kcX8_322 : Cond.constantLong RX8 322 (1000) ∈ lw_good := lw_good_in (n := 1667) (by decide +kernel) rfl
theorem lmX8_330 : Cond.methodLink RX8 330 Lib.MathLoose.max_long.x ∈ lw_good := lw_good_in (n := 1668) (by decide +kernel) rfl
theorem kcX8_249 : Cond.constantLong RX8 249 (-10000000) ∈ lw_good := lw_good_in (n := 1673) (by decide +kernel) rfl
theorem kcX8_344 : Cond.constantLong RX8 344 (6) ∈ lw_good := lw_good_in (n := 1698) (by decide +kernel) rfl
theorem kcX8_346 : Cond.constantLong RX8 346 (2) ∈ lw_good := lw_good_in (n := 1723) (by decide +kernel) rfl
theorem kcX8_178 : Cond.constantLong RX8 178 (11) ∈ lw_good := lw_good_in (n := 1731) (by decide +kernel) rfl
theorem kcX8_354 : Cond.constantLong RX8 354 (5) ∈ lw_good := lw_good_in (n := 1739) (by decide +kernel) rfl
theorem kcX8_374 : Cond.constantLong RX8 374 (100000000) ∈ lw_good := lw_good_in (n := 1828) (by decide +kernel) rfl
theorem kcX8_380 : Cond.constant RX8 380 (nI 100000000) ∈ lw_good := lw_good_in (n := 1832) (by decide +kernel) rfl
abbrev RV : Type := Nat × (Nat → Nat → Int32)
/-- rooms: area, from, to -/
def RoomA (cy : Nat → ClassId) (A : AH) (b : Nat) (Rm : RV) : Prop := A b = some (.inr (3, [.int (nI Rm.1), .ref (b + 1), .ref (b + 2), .ref (b + 3)])) ∧ A (b + 1) = some (.inl (cy 0, 6, .inl (Rm.2 0))) ∧ A (b + 2) = some (.inl (cy 0, 6, .inl (Rm.2 1))) ∧ A (b + 3) = some (.inl (cy 0, 6, .inl (Rm.2 2)))
/-- assets: price, day, life, sort, soldDay, soldPrice -/
def AssA (cy : Nat → ClassId) (A : AH) (b : Nat) (As : RV) : Prop := A b = some (.inr (0, [.int (nI As.1), .ref (b + 1), .ref (b + 2), .ref (b + 3), .ref (b + 4), .ref (b + 5), .ref (b + 6)])) ∧ A (b + 1) = some (.inl (cy 0, 12, .inl (As.2 0))) ∧ A (b + 2) = some (.inl (cy 0, 12, .inl (As.2 1))) ∧ A (b + 3) = some (.inl (cy 0, 12, .inl (As.2 2))) ∧ A (b + 4) = some (.inl (cy 0, 12, .inl (As.2 3))) ∧ A (b + 5) = some (.inl (cy 0, 12, .inl (As.2 4))) ∧ A (b + 6) = some (.inl (cy 0, 12, .inl (As.2 5)))
/-- the setup: how many brackets; scalars start, smallLimit, poolLimit, interestRate, topRate; limits, rates -/
abbrev SV : Type := Nat × (Nat → Int32) × (Nat → Nat → Int32)
def SetA (cy : Nat → ClassId) (A : AH) (b : Nat) (S : SV) : Prop := A b = some (.inr (4, [.int (S.2.1 0), .int (S.2.1 1), .int (S.2.1 2), .int (S.2.1 3), .int (S.2.1 4), .int (nI S.1), .ref (b + 1), .ref (b + 2), .ref (b + 3)])) ∧ A (b + 1) = some (.inl (cy 0, 5, .inl (S.2.2 0))) ∧ A (b + 2) = some (.inl (cy 0, 5, .inl (S.2.2 1)))
def rDays (Rm : RV) (f t : Int32) (i : Nat) : Int32 :=
  if Rm.2 1 i = -1 ∨ (if Rm.2 2 i < t then Rm.2 2 i else t) < (if f < Rm.2 1 i then Rm.2 1 i else f) then nI 0
  else (if Rm.2 2 i < t then Rm.2 2 i else t) - (if f < Rm.2 1 i then Rm.2 1 i else f) + nI 1
def sumI (f : Nat → Int32) : Nat → Int32
  | 0 => nI 0
  | n + 1 => sumI f n + f n
def sumL (z0 : Int64) (f : Nat → Int64) : Nat → Int64
  | 0 => z0
  | n + 1 => sumL z0 f n + f n
def rUsed (Rm : RV) (mo : Int32) : Int32 := sumI (fun i => Rm.2 0 i * rDays Rm (mo * nI 30) (mo * nI 30 + nI 30 - nI 1) i) Rm.1
def rWhole (Rm : RV) : Int32 := sumI (fun i => Rm.2 0 i * nI 30) Rm.1
def aSoldBy (As : RV) (mo : Int32) (i : Nat) : Bool := As.2 4 i != -1 && decide (As.2 4 i / nI 30 ≤ mo)
def aWU (As : RV) (i : Nat) (mo : Int32) : Int32 :=
  if As.2 3 i = nI 1 ∨ mo - As.2 1 i / nI 30 + nI 1 < nI 1 then nI 0
  else if As.2 3 i = 0 ∨ As.2 2 i ≤ mo - As.2 1 i / nI 30 + nI 1 ∨ aSoldBy As mo i = true then As.2 0 i
  else As.2 0 i * (mo - As.2 1 i / nI 30 + nI 1) / As.2 2 i
def aVal (As : RV) (i : Nat) (mo : Int32) : Int32 :=
  if As.2 3 i = nI 1 ∨ mo < As.2 1 i / nI 30 ∨ aSoldBy As mo i = true then nI 0 else As.2 0 i - aWU As i mo
def sumQ (q : Nat → Bool) (f : Nat → Int32) : Nat → Int32
  | 0 => nI 0
  | n + 1 => if q n then sumQ q f n + f n else sumQ q f n
def aPool (As : RV) (qu : Int32) : Int32 := sumQ (fun i => As.2 3 i == nI 1 && decide (As.2 1 i / nI 90 ≤ qu)) (fun i => As.2 0 i) As.1
def aPW (As : RV) (qu : Int32) : Int32 := aPool As qu * (qu + nI 1) / nI 20
def aAll (As : RV) (qu : Int32) : Int64 := sumL (aPW As qu).toInt64 (fun i => (aWU As i ((qu + nI 1) * nI 3 - nI 1)).toInt64) As.1
def aSoldFor (As : RV) (f t : Int32) : Int64 := sumN (fun i => As.2 4 i != -1 && (decide (f ≤ As.2 4 i) && decide (As.2 4 i ≤ t))) (fun i => (As.2 5 i).toInt64) As.1
def within9 (v a b : Int32) : Bool := decide (a ≤ v) && decide (v ≤ b)
def sSort (S : SV) (pr : Int32) : Int32 := if pr ≤ S.2.1 1 then nI 0 else if pr ≤ S.2.1 2 then nI 1 else nI 2
def taxSt (S : SV) (am : Int64) : Nat → Int64 × Int64
  | 0 => (0, 0)
  | n + 1 => let w := taxSt S am n
    let mn : Int64 := if (S.2.2 0 n).toInt64 < am then (S.2.2 0 n).toInt64 else am
    (w.1 + (if mn - w.2 < 0 then 0 else mn - w.2) * (S.2.2 1 n).toInt64, (S.2.2 0 n).toInt64)
def sTax (S : SV) (am : Int64) : Int64 := if am ≤ 0 then 0 else ((taxSt S am S.1).1 + (if am - (taxSt S am S.1).2 < 0 then 0 else am - (taxSt S am S.1).2) * (S.2.1 4).toInt64) / 1000
theorem n10 : ¬ nI 1 = 0 := by decide
def rateN (S : SV) (am : Int32) : Nat → Nat → Int32
  | 0, _ => S.2.1 4
  | k + 1, i => if S.2.2 0 i < am then rateN S am k (i + 1) else S.2.2 1 i
def sRate (S : SV) (am : Int32) : Int32 := rateN S am S.1 0

set_option maxRecDepth 100000 in
set_option maxHeartbeats 400000 in
theorem cr_X7_within (l : Launch) (D : va_G) (cy : Nat → ClassId) (B : Nat) (od : Nat → Option Nat) {A : AH} {v a1 b1 : Int32} : CR l D cy B od yX7_within cX7_within 3 (some .boolean) rmX7_within [.int v, .int a1, .int b1] A (.int (bI (within9 v a1 b1))) := by
  intro z
  refine CT.of (by decide) tX7_within okX7_within (Nat.le_of_ble_eq_true rfl) (q0 := tX7_within[0]) rfl rfl ?_
  intro p e s m args below meth c X _
  refine g_iload_n X rfl rfl ?_
  refine g_iload_n X rfl rfl ?_
  refine g_icmp_lt X rfl (fun h1 => ?_) (fun h1 => ?_)
  · refine g_iconst X rfl (v := nI 0) (by decide) ?_
    refine g_iret X rfl rfl (by first | rfl | exact bI_nar _ | decide) (Nat.le_refl _) (Nat.le_refl _) ⟨?_, rfl, rfl⟩
    first | exact bR0 (by simp_all [within9, ← Int32.not_le, ← Int64.not_le]) | exact bR1 (by simp_all [within9, ← Int32.not_le, ← Int64.not_le])
  · refine g_iload_n X rfl rfl ?_
    refine g_iload_n X rfl rfl ?_
    refine g_icmp_gt X rfl (fun h2 => ?_) (fun h2 => ?_)
    · refine g_iconst X rfl (v := nI 0) (by decide) ?_
      refine g_iret X rfl rfl (by first | rfl | exact bI_nar _ | decide) (Nat.le_refl _) (Nat.le_refl _) ⟨?_, rfl, rfl⟩
      first | exact bR0 (by simp_all [within9, ← Int32.not_le, ← Int64.not_le]) | exact bR1 (by simp_all [within9, ← Int32.not_le, ← Int64.not_le])
    · refine g_iconst X rfl (v := nI 1) (by decide) ?_
      refine g_goto X rfl ?_
      refine g_iret X rfl rfl (by first | rfl | exact bI_nar _ | decide) (Nat.le_refl _) (Nat.le_refl _) ⟨?_, rfl, rfl⟩
      first | exact bR0 (by simp_all [within9, ← Int32.not_le, ← Int64.not_le]) | exact bR1 (by simp_all [within9, ← Int32.not_le, ← Int64.not_le])
set_option maxRecDepth 100000 in
set_option maxHeartbeats 400000 in
theorem cr_X3_daysUsed (l : Launch) (D : va_G) (cy : Nat → ClassId) (B : Nat) (od : Nat → Option Nat) {A : AH} {b : Nat} {Rm : RV} (h9 : RoomA cy A b Rm) {i : Nat} (hi : i < 6) {f t : Int32} : CR l D cy B od yX3_daysUsed cX3_daysUsed 6 (some .int) rmX3_daysUsed [.ref b, .int (nI i), .int f, .int t] A (.int (rDays Rm f t i)) := by
  intro z
  refine CT.of (by decide) tX3_daysUsed okX3_daysUsed (Nat.le_of_ble_eq_true rfl) (q0 := tX3_daysUsed[0]) rfl rfl ?_
  intro p e s m args below meth c X _
  obtain ⟨hq, hq0, hq1, hq2⟩ := id h9
  refine g_aload_n X rfl rfl ?_
  refine g_get X rfl flX3_15 (ci := 3) rfl hq rfl ?_
  refine g_iload_n X rfl rfl ?_
  refine g_ialdN X rfl hq1 (by omega) (by decide) ?_
  refine g_iload_n X rfl rfl ?_
  refine g_icmp_le X rfl (fun h1 => ?_) (fun h1 => ?_)
  · refine g_iload_n X rfl rfl ?_
    refine g_istore X rfl (by decide) ?_
    refine g_aload_n X rfl rfl ?_
    refine g_get X rfl flX3_18 (ci := 3) rfl hq rfl ?_
    refine g_iload_n X rfl rfl ?_
    refine g_ialdN X rfl hq2 (by omega) (by decide) ?_
    refine g_iload_n X rfl rfl ?_
    refine g_icmp_ge X rfl (fun h2 => ?_) (fun h2 => ?_)
    · refine g_iload_n X rfl rfl ?_
      refine g_istore X rfl (by decide) ?_
      refine g_aload_n X rfl rfl ?_
      refine g_get X rfl flX3_15 (ci := 3) rfl hq rfl ?_
      refine g_iload_n X rfl rfl ?_
      refine g_ialdN X rfl hq1 (by omega) (by decide) ?_
      refine g_iconst X rfl (v := (-1)) (by decide) ?_
      refine g_icmp_eq X rfl (fun h3 => ?_) (fun h3 => ?_)
      · refine g_iconst X rfl (v := nI 0) (by decide) ?_
        refine g_goto X rfl ?_
        refine g_iret X rfl rfl (by first | rfl | exact bI_nar _ | decide) (Nat.le_refl _) (Nat.le_refl _) ⟨?_, rfl, rfl⟩
        first | (simp_all [rDays]; done) | (simp_all [rDays, ← Int32.not_le]; done)
      · refine g_iload X rfl rfl ?_
        refine g_iload X rfl rfl ?_
        refine g_icmp_ge X rfl (fun h4 => ?_) (fun h4 => ?_)
        · refine g_iload X rfl rfl ?_
          refine g_iload X rfl rfl ?_
          refine g_isub X rfl ?_
          refine g_iconst X rfl (v := nI 1) (by decide) ?_
          refine g_iadd X rfl ?_
          refine g_iret X rfl rfl (by first | rfl | exact bI_nar _ | decide) (Nat.le_refl _) (Nat.le_refl _) ⟨?_, rfl, rfl⟩
          first | (simp_all [rDays]; done) | (simp_all [rDays, ← Int32.not_le]; done)
        · refine g_iconst X rfl (v := nI 0) (by decide) ?_
          refine g_goto X rfl ?_
          refine g_iret X rfl rfl (by first | rfl | exact bI_nar _ | decide) (Nat.le_refl _) (Nat.le_refl _) ⟨?_, rfl, rfl⟩
          first | (simp_all [rDays]; done) | (simp_all [rDays, ← Int32.not_le]; done)
    · refine g_aload_n X rfl rfl ?_
      refine g_get X rfl flX3_18 (ci := 3) rfl hq rfl ?_
      refine g_iload_n X rfl rfl ?_
      refine g_ialdN X rfl hq2 (by omega) (by decide) ?_
      refine g_goto X rfl ?_
      refine g_istore X rfl (by decide) ?_
      refine g_aload_n X rfl rfl ?_
      refine g_get X rfl flX3_15 (ci := 3) rfl hq rfl ?_
      refine g_iload_n X rfl rfl ?_
      refine g_ialdN X rfl hq1 (by omega) (by decide) ?_
      refine g_iconst X rfl (v := (-1)) (by decide) ?_
      refine g_icmp_eq X rfl (fun h5 => ?_) (fun h5 => ?_)
      · refine g_iconst X rfl (v := nI 0) (by decide) ?_
        refine g_goto X rfl ?_
        refine g_iret X rfl rfl (by first | rfl | exact bI_nar _ | decide) (Nat.le_refl _) (Nat.le_refl _) ⟨?_, rfl, rfl⟩
        first | (simp_all [rDays]; done) | (simp_all [rDays, ← Int32.not_le]; done)
      · refine g_iload X rfl rfl ?_
        refine g_iload X rfl rfl ?_
        refine g_icmp_ge X rfl (fun h6 => ?_) (fun h6 => ?_)
        · refine g_iload X rfl rfl ?_
          refine g_iload X rfl rfl ?_
          refine g_isub X rfl ?_
          refine g_iconst X rfl (v := nI 1) (by decide) ?_
          refine g_iadd X rfl ?_
          refine g_iret X rfl rfl (by first | rfl | exact bI_nar _ | decide) (Nat.le_refl _) (Nat.le_refl _) ⟨?_, rfl, rfl⟩
          first | (simp_all [rDays]; done) | (simp_all [rDays, ← Int32.not_le]; done)
        · refine g_iconst X rfl (v := nI 0) (by decide) ?_
          refine g_goto X rfl ?_
          refine g_iret X rfl rfl (by first | rfl | exact bI_nar _ | decide) (Nat.le_refl _) (Nat.le_refl _) ⟨?_, rfl, rfl⟩
          first | (simp_all [rDays]; done) | (simp_all [rDays, ← Int32.not_le]; done)
  · refine g_aload_n X rfl rfl ?_
    refine g_get X rfl flX3_15 (ci := 3) rfl hq rfl ?_
    refine g_iload_n X rfl rfl ?_
    refine g_ialdN X rfl hq1 (by omega) (by decide) ?_
    refine g_goto X rfl ?_
    refine g_istore X rfl (by decide) ?_
    refine g_aload_n X rfl rfl ?_
    refine g_get X rfl flX3_18 (ci := 3) rfl hq rfl ?_
    refine g_iload_n X rfl rfl ?_
    refine g_ialdN X rfl hq2 (by omega) (by decide) ?_
    refine g_iload_n X rfl rfl ?_
    refine g_icmp_ge X rfl (fun h7 => ?_) (fun h7 => ?_)
    · refine g_iload_n X rfl rfl ?_
      refine g_istore X rfl (by decide) ?_
      refine g_aload_n X rfl rfl ?_
      refine g_get X rfl flX3_15 (ci := 3) rfl hq rfl ?_
      refine g_iload_n X rfl rfl ?_
      refine g_ialdN X rfl hq1 (by omega) (by decide) ?_
      refine g_iconst X rfl (v := (-1)) (by decide) ?_
      refine g_icmp_eq X rfl (fun h8 => ?_) (fun h8 => ?_)
      · refine g_iconst X rfl (v := nI 0) (by decide) ?_
        refine g_goto X rfl ?_
        refine g_iret X rfl rfl (by first | rfl | exact bI_nar _ | decide) (Nat.le_refl _) (Nat.le_refl _) ⟨?_, rfl, rfl⟩
        first | (simp_all [rDays]; done) | (simp_all [rDays, ← Int32.not_le]; done)
      · refine g_iload X rfl rfl ?_
        refine g_iload X rfl rfl ?_
        refine g_icmp_ge X rfl (fun h9 => ?_) (fun h9 => ?_)
        · refine g_iload X rfl rfl ?_
          refine g_iload X rfl rfl ?_
          refine g_isub X rfl ?_
          refine g_iconst X rfl (v := nI 1) (by decide) ?_
          refine g_iadd X rfl ?_
          refine g_iret X rfl rfl (by first | rfl | exact bI_nar _ | decide) (Nat.le_refl _) (Nat.le_refl _) ⟨?_, rfl, rfl⟩
          first | (simp_all [rDays]; done) | (simp_all [rDays, ← Int32.not_le]; done)
        · refine g_iconst X rfl (v := nI 0) (by decide) ?_
          refine g_goto X rfl ?_
          refine g_iret X rfl rfl (by first | rfl | exact bI_nar _ | decide) (Nat.le_refl _) (Nat.le_refl _) ⟨?_, rfl, rfl⟩
          first | (simp_all [rDays]; done) | (simp_all [rDays, ← Int32.not_le]; done)
    · refine g_aload_n X rfl rfl ?_
      refine g_get X rfl flX3_18 (ci := 3) rfl hq rfl ?_
      refine g_iload_n X rfl rfl ?_
      refine g_ialdN X rfl hq2 (by omega) (by decide) ?_
      refine g_goto X rfl ?_
      refine g_istore X rfl (by decide) ?_
      refine g_aload_n X rfl rfl ?_
      refine g_get X rfl flX3_15 (ci := 3) rfl hq rfl ?_
      refine g_iload_n X rfl rfl ?_
      refine g_ialdN X rfl hq1 (by omega) (by decide) ?_
      refine g_iconst X rfl (v := (-1)) (by decide) ?_
      refine g_icmp_eq X rfl (fun h10 => ?_) (fun h10 => ?_)
      · refine g_iconst X rfl (v := nI 0) (by decide) ?_
        refine g_goto X rfl ?_
        refine g_iret X rfl rfl (by first | rfl | exact bI_nar _ | decide) (Nat.le_refl _) (Nat.le_refl _) ⟨?_, rfl, rfl⟩
        first | (simp_all [rDays]; done) | (simp_all [rDays, ← Int32.not_le]; done)
      · refine g_iload X rfl rfl ?_
        refine g_iload X rfl rfl ?_
        refine g_icmp_ge X rfl (fun h11 => ?_) (fun h11 => ?_)
        · refine g_iload X rfl rfl ?_
          refine g_iload X rfl rfl ?_
          refine g_isub X rfl ?_
          refine g_iconst X rfl (v := nI 1) (by decide) ?_
          refine g_iadd X rfl ?_
          refine g_iret X rfl rfl (by first | rfl | exact bI_nar _ | decide) (Nat.le_refl _) (Nat.le_refl _) ⟨?_, rfl, rfl⟩
          first | (simp_all [rDays]; done) | (simp_all [rDays, ← Int32.not_le]; done)
        · refine g_iconst X rfl (v := nI 0) (by decide) ?_
          refine g_goto X rfl ?_
          refine g_iret X rfl rfl (by first | rfl | exact bI_nar _ | decide) (Nat.le_refl _) (Nat.le_refl _) ⟨?_, rfl, rfl⟩
          first | (simp_all [rDays]; done) | (simp_all [rDays, ← Int32.not_le]; done)
set_option maxRecDepth 100000 in
set_option maxHeartbeats 400000 in
theorem lp_X3_usedIn (l : Launch) (D : va_G) (cy : Nat → ClassId) (B : Nat) (od : Nat → Option Nat) {p : Program} {e : Env} {s : State} {m : MethodId} {args : Array Value} {below : List Frame} {meth : Method} {c : Code} {A : AH} {z : Nat} {b : Nat} {Rm : RV} (h9 : RoomA cy A b Rm) (hn : Rm.1 ≤ 6) {mo : Int32} (X : Cx p s m args meth c D cy B od cX3_usedIn 5 tX3_usedIn RX3 (some .int)) : ∀ (k i : Nat), 0 ≤ i → i ≤ Rm.1 → Rm.1 - i < k → G p l e rmX3_usedIn s m args below meth c D B od 5 tX3_usedIn (FinQ false D B od (fun v A' z' => v = some (.int (rUsed Rm mo)) ∧ A' = A ∧ z' = z) (fun _ _ => True) args s below 0 0) 0 0 A z 8 [some (.ref b), some (.int mo), some (.int (mo * nI 30)), some (.int (sumI (fun i => Rm.2 0 i * rDays Rm (mo * nI 30) (mo * nI 30 + nI 30 - nI 1) i) i)), some (.int (nI i))] [] := by
  obtain ⟨hq, hq0, hq1, hq2⟩ := id h9
  intro k
  induction k with
  | zero => intro i _ _ h; omega
  | succ k ih =>
    intro i hlo hi hk
    refine g_iload X rfl rfl ?_
    refine g_aload_n X rfl rfl ?_
    refine g_get X rfl flX3_21 (ci := 3) rfl hq rfl ?_
    first | refine g_ic_geN X rfl (by omega) (by omega) (fun h1 => ?_) (fun h1 => ?_) | refine g_icmp_ge X rfl (fun h1 => ?_) (fun h1 => ?_)
    · refine g_iload_n X rfl rfl ?_
      refine g_iret X rfl rfl (by first | rfl | exact bI_nar _ | decide) (Nat.le_refl _) (Nat.le_refl _) ⟨?_, rfl, rfl⟩
      rw [show i = Rm.1 by omega]; rfl
    · refine g_iload_n X rfl rfl ?_
      refine g_aload_n X rfl rfl ?_
      refine g_get X rfl flX3_9 (ci := 3) rfl hq rfl ?_
      refine g_iload X rfl rfl ?_
      refine g_ialdN X rfl hq0 (by omega) (by decide) ?_
      refine g_aload_n X rfl rfl ?_
      refine g_iload X rfl rfl ?_
      refine g_iload_n X rfl rfl ?_
      refine g_iload_n X rfl rfl ?_
      refine g_bipush X rfl (v := nI 30) (by decide) ?_
      refine g_iadd X rfl ?_
      refine g_iconst X rfl (v := nI 1) (by decide) ?_
      refine g_isub X rfl ?_
      refine g_rV X rfl lcX3_daysUsed lmX3_25 lsX3_daysUsed (cr_X3_daysUsed l D cy B od (Rm := Rm) (i := i) ⟨hq, hq0, hq1, hq2⟩ (by omega)) (ci := 3) hq rfl rfl rfl (Nat.le_of_ble_eq_true rfl) ⟨⟨by decide, by decide⟩, rfl, rfl⟩ ⟨Nat.zero_le _, Nat.zero_le _⟩ ?_
      refine g_imul X rfl ?_
      refine g_iadd X rfl ?_
      refine g_istore_n X rfl (by decide) ?_
      refine g_iinc1 X rfl rfl (by decide) ?_
      refine g_goto X rfl ?_
      have K9 := ih (i + 1) (by omega) (by omega) (by omega)
      exact K9
set_option maxRecDepth 100000 in
set_option maxHeartbeats 400000 in
theorem cr_X3_usedIn (l : Launch) (D : va_G) (cy : Nat → ClassId) (B : Nat) (od : Nat → Option Nat) {A : AH} {b : Nat} {Rm : RV} (h9 : RoomA cy A b Rm) (hn : Rm.1 ≤ 6) {mo : Int32} : CR l D cy B od yX3_usedIn cX3_usedIn 5 (some .int) rmX3_usedIn [.ref b, .int mo] A (.int (rUsed Rm mo)) := by
  intro z
  refine CT.of (by decide) tX3_usedIn okX3_usedIn (Nat.le_of_ble_eq_true rfl) (q0 := tX3_usedIn[0]) rfl rfl ?_
  intro p e s m args below meth c X _
  refine g_iload_n X rfl rfl ?_
  refine g_bipush X rfl (v := nI 30) (by decide) ?_
  refine g_imul X rfl ?_
  refine g_istore_n X rfl (by decide) ?_
  refine g_iconst X rfl (v := nI 0) (by decide) ?_
  refine g_istore_n X rfl (by decide) ?_
  refine g_iconst X rfl (v := nI 0) (by decide) ?_
  refine g_istore X rfl (by decide) ?_
  exact lp_X3_usedIn l D cy B od h9 hn (mo := mo) X (Rm.1 + 1) 0 (by omega) (by omega) (by omega)
set_option maxRecDepth 100000 in
set_option maxHeartbeats 400000 in
theorem lp_X3_wholeMonth (l : Launch) (D : va_G) (cy : Nat → ClassId) (B : Nat) (od : Nat → Option Nat) {p : Program} {e : Env} {s : State} {m : MethodId} {args : Array Value} {below : List Frame} {meth : Method} {c : Code} {A : AH} {z : Nat} {b : Nat} {Rm : RV} (h9 : RoomA cy A b Rm) (hn : Rm.1 ≤ 6) (X : Cx p s m args meth c D cy B od cX3_wholeMonth 3 tX3_wholeMonth RX3 (some .int)) : ∀ (k i : Nat), 0 ≤ i → i ≤ Rm.1 → Rm.1 - i < k → G p l e rmX3_wholeMonth s m args below meth c D B od 3 tX3_wholeMonth (FinQ false D B od (fun v A' z' => v = some (.int (rWhole Rm)) ∧ A' = A ∧ z' = z) (fun _ _ => True) args s below 0 0) 0 0 A z 4 [some (.ref b), some (.int (sumI (fun i => Rm.2 0 i * nI 30) i)), some (.int (nI i))] [] := by
  obtain ⟨hq, hq0, hq1, hq2⟩ := id h9
  intro k
  induction k with
  | zero => intro i _ _ h; omega
  | succ k ih =>
    intro i hlo hi hk
    refine g_iload_n X rfl rfl ?_
    refine g_aload_n X rfl rfl ?_
    refine g_get X rfl flX3_21 (ci := 3) rfl hq rfl ?_
    first | refine g_ic_geN X rfl (by omega) (by omega) (fun h1 => ?_) (fun h1 => ?_) | refine g_icmp_ge X rfl (fun h1 => ?_) (fun h1 => ?_)
    · refine g_iload_n X rfl rfl ?_
      refine g_iret X rfl rfl (by first | rfl | exact bI_nar _ | decide) (Nat.le_refl _) (Nat.le_refl _) ⟨?_, rfl, rfl⟩
      rw [show i = Rm.1 by omega]; rfl
    · refine g_iload_n X rfl rfl ?_
      refine g_aload_n X rfl rfl ?_
      refine g_get X rfl flX3_9 (ci := 3) rfl hq rfl ?_
      refine g_iload_n X rfl rfl ?_
      refine g_ialdN X rfl hq0 (by omega) (by decide) ?_
      refine g_bipush X rfl (v := nI 30) (by decide) ?_
      refine g_imul X rfl ?_
      refine g_iadd X rfl ?_
      refine g_istore_n X rfl (by decide) ?_
      refine g_iinc1 X rfl rfl (by decide) ?_
      refine g_goto X rfl ?_
      have K9 := ih (i + 1) (by omega) (by omega) (by omega)
      exact K9
set_option maxRecDepth 100000 in
set_option maxHeartbeats 400000 in
theorem cr_X3_wholeMonth (l : Launch) (D : va_G) (cy : Nat → ClassId) (B : Nat) (od : Nat → Option Nat) {A : AH} {b : Nat} {Rm : RV} (h9 : RoomA cy A b Rm) (hn : Rm.1 ≤ 6) : CR l D cy B od yX3_wholeMonth cX3_wholeMonth 3 (some .int) rmX3_wholeMonth [.ref b] A (.int (rWhole Rm)) := by
  intro z
  refine CT.of (by decide) tX3_wholeMonth okX3_wholeMonth (Nat.le_of_ble_eq_true rfl) (q0 := tX3_wholeMonth[0]) rfl rfl ?_
  intro p e s m args below meth c X _
  refine g_iconst X rfl (v := nI 0) (by decide) ?_
  refine g_istore_n X rfl (by decide) ?_
  refine g_iconst X rfl (v := nI 0) (by decide) ?_
  refine g_istore_n X rfl (by decide) ?_
  exact lp_X3_wholeMonth l D cy B od h9 hn X (Rm.1 + 1) 0 (by omega) (by omega) (by omega)
set_option maxRecDepth 100000 in
set_option maxHeartbeats 400000 in
theorem lp_X0_soldOnes (l : Launch) (D : va_G) (cy : Nat → ClassId) (B : Nat) (od : Nat → Option Nat) {p : Program} {e : Env} {s : State} {m : MethodId} {args : Array Value} {below : List Frame} {meth : Method} {c : Code} {A : AH} {z : Nat} {b : Nat} {As : RV} (h9 : AssA cy A b As) (hn : As.1 ≤ 12) (X : Cx p s m args meth c D cy B od cX0_soldOnes 3 tX0_soldOnes RX0 (some .int)) : ∀ (k i : Nat), 0 ≤ i → i ≤ As.1 → As.1 - i < k → G p l e rmX0_soldOnes s m args below meth c D B od 3 tX0_soldOnes (FinQ false D B od (fun v A' z' => v = some (.int (nI (cntN (fun i => !(As.2 4 i == -1)) As.1))) ∧ A' = A ∧ z' = z) (fun _ _ => True) args s below 0 0) 0 0 A z 4 [some (.ref b), some (.int (nI (cntN (fun i => !(As.2 4 i == -1)) i))), some (.int (nI i))] [] := by
  obtain ⟨hq, hq0, hq1, hq2, hq3, hq4, hq5⟩ := id h9
  intro k
  induction k with
  | zero => intro i _ _ h; omega
  | succ k ih =>
    intro i hlo hi hk
    have hc9 := cntN_le (fun i => !(As.2 4 i == -1)) i
    refine g_iload_n X rfl rfl ?_
    refine g_aload_n X rfl rfl ?_
    refine g_get X rfl flX0_30 (ci := 0) rfl hq rfl ?_
    first | refine g_ic_geN X rfl (by omega) (by omega) (fun h1 => ?_) (fun h1 => ?_) | refine g_icmp_ge X rfl (fun h1 => ?_) (fun h1 => ?_)
    · refine g_iload_n X rfl rfl ?_
      refine g_iret X rfl rfl (by first | rfl | exact bI_nar _ | decide) (Nat.le_refl _) (Nat.le_refl _) ⟨?_, rfl, rfl⟩
      rw [show i = As.1 by omega]
    · refine g_aload_n X rfl rfl ?_
      refine g_get X rfl flX0_24 (ci := 0) rfl hq rfl ?_
      refine g_iload_n X rfl rfl ?_
      refine g_ialdN X rfl hq4 (by omega) (by decide) ?_
      refine g_iconst X rfl (v := (-1)) (by decide) ?_
      first | refine g_ic_eqN X rfl (by omega) (by omega) (fun h2 => ?_) (fun h2 => ?_) | refine g_icmp_eq X rfl (fun h2 => ?_) (fun h2 => ?_)
      · refine g_iinc1 X rfl rfl (by decide) ?_
        refine g_goto X rfl ?_
        have K9 := ih (i + 1) (by omega) (by omega) (by omega)
        first | (rw [show cntN (fun i => !(As.2 4 i == -1)) (i + 1) = cntN (fun i => !(As.2 4 i == -1)) i + 1 by rw [cntN, if_pos (by simp_all)]] at K9; exact K9) | (rw [show cntN (fun i => !(As.2 4 i == -1)) (i + 1) = cntN (fun i => !(As.2 4 i == -1)) i by rw [cntN, if_neg (by simp_all)]] at K9; exact K9)
      · refine g_iinc1 X rfl rfl (by decide) ?_
        refine g_iinc1 X rfl rfl (by decide) ?_
        refine g_goto X rfl ?_
        have K9 := ih (i + 1) (by omega) (by omega) (by omega)
        first | (rw [show cntN (fun i => !(As.2 4 i == -1)) (i + 1) = cntN (fun i => !(As.2 4 i == -1)) i + 1 by rw [cntN, if_pos (by simp_all)]] at K9; exact K9) | (rw [show cntN (fun i => !(As.2 4 i == -1)) (i + 1) = cntN (fun i => !(As.2 4 i == -1)) i by rw [cntN, if_neg (by simp_all)]] at K9; exact K9)
set_option maxRecDepth 100000 in
set_option maxHeartbeats 400000 in
theorem cr_X0_soldOnes (l : Launch) (D : va_G) (cy : Nat → ClassId) (B : Nat) (od : Nat → Option Nat) {A : AH} {b : Nat} {As : RV} (h9 : AssA cy A b As) (hn : As.1 ≤ 12) : CR l D cy B od yX0_soldOnes cX0_soldOnes 3 (some .int) rmX0_soldOnes [.ref b] A (.int (nI (cntN (fun i => !(As.2 4 i == -1)) As.1))) := by
  intro z
  refine CT.of (by decide) tX0_soldOnes okX0_soldOnes (Nat.le_of_ble_eq_true rfl) (q0 := tX0_soldOnes[0]) rfl rfl ?_
  intro p e s m args below meth c X _
  refine g_iconst X rfl (v := nI 0) (by decide) ?_
  refine g_istore_n X rfl (by decide) ?_
  refine g_iconst X rfl (v := nI 0) (by decide) ?_
  refine g_istore_n X rfl (by decide) ?_
  exact lp_X0_soldOnes l D cy B od h9 hn X (As.1 + 1) 0 (by omega) (by omega) (by omega)
set_option maxRecDepth 100000 in
set_option maxHeartbeats 400000 in
theorem cr_X0_isSoldBy (l : Launch) (D : va_G) (cy : Nat → ClassId) (B : Nat) (od : Nat → Option Nat) {A : AH} {b : Nat} {As : RV} (h9 : AssA cy A b As) {i : Nat} (hi : i < 12) {mo : Int32} : CR l D cy B od yX0_isSoldBy cX0_isSoldBy 3 (some .boolean) rmX0_isSoldBy [.ref b, .int (nI i), .int mo] A (.int (bI (aSoldBy As mo i))) := by
  intro z
  refine CT.of (by decide) tX0_isSoldBy okX0_isSoldBy (Nat.le_of_ble_eq_true rfl) (q0 := tX0_isSoldBy[0]) rfl rfl ?_
  intro p e s m args below meth c X _
  obtain ⟨hq, hq0, hq1, hq2, hq3, hq4, hq5⟩ := id h9
  refine g_aload_n X rfl rfl ?_
  refine g_get X rfl flX0_24 (ci := 0) rfl hq rfl ?_
  refine g_iload_n X rfl rfl ?_
  refine g_ialdN X rfl hq4 (by omega) (by decide) ?_
  refine g_iconst X rfl (v := (-1)) (by decide) ?_
  refine g_icmp_eq X rfl (fun h1 => ?_) (fun h1 => ?_)
  · refine g_iconst X rfl (v := nI 0) (by decide) ?_
    refine g_iret X rfl rfl (by first | rfl | exact bI_nar _ | decide) (Nat.le_refl _) (Nat.le_refl _) ⟨?_, rfl, rfl⟩
    first | exact bR0 (by simp_all [aSoldBy, ← Int32.not_le, ← Int64.not_le]) | exact bR1 (by simp_all [aSoldBy, ← Int32.not_le, ← Int64.not_le])
  · refine g_aload_n X rfl rfl ?_
    refine g_get X rfl flX0_24 (ci := 0) rfl hq rfl ?_
    refine g_iload_n X rfl rfl ?_
    refine g_ialdN X rfl hq4 (by omega) (by decide) ?_
    refine g_bipush X rfl (v := nI 30) (by decide) ?_
    refine g_idiv X rfl (by decide) ?_
    refine g_iload_n X rfl rfl ?_
    refine g_icmp_gt X rfl (fun h2 => ?_) (fun h2 => ?_)
    · refine g_iconst X rfl (v := nI 0) (by decide) ?_
      refine g_iret X rfl rfl (by first | rfl | exact bI_nar _ | decide) (Nat.le_refl _) (Nat.le_refl _) ⟨?_, rfl, rfl⟩
      first | exact bR0 (by simp_all [aSoldBy, ← Int32.not_le, ← Int64.not_le]) | exact bR1 (by simp_all [aSoldBy, ← Int32.not_le, ← Int64.not_le])
    · refine g_iconst X rfl (v := nI 1) (by decide) ?_
      refine g_goto X rfl ?_
      refine g_iret X rfl rfl (by first | rfl | exact bI_nar _ | decide) (Nat.le_refl _) (Nat.le_refl _) ⟨?_, rfl, rfl⟩
      first | exact bR0 (by simp_all [aSoldBy, ← Int32.not_le, ← Int64.not_le]) | exact bR1 (by simp_all [aSoldBy, ← Int32.not_le, ← Int64.not_le])
set_option maxRecDepth 100000 in
set_option maxHeartbeats 400000 in
theorem cr_X0_writtenUpTo (l : Launch) (D : va_G) (cy : Nat → ClassId) (B : Nat) (od : Nat → Option Nat) {A : AH} {b : Nat} {As : RV} (h9 : AssA cy A b As) {i : Nat} (hi : i < 12) (hlf : ¬ As.2 2 i = 0) {mo : Int32} : CR l D cy B od yX0_writtenUpTo cX0_writtenUpTo 4 (some .int) rmX0_writtenUpTo [.ref b, .int (nI i), .int mo] A (.int (aWU As i mo)) := by
  intro z
  refine CT.of (by decide) tX0_writtenUpTo okX0_writtenUpTo (Nat.le_of_ble_eq_true rfl) (q0 := tX0_writtenUpTo[0]) rfl rfl ?_
  intro p e s m args below meth c X _
  obtain ⟨hq, hq0, hq1, hq2, hq3, hq4, hq5⟩ := id h9
  refine g_iload_n X rfl rfl ?_
  refine g_aload_n X rfl rfl ?_
  refine g_get X rfl flX0_15 (ci := 0) rfl hq rfl ?_
  refine g_iload_n X rfl rfl ?_
  refine g_ialdN X rfl hq1 (by omega) (by decide) ?_
  refine g_bipush X rfl (v := nI 30) (by decide) ?_
  refine g_idiv X rfl (by decide) ?_
  refine g_isub X rfl ?_
  refine g_iconst X rfl (v := nI 1) (by decide) ?_
  refine g_iadd X rfl ?_
  refine g_istore_n X rfl (by decide) ?_
  refine g_aload_n X rfl rfl ?_
  refine g_get X rfl flX0_21 (ci := 0) rfl hq rfl ?_
  refine g_iload_n X rfl rfl ?_
  refine g_ialdN X rfl hq3 (by omega) (by decide) ?_
  refine g_iconst X rfl (v := nI 1) (by decide) ?_
  refine g_icmp_eq X rfl (fun h1 => ?_) (fun h1 => ?_)
  · refine g_iconst X rfl (v := nI 0) (by decide) ?_
    refine g_iret X rfl rfl (by first | rfl | exact bI_nar _ | decide) (Nat.le_refl _) (Nat.le_refl _) ⟨?_, rfl, rfl⟩
    first | (simp_all [aWU]; done) | (simp_all [aWU, nI_0, n10]; done) | (simp_all [aWU, nI_0, n10, ← Int32.not_le]; done)
  · refine g_iload_n X rfl rfl ?_
    refine g_iconst X rfl (v := nI 1) (by decide) ?_
    refine g_icmp_ge X rfl (fun h2 => ?_) (fun h2 => ?_)
    · refine g_aload_n X rfl rfl ?_
      refine g_get X rfl flX0_21 (ci := 0) rfl hq rfl ?_
      refine g_iload_n X rfl rfl ?_
      refine g_ialdN X rfl hq3 (by omega) (by decide) ?_
      refine g_if_eq X rfl (fun h3 => ?_) (fun h3 => ?_)
      · refine g_aload_n X rfl rfl ?_
        refine g_get X rfl flX0_9 (ci := 0) rfl hq rfl ?_
        refine g_iload_n X rfl rfl ?_
        refine g_ialdN X rfl hq0 (by omega) (by decide) ?_
        refine g_iret X rfl rfl (by first | rfl | exact bI_nar _ | decide) (Nat.le_refl _) (Nat.le_refl _) ⟨?_, rfl, rfl⟩
        first | (simp_all [aWU]; done) | (simp_all [aWU, nI_0, n10]; done) | (simp_all [aWU, nI_0, n10, ← Int32.not_le]; done)
      · refine g_iload_n X rfl rfl ?_
        refine g_aload_n X rfl rfl ?_
        refine g_get X rfl flX0_18 (ci := 0) rfl hq rfl ?_
        refine g_iload_n X rfl rfl ?_
        refine g_ialdN X rfl hq2 (by omega) (by decide) ?_
        refine g_icmp_ge X rfl (fun h4 => ?_) (fun h4 => ?_)
        · refine g_aload_n X rfl rfl ?_
          refine g_get X rfl flX0_9 (ci := 0) rfl hq rfl ?_
          refine g_iload_n X rfl rfl ?_
          refine g_ialdN X rfl hq0 (by omega) (by decide) ?_
          refine g_iret X rfl rfl (by first | rfl | exact bI_nar _ | decide) (Nat.le_refl _) (Nat.le_refl _) ⟨?_, rfl, rfl⟩
          first | (simp_all [aWU]; done) | (simp_all [aWU, nI_0, n10]; done) | (simp_all [aWU, nI_0, n10, ← Int32.not_le]; done)
        · refine g_aload_n X rfl rfl ?_
          refine g_iload_n X rfl rfl ?_
          refine g_iload_n X rfl rfl ?_
          refine g_rV X rfl lcX0_isSoldBy lmX0_34 lsX0_isSoldBy (cr_X0_isSoldBy l D cy B od (As := As) (i := i) ⟨hq, hq0, hq1, hq2, hq3, hq4, hq5⟩ (by omega)) (ci := 0) hq rfl rfl rfl (Nat.le_of_ble_eq_true rfl) ⟨⟨by decide, by decide⟩, rfl, rfl⟩ ⟨Nat.zero_le _, Nat.zero_le _⟩ ?_
          first | refine g_if_eqB X rfl (fun h5 => ?_) (fun h5 => ?_) | refine g_if_eq X rfl (fun h5 => ?_) (fun h5 => ?_)
          · refine g_aload_n X rfl rfl ?_
            refine g_get X rfl flX0_9 (ci := 0) rfl hq rfl ?_
            refine g_iload_n X rfl rfl ?_
            refine g_ialdN X rfl hq0 (by omega) (by decide) ?_
            refine g_iload_n X rfl rfl ?_
            refine g_imul X rfl ?_
            refine g_aload_n X rfl rfl ?_
            refine g_get X rfl flX0_18 (ci := 0) rfl hq rfl ?_
            refine g_iload_n X rfl rfl ?_
            refine g_ialdN X rfl hq2 (by omega) (by decide) ?_
            refine g_idiv X rfl hlf ?_
            refine g_iret X rfl rfl (by first | rfl | exact bI_nar _ | decide) (Nat.le_refl _) (Nat.le_refl _) ⟨?_, rfl, rfl⟩
            first | (simp_all [aWU]; done) | (simp_all [aWU, nI_0, n10]; done) | (simp_all [aWU, nI_0, n10, ← Int32.not_le]; done)
          · refine g_aload_n X rfl rfl ?_
            refine g_get X rfl flX0_9 (ci := 0) rfl hq rfl ?_
            refine g_iload_n X rfl rfl ?_
            refine g_ialdN X rfl hq0 (by omega) (by decide) ?_
            refine g_iret X rfl rfl (by first | rfl | exact bI_nar _ | decide) (Nat.le_refl _) (Nat.le_refl _) ⟨?_, rfl, rfl⟩
            first | (simp_all [aWU]; done) | (simp_all [aWU, nI_0, n10]; done) | (simp_all [aWU, nI_0, n10, ← Int32.not_le]; done)
    · refine g_iconst X rfl (v := nI 0) (by decide) ?_
      refine g_iret X rfl rfl (by first | rfl | exact bI_nar _ | decide) (Nat.le_refl _) (Nat.le_refl _) ⟨?_, rfl, rfl⟩
      first | (simp_all [aWU]; done) | (simp_all [aWU, nI_0, n10]; done) | (simp_all [aWU, nI_0, n10, ← Int32.not_le]; done)
set_option maxRecDepth 100000 in
set_option maxHeartbeats 400000 in
theorem cr_X0_writtenIn (l : Launch) (D : va_G) (cy : Nat → ClassId) (B : Nat) (od : Nat → Option Nat) {A : AH} {b : Nat} {As : RV} (h9 : AssA cy A b As) {i : Nat} (hi : i < 12) (hlf : ¬ As.2 2 i = 0) {mo : Int32} : CR l D cy B od yX0_writtenIn cX0_writtenIn 3 (some .int) rmX0_writtenIn [.ref b, .int (nI i), .int mo] A (.int (aWU As i mo - aWU As i (mo - nI 1))) := by
  intro z
  refine CT.of (by decide) tX0_writtenIn okX0_writtenIn (Nat.le_of_ble_eq_true rfl) (q0 := tX0_writtenIn[0]) rfl rfl ?_
  intro p e s m args below meth c X _
  obtain ⟨hq, hq0, hq1, hq2, hq3, hq4, hq5⟩ := id h9
  refine g_aload_n X rfl rfl ?_
  refine g_iload_n X rfl rfl ?_
  refine g_iload_n X rfl rfl ?_
  refine g_rV X rfl lcX0_writtenUpTo lmX0_38 lsX0_writtenUpTo (cr_X0_writtenUpTo l D cy B od (As := As) (i := i) ⟨hq, hq0, hq1, hq2, hq3, hq4, hq5⟩ hi hlf) (ci := 0) hq rfl rfl rfl (Nat.le_of_ble_eq_true rfl) ⟨⟨by decide, by decide⟩, rfl, rfl⟩ ⟨Nat.zero_le _, Nat.zero_le _⟩ ?_
  refine g_aload_n X rfl rfl ?_
  refine g_iload_n X rfl rfl ?_
  refine g_iload_n X rfl rfl ?_
  refine g_iconst X rfl (v := nI 1) (by decide) ?_
  refine g_isub X rfl ?_
  refine g_rV X rfl lcX0_writtenUpTo lmX0_38 lsX0_writtenUpTo (cr_X0_writtenUpTo l D cy B od (As := As) (i := i) ⟨hq, hq0, hq1, hq2, hq3, hq4, hq5⟩ hi hlf) (ci := 0) hq rfl rfl rfl (Nat.le_of_ble_eq_true rfl) ⟨⟨by decide, by decide⟩, rfl, rfl⟩ ⟨Nat.zero_le _, Nat.zero_le _⟩ ?_
  refine g_isub X rfl ?_
  refine g_iret X rfl rfl (by first | rfl | exact bI_nar _ | decide) (Nat.le_refl _) (Nat.le_refl _) ⟨?_, rfl, rfl⟩
  rfl
set_option maxRecDepth 100000 in
set_option maxHeartbeats 400000 in
theorem cr_X0_valueAt (l : Launch) (D : va_G) (cy : Nat → ClassId) (B : Nat) (od : Nat → Option Nat) {A : AH} {b : Nat} {As : RV} (h9 : AssA cy A b As) {i : Nat} (hi : i < 12) (hlf : ¬ As.2 2 i = 0) {mo : Int32} : CR l D cy B od yX0_valueAt cX0_valueAt 4 (some .int) rmX0_valueAt [.ref b, .int (nI i), .int mo] A (.int (aVal As i mo)) := by
  intro z
  refine CT.of (by decide) tX0_valueAt okX0_valueAt (Nat.le_of_ble_eq_true rfl) (q0 := tX0_valueAt[0]) rfl rfl ?_
  intro p e s m args below meth c X _
  obtain ⟨hq, hq0, hq1, hq2, hq3, hq4, hq5⟩ := id h9
  refine g_iload_n X rfl rfl ?_
  refine g_aload_n X rfl rfl ?_
  refine g_get X rfl flX0_15 (ci := 0) rfl hq rfl ?_
  refine g_iload_n X rfl rfl ?_
  refine g_ialdN X rfl hq1 (by omega) (by decide) ?_
  refine g_bipush X rfl (v := nI 30) (by decide) ?_
  refine g_idiv X rfl (by decide) ?_
  refine g_icmp_lt X rfl (fun h1 => ?_) (fun h1 => ?_)
  · refine g_iconst X rfl (v := nI 0) (by decide) ?_
    refine g_istore_n X rfl (by decide) ?_
    refine g_aload_n X rfl rfl ?_
    refine g_get X rfl flX0_21 (ci := 0) rfl hq rfl ?_
    refine g_iload_n X rfl rfl ?_
    refine g_ialdN X rfl hq3 (by omega) (by decide) ?_
    refine g_iconst X rfl (v := nI 1) (by decide) ?_
    refine g_icmp_eq X rfl (fun h2 => ?_) (fun h2 => ?_)
    · refine g_iconst X rfl (v := nI 0) (by decide) ?_
      refine g_iret X rfl rfl (by first | rfl | exact bI_nar _ | decide) (Nat.le_refl _) (Nat.le_refl _) ⟨?_, rfl, rfl⟩
      first | (simp_all [aVal]; done) | (simp_all [aVal, nI_0, n10]; done) | (simp_all [aVal, nI_0, n10, ← Int32.not_le]; done)
    · refine g_iload_n X rfl rfl ?_
      refine g_if_eq X rfl (fun h3 => ?_) (fun h3 => ?_)
      · refine g_iconst X rfl (v := nI 0) (by decide) ?_
        refine g_iret X rfl rfl (by first | rfl | exact bI_nar _ | decide) (Nat.le_refl _) (Nat.le_refl _) ⟨?_, rfl, rfl⟩
        first | (simp_all [aVal]; done) | (simp_all [aVal, nI_0, n10]; done) | (simp_all [aVal, nI_0, n10, ← Int32.not_le]; done)
      · refine g_aload_n X rfl rfl ?_
        refine g_iload_n X rfl rfl ?_
        refine g_iload_n X rfl rfl ?_
        refine g_rV X rfl lcX0_isSoldBy lmX0_34 lsX0_isSoldBy (cr_X0_isSoldBy l D cy B od (As := As) (i := i) ⟨hq, hq0, hq1, hq2, hq3, hq4, hq5⟩ (by omega)) (ci := 0) hq rfl rfl rfl (Nat.le_of_ble_eq_true rfl) ⟨⟨by decide, by decide⟩, rfl, rfl⟩ ⟨Nat.zero_le _, Nat.zero_le _⟩ ?_
        first | refine g_if_eqB X rfl (fun h4 => ?_) (fun h4 => ?_) | refine g_if_eq X rfl (fun h4 => ?_) (fun h4 => ?_)
        · refine g_aload_n X rfl rfl ?_
          refine g_get X rfl flX0_9 (ci := 0) rfl hq rfl ?_
          refine g_iload_n X rfl rfl ?_
          refine g_ialdN X rfl hq0 (by omega) (by decide) ?_
          refine g_aload_n X rfl rfl ?_
          refine g_iload_n X rfl rfl ?_
          refine g_iload_n X rfl rfl ?_
          refine g_rV X rfl lcX0_writtenUpTo lmX0_38 lsX0_writtenUpTo (cr_X0_writtenUpTo l D cy B od (As := As) (i := i) ⟨hq, hq0, hq1, hq2, hq3, hq4, hq5⟩ hi hlf) (ci := 0) hq rfl rfl rfl (Nat.le_of_ble_eq_true rfl) ⟨⟨by decide, by decide⟩, rfl, rfl⟩ ⟨Nat.zero_le _, Nat.zero_le _⟩ ?_
          refine g_isub X rfl ?_
          refine g_iret X rfl rfl (by first | rfl | exact bI_nar _ | decide) (Nat.le_refl _) (Nat.le_refl _) ⟨?_, rfl, rfl⟩
          first | (simp_all [aVal]; done) | (simp_all [aVal, nI_0, n10]; done) | (simp_all [aVal, nI_0, n10, ← Int32.not_le]; done)
        · refine g_iconst X rfl (v := nI 0) (by decide) ?_
          refine g_iret X rfl rfl (by first | rfl | exact bI_nar _ | decide) (Nat.le_refl _) (Nat.le_refl _) ⟨?_, rfl, rfl⟩
          first | (simp_all [aVal]; done) | (simp_all [aVal, nI_0, n10]; done) | (simp_all [aVal, nI_0, n10, ← Int32.not_le]; done)
  · refine g_iconst X rfl (v := nI 1) (by decide) ?_
    refine g_goto X rfl ?_
    refine g_istore_n X rfl (by decide) ?_
    refine g_aload_n X rfl rfl ?_
    refine g_get X rfl flX0_21 (ci := 0) rfl hq rfl ?_
    refine g_iload_n X rfl rfl ?_
    refine g_ialdN X rfl hq3 (by omega) (by decide) ?_
    refine g_iconst X rfl (v := nI 1) (by decide) ?_
    refine g_icmp_eq X rfl (fun h5 => ?_) (fun h5 => ?_)
    · refine g_iconst X rfl (v := nI 0) (by decide) ?_
      refine g_iret X rfl rfl (by first | rfl | exact bI_nar _ | decide) (Nat.le_refl _) (Nat.le_refl _) ⟨?_, rfl, rfl⟩
      first | (simp_all [aVal]; done) | (simp_all [aVal, nI_0, n10]; done) | (simp_all [aVal, nI_0, n10, ← Int32.not_le]; done)
    · refine g_iload_n X rfl rfl ?_
      refine g_if_eq X rfl (fun h6 => ?_) (fun h6 => ?_)
      · refine g_iconst X rfl (v := nI 0) (by decide) ?_
        refine g_iret X rfl rfl (by first | rfl | exact bI_nar _ | decide) (Nat.le_refl _) (Nat.le_refl _) ⟨?_, rfl, rfl⟩
        first | (simp_all [aVal]; done) | (simp_all [aVal, nI_0, n10]; done) | (simp_all [aVal, nI_0, n10, ← Int32.not_le]; done)
      · refine g_aload_n X rfl rfl ?_
        refine g_iload_n X rfl rfl ?_
        refine g_iload_n X rfl rfl ?_
        refine g_rV X rfl lcX0_isSoldBy lmX0_34 lsX0_isSoldBy (cr_X0_isSoldBy l D cy B od (As := As) (i := i) ⟨hq, hq0, hq1, hq2, hq3, hq4, hq5⟩ (by omega)) (ci := 0) hq rfl rfl rfl (Nat.le_of_ble_eq_true rfl) ⟨⟨by decide, by decide⟩, rfl, rfl⟩ ⟨Nat.zero_le _, Nat.zero_le _⟩ ?_
        first | refine g_if_eqB X rfl (fun h7 => ?_) (fun h7 => ?_) | refine g_if_eq X rfl (fun h7 => ?_) (fun h7 => ?_)
        · refine g_aload_n X rfl rfl ?_
          refine g_get X rfl flX0_9 (ci := 0) rfl hq rfl ?_
          refine g_iload_n X rfl rfl ?_
          refine g_ialdN X rfl hq0 (by omega) (by decide) ?_
          refine g_aload_n X rfl rfl ?_
          refine g_iload_n X rfl rfl ?_
          refine g_iload_n X rfl rfl ?_
          refine g_rV X rfl lcX0_writtenUpTo lmX0_38 lsX0_writtenUpTo (cr_X0_writtenUpTo l D cy B od (As := As) (i := i) ⟨hq, hq0, hq1, hq2, hq3, hq4, hq5⟩ hi hlf) (ci := 0) hq rfl rfl rfl (Nat.le_of_ble_eq_true rfl) ⟨⟨by decide, by decide⟩, rfl, rfl⟩ ⟨Nat.zero_le _, Nat.zero_le _⟩ ?_
          refine g_isub X rfl ?_
          refine g_iret X rfl rfl (by first | rfl | exact bI_nar _ | decide) (Nat.le_refl _) (Nat.le_refl _) ⟨?_, rfl, rfl⟩
          first | (simp_all [aVal]; done) | (simp_all [aVal, nI_0, n10]; done) | (simp_all [aVal, nI_0, n10, ← Int32.not_le]; done)
        · refine g_iconst X rfl (v := nI 0) (by decide) ?_
          refine g_iret X rfl rfl (by first | rfl | exact bI_nar _ | decide) (Nat.le_refl _) (Nat.le_refl _) ⟨?_, rfl, rfl⟩
          first | (simp_all [aVal]; done) | (simp_all [aVal, nI_0, n10]; done) | (simp_all [aVal, nI_0, n10, ← Int32.not_le]; done)
set_option maxRecDepth 100000 in
set_option maxHeartbeats 400000 in
theorem lp_X0_poolAt (l : Launch) (D : va_G) (cy : Nat → ClassId) (B : Nat) (od : Nat → Option Nat) {p : Program} {e : Env} {s : State} {m : MethodId} {args : Array Value} {below : List Frame} {meth : Method} {c : Code} {A : AH} {z : Nat} {b : Nat} {As : RV} (h9 : AssA cy A b As) (hn : As.1 ≤ 12) {qu : Int32} (X : Cx p s m args meth c D cy B od cX0_poolAt 4 tX0_poolAt RX0 (some .int)) : ∀ (k i : Nat), 0 ≤ i → i ≤ As.1 → As.1 - i < k → G p l e rmX0_poolAt s m args below meth c D B od 4 tX0_poolAt (FinQ false D B od (fun v A' z' => v = some (.int (aPool As qu)) ∧ A' = A ∧ z' = z) (fun _ _ => True) args s below 0 0) 0 0 A z 4 [some (.ref b), some (.int qu), some (.int (sumQ (fun i => As.2 3 i == nI 1 && decide (As.2 1 i / nI 90 ≤ qu)) (fun i => As.2 0 i) i)), some (.int (nI i))] [] := by
  obtain ⟨hq, hq0, hq1, hq2, hq3, hq4, hq5⟩ := id h9
  intro k
  induction k with
  | zero => intro i _ _ h; omega
  | succ k ih =>
    intro i hlo hi hk
    refine g_iload_n X rfl rfl ?_
    refine g_aload_n X rfl rfl ?_
    refine g_get X rfl flX0_30 (ci := 0) rfl hq rfl ?_
    first | refine g_ic_geN X rfl (by omega) (by omega) (fun h1 => ?_) (fun h1 => ?_) | refine g_icmp_ge X rfl (fun h1 => ?_) (fun h1 => ?_)
    · refine g_iload_n X rfl rfl ?_
      refine g_iret X rfl rfl (by first | rfl | exact bI_nar _ | decide) (Nat.le_refl _) (Nat.le_refl _) ⟨?_, rfl, rfl⟩
      rw [show i = As.1 by omega]; rfl
    · refine g_aload_n X rfl rfl ?_
      refine g_get X rfl flX0_21 (ci := 0) rfl hq rfl ?_
      refine g_iload_n X rfl rfl ?_
      refine g_ialdN X rfl hq3 (by omega) (by decide) ?_
      refine g_iconst X rfl (v := nI 1) (by decide) ?_
      refine g_icmp_ne X rfl (fun h2 => ?_) (fun h2 => ?_)
      · refine g_iinc1 X rfl rfl (by decide) ?_
        refine g_goto X rfl ?_
        have K9 := ih (i + 1) (by omega) (by omega) (by omega)
        first | (rw [show sumQ (fun i => As.2 3 i == nI 1 && decide (As.2 1 i / nI 90 ≤ qu)) (fun i => As.2 0 i) (i + 1) = sumQ (fun i => As.2 3 i == nI 1 && decide (As.2 1 i / nI 90 ≤ qu)) (fun i => As.2 0 i) i + (fun i => As.2 0 i) i by rw [sumQ, if_pos (by simp_all [← Int32.not_le])]] at K9; exact K9) | (rw [show sumQ (fun i => As.2 3 i == nI 1 && decide (As.2 1 i / nI 90 ≤ qu)) (fun i => As.2 0 i) (i + 1) = sumQ (fun i => As.2 3 i == nI 1 && decide (As.2 1 i / nI 90 ≤ qu)) (fun i => As.2 0 i) i by rw [sumQ, if_neg (by simp_all [← Int32.not_le])]] at K9; exact K9)
      · refine g_aload_n X rfl rfl ?_
        refine g_get X rfl flX0_15 (ci := 0) rfl hq rfl ?_
        refine g_iload_n X rfl rfl ?_
        refine g_ialdN X rfl hq1 (by omega) (by decide) ?_
        refine g_bipush X rfl (v := nI 90) (by decide) ?_
        refine g_idiv X rfl (by decide) ?_
        refine g_iload_n X rfl rfl ?_
        first | refine g_ic_gtN X rfl (by omega) (by omega) (fun h3 => ?_) (fun h3 => ?_) | refine g_icmp_gt X rfl (fun h3 => ?_) (fun h3 => ?_)
        · refine g_iinc1 X rfl rfl (by decide) ?_
          refine g_goto X rfl ?_
          have K9 := ih (i + 1) (by omega) (by omega) (by omega)
          first | (rw [show sumQ (fun i => As.2 3 i == nI 1 && decide (As.2 1 i / nI 90 ≤ qu)) (fun i => As.2 0 i) (i + 1) = sumQ (fun i => As.2 3 i == nI 1 && decide (As.2 1 i / nI 90 ≤ qu)) (fun i => As.2 0 i) i + (fun i => As.2 0 i) i by rw [sumQ, if_pos (by simp_all [← Int32.not_le])]] at K9; exact K9) | (rw [show sumQ (fun i => As.2 3 i == nI 1 && decide (As.2 1 i / nI 90 ≤ qu)) (fun i => As.2 0 i) (i + 1) = sumQ (fun i => As.2 3 i == nI 1 && decide (As.2 1 i / nI 90 ≤ qu)) (fun i => As.2 0 i) i by rw [sumQ, if_neg (by simp_all [← Int32.not_le])]] at K9; exact K9)
        · refine g_iload_n X rfl rfl ?_
          refine g_aload_n X rfl rfl ?_
          refine g_get X rfl flX0_9 (ci := 0) rfl hq rfl ?_
          refine g_iload_n X rfl rfl ?_
          refine g_ialdN X rfl hq0 (by omega) (by decide) ?_
          refine g_iadd X rfl ?_
          refine g_istore_n X rfl (by decide) ?_
          refine g_iinc1 X rfl rfl (by decide) ?_
          refine g_goto X rfl ?_
          have K9 := ih (i + 1) (by omega) (by omega) (by omega)
          first | (rw [show sumQ (fun i => As.2 3 i == nI 1 && decide (As.2 1 i / nI 90 ≤ qu)) (fun i => As.2 0 i) (i + 1) = sumQ (fun i => As.2 3 i == nI 1 && decide (As.2 1 i / nI 90 ≤ qu)) (fun i => As.2 0 i) i + (fun i => As.2 0 i) i by rw [sumQ, if_pos (by simp_all [← Int32.not_le])]] at K9; exact K9) | (rw [show sumQ (fun i => As.2 3 i == nI 1 && decide (As.2 1 i / nI 90 ≤ qu)) (fun i => As.2 0 i) (i + 1) = sumQ (fun i => As.2 3 i == nI 1 && decide (As.2 1 i / nI 90 ≤ qu)) (fun i => As.2 0 i) i by rw [sumQ, if_neg (by simp_all [← Int32.not_le])]] at K9; exact K9)
set_option maxRecDepth 100000 in
set_option maxHeartbeats 400000 in
theorem cr_X0_poolAt (l : Launch) (D : va_G) (cy : Nat → ClassId) (B : Nat) (od : Nat → Option Nat) {A : AH} {b : Nat} {As : RV} (h9 : AssA cy A b As) (hn : As.1 ≤ 12) {qu : Int32} : CR l D cy B od yX0_poolAt cX0_poolAt 4 (some .int) rmX0_poolAt [.ref b, .int qu] A (.int (aPool As qu)) := by
  intro z
  refine CT.of (by decide) tX0_poolAt okX0_poolAt (Nat.le_of_ble_eq_true rfl) (q0 := tX0_poolAt[0]) rfl rfl ?_
  intro p e s m args below meth c X _
  refine g_iconst X rfl (v := nI 0) (by decide) ?_
  refine g_istore_n X rfl (by decide) ?_
  refine g_iconst X rfl (v := nI 0) (by decide) ?_
  refine g_istore_n X rfl (by decide) ?_
  exact lp_X0_poolAt l D cy B od h9 hn (qu := qu) X (As.1 + 1) 0 (by omega) (by omega) (by omega)
set_option maxRecDepth 100000 in
set_option maxHeartbeats 400000 in
theorem cr_X0_poolWrittenUpTo (l : Launch) (D : va_G) (cy : Nat → ClassId) (B : Nat) (od : Nat → Option Nat) {A : AH} {b : Nat} {As : RV} (h9 : AssA cy A b As) (hn : As.1 ≤ 12) {qu : Int32} : CR l D cy B od yX0_poolWrittenUpTo cX0_poolWrittenUpTo 2 (some .int) rmX0_poolWrittenUpTo [.ref b, .int qu] A (.int (aPW As qu)) := by
  intro z
  refine CT.of (by decide) tX0_poolWrittenUpTo okX0_poolWrittenUpTo (Nat.le_of_ble_eq_true rfl) (q0 := tX0_poolWrittenUpTo[0]) rfl rfl ?_
  intro p e s m args below meth c X _
  obtain ⟨hq, hq0, hq1, hq2, hq3, hq4, hq5⟩ := id h9
  refine g_aload_n X rfl rfl ?_
  refine g_iload_n X rfl rfl ?_
  refine g_rV X rfl lcX0_poolAt lmX0_46 lsX0_poolAt (cr_X0_poolAt l D cy B od (As := As) ⟨hq, hq0, hq1, hq2, hq3, hq4, hq5⟩ hn) (ci := 0) hq rfl rfl rfl (Nat.le_of_ble_eq_true rfl) ⟨⟨by decide, by decide⟩, rfl, rfl⟩ ⟨Nat.zero_le _, Nat.zero_le _⟩ ?_
  refine g_iload_n X rfl rfl ?_
  refine g_iconst X rfl (v := nI 1) (by decide) ?_
  refine g_iadd X rfl ?_
  refine g_imul X rfl ?_
  refine g_bipush X rfl (v := nI 20) (by decide) ?_
  refine g_idiv X rfl (by decide) ?_
  refine g_iret X rfl rfl (by first | rfl | exact bI_nar _ | decide) (Nat.le_refl _) (Nat.le_refl _) ⟨?_, rfl, rfl⟩
  rfl
set_option maxRecDepth 100000 in
set_option maxHeartbeats 400000 in
theorem cr_X0_poolWrittenIn (l : Launch) (D : va_G) (cy : Nat → ClassId) (B : Nat) (od : Nat → Option Nat) {A : AH} {b : Nat} {As : RV} (h9 : AssA cy A b As) (hn : As.1 ≤ 12) {qu : Int32} : CR l D cy B od yX0_poolWrittenIn cX0_poolWrittenIn 2 (some .int) rmX0_poolWrittenIn [.ref b, .int qu] A (.int (aPW As qu - aPW As (qu - nI 1))) := by
  intro z
  refine CT.of (by decide) tX0_poolWrittenIn okX0_poolWrittenIn (Nat.le_of_ble_eq_true rfl) (q0 := tX0_poolWrittenIn[0]) rfl rfl ?_
  intro p e s m args below meth c X _
  obtain ⟨hq, hq0, hq1, hq2, hq3, hq4, hq5⟩ := id h9
  refine g_aload_n X rfl rfl ?_
  refine g_iload_n X rfl rfl ?_
  refine g_rV X rfl lcX0_poolWrittenUpTo lmX0_42 lsX0_poolWrittenUpTo (cr_X0_poolWrittenUpTo l D cy B od (As := As) ⟨hq, hq0, hq1, hq2, hq3, hq4, hq5⟩ hn) (ci := 0) hq rfl rfl rfl (Nat.le_of_ble_eq_true rfl) ⟨⟨by decide, by decide⟩, rfl, rfl⟩ ⟨Nat.zero_le _, Nat.zero_le _⟩ ?_
  refine g_aload_n X rfl rfl ?_
  refine g_iload_n X rfl rfl ?_
  refine g_iconst X rfl (v := nI 1) (by decide) ?_
  refine g_isub X rfl ?_
  refine g_rV X rfl lcX0_poolWrittenUpTo lmX0_42 lsX0_poolWrittenUpTo (cr_X0_poolWrittenUpTo l D cy B od (As := As) ⟨hq, hq0, hq1, hq2, hq3, hq4, hq5⟩ hn) (ci := 0) hq rfl rfl rfl (Nat.le_of_ble_eq_true rfl) ⟨⟨by decide, by decide⟩, rfl, rfl⟩ ⟨Nat.zero_le _, Nat.zero_le _⟩ ?_
  refine g_isub X rfl ?_
  refine g_iret X rfl rfl (by first | rfl | exact bI_nar _ | decide) (Nat.le_refl _) (Nat.le_refl _) ⟨?_, rfl, rfl⟩
  rfl
set_option maxRecDepth 100000 in
set_option maxHeartbeats 400000 in
theorem lp_X0_allWrittenUpTo (l : Launch) (D : va_G) (cy : Nat → ClassId) (B : Nat) (od : Nat → Option Nat) {p : Program} {e : Env} {s : State} {m : MethodId} {args : Array Value} {below : List Frame} {meth : Method} {c : Code} {A : AH} {z : Nat} {b : Nat} {As : RV} (h9 : AssA cy A b As) (hn : As.1 ≤ 12) (hlf : ∀ i, i < As.1 → ¬ As.2 2 i = 0) {qu : Int32} (X : Cx p s m args meth c D cy B od cX0_allWrittenUpTo 6 tX0_allWrittenUpTo RX0 (some .long)) : ∀ (k i : Nat), 0 ≤ i → i ≤ As.1 → As.1 - i < k → G p l e rmX0_allWrittenUpTo s m args below meth c D B od 6 tX0_allWrittenUpTo (FinQ false D B od (fun v A' z' => v = some (.long (aAll As qu)) ∧ A' = A ∧ z' = z) (fun _ _ => True) args s below 0 0) 0 0 A z 15 [some (.ref b), some (.int qu), some (.int ((qu + nI 1) * nI 3 - nI 1)), some (.long (sumL (aPW As qu).toInt64 (fun i => (aWU As i ((qu + nI 1) * nI 3 - nI 1)).toInt64) i)), none, some (.int (nI i))] [] := by
  obtain ⟨hq, hq0, hq1, hq2, hq3, hq4, hq5⟩ := id h9
  intro k
  induction k with
  | zero => intro i _ _ h; omega
  | succ k ih =>
    intro i hlo hi hk
    refine g_iload X rfl rfl ?_
    refine g_aload_n X rfl rfl ?_
    refine g_get X rfl flX0_30 (ci := 0) rfl hq rfl ?_
    first | refine g_ic_geN X rfl (by omega) (by omega) (fun h1 => ?_) (fun h1 => ?_) | refine g_icmp_ge X rfl (fun h1 => ?_) (fun h1 => ?_)
    · refine g_lload_n X rfl rfl ?_
      refine g_lret X rfl rfl (Nat.le_refl _) (Nat.le_refl _) ⟨?_, rfl, rfl⟩
      rw [show i = As.1 by omega]; rfl
    · refine g_lload_n X rfl rfl ?_
      refine g_aload_n X rfl rfl ?_
      refine g_iload X rfl rfl ?_
      refine g_iload_n X rfl rfl ?_
      refine g_rV X rfl lcX0_writtenUpTo lmX0_38 lsX0_writtenUpTo (cr_X0_writtenUpTo l D cy B od (As := As) (i := i) ⟨hq, hq0, hq1, hq2, hq3, hq4, hq5⟩ (by omega) (hlf _ (by omega))) (ci := 0) hq rfl rfl rfl (Nat.le_of_ble_eq_true rfl) ⟨⟨by decide, by decide⟩, rfl, rfl⟩ ⟨Nat.zero_le _, Nat.zero_le _⟩ ?_
      refine g_i2l X rfl ?_
      refine g_ladd X rfl ?_
      refine g_lstore_n X rfl (by decide) ?_
      refine g_iinc1 X rfl rfl (by decide) ?_
      refine g_goto X rfl ?_
      have K9 := ih (i + 1) (by omega) (by omega) (by omega)
      exact K9
set_option maxRecDepth 100000 in
set_option maxHeartbeats 400000 in
theorem cr_X0_allWrittenUpTo (l : Launch) (D : va_G) (cy : Nat → ClassId) (B : Nat) (od : Nat → Option Nat) {A : AH} {b : Nat} {As : RV} (h9 : AssA cy A b As) (hn : As.1 ≤ 12) (hlf : ∀ i, i < As.1 → ¬ As.2 2 i = 0) {qu : Int32} : CR l D cy B od yX0_allWrittenUpTo cX0_allWrittenUpTo 6 (some .long) rmX0_allWrittenUpTo [.ref b, .int qu] A (.long (aAll As qu)) := by
  intro z
  refine CT.of (by decide) tX0_allWrittenUpTo okX0_allWrittenUpTo (Nat.le_of_ble_eq_true rfl) (q0 := tX0_allWrittenUpTo[0]) rfl rfl ?_
  intro p e s m args below meth c X _
  obtain ⟨hq, hq0, hq1, hq2, hq3, hq4, hq5⟩ := id h9
  refine g_iload_n X rfl rfl ?_
  refine g_iconst X rfl (v := nI 1) (by decide) ?_
  refine g_iadd X rfl ?_
  refine g_iconst X rfl (v := nI 3) (by decide) ?_
  refine g_imul X rfl ?_
  refine g_iconst X rfl (v := nI 1) (by decide) ?_
  refine g_isub X rfl ?_
  refine g_istore_n X rfl (by decide) ?_
  refine g_aload_n X rfl rfl ?_
  refine g_iload_n X rfl rfl ?_
  refine g_rV X rfl lcX0_poolWrittenUpTo lmX0_42 lsX0_poolWrittenUpTo (cr_X0_poolWrittenUpTo l D cy B od (As := As) ⟨hq, hq0, hq1, hq2, hq3, hq4, hq5⟩ hn) (ci := 0) hq rfl rfl rfl (Nat.le_of_ble_eq_true rfl) ⟨⟨by decide, by decide⟩, rfl, rfl⟩ ⟨Nat.zero_le _, Nat.zero_le _⟩ ?_
  refine g_i2l X rfl ?_
  refine g_lstore_n X rfl (by decide) ?_
  refine g_iconst X rfl (v := nI 0) (by decide) ?_
  refine g_istore X rfl (by decide) ?_
  exact lp_X0_allWrittenUpTo l D cy B od h9 hn hlf (qu := qu) X (As.1 + 1) 0 (by omega) (by omega) (by omega)
set_option maxRecDepth 100000 in
set_option maxHeartbeats 400000 in
theorem lp_X0_soldFor (l : Launch) (D : va_G) (cy : Nat → ClassId) (B : Nat) (od : Nat → Option Nat) {p : Program} {e : Env} {s : State} {m : MethodId} {args : Array Value} {below : List Frame} {meth : Method} {c : Code} {A : AH} {z : Nat} {b : Nat} {As : RV} (h9 : AssA cy A b As) (hn : As.1 ≤ 12) {f t : Int32} (X : Cx p s m args meth c D cy B od cX0_soldFor 6 tX0_soldFor RX0 (some .long)) : ∀ (k i : Nat), 0 ≤ i → i ≤ As.1 → As.1 - i < k → G p l e rmX0_soldFor s m args below meth c D B od 6 tX0_soldFor (FinQ false D B od (fun v A' z' => v = some (.long (aSoldFor As f t)) ∧ A' = A ∧ z' = z) (fun _ _ => True) args s below 0 0) 0 0 A z 4 [some (.ref b), some (.int f), some (.int t), some (.long (sumN (fun i => As.2 4 i != -1 && (decide (f ≤ As.2 4 i) && decide (As.2 4 i ≤ t))) (fun i => (As.2 5 i).toInt64) i)), none, some (.int (nI i))] [] := by
  obtain ⟨hq, hq0, hq1, hq2, hq3, hq4, hq5⟩ := id h9
  intro k
  induction k with
  | zero => intro i _ _ h; omega
  | succ k ih =>
    intro i hlo hi hk
    refine g_iload X rfl rfl ?_
    refine g_aload_n X rfl rfl ?_
    refine g_get X rfl flX0_30 (ci := 0) rfl hq rfl ?_
    first | refine g_ic_geN X rfl (by omega) (by omega) (fun h1 => ?_) (fun h1 => ?_) | refine g_icmp_ge X rfl (fun h1 => ?_) (fun h1 => ?_)
    · refine g_lload_n X rfl rfl ?_
      refine g_lret X rfl rfl (Nat.le_refl _) (Nat.le_refl _) ⟨?_, rfl, rfl⟩
      rw [show i = As.1 by omega]; rfl
    · refine g_aload_n X rfl rfl ?_
      refine g_get X rfl flX0_24 (ci := 0) rfl hq rfl ?_
      refine g_iload X rfl rfl ?_
      refine g_ialdN X rfl hq4 (by omega) (by decide) ?_
      refine g_iconst X rfl (v := (-1)) (by decide) ?_
      refine g_icmp_eq X rfl (fun h2 => ?_) (fun h2 => ?_)
      · refine g_iinc1 X rfl rfl (by decide) ?_
        refine g_goto X rfl ?_
        have K9 := ih (i + 1) (by omega) (by omega) (by omega)
        first | (rw [show sumN (fun i => As.2 4 i != -1 && (decide (f ≤ As.2 4 i) && decide (As.2 4 i ≤ t))) (fun i => (As.2 5 i).toInt64) (i + 1) = sumN (fun i => As.2 4 i != -1 && (decide (f ≤ As.2 4 i) && decide (As.2 4 i ≤ t))) (fun i => (As.2 5 i).toInt64) i + (fun i => (As.2 5 i).toInt64) i by rw [sumN, if_pos (by simp_all [within9])]] at K9; exact K9) | (rw [show sumN (fun i => As.2 4 i != -1 && (decide (f ≤ As.2 4 i) && decide (As.2 4 i ≤ t))) (fun i => (As.2 5 i).toInt64) (i + 1) = sumN (fun i => As.2 4 i != -1 && (decide (f ≤ As.2 4 i) && decide (As.2 4 i ≤ t))) (fun i => (As.2 5 i).toInt64) i by rw [sumN, if_neg (by simp_all [within9])]] at K9; exact K9)
      · refine g_aload_n X rfl rfl ?_
        refine g_get X rfl flX0_24 (ci := 0) rfl hq rfl ?_
        refine g_iload X rfl rfl ?_
        refine g_ialdN X rfl hq4 (by omega) (by decide) ?_
        refine g_iload_n X rfl rfl ?_
        refine g_iload_n X rfl rfl ?_
        refine g_rSN X rfl lcX7_within lnX0_49 stX7_within (cr_X7_within l D cy B od) rfl rfl (Nat.le_of_ble_eq_true rfl) ⟨⟨by decide, by decide⟩, rfl, rfl⟩ ⟨Nat.zero_le _, Nat.zero_le _⟩ ?_
        first | refine g_if_eqB X rfl (fun h3 => ?_) (fun h3 => ?_) | refine g_if_eq X rfl (fun h3 => ?_) (fun h3 => ?_)
        · refine g_iinc1 X rfl rfl (by decide) ?_
          refine g_goto X rfl ?_
          have K9 := ih (i + 1) (by omega) (by omega) (by omega)
          first | (rw [show sumN (fun i => As.2 4 i != -1 && (decide (f ≤ As.2 4 i) && decide (As.2 4 i ≤ t))) (fun i => (As.2 5 i).toInt64) (i + 1) = sumN (fun i => As.2 4 i != -1 && (decide (f ≤ As.2 4 i) && decide (As.2 4 i ≤ t))) (fun i => (As.2 5 i).toInt64) i + (fun i => (As.2 5 i).toInt64) i by rw [sumN, if_pos (by simp_all [within9])]] at K9; exact K9) | (rw [show sumN (fun i => As.2 4 i != -1 && (decide (f ≤ As.2 4 i) && decide (As.2 4 i ≤ t))) (fun i => (As.2 5 i).toInt64) (i + 1) = sumN (fun i => As.2 4 i != -1 && (decide (f ≤ As.2 4 i) && decide (As.2 4 i ≤ t))) (fun i => (As.2 5 i).toInt64) i by rw [sumN, if_neg (by simp_all [within9])]] at K9; exact K9)
        · refine g_lload_n X rfl rfl ?_
          refine g_aload_n X rfl rfl ?_
          refine g_get X rfl flX0_27 (ci := 0) rfl hq rfl ?_
          refine g_iload X rfl rfl ?_
          refine g_ialdN X rfl hq5 (by omega) (by decide) ?_
          refine g_i2l X rfl ?_
          refine g_ladd X rfl ?_
          refine g_lstore_n X rfl (by decide) ?_
          refine g_iinc1 X rfl rfl (by decide) ?_
          refine g_goto X rfl ?_
          have K9 := ih (i + 1) (by omega) (by omega) (by omega)
          first | (rw [show sumN (fun i => As.2 4 i != -1 && (decide (f ≤ As.2 4 i) && decide (As.2 4 i ≤ t))) (fun i => (As.2 5 i).toInt64) (i + 1) = sumN (fun i => As.2 4 i != -1 && (decide (f ≤ As.2 4 i) && decide (As.2 4 i ≤ t))) (fun i => (As.2 5 i).toInt64) i + (fun i => (As.2 5 i).toInt64) i by rw [sumN, if_pos (by simp_all [within9])]] at K9; exact K9) | (rw [show sumN (fun i => As.2 4 i != -1 && (decide (f ≤ As.2 4 i) && decide (As.2 4 i ≤ t))) (fun i => (As.2 5 i).toInt64) (i + 1) = sumN (fun i => As.2 4 i != -1 && (decide (f ≤ As.2 4 i) && decide (As.2 4 i ≤ t))) (fun i => (As.2 5 i).toInt64) i by rw [sumN, if_neg (by simp_all [within9])]] at K9; exact K9)
set_option maxRecDepth 100000 in
set_option maxHeartbeats 400000 in
theorem cr_X0_soldFor (l : Launch) (D : va_G) (cy : Nat → ClassId) (B : Nat) (od : Nat → Option Nat) {A : AH} {b : Nat} {As : RV} (h9 : AssA cy A b As) (hn : As.1 ≤ 12) {f t : Int32} : CR l D cy B od yX0_soldFor cX0_soldFor 6 (some .long) rmX0_soldFor [.ref b, .int f, .int t] A (.long (aSoldFor As f t)) := by
  intro z
  refine CT.of (by decide) tX0_soldFor okX0_soldFor (Nat.le_of_ble_eq_true rfl) (q0 := tX0_soldFor[0]) rfl rfl ?_
  intro p e s m args below meth c X _
  refine g_lconst X rfl (v := 0) (by decide) ?_
  refine g_lstore_n X rfl (by decide) ?_
  refine g_iconst X rfl (v := nI 0) (by decide) ?_
  refine g_istore X rfl (by decide) ?_
  exact lp_X0_soldFor l D cy B od h9 hn (f := f) (t := t) X (As.1 + 1) 0 (by omega) (by omega) (by omega)
set_option maxRecDepth 100000 in
set_option maxHeartbeats 400000 in
theorem cr_X4_sortOf (l : Launch) (D : va_G) (cy : Nat → ClassId) (B : Nat) (od : Nat → Option Nat) {A : AH} {b : Nat} {S : SV} (h9 : SetA cy A b S) {pr : Int32} : CR l D cy B od yX4_sortOf cX4_sortOf 2 (some .int) rmX4_sortOf [.ref b, .int pr] A (.int (sSort S pr)) := by
  intro z
  refine CT.of (by decide) tX4_sortOf okX4_sortOf (Nat.le_of_ble_eq_true rfl) (q0 := tX4_sortOf[0]) rfl rfl ?_
  intro p e s m args below meth c X _
  obtain ⟨hq, hq0, hq1⟩ := id h9
  refine g_iload_n X rfl rfl ?_
  refine g_aload_n X rfl rfl ?_
  refine g_get X rfl flX4_33 (ci := 4) rfl hq rfl ?_
  refine g_icmp_gt X rfl (fun h1 => ?_) (fun h1 => ?_)
  · refine g_iload_n X rfl rfl ?_
    refine g_aload_n X rfl rfl ?_
    refine g_get X rfl flX4_37 (ci := 4) rfl hq rfl ?_
    refine g_icmp_gt X rfl (fun h2 => ?_) (fun h2 => ?_)
    · refine g_iconst X rfl (v := nI 2) (by decide) ?_
      refine g_iret X rfl rfl (by first | rfl | exact bI_nar _ | decide) (Nat.le_refl _) (Nat.le_refl _) ⟨?_, rfl, rfl⟩
      first | (simp_all [sSort]; done) | (simp_all [sSort, nI_0, n10]; done) | (simp_all [sSort, nI_0, n10, ← Int32.not_le]; done)
    · refine g_iconst X rfl (v := nI 1) (by decide) ?_
      refine g_goto X rfl ?_
      refine g_iret X rfl rfl (by first | rfl | exact bI_nar _ | decide) (Nat.le_refl _) (Nat.le_refl _) ⟨?_, rfl, rfl⟩
      first | (simp_all [sSort]; done) | (simp_all [sSort, nI_0, n10]; done) | (simp_all [sSort, nI_0, n10, ← Int32.not_le]; done)
  · refine g_iconst X rfl (v := nI 0) (by decide) ?_
    refine g_iret X rfl rfl (by first | rfl | exact bI_nar _ | decide) (Nat.le_refl _) (Nat.le_refl _) ⟨?_, rfl, rfl⟩
    first | (simp_all [sSort]; done) | (simp_all [sSort, nI_0, n10]; done) | (simp_all [sSort, nI_0, n10, ← Int32.not_le]; done)
set_option maxRecDepth 100000 in
set_option maxHeartbeats 400000 in
theorem lp_X4_taxOfP (l : Launch) (D : va_G) (cy : Nat → ClassId) (B : Nat) (od : Nat → Option Nat) {p : Program} {e : Env} {s : State} {m : MethodId} {args : Array Value} {below : List Frame} {meth : Method} {c : Code} {A : AH} {z : Nat} {b : Nat} {S : SV} (h9 : SetA cy A b S) (hn : S.1 ≤ 5) {am : Int64} (ham : 0 < am) (X : Cx p s m args meth c D cy B od cX4_taxOf 8 tX4_taxOf RX4 (some .long)) : ∀ (k i : Nat), 0 ≤ i → i ≤ S.1 → S.1 - i < k → G p l e rmX4_taxOf s m args below meth c D B od 8 tX4_taxOf (FinQ false D B od (fun v A' z' => v = some (.long (sTax S am)) ∧ A' = A ∧ z' = z) (fun _ _ => True) args s below 0 0) 0 0 A z 12 [some (.ref b), some (.long am), none, some (.long (taxSt S am i).1), none, some (.long (taxSt S am i).2), none, some (.int (nI i))] [] := by
  obtain ⟨hq, hq0, hq1⟩ := id h9
  intro k
  induction k with
  | zero => intro i _ _ h; omega
  | succ k ih =>
    intro i hlo hi hk
    refine g_iload X rfl rfl ?_
    refine g_aload_n X rfl rfl ?_
    refine g_get X rfl flX4_46 (ci := 4) rfl hq rfl ?_
    first | refine g_ic_geN X rfl (by omega) (by omega) (fun h1 => ?_) (fun h1 => ?_) | refine g_icmp_ge X rfl (fun h1 => ?_) (fun h1 => ?_)
    · refine g_lload_n X rfl rfl ?_
      refine g_lconst X rfl (v := 0) (by decide) ?_
      refine g_lload_n X rfl rfl ?_
      refine g_lload X rfl rfl ?_
      refine g_lsub X rfl ?_
      refine g_m_max_l X rfl lmX4_58 (Nat.le_of_ble_eq_true rfl) ⟨by decide, by decide⟩ ⟨Nat.zero_le _, Nat.zero_le _⟩ ?_
      refine g_aload_n X rfl rfl ?_
      refine g_get X rfl flX4_43 (ci := 4) rfl hq rfl ?_
      refine g_i2l X rfl ?_
      refine g_lmul X rfl ?_
      refine g_ladd X rfl ?_
      refine g_lstore_n X rfl (by decide) ?_
      refine g_lload_n X rfl rfl ?_
      refine g_ldc2 X rfl kcX4_61 ?_
      refine g_ldiv X rfl (by decide) ?_
      refine g_lret X rfl rfl (Nat.le_refl _) (Nat.le_refl _) ⟨?_, rfl, rfl⟩
      rw [show i = S.1 by omega]; unfold sTax; rw [if_neg (Int64.not_le.mpr ham)]
    · refine g_lload_n X rfl rfl ?_
      refine g_lconst X rfl (v := 0) (by decide) ?_
      refine g_lload_n X rfl rfl ?_
      refine g_aload_n X rfl rfl ?_
      refine g_get X rfl flX4_9 (ci := 4) rfl hq rfl ?_
      refine g_iload X rfl rfl ?_
      refine g_ialdN X rfl hq0 (by omega) (by decide) ?_
      refine g_i2l X rfl ?_
      refine g_m_min_l X rfl lmX4_52 (Nat.le_of_ble_eq_true rfl) ⟨by decide, by decide⟩ ⟨Nat.zero_le _, Nat.zero_le _⟩ ?_
      refine g_lload X rfl rfl ?_
      refine g_lsub X rfl ?_
      refine g_m_max_l X rfl lmX4_58 (Nat.le_of_ble_eq_true rfl) ⟨by decide, by decide⟩ ⟨Nat.zero_le _, Nat.zero_le _⟩ ?_
      refine g_aload_n X rfl rfl ?_
      refine g_get X rfl flX4_15 (ci := 4) rfl hq rfl ?_
      refine g_iload X rfl rfl ?_
      refine g_ialdN X rfl hq1 (by omega) (by decide) ?_
      refine g_i2l X rfl ?_
      refine g_lmul X rfl ?_
      refine g_ladd X rfl ?_
      refine g_lstore_n X rfl (by decide) ?_
      refine g_aload_n X rfl rfl ?_
      refine g_get X rfl flX4_9 (ci := 4) rfl hq rfl ?_
      refine g_iload X rfl rfl ?_
      refine g_ialdN X rfl hq0 (by omega) (by decide) ?_
      refine g_i2l X rfl ?_
      refine g_lstore X rfl (by decide) ?_
      refine g_iinc1 X rfl rfl (by decide) ?_
      refine g_goto X rfl ?_
      have K9 := ih (i + 1) (by omega) (by omega) (by omega)
      exact K9
set_option maxRecDepth 100000 in
set_option maxHeartbeats 400000 in
theorem cr_X4_taxOfP (l : Launch) (D : va_G) (cy : Nat → ClassId) (B : Nat) (od : Nat → Option Nat) {A : AH} {b : Nat} {S : SV} (h9 : SetA cy A b S) (hn : S.1 ≤ 5) {am : Int64} (ham : 0 < am) : CR l D cy B od yX4_taxOf cX4_taxOf 8 (some .long) rmX4_taxOf [.ref b, .long am] A (.long (sTax S am)) := by
  intro z
  refine CT.of (by decide) tX4_taxOf okX4_taxOf (Nat.le_of_ble_eq_true rfl) (q0 := tX4_taxOf[0]) rfl rfl ?_
  intro p e s m args below meth c X _
  refine g_lload_n X rfl rfl ?_
  refine g_lconst X rfl (v := 0) (by decide) ?_
  refine g_l_gt X rfl rfl (fun h1 => ?_) (fun h1 => ?_)
  · refine g_lconst X rfl (v := 0) (by decide) ?_
    refine g_lstore_n X rfl (by decide) ?_
    refine g_lconst X rfl (v := 0) (by decide) ?_
    refine g_lstore X rfl (by decide) ?_
    refine g_iconst X rfl (v := nI 0) (by decide) ?_
    refine g_istore X rfl (by decide) ?_
    exact lp_X4_taxOfP l D cy B od h9 hn ham X (S.1 + 1) 0 (by omega) (by omega) (by omega)
  · exact absurd ham h1
set_option maxRecDepth 100000 in
set_option maxHeartbeats 400000 in
theorem cr_X4_taxOfN (l : Launch) (D : va_G) (cy : Nat → ClassId) (B : Nat) (od : Nat → Option Nat) {A : AH} {b : Nat} {S : SV} (h9 : SetA cy A b S) (hn : S.1 ≤ 5) {am : Int64} (ham : ¬ 0 < am) : CR l D cy B od yX4_taxOf cX4_taxOf 8 (some .long) rmX4_taxOf [.ref b, .long am] A (.long (sTax S am)) := by
  intro z
  refine CT.of (by decide) tX4_taxOf okX4_taxOf (Nat.le_of_ble_eq_true rfl) (q0 := tX4_taxOf[0]) rfl rfl ?_
  intro p e s m args below meth c X _
  obtain ⟨hq, hq0, hq1⟩ := id h9
  refine g_lload_n X rfl rfl ?_
  refine g_lconst X rfl (v := 0) (by decide) ?_
  refine g_l_gt X rfl rfl (fun h1 => ?_) (fun h1 => ?_)
  · exact absurd h1 ham
  · refine g_lconst X rfl (v := 0) (by decide) ?_
    refine g_lret X rfl rfl (Nat.le_refl _) (Nat.le_refl _) ⟨?_, rfl, rfl⟩
    unfold sTax; rw [if_pos (Int64.not_lt.mp ham)]
set_option maxRecDepth 100000 in
set_option maxHeartbeats 400000 in
theorem cr_X4_taxOf (l : Launch) (D : va_G) (cy : Nat → ClassId) (B : Nat) (od : Nat → Option Nat) {A : AH} {b : Nat} {S : SV} (h9 : SetA cy A b S) (hn : S.1 ≤ 5) {am : Int64} : CR l D cy B od yX4_taxOf cX4_taxOf 8 (some .long) rmX4_taxOf [.ref b, .long am] A (.long (sTax S am)) := by
  by_cases ham : 0 < am
  · exact cr_X4_taxOfP l D cy B od h9 hn ham
  · exact cr_X4_taxOfN l D cy B od h9 hn ham
set_option maxRecDepth 100000 in
set_option maxHeartbeats 400000 in
theorem lp_X4_rateOf (l : Launch) (D : va_G) (cy : Nat → ClassId) (B : Nat) (od : Nat → Option Nat) {p : Program} {e : Env} {s : State} {m : MethodId} {args : Array Value} {below : List Frame} {meth : Method} {c : Code} {A : AH} {z : Nat} {b : Nat} {S : SV} (h9 : SetA cy A b S) (hn : S.1 ≤ 5) {am : Int32} (X : Cx p s m args meth c D cy B od cX4_rateOf 3 tX4_rateOf RX4 (some .int)) : ∀ (k i : Nat), sRate S am = rateN S am k i → i + k = S.1 → G p l e rmX4_rateOf s m args below meth c D B od 3 tX4_rateOf (FinQ false D B od (fun v A' z' => v = some (.int (sRate S am)) ∧ A' = A ∧ z' = z) (fun _ _ => True) args s below 0 0) 0 0 A z 2 [some (.ref b), some (.int am), some (.int (nI i))] [] := by
  obtain ⟨hq, hq0, hq1⟩ := id h9
  intro k
  induction k with
  | zero =>
    intro i hs hk
    refine g_iload_n X rfl rfl ?_
    refine g_aload_n X rfl rfl ?_
    refine g_get X rfl flX4_46 (ci := 4) rfl hq rfl ?_
    first | refine g_ic_geN X rfl (by omega) (by omega) (fun h1 => ?_) (fun h1 => ?_) | refine g_icmp_ge X rfl (fun h1 => ?_) (fun h1 => ?_)
    · refine g_aload_n X rfl rfl ?_
      refine g_get X rfl flX4_43 (ci := 4) rfl hq rfl ?_
      refine g_iret X rfl rfl (by first | rfl | exact bI_nar _ | decide) (Nat.le_refl _) (Nat.le_refl _) ⟨?_, rfl, rfl⟩
      rw [hs, rateN]
    · exact absurd h1 (by omega)
  | succ k ih =>
    intro i hs hk
    refine g_iload_n X rfl rfl ?_
    refine g_aload_n X rfl rfl ?_
    refine g_get X rfl flX4_46 (ci := 4) rfl hq rfl ?_
    first | refine g_ic_geN X rfl (by omega) (by omega) (fun h1 => ?_) (fun h1 => ?_) | refine g_icmp_ge X rfl (fun h1 => ?_) (fun h1 => ?_)
    · exact absurd h1 (by omega)
    · refine g_aload_n X rfl rfl ?_
      refine g_get X rfl flX4_9 (ci := 4) rfl hq rfl ?_
      refine g_iload_n X rfl rfl ?_
      refine g_ialdN X rfl hq0 (by omega) (by decide) ?_
      refine g_iload_n X rfl rfl ?_
      refine g_icmp_lt X rfl (fun h2 => ?_) (fun h2 => ?_)
      · refine g_iinc1 X rfl rfl (by decide) ?_
        refine g_goto X rfl ?_
        exact ih (i + 1) (by rw [hs, rateN, if_pos (by simp_all [← Int32.not_le])]) (by omega)
      · refine g_aload_n X rfl rfl ?_
        refine g_get X rfl flX4_15 (ci := 4) rfl hq rfl ?_
        refine g_iload_n X rfl rfl ?_
        refine g_ialdN X rfl hq1 (by omega) (by decide) ?_
        refine g_iret X rfl rfl (by first | rfl | exact bI_nar _ | decide) (Nat.le_refl _) (Nat.le_refl _) ⟨?_, rfl, rfl⟩
        rw [hs, rateN, if_neg (by simp_all [← Int32.not_le])]
set_option maxRecDepth 100000 in
set_option maxHeartbeats 400000 in
theorem cr_X4_rateOf (l : Launch) (D : va_G) (cy : Nat → ClassId) (B : Nat) (od : Nat → Option Nat) {A : AH} {b : Nat} {S : SV} (h9 : SetA cy A b S) (hn : S.1 ≤ 5) {am : Int32} : CR l D cy B od yX4_rateOf cX4_rateOf 3 (some .int) rmX4_rateOf [.ref b, .int am] A (.int (sRate S am)) := by
  intro z
  refine CT.of (by decide) tX4_rateOf okX4_rateOf (Nat.le_of_ble_eq_true rfl) (q0 := tX4_rateOf[0]) rfl rfl ?_
  intro p e s m args below meth c X _
  refine g_iconst X rfl (v := nI 0) (by decide) ?_
  refine g_istore_n X rfl (by decide) ?_
  exact lp_X4_rateOf l D cy B od h9 hn X S.1 0 rfl (by omega)
end
section
/-! 13: what is read of a state -/
/-- a state: entries, rooms, assets, prepaid, closed, start -/
abbrev StV : Type := EV × RV × RV × (Nat → Int32) × Nat × Int32
def StA (cy : Nat → ClassId) (A : AH) (b : Nat) (S : StV) : Prop := A b = some (.inr (6, [.ref (b + 1), .ref (b + 9), .ref (b + 13), .ref (b + 20), .int (nI S.2.2.2.2.1), .int S.2.2.2.2.2])) ∧ EntA cy A (b + 1) S.1 ∧ RoomA cy A (b + 9) S.2.1 ∧ AssA cy A (b + 13) S.2.2.1 ∧ A (b + 20) = some (.inl (cy 0, 4, .inl S.2.2.2.1))
def WfS (S : StV) : Prop := S.1.1 ≤ 60 ∧ S.2.1.1 ≤ 6 ∧ S.2.2.1.1 ≤ 12 ∧ S.2.2.2.2.1 ≤ 4 ∧ ∀ i, i < S.2.2.1.1 → ¬ S.2.2.1.2 2 i = 0
def sDed (Rm : RV) (kd am dy : Int32) : Int64 := if kd = nI 1 then am.toInt64 else if ¬ kd = nI 2 ∨ (rWhole Rm).toInt64 = 0 then 0 else am.toInt64 * (rUsed Rm (dy / nI 30)).toInt64 / (rWhole Rm).toInt64
def sDedP (S : StV) (i : Nat) : Int32 := if eCnt S.1 i = true then (sDed S.2.1 (S.1.2 0 i) (S.1.2 2 i) (S.1.2 4 i)).toInt32 else nI 0
def sDedC (S : StV) (ca : Int32) : Int64 := sumN (fun i => S.1.2 1 i == ca) (fun i => (sDedP S i).toInt64) S.1.1
def sDedU (S : StV) (dy : Int32) : Int64 := sumN (fun i => eCntIn S.1 (nI 0) dy i) (fun i => sDed S.2.1 (S.1.2 0 i) (S.1.2 2 i) (S.1.2 4 i)) S.1.1
def eSum (E : EV) (kd f t : Int32) : Int64 := sumN (fun i => E.2 0 i == kd && eCntIn E f t i) (fun i => (E.2 2 i).toInt64) E.1
def sRec (S : StV) (f t : Int32) : Int64 := eSum S.1 (nI 0) f t + aSoldFor S.2.2.1 f t
def sRecIn (S : StV) (mo : Int32) : Int64 := sRec S (mo * nI 30) (mo * nI 30 + nI 30 - nI 1)
def sProf (S : StV) (qu : Int32) : Int64 := sRec S (nI 0) ((qu + nI 1) * nI 90 - nI 1) - sDedU S ((qu + nI 1) * nI 90 - nI 1) - aAll S.2.2.1 qu
def sPre (S : StV) : Int64 := sumL 0 (fun i => (S.2.2.2.1 i).toInt64) S.2.2.2.2.1

set_option maxRecDepth 100000 in
set_option maxHeartbeats 400000 in
theorem cr_X6_deductibleOf (l : Launch) (D : va_G) (cy : Nat → ClassId) (B : Nat) (od : Nat → Option Nat) {A : AH} {b : Nat} {S : StV} (hs9 : StA cy A b S) (hw : WfS S) {kd am dy : Int32} : CR l D cy B od yX6_deductibleOf cX6_deductibleOf 6 (some .long) rmX6_deductibleOf [.ref b, .int kd, .int am, .int dy] A (.long (sDed S.2.1 kd am dy)) := by
  intro z
  refine CT.of (by decide) tX6_deductibleOf okX6_deductibleOf (Nat.le_of_ble_eq_true rfl) (q0 := tX6_deductibleOf[0]) rfl rfl ?_
  intro p e s m args below meth c X _
  obtain ⟨hs, hE9, hR9, hA9, hp⟩ := id hs9
  obtain ⟨hE, hE0, hE1, hE2, hE3, hE4, hE5, hE6⟩ := id hE9
  obtain ⟨hR, hR0, hR1, hR2⟩ := id hR9
  obtain ⟨hA, hA0, hA1, hA2, hA3, hA4, hA5⟩ := id hA9
  obtain ⟨w1, w2, w3, w4, w5⟩ := id hw
  refine g_iload_n X rfl rfl ?_
  refine g_iconst X rfl (v := nI 1) (by decide) ?_
  refine g_icmp_ne X rfl (fun h1 => ?_) (fun h1 => ?_)
  · refine g_aload_n X rfl rfl ?_
    refine g_get X rfl flX6_21 (ci := 6) rfl hs rfl ?_
    refine g_rVN X rfl lcX3_wholeMonth lnX6_61 lsX3_wholeMonth (cr_X3_wholeMonth l D cy B od hR9 w2) (ci := 3) hR rfl rfl rfl (Nat.le_of_ble_eq_true rfl) ⟨⟨by decide, by decide⟩, rfl, rfl⟩ ⟨Nat.zero_le _, Nat.zero_le _⟩ ?_
    refine g_i2l X rfl ?_
    refine g_lstore X rfl (by decide) ?_
    refine g_iload_n X rfl rfl ?_
    refine g_iconst X rfl (v := nI 2) (by decide) ?_
    refine g_icmp_ne X rfl (fun h2 => ?_) (fun h2 => ?_)
    · refine g_lconst X rfl (v := 0) (by decide) ?_
      refine g_lret X rfl rfl (Nat.le_refl _) (Nat.le_refl _) ⟨?_, rfl, rfl⟩
      first | (simp_all [sDed]; done) | (simp_all [sDed, nI_0, n10]; done) | (simp_all [sDed, nI_0, n10, ← Int32.not_le]; done)
    · refine g_lload X rfl rfl ?_
      refine g_lconst X rfl (v := 0) (by decide) ?_
      refine g_l_ne X rfl rfl (fun h3 => ?_) (fun h3 => ?_)
      · refine g_iload_n X rfl rfl ?_
        refine g_i2l X rfl ?_
        refine g_aload_n X rfl rfl ?_
        refine g_get X rfl flX6_21 (ci := 6) rfl hs rfl ?_
        refine g_iload_n X rfl rfl ?_
        refine g_bipush X rfl (v := nI 30) (by decide) ?_
        refine g_idiv X rfl (by decide) ?_
        refine g_rVN X rfl lcX3_usedIn lnX6_65 lsX3_usedIn (cr_X3_usedIn l D cy B od hR9 w2) (ci := 3) hR rfl rfl rfl (Nat.le_of_ble_eq_true rfl) ⟨⟨by decide, by decide⟩, rfl, rfl⟩ ⟨Nat.zero_le _, Nat.zero_le _⟩ ?_
        refine g_i2l X rfl ?_
        refine g_lmul X rfl ?_
        refine g_lload X rfl rfl ?_
        refine g_ldiv X rfl (by assumption) ?_
        refine g_lret X rfl rfl (Nat.le_refl _) (Nat.le_refl _) ⟨?_, rfl, rfl⟩
        first | (simp_all [sDed]; done) | (simp_all [sDed, nI_0, n10]; done) | (simp_all [sDed, nI_0, n10, ← Int32.not_le]; done)
      · refine g_lconst X rfl (v := 0) (by decide) ?_
        refine g_lret X rfl rfl (Nat.le_refl _) (Nat.le_refl _) ⟨?_, rfl, rfl⟩
        first | (simp_all [sDed]; done) | (simp_all [sDed, nI_0, n10]; done) | (simp_all [sDed, nI_0, n10, ← Int32.not_le]; done)
  · refine g_iload_n X rfl rfl ?_
    refine g_i2l X rfl ?_
    refine g_lret X rfl rfl (Nat.le_refl _) (Nat.le_refl _) ⟨?_, rfl, rfl⟩
    first | (simp_all [sDed]; done) | (simp_all [sDed, nI_0, n10]; done) | (simp_all [sDed, nI_0, n10, ← Int32.not_le]; done)
set_option maxRecDepth 100000 in
set_option maxHeartbeats 400000 in
theorem cr_X6_deductiblePart (l : Launch) (D : va_G) (cy : Nat → ClassId) (B : Nat) (od : Nat → Option Nat) {A : AH} {b : Nat} {S : StV} (hs9 : StA cy A b S) (hw : WfS S) {i : Nat} (hi : i < 60) : CR l D cy B od yX6_deductiblePart cX6_deductiblePart 2 (some .int) rmX6_deductiblePart [.ref b, .int (nI i)] A (.int (sDedP S i)) := by
  intro z
  refine CT.of (by decide) tX6_deductiblePart okX6_deductiblePart (Nat.le_of_ble_eq_true rfl) (q0 := tX6_deductiblePart[0]) rfl rfl ?_
  intro p e s m args below meth c X _
  obtain ⟨hs, hE9, hR9, hA9, hp⟩ := id hs9
  obtain ⟨hE, hE0, hE1, hE2, hE3, hE4, hE5, hE6⟩ := id hE9
  obtain ⟨hR, hR0, hR1, hR2⟩ := id hR9
  obtain ⟨hA, hA0, hA1, hA2, hA3, hA4, hA5⟩ := id hA9
  obtain ⟨w1, w2, w3, w4, w5⟩ := id hw
  refine g_aload_n X rfl rfl ?_
  refine g_get X rfl flX6_12 (ci := 6) rfl hs rfl ?_
  refine g_iload_n X rfl rfl ?_
  refine g_rVN X rfl lcX1_counts lnX6_69 lsX1_counts (cr_X1_counts l D cy B od hE9 (by omega)) (ci := 1) hE rfl rfl rfl (Nat.le_of_ble_eq_true rfl) ⟨⟨by decide, by decide⟩, rfl, rfl⟩ ⟨Nat.zero_le _, Nat.zero_le _⟩ ?_
  first | refine g_if_neB X rfl (fun h1 => ?_) (fun h1 => ?_) | refine g_if_ne X rfl (fun h1 => ?_) (fun h1 => ?_)
  · refine g_aload_n X rfl rfl ?_
    refine g_aload_n X rfl rfl ?_
    refine g_get X rfl flX6_12 (ci := 6) rfl hs rfl ?_
    refine g_get X rfl flX6_73 (ci := 1) rfl hE rfl ?_
    refine g_iload_n X rfl rfl ?_
    refine g_ialdN X rfl hE0 (by omega) (by decide) ?_
    refine g_aload_n X rfl rfl ?_
    refine g_get X rfl flX6_12 (ci := 6) rfl hs rfl ?_
    refine g_get X rfl flX6_76 (ci := 1) rfl hE rfl ?_
    refine g_iload_n X rfl rfl ?_
    refine g_ialdN X rfl hE2 (by omega) (by decide) ?_
    refine g_aload_n X rfl rfl ?_
    refine g_get X rfl flX6_12 (ci := 6) rfl hs rfl ?_
    refine g_get X rfl flX6_79 (ci := 1) rfl hE rfl ?_
    refine g_iload_n X rfl rfl ?_
    refine g_ialdN X rfl hE4 (by omega) (by decide) ?_
    refine g_rV X rfl lcX6_deductibleOf lmX6_82 lsX6_deductibleOf (cr_X6_deductibleOf l D cy B od hs9 hw) (ci := 6) hs rfl rfl rfl (Nat.le_of_ble_eq_true rfl) ⟨⟨by decide, by decide⟩, rfl, rfl⟩ ⟨Nat.zero_le _, Nat.zero_le _⟩ ?_
    refine g_l2i X rfl ?_
    refine g_iret X rfl rfl (by first | rfl | exact bI_nar _ | decide) (Nat.le_refl _) (Nat.le_refl _) ⟨?_, rfl, rfl⟩
    first | (simp_all [sDedP]; done) | (simp_all [sDedP, nI_0, n10]; done) | (simp_all [sDedP, nI_0, n10, ← Int32.not_le]; done)
  · refine g_iconst X rfl (v := nI 0) (by decide) ?_
    refine g_iret X rfl rfl (by first | rfl | exact bI_nar _ | decide) (Nat.le_refl _) (Nat.le_refl _) ⟨?_, rfl, rfl⟩
    first | (simp_all [sDedP]; done) | (simp_all [sDedP, nI_0, n10]; done) | (simp_all [sDedP, nI_0, n10, ← Int32.not_le]; done)
set_option maxRecDepth 100000 in
set_option maxHeartbeats 400000 in
theorem lp_X6_deductiblePartsOf (l : Launch) (D : va_G) (cy : Nat → ClassId) (B : Nat) (od : Nat → Option Nat) {p : Program} {e : Env} {s : State} {m : MethodId} {args : Array Value} {below : List Frame} {meth : Method} {c : Code} {A : AH} {z : Nat} {b : Nat} {S : StV} (hs9 : StA cy A b S) (hw : WfS S) {ca : Int32} (X : Cx p s m args meth c D cy B od cX6_deductiblePartsOf 5 tX6_deductiblePartsOf RX6 (some .long)) : ∀ (k i : Nat), 0 ≤ i → i ≤ S.1.1 → S.1.1 - i < k → G p l e rmX6_deductiblePartsOf s m args below meth c D B od 5 tX6_deductiblePartsOf (FinQ false D B od (fun v A' z' => v = some (.long (sDedC S ca)) ∧ A' = A ∧ z' = z) (fun _ _ => True) args s below 0 0) 0 0 A z 4 [some (.ref b), some (.int ca), some (.long (sumN (fun i => S.1.2 1 i == ca) (fun i => (sDedP S i).toInt64) i)), none, some (.int (nI i))] [] := by
  obtain ⟨hs, hE9, hR9, hA9, hp⟩ := id hs9
  obtain ⟨hE, hE0, hE1, hE2, hE3, hE4, hE5, hE6⟩ := id hE9
  obtain ⟨hR, hR0, hR1, hR2⟩ := id hR9
  obtain ⟨hA, hA0, hA1, hA2, hA3, hA4, hA5⟩ := id hA9
  obtain ⟨w1, w2, w3, w4, w5⟩ := id hw
  intro k
  induction k with
  | zero => intro i _ _ h; omega
  | succ k ih =>
    intro i hlo hi hk
    refine g_iload X rfl rfl ?_
    refine g_aload_n X rfl rfl ?_
    refine g_get X rfl flX6_12 (ci := 6) rfl hs rfl ?_
    refine g_get X rfl flX6_36 (ci := 1) rfl hE rfl ?_
    first | refine g_ic_geN X rfl (by omega) (by omega) (fun h1 => ?_) (fun h1 => ?_) | refine g_icmp_ge X rfl (fun h1 => ?_) (fun h1 => ?_)
    · refine g_lload_n X rfl rfl ?_
      refine g_lret X rfl rfl (Nat.le_refl _) (Nat.le_refl _) ⟨?_, rfl, rfl⟩
      rw [show i = S.1.1 by omega]; rfl
    · refine g_aload_n X rfl rfl ?_
      refine g_get X rfl flX6_12 (ci := 6) rfl hs rfl ?_
      refine g_get X rfl flX6_86 (ci := 1) rfl hE rfl ?_
      refine g_iload X rfl rfl ?_
      refine g_ialdN X rfl hE1 (by omega) (by decide) ?_
      refine g_iload_n X rfl rfl ?_
      refine g_icmp_ne X rfl (fun h2 => ?_) (fun h2 => ?_)
      · refine g_iinc1 X rfl rfl (by decide) ?_
        refine g_goto X rfl ?_
        have K9 := ih (i + 1) (by omega) (by omega) (by omega)
        first | (rw [show sumN (fun i => S.1.2 1 i == ca) (fun i => (sDedP S i).toInt64) (i + 1) = sumN (fun i => S.1.2 1 i == ca) (fun i => (sDedP S i).toInt64) i + (fun i => (sDedP S i).toInt64) i by rw [sumN, if_pos (by simp_all)]] at K9; exact K9) | (rw [show sumN (fun i => S.1.2 1 i == ca) (fun i => (sDedP S i).toInt64) (i + 1) = sumN (fun i => S.1.2 1 i == ca) (fun i => (sDedP S i).toInt64) i by rw [sumN, if_neg (by simp_all)]] at K9; exact K9)
      · refine g_lload_n X rfl rfl ?_
        refine g_aload_n X rfl rfl ?_
        refine g_iload X rfl rfl ?_
        refine g_rV X rfl lcX6_deductiblePart lmX6_89 lsX6_deductiblePart (cr_X6_deductiblePart l D cy B od hs9 hw (by omega)) (ci := 6) hs rfl rfl rfl (Nat.le_of_ble_eq_true rfl) ⟨⟨by decide, by decide⟩, rfl, rfl⟩ ⟨Nat.zero_le _, Nat.zero_le _⟩ ?_
        refine g_i2l X rfl ?_
        refine g_ladd X rfl ?_
        refine g_lstore_n X rfl (by decide) ?_
        refine g_iinc1 X rfl rfl (by decide) ?_
        refine g_goto X rfl ?_
        have K9 := ih (i + 1) (by omega) (by omega) (by omega)
        first | (rw [show sumN (fun i => S.1.2 1 i == ca) (fun i => (sDedP S i).toInt64) (i + 1) = sumN (fun i => S.1.2 1 i == ca) (fun i => (sDedP S i).toInt64) i + (fun i => (sDedP S i).toInt64) i by rw [sumN, if_pos (by simp_all)]] at K9; exact K9) | (rw [show sumN (fun i => S.1.2 1 i == ca) (fun i => (sDedP S i).toInt64) (i + 1) = sumN (fun i => S.1.2 1 i == ca) (fun i => (sDedP S i).toInt64) i by rw [sumN, if_neg (by simp_all)]] at K9; exact K9)
set_option maxRecDepth 100000 in
set_option maxHeartbeats 400000 in
theorem cr_X6_deductiblePartsOf (l : Launch) (D : va_G) (cy : Nat → ClassId) (B : Nat) (od : Nat → Option Nat) {A : AH} {b : Nat} {S : StV} (hs9 : StA cy A b S) (hw : WfS S) {ca : Int32} : CR l D cy B od yX6_deductiblePartsOf cX6_deductiblePartsOf 5 (some .long) rmX6_deductiblePartsOf [.ref b, .int ca] A (.long (sDedC S ca)) := by
  intro z
  refine CT.of (by decide) tX6_deductiblePartsOf okX6_deductiblePartsOf (Nat.le_of_ble_eq_true rfl) (q0 := tX6_deductiblePartsOf[0]) rfl rfl ?_
  intro p e s m args below meth c X _
  obtain ⟨hs, hE9, hR9, hA9, hp⟩ := id hs9
  obtain ⟨hE, hE0, hE1, hE2, hE3, hE4, hE5, hE6⟩ := id hE9
  obtain ⟨hR, hR0, hR1, hR2⟩ := id hR9
  obtain ⟨hA, hA0, hA1, hA2, hA3, hA4, hA5⟩ := id hA9
  obtain ⟨w1, w2, w3, w4, w5⟩ := id hw
  refine g_lconst X rfl (v := 0) (by decide) ?_
  refine g_lstore_n X rfl (by decide) ?_
  refine g_iconst X rfl (v := nI 0) (by decide) ?_
  refine g_istore X rfl (by decide) ?_
  exact lp_X6_deductiblePartsOf l D cy B od hs9 hw (ca := ca) X (S.1.1 + 1) 0 (by omega) (by omega) (by omega)
set_option maxRecDepth 100000 in
set_option maxHeartbeats 400000 in
theorem lp_X6_deductibleUpTo (l : Launch) (D : va_G) (cy : Nat → ClassId) (B : Nat) (od : Nat → Option Nat) {p : Program} {e : Env} {s : State} {m : MethodId} {args : Array Value} {below : List Frame} {meth : Method} {c : Code} {A : AH} {z : Nat} {b : Nat} {S : StV} (hs9 : StA cy A b S) (hw : WfS S) {dy : Int32} (X : Cx p s m args meth c D cy B od cX6_deductibleUpTo 5 tX6_deductibleUpTo RX6 (some .long)) : ∀ (k i : Nat), 0 ≤ i → i ≤ S.1.1 → S.1.1 - i < k → G p l e rmX6_deductibleUpTo s m args below meth c D B od 5 tX6_deductibleUpTo (FinQ false D B od (fun v A' z' => v = some (.long (sDedU S dy)) ∧ A' = A ∧ z' = z) (fun _ _ => True) args s below 0 0) 0 0 A z 4 [some (.ref b), some (.int dy), some (.long (sumN (fun i => eCntIn S.1 (nI 0) dy i) (fun i => sDed S.2.1 (S.1.2 0 i) (S.1.2 2 i) (S.1.2 4 i)) i)), none, some (.int (nI i))] [] := by
  obtain ⟨hs, hE9, hR9, hA9, hp⟩ := id hs9
  obtain ⟨hE, hE0, hE1, hE2, hE3, hE4, hE5, hE6⟩ := id hE9
  obtain ⟨hR, hR0, hR1, hR2⟩ := id hR9
  obtain ⟨hA, hA0, hA1, hA2, hA3, hA4, hA5⟩ := id hA9
  obtain ⟨w1, w2, w3, w4, w5⟩ := id hw
  intro k
  induction k with
  | zero => intro i _ _ h; omega
  | succ k ih =>
    intro i hlo hi hk
    refine g_iload X rfl rfl ?_
    refine g_aload_n X rfl rfl ?_
    refine g_get X rfl flX6_12 (ci := 6) rfl hs rfl ?_
    refine g_get X rfl flX6_36 (ci := 1) rfl hE rfl ?_
    first | refine g_ic_geN X rfl (by omega) (by omega) (fun h1 => ?_) (fun h1 => ?_) | refine g_icmp_ge X rfl (fun h1 => ?_) (fun h1 => ?_)
    · refine g_lload_n X rfl rfl ?_
      refine g_lret X rfl rfl (Nat.le_refl _) (Nat.le_refl _) ⟨?_, rfl, rfl⟩
      rw [show i = S.1.1 by omega]; rfl
    · refine g_aload_n X rfl rfl ?_
      refine g_get X rfl flX6_12 (ci := 6) rfl hs rfl ?_
      refine g_iload X rfl rfl ?_
      refine g_iconst X rfl (v := nI 0) (by decide) ?_
      refine g_iload_n X rfl rfl ?_
      refine g_rVN X rfl lcX1_countsWithin lnX6_92 lsX1_countsWithin (cr_X1_countsWithin l D cy B od hE9 (by omega)) (ci := 1) hE rfl rfl rfl (Nat.le_of_ble_eq_true rfl) ⟨⟨by decide, by decide⟩, rfl, rfl⟩ ⟨Nat.zero_le _, Nat.zero_le _⟩ ?_
      first | refine g_if_eqB X rfl (fun h2 => ?_) (fun h2 => ?_) | refine g_if_eq X rfl (fun h2 => ?_) (fun h2 => ?_)
      · refine g_iinc1 X rfl rfl (by decide) ?_
        refine g_goto X rfl ?_
        have K9 := ih (i + 1) (by omega) (by omega) (by omega)
        first | (rw [show sumN (fun i => eCntIn S.1 (nI 0) dy i) (fun i => sDed S.2.1 (S.1.2 0 i) (S.1.2 2 i) (S.1.2 4 i)) (i + 1) = sumN (fun i => eCntIn S.1 (nI 0) dy i) (fun i => sDed S.2.1 (S.1.2 0 i) (S.1.2 2 i) (S.1.2 4 i)) i + (fun i => sDed S.2.1 (S.1.2 0 i) (S.1.2 2 i) (S.1.2 4 i)) i by rw [sumN, if_pos (by simp_all)]] at K9; exact K9) | (rw [show sumN (fun i => eCntIn S.1 (nI 0) dy i) (fun i => sDed S.2.1 (S.1.2 0 i) (S.1.2 2 i) (S.1.2 4 i)) (i + 1) = sumN (fun i => eCntIn S.1 (nI 0) dy i) (fun i => sDed S.2.1 (S.1.2 0 i) (S.1.2 2 i) (S.1.2 4 i)) i by rw [sumN, if_neg (by simp_all)]] at K9; exact K9)
      · refine g_lload_n X rfl rfl ?_
        refine g_aload_n X rfl rfl ?_
        refine g_aload_n X rfl rfl ?_
        refine g_get X rfl flX6_12 (ci := 6) rfl hs rfl ?_
        refine g_get X rfl flX6_73 (ci := 1) rfl hE rfl ?_
        refine g_iload X rfl rfl ?_
        refine g_ialdN X rfl hE0 (by omega) (by decide) ?_
        refine g_aload_n X rfl rfl ?_
        refine g_get X rfl flX6_12 (ci := 6) rfl hs rfl ?_
        refine g_get X rfl flX6_76 (ci := 1) rfl hE rfl ?_
        refine g_iload X rfl rfl ?_
        refine g_ialdN X rfl hE2 (by omega) (by decide) ?_
        refine g_aload_n X rfl rfl ?_
        refine g_get X rfl flX6_12 (ci := 6) rfl hs rfl ?_
        refine g_get X rfl flX6_79 (ci := 1) rfl hE rfl ?_
        refine g_iload X rfl rfl ?_
        refine g_ialdN X rfl hE4 (by omega) (by decide) ?_
        refine g_rV X rfl lcX6_deductibleOf lmX6_82 lsX6_deductibleOf (cr_X6_deductibleOf l D cy B od hs9 hw) (ci := 6) hs rfl rfl rfl (Nat.le_of_ble_eq_true rfl) ⟨⟨by decide, by decide⟩, rfl, rfl⟩ ⟨Nat.zero_le _, Nat.zero_le _⟩ ?_
        refine g_ladd X rfl ?_
        refine g_lstore_n X rfl (by decide) ?_
        refine g_iinc1 X rfl rfl (by decide) ?_
        refine g_goto X rfl ?_
        have K9 := ih (i + 1) (by omega) (by omega) (by omega)
        first | (rw [show sumN (fun i => eCntIn S.1 (nI 0) dy i) (fun i => sDed S.2.1 (S.1.2 0 i) (S.1.2 2 i) (S.1.2 4 i)) (i + 1) = sumN (fun i => eCntIn S.1 (nI 0) dy i) (fun i => sDed S.2.1 (S.1.2 0 i) (S.1.2 2 i) (S.1.2 4 i)) i + (fun i => sDed S.2.1 (S.1.2 0 i) (S.1.2 2 i) (S.1.2 4 i)) i by rw [sumN, if_pos (by simp_all)]] at K9; exact K9) | (rw [show sumN (fun i => eCntIn S.1 (nI 0) dy i) (fun i => sDed S.2.1 (S.1.2 0 i) (S.1.2 2 i) (S.1.2 4 i)) (i + 1) = sumN (fun i => eCntIn S.1 (nI 0) dy i) (fun i => sDed S.2.1 (S.1.2 0 i) (S.1.2 2 i) (S.1.2 4 i)) i by rw [sumN, if_neg (by simp_all)]] at K9; exact K9)
set_option maxRecDepth 100000 in
set_option maxHeartbeats 400000 in
theorem cr_X6_deductibleUpTo (l : Launch) (D : va_G) (cy : Nat → ClassId) (B : Nat) (od : Nat → Option Nat) {A : AH} {b : Nat} {S : StV} (hs9 : StA cy A b S) (hw : WfS S) {dy : Int32} : CR l D cy B od yX6_deductibleUpTo cX6_deductibleUpTo 5 (some .long) rmX6_deductibleUpTo [.ref b, .int dy] A (.long (sDedU S dy)) := by
  intro z
  refine CT.of (by decide) tX6_deductibleUpTo okX6_deductibleUpTo (Nat.le_of_ble_eq_true rfl) (q0 := tX6_deductibleUpTo[0]) rfl rfl ?_
  intro p e s m args below meth c X _
  obtain ⟨hs, hE9, hR9, hA9, hp⟩ := id hs9
  obtain ⟨hE, hE0, hE1, hE2, hE3, hE4, hE5, hE6⟩ := id hE9
  obtain ⟨hR, hR0, hR1, hR2⟩ := id hR9
  obtain ⟨hA, hA0, hA1, hA2, hA3, hA4, hA5⟩ := id hA9
  obtain ⟨w1, w2, w3, w4, w5⟩ := id hw
  refine g_lconst X rfl (v := 0) (by decide) ?_
  refine g_lstore_n X rfl (by decide) ?_
  refine g_iconst X rfl (v := nI 0) (by decide) ?_
  refine g_istore X rfl (by decide) ?_
  exact lp_X6_deductibleUpTo l D cy B od hs9 hw (dy := dy) X (S.1.1 + 1) 0 (by omega) (by omega) (by omega)
set_option maxRecDepth 100000 in
set_option maxHeartbeats 400000 in
theorem cr_X6_received (l : Launch) (D : va_G) (cy : Nat → ClassId) (B : Nat) (od : Nat → Option Nat) {A : AH} {b : Nat} {S : StV} (hs9 : StA cy A b S) (hw : WfS S) {f t : Int32} : CR l D cy B od yX6_received cX6_received 3 (some .long) rmX6_received [.ref b, .int f, .int t] A (.long (sRec S f t)) := by
  intro z
  refine CT.of (by decide) tX6_received okX6_received (Nat.le_of_ble_eq_true rfl) (q0 := tX6_received[0]) rfl rfl ?_
  intro p e s m args below meth c X _
  obtain ⟨hs, hE9, hR9, hA9, hp⟩ := id hs9
  obtain ⟨hE, hE0, hE1, hE2, hE3, hE4, hE5, hE6⟩ := id hE9
  obtain ⟨hR, hR0, hR1, hR2⟩ := id hR9
  obtain ⟨hA, hA0, hA1, hA2, hA3, hA4, hA5⟩ := id hA9
  obtain ⟨w1, w2, w3, w4, w5⟩ := id hw
  refine g_aload_n X rfl rfl ?_
  refine g_get X rfl flX6_12 (ci := 6) rfl hs rfl ?_
  refine g_iconst X rfl (v := nI 0) (by decide) ?_
  refine g_iload_n X rfl rfl ?_
  refine g_iload_n X rfl rfl ?_
  refine g_rVN X rfl lcX1_sumPaid lnX6_96 lsX1_sumPaid (cr_X1_sumPaid l D cy B od hE9 w1) (ci := 1) hE rfl rfl rfl (Nat.le_of_ble_eq_true rfl) ⟨⟨by decide, by decide⟩, rfl, rfl⟩ ⟨Nat.zero_le _, Nat.zero_le _⟩ ?_
  refine g_aload_n X rfl rfl ?_
  refine g_get X rfl flX6_28 (ci := 6) rfl hs rfl ?_
  refine g_iload_n X rfl rfl ?_
  refine g_iload_n X rfl rfl ?_
  refine g_rVN X rfl lcX0_soldFor lnX6_99 lsX0_soldFor (cr_X0_soldFor l D cy B od hA9 w3) (ci := 0) hA rfl rfl rfl (Nat.le_of_ble_eq_true rfl) ⟨⟨by decide, by decide⟩, rfl, rfl⟩ ⟨Nat.zero_le _, Nat.zero_le _⟩ ?_
  refine g_ladd X rfl ?_
  refine g_lret X rfl rfl (Nat.le_refl _) (Nat.le_refl _) ⟨?_, rfl, rfl⟩
  rfl
set_option maxRecDepth 100000 in
set_option maxHeartbeats 400000 in
theorem cr_X6_receivedIn (l : Launch) (D : va_G) (cy : Nat → ClassId) (B : Nat) (od : Nat → Option Nat) {A : AH} {b : Nat} {S : StV} (hs9 : StA cy A b S) (hw : WfS S) {mo : Int32} : CR l D cy B od yX6_receivedIn cX6_receivedIn 3 (some .long) rmX6_receivedIn [.ref b, .int mo] A (.long (sRecIn S mo)) := by
  intro z
  refine CT.of (by decide) tX6_receivedIn okX6_receivedIn (Nat.le_of_ble_eq_true rfl) (q0 := tX6_receivedIn[0]) rfl rfl ?_
  intro p e s m args below meth c X _
  obtain ⟨hs, hE9, hR9, hA9, hp⟩ := id hs9
  obtain ⟨hE, hE0, hE1, hE2, hE3, hE4, hE5, hE6⟩ := id hE9
  obtain ⟨hR, hR0, hR1, hR2⟩ := id hR9
  obtain ⟨hA, hA0, hA1, hA2, hA3, hA4, hA5⟩ := id hA9
  obtain ⟨w1, w2, w3, w4, w5⟩ := id hw
  refine g_iload_n X rfl rfl ?_
  refine g_bipush X rfl (v := nI 30) (by decide) ?_
  refine g_imul X rfl ?_
  refine g_istore_n X rfl (by decide) ?_
  refine g_aload_n X rfl rfl ?_
  refine g_iload_n X rfl rfl ?_
  refine g_iload_n X rfl rfl ?_
  refine g_bipush X rfl (v := nI 30) (by decide) ?_
  refine g_iadd X rfl ?_
  refine g_iconst X rfl (v := nI 1) (by decide) ?_
  refine g_isub X rfl ?_
  refine g_rV X rfl lcX6_received lmX6_103 lsX6_received (cr_X6_received l D cy B od hs9 hw) (ci := 6) hs rfl rfl rfl (Nat.le_of_ble_eq_true rfl) ⟨⟨by decide, by decide⟩, rfl, rfl⟩ ⟨Nat.zero_le _, Nat.zero_le _⟩ ?_
  refine g_lret X rfl rfl (Nat.le_refl _) (Nat.le_refl _) ⟨?_, rfl, rfl⟩
  rfl
set_option maxRecDepth 100000 in
set_option maxHeartbeats 400000 in
theorem cr_X6_profitUpTo (l : Launch) (D : va_G) (cy : Nat → ClassId) (B : Nat) (od : Nat → Option Nat) {A : AH} {b : Nat} {S : StV} (hs9 : StA cy A b S) (hw : WfS S) {qu : Int32} : CR l D cy B od yX6_profitUpTo cX6_profitUpTo 3 (some .long) rmX6_profitUpTo [.ref b, .int qu] A (.long (sProf S qu)) := by
  intro z
  refine CT.of (by decide) tX6_profitUpTo okX6_profitUpTo (Nat.le_of_ble_eq_true rfl) (q0 := tX6_profitUpTo[0]) rfl rfl ?_
  intro p e s m args below meth c X _
  obtain ⟨hs, hE9, hR9, hA9, hp⟩ := id hs9
  obtain ⟨hE, hE0, hE1, hE2, hE3, hE4, hE5, hE6⟩ := id hE9
  obtain ⟨hR, hR0, hR1, hR2⟩ := id hR9
  obtain ⟨hA, hA0, hA1, hA2, hA3, hA4, hA5⟩ := id hA9
  obtain ⟨w1, w2, w3, w4, w5⟩ := id hw
  refine g_iload_n X rfl rfl ?_
  refine g_iconst X rfl (v := nI 1) (by decide) ?_
  refine g_iadd X rfl ?_
  refine g_bipush X rfl (v := nI 90) (by decide) ?_
  refine g_imul X rfl ?_
  refine g_iconst X rfl (v := nI 1) (by decide) ?_
  refine g_isub X rfl ?_
  refine g_istore_n X rfl (by decide) ?_
  refine g_aload_n X rfl rfl ?_
  refine g_iconst X rfl (v := nI 0) (by decide) ?_
  refine g_iload_n X rfl rfl ?_
  refine g_rV X rfl lcX6_received lmX6_103 lsX6_received (cr_X6_received l D cy B od hs9 hw) (ci := 6) hs rfl rfl rfl (Nat.le_of_ble_eq_true rfl) ⟨⟨by decide, by decide⟩, rfl, rfl⟩ ⟨Nat.zero_le _, Nat.zero_le _⟩ ?_
  refine g_aload_n X rfl rfl ?_
  refine g_iload_n X rfl rfl ?_
  refine g_rV X rfl lcX6_deductibleUpTo lmX6_106 lsX6_deductibleUpTo (cr_X6_deductibleUpTo l D cy B od hs9 hw) (ci := 6) hs rfl rfl rfl (Nat.le_of_ble_eq_true rfl) ⟨⟨by decide, by decide⟩, rfl, rfl⟩ ⟨Nat.zero_le _, Nat.zero_le _⟩ ?_
  refine g_lsub X rfl ?_
  refine g_aload_n X rfl rfl ?_
  refine g_get X rfl flX6_28 (ci := 6) rfl hs rfl ?_
  refine g_iload_n X rfl rfl ?_
  refine g_rVN X rfl lcX0_allWrittenUpTo lnX6_110 lsX0_allWrittenUpTo (cr_X0_allWrittenUpTo l D cy B od hA9 w3 w5) (ci := 0) hA rfl rfl rfl (Nat.le_of_ble_eq_true rfl) ⟨⟨by decide, by decide⟩, rfl, rfl⟩ ⟨Nat.zero_le _, Nat.zero_le _⟩ ?_
  refine g_lsub X rfl ?_
  refine g_lret X rfl rfl (Nat.le_refl _) (Nat.le_refl _) ⟨?_, rfl, rfl⟩
  rfl
set_option maxRecDepth 100000 in
set_option maxHeartbeats 400000 in
theorem lp_X6_prepaidSoFar (l : Launch) (D : va_G) (cy : Nat → ClassId) (B : Nat) (od : Nat → Option Nat) {p : Program} {e : Env} {s : State} {m : MethodId} {args : Array Value} {below : List Frame} {meth : Method} {c : Code} {A : AH} {z : Nat} {b : Nat} {S : StV} (hs9 : StA cy A b S) (hw : WfS S) (X : Cx p s m args meth c D cy B od cX6_prepaidSoFar 4 tX6_prepaidSoFar RX6 (some .long)) : ∀ (k i : Nat), 0 ≤ i → i ≤ S.2.2.2.2.1 → S.2.2.2.2.1 - i < k → G p l e rmX6_prepaidSoFar s m args below meth c D B od 4 tX6_prepaidSoFar (FinQ false D B od (fun v A' z' => v = some (.long (sPre S)) ∧ A' = A ∧ z' = z) (fun _ _ => True) args s below 0 0) 0 0 A z 4 [some (.ref b), some (.long (sumL 0 (fun i => (S.2.2.2.1 i).toInt64) i)), none, some (.int (nI i))] [] := by
  obtain ⟨hs, hE9, hR9, hA9, hp⟩ := id hs9
  obtain ⟨hE, hE0, hE1, hE2, hE3, hE4, hE5, hE6⟩ := id hE9
  obtain ⟨hR, hR0, hR1, hR2⟩ := id hR9
  obtain ⟨hA, hA0, hA1, hA2, hA3, hA4, hA5⟩ := id hA9
  obtain ⟨w1, w2, w3, w4, w5⟩ := id hw
  intro k
  induction k with
  | zero => intro i _ _ h; omega
  | succ k ih =>
    intro i hlo hi hk
    refine g_iload_n X rfl rfl ?_
    refine g_aload_n X rfl rfl ?_
    refine g_get X rfl flX6_48 (ci := 6) rfl hs rfl ?_
    first | refine g_ic_geN X rfl (by omega) (by omega) (fun h1 => ?_) (fun h1 => ?_) | refine g_icmp_ge X rfl (fun h1 => ?_) (fun h1 => ?_)
    · refine g_lload_n X rfl rfl ?_
      refine g_lret X rfl rfl (Nat.le_refl _) (Nat.le_refl _) ⟨?_, rfl, rfl⟩
      rw [show i = S.2.2.2.2.1 by omega]; rfl
    · refine g_lload_n X rfl rfl ?_
      refine g_aload_n X rfl rfl ?_
      refine g_get X rfl flX6_32 (ci := 6) rfl hs rfl ?_
      refine g_iload_n X rfl rfl ?_
      refine g_ialdN X rfl hp (by omega) (by decide) ?_
      refine g_i2l X rfl ?_
      refine g_ladd X rfl ?_
      refine g_lstore_n X rfl (by decide) ?_
      refine g_iinc1 X rfl rfl (by decide) ?_
      refine g_goto X rfl ?_
      exact ih (i + 1) (by omega) (by omega) (by omega)
set_option maxRecDepth 100000 in
set_option maxHeartbeats 400000 in
theorem cr_X6_prepaidSoFar (l : Launch) (D : va_G) (cy : Nat → ClassId) (B : Nat) (od : Nat → Option Nat) {A : AH} {b : Nat} {S : StV} (hs9 : StA cy A b S) (hw : WfS S) : CR l D cy B od yX6_prepaidSoFar cX6_prepaidSoFar 4 (some .long) rmX6_prepaidSoFar [.ref b] A (.long (sPre S)) := by
  intro z
  refine CT.of (by decide) tX6_prepaidSoFar okX6_prepaidSoFar (Nat.le_of_ble_eq_true rfl) (q0 := tX6_prepaidSoFar[0]) rfl rfl ?_
  intro p e s m args below meth c X _
  obtain ⟨hs, hE9, hR9, hA9, hp⟩ := id hs9
  obtain ⟨hE, hE0, hE1, hE2, hE3, hE4, hE5, hE6⟩ := id hE9
  obtain ⟨hR, hR0, hR1, hR2⟩ := id hR9
  obtain ⟨hA, hA0, hA1, hA2, hA3, hA4, hA5⟩ := id hA9
  obtain ⟨w1, w2, w3, w4, w5⟩ := id hw
  refine g_lconst X rfl (v := 0) (by decide) ?_
  refine g_lstore_n X rfl (by decide) ?_
  refine g_iconst X rfl (v := nI 0) (by decide) ?_
  refine g_istore_n X rfl (by decide) ?_
  exact lp_X6_prepaidSoFar l D cy B od hs9 hw X (S.2.2.2.2.1 + 1) 0 (by omega) (by omega) (by omega)
end
section
/-! 14: outcomes: an answer or the name of what is thrown; checks; switches -/
/-- the outcome of a call: what is thrown, or an answer -/
abbrev OC : Type := String ⊕ Value
def CO (l : Launch) (D : va_G) (cy : Nat → ClassId) (B : Nat) (od : Nat → Option Nat) (y : MethodName) (bytes : ByteArray) (maxL : Nat) (rt : Option FieldType) (rm : Room) (av : List Value) (A : AH) (oc : OC) (A2 : AH) : Prop := ∀ z, CX l D cy B od y bytes maxL rt rm av A z (fun v A' z' => ∃ r, oc = .inr r ∧ v = some r ∧ A' = A2 ∧ z' = z) (fun E A' => oc = .inl E ∧ A' = A)
theorem tsw_out {x : Int32} (n : Nat) (h : ∀ k, k ≤ n → ¬ x = nI k) (hn : n < 2 ^ 31) : x.toInt < 0 ∨ (n : Int) < x.toInt := by
  by_cases h0 : x.toInt < 0
  · exact Or.inl h0
  · refine Or.inr ?_
    obtain ⟨j, hj, rfl⟩ := nI_of (x := x) (fun q => h0 (by have := Int32.lt_iff_toInt_lt.mp q; simpa using this))
    rw [nI_toInt hj]
    by_cases hjn : j ≤ n
    · exact absurd rfl (h j hjn)
    · omega
section CORE14
variable {p : Program} {l : Launch} {e : Env} {R : Room} {s : State} {m : MethodId} {args : Array Value} {below : List Frame} {meth : Method} {c : Code}
variable {D : va_G} {cy : Nat → ClassId} {B : Nat} {od : Nat → Option Nat} {cc : ByteArray} {nL : Nat} {tab : List PT} {own : String} {ret : Option FieldType}
variable {F : State → Prop} {cells slots : Nat} {A : AH} {z i pc len nx tg : Nat} {lv : List (Option Value)} {st : List Value}
theorem g_tsw (X : Cx p s m args meth c D cy B od cc nL tab own ret) {dflt lo hi off : Int} {offs : Array Int} {x : Int32} {j : Nat} {q2 : PT} (h9 : tab[i]? = some (pc, .tableswitch dflt lo hi offs, len, nx, tg)) (h1 : ¬ x.toInt < lo) (h2 : ¬ hi < x.toInt) (ho : offs[(x.toInt - lo).toNat]? = some off) (hj : tab[j]? = some q2) (ht : (pc : Int) + off = (q2.1 : Int)) (kk : G p l e R s m args below meth c D B od nL tab F cells slots A z j lv st) : G p l e R s m args below meth c D B od nL tab F cells slots A z i lv (.int x :: st) := by
  intro q hq H locs ls hR hS hl
  cases Option.some.inj (h9.symm.trans hq)
  exact lv_tableIn X.1.1 X.1.2.1 (X.2.2.2.1.dec h9) h1 h2 ho ht (kk q2 hj H locs ls hR hS hl)
theorem g_tswO (X : Cx p s m args meth c D cy B od cc nL tab own ret) {dflt lo hi : Int} {offs : Array Int} {x : Int32} {j : Nat} {q2 : PT} (h9 : tab[i]? = some (pc, .tableswitch dflt lo hi offs, len, nx, tg)) (h1 : x.toInt < lo ∨ hi < x.toInt) (hj : tab[j]? = some q2) (ht : (pc : Int) + dflt = (q2.1 : Int)) (kk : G p l e R s m args below meth c D B od nL tab F cells slots A z j lv st) : G p l e R s m args below meth c D B od nL tab F cells slots A z i lv (.int x :: st) := by
  intro q hq H locs ls hR hS hl
  cases Option.some.inj (h9.symm.trans hq)
  exact lv_tableOut X.1.1 X.1.2.1 (X.2.2.2.1.dec h9) h1 ht (kk q2 hj H locs ls hR hS hl)
section REQ
variable {y : MethodName} {bytes : ByteArray} {maxL n ix : Nat} {rt : Option FieldType} {rm : Room} {As rest : List Value} {E : String} {q : Prop} {mc ms : Nat} {Q : QT} {Qx : QX}
theorem g_req (X : Cx p s m args meth c D cy B od cc nL tab own ret) (hnt : ∀ x ∈ c.exceptionTable.toList, False) (hi : tab[i]? = some (pc, .invokestatic ix, 3, nx, tg)) (hL : LkC y bytes maxL rt n) (hM : LkM own ix y) (hSt : Cond.static y ∈ lw_good) (hC : CQ l D cy B od y bytes maxL rt rm As A E q) (hst : st = As.reverse ++ rest) (hn : As.length = n) (hw : (rest.map fun v => v.category).sum ≤ 8) (hRm : rm.frames + 1 ≤ R.frames ∧ 8 + (maxL + 11) + rm.locals ≤ R.locals) (hf : cells + rm.cells ≤ R.cells ∧ slots + rm.slots ≤ R.slots) (hc : cells + rm.cells ≤ mc) (hs : slots + rm.slots ≤ ms) (hx : ¬ q → Qx E A)
    (kk : q → G p l e R s m args below meth c D B od nL tab (FinQ true D B od Q Qx args s below mc ms) (cells + rm.cells) (slots + rm.slots) A z nx lv rest) : G p l e R s m args below meth c D B od nL tab (FinQ true D B od Q Qx args s below mc ms) cells slots A z i lv st := by
  refine gx_callS X hnt hi hL hM hSt (hC z) hst hn hw hRm hf hc hs (fun E' A' h => ?_) (fun v A' z' h => ?_)
  · obtain ⟨rfl, rfl, h3⟩ := h
    exact hx h3
  · obtain ⟨rfl, rfl, rfl, h4⟩ := h
    exact kk h4
end REQ
end CORE14
end
section
/-! 15: what is read of a ledger -/
theorem thok_232 : ThOk RX7 "java/lang/IllegalArgumentException" 228 232 ["java/lang/RuntimeException", "java/lang/Exception"] := ⟨by decide +kernel, by decide +kernel, lw_good_in (n := 857) (by decide +kernel) rfl, lw_good_in (n := 152) (by decide +kernel) rfl, lw_good_in (n := 858) (by decide +kernel) rfl, by decide +kernel, by decide +kernel⟩
theorem thok_345 : ThOk RX7 "java/lang/IllegalStateException" 341 345 ["java/lang/RuntimeException", "java/lang/Exception"] := ⟨by decide +kernel, by decide +kernel, lw_good_in (n := 773) (by decide +kernel) rfl, lw_good_in (n := 151) (by decide +kernel) rfl, lw_good_in (n := 774) (by decide +kernel) rfl, by decide +kernel, by decide +kernel⟩
theorem thok_355 : ThOk RX7 "java/lang/IndexOutOfBoundsException" 351 355 ["java/lang/RuntimeException", "java/lang/Exception"] := ⟨by decide +kernel, by decide +kernel, lw_good_in (n := 920) (by decide +kernel) rfl, lw_good_in (n := 158) (by decide +kernel) rfl, lw_good_in (n := 921) (by decide +kernel) rfl, by decide +kernel, by decide +kernel⟩
set_option maxRecDepth 100000 in
set_option maxHeartbeats 400000 in
theorem cq_X7_requireArgument (l : Launch) (D : va_G) (cy : Nat → ClassId) (B : Nat) (od : Nat → Option Nat) (hl9 : l.stackTraces = false) {A : AH} {x : Int32} : CQ l D cy B od yX7_requireArgument cX7_requireArgument 1 none rmX7_requireArgument [.int x] A "java/lang/IllegalArgumentException" (¬ x = 0) := by
  intro z
  refine CX.of (by decide) tX7_requireArgument okX7_requireArgument (Nat.le_of_ble_eq_true rfl) (q0 := tX7_requireArgument[0]) rfl rfl ?_
  intro p e s m args below meth c X hnt
  refine g_iload_n X rfl rfl ?_
  first | refine g_if_neB X rfl (fun h1 => ?_) (fun h1 => ?_) | refine g_if_ne X rfl (fun h1 => ?_) (fun h1 => ?_)
  · refine g_vret X rfl rfl (Nat.le_of_ble_eq_true rfl) (Nat.le_of_ble_eq_true rfl) ⟨rfl, rfl, rfl, ?_⟩
    first | assumption | (simp_all; done) | (simp_all [← Int32.not_le]; done)
  · refine g_throw3 X hl9 hnt thok_232 (j := 8) rfl rfl rfl rfl rfl rfl ⟨by decide, Nat.le_of_ble_eq_true rfl⟩ ⟨Nat.le_of_ble_eq_true rfl, Nat.le_of_ble_eq_true rfl⟩ (Nat.le_of_ble_eq_true rfl) (Nat.le_of_ble_eq_true rfl) ?_
    exact ⟨rfl, rfl, by first | assumption | (simp_all; done) | (simp_all [← Int32.not_le]; done)⟩
set_option maxRecDepth 100000 in
set_option maxHeartbeats 400000 in
theorem cq_X7_requireState (l : Launch) (D : va_G) (cy : Nat → ClassId) (B : Nat) (od : Nat → Option Nat) (hl9 : l.stackTraces = false) {A : AH} {x : Int32} : CQ l D cy B od yX7_requireState cX7_requireState 1 none rmX7_requireState [.int x] A "java/lang/IllegalStateException" (¬ x = 0) := by
  intro z
  refine CX.of (by decide) tX7_requireState okX7_requireState (Nat.le_of_ble_eq_true rfl) (q0 := tX7_requireState[0]) rfl rfl ?_
  intro p e s m args below meth c X hnt
  refine g_iload_n X rfl rfl ?_
  first | refine g_if_neB X rfl (fun h1 => ?_) (fun h1 => ?_) | refine g_if_ne X rfl (fun h1 => ?_) (fun h1 => ?_)
  · refine g_vret X rfl rfl (Nat.le_of_ble_eq_true rfl) (Nat.le_of_ble_eq_true rfl) ⟨rfl, rfl, rfl, ?_⟩
    first | assumption | (simp_all; done) | (simp_all [← Int32.not_le]; done)
  · refine g_throw3 X hl9 hnt thok_345 (j := 7) rfl rfl rfl rfl rfl rfl ⟨by decide, Nat.le_of_ble_eq_true rfl⟩ ⟨Nat.le_of_ble_eq_true rfl, Nat.le_of_ble_eq_true rfl⟩ (Nat.le_of_ble_eq_true rfl) (Nat.le_of_ble_eq_true rfl) ?_
    exact ⟨rfl, rfl, by first | assumption | (simp_all; done) | (simp_all [← Int32.not_le]; done)⟩
set_option maxRecDepth 100000 in
set_option maxHeartbeats 400000 in
theorem cq_X7_requireElement (l : Launch) (D : va_G) (cy : Nat → ClassId) (B : Nat) (od : Nat → Option Nat) (hl9 : l.stackTraces = false) {A : AH} {x : Int32} : CQ l D cy B od yX7_requireElement cX7_requireElement 1 none rmX7_requireElement [.int x] A "java/util/NoSuchElementException" (¬ x = 0) := by
  intro z
  refine CX.of (by decide) tX7_requireElement okX7_requireElement (Nat.le_of_ble_eq_true rfl) (q0 := tX7_requireElement[0]) rfl rfl ?_
  intro p e s m args below meth c X hnt
  refine g_iload_n X rfl rfl ?_
  first | refine g_if_neB X rfl (fun h1 => ?_) (fun h1 => ?_) | refine g_if_ne X rfl (fun h1 => ?_) (fun h1 => ?_)
  · refine g_vret X rfl rfl (Nat.le_of_ble_eq_true rfl) (Nat.le_of_ble_eq_true rfl) ⟨rfl, rfl, rfl, ?_⟩
    first | assumption | (simp_all; done) | (simp_all [← Int32.not_le]; done)
  · refine g_throwE X hl9 hnt ⟨rfl, rfl, rfl, rfl, rfl⟩ (j := 11) rfl rfl rfl rfl rfl rfl ⟨by decide, Nat.le_of_ble_eq_true rfl⟩ ⟨Nat.le_of_ble_eq_true rfl, Nat.le_of_ble_eq_true rfl⟩ (Nat.le_of_ble_eq_true rfl) (Nat.le_of_ble_eq_true rfl) ?_
    exact ⟨rfl, rfl, by first | assumption | (simp_all; done) | (simp_all [← Int32.not_le]; done)⟩
set_option maxRecDepth 100000 in
set_option maxHeartbeats 400000 in
theorem cq_X7_requireIndex (l : Launch) (D : va_G) (cy : Nat → ClassId) (B : Nat) (od : Nat → Option Nat) (hl9 : l.stackTraces = false) {A : AH} {x n : Int32} : CQ l D cy B od yX7_requireIndex cX7_requireIndex 2 none rmX7_requireIndex [.int x, .int n] A "java/lang/IndexOutOfBoundsException" (0 ≤ x ∧ x < n) := by
  intro z
  refine CX.of (by decide) tX7_requireIndex okX7_requireIndex (Nat.le_of_ble_eq_true rfl) (q0 := tX7_requireIndex[0]) rfl rfl ?_
  intro p e s m args below meth c X hnt
  refine g_iload_n X rfl rfl ?_
  refine g_if_lt X rfl (fun h1 => ?_) (fun h1 => ?_)
  · refine g_throw3 X hl9 hnt thok_355 (j := 9) rfl rfl rfl rfl rfl rfl ⟨by decide, Nat.le_of_ble_eq_true rfl⟩ ⟨Nat.le_of_ble_eq_true rfl, Nat.le_of_ble_eq_true rfl⟩ (Nat.le_of_ble_eq_true rfl) (Nat.le_of_ble_eq_true rfl) ?_
    exact ⟨rfl, rfl, by first | assumption | (simp_all; done) | (simp_all [← Int32.not_le]; done)⟩
  · refine g_iload_n X rfl rfl ?_
    refine g_iload_n X rfl rfl ?_
    refine g_icmp_lt X rfl (fun h2 => ?_) (fun h2 => ?_)
    · refine g_vret X rfl rfl (Nat.le_of_ble_eq_true rfl) (Nat.le_of_ble_eq_true rfl) ⟨rfl, rfl, rfl, ?_⟩
      first | assumption | (simp_all; done) | (simp_all [← Int32.not_le]; done)
    · refine g_throw3 X hl9 hnt thok_355 (j := 9) rfl rfl rfl rfl rfl rfl ⟨by decide, Nat.le_of_ble_eq_true rfl⟩ ⟨Nat.le_of_ble_eq_true rfl, Nat.le_of_ble_eq_true rfl⟩ (Nat.le_of_ble_eq_true rfl) (Nat.le_of_ble_eq_true rfl) ?_
      exact ⟨rfl, rfl, by first | assumption | (simp_all; done) | (simp_all [← Int32.not_le]; done)⟩
set_option maxRecDepth 100000 in
set_option maxHeartbeats 400000 in
theorem cq_X7_requireQuarter (l : Launch) (D : va_G) (cy : Nat → ClassId) (B : Nat) (od : Nat → Option Nat) (hl9 : l.stackTraces = false) {A : AH} {x : Int32} : CQ l D cy B od yX7_requireQuarter cX7_requireQuarter 1 none rmX7_requireQuarter [.int x] A "java/lang/IllegalArgumentException" (within9 x (nI 0) (nI 3) = true) := by
  intro z
  refine CX.of (by decide) tX7_requireQuarter okX7_requireQuarter (Nat.le_of_ble_eq_true rfl) (q0 := tX7_requireQuarter[0]) rfl rfl ?_
  intro p e s m args below meth c X hnt
  refine g_iload_n X rfl rfl ?_
  refine g_iconst X rfl (v := nI 0) (by decide) ?_
  refine g_iconst X rfl (v := nI 3) (by decide) ?_
  refine g_rS X rfl lcX7_within lmX7_74 stX7_within (cr_X7_within l D cy B od) rfl rfl (Nat.le_of_ble_eq_true rfl) ⟨⟨by decide, by decide⟩, rfl, rfl⟩ ⟨Nat.le_of_ble_eq_true rfl, Nat.le_of_ble_eq_true rfl⟩ ?_
  refine g_req X hnt rfl lcX7_requireArgument lmX7_78 stX7_requireArgument (cq_X7_requireArgument l D cy B od hl9) rfl rfl (Nat.le_of_ble_eq_true rfl) ⟨by decide, by decide⟩ ⟨Nat.le_of_ble_eq_true rfl, Nat.le_of_ble_eq_true rfl⟩ (Nat.le_of_ble_eq_true rfl) (Nat.le_of_ble_eq_true rfl) (fun h1 => ?_) (fun h1 => ?_)
  · exact ⟨rfl, rfl, by rwa [bI_n0] at *⟩
  refine g_vret X rfl rfl (Nat.le_of_ble_eq_true rfl) (Nat.le_of_ble_eq_true rfl) ⟨rfl, rfl, rfl, ?_⟩
  first | assumption | (simp_all; done) | (simp_all [← Int32.not_le]; done)
end
