section
-- ===== PART A: goes FIRST, ahead of the names: the tables' words, and 'selects' of the private methods out of them =====
/-- a private method of a class that the tables say can be made, by its rows of tables_1 -/
def lw_okq (q : MethodName × Nat) : Prop := (q.1.cls ≠ "java/lang/invoke/MethodHandle" ∧ q.1.cls ≠ "java/lang/invoke/VarHandle") ∧ Cond.instantiable q.1.cls q.2 ∈ tables_1 ∧ Cond.privateMethod q.1 ∈ tables_1 ∧ Cond.instanceMethod q.1 ∈ tables_1
theorem lw_p0 : lw_okq (⟨"CashLedger$Setup", "useDefaults", "()V"⟩, 9) := ⟨⟨by decide +kernel, by decide +kernel⟩, List.mem_of_getElem? (i := 37) (by decide +kernel), List.mem_of_getElem? (i := 69) (by decide +kernel), List.mem_of_getElem? (i := 70) (by decide +kernel)⟩
theorem lw_p1 : lw_okq (⟨"CashLedger$Setup", "addBracket", "(II)V"⟩, 9) := ⟨⟨by decide +kernel, by decide +kernel⟩, List.mem_of_getElem? (i := 37) (by decide +kernel), List.mem_of_getElem? (i := 289) (by decide +kernel), List.mem_of_getElem? (i := 290) (by decide +kernel)⟩
theorem lw_p2 : lw_okq (⟨"CashLedger$State", "begin", "(LCashLedger$Setup;)V"⟩, 6) := ⟨⟨by decide +kernel, by decide +kernel⟩, List.mem_of_getElem? (i := 150) (by decide +kernel), List.mem_of_getElem? (i := 294) (by decide +kernel), List.mem_of_getElem? (i := 295) (by decide +kernel)⟩
theorem lw_p3 : lw_okq (⟨"CashLedger$Rooms", "copyFrom", "(LCashLedger$Rooms;)V"⟩, 4) := ⟨⟨by decide +kernel, by decide +kernel⟩, List.mem_of_getElem? (i := 43) (by decide +kernel), List.mem_of_getElem? (i := 298) (by decide +kernel), List.mem_of_getElem? (i := 299) (by decide +kernel)⟩
theorem lw_p4 : lw_okq (⟨"CashLedger$SetupReader", "read", "([II)I"⟩, 11) := ⟨⟨by decide +kernel, by decide +kernel⟩, List.mem_of_getElem? (i := 31) (by decide +kernel), List.mem_of_getElem? (i := 335) (by decide +kernel), List.mem_of_getElem? (i := 336) (by decide +kernel)⟩
theorem lw_p5 : lw_okq (⟨"CashLedger$SetupReader", "begin", "([II)V"⟩, 11) := ⟨⟨by decide +kernel, by decide +kernel⟩, List.mem_of_getElem? (i := 31) (by decide +kernel), List.mem_of_getElem? (i := 339) (by decide +kernel), List.mem_of_getElem? (i := 340) (by decide +kernel)⟩
theorem lw_p6 : lw_okq (⟨"CashLedger$SetupReader", "nextToken", "()V"⟩, 11) := ⟨⟨by decide +kernel, by decide +kernel⟩, List.mem_of_getElem? (i := 31) (by decide +kernel), List.mem_of_getElem? (i := 347) (by decide +kernel), List.mem_of_getElem? (i := 348) (by decide +kernel)⟩
theorem lw_p7 : lw_okq (⟨"CashLedger$SetupReader", "endOfRun", "(II)I"⟩, 11) := ⟨⟨by decide +kernel, by decide +kernel⟩, List.mem_of_getElem? (i := 31) (by decide +kernel), List.mem_of_getElem? (i := 351) (by decide +kernel), List.mem_of_getElem? (i := 352) (by decide +kernel)⟩
theorem lw_p8 : lw_okq (⟨"CashLedger$SetupReader", "valueOfDigits", "()I"⟩, 11) := ⟨⟨by decide +kernel, by decide +kernel⟩, List.mem_of_getElem? (i := 31) (by decide +kernel), List.mem_of_getElem? (i := 355) (by decide +kernel), List.mem_of_getElem? (i := 356) (by decide +kernel)⟩
theorem lw_p9 : lw_okq (⟨"CashLedger$SetupReader", "readStatement", "()Z"⟩, 11) := ⟨⟨by decide +kernel, by decide +kernel⟩, List.mem_of_getElem? (i := 31) (by decide +kernel), List.mem_of_getElem? (i := 359) (by decide +kernel), List.mem_of_getElem? (i := 360) (by decide +kernel)⟩
theorem lw_p10 : lw_okq (⟨"CashLedger$SetupReader", "isWord", "(Ljava/lang/String;)Z"⟩, 11) := ⟨⟨by decide +kernel, by decide +kernel⟩, List.mem_of_getElem? (i := 31) (by decide +kernel), List.mem_of_getElem? (i := 364) (by decide +kernel), List.mem_of_getElem? (i := 365) (by decide +kernel)⟩
theorem lw_p11 : lw_okq (⟨"CashLedger$SetupReader", "readStart", "()Z"⟩, 11) := ⟨⟨by decide +kernel, by decide +kernel⟩, List.mem_of_getElem? (i := 31) (by decide +kernel), List.mem_of_getElem? (i := 416) (by decide +kernel), List.mem_of_getElem? (i := 417) (by decide +kernel)⟩
theorem lw_p12 : lw_okq (⟨"CashLedger$SetupReader", "takeNumber", "(II)I"⟩, 11) := ⟨⟨by decide +kernel, by decide +kernel⟩, List.mem_of_getElem? (i := 31) (by decide +kernel), List.mem_of_getElem? (i := 421) (by decide +kernel), List.mem_of_getElem? (i := 422) (by decide +kernel)⟩
theorem lw_p13 : lw_okq (⟨"CashLedger$SetupReader", "readAssets", "()Z"⟩, 11) := ⟨⟨by decide +kernel, by decide +kernel⟩, List.mem_of_getElem? (i := 31) (by decide +kernel), List.mem_of_getElem? (i := 429) (by decide +kernel), List.mem_of_getElem? (i := 430) (by decide +kernel)⟩
theorem lw_p14 : lw_okq (⟨"CashLedger$SetupReader", "readInterest", "()Z"⟩, 11) := ⟨⟨by decide +kernel, by decide +kernel⟩, List.mem_of_getElem? (i := 31) (by decide +kernel), List.mem_of_getElem? (i := 435) (by decide +kernel), List.mem_of_getElem? (i := 436) (by decide +kernel)⟩
theorem lw_p15 : lw_okq (⟨"CashLedger$SetupReader", "readTop", "()Z"⟩, 11) := ⟨⟨by decide +kernel, by decide +kernel⟩, List.mem_of_getElem? (i := 31) (by decide +kernel), List.mem_of_getElem? (i := 440) (by decide +kernel), List.mem_of_getElem? (i := 441) (by decide +kernel)⟩
def lw_privs_1 : List (MethodName × Nat) := [(⟨"CashLedger$Setup", "useDefaults", "()V"⟩, 9), (⟨"CashLedger$Setup", "addBracket", "(II)V"⟩, 9), (⟨"CashLedger$State", "begin", "(LCashLedger$Setup;)V"⟩, 6), (⟨"CashLedger$Rooms", "copyFrom", "(LCashLedger$Rooms;)V"⟩, 4), (⟨"CashLedger$SetupReader", "read", "([II)I"⟩, 11), (⟨"CashLedger$SetupReader", "begin", "([II)V"⟩, 11), (⟨"CashLedger$SetupReader", "nextToken", "()V"⟩, 11), (⟨"CashLedger$SetupReader", "endOfRun", "(II)I"⟩, 11), (⟨"CashLedger$SetupReader", "valueOfDigits", "()I"⟩, 11), (⟨"CashLedger$SetupReader", "readStatement", "()Z"⟩, 11), (⟨"CashLedger$SetupReader", "isWord", "(Ljava/lang/String;)Z"⟩, 11), (⟨"CashLedger$SetupReader", "readStart", "()Z"⟩, 11), (⟨"CashLedger$SetupReader", "takeNumber", "(II)I"⟩, 11), (⟨"CashLedger$SetupReader", "readAssets", "()Z"⟩, 11), (⟨"CashLedger$SetupReader", "readInterest", "()Z"⟩, 11), (⟨"CashLedger$SetupReader", "readTop", "()Z"⟩, 11)]
theorem lw_r1 : ∀ q ∈ lw_privs_1, lw_okq q := List.forall_mem_cons.mpr ⟨lw_p0, List.forall_mem_cons.mpr ⟨lw_p1, List.forall_mem_cons.mpr ⟨lw_p2, List.forall_mem_cons.mpr ⟨lw_p3, List.forall_mem_cons.mpr ⟨lw_p4, List.forall_mem_cons.mpr ⟨lw_p5, List.forall_mem_cons.mpr ⟨lw_p6, List.forall_mem_cons.mpr ⟨lw_p7, List.forall_mem_cons.mpr ⟨lw_p8, List.forall_mem_cons.mpr ⟨lw_p9, List.forall_mem_cons.mpr ⟨lw_p10, List.forall_mem_cons.mpr ⟨lw_p11, List.forall_mem_cons.mpr ⟨lw_p12, List.forall_mem_cons.mpr ⟨lw_p13, List.forall_mem_cons.mpr ⟨lw_p14, List.forall_mem_cons.mpr ⟨lw_p15, fun _ h => absurd h List.not_mem_nil⟩⟩⟩⟩⟩⟩⟩⟩⟩⟩⟩⟩⟩⟩⟩⟩
theorem lw_p16 : lw_okq (⟨"CashLedger$SetupReader", "readBracket", "()Z"⟩, 11) := ⟨⟨by decide +kernel, by decide +kernel⟩, List.mem_of_getElem? (i := 31) (by decide +kernel), List.mem_of_getElem? (i := 445) (by decide +kernel), List.mem_of_getElem? (i := 446) (by decide +kernel)⟩
theorem lw_p17 : lw_okq (⟨"CashLedger$Setup", "lastLimit", "()I"⟩, 9) := ⟨⟨by decide +kernel, by decide +kernel⟩, List.mem_of_getElem? (i := 37) (by decide +kernel), List.mem_of_getElem? (i := 449) (by decide +kernel), List.mem_of_getElem? (i := 450) (by decide +kernel)⟩
theorem lw_p18 : lw_okq (⟨"CashLedger$SetupReader", "readRoom", "()Z"⟩, 11) := ⟨⟨by decide +kernel, by decide +kernel⟩, List.mem_of_getElem? (i := 31) (by decide +kernel), List.mem_of_getElem? (i := 456) (by decide +kernel), List.mem_of_getElem? (i := 457) (by decide +kernel)⟩
theorem lw_p19 : lw_okq (⟨"CashLedger$Rooms", "add", "(III)I"⟩, 4) := ⟨⟨by decide +kernel, by decide +kernel⟩, List.mem_of_getElem? (i := 43) (by decide +kernel), List.mem_of_getElem? (i := 461) (by decide +kernel), List.mem_of_getElem? (i := 462) (by decide +kernel)⟩
theorem lw_p20 : lw_okq (⟨"CashLedger$State", "copyFrom", "(LCashLedger$State;)V"⟩, 6) := ⟨⟨by decide +kernel, by decide +kernel⟩, List.mem_of_getElem? (i := 150) (by decide +kernel), List.mem_of_getElem? (i := 474) (by decide +kernel), List.mem_of_getElem? (i := 475) (by decide +kernel)⟩
theorem lw_p21 : lw_okq (⟨"CashLedger$Entries", "copyFrom", "(LCashLedger$Entries;)V"⟩, 8) := ⟨⟨by decide +kernel, by decide +kernel⟩, List.mem_of_getElem? (i := 156) (by decide +kernel), List.mem_of_getElem? (i := 478) (by decide +kernel), List.mem_of_getElem? (i := 479) (by decide +kernel)⟩
theorem lw_p22 : lw_okq (⟨"CashLedger$Assets", "copyFrom", "(LCashLedger$Assets;)V"⟩, 7) := ⟨⟨by decide +kernel, by decide +kernel⟩, List.mem_of_getElem? (i := 203) (by decide +kernel), List.mem_of_getElem? (i := 482) (by decide +kernel), List.mem_of_getElem? (i := 483) (by decide +kernel)⟩
theorem lw_p23 : lw_okq (⟨"CashLedger$Setup", "taxOf", "(J)J"⟩, 9) := ⟨⟨by decide +kernel, by decide +kernel⟩, List.mem_of_getElem? (i := 37) (by decide +kernel), List.mem_of_getElem? (i := 490) (by decide +kernel), List.mem_of_getElem? (i := 491) (by decide +kernel)⟩
theorem lw_p24 : lw_okq (⟨"CashLedger$Setup", "rateOf", "(I)I"⟩, 9) := ⟨⟨by decide +kernel, by decide +kernel⟩, List.mem_of_getElem? (i := 37) (by decide +kernel), List.mem_of_getElem? (i := 505) (by decide +kernel), List.mem_of_getElem? (i := 506) (by decide +kernel)⟩
theorem lw_p25 : lw_okq (⟨"CashLedger", "yearProfit", "()J"⟩, 9) := ⟨⟨by decide +kernel, by decide +kernel⟩, List.mem_of_getElem? (i := 23) (by decide +kernel), List.mem_of_getElem? (i := 513) (by decide +kernel), List.mem_of_getElem? (i := 514) (by decide +kernel)⟩
theorem lw_p26 : lw_okq (⟨"CashLedger$State", "profitUpTo", "(I)J"⟩, 6) := ⟨⟨by decide +kernel, by decide +kernel⟩, List.mem_of_getElem? (i := 150) (by decide +kernel), List.mem_of_getElem? (i := 517) (by decide +kernel), List.mem_of_getElem? (i := 518) (by decide +kernel)⟩
theorem lw_p27 : lw_okq (⟨"CashLedger$State", "received", "(II)J"⟩, 6) := ⟨⟨by decide +kernel, by decide +kernel⟩, List.mem_of_getElem? (i := 150) (by decide +kernel), List.mem_of_getElem? (i := 521) (by decide +kernel), List.mem_of_getElem? (i := 522) (by decide +kernel)⟩
theorem lw_p28 : lw_okq (⟨"CashLedger$Entries", "sumPaid", "(III)J"⟩, 8) := ⟨⟨by decide +kernel, by decide +kernel⟩, List.mem_of_getElem? (i := 156) (by decide +kernel), List.mem_of_getElem? (i := 525) (by decide +kernel), List.mem_of_getElem? (i := 526) (by decide +kernel)⟩
theorem lw_p29 : lw_okq (⟨"CashLedger$Entries", "countsWithin", "(III)Z"⟩, 8) := ⟨⟨by decide +kernel, by decide +kernel⟩, List.mem_of_getElem? (i := 156) (by decide +kernel), List.mem_of_getElem? (i := 529) (by decide +kernel), List.mem_of_getElem? (i := 530) (by decide +kernel)⟩
theorem lw_p30 : lw_okq (⟨"CashLedger$Entries", "counts", "(I)Z"⟩, 8) := ⟨⟨by decide +kernel, by decide +kernel⟩, List.mem_of_getElem? (i := 156) (by decide +kernel), List.mem_of_getElem? (i := 533) (by decide +kernel), List.mem_of_getElem? (i := 534) (by decide +kernel)⟩
theorem lw_p31 : lw_okq (⟨"CashLedger$Assets", "soldFor", "(II)J"⟩, 7) := ⟨⟨by decide +kernel, by decide +kernel⟩, List.mem_of_getElem? (i := 203) (by decide +kernel), List.mem_of_getElem? (i := 537) (by decide +kernel), List.mem_of_getElem? (i := 538) (by decide +kernel)⟩
def lw_privs_2 : List (MethodName × Nat) := [(⟨"CashLedger$SetupReader", "readBracket", "()Z"⟩, 11), (⟨"CashLedger$Setup", "lastLimit", "()I"⟩, 9), (⟨"CashLedger$SetupReader", "readRoom", "()Z"⟩, 11), (⟨"CashLedger$Rooms", "add", "(III)I"⟩, 4), (⟨"CashLedger$State", "copyFrom", "(LCashLedger$State;)V"⟩, 6), (⟨"CashLedger$Entries", "copyFrom", "(LCashLedger$Entries;)V"⟩, 8), (⟨"CashLedger$Assets", "copyFrom", "(LCashLedger$Assets;)V"⟩, 7), (⟨"CashLedger$Setup", "taxOf", "(J)J"⟩, 9), (⟨"CashLedger$Setup", "rateOf", "(I)I"⟩, 9), (⟨"CashLedger", "yearProfit", "()J"⟩, 9), (⟨"CashLedger$State", "profitUpTo", "(I)J"⟩, 6), (⟨"CashLedger$State", "received", "(II)J"⟩, 6), (⟨"CashLedger$Entries", "sumPaid", "(III)J"⟩, 8), (⟨"CashLedger$Entries", "countsWithin", "(III)Z"⟩, 8), (⟨"CashLedger$Entries", "counts", "(I)Z"⟩, 8), (⟨"CashLedger$Assets", "soldFor", "(II)J"⟩, 7)]
theorem lw_r2 : ∀ q ∈ lw_privs_2, lw_okq q := List.forall_mem_cons.mpr ⟨lw_p16, List.forall_mem_cons.mpr ⟨lw_p17, List.forall_mem_cons.mpr ⟨lw_p18, List.forall_mem_cons.mpr ⟨lw_p19, List.forall_mem_cons.mpr ⟨lw_p20, List.forall_mem_cons.mpr ⟨lw_p21, List.forall_mem_cons.mpr ⟨lw_p22, List.forall_mem_cons.mpr ⟨lw_p23, List.forall_mem_cons.mpr ⟨lw_p24, List.forall_mem_cons.mpr ⟨lw_p25, List.forall_mem_cons.mpr ⟨lw_p26, List.forall_mem_cons.mpr ⟨lw_p27, List.forall_mem_cons.mpr ⟨lw_p28, List.forall_mem_cons.mpr ⟨lw_p29, List.forall_mem_cons.mpr ⟨lw_p30, List.forall_mem_cons.mpr ⟨lw_p31, fun _ h => absurd h List.not_mem_nil⟩⟩⟩⟩⟩⟩⟩⟩⟩⟩⟩⟩⟩⟩⟩⟩
theorem lw_p32 : lw_okq (⟨"CashLedger$State", "deductibleUpTo", "(I)J"⟩, 6) := ⟨⟨by decide +kernel, by decide +kernel⟩, List.mem_of_getElem? (i := 150) (by decide +kernel), List.mem_of_getElem? (i := 542) (by decide +kernel), List.mem_of_getElem? (i := 543) (by decide +kernel)⟩
theorem lw_p33 : lw_okq (⟨"CashLedger$State", "deductibleOf", "(III)J"⟩, 6) := ⟨⟨by decide +kernel, by decide +kernel⟩, List.mem_of_getElem? (i := 150) (by decide +kernel), List.mem_of_getElem? (i := 547) (by decide +kernel), List.mem_of_getElem? (i := 548) (by decide +kernel)⟩
theorem lw_p34 : lw_okq (⟨"CashLedger$Rooms", "wholeMonth", "()I"⟩, 4) := ⟨⟨by decide +kernel, by decide +kernel⟩, List.mem_of_getElem? (i := 43) (by decide +kernel), List.mem_of_getElem? (i := 551) (by decide +kernel), List.mem_of_getElem? (i := 552) (by decide +kernel)⟩
theorem lw_p35 : lw_okq (⟨"CashLedger$Rooms", "usedIn", "(I)I"⟩, 4) := ⟨⟨by decide +kernel, by decide +kernel⟩, List.mem_of_getElem? (i := 43) (by decide +kernel), List.mem_of_getElem? (i := 555) (by decide +kernel), List.mem_of_getElem? (i := 556) (by decide +kernel)⟩
theorem lw_p36 : lw_okq (⟨"CashLedger$Rooms", "daysUsed", "(III)I"⟩, 4) := ⟨⟨by decide +kernel, by decide +kernel⟩, List.mem_of_getElem? (i := 43) (by decide +kernel), List.mem_of_getElem? (i := 559) (by decide +kernel), List.mem_of_getElem? (i := 560) (by decide +kernel)⟩
theorem lw_p37 : lw_okq (⟨"CashLedger$Assets", "allWrittenUpTo", "(I)J"⟩, 7) := ⟨⟨by decide +kernel, by decide +kernel⟩, List.mem_of_getElem? (i := 203) (by decide +kernel), List.mem_of_getElem? (i := 563) (by decide +kernel), List.mem_of_getElem? (i := 564) (by decide +kernel)⟩
theorem lw_p38 : lw_okq (⟨"CashLedger$Assets", "poolWrittenUpTo", "(I)I"⟩, 7) := ⟨⟨by decide +kernel, by decide +kernel⟩, List.mem_of_getElem? (i := 203) (by decide +kernel), List.mem_of_getElem? (i := 567) (by decide +kernel), List.mem_of_getElem? (i := 568) (by decide +kernel)⟩
theorem lw_p39 : lw_okq (⟨"CashLedger$Assets", "poolAt", "(I)I"⟩, 7) := ⟨⟨by decide +kernel, by decide +kernel⟩, List.mem_of_getElem? (i := 203) (by decide +kernel), List.mem_of_getElem? (i := 571) (by decide +kernel), List.mem_of_getElem? (i := 572) (by decide +kernel)⟩
theorem lw_p40 : lw_okq (⟨"CashLedger$Assets", "writtenUpTo", "(II)I"⟩, 7) := ⟨⟨by decide +kernel, by decide +kernel⟩, List.mem_of_getElem? (i := 203) (by decide +kernel), List.mem_of_getElem? (i := 575) (by decide +kernel), List.mem_of_getElem? (i := 576) (by decide +kernel)⟩
theorem lw_p41 : lw_okq (⟨"CashLedger$Assets", "isSoldBy", "(II)Z"⟩, 7) := ⟨⟨by decide +kernel, by decide +kernel⟩, List.mem_of_getElem? (i := 203) (by decide +kernel), List.mem_of_getElem? (i := 579) (by decide +kernel), List.mem_of_getElem? (i := 580) (by decide +kernel)⟩
theorem lw_p42 : lw_okq (⟨"CashLedger", "prepaymentNow", "(I)I"⟩, 9) := ⟨⟨by decide +kernel, by decide +kernel⟩, List.mem_of_getElem? (i := 23) (by decide +kernel), List.mem_of_getElem? (i := 587) (by decide +kernel), List.mem_of_getElem? (i := 588) (by decide +kernel)⟩
theorem lw_p43 : lw_okq (⟨"CashLedger", "targetAt", "(IJ)J"⟩, 9) := ⟨⟨by decide +kernel, by decide +kernel⟩, List.mem_of_getElem? (i := 23) (by decide +kernel), List.mem_of_getElem? (i := 591) (by decide +kernel), List.mem_of_getElem? (i := 592) (by decide +kernel)⟩
theorem lw_p44 : lw_okq (⟨"CashLedger$State", "fillBalances", "([J)V"⟩, 6) := ⟨⟨by decide +kernel, by decide +kernel⟩, List.mem_of_getElem? (i := 150) (by decide +kernel), List.mem_of_getElem? (i := 602) (by decide +kernel), List.mem_of_getElem? (i := 603) (by decide +kernel)⟩
theorem lw_p45 : lw_okq (⟨"CashLedger$State", "receivedIn", "(I)J"⟩, 6) := ⟨⟨by decide +kernel, by decide +kernel⟩, List.mem_of_getElem? (i := 150) (by decide +kernel), List.mem_of_getElem? (i := 618) (by decide +kernel), List.mem_of_getElem? (i := 619) (by decide +kernel)⟩
theorem lw_p46 : lw_okq (⟨"java/lang/Throwable", "fillInStackTrace", "(I)Ljava/lang/Throwable;"⟩, 6) := ⟨⟨by decide +kernel, by decide +kernel⟩, List.mem_of_getElem? (i := 675) (by decide +kernel), List.mem_of_getElem? (i := 673) (by decide +kernel), List.mem_of_getElem? (i := 674) (by decide +kernel)⟩
theorem lw_p47 : lw_okq (⟨"CashLedger", "putBytes", "(I)V"⟩, 9) := ⟨⟨by decide +kernel, by decide +kernel⟩, List.mem_of_getElem? (i := 23) (by decide +kernel), List.mem_of_getElem? (i := 704) (by decide +kernel), List.mem_of_getElem? (i := 705) (by decide +kernel)⟩
def lw_privs_3 : List (MethodName × Nat) := [(⟨"CashLedger$State", "deductibleUpTo", "(I)J"⟩, 6), (⟨"CashLedger$State", "deductibleOf", "(III)J"⟩, 6), (⟨"CashLedger$Rooms", "wholeMonth", "()I"⟩, 4), (⟨"CashLedger$Rooms", "usedIn", "(I)I"⟩, 4), (⟨"CashLedger$Rooms", "daysUsed", "(III)I"⟩, 4), (⟨"CashLedger$Assets", "allWrittenUpTo", "(I)J"⟩, 7), (⟨"CashLedger$Assets", "poolWrittenUpTo", "(I)I"⟩, 7), (⟨"CashLedger$Assets", "poolAt", "(I)I"⟩, 7), (⟨"CashLedger$Assets", "writtenUpTo", "(II)I"⟩, 7), (⟨"CashLedger$Assets", "isSoldBy", "(II)Z"⟩, 7), (⟨"CashLedger", "prepaymentNow", "(I)I"⟩, 9), (⟨"CashLedger", "targetAt", "(IJ)J"⟩, 9), (⟨"CashLedger$State", "fillBalances", "([J)V"⟩, 6), (⟨"CashLedger$State", "receivedIn", "(I)J"⟩, 6), (⟨"java/lang/Throwable", "fillInStackTrace", "(I)Ljava/lang/Throwable;"⟩, 6), (⟨"CashLedger", "putBytes", "(I)V"⟩, 9)]
theorem lw_r3 : ∀ q ∈ lw_privs_3, lw_okq q := List.forall_mem_cons.mpr ⟨lw_p32, List.forall_mem_cons.mpr ⟨lw_p33, List.forall_mem_cons.mpr ⟨lw_p34, List.forall_mem_cons.mpr ⟨lw_p35, List.forall_mem_cons.mpr ⟨lw_p36, List.forall_mem_cons.mpr ⟨lw_p37, List.forall_mem_cons.mpr ⟨lw_p38, List.forall_mem_cons.mpr ⟨lw_p39, List.forall_mem_cons.mpr ⟨lw_p40, List.forall_mem_cons.mpr ⟨lw_p41, List.forall_mem_cons.mpr ⟨lw_p42, List.forall_mem_cons.mpr ⟨lw_p43, List.forall_mem_cons.mpr ⟨lw_p44, List.forall_mem_cons.mpr ⟨lw_p45, List.forall_mem_cons.mpr ⟨lw_p46, List.forall_mem_cons.mpr ⟨lw_p47, fun _ h => absurd h List.not_mem_nil⟩⟩⟩⟩⟩⟩⟩⟩⟩⟩⟩⟩⟩⟩⟩⟩
theorem lw_p48 : lw_okq (⟨"CashLedger$SetupReader", "handOver", "(LCashLedger$Setup;)LCashLedger$Setup;"⟩, 11) := ⟨⟨by decide +kernel, by decide +kernel⟩, List.mem_of_getElem? (i := 31) (by decide +kernel), List.mem_of_getElem? (i := 743) (by decide +kernel), List.mem_of_getElem? (i := 744) (by decide +kernel)⟩
theorem lw_p49 : lw_okq (⟨"CashLedger$History", "clear", "()V"⟩, 3) := ⟨⟨by decide +kernel, by decide +kernel⟩, List.mem_of_getElem? (i := 268) (by decide +kernel), List.mem_of_getElem? (i := 747) (by decide +kernel), List.mem_of_getElem? (i := 748) (by decide +kernel)⟩
theorem lw_p50 : lw_okq (⟨"CashLedger$History", "remember", "(LCashLedger$State;)V"⟩, 3) := ⟨⟨by decide +kernel, by decide +kernel⟩, List.mem_of_getElem? (i := 268) (by decide +kernel), List.mem_of_getElem? (i := 762) (by decide +kernel), List.mem_of_getElem? (i := 763) (by decide +kernel)⟩
theorem lw_p51 : lw_okq (⟨"CashLedger$Entries", "add", "(IIIIIZ)I"⟩, 8) := ⟨⟨by decide +kernel, by decide +kernel⟩, List.mem_of_getElem? (i := 156) (by decide +kernel), List.mem_of_getElem? (i := 768) (by decide +kernel), List.mem_of_getElem? (i := 769) (by decide +kernel)⟩
theorem lw_p52 : lw_okq (⟨"CashLedger$Setup", "sortOf", "(I)I"⟩, 9) := ⟨⟨by decide +kernel, by decide +kernel⟩, List.mem_of_getElem? (i := 37) (by decide +kernel), List.mem_of_getElem? (i := 830) (by decide +kernel), List.mem_of_getElem? (i := 831) (by decide +kernel)⟩
theorem lw_p53 : lw_okq (⟨"CashLedger$Assets", "add", "(IIII)I"⟩, 7) := ⟨⟨by decide +kernel, by decide +kernel⟩, List.mem_of_getElem? (i := 203) (by decide +kernel), List.mem_of_getElem? (i := 834) (by decide +kernel), List.mem_of_getElem? (i := 835) (by decide +kernel)⟩
theorem lw_p54 : lw_okq (⟨"CashLedger$Assets", "valueAt", "(II)I"⟩, 7) := ⟨⟨by decide +kernel, by decide +kernel⟩, List.mem_of_getElem? (i := 203) (by decide +kernel), List.mem_of_getElem? (i := 845) (by decide +kernel), List.mem_of_getElem? (i := 846) (by decide +kernel)⟩
theorem lw_p55 : lw_okq (⟨"CashLedger$State", "prepaidSoFar", "()J"⟩, 6) := ⟨⟨by decide +kernel, by decide +kernel⟩, List.mem_of_getElem? (i := 150) (by decide +kernel), List.mem_of_getElem? (i := 856) (by decide +kernel), List.mem_of_getElem? (i := 857) (by decide +kernel)⟩
theorem lw_p56 : lw_okq (⟨"CashLedger$History", "takeBack", "(LCashLedger$State;)V"⟩, 3) := ⟨⟨by decide +kernel, by decide +kernel⟩, List.mem_of_getElem? (i := 268) (by decide +kernel), List.mem_of_getElem? (i := 875) (by decide +kernel), List.mem_of_getElem? (i := 876) (by decide +kernel)⟩
theorem lw_p57 : lw_okq (⟨"CashLedger$Entries", "openOnes", "()I"⟩, 8) := ⟨⟨by decide +kernel, by decide +kernel⟩, List.mem_of_getElem? (i := 156) (by decide +kernel), List.mem_of_getElem? (i := 896) (by decide +kernel), List.mem_of_getElem? (i := 897) (by decide +kernel)⟩
theorem lw_p58 : lw_okq (⟨"CashLedger$Entries", "isOpen", "(I)Z"⟩, 8) := ⟨⟨by decide +kernel, by decide +kernel⟩, List.mem_of_getElem? (i := 156) (by decide +kernel), List.mem_of_getElem? (i := 900) (by decide +kernel), List.mem_of_getElem? (i := 901) (by decide +kernel)⟩
theorem lw_p59 : lw_okq (⟨"CashLedger$Entries", "cancelledOnes", "()I"⟩, 8) := ⟨⟨by decide +kernel, by decide +kernel⟩, List.mem_of_getElem? (i := 156) (by decide +kernel), List.mem_of_getElem? (i := 904) (by decide +kernel), List.mem_of_getElem? (i := 905) (by decide +kernel)⟩
theorem lw_p60 : lw_okq (⟨"CashLedger$Entries", "lateOnes", "()I"⟩, 8) := ⟨⟨by decide +kernel, by decide +kernel⟩, List.mem_of_getElem? (i := 156) (by decide +kernel), List.mem_of_getElem? (i := 908) (by decide +kernel), List.mem_of_getElem? (i := 909) (by decide +kernel)⟩
theorem lw_p61 : lw_okq (⟨"CashLedger$Assets", "soldOnes", "()I"⟩, 7) := ⟨⟨by decide +kernel, by decide +kernel⟩, List.mem_of_getElem? (i := 203) (by decide +kernel), List.mem_of_getElem? (i := 912) (by decide +kernel), List.mem_of_getElem? (i := 913) (by decide +kernel)⟩
theorem lw_p62 : lw_okq (⟨"CashLedger$State", "deductiblePart", "(I)I"⟩, 6) := ⟨⟨by decide +kernel, by decide +kernel⟩, List.mem_of_getElem? (i := 150) (by decide +kernel), List.mem_of_getElem? (i := 931) (by decide +kernel), List.mem_of_getElem? (i := 932) (by decide +kernel)⟩
theorem lw_p63 : lw_okq (⟨"CashLedger$Entries", "incomesOf", "(I)J"⟩, 8) := ⟨⟨by decide +kernel, by decide +kernel⟩, List.mem_of_getElem? (i := 156) (by decide +kernel), List.mem_of_getElem? (i := 950) (by decide +kernel), List.mem_of_getElem? (i := 951) (by decide +kernel)⟩
def lw_privs_4 : List (MethodName × Nat) := [(⟨"CashLedger$SetupReader", "handOver", "(LCashLedger$Setup;)LCashLedger$Setup;"⟩, 11), (⟨"CashLedger$History", "clear", "()V"⟩, 3), (⟨"CashLedger$History", "remember", "(LCashLedger$State;)V"⟩, 3), (⟨"CashLedger$Entries", "add", "(IIIIIZ)I"⟩, 8), (⟨"CashLedger$Setup", "sortOf", "(I)I"⟩, 9), (⟨"CashLedger$Assets", "add", "(IIII)I"⟩, 7), (⟨"CashLedger$Assets", "valueAt", "(II)I"⟩, 7), (⟨"CashLedger$State", "prepaidSoFar", "()J"⟩, 6), (⟨"CashLedger$History", "takeBack", "(LCashLedger$State;)V"⟩, 3), (⟨"CashLedger$Entries", "openOnes", "()I"⟩, 8), (⟨"CashLedger$Entries", "isOpen", "(I)Z"⟩, 8), (⟨"CashLedger$Entries", "cancelledOnes", "()I"⟩, 8), (⟨"CashLedger$Entries", "lateOnes", "()I"⟩, 8), (⟨"CashLedger$Assets", "soldOnes", "()I"⟩, 7), (⟨"CashLedger$State", "deductiblePart", "(I)I"⟩, 6), (⟨"CashLedger$Entries", "incomesOf", "(I)J"⟩, 8)]
theorem lw_r4 : ∀ q ∈ lw_privs_4, lw_okq q := List.forall_mem_cons.mpr ⟨lw_p48, List.forall_mem_cons.mpr ⟨lw_p49, List.forall_mem_cons.mpr ⟨lw_p50, List.forall_mem_cons.mpr ⟨lw_p51, List.forall_mem_cons.mpr ⟨lw_p52, List.forall_mem_cons.mpr ⟨lw_p53, List.forall_mem_cons.mpr ⟨lw_p54, List.forall_mem_cons.mpr ⟨lw_p55, List.forall_mem_cons.mpr ⟨lw_p56, List.forall_mem_cons.mpr ⟨lw_p57, List.forall_mem_cons.mpr ⟨lw_p58, List.forall_mem_cons.mpr ⟨lw_p59, List.forall_mem_cons.mpr ⟨lw_p60, List.forall_mem_cons.mpr ⟨lw_p61, List.forall_mem_cons.mpr ⟨lw_p62, List.forall_mem_cons.mpr ⟨lw_p63, fun _ h => absurd h List.not_mem_nil⟩⟩⟩⟩⟩⟩⟩⟩⟩⟩⟩⟩⟩⟩⟩⟩
theorem lw_p64 : lw_okq (⟨"CashLedger$State", "deductiblePartsOf", "(I)J"⟩, 6) := ⟨⟨by decide +kernel, by decide +kernel⟩, List.mem_of_getElem? (i := 150) (by decide +kernel), List.mem_of_getElem? (i := 954) (by decide +kernel), List.mem_of_getElem? (i := 955) (by decide +kernel)⟩
theorem lw_p65 : lw_okq (⟨"CashLedger$Entries", "sumOpen", "(I)J"⟩, 8) := ⟨⟨by decide +kernel, by decide +kernel⟩, List.mem_of_getElem? (i := 156) (by decide +kernel), List.mem_of_getElem? (i := 966) (by decide +kernel), List.mem_of_getElem? (i := 967) (by decide +kernel)⟩
theorem lw_p66 : lw_okq (⟨"CashLedger$Entries", "firstInvoicedOpen", "()I"⟩, 8) := ⟨⟨by decide +kernel, by decide +kernel⟩, List.mem_of_getElem? (i := 156) (by decide +kernel), List.mem_of_getElem? (i := 978) (by decide +kernel), List.mem_of_getElem? (i := 979) (by decide +kernel)⟩
theorem lw_p67 : lw_okq (⟨"CashLedger$Assets", "writtenIn", "(II)I"⟩, 7) := ⟨⟨by decide +kernel, by decide +kernel⟩, List.mem_of_getElem? (i := 203) (by decide +kernel), List.mem_of_getElem? (i := 1034) (by decide +kernel), List.mem_of_getElem? (i := 1035) (by decide +kernel)⟩
theorem lw_p68 : lw_okq (⟨"CashLedger$Assets", "poolWrittenIn", "(I)I"⟩, 7) := ⟨⟨by decide +kernel, by decide +kernel⟩, List.mem_of_getElem? (i := 203) (by decide +kernel), List.mem_of_getElem? (i := 1063) (by decide +kernel), List.mem_of_getElem? (i := 1064) (by decide +kernel)⟩
theorem lw_p69 : lw_okq (⟨"CashLedger", "additionalTax", "(JJ)J"⟩, 9) := ⟨⟨by decide +kernel, by decide +kernel⟩, List.mem_of_getElem? (i := 23) (by decide +kernel), List.mem_of_getElem? (i := 1125) (by decide +kernel), List.mem_of_getElem? (i := 1126) (by decide +kernel)⟩
theorem lw_p70 : lw_okq (⟨"CashLedger", "leftOf", "(IJ)J"⟩, 9) := ⟨⟨by decide +kernel, by decide +kernel⟩, List.mem_of_getElem? (i := 23) (by decide +kernel), List.mem_of_getElem? (i := 1137) (by decide +kernel), List.mem_of_getElem? (i := 1138) (by decide +kernel)⟩
theorem lw_p71 : lw_okq (⟨"CashLedgerModel", "begin", "()V"⟩, 16) := ⟨⟨by decide +kernel, by decide +kernel⟩, List.mem_of_getElem? (i := 1148) (by decide +kernel), List.mem_of_getElem? (i := 1154) (by decide +kernel), List.mem_of_getElem? (i := 1155) (by decide +kernel)⟩
theorem lw_p72 : lw_okq (⟨"CashLedgerModel", "readBracket", "(II)V"⟩, 16) := ⟨⟨by decide +kernel, by decide +kernel⟩, List.mem_of_getElem? (i := 1148) (by decide +kernel), List.mem_of_getElem? (i := 1161) (by decide +kernel), List.mem_of_getElem? (i := 1162) (by decide +kernel)⟩
theorem lw_p73 : lw_okq (⟨"CashLedgerModel", "takeRead", "()V"⟩, 16) := ⟨⟨by decide +kernel, by decide +kernel⟩, List.mem_of_getElem? (i := 1148) (by decide +kernel), List.mem_of_getElem? (i := 1166) (by decide +kernel), List.mem_of_getElem? (i := 1167) (by decide +kernel)⟩
theorem lw_p74 : lw_okq (⟨"CashLedgerModel", "fails", "(ZI)Z"⟩, 16) := ⟨⟨by decide +kernel, by decide +kernel⟩, List.mem_of_getElem? (i := 1148) (by decide +kernel), List.mem_of_getElem? (i := 1230) (by decide +kernel), List.mem_of_getElem? (i := 1231) (by decide +kernel)⟩
theorem lw_p75 : lw_okq (⟨"CashLedgerModel", "parse", "()I"⟩, 16) := ⟨⟨by decide +kernel, by decide +kernel⟩, List.mem_of_getElem? (i := 1148) (by decide +kernel), List.mem_of_getElem? (i := 1245) (by decide +kernel), List.mem_of_getElem? (i := 1246) (by decide +kernel)⟩
theorem lw_p76 : lw_okq (⟨"CashLedgerModel", "step", "()V"⟩, 16) := ⟨⟨by decide +kernel, by decide +kernel⟩, List.mem_of_getElem? (i := 1148) (by decide +kernel), List.mem_of_getElem? (i := 1249) (by decide +kernel), List.mem_of_getElem? (i := 1250) (by decide +kernel)⟩
theorem lw_p77 : lw_okq (⟨"CashLedgerModel", "peek", "(I)I"⟩, 16) := ⟨⟨by decide +kernel, by decide +kernel⟩, List.mem_of_getElem? (i := 1148) (by decide +kernel), List.mem_of_getElem? (i := 1253) (by decide +kernel), List.mem_of_getElem? (i := 1254) (by decide +kernel)⟩
theorem lw_p78 : lw_okq (⟨"CashLedgerModel", "readStatement", "()V"⟩, 16) := ⟨⟨by decide +kernel, by decide +kernel⟩, List.mem_of_getElem? (i := 1148) (by decide +kernel), List.mem_of_getElem? (i := 1267) (by decide +kernel), List.mem_of_getElem? (i := 1268) (by decide +kernel)⟩
theorem lw_p79 : lw_okq (⟨"CashLedgerModel", "isWord", "(Ljava/lang/String;)Z"⟩, 16) := ⟨⟨by decide +kernel, by decide +kernel⟩, List.mem_of_getElem? (i := 1148) (by decide +kernel), List.mem_of_getElem? (i := 1272) (by decide +kernel), List.mem_of_getElem? (i := 1273) (by decide +kernel)⟩
def lw_privs_5 : List (MethodName × Nat) := [(⟨"CashLedger$State", "deductiblePartsOf", "(I)J"⟩, 6), (⟨"CashLedger$Entries", "sumOpen", "(I)J"⟩, 8), (⟨"CashLedger$Entries", "firstInvoicedOpen", "()I"⟩, 8), (⟨"CashLedger$Assets", "writtenIn", "(II)I"⟩, 7), (⟨"CashLedger$Assets", "poolWrittenIn", "(I)I"⟩, 7), (⟨"CashLedger", "additionalTax", "(JJ)J"⟩, 9), (⟨"CashLedger", "leftOf", "(IJ)J"⟩, 9), (⟨"CashLedgerModel", "begin", "()V"⟩, 16), (⟨"CashLedgerModel", "readBracket", "(II)V"⟩, 16), (⟨"CashLedgerModel", "takeRead", "()V"⟩, 16), (⟨"CashLedgerModel", "fails", "(ZI)Z"⟩, 16), (⟨"CashLedgerModel", "parse", "()I"⟩, 16), (⟨"CashLedgerModel", "step", "()V"⟩, 16), (⟨"CashLedgerModel", "peek", "(I)I"⟩, 16), (⟨"CashLedgerModel", "readStatement", "()V"⟩, 16), (⟨"CashLedgerModel", "isWord", "(Ljava/lang/String;)Z"⟩, 16)]
theorem lw_r5 : ∀ q ∈ lw_privs_5, lw_okq q := List.forall_mem_cons.mpr ⟨lw_p64, List.forall_mem_cons.mpr ⟨lw_p65, List.forall_mem_cons.mpr ⟨lw_p66, List.forall_mem_cons.mpr ⟨lw_p67, List.forall_mem_cons.mpr ⟨lw_p68, List.forall_mem_cons.mpr ⟨lw_p69, List.forall_mem_cons.mpr ⟨lw_p70, List.forall_mem_cons.mpr ⟨lw_p71, List.forall_mem_cons.mpr ⟨lw_p72, List.forall_mem_cons.mpr ⟨lw_p73, List.forall_mem_cons.mpr ⟨lw_p74, List.forall_mem_cons.mpr ⟨lw_p75, List.forall_mem_cons.mpr ⟨lw_p76, List.forall_mem_cons.mpr ⟨lw_p77, List.forall_mem_cons.mpr ⟨lw_p78, List.forall_mem_cons.mpr ⟨lw_p79, fun _ h => absurd h List.not_mem_nil⟩⟩⟩⟩⟩⟩⟩⟩⟩⟩⟩⟩⟩⟩⟩⟩
theorem lw_p80 : lw_okq (⟨"CashLedgerModel", "isGood", "()Z"⟩, 16) := ⟨⟨by decide +kernel, by decide +kernel⟩, List.mem_of_getElem? (i := 1148) (by decide +kernel), List.mem_of_getElem? (i := 1276) (by decide +kernel), List.mem_of_getElem? (i := 1277) (by decide +kernel)⟩
theorem lw_p81 : lw_okq (⟨"CashLedgerModel", "bracketStatement", "()V"⟩, 16) := ⟨⟨by decide +kernel, by decide +kernel⟩, List.mem_of_getElem? (i := 1148) (by decide +kernel), List.mem_of_getElem? (i := 1282) (by decide +kernel), List.mem_of_getElem? (i := 1283) (by decide +kernel)⟩
theorem lw_p82 : lw_okq (⟨"CashLedgerModel", "fail", "()V"⟩, 16) := ⟨⟨by decide +kernel, by decide +kernel⟩, List.mem_of_getElem? (i := 1148) (by decide +kernel), List.mem_of_getElem? (i := 1286) (by decide +kernel), List.mem_of_getElem? (i := 1287) (by decide +kernel)⟩
theorem lw_p83 : lw_okq (⟨"CashLedgerModel", "takeNumber", "(II)I"⟩, 16) := ⟨⟨by decide +kernel, by decide +kernel⟩, List.mem_of_getElem? (i := 1148) (by decide +kernel), List.mem_of_getElem? (i := 1291) (by decide +kernel), List.mem_of_getElem? (i := 1292) (by decide +kernel)⟩
theorem lw_p84 : lw_okq (⟨"CashLedgerModel", "roomStatement", "()V"⟩, 16) := ⟨⟨by decide +kernel, by decide +kernel⟩, List.mem_of_getElem? (i := 1148) (by decide +kernel), List.mem_of_getElem? (i := 1296) (by decide +kernel), List.mem_of_getElem? (i := 1297) (by decide +kernel)⟩
theorem lw_p85 : lw_okq (⟨"CashLedgerModel", "once", "(Ljava/lang/String;I)Z"⟩, 16) := ⟨⟨by decide +kernel, by decide +kernel⟩, List.mem_of_getElem? (i := 1148) (by decide +kernel), List.mem_of_getElem? (i := 1302) (by decide +kernel), List.mem_of_getElem? (i := 1303) (by decide +kernel)⟩
theorem lw_p86 : lw_okq (⟨"CashLedgerModel", "take", "(III)V"⟩, 16) := ⟨⟨by decide +kernel, by decide +kernel⟩, List.mem_of_getElem? (i := 1148) (by decide +kernel), List.mem_of_getElem? (i := 1307) (by decide +kernel), List.mem_of_getElem? (i := 1308) (by decide +kernel)⟩
theorem lw_p87 : lw_okq (⟨"CashLedgerModel", "record", "()V"⟩, 16) := ⟨⟨by decide +kernel, by decide +kernel⟩, List.mem_of_getElem? (i := 1148) (by decide +kernel), List.mem_of_getElem? (i := 1355) (by decide +kernel), List.mem_of_getElem? (i := 1356) (by decide +kernel)⟩
theorem lw_p88 : lw_okq (⟨"CashLedgerModel", "isEntry", "(I)Z"⟩, 16) := ⟨⟨by decide +kernel, by decide +kernel⟩, List.mem_of_getElem? (i := 1148) (by decide +kernel), List.mem_of_getElem? (i := 1363) (by decide +kernel), List.mem_of_getElem? (i := 1364) (by decide +kernel)⟩
theorem lw_p89 : lw_okq (⟨"CashLedgerModel", "isCancelled", "(I)Z"⟩, 16) := ⟨⟨by decide +kernel, by decide +kernel⟩, List.mem_of_getElem? (i := 1148) (by decide +kernel), List.mem_of_getElem? (i := 1367) (by decide +kernel), List.mem_of_getElem? (i := 1368) (by decide +kernel)⟩
theorem lw_p90 : lw_okq (⟨"CashLedgerModel", "entryPart", "(II)I"⟩, 16) := ⟨⟨by decide +kernel, by decide +kernel⟩, List.mem_of_getElem? (i := 1148) (by decide +kernel), List.mem_of_getElem? (i := 1371) (by decide +kernel), List.mem_of_getElem? (i := 1372) (by decide +kernel)⟩
theorem lw_p91 : lw_okq (⟨"CashLedgerModel", "become", "(II)I"⟩, 16) := ⟨⟨by decide +kernel, by decide +kernel⟩, List.mem_of_getElem? (i := 1148) (by decide +kernel), List.mem_of_getElem? (i := 1375) (by decide +kernel), List.mem_of_getElem? (i := 1376) (by decide +kernel)⟩
theorem lw_p92 : lw_okq (⟨"CashLedgerModel", "isRoom", "(I)Z"⟩, 16) := ⟨⟨by decide +kernel, by decide +kernel⟩, List.mem_of_getElem? (i := 1148) (by decide +kernel), List.mem_of_getElem? (i := 1392) (by decide +kernel), List.mem_of_getElem? (i := 1393) (by decide +kernel)⟩
theorem lw_p93 : lw_okq (⟨"CashLedgerModel", "usedDays", "(III)I"⟩, 16) := ⟨⟨by decide +kernel, by decide +kernel⟩, List.mem_of_getElem? (i := 1148) (by decide +kernel), List.mem_of_getElem? (i := 1396) (by decide +kernel), List.mem_of_getElem? (i := 1397) (by decide +kernel)⟩
theorem lw_p94 : lw_okq (⟨"CashLedgerModel", "roomPart", "(II)I"⟩, 16) := ⟨⟨by decide +kernel, by decide +kernel⟩, List.mem_of_getElem? (i := 1148) (by decide +kernel), List.mem_of_getElem? (i := 1400) (by decide +kernel), List.mem_of_getElem? (i := 1401) (by decide +kernel)⟩
theorem lw_p95 : lw_okq (⟨"CashLedgerModel", "isAsset", "(I)Z"⟩, 16) := ⟨⟨by decide +kernel, by decide +kernel⟩, List.mem_of_getElem? (i := 1148) (by decide +kernel), List.mem_of_getElem? (i := 1416) (by decide +kernel), List.mem_of_getElem? (i := 1417) (by decide +kernel)⟩
def lw_privs_6 : List (MethodName × Nat) := [(⟨"CashLedgerModel", "isGood", "()Z"⟩, 16), (⟨"CashLedgerModel", "bracketStatement", "()V"⟩, 16), (⟨"CashLedgerModel", "fail", "()V"⟩, 16), (⟨"CashLedgerModel", "takeNumber", "(II)I"⟩, 16), (⟨"CashLedgerModel", "roomStatement", "()V"⟩, 16), (⟨"CashLedgerModel", "once", "(Ljava/lang/String;I)Z"⟩, 16), (⟨"CashLedgerModel", "take", "(III)V"⟩, 16), (⟨"CashLedgerModel", "record", "()V"⟩, 16), (⟨"CashLedgerModel", "isEntry", "(I)Z"⟩, 16), (⟨"CashLedgerModel", "isCancelled", "(I)Z"⟩, 16), (⟨"CashLedgerModel", "entryPart", "(II)I"⟩, 16), (⟨"CashLedgerModel", "become", "(II)I"⟩, 16), (⟨"CashLedgerModel", "isRoom", "(I)Z"⟩, 16), (⟨"CashLedgerModel", "usedDays", "(III)I"⟩, 16), (⟨"CashLedgerModel", "roomPart", "(II)I"⟩, 16), (⟨"CashLedgerModel", "isAsset", "(I)Z"⟩, 16)]
theorem lw_r6 : ∀ q ∈ lw_privs_6, lw_okq q := List.forall_mem_cons.mpr ⟨lw_p80, List.forall_mem_cons.mpr ⟨lw_p81, List.forall_mem_cons.mpr ⟨lw_p82, List.forall_mem_cons.mpr ⟨lw_p83, List.forall_mem_cons.mpr ⟨lw_p84, List.forall_mem_cons.mpr ⟨lw_p85, List.forall_mem_cons.mpr ⟨lw_p86, List.forall_mem_cons.mpr ⟨lw_p87, List.forall_mem_cons.mpr ⟨lw_p88, List.forall_mem_cons.mpr ⟨lw_p89, List.forall_mem_cons.mpr ⟨lw_p90, List.forall_mem_cons.mpr ⟨lw_p91, List.forall_mem_cons.mpr ⟨lw_p92, List.forall_mem_cons.mpr ⟨lw_p93, List.forall_mem_cons.mpr ⟨lw_p94, List.forall_mem_cons.mpr ⟨lw_p95, fun _ h => absurd h List.not_mem_nil⟩⟩⟩⟩⟩⟩⟩⟩⟩⟩⟩⟩⟩⟩⟩⟩
theorem lw_p96 : lw_okq (⟨"CashLedgerModel", "assetPart", "(II)I"⟩, 16) := ⟨⟨by decide +kernel, by decide +kernel⟩, List.mem_of_getElem? (i := 1148) (by decide +kernel), List.mem_of_getElem? (i := 1420) (by decide +kernel), List.mem_of_getElem? (i := 1421) (by decide +kernel)⟩
theorem lw_p97 : lw_okq (⟨"CashLedgerModel", "isSold", "(I)Z"⟩, 16) := ⟨⟨by decide +kernel, by decide +kernel⟩, List.mem_of_getElem? (i := 1148) (by decide +kernel), List.mem_of_getElem? (i := 1424) (by decide +kernel), List.mem_of_getElem? (i := 1425) (by decide +kernel)⟩
theorem lw_p98 : lw_okq (⟨"CashLedgerModel", "valueOf", "(II)I"⟩, 16) := ⟨⟨by decide +kernel, by decide +kernel⟩, List.mem_of_getElem? (i := 1148) (by decide +kernel), List.mem_of_getElem? (i := 1428) (by decide +kernel), List.mem_of_getElem? (i := 1429) (by decide +kernel)⟩
theorem lw_p99 : lw_okq (⟨"CashLedgerModel", "boughtIn", "(I)I"⟩, 16) := ⟨⟨by decide +kernel, by decide +kernel⟩, List.mem_of_getElem? (i := 1148) (by decide +kernel), List.mem_of_getElem? (i := 1432) (by decide +kernel), List.mem_of_getElem? (i := 1433) (by decide +kernel)⟩
theorem lw_p100 : lw_okq (⟨"CashLedgerModel", "soldIn", "(I)I"⟩, 16) := ⟨⟨by decide +kernel, by decide +kernel⟩, List.mem_of_getElem? (i := 1148) (by decide +kernel), List.mem_of_getElem? (i := 1436) (by decide +kernel), List.mem_of_getElem? (i := 1437) (by decide +kernel)⟩
theorem lw_p101 : lw_okq (⟨"CashLedgerModel", "sortOf", "(I)I"⟩, 16) := ⟨⟨by decide +kernel, by decide +kernel⟩, List.mem_of_getElem? (i := 1148) (by decide +kernel), List.mem_of_getElem? (i := 1440) (by decide +kernel), List.mem_of_getElem? (i := 1441) (by decide +kernel)⟩
theorem lw_p102 : lw_okq (⟨"CashLedgerModel", "writtenTo", "(II)I"⟩, 16) := ⟨⟨by decide +kernel, by decide +kernel⟩, List.mem_of_getElem? (i := 1148) (by decide +kernel), List.mem_of_getElem? (i := 1444) (by decide +kernel), List.mem_of_getElem? (i := 1445) (by decide +kernel)⟩
theorem lw_p103 : lw_okq (⟨"CashLedgerModel", "byLife", "(II)I"⟩, 16) := ⟨⟨by decide +kernel, by decide +kernel⟩, List.mem_of_getElem? (i := 1148) (by decide +kernel), List.mem_of_getElem? (i := 1448) (by decide +kernel), List.mem_of_getElem? (i := 1449) (by decide +kernel)⟩
theorem lw_p104 : lw_okq (⟨"CashLedgerModel", "prepaidTo", "(I)J"⟩, 16) := ⟨⟨by decide +kernel, by decide +kernel⟩, List.mem_of_getElem? (i := 1148) (by decide +kernel), List.mem_of_getElem? (i := 1456) (by decide +kernel), List.mem_of_getElem? (i := 1457) (by decide +kernel)⟩
theorem lw_p105 : lw_okq (⟨"CashLedgerModel", "prepaymentFor", "(IJ)I"⟩, 16) := ⟨⟨by decide +kernel, by decide +kernel⟩, List.mem_of_getElem? (i := 1148) (by decide +kernel), List.mem_of_getElem? (i := 1460) (by decide +kernel), List.mem_of_getElem? (i := 1461) (by decide +kernel)⟩
theorem lw_p106 : lw_okq (⟨"CashLedgerModel", "profitsTo", "(I)J"⟩, 16) := ⟨⟨by decide +kernel, by decide +kernel⟩, List.mem_of_getElem? (i := 1148) (by decide +kernel), List.mem_of_getElem? (i := 1464) (by decide +kernel), List.mem_of_getElem? (i := 1465) (by decide +kernel)⟩
theorem lw_p107 : lw_okq (⟨"CashLedgerModel", "profitOf", "(I)J"⟩, 16) := ⟨⟨by decide +kernel, by decide +kernel⟩, List.mem_of_getElem? (i := 1148) (by decide +kernel), List.mem_of_getElem? (i := 1468) (by decide +kernel), List.mem_of_getElem? (i := 1469) (by decide +kernel)⟩
theorem lw_p108 : lw_okq (⟨"CashLedgerModel", "entriesIn", "(I)J"⟩, 16) := ⟨⟨by decide +kernel, by decide +kernel⟩, List.mem_of_getElem? (i := 1148) (by decide +kernel), List.mem_of_getElem? (i := 1472) (by decide +kernel), List.mem_of_getElem? (i := 1473) (by decide +kernel)⟩
theorem lw_p109 : lw_okq (⟨"CashLedgerModel", "countsIn", "(III)Z"⟩, 16) := ⟨⟨by decide +kernel, by decide +kernel⟩, List.mem_of_getElem? (i := 1148) (by decide +kernel), List.mem_of_getElem? (i := 1476) (by decide +kernel), List.mem_of_getElem? (i := 1477) (by decide +kernel)⟩
theorem lw_p110 : lw_okq (⟨"CashLedgerModel", "counts", "(I)Z"⟩, 16) := ⟨⟨by decide +kernel, by decide +kernel⟩, List.mem_of_getElem? (i := 1148) (by decide +kernel), List.mem_of_getElem? (i := 1480) (by decide +kernel), List.mem_of_getElem? (i := 1481) (by decide +kernel)⟩
theorem lw_p111 : lw_okq (⟨"CashLedgerModel", "deductedOf", "(I)J"⟩, 16) := ⟨⟨by decide +kernel, by decide +kernel⟩, List.mem_of_getElem? (i := 1148) (by decide +kernel), List.mem_of_getElem? (i := 1484) (by decide +kernel), List.mem_of_getElem? (i := 1485) (by decide +kernel)⟩
def lw_privs_7 : List (MethodName × Nat) := [(⟨"CashLedgerModel", "assetPart", "(II)I"⟩, 16), (⟨"CashLedgerModel", "isSold", "(I)Z"⟩, 16), (⟨"CashLedgerModel", "valueOf", "(II)I"⟩, 16), (⟨"CashLedgerModel", "boughtIn", "(I)I"⟩, 16), (⟨"CashLedgerModel", "soldIn", "(I)I"⟩, 16), (⟨"CashLedgerModel", "sortOf", "(I)I"⟩, 16), (⟨"CashLedgerModel", "writtenTo", "(II)I"⟩, 16), (⟨"CashLedgerModel", "byLife", "(II)I"⟩, 16), (⟨"CashLedgerModel", "prepaidTo", "(I)J"⟩, 16), (⟨"CashLedgerModel", "prepaymentFor", "(IJ)I"⟩, 16), (⟨"CashLedgerModel", "profitsTo", "(I)J"⟩, 16), (⟨"CashLedgerModel", "profitOf", "(I)J"⟩, 16), (⟨"CashLedgerModel", "entriesIn", "(I)J"⟩, 16), (⟨"CashLedgerModel", "countsIn", "(III)Z"⟩, 16), (⟨"CashLedgerModel", "counts", "(I)Z"⟩, 16), (⟨"CashLedgerModel", "deductedOf", "(I)J"⟩, 16)]
theorem lw_r7 : ∀ q ∈ lw_privs_7, lw_okq q := List.forall_mem_cons.mpr ⟨lw_p96, List.forall_mem_cons.mpr ⟨lw_p97, List.forall_mem_cons.mpr ⟨lw_p98, List.forall_mem_cons.mpr ⟨lw_p99, List.forall_mem_cons.mpr ⟨lw_p100, List.forall_mem_cons.mpr ⟨lw_p101, List.forall_mem_cons.mpr ⟨lw_p102, List.forall_mem_cons.mpr ⟨lw_p103, List.forall_mem_cons.mpr ⟨lw_p104, List.forall_mem_cons.mpr ⟨lw_p105, List.forall_mem_cons.mpr ⟨lw_p106, List.forall_mem_cons.mpr ⟨lw_p107, List.forall_mem_cons.mpr ⟨lw_p108, List.forall_mem_cons.mpr ⟨lw_p109, List.forall_mem_cons.mpr ⟨lw_p110, List.forall_mem_cons.mpr ⟨lw_p111, fun _ h => absurd h List.not_mem_nil⟩⟩⟩⟩⟩⟩⟩⟩⟩⟩⟩⟩⟩⟩⟩⟩
theorem lw_p112 : lw_okq (⟨"CashLedgerModel", "deducted", "(III)J"⟩, 16) := ⟨⟨by decide +kernel, by decide +kernel⟩, List.mem_of_getElem? (i := 1148) (by decide +kernel), List.mem_of_getElem? (i := 1488) (by decide +kernel), List.mem_of_getElem? (i := 1489) (by decide +kernel)⟩
theorem lw_p113 : lw_okq (⟨"CashLedgerModel", "shareAbove", "(I)I"⟩, 16) := ⟨⟨by decide +kernel, by decide +kernel⟩, List.mem_of_getElem? (i := 1148) (by decide +kernel), List.mem_of_getElem? (i := 1492) (by decide +kernel), List.mem_of_getElem? (i := 1493) (by decide +kernel)⟩
theorem lw_p114 : lw_okq (⟨"CashLedgerModel", "shareBelow", "()I"⟩, 16) := ⟨⟨by decide +kernel, by decide +kernel⟩, List.mem_of_getElem? (i := 1148) (by decide +kernel), List.mem_of_getElem? (i := 1496) (by decide +kernel), List.mem_of_getElem? (i := 1497) (by decide +kernel)⟩
theorem lw_p115 : lw_okq (⟨"CashLedgerModel", "assetsIn", "(I)J"⟩, 16) := ⟨⟨by decide +kernel, by decide +kernel⟩, List.mem_of_getElem? (i := 1148) (by decide +kernel), List.mem_of_getElem? (i := 1500) (by decide +kernel), List.mem_of_getElem? (i := 1501) (by decide +kernel)⟩
theorem lw_p116 : lw_okq (⟨"CashLedgerModel", "writtenIn", "(II)I"⟩, 16) := ⟨⟨by decide +kernel, by decide +kernel⟩, List.mem_of_getElem? (i := 1148) (by decide +kernel), List.mem_of_getElem? (i := 1504) (by decide +kernel), List.mem_of_getElem? (i := 1505) (by decide +kernel)⟩
theorem lw_p117 : lw_okq (⟨"CashLedgerModel", "poolOff", "(I)I"⟩, 16) := ⟨⟨by decide +kernel, by decide +kernel⟩, List.mem_of_getElem? (i := 1148) (by decide +kernel), List.mem_of_getElem? (i := 1508) (by decide +kernel), List.mem_of_getElem? (i := 1509) (by decide +kernel)⟩
theorem lw_p118 : lw_okq (⟨"CashLedgerModel", "poolTo", "(I)I"⟩, 16) := ⟨⟨by decide +kernel, by decide +kernel⟩, List.mem_of_getElem? (i := 1148) (by decide +kernel), List.mem_of_getElem? (i := 1512) (by decide +kernel), List.mem_of_getElem? (i := 1513) (by decide +kernel)⟩
theorem lw_p119 : lw_okq (⟨"CashLedgerModel", "taxOf", "(J)J"⟩, 16) := ⟨⟨by decide +kernel, by decide +kernel⟩, List.mem_of_getElem? (i := 1148) (by decide +kernel), List.mem_of_getElem? (i := 1517) (by decide +kernel), List.mem_of_getElem? (i := 1518) (by decide +kernel)⟩
theorem lw_p120 : lw_okq (⟨"CashLedgerModel", "limitOf", "(I)I"⟩, 16) := ⟨⟨by decide +kernel, by decide +kernel⟩, List.mem_of_getElem? (i := 1148) (by decide +kernel), List.mem_of_getElem? (i := 1521) (by decide +kernel), List.mem_of_getElem? (i := 1522) (by decide +kernel)⟩
theorem lw_p121 : lw_okq (⟨"CashLedgerModel", "rateOf", "(I)I"⟩, 16) := ⟨⟨by decide +kernel, by decide +kernel⟩, List.mem_of_getElem? (i := 1148) (by decide +kernel), List.mem_of_getElem? (i := 1526) (by decide +kernel), List.mem_of_getElem? (i := 1527) (by decide +kernel)⟩
theorem lw_p122 : lw_okq (⟨"CashLedgerModel", "openMany", "()I"⟩, 16) := ⟨⟨by decide +kernel, by decide +kernel⟩, List.mem_of_getElem? (i := 1148) (by decide +kernel), List.mem_of_getElem? (i := 1541) (by decide +kernel), List.mem_of_getElem? (i := 1542) (by decide +kernel)⟩
theorem lw_p123 : lw_okq (⟨"CashLedgerModel", "isOpen", "(I)Z"⟩, 16) := ⟨⟨by decide +kernel, by decide +kernel⟩, List.mem_of_getElem? (i := 1148) (by decide +kernel), List.mem_of_getElem? (i := 1545) (by decide +kernel), List.mem_of_getElem? (i := 1546) (by decide +kernel)⟩
theorem lw_p124 : lw_okq (⟨"CashLedgerModel", "flagged", "(I)I"⟩, 16) := ⟨⟨by decide +kernel, by decide +kernel⟩, List.mem_of_getElem? (i := 1148) (by decide +kernel), List.mem_of_getElem? (i := 1549) (by decide +kernel), List.mem_of_getElem? (i := 1550) (by decide +kernel)⟩
theorem lw_p125 : lw_okq (⟨"CashLedgerModel", "soldMany", "()I"⟩, 16) := ⟨⟨by decide +kernel, by decide +kernel⟩, List.mem_of_getElem? (i := 1148) (by decide +kernel), List.mem_of_getElem? (i := 1553) (by decide +kernel), List.mem_of_getElem? (i := 1554) (by decide +kernel)⟩
theorem lw_p126 : lw_okq (⟨"CashLedgerModel", "yearProfit", "()J"⟩, 16) := ⟨⟨by decide +kernel, by decide +kernel⟩, List.mem_of_getElem? (i := 1148) (by decide +kernel), List.mem_of_getElem? (i := 1642) (by decide +kernel), List.mem_of_getElem? (i := 1643) (by decide +kernel)⟩
theorem lw_p127 : lw_okq (⟨"CashLedgerModel", "isClosed", "(I)Z"⟩, 16) := ⟨⟨by decide +kernel, by decide +kernel⟩, List.mem_of_getElem? (i := 1148) (by decide +kernel), List.mem_of_getElem? (i := 1650) (by decide +kernel), List.mem_of_getElem? (i := 1651) (by decide +kernel)⟩
def lw_privs_8 : List (MethodName × Nat) := [(⟨"CashLedgerModel", "deducted", "(III)J"⟩, 16), (⟨"CashLedgerModel", "shareAbove", "(I)I"⟩, 16), (⟨"CashLedgerModel", "shareBelow", "()I"⟩, 16), (⟨"CashLedgerModel", "assetsIn", "(I)J"⟩, 16), (⟨"CashLedgerModel", "writtenIn", "(II)I"⟩, 16), (⟨"CashLedgerModel", "poolOff", "(I)I"⟩, 16), (⟨"CashLedgerModel", "poolTo", "(I)I"⟩, 16), (⟨"CashLedgerModel", "taxOf", "(J)J"⟩, 16), (⟨"CashLedgerModel", "limitOf", "(I)I"⟩, 16), (⟨"CashLedgerModel", "rateOf", "(I)I"⟩, 16), (⟨"CashLedgerModel", "openMany", "()I"⟩, 16), (⟨"CashLedgerModel", "isOpen", "(I)Z"⟩, 16), (⟨"CashLedgerModel", "flagged", "(I)I"⟩, 16), (⟨"CashLedgerModel", "soldMany", "()I"⟩, 16), (⟨"CashLedgerModel", "yearProfit", "()J"⟩, 16), (⟨"CashLedgerModel", "isClosed", "(I)Z"⟩, 16)]
theorem lw_r8 : ∀ q ∈ lw_privs_8, lw_okq q := List.forall_mem_cons.mpr ⟨lw_p112, List.forall_mem_cons.mpr ⟨lw_p113, List.forall_mem_cons.mpr ⟨lw_p114, List.forall_mem_cons.mpr ⟨lw_p115, List.forall_mem_cons.mpr ⟨lw_p116, List.forall_mem_cons.mpr ⟨lw_p117, List.forall_mem_cons.mpr ⟨lw_p118, List.forall_mem_cons.mpr ⟨lw_p119, List.forall_mem_cons.mpr ⟨lw_p120, List.forall_mem_cons.mpr ⟨lw_p121, List.forall_mem_cons.mpr ⟨lw_p122, List.forall_mem_cons.mpr ⟨lw_p123, List.forall_mem_cons.mpr ⟨lw_p124, List.forall_mem_cons.mpr ⟨lw_p125, List.forall_mem_cons.mpr ⟨lw_p126, List.forall_mem_cons.mpr ⟨lw_p127, fun _ h => absurd h List.not_mem_nil⟩⟩⟩⟩⟩⟩⟩⟩⟩⟩⟩⟩⟩⟩⟩⟩
theorem lw_p128 : lw_okq (⟨"CashLedgerModel", "againFor", "(I)I"⟩, 16) := ⟨⟨by decide +kernel, by decide +kernel⟩, List.mem_of_getElem? (i := 1148) (by decide +kernel), List.mem_of_getElem? (i := 1658) (by decide +kernel), List.mem_of_getElem? (i := 1659) (by decide +kernel)⟩
theorem lw_p129 : lw_okq (⟨"CashLedgerModel", "correctionOf", "(I)I"⟩, 16) := ⟨⟨by decide +kernel, by decide +kernel⟩, List.mem_of_getElem? (i := 1148) (by decide +kernel), List.mem_of_getElem? (i := 1666) (by decide +kernel), List.mem_of_getElem? (i := 1667) (by decide +kernel)⟩
theorem lw_p130 : lw_okq (⟨"CashLedgerModel", "balanceAt", "(I)J"⟩, 16) := ⟨⟨by decide +kernel, by decide +kernel⟩, List.mem_of_getElem? (i := 1148) (by decide +kernel), List.mem_of_getElem? (i := 1700) (by decide +kernel), List.mem_of_getElem? (i := 1701) (by decide +kernel)⟩
theorem lw_p131 : lw_okq (⟨"CashLedgerModel", "entriesUpTo", "(I)J"⟩, 16) := ⟨⟨by decide +kernel, by decide +kernel⟩, List.mem_of_getElem? (i := 1148) (by decide +kernel), List.mem_of_getElem? (i := 1704) (by decide +kernel), List.mem_of_getElem? (i := 1705) (by decide +kernel)⟩
theorem lw_p132 : lw_okq (⟨"CashLedgerModel", "assetsUpTo", "(I)J"⟩, 16) := ⟨⟨by decide +kernel, by decide +kernel⟩, List.mem_of_getElem? (i := 1148) (by decide +kernel), List.mem_of_getElem? (i := 1708) (by decide +kernel), List.mem_of_getElem? (i := 1709) (by decide +kernel)⟩
theorem lw_p133 : lw_okq (⟨"CashLedgerModel", "prepaidUpTo", "(I)J"⟩, 16) := ⟨⟨by decide +kernel, by decide +kernel⟩, List.mem_of_getElem? (i := 1148) (by decide +kernel), List.mem_of_getElem? (i := 1712) (by decide +kernel), List.mem_of_getElem? (i := 1713) (by decide +kernel)⟩
theorem lw_p134 : lw_okq (⟨"CashLedgerModel", "layDays", "()V"⟩, 16) := ⟨⟨by decide +kernel, by decide +kernel⟩, List.mem_of_getElem? (i := 1148) (by decide +kernel), List.mem_of_getElem? (i := 1720) (by decide +kernel), List.mem_of_getElem? (i := 1721) (by decide +kernel)⟩
theorem lw_p135 : lw_okq (⟨"CashLedgerModel", "layEntries", "()V"⟩, 16) := ⟨⟨by decide +kernel, by decide +kernel⟩, List.mem_of_getElem? (i := 1148) (by decide +kernel), List.mem_of_getElem? (i := 1724) (by decide +kernel), List.mem_of_getElem? (i := 1725) (by decide +kernel)⟩
theorem lw_p136 : lw_okq (⟨"CashLedgerModel", "layAssets", "()V"⟩, 16) := ⟨⟨by decide +kernel, by decide +kernel⟩, List.mem_of_getElem? (i := 1148) (by decide +kernel), List.mem_of_getElem? (i := 1728) (by decide +kernel), List.mem_of_getElem? (i := 1729) (by decide +kernel)⟩
theorem lw_p137 : lw_okq (⟨"CashLedgerModel", "takenIn", "(I)J"⟩, 16) := ⟨⟨by decide +kernel, by decide +kernel⟩, List.mem_of_getElem? (i := 1148) (by decide +kernel), List.mem_of_getElem? (i := 1740) (by decide +kernel), List.mem_of_getElem? (i := 1741) (by decide +kernel)⟩
def lw_privs_9 : List (MethodName × Nat) := [(⟨"CashLedgerModel", "againFor", "(I)I"⟩, 16), (⟨"CashLedgerModel", "correctionOf", "(I)I"⟩, 16), (⟨"CashLedgerModel", "balanceAt", "(I)J"⟩, 16), (⟨"CashLedgerModel", "entriesUpTo", "(I)J"⟩, 16), (⟨"CashLedgerModel", "assetsUpTo", "(I)J"⟩, 16), (⟨"CashLedgerModel", "prepaidUpTo", "(I)J"⟩, 16), (⟨"CashLedgerModel", "layDays", "()V"⟩, 16), (⟨"CashLedgerModel", "layEntries", "()V"⟩, 16), (⟨"CashLedgerModel", "layAssets", "()V"⟩, 16), (⟨"CashLedgerModel", "takenIn", "(I)J"⟩, 16)]
theorem lw_r9 : ∀ q ∈ lw_privs_9, lw_okq q := List.forall_mem_cons.mpr ⟨lw_p128, List.forall_mem_cons.mpr ⟨lw_p129, List.forall_mem_cons.mpr ⟨lw_p130, List.forall_mem_cons.mpr ⟨lw_p131, List.forall_mem_cons.mpr ⟨lw_p132, List.forall_mem_cons.mpr ⟨lw_p133, List.forall_mem_cons.mpr ⟨lw_p134, List.forall_mem_cons.mpr ⟨lw_p135, List.forall_mem_cons.mpr ⟨lw_p136, List.forall_mem_cons.mpr ⟨lw_p137, fun _ h => absurd h List.not_mem_nil⟩⟩⟩⟩⟩⟩⟩⟩⟩⟩
def lw_privs : List (MethodName × Nat) := lw_privs_1 ++ (lw_privs_2 ++ (lw_privs_3 ++ (lw_privs_4 ++ (lw_privs_5 ++ (lw_privs_6 ++ (lw_privs_7 ++ (lw_privs_8 ++ (lw_privs_9))))))))
def lw_tbl : List Cond := k2_sels lw_privs ++ tables_1
theorem lw_privs_ok : ∀ q ∈ lw_privs, lw_okq q := by
  show ∀ q ∈ lw_privs_1 ++ (lw_privs_2 ++ (lw_privs_3 ++ (lw_privs_4 ++ (lw_privs_5 ++ (lw_privs_6 ++ (lw_privs_7 ++ (lw_privs_8 ++ (lw_privs_9)))))))), lw_okq q
  exact List.forall_mem_append.mpr ⟨lw_r1, List.forall_mem_append.mpr ⟨lw_r2, List.forall_mem_append.mpr ⟨lw_r3, List.forall_mem_append.mpr ⟨lw_r4, List.forall_mem_append.mpr ⟨lw_r5, List.forall_mem_append.mpr ⟨lw_r6, List.forall_mem_append.mpr ⟨lw_r7, List.forall_mem_append.mpr ⟨lw_r8, lw_r9⟩⟩⟩⟩⟩⟩⟩⟩
/-- the streams that the claim lets the run draw from -/
abbrev lw_cs : List Choice := [Jvm.Choice.named "NaN.bits"]
theorem lw_bits : nanBits ∈ lw_cs := by first | decide | exact List.mem_cons_self | simp [lw_cs, nanBits]

/-! ===== BEGIN words of one list among another's, by their places ===== -/
theorem goodIn_r {big : List Cond} (ws : List Cond) (ps : List Nat) (hp : ws = ps.filterMap (fun i => big[i]?)) (h : ws.all goodWord = true) : GoodIn big ws := by
  intro w hw
  have h1 := List.all_eq_true.mp h w hw
  rw [hp] at hw
  obtain ⟨i, -, hi⟩ := List.mem_filterMap.mp hw
  have hm : w ∈ big := by first | exact List.mem_of_getElem? hi | exact List.getElem?_mem hi
  exact ⟨hm, good_of_word h1⟩
theorem goodIn_app {big a b : List Cond} (ha : GoodIn big a) (hb : GoodIn big b) : GoodIn big (a ++ b) := fun w h => (List.mem_append.mp h).elim (ha w) (hb w)
theorem goodIn_ca {big a b : List Cond} {c : Cond} (ha : GoodIn big (c :: a)) (hb : GoodIn big b) : GoodIn big (c :: (a ++ b)) := fun w h => (List.mem_cons.mp h).elim (fun e => ha w (List.mem_cons.mpr (Or.inl e))) (fun h => (List.mem_append.mp h).elim (fun h => ha w (List.mem_cons.mpr (Or.inr h))) (hb w))
theorem goodIn_sub {big ws : List Cond} (hm : ∀ w ∈ ws, w ∈ big) (h : ws.all goodWord = true) : GoodIn big ws := fun w hw => ⟨hm w hw, good_of_word (List.all_eq_true.mp h w hw)⟩
/-! ===== END ===== -/

/-! ===== BEGIN exceptions that leave a method, and their catching by the caller (launches without stack traces) ===== -/
section VXA
/-! The laws vx_back, vx_callV, vx_callS, vx_callSW, vx_throw0, vx_throwS follow proofs of the library, with one case more: JvmDerived/Free/Laws.lean (Back.of_free), Shelf42/LK1.lean (callV, callS), Shelf/KitTraced.lean (throwNew0V, throwNewS). -/
/-- where a method has thrown q: the class by its name, the cell, what was written, the world -/
def vx_T (XC : String → State → State → Prop) (st : State) (q : Addr) (t : State) (mc ms : Nat) (free : Addr → Prop) : Prop :=
  ∃ (E : String) (ce : Cell) (L : List Loc), XC E st t ∧ t.heap[q]? = some ce ∧ ce.vm = .none ∧ st.vm.findClass E = some ce.cls ∧ st.WarmedH t.vm ∧ st.sameButNew ({ t with vm := st.vm } : State) L mc ms ∧ ∀ z ∈ L, free z.base
def vx_Q (Qc : Array Value → State → Outcome → State → Prop) (XC : String → State → State → Prop) (mc ms : Nat) (free : Addr → Prop) : Array Value → State → Outcome → State → Prop := fun a st o t =>
  (Qc a st o t ∧ ∃ L, FrameEnd st o t L mc ms ∧ ∀ q ∈ L, free q.base) ∨ ∃ q, o = .threw q ∧ vx_T XC st q t mc ms free
/-- a callee that returns or throws -/
def vx_Met (l : Launch) (y : MethodName) (ws : List Cond) (rm : Room) (Pc : Array Value → State → Prop) (Qc : Array Value → State → Outcome → State → Prop) (XC : String → State → State → Prop) (mc ms : Nat) (free : Addr → Prop) : Prop :=
  MetFree l y (headSpec ws rm) Pc (fun _ _ _ _ _ => True) (vx_Q Qc XC mc ms free)
def vx_Post (XC : String → State → State → Prop) (mc ms : Nat) (free : Addr → Prop) : Pt → Array Value → Addr → Pt → Prop := fun A a q B =>
  ∃ (g : JFrame) (mk : MethodId) (t : State) (L : List Loc) (E : String) (ce : Cell), B.U.heap = t.heap ∧ B.U.vm = t.vm ∧ XC E (A.U.calling g mk a) t ∧ t.heap[q]? = some ce ∧ ce.vm = .none ∧ A.U.vm.findClass E = some ce.cls ∧ B.locs = A.locs ++ L ∧ (∀ z ∈ L, free z.base) ∧ B.cells = A.cells + mc ∧ B.slots = A.slots + ms
def vx_Back (l : Launch) (R : Room) (p : Program) (e : Env) (below : List Frame) (s : State) (sargs : Array Value) (y : MethodName) (len W9 : Nat)
    (Pre : Pt → Array Value → Prop) (Post : Pt → Array Value → Option Value → Pt → Prop) (PostX : Pt → Array Value → Addr → Pt → Prop) : Prop :=
  ∀ (m : MethodId) (meth : Method) (c : Code) (A : Pt) (g : JFrame) (ig : Instr) (mk : MethodId) (a : Array Value),
    Stand p l e R s m sargs below meth c A.U A.locs A.cells A.slots → g.method = m → g.locals.size = c.maxLocals → decode c.code g.pc = .ok (ig, len) →
    2 * g.monitorRoom + (g.stack.map fun v => v.category).sum ≤ W9 → A.U.methodNamed? y = some mk → Pre A a →
    (∃ (v : Option Value) (B : Pt), Stand p l e R s m sargs below meth c B.U B.locs B.cells B.slots ∧ Post A a v B ∧
      Steps p.tables e below (doInvoke e (A.U.setTop g) [] mk a).1 (B.U.setTop { g with pc := g.pc + len, stack := v.toList ++ g.stack })) ∨
    (∃ (q : Addr) (B : Pt), Stand p l e R s m sargs below meth c B.U B.locs B.cells B.slots ∧ PostX A a q B ∧
      Steps p.tables e below (doInvoke e (A.U.setTop g) [] mk a).1 ((B.U.setTop g).pushFrame (.throwing q)))
section Payer
variable {l : Launch} {R : Room} {p : Program} {e : Env} {below : List Frame} {s : State} {sargs : Array Value} {y : MethodName} {len W9 : Nat}
theorem vx_back {ws : List Cond} {rm : Room} {Pc : Array Value → State → Prop} {Qc : Array Value → State → Outcome → State → Prop} {XC : String → State → State → Prop} {mc ms : Nat} {free : Addr → Prop} {bytes : ByteArray} {maxL : Nat} {ret : Option FieldType}
    (hM : vx_Met l y ws rm Pc Qc XC mc ms free) (hblind : FrameBlind Pc) (hrc : rm.cells = mc) (hrs : rm.slots = ms)
    (hframes : rm.frames + 1 ≤ R.frames) (hlocals : W9 + (maxL + 11) + rm.locals ≤ R.locals)
    (hws : ∀ w ∈ ws, ∀ a' U, s.WarmedH U.vm → w.before a' U = true) (hcode : Cond.code y bytes maxL ret ∈ ws) (hinit : ∀ a' U, s.WarmedH U.vm → (Cond.initialized y.cls).before a' U = true) :
    vx_Back l R p e below s sargs y len W9 (PreOf R mc ms Pc) (PostOf Qc mc ms free) (vx_Post XC mc ms free) := by
  intro m meth c A g ig mk a X hg hsize hdg hW hn hp
  have h1 : (headSpec ws rm).pre.before a A.U = true := atoms_intro fun w hw => hws w hw _ _ X.warmed
  have h2 : (Cond.code y bytes maxL ret).before a A.U = true := hws _ hcode _ _ X.warmed
  have h3 : (Cond.initialized y.cls).before a A.U = true := hinit _ _ X.warmed
  have h4 : A.cells + (headSpec ws rm).room.cells ≤ R.cells := by rw [show (headSpec ws rm).room.cells = mc from hrc]; exact hp.1
  have h5 : A.slots + (headSpec ws rm).room.slots ≤ R.slots := by rw [show (headSpec ws rm).room.slots = ms from hrs]; exact hp.2.1
  have hPc : Pc a (A.U.calling g mk a) := hblind _ _ _ _ hp.2.2
  obtain ⟨U, Ls, c0, s0⟩ := A
  dsimp only [Pt.U, Pt.locs, Pt.cells, Pt.slots] at h1 h2 h3 h4 h5 X hn hPc ⊢
  obtain ⟨methY, cY, hmY, hcY, -, hlY, -, -, -, -⟩ := Cond.code_spec hn h2
  obtain ⟨kY, hkY, -⟩ := className_of_methodNamed hn
  have hinitY : kY.init = .initialized := Cond.initialized_spec (findClass_of_methodNamed hn) hkY h3
  have h : At U g.method c below := by rw [hg]; exact X.here
  have hlocals9 : W9 + (maxL + 11) + (headSpec ws rm).room.locals ≤ R.locals := hlocals
  have happ : (headSpec ws rm).appliesLoose y e.platform (U.calling g mk a) = true :=
    Spec.appliesLoose_calling (g := g) h hdg hn hkY hinitY
      (X.room_calling (g := g) (R' := (headSpec ws rm).room) hsize hmY hcY hframes (by rw [hlY]; omega) h4 h5) h1
  obtain ⟨mid, hmid⟩ := h.above
  have hfr : (U.setTop g).frames = (.java g :: mid) ++ below := by rw [State.frames_setTop' g h.top, hmid]; rfl
  obtain ⟨o, s₂, hsteps, -, hend, hq⟩ := Steps.callFree hM p X.admits X.cas X.clock (acts := []) hfr happ hPc trivial
  have hq' : vx_Q Qc XC mc ms free a (U.calling g mk a) o s₂ := hq
  rw [State.frames_setTop' g h.top] at hend
  obtain ⟨g₀, hg0⟩ := Option.isSome_iff_exists.mp h.top
  obtain ⟨r, hr⟩ := State.topJava?_eq_some.mp hg0
  have hr' : (({ U with heap := s₂.heap, slotsUsed := s₂.slotsUsed } : State).setVm s₂.vm).frames = .java g₀ :: r := hr
  rcases hq' with ⟨hqc, L, hfe, hL⟩ | ⟨q, rfl, E, ce, L, hx, hce, hcv, hcl, hW₂, hsm, hL⟩
  · obtain ⟨⟨v, rfl⟩, hW₂, e2, q2, q3, q4, q5, q6⟩ := id hfe
    have e3 : s₂ = ({ (U.calling g mk a).setFrames s₂.frames with heap := s₂.heap, slotsUsed := s₂.slotsUsed } : State).setVm s₂.vm := by
      have : s₂ = ({ s₂ with vm := (U.calling g mk a).vm } : State).setVm s₂.vm := rfl
      rw [e2] at this
      exact this
    obtain ⟨c₂, i₂, len₂, hc₂, hd₂, hf₂⟩ := hend
    have hW' : U.WarmedH s₂.vm := hW₂
    have hcc : c₂ = c := by
      have h1 : s₂.code? g.method = U.code? g.method := by
        rw [State.code?_eq, State.code?_eq, hW'.alike.method?]
      exact Option.some.inj (hc₂.symm.trans (h1.trans h.code))
    subst hcc
    have hlen : len₂ = len := by rw [hdg] at hd₂; cases hd₂; rfl
    subst hlen
    have hs₂ : s₂ = (({ U with heap := s₂.heap, slotsUsed := s₂.slotsUsed } : State).setVm s₂.vm).setTop { g with pc := g.pc + len₂, stack := v.toList ++ g.stack } := by
      refine e3.trans ?_
      rw [hf₂, State.calling_eq h.top, State.setFrames_setFrames, State.setTop_of_frames _ hr', hr]
      rfl
    have hsame : U.sameButNew ({ U with heap := s₂.heap, slotsUsed := s₂.slotsUsed } : State) L mc ms := by
      refine ⟨?_, q2, q3, q4, q5, q6⟩
      obtain ⟨t, ht, -⟩ := State.frames_cons hr
      show ({ U with heap := s₂.heap, slotsUsed := s₂.slotsUsed } : State) = { U.setFrames U.frames with heap := s₂.heap, slotsUsed := s₂.slotsUsed }
      rw [State.setFrames_self ht]
    subst hg
    refine Or.inl ⟨v, ⟨(({ U with heap := s₂.heap, slotsUsed := s₂.slotsUsed } : State).setVm s₂.vm), Ls ++ L, c0 + mc, s0 + ms⟩,
      ⟨X.admits, X.cas, X.clock, X.frames, X.room, X.hears, X.method, X.code, (X.here.setHeapUsed s₂.heap s₂.slotsUsed).setVm hW'.alike, X.tail, State.WarmedH.trans X.warmed hW', X.limits, X.bytes, X.same.trans (hsame.setVm s.vm)⟩,
      ⟨g, mk, s₂, L, rfl, rfl, hqc, rfl, hL, rfl, rfl⟩, ?_⟩
    show Steps p.tables e below _ ((({ U with heap := s₂.heap, slotsUsed := s₂.slotsUsed } : State).setVm s₂.vm).setTop { g with pc := g.pc + len₂, stack := v.toList ++ g.stack })
    rw [← hs₂]
    exact hsteps
  · obtain ⟨e2, q2, q3, q4, q5, q6⟩ := id hsm
    have e3 : s₂ = ({ (U.calling g mk a).setFrames s₂.frames with heap := s₂.heap, slotsUsed := s₂.slotsUsed } : State).setVm s₂.vm := by
      have : s₂ = ({ s₂ with vm := (U.calling g mk a).vm } : State).setVm s₂.vm := rfl
      rw [e2] at this
      exact this
    have hf₂ : s₂.frames = .throwing q :: .java g :: U.frames.tail := hend
    have hW' : U.WarmedH s₂.vm := hW₂
    have hs₂ : s₂ = ((({ U with heap := s₂.heap, slotsUsed := s₂.slotsUsed } : State).setVm s₂.vm).setTop g).pushFrame (.throwing q) := by
      refine e3.trans ?_
      rw [hf₂, State.calling_eq h.top, State.setFrames_setFrames, State.pushFrame, State.frames_setTop _ hr', State.setTop_of_frames _ hr', State.setFrames_setFrames, hr]
      rfl
    have hsame : U.sameButNew ({ U with heap := s₂.heap, slotsUsed := s₂.slotsUsed } : State) L mc ms := by
      refine ⟨?_, q2, q3, q4, q5, q6⟩
      obtain ⟨t, ht, -⟩ := State.frames_cons hr
      show ({ U with heap := s₂.heap, slotsUsed := s₂.slotsUsed } : State) = { U.setFrames U.frames with heap := s₂.heap, slotsUsed := s₂.slotsUsed }
      rw [State.setFrames_self ht]
    subst hg
    refine Or.inr ⟨q, ⟨(({ U with heap := s₂.heap, slotsUsed := s₂.slotsUsed } : State).setVm s₂.vm), Ls ++ L, c0 + mc, s0 + ms⟩,
      ⟨X.admits, X.cas, X.clock, X.frames, X.room, X.hears, X.method, X.code, (X.here.setHeapUsed s₂.heap s₂.slotsUsed).setVm hW'.alike, X.tail, State.WarmedH.trans X.warmed hW', X.limits, X.bytes, X.same.trans (hsame.setVm s.vm)⟩,
      ⟨g, mk, s₂, L, E, ce, rfl, rfl, hx, hce, hcv, hcl, rfl, hL, rfl, rfl⟩, ?_⟩
    show Steps p.tables e below _ (((({ U with heap := s₂.heap, slotsUsed := s₂.slotsUsed } : State).setVm s₂.vm).setTop g).pushFrame (.throwing q))
    rw [← hs₂]
    exact hsteps
end Payer
section Calls
variable {p : Program} {l : Launch} {e : Env} {R : Room} {s : State} {m : MethodId} {args : Array Value} {below : List Frame} {meth : Method} {c : Code} {T : State} {locs : List Loc} {cells slots : Nat}
theorem vx_callV (X : Stand p l e R s m args below meth c T locs cells slots) (hexec : p.tables.exec = Jvm.exec) {own C : String} {index : Nat} {y : MethodName} {bytes : ByteArray} {maxL : Nat} {ret : Option FieldType}
    (hown : s.vm.findClass own = some m.cls) (hlink : (Cond.methodLink own index y).before args s = true) (hinst : (Cond.instanceMethod y).before args s = true) (hsel : (Cond.selects C y y).before args s = true)
    (hcode : (Cond.code y bytes maxL ret).before args s = true) (hy : y.cls ≠ "java/lang/invoke/MethodHandle" ∧ y.cls ≠ "java/lang/invoke/VarHandle")
    {W9 : Nat} {Pre : Pt → Array Value → Prop} {Post : Pt → Array Value → Option Value → Pt → Prop} {PostX : Pt → Array Value → Addr → Pt → Prop} (hK : vx_Back l R p e below s args y 3 W9 Pre Post PostX)
    {b : Addr} {cellB : Cell} (hcell : T.heap[b]? = some cellB) (hobj : cellB.vm.isStatics = false) (hcls : s.vm.findClass C = some cellB.cls)
    {g : JFrame} (hg : g.method = m) (hsize : g.locals.size = c.maxLocals) {argsL rest : List Value} (hlen : ∀ sig, parseMethodDescriptor y.desc = some sig → argsL.length = sig.parameters.length)
    (hstack : g.stack = argsL.reverse ++ .ref b :: rest) (hW : 2 * g.monitorRoom + (rest.map fun v => v.category).sum ≤ W9) (hdg : decode c.code g.pc = .ok (.invokevirtual index, 3))
    (hpre : ∀ vm₁, s.WarmedH vm₁ → Pre ⟨T.setVm vm₁, locs, cells, slots⟩ (Value.ref b :: argsL).toArray) :
    (∃ (v : Option Value) (vm₁ : Vm) (B : Pt), s.WarmedH vm₁ ∧ Stand p l e R s m args below meth c B.U B.locs B.cells B.slots ∧ Post ⟨T.setVm vm₁, locs, cells, slots⟩ (Value.ref b :: argsL).toArray v B ∧
      ∀ target, Steps p.tables e below (B.U.setTop { g with pc := g.pc + 3, stack := v.toList ++ rest }) target → Steps p.tables e below (T.setTop g) target) ∨
    (∃ (q : Addr) (vm₁ : Vm) (B : Pt), s.WarmedH vm₁ ∧ Stand p l e R s m args below meth c B.U B.locs B.cells B.slots ∧ PostX ⟨T.setVm vm₁, locs, cells, slots⟩ (Value.ref b :: argsL).toArray q B ∧
      Steps p.tables e below (T.setTop g) ((B.U.setTop { g with stack := rest }).pushFrame (.throwing q))) := by
  obtain ⟨mk, methM, hnamed, hmethM, hstM, habM⟩ := Cond.instanceMethod_spec hinst
  obtain ⟨methM', cM, hmethM', -, -, -, -, -, -, hsigM⟩ := Cond.code_spec hnamed hcode
  cases hmethM.symm.trans hmethM'
  obtain ⟨c2, r2, m2, q1, q2, q3, q4, kP, hkP, hkPi⟩ := Cond.selects_spec hsel
  cases hcls.symm.trans q1
  cases (State.methodFound?_of_named hnamed hy).symm.trans q2
  cases hnamed.symm.trans q3
  have hselP : selectMethod e.platform s.vm cellB.cls mk = .method mk := by rw [Launch.admits_selectMethod X.admits]; exact q4
  obtain ⟨vm₁, X₁, hstep₁⟩ := X.invokevirtual hexec hown hlink hnamed hmethM hstM hkP hkPi hy (a := b) (cell := cellB) hcell
    (fun z h => by rw [h] at hobj; cases hobj) hselP hmethM habM hkP hkPi (g := g) hg (argsL := argsL) (rest := rest) (hlen _ hsigM) hstack hdg
  rcases hK m meth c ⟨T.setVm vm₁, locs, cells, slots⟩ { g with stack := rest } (.invokevirtual index) mk (Value.ref b :: argsL).toArray X₁ hg hsize hdg hW (X₁.named hnamed) (hpre vm₁ X₁.warmed) with ⟨v, B, X', hpost, hsteps⟩ | ⟨q, B, X', hpost, hsteps⟩
  · exact Or.inl ⟨v, vm₁, B, X₁.warmed, X', hpost, fun target h => hstep₁ _ fun acts => by rw [doInvoke_state]; exact hsteps.trans h⟩
  · exact Or.inr ⟨q, vm₁, B, X₁.warmed, X', hpost, hstep₁ _ fun acts => by rw [doInvoke_state]; exact hsteps⟩
theorem vx_callS (X : Stand p l e R s m args below meth c T locs cells slots) (hexec : p.tables.exec = Jvm.exec) {own : String} {index : Nat} {y : MethodName} {bytes : ByteArray} {maxL : Nat} {ret : Option FieldType}
    (hown : s.vm.findClass own = some m.cls) (hlink : (Cond.methodLink own index y).before args s = true) (hstat : (Cond.static y).before args s = true) (hinit : (Cond.initialized y.cls).before args s = true)
    (hcode : (Cond.code y bytes maxL ret).before args s = true) (hy : y.cls ≠ "java/lang/invoke/MethodHandle" ∧ y.cls ≠ "java/lang/invoke/VarHandle")
    {W9 : Nat} {Pre : Pt → Array Value → Prop} {Post : Pt → Array Value → Option Value → Pt → Prop} {PostX : Pt → Array Value → Addr → Pt → Prop} (hK : vx_Back l R p e below s args y 3 W9 Pre Post PostX)
    {g : JFrame} (hg : g.method = m) (hsize : g.locals.size = c.maxLocals) {argsL rest : List Value} (hlen : ∀ sig, parseMethodDescriptor y.desc = some sig → argsL.length = sig.parameters.length)
    (hstack : g.stack = argsL.reverse ++ rest) (hW : 2 * g.monitorRoom + (rest.map fun v => v.category).sum ≤ W9) (hdg : decode c.code g.pc = .ok (.invokestatic index, 3))
    (hpre : ∀ vm₁, s.WarmedH vm₁ → Pre ⟨T.setVm vm₁, locs, cells, slots⟩ argsL.toArray) :
    (∃ (v : Option Value) (vm₁ : Vm) (B : Pt), s.WarmedH vm₁ ∧ Stand p l e R s m args below meth c B.U B.locs B.cells B.slots ∧ Post ⟨T.setVm vm₁, locs, cells, slots⟩ argsL.toArray v B ∧
      ∀ target, Steps p.tables e below (B.U.setTop { g with pc := g.pc + 3, stack := v.toList ++ rest }) target → Steps p.tables e below (T.setTop g) target) ∨
    (∃ (q : Addr) (vm₁ : Vm) (B : Pt), s.WarmedH vm₁ ∧ Stand p l e R s m args below meth c B.U B.locs B.cells B.slots ∧ PostX ⟨T.setVm vm₁, locs, cells, slots⟩ argsL.toArray q B ∧
      Steps p.tables e below (T.setTop g) ((B.U.setTop { g with stack := rest }).pushFrame (.throwing q))) := by
  obtain ⟨mk, hnamed⟩ := Cond.code_named hcode
  obtain ⟨methM, cM, hmethM, -, -, -, -, -, -, hsigM⟩ := Cond.code_spec hnamed hcode
  have hstatic : methM.isStatic = true := Cond.static_spec hnamed hmethM hstat
  obtain ⟨kP, hkP, -⟩ := className_of_methodNamed hnamed
  have hinitP : kP.init = .initialized := Cond.initialized_spec (findClass_of_methodNamed hnamed) hkP hinit
  obtain ⟨vm₁, X₁, hstep₁⟩ := X.invokestatic hexec hown hlink hnamed hmethM hstatic hkP hinitP hy (g := g) hg (argsL := argsL) (rest := rest) (hlen _ hsigM) hstack hdg
  rcases hK m meth c ⟨T.setVm vm₁, locs, cells, slots⟩ { g with stack := rest } (.invokestatic index) mk argsL.toArray X₁ hg hsize hdg hW (X₁.named hnamed) (hpre vm₁ X₁.warmed) with ⟨v, B, X', hpost, hsteps⟩ | ⟨q, B, X', hpost, hsteps⟩
  · exact Or.inl ⟨v, vm₁, B, X₁.warmed, X', hpost, fun target h => hstep₁ _ fun acts => by rw [doInvoke_state]; exact hsteps.trans h⟩
  · exact Or.inr ⟨q, vm₁, B, X₁.warmed, X', hpost, hstep₁ _ fun acts => by rw [doInvoke_state]; exact hsteps⟩
end Calls
theorem vx_cls {s : State} {T : State} {vm₁ : Vm} {E : String} {k : ClassId} (hW : s.WarmedH vm₁) (h : (T.setVm vm₁).vm.findClass E = some k) : s.vm.findClass E = some k := by
  have h1 : vm₁.findClass E = some k := h
  rw [hW.alike.findClass] at h1
  exact h1
/-- the method's frame g, with q thrown over it -/
def vx_W (p : Program) (l : Launch) (e : Env) (R : Room) (s : State) (m : MethodId) (args : Array Value) (below : List Frame) (meth : Method) (c : Code) (H : Heap) (locs : List Loc) (cells slots : Nat) (Q : State → Prop) (g : JFrame) (q : Addr) : Prop :=
  ∀ T : State, T.heap = H → Stand p l e R s m args below meth c T locs cells slots → ∃ t, Steps p.tables e below ((T.setTop g).pushFrame (.throwing q)) t ∧ Q t
def vx_Run (p : Program) (l : Launch) (e : Env) (R : Room) (s : State) (m : MethodId) (args : Array Value) (below : List Frame) (meth : Method) (c : Code) (H : Heap) (locs : List Loc) (cells slots mc ms : Nat) (g : JFrame) (rest : List Value) (Qa : State → Outcome → State → Prop) (XC : String → State → State → Prop) (free : Addr → Prop) : Prop :=
  ∀ T : State, T.heap = H → Stand p l e R s m args below meth c T locs cells slots →
    (∃ (v : Option Value) (st₀ t T' : State) (L : List Loc), st₀.heap = H ∧ Stand p l e R s m args below meth c T' (locs ++ L) (cells + mc) (slots + ms) ∧ (∀ q ∈ L, free q.base) ∧ T'.heap = t.heap ∧ T'.vm = t.vm ∧ Qa st₀ (.returned v) t ∧
      Goes p e below T g T' { g with pc := g.pc + 3, stack := v.toList ++ rest }) ∨
    (∃ (q : Addr) (st₀ t T' : State) (L : List Loc) (E : String) (ce : Cell), st₀.heap = H ∧ Stand p l e R s m args below meth c T' (locs ++ L) (cells + mc) (slots + ms) ∧ (∀ z ∈ L, free z.base) ∧ T'.heap = t.heap ∧ T'.vm = t.vm ∧ XC E st₀ t ∧ t.heap[q]? = some ce ∧ ce.vm = .none ∧ s.vm.findClass E = some ce.cls ∧
      Steps p.tables e below (T.setTop g) ((T'.setTop { g with stack := rest }).pushFrame (.throwing q)))
def vx_X {S : Type} (px : S → Prop) (B : String → S → State → Prop) (A : Nat → Prop) : String → State → State → Prop := fun E st t => ∃ u : S, px u ∧ B E u t ∧ va_F A st t
section Runs
variable {p : Program} {l : Launch} {e : Env} {R : Room} {s : State} {m : MethodId} {args : Array Value} {below : List Frame} {meth : Method} {c : Code} {H : Heap} {locs : List Loc} {cells slots : Nat}
variable {y : MethodName} {bytes cc : ByteArray} {maxL nL mc ms n index : Nat} {ret : Option FieldType} {ws : List Cond} {rm : Room} {Pc : Array Value → State → Prop} {Qc : Array Value → State → Outcome → State → Prop} {XC : String → State → State → Prop} {free : Addr → Prop} {Ts : List Cond} {own C : String} {b : Addr} {As rest : List Value} {g : JFrame}
theorem vx_callBack (cb : CallB R s args own index y bytes maxL ret ws rm mc ms n) (hM : vx_Met l y ws rm Pc Qc XC mc ms free) (hbl : FrameBlind Pc) : vx_Back l R p e below s args y 3 8 (PreOf R mc ms Pc) (PostOf Qc mc ms free) (vx_Post XC mc ms free) := by
  obtain ⟨hrc, hrs, hfr, hlo, hws, hcw, -, hini, -⟩ := cb
  exact vx_back (bytes := bytes) (maxL := maxL) (ret := ret) hM hbl hrc hrs hfr hlo hws hcw (fun a' U hW => word_at hW (Or.inl (by first | rfl | simp [Cond.onTables, Cond.keeps, Cond.steady])) hini)
theorem vx_runV (S : CallFix p m c cc nL s args Ts own) (hM : vx_Met l y ws rm Pc Qc XC mc ms free) (cw : CallW R s args own C index y bytes maxL ret ws rm mc ms n) (hp : PreV s H C b Pc As)
    (hg : g.method = m) (hn : As.length = n) (hsize : g.locals.size = nL) (hstack : g.stack = As.reverse ++ .ref b :: rest) (hW : 2 * g.monitorRoom + (rest.map fun v => v.category).sum ≤ 8) (hdg : decode cc g.pc = .ok (.invokevirtual index, 3)) (hf : cells + mc ≤ R.cells ∧ slots + ms ≤ R.slots) :
    vx_Run p l e R s m args below meth c H locs cells slots mc ms g rest (Qc (Value.ref b :: As).toArray) XC free := by
  have hK : vx_Back l R p e below s args y 3 8 (PreOf R mc ms Pc) (PostOf Qc mc ms free) (vx_Post XC mc ms free) := vx_callBack cw.1 hM hp.1
  obtain ⟨⟨-, -, -, -, -, -, hcode, -, hy, hlen, hl⟩, hin, hse⟩ := cw
  obtain ⟨hx, hb, hml, ho, -⟩ := S
  obtain ⟨-, ⟨cellB, hcB, hoB, hclB⟩, hPc⟩ := hp
  intro T hT X
  rcases vx_callV X hx (C := C) (bytes := bytes) (maxL := maxL) (ret := ret) ho hl hin hse hcode hy hK (by rw [hT]; exact hcB) hoB hclB hg (hsize.trans hml.symm) (argsL := As) (rest := rest) (fun sig h => hn.trans (hlen sig h)) hstack hW (by rw [hb]; exact hdg)
    (fun vm₁ hW₁ => ⟨hf.1, hf.2, hPc (T.setVm vm₁) hT hW₁⟩) with ⟨v, vm₁, ⟨U', l2, c2, s2⟩, hW₁, X', ⟨g', mk, t, L, e1, e2, hq, h1, hL, h2, h3⟩, st⟩ | ⟨q, vm₁, ⟨U', l2, c2, s2⟩, hW₁, X', ⟨g', mk, t, L, E, ce, e1, e2, hq, hce, hcv, hcl, h1, hL, h2, h3⟩, st⟩
  · dsimp only [Pt.U, Pt.locs, Pt.cells, Pt.slots] at X' e1 e2 h1 h2 h3 st
    subst h1; subst h2; subst h3
    exact Or.inl ⟨v, (T.setVm vm₁).calling g' mk (Value.ref b :: As).toArray, t, U', L, hT, X', hL, e1, e2, hq, st⟩
  · dsimp only [Pt.U, Pt.locs, Pt.cells, Pt.slots] at X' e1 e2 h1 h2 h3 st hcl
    subst h1; subst h2; subst h3
    exact Or.inr ⟨q, (T.setVm vm₁).calling g' mk (Value.ref b :: As).toArray, t, U', L, E, ce, hT, X', hL, e1, e2, hq, hce, hcv, vx_cls hW₁ hcl, st⟩
theorem vx_runS (S : CallFix p m c cc nL s args Ts own) (hM : vx_Met l y ws rm Pc Qc XC mc ms free) (cw : CallB R s args own index y bytes maxL ret ws rm mc ms n ∧ (Cond.static y).before args s = true) (hp : PreS s H Pc As)
    (hg : g.method = m) (hn : As.length = n) (hsize : g.locals.size = nL) (hstack : g.stack = As.reverse ++ rest) (hW : 2 * g.monitorRoom + (rest.map fun v => v.category).sum ≤ 8) (hdg : decode cc g.pc = .ok (.invokestatic index, 3)) (hf : cells + mc ≤ R.cells ∧ slots + ms ≤ R.slots) :
    vx_Run p l e R s m args below meth c H locs cells slots mc ms g rest (Qc As.toArray) XC free := by
  have hK : vx_Back l R p e below s args y 3 8 (PreOf R mc ms Pc) (PostOf Qc mc ms free) (vx_Post XC mc ms free) := vx_callBack cw.1 hM hp.1
  obtain ⟨⟨-, -, -, -, -, -, hcode, hini, hy, hlen, hl⟩, hstt⟩ := cw
  obtain ⟨hx, hb, hml, ho, -⟩ := S
  intro T hT X
  rcases vx_callS X hx (bytes := bytes) (maxL := maxL) (ret := ret) ho hl hstt hini hcode hy hK hg (hsize.trans hml.symm) (argsL := As) (rest := rest) (fun sig h => hn.trans (hlen sig h)) hstack hW (by rw [hb]; exact hdg)
    (fun vm₁ hW₁ => ⟨hf.1, hf.2, hp.2 (T.setVm vm₁) hT hW₁⟩) with ⟨v, vm₁, ⟨U', l2, c2, s2⟩, hW₁, X', ⟨g', mk, t, L, e1, e2, hq, h1, hL, h2, h3⟩, st⟩ | ⟨q, vm₁, ⟨U', l2, c2, s2⟩, hW₁, X', ⟨g', mk, t, L, E, ce, e1, e2, hq, hce, hcv, hcl, h1, hL, h2, h3⟩, st⟩
  · dsimp only [Pt.U, Pt.locs, Pt.cells, Pt.slots] at X' e1 e2 h1 h2 h3 st
    subst h1; subst h2; subst h3
    exact Or.inl ⟨v, (T.setVm vm₁).calling g' mk As.toArray, t, U', L, hT, X', hL, e1, e2, hq, st⟩
  · dsimp only [Pt.U, Pt.locs, Pt.cells, Pt.slots] at X' e1 e2 h1 h2 h3 st hcl
    subst h1; subst h2; subst h3
    exact Or.inr ⟨q, (T.setVm vm₁).calling g' mk As.toArray, t, U', L, E, ce, hT, X', hL, e1, e2, hq, hce, hcv, vx_cls hW₁ hcl, st⟩
end Runs
section Rows
variable {p : Program} {l : Launch} {e : Env} {R : Room} {s : State} {m : MethodId} {args : Array Value} {below : List Frame} {meth : Method} {c : Code} {H : Heap} {locs : List Loc} {cells slots : Nat} {Q : State → Prop}
variable {mc ms : Nat} {free : Addr → Prop} {A0 A1 : Nat → Prop} {H0 : Heap} {a : Array Value} {pc : Nat} {ls : Array Slot} {st0 rest : List Value}
theorem vx_keep {st₀ t T' : State} {L : List Loc} (h0 : st₀.heap = H) (e1 : T'.heap = t.heap) (hS : va_S A0 H0 H locs) (hA : ∀ q, q < H.size → A1 q → A0 q) (hf : ∀ q, free q → A0 q) (hL : ∀ q ∈ L, free q.base) (hF : va_F A1 st₀ t) :
    H.size ≤ T'.heap.size ∧ (∀ q : Nat, q < H.size → ¬ A1 q → T'.heap[q]? = H[q]?) ∧ va_S A0 H0 T'.heap (locs ++ L) := by
  obtain ⟨hz, hk⟩ := hF
  rw [h0] at hz hk
  exact ⟨by rw [e1]; exact hz, fun q h1 h2 => by rw [e1]; exact hk q h1 h2,
    ⟨Nat.le_trans hS.1 (by rw [e1]; exact hz), fun q h1 h2 => by rw [e1, hk q (Nat.lt_of_lt_of_le h1 hS.1) (fun z => h2 (hA q (Nat.lt_of_lt_of_le h1 hS.1) z))]; exact hS.2.1 q h1 h2, fun q hq => by
      rcases List.mem_append.mp hq with h | h
      · exact hS.2.2 q h
      · exact hf _ (hL q h)⟩⟩
theorem vx_calli {S SX : Type} {post : Int32 → S → Prop} {px : SX → Prop} {B : S → State → Prop} {BX : String → SX → State → Prop} {AX : Nat → Prop} (hr : vx_Run p l e R s m args below meth c H locs cells slots mc ms (F0 m pc ls st0) rest (va_Qi post B A1 a) (vx_X px BX AX) free) (hS : va_S A0 H0 H locs) (hA : ∀ q, q < H.size → A1 q → A0 q) (hf : ∀ q, free q → A0 q) (hAX : ∀ q, q < H.size → AX q → A0 q)
    (kx : ∀ (E : String) (ce : Cell) (q9 : Addr) (u : SX) (t : State) (H1 : Heap) (locs1 : List Loc), t.heap = H1 → s.vm.Alike t.vm → px u → BX E u t → H.size ≤ H1.size → (∀ q : Nat, q < H.size → ¬ AX q → H1[q]? = H[q]?) → va_S A0 H0 H1 locs1 → H1[q9]? = some ce → ce.vm = .none → s.vm.findClass E = some ce.cls → vx_W p l e R s m args below meth c H1 locs1 (cells + mc) (slots + ms) Q (F0 m pc ls rest) q9)
    (kk : ∀ (r : Int32) (u : S) (t : State) (H1 : Heap) (locs1 : List Loc), t.heap = H1 → s.vm.Alike t.vm → post r u → B u t → H.size ≤ H1.size → (∀ q : Nat, q < H.size → ¬ A1 q → H1[q]? = H[q]?) → va_S A0 H0 H1 locs1 → W p l e R s m args below meth c H1 locs1 (cells + mc) (slots + ms) Q (F0 m (pc + 3) ls (.int r :: rest))) : W p l e R s m args below meth c H locs cells slots Q (F0 m pc ls st0) := by
  intro T hT X
  rcases hr T hT X with ⟨v, st₀, t, T', L, h0, X', hL, e1, e2, ⟨⟨r, u, hv, hp, hb⟩, hF⟩, st⟩ | ⟨q, st₀, t, T', L, E, ce, h0, X', hL, e1, e2, ⟨u, hp, hb, hF⟩, hce, hcv, hcl, st⟩
  · cases hv
    obtain ⟨k1, k2, k3⟩ := vx_keep h0 e1 hS hA hf hL hF
    obtain ⟨t2, a1, b1⟩ := kk r u t T'.heap (locs ++ L) e1.symm (by rw [← e2]; exact X'.warmed.alike) hp hb k1 k2 k3 T' rfl X'
    exact ⟨t2, st t2 a1, b1⟩
  · obtain ⟨k1, k2, k3⟩ := vx_keep h0 e1 hS hAX hf hL hF
    obtain ⟨t2, a1, b1⟩ := kx E ce q u t T'.heap (locs ++ L) e1.symm (by rw [← e2]; exact X'.warmed.alike) hp hb k1 k2 k3 (by rw [e1]; exact hce) hcv hcl T' rfl X'
    exact ⟨t2, st.trans a1, b1⟩
theorem vx_calll {S SX : Type} {post : Int64 → S → Prop} {px : SX → Prop} {B : S → State → Prop} {BX : String → SX → State → Prop} {AX : Nat → Prop} (hr : vx_Run p l e R s m args below meth c H locs cells slots mc ms (F0 m pc ls st0) rest (va_Ql post B A1 a) (vx_X px BX AX) free) (hS : va_S A0 H0 H locs) (hA : ∀ q, q < H.size → A1 q → A0 q) (hf : ∀ q, free q → A0 q) (hAX : ∀ q, q < H.size → AX q → A0 q)
    (kx : ∀ (E : String) (ce : Cell) (q9 : Addr) (u : SX) (t : State) (H1 : Heap) (locs1 : List Loc), t.heap = H1 → s.vm.Alike t.vm → px u → BX E u t → H.size ≤ H1.size → (∀ q : Nat, q < H.size → ¬ AX q → H1[q]? = H[q]?) → va_S A0 H0 H1 locs1 → H1[q9]? = some ce → ce.vm = .none → s.vm.findClass E = some ce.cls → vx_W p l e R s m args below meth c H1 locs1 (cells + mc) (slots + ms) Q (F0 m pc ls rest) q9)
    (kk : ∀ (r : Int64) (u : S) (t : State) (H1 : Heap) (locs1 : List Loc), t.heap = H1 → s.vm.Alike t.vm → post r u → B u t → H.size ≤ H1.size → (∀ q : Nat, q < H.size → ¬ A1 q → H1[q]? = H[q]?) → va_S A0 H0 H1 locs1 → W p l e R s m args below meth c H1 locs1 (cells + mc) (slots + ms) Q (F0 m (pc + 3) ls (.long r :: rest))) : W p l e R s m args below meth c H locs cells slots Q (F0 m pc ls st0) := by
  intro T hT X
  rcases hr T hT X with ⟨v, st₀, t, T', L, h0, X', hL, e1, e2, ⟨⟨r, u, hv, hp, hb⟩, hF⟩, st⟩ | ⟨q, st₀, t, T', L, E, ce, h0, X', hL, e1, e2, ⟨u, hp, hb, hF⟩, hce, hcv, hcl, st⟩
  · cases hv
    obtain ⟨k1, k2, k3⟩ := vx_keep h0 e1 hS hA hf hL hF
    obtain ⟨t2, a1, b1⟩ := kk r u t T'.heap (locs ++ L) e1.symm (by rw [← e2]; exact X'.warmed.alike) hp hb k1 k2 k3 T' rfl X'
    exact ⟨t2, st t2 a1, b1⟩
  · obtain ⟨k1, k2, k3⟩ := vx_keep h0 e1 hS hAX hf hL hF
    obtain ⟨t2, a1, b1⟩ := kx E ce q u t T'.heap (locs ++ L) e1.symm (by rw [← e2]; exact X'.warmed.alike) hp hb k1 k2 k3 (by rw [e1]; exact hce) hcv hcl T' rfl X'
    exact ⟨t2, st.trans a1, b1⟩
theorem vx_callf {S SX : Type} {post : UInt32 → S → Prop} {px : SX → Prop} {B : S → State → Prop} {BX : String → SX → State → Prop} {AX : Nat → Prop} (hr : vx_Run p l e R s m args below meth c H locs cells slots mc ms (F0 m pc ls st0) rest (va_Qf post B A1 a) (vx_X px BX AX) free) (hS : va_S A0 H0 H locs) (hA : ∀ q, q < H.size → A1 q → A0 q) (hf : ∀ q, free q → A0 q) (hAX : ∀ q, q < H.size → AX q → A0 q)
    (kx : ∀ (E : String) (ce : Cell) (q9 : Addr) (u : SX) (t : State) (H1 : Heap) (locs1 : List Loc), t.heap = H1 → s.vm.Alike t.vm → px u → BX E u t → H.size ≤ H1.size → (∀ q : Nat, q < H.size → ¬ AX q → H1[q]? = H[q]?) → va_S A0 H0 H1 locs1 → H1[q9]? = some ce → ce.vm = .none → s.vm.findClass E = some ce.cls → vx_W p l e R s m args below meth c H1 locs1 (cells + mc) (slots + ms) Q (F0 m pc ls rest) q9)
    (kk : ∀ (r : UInt32) (u : S) (t : State) (H1 : Heap) (locs1 : List Loc), t.heap = H1 → s.vm.Alike t.vm → post r u → B u t → H.size ≤ H1.size → (∀ q : Nat, q < H.size → ¬ A1 q → H1[q]? = H[q]?) → va_S A0 H0 H1 locs1 → W p l e R s m args below meth c H1 locs1 (cells + mc) (slots + ms) Q (F0 m (pc + 3) ls (.float r :: rest))) : W p l e R s m args below meth c H locs cells slots Q (F0 m pc ls st0) := by
  intro T hT X
  rcases hr T hT X with ⟨v, st₀, t, T', L, h0, X', hL, e1, e2, ⟨⟨r, u, hv, hp, hb⟩, hF⟩, st⟩ | ⟨q, st₀, t, T', L, E, ce, h0, X', hL, e1, e2, ⟨u, hp, hb, hF⟩, hce, hcv, hcl, st⟩
  · cases hv
    obtain ⟨k1, k2, k3⟩ := vx_keep h0 e1 hS hA hf hL hF
    obtain ⟨t2, a1, b1⟩ := kk r u t T'.heap (locs ++ L) e1.symm (by rw [← e2]; exact X'.warmed.alike) hp hb k1 k2 k3 T' rfl X'
    exact ⟨t2, st t2 a1, b1⟩
  · obtain ⟨k1, k2, k3⟩ := vx_keep h0 e1 hS hAX hf hL hF
    obtain ⟨t2, a1, b1⟩ := kx E ce q u t T'.heap (locs ++ L) e1.symm (by rw [← e2]; exact X'.warmed.alike) hp hb k1 k2 k3 (by rw [e1]; exact hce) hcv hcl T' rfl X'
    exact ⟨t2, st.trans a1, b1⟩
theorem vx_calld {S SX : Type} {post : UInt64 → S → Prop} {px : SX → Prop} {B : S → State → Prop} {BX : String → SX → State → Prop} {AX : Nat → Prop} (hr : vx_Run p l e R s m args below meth c H locs cells slots mc ms (F0 m pc ls st0) rest (va_Qd post B A1 a) (vx_X px BX AX) free) (hS : va_S A0 H0 H locs) (hA : ∀ q, q < H.size → A1 q → A0 q) (hf : ∀ q, free q → A0 q) (hAX : ∀ q, q < H.size → AX q → A0 q)
    (kx : ∀ (E : String) (ce : Cell) (q9 : Addr) (u : SX) (t : State) (H1 : Heap) (locs1 : List Loc), t.heap = H1 → s.vm.Alike t.vm → px u → BX E u t → H.size ≤ H1.size → (∀ q : Nat, q < H.size → ¬ AX q → H1[q]? = H[q]?) → va_S A0 H0 H1 locs1 → H1[q9]? = some ce → ce.vm = .none → s.vm.findClass E = some ce.cls → vx_W p l e R s m args below meth c H1 locs1 (cells + mc) (slots + ms) Q (F0 m pc ls rest) q9)
    (kk : ∀ (r : UInt64) (u : S) (t : State) (H1 : Heap) (locs1 : List Loc), t.heap = H1 → s.vm.Alike t.vm → post r u → B u t → H.size ≤ H1.size → (∀ q : Nat, q < H.size → ¬ A1 q → H1[q]? = H[q]?) → va_S A0 H0 H1 locs1 → W p l e R s m args below meth c H1 locs1 (cells + mc) (slots + ms) Q (F0 m (pc + 3) ls (.double r :: rest))) : W p l e R s m args below meth c H locs cells slots Q (F0 m pc ls st0) := by
  intro T hT X
  rcases hr T hT X with ⟨v, st₀, t, T', L, h0, X', hL, e1, e2, ⟨⟨r, u, hv, hp, hb⟩, hF⟩, st⟩ | ⟨q, st₀, t, T', L, E, ce, h0, X', hL, e1, e2, ⟨u, hp, hb, hF⟩, hce, hcv, hcl, st⟩
  · cases hv
    obtain ⟨k1, k2, k3⟩ := vx_keep h0 e1 hS hA hf hL hF
    obtain ⟨t2, a1, b1⟩ := kk r u t T'.heap (locs ++ L) e1.symm (by rw [← e2]; exact X'.warmed.alike) hp hb k1 k2 k3 T' rfl X'
    exact ⟨t2, st t2 a1, b1⟩
  · obtain ⟨k1, k2, k3⟩ := vx_keep h0 e1 hS hAX hf hL hF
    obtain ⟨t2, a1, b1⟩ := kx E ce q u t T'.heap (locs ++ L) e1.symm (by rw [← e2]; exact X'.warmed.alike) hp hb k1 k2 k3 (by rw [e1]; exact hce) hcv hcl T' rfl X'
    exact ⟨t2, st.trans a1, b1⟩
theorem vx_callv {S SX : Type} {post : S → Prop} {px : SX → Prop} {B : S → State → Prop} {BX : String → SX → State → Prop} {AX : Nat → Prop} (hr : vx_Run p l e R s m args below meth c H locs cells slots mc ms (F0 m pc ls st0) rest (va_Qv post B A1 a) (vx_X px BX AX) free) (hS : va_S A0 H0 H locs) (hA : ∀ q, q < H.size → A1 q → A0 q) (hf : ∀ q, free q → A0 q) (hAX : ∀ q, q < H.size → AX q → A0 q)
    (kx : ∀ (E : String) (ce : Cell) (q9 : Addr) (u : SX) (t : State) (H1 : Heap) (locs1 : List Loc), t.heap = H1 → s.vm.Alike t.vm → px u → BX E u t → H.size ≤ H1.size → (∀ q : Nat, q < H.size → ¬ AX q → H1[q]? = H[q]?) → va_S A0 H0 H1 locs1 → H1[q9]? = some ce → ce.vm = .none → s.vm.findClass E = some ce.cls → vx_W p l e R s m args below meth c H1 locs1 (cells + mc) (slots + ms) Q (F0 m pc ls rest) q9)
    (kk : ∀ (u : S) (t : State) (H1 : Heap) (locs1 : List Loc), t.heap = H1 → s.vm.Alike t.vm → post u → B u t → H.size ≤ H1.size → (∀ q : Nat, q < H.size → ¬ A1 q → H1[q]? = H[q]?) → va_S A0 H0 H1 locs1 → W p l e R s m args below meth c H1 locs1 (cells + mc) (slots + ms) Q (F0 m (pc + 3) ls (rest))) : W p l e R s m args below meth c H locs cells slots Q (F0 m pc ls st0) := by
  intro T hT X
  rcases hr T hT X with ⟨v, st₀, t, T', L, h0, X', hL, e1, e2, ⟨⟨u, hv, hp, hb⟩, hF⟩, st⟩ | ⟨q, st₀, t, T', L, E, ce, h0, X', hL, e1, e2, ⟨u, hp, hb, hF⟩, hce, hcv, hcl, st⟩
  · cases hv
    obtain ⟨k1, k2, k3⟩ := vx_keep h0 e1 hS hA hf hL hF
    obtain ⟨t2, a1, b1⟩ := kk u t T'.heap (locs ++ L) e1.symm (by rw [← e2]; exact X'.warmed.alike) hp hb k1 k2 k3 T' rfl X'
    exact ⟨t2, st t2 a1, b1⟩
  · obtain ⟨k1, k2, k3⟩ := vx_keep h0 e1 hS hAX hf hL hF
    obtain ⟨t2, a1, b1⟩ := kx E ce q u t T'.heap (locs ++ L) e1.symm (by rw [← e2]; exact X'.warmed.alike) hp hb k1 k2 k3 (by rw [e1]; exact hce) hcv hcl T' rfl X'
    exact ⟨t2, st.trans a1, b1⟩
/-- caught by the row x of this method's table; the rows ahead don't take it -/
theorem vx_catch {own name : String} {E : String} {ce : Cell} {q : Addr} (hown : s.vm.findClass own = some m.cls) (pre : List ExceptionTableEntry) (x : ExceptionTableEntry) (suf : List ExceptionTableEntry) (hsplit : c.exceptionTable.toList = pre ++ x :: suf)
    (hpass : ∀ z ∈ pre, covers z pc = false ∨ (z.catchType ≠ 0 ∧ ∃ nm : String, (Cond.classLink own z.catchType nm).before args s = true ∧ va_Nc E nm s)) (hx : covers x pc = true) (h0 : x.catchType ≠ 0)
    (hlink : (Cond.classLink own x.catchType name).before args s = true) (hcast : (Cond.castable E name).before args s = true) (hcell : H[q]? = some ce) (hv : ce.vm = .none) (hcl : s.vm.findClass E = some ce.cls)
    (kk : W p l e R s m args below meth c H locs cells slots Q (F0 m x.handlerPc ls [.ref q])) : vx_W p l e R s m args below meth c H locs cells slots Q (F0 m pc ls rest) q := by
  intro T hT X
  have hpl : e.platform.magicAccessors = ({} : Platform).magicAccessors := by rw [X.admits.platform]
  obtain ⟨c3, c4, hc3, hc4, hasg⟩ := Cond.castable_spec hcast
  cases Option.some.inj (hc3.symm.trans hcl)
  obtain ⟨c5, hc5, hcl5⟩ := Cond.classLink_spec hown hlink e.platform hpl
  cases Option.some.inj (hc4.symm.trans hc5)
  obtain ⟨vm', X', st⟩ := X.thenCaughtThrough q (g := F0 m pc ls rest) rfl (Steps.refl _) (by rw [hT]; exact hcell) (by rw [hv]; rfl) (by obtain ⟨k9, h9, -⟩ := Vm.findClass_spec hcl; exact ⟨k9, h9⟩) pre x suf hsplit
    (fun z hz => by
      rcases hpass z hz with h | ⟨hz0, nm, hl1, hn1⟩
      · exact Or.inl h
      · obtain ⟨c6, hc6, hcl6⟩ := Cond.classLink_spec hown hl1 e.platform hpl
        obtain ⟨a8, b8, h1, h2, h3⟩ := hn1
        cases Option.some.inj (h1.symm.trans hcl)
        cases Option.some.inj (h2.symm.trans hc6)
        exact Or.inr ⟨hz0, _, hcl6, h3⟩) hx (Or.inr ⟨h0, c4, hcl5, hasg⟩)
  obtain ⟨t, a1, b1⟩ := kk (T.setVm vm') hT X'
  exact ⟨t, st.trans a1, b1⟩
end Rows
section Ends
variable {p : Program} {l : Launch} {e : Env} {R : Room} {s : State} {m : MethodId} {args : Array Value} {below : List Frame} {meth : Method} {c : Code} {H : Heap} {locs : List Loc} {cells slots : Nat} {Q : State → Prop}
variable {mc ms : Nat} {free : Addr → Prop} {A0 A1 : Nat → Prop} {H0 : Heap} {a : Array Value} {ls : Array Slot} {st0 rest : List Value}
variable {Qc : Array Value → State → Outcome → State → Prop} {XC : String → State → State → Prop}
/-- what a body that may throw owes at its end -/
def vx_MQ (below : List Frame) (Qc : Array Value → State → Outcome → State → Prop) (XC : String → State → State → Prop) (a : Array Value) (s : State) (mc ms : Nat) (free : Addr → Prop) : State → Prop := fun t =>
  ∃ o, t.status = .running ∧ Ended t below o ∧ vx_Q Qc XC mc ms free a s o t
theorem vx_ret {g : JFrame} {mc ms : Nat} (k : W p l e R s m args below meth c H locs cells slots (MQ below Qc args s mc ms free) g) : W p l e R s m args below meth c H locs cells slots (vx_MQ below Qc XC args s mc ms free) g := by
  intro T hT X
  obtain ⟨t, a1, o, b1, b2, b3, b4⟩ := k T hT X
  exact ⟨t, a1, o, b1, b2, Or.inl ⟨b3, b4⟩⟩
/-- not caught here: it goes on to the caller -/
theorem vx_widen {g : JFrame} {q : Addr} {k n : Nat} (h1 : cells ≤ k) (h2 : slots ≤ n) (kk : vx_W p l e R s m args below meth c H locs k n Q g q) : vx_W p l e R s m args below meth c H locs cells slots Q g q := fun T hT X => kk T hT (stand_widen X h1 h2)
theorem vx_out {pc : Nat} {E : String} {ce : Cell} {q : Addr} {mc ms : Nat} (hout : ∀ x ∈ c.exceptionTable.toList, covers x pc = false) (hlocks : meth.locks = false) (hcell : H[q]? = some ce) (hv : ce.vm = .none) (hcl : s.vm.findClass E = some ce.cls)
    (hx : ∀ t : State, t.heap = H → s.vm.Alike t.vm → XC E s t) (hf : ∀ z ∈ locs, free z.base) (hc : cells ≤ mc) (hs : slots ≤ ms) :
    vx_W p l e R s m args below meth c H locs cells slots (vx_MQ below Qc XC args s mc ms free) (F0 m pc ls rest) q := by
  intro T hT X
  obtain ⟨st1, hrun, hend, hW, hsm⟩ := X.leaveThrown q (g := F0 m pc ls rest) rfl rfl rfl hout hlocks
  have hcell9 : (T.setFrames (.throwing q :: below)).heap[q]? = some ce := by
    show T.heap[q]? = some ce
    rw [hT]; exact hcell
  exact ⟨_, st1, .threw q, hrun, hend, Or.inr ⟨q, rfl, E, ce, locs, hx _ hT hW.alike, hcell9, hv, hcl, hW, hsm.mono hc hs, hf⟩⟩
theorem vx_frame {U : State} {k n : Nat} (h : s.sameButNew ({ U with vm := s.vm } : State) locs k n) : s.heap.size ≤ U.heap.size ∧ ∀ q : Nat, q < s.heap.size → (∀ z ∈ locs, z.base ≠ q) → U.heap[q]? = s.heap[q]? := by
  obtain ⟨-, h2, -, -, -, h6⟩ := h
  refine ⟨h2, fun q hq hz => ?_⟩
  obtain ⟨c9, e1, e2, e3, e4⟩ := h6 q _ (Array.getElem?_eq_getElem hq)
  have hs : c9.slots = (s.heap[q]).slots := Array.ext_getElem? fun i => e4 i fun hm => hz _ hm rfl
  have h9 : c9 = s.heap[q] := by
    rw [hs] at e2
    exact e2
  have e5 : U.heap[q]? = some c9 := e1
  rw [e5, h9, Array.getElem?_eq_getElem hq]
/-- the words of a throw but the four that speak of the heap -/
def vx_no (w : Cond) : Bool := decide (w ≠ .isRef (.static Bundle.tN "UNASSIGNED_STACK" Bundle.steD)) && decide (w ≠ .isRef (.static Bundle.tN "SUPPRESSED_SENTINEL" Bundle.listD)) && decide (w ≠ .laysStatic Bundle.tN "UNASSIGNED_STACK" Bundle.steD) && decide (w ≠ .laysStatic Bundle.tN "SUPPRESSED_SENTINEL" Bundle.listD)
def vx_at0 (own : String) (ic : Nat) (X : String) (names : List String) : List Cond := (Bundle.ownAtoms0 own ic X names).filter vx_no
def vx_atS (own : String) (ic : Nat) (X : String) (names : List String) : List Cond := (Bundle.ownAtoms own ic X names).filter vx_no
/-- a word that the tables alone decide, or a good one -/
def vx_ot (w : Cond) : Bool := w.onTables || goodWord w
theorem vx_ot_at {args a' : Array Value} {s U : State} {w : Cond} (hW : s.WarmedH U.vm) (hvm : s.vm = U.vm) (hg : vx_ot w = true) (h : w.before args s = true) : w.before a' U = true := by
  simp only [vx_ot, Bool.or_eq_true] at hg
  rcases hg with hg | hg
  · exact va_tabs hg hvm h
  · exact word_at hW (good_of_word hg) h
/-- a list's words: the good ones out of the method's own list, the others by premises of their own -/
theorem vx_hat {args : Array Value} {s : State} {L B : List Cond} (h1 : ∀ w ∈ L.filter goodWord, w.before args s = true) (h2 : ∀ w ∈ L.filter (fun w => !goodWord w), w ∈ B) (h3 : ∀ w ∈ B, w.before args s = true) : ∀ w ∈ L, w.before args s = true := by
  intro w hw
  by_cases g : goodWord w = true
  · exact h1 w (List.mem_filter.mpr ⟨hw, g⟩)
  · refine h3 w (h2 w (List.mem_filter.mpr ⟨hw, ?_⟩))
    show (!goodWord w) = true
    cases hgw : goodWord w
    · rfl
    · exact absurd hgw g
theorem vx_c {args : Array Value} {s : State} {w : Cond} {B : List Cond} (h : w.before args s = true) (t : ∀ w ∈ B, w.before args s = true) : ∀ w' ∈ w :: B, w'.before args s = true := fun w' h' => (List.mem_cons.mp h').elim (fun e => by rw [e]; exact h) (t w')
theorem vx_n {args : Array Value} {s : State} : ∀ w ∈ ([] : List Cond), w.before args s = true := fun _ h => nomatch h
theorem vx_own {args : Array Value} {s : State} {L : List Cond} (h1 : ∀ w ∈ L.filter vx_no, w.before args s = true)
    (hU : (Cond.isRef (.static Bundle.tN "UNASSIGNED_STACK" Bundle.steD)).before args s = true) (hN : (Cond.isRef (.static Bundle.tN "SUPPRESSED_SENTINEL" Bundle.listD)).before args s = true)
    (lU : (Cond.laysStatic Bundle.tN "UNASSIGNED_STACK" Bundle.steD).before args s = true) (lN : (Cond.laysStatic Bundle.tN "SUPPRESSED_SENTINEL" Bundle.listD).before args s = true) : ∀ w ∈ L, w.before args s = true := by
  intro w hw
  by_cases e1 : w = .isRef (.static Bundle.tN "UNASSIGNED_STACK" Bundle.steD)
  · rw [e1]; exact hU
  · by_cases e2 : w = .isRef (.static Bundle.tN "SUPPRESSED_SENTINEL" Bundle.listD)
    · rw [e2]; exact hN
    · by_cases e3 : w = .laysStatic Bundle.tN "UNASSIGNED_STACK" Bundle.steD
      · rw [e3]; exact lU
      · by_cases e4 : w = .laysStatic Bundle.tN "SUPPRESSED_SENTINEL" Bundle.listD
        · rw [e4]; exact lN
        · exact h1 w (List.mem_filter.mpr ⟨hw, by unfold vx_no; rw [decide_eq_true e1, decide_eq_true e2, decide_eq_true e3, decide_eq_true e4]; rfl⟩)
/-- where a static field lies, its class's statics cell in H -/
def vx_L (C n d : String) (A : Nat → Prop) (U : State) (H : Heap) : Prop := ∃ (c : ClassId) (k : Class) (i : Nat) (f : Field) (a : Nat) (cell : Cell), U.vm.findClass C = some c ∧ U.fieldFound? C n d = some (c, k, i, f) ∧ f.isStatic = true ∧ k.statics = some a ∧ H[a]? = some cell ∧ cell.vm.isStatics = true ∧ cell.cls = c ∧ f.slot < cell.slots.size ∧ k.staticTypes[f.slot]? = some f.type ∧ ¬ A a
theorem vx_L.moved {C n d : String} {A : Nat → Prop} {u U : State} {H : Heap} (hvm : u.vm.Alike U.vm) (h : vx_L C n d A u H) : vx_L C n d A U H := by
  obtain ⟨c, k, i, f, a, cell, h1, h2, h3, h4, h5, h6, h7, h8, h9, h10⟩ := h
  obtain ⟨k', hi', he⟩ := State.fieldFound?_setVm hvm h2
  exact ⟨c, k', i, f, a, cell, by rw [hvm.findClass]; exact h1, hi', h3, by rw [he]; exact h4, h5, h6, h7, h8, by rw [he]; exact h9, h10⟩
theorem vx_L.kept {C n d : String} {A : Nat → Prop} {U : State} {H H1 : Heap} (h : vx_L C n d A U H) (hq : ∀ a : Nat, a < H.size → ¬ A a → H1[a]? = H[a]?) : vx_L C n d A U H1 := by
  obtain ⟨c, k, i, f, a, cell, h1, h2, h3, h4, h5, h6, h7, h8, h9, h10⟩ := h
  exact ⟨c, k, i, f, a, cell, h1, h2, h3, h4, by rw [hq a (Array.getElem?_eq_some_iff.mp h5).1 h10]; exact h5, h6, h7, h8, h9, h10⟩
theorem vx_L.narrow {C n d : String} {A B : Nat → Prop} {U : State} {H : Heap} (h : vx_L C n d A U H) (hAB : ∀ q, B q → A q) : vx_L C n d B U H := by
  obtain ⟨c, k, i, f, a, cell, h1, h2, h3, h4, h5, h6, h7, h8, h9, h10⟩ := h
  exact ⟨c, k, i, f, a, cell, h1, h2, h3, h4, h5, h6, h7, h8, h9, fun z => h10 (hAB _ z)⟩
theorem vx_L.word {C n d : String} {A : Nat → Prop} {s : State} {args : Array Value} (h : vx_L C n d A s s.heap) : (Cond.laysStatic C n d).before args s = true := by
  obtain ⟨c, k, i, f, a, cell, h1, h2, h3, h4, h5, h6, h7, h8, h9, -⟩ := h
  show (Cond.laysStatic C n d).holds args s none s [] = true
  exact Cond.laysStatic_of h1 h2 h3 h4 h5 h6 h7 h8 h9
/-- .. and what it holds: null or some reference -/
def vx_Zq (C n d : String) (A : Nat → Prop) (U : State) (H : Heap) : Prop := va_Zq C n d A U H ∧ vx_L C n d A U H
theorem vx_Zq.moved {C n d : String} {A : Nat → Prop} {u U : State} {H : Heap} (hvm : u.vm.Alike U.vm) (h : vx_Zq C n d A u H) : vx_Zq C n d A U H := ⟨va_Zq.moved hvm h.1, vx_L.moved hvm h.2⟩
theorem vx_Zq.kept {C n d : String} {A : Nat → Prop} {U : State} {H H1 : Heap} (h : vx_Zq C n d A U H) (hq : ∀ a : Nat, a < H.size → ¬ A a → H1[a]? = H[a]?) : vx_Zq C n d A U H1 := ⟨va_Zq.kept h.1 hq, vx_L.kept h.2 hq⟩
theorem vx_Zq.narrow {C n d : String} {A B : Nat → Prop} {U : State} {H : Heap} (h : vx_Zq C n d A U H) (hAB : ∀ q, B q → A q) : vx_Zq C n d B U H := ⟨va_Zq.narrow h.1 hAB, vx_L.narrow h.2 hAB⟩
theorem vx_Zqof {args : Array Value} {s : State} {C n d : String} {A : Nat → Prop} (hl : (Cond.laysStatic C n d).before args s = true) (hini : (Cond.initialized C).before args s = true) (h : (Cond.isRef (.static C n d)).before args s = true) (hA : ∀ a : Nat, a < s.heap.size → ¬ A a) : vx_Zq C n d A s s.heap := by
  refine ⟨va_Zqof hl hini h hA, ?_⟩
  obtain ⟨c, k, i, f, a, cell, h1, h2, h3, h4, h5, h6, h7, h8, h9⟩ := Cond.laysStatic_spec hl
  exact ⟨c, k, i, f, a, cell, h1, h2, h3, h4, h5, h6, h7, h8, h9, hA a (Array.getElem?_eq_some_iff.mp h5).1⟩
theorem vx_isRef {C n d : String} {v : Value} {A : Nat → Prop} {s : State} {args : Array Value} (h : va_Z C n d v A s s.heap) (hv : v.isRef = true) : (Cond.isRef (.static C n d)).before args s = true := by
  obtain ⟨cf, kf, fi, f, a, cell, h1, h2, h3, h4, h5, h6, h7, -⟩ := h
  have he : (Term.static C n d).eval args s none [] s = some v := by
    simp [Term.eval, State.fieldNamed?, h1, h2, h4, h5, h6, h7]
  simp only [Cond.before, Cond.holds, Cond.value, he]
  cases v <;> simp_all [Value.isRef]
theorem vx_isRefq {C n d : String} {A : Nat → Prop} {s : State} {args : Array Value} (h : va_Zq C n d A s s.heap) : (Cond.isRef (.static C n d)).before args s = true := by
  rcases h with h | ⟨t, h⟩
  · exact vx_isRef h rfl
  · exact vx_isRef h rfl
/-- the same frame, seen from here: as if the method were called anew in this heap -/
theorem vx_rebase {T : State} (X : Stand p l e R s m args below meth c T locs cells slots) {R' : Room} (hf : R'.frames ≤ R.frames) (hl : R'.locals ≤ R.locals) (hc : cells + R'.cells ≤ R.cells) (hs : slots + R'.slots ≤ R.slots) :
    Stand p l e R' ((T.setVm s.vm).setFrames (.invoking m args :: below)) m args below meth c T [] 0 0 := by
  have htop : (T.setVm s.vm).topJava?.isSome := X.here.top
  have hF : ((T.setVm s.vm).setFrames (.invoking m args :: below)).frames = .invoking m args :: below := State.frames_setFrames _ (State.cur_lt_of_top htop)
  obtain ⟨g₀, hg0⟩ := Option.isSome_iff_exists.mp htop
  obtain ⟨r, hr⟩ := State.topJava?_eq_some.mp hg0
  have hl9 : e.platform.stackLimits (T.setVm s.vm).me = e.platform.stackLimits s.me := X.limits
  have hb9 : (T.setVm s.vm).me.stackBytes = s.me.stackBytes := X.bytes
  refine ⟨X.admits, X.cas, X.clock, hF, ?_, X.hears, X.method, X.code, X.here, X.tail, X.warmed, ?_, ?_, ?_⟩
  · have h := X.room
    have hU : ((T.setVm s.vm).setFrames (.invoking m args :: below)).localsInUse = s.localsInUse := by
      rw [State.localsInUse_invoking hF (meth := meth) (c := c) X.method X.code, State.localsInUse_invoking X.frames X.method X.code]
    simp only [State.hasRoom, Bool.and_eq_true, decide_eq_true_eq] at h ⊢
    obtain ⟨⟨⟨⟨h1, h2, h3, h4, h5, h6⟩, h7⟩, h8⟩, h9⟩ := h
    rw [X.frames, List.length_cons] at h2 h3
    have q1 := X.heapSize
    have q2 := X.used
    simp only [hF, hU, List.length_cons, State.stackLimits_setFrames, State.stackBytes_setFrames, hl9, hb9]
    refine ⟨⟨⟨⟨by omega, by omega, by omega, by omega, by omega, h6⟩, ?_⟩, ?_⟩, X.book⟩
    · show T.heap.size + R'.cells ≤ e.platform.maxCells
      omega
    · show T.slotsUsed + R'.slots ≤ e.platform.maxSlots
      omega
  · rw [State.stackLimits_setFrames]; rfl
  · rw [State.stackBytes_setFrames]; rfl
  · refine ⟨?_, Nat.le_refl _, Nat.le_refl _, ?_, ?_, fun a c9 h9 => ⟨c9, h9, rfl, rfl, fun _ _ => rfl⟩⟩
    · obtain ⟨t, ht, -⟩ := State.frames_cons hr
      show T.setVm s.vm = { ((T.setVm s.vm).setFrames (.invoking m args :: below)).setFrames (T.setVm s.vm).frames with heap := T.heap, slotsUsed := T.slotsUsed }
      rw [State.setFrames_setFrames, State.setFrames_self ht]
      rfl
    · show T.slotsUsed = T.slotsUsed + ((T.heap.toList.drop T.heap.size).map (·.slots.size)).sum
      rw [List.drop_eq_nil_of_le (Nat.le_of_eq Array.length_toList)]
      rfl
    · show ((T.heap.toList.drop T.heap.size).map (·.slots.size)).sum ≤ 0
      rw [List.drop_eq_nil_of_le (Nat.le_of_eq Array.length_toList)]
      exact Nat.le_refl _
/-- 'throw new E()': new; dup; invokespecial; athrow -/
theorem vx_throw0 {cc : ByteArray} {pc : Nat} (hexec : p.tables.exec = Jvm.exec) (hb : c.code = cc) (hl : l.stackTraces = false) {own cls : String} {names : List String} {ik ic mc ms : Nat} {A : Nat → Prop}
    (hown : s.vm.findClass own = some m.cls) (hcls : Bundle.fit cls = true) (hnames : ∀ n ∈ names, Bundle.fit n = true)
    (hk : (Cond.classLink own ik cls).before args s = true) (hini : (Cond.initialized cls).before args s = true) (hat : ∀ w ∈ vx_at0 own ic cls names, w.before args s = true)
    (hgood : ∀ w ∈ Cond.classLink own ik cls :: Cond.initialized cls :: vx_at0 own ic cls names, vx_ot w = true)
    (hU : vx_Zq Bundle.tN "UNASSIGNED_STACK" Bundle.steD A s s.heap) (hN : vx_Zq Bundle.tN "SUPPRESSED_SENTINEL" Bundle.listD A s s.heap) (hS : va_S A s.heap H locs) (hsize : ls.size = c.maxLocals)
    (d0 : decode cc pc = .ok (.new ik, 3)) (d3 : decode cc (pc + 3) = .ok (.dup, 1)) (d4 : decode cc (pc + 4) = .ok (.invokespecial ic, 3)) (d7 : decode cc (pc + 7) = .ok (.athrow, 1))
    (hout : ∀ x ∈ c.exceptionTable.toList, covers x (pc + 7) = false)
    (hRframes : names.length + 3 < R.frames) (hRlocals : (rest.map fun v => v.category).sum + (13 * (names.length + 1) + 42) ≤ R.locals) (hRcells : cells + 1 ≤ R.cells) (hRslots : slots + 6 ≤ R.slots) (hlocks : meth.locks = false)
    (hx : ∀ t : State, s.vm.Alike t.vm → H.size ≤ t.heap.size → (∀ q : Nat, q < H.size → t.heap[q]? = H[q]?) → XC cls s t)
    (hf : ∀ z ∈ locs, free z.base) (hc : cells + 1 ≤ mc) (hs : slots + 6 ≤ ms) :
    W p l e R s m args below meth c H locs cells slots (vx_MQ below Qc XC args s mc ms free) (F0 m pc ls rest) := by
  intro T hT X
  have htr : e.platform.stackTraces = false := (show e.platform.stackTraces = l.stackTraces by rw [X.admits.platform]).trans hl
  have Y := vx_rebase X (R' := { frames := R.frames, locals := R.locals, cells := 1, slots := 6 }) (Nat.le_refl _) (Nat.le_refl _) hRcells hRslots
  obtain ⟨s', hA⟩ : ∃ z, z = (T.setVm s.vm).setFrames (.invoking m args :: below) := ⟨_, rfl⟩
  rw [← hA] at Y
  have hvm : s'.vm = s.vm := by rw [hA]; rfl
  have hhp : s'.heap = H := by rw [hA]; exact hT
  have hW0 : s.WarmedH s'.vm := by rw [hvm]; exact State.WarmedH.refl s
  have hat' : ∀ w ∈ vx_at0 own ic cls names, w.before args s' = true := fun w hw => vx_ot_at hW0 hvm.symm (hgood w (List.mem_cons_of_mem _ (List.mem_cons_of_mem _ hw))) (hat w hw)
  have hk' : (Cond.classLink own ik cls).before args s' = true := vx_ot_at hW0 hvm.symm (hgood _ List.mem_cons_self) hk
  have hini' : (Cond.initialized cls).before args s' = true := vx_ot_at hW0 hvm.symm (hgood _ (List.mem_cons_of_mem _ List.mem_cons_self)) hini
  have hU' : vx_Zq Bundle.tN "UNASSIGNED_STACK" Bundle.steD A s' s'.heap := by rw [hhp]; exact vx_Zq.moved hW0.alike (hU.kept hS.2.1)
  have hN' : vx_Zq Bundle.tN "SUPPRESSED_SENTINEL" Bundle.listD A s' s'.heap := by rw [hhp]; exact vx_Zq.moved hW0.alike (hN.kept hS.2.1)
  have h : ∀ w ∈ Bundle.ownAtoms0 own ic cls names, w.before args s' = true := vx_own hat' (vx_isRefq hU'.1) (vx_isRefq hN'.1) hU'.2.word hN'.2.word
  have hown' : s'.vm.findClass own = some m.cls := by rw [hvm]; exact hown
  have hins : (Cond.instantiable cls 6).before args s' = true := h _ (by simp [Bundle.ownAtoms0])
  obtain ⟨vm₁, cX, kX, hfX, hkX, -, -, X₁, st1⟩ := Y.newCold hexec (own := own) (C := cls) (index := ik) (n := 6) hown' hk' hins hini'
    (g := F0 m pc ls rest) rfl (by rw [hb]; exact d0) (Nat.le_refl _) (Nat.le_refl _)
  generalize hT1 : (T.setVm vm₁).pushCell { cls := cX, slots := kX.instanceTypes.map defaultValue, vm := .none } = T1 at X₁ st1
  have hcat : (Value.ref T.heap.size).category = 1 := rfl
  have hcellA : T1.heap[T.heap.size]? = some (freshCell cX kX) := by rw [← hT1]; exact State.heap_pushCell_size _ _
  have d3' : decode c.code (pc + 3) = .ok (.dup, 1) := by rw [hb]; exact d3
  obtain ⟨U, hsteps, hrun, hend, hW, hsame, ce, hce, hO⟩ := X₁.ctorThrow0 hexec htr (own := own) (cls := cls) (names := names) (ic := ic) hown' hcls hnames h (fun x hx => nomatch hx) hfX hkX hcellA (by rw [hhp, hT]; exact Nat.le_refl _)
    (g := { method := m, pc := pc + 4, locals := ls, stack := .ref T.heap.size :: .ref T.heap.size :: rest, locked := none }) rfl hsize rfl rfl (rest := rest) rfl
    (by rw [hb]; exact d4) (by rw [hb]; exact d7) hout hRframes (by simp only [List.map_cons, List.sum_cons, hcat]; omega) hlocks
  obtain ⟨f1, f2⟩ := vx_frame hsame
  rw [hhp] at f1 f2
  have hWs : s.WarmedH U.vm := State.WarmedH.trans hW0 hW
  have hcl : s.vm.findClass cls = some ce.cls := by
    have h9 := hO.cls
    rw [hvm] at h9
    exact h9
  have hall : s.sameButNew ({ U with vm := s.vm } : State) locs mc ms := by
    subst hA
    obtain ⟨e1, e2⟩ := hsame
    rw [State.setFrames_setFrames] at e1
    have h2 : (T.setVm s.vm).sameButNew ({ U with vm := s.vm } : State) [] (0 + 1) (0 + 6) := ⟨e1, e2⟩
    have h3 := X.same.trans h2
    rw [List.append_nil] at h3
    exact h3.mono hc hs
  refine ⟨U, ?_, .threw T.heap.size, hrun, hend, Or.inr ⟨T.heap.size, rfl, cls, ce, locs, hx U hWs.alike f1 (fun q hq => f2 q hq (fun z hz => nomatch hz)), hce, hO.vm, hcl, hWs, hall, hf⟩⟩
  refine st1 _ ?_
  show Steps p.tables e below (T1.setTop { method := m, pc := pc + 3, locals := ls, stack := .ref T.heap.size :: rest, locked := none }) _
  jvm_step X₁.here [X₁.here.top, hexec, d3', Value.category]
  exact hsteps
/-- 'throw new E("text")': new; dup; ldc; invokespecial; athrow -/
theorem vx_throwS {cc : ByteArray} {pc : Nat} (hexec : p.tables.exec = Jvm.exec) (hb : c.code = cc) (hl : l.stackTraces = false) {own cls text : String} {names : List String} {ik is ic mc ms sa : Nat} {A : Nat → Prop}
    (hown : s.vm.findClass own = some m.cls) (hcls : Bundle.fit cls = true) (hnames : ∀ n ∈ names, Bundle.fit n = true)
    (hk : (Cond.classLink own ik cls).before args s = true) (hini : (Cond.initialized cls).before args s = true) (hstr : vk_R own is text sa s) (hat : ∀ w ∈ vx_atS own ic cls names, w.before args s = true)
    (hgood : ∀ w ∈ Cond.classLink own ik cls :: Cond.initialized cls :: vx_atS own ic cls names, vx_ot w = true)
    (hU : vx_Zq Bundle.tN "UNASSIGNED_STACK" Bundle.steD A s s.heap) (hN : vx_Zq Bundle.tN "SUPPRESSED_SENTINEL" Bundle.listD A s s.heap) (hS : va_S A s.heap H locs) (hsize : ls.size = c.maxLocals)
    (d0 : decode cc pc = .ok (.new ik, 3)) (d3 : decode cc (pc + 3) = .ok (.dup, 1)) (d4 : decode cc (pc + 4) = .ok (.ldc is, 2)) (d6 : decode cc (pc + 6) = .ok (.invokespecial ic, 3)) (d9 : decode cc (pc + 9) = .ok (.athrow, 1))
    (hout : ∀ x ∈ c.exceptionTable.toList, covers x (pc + 9) = false)
    (hRframes : names.length + 3 < R.frames) (hRlocals : (rest.map fun v => v.category).sum + (13 * (names.length + 1) + 43) ≤ R.locals) (hRcells : cells + 1 ≤ R.cells) (hRslots : slots + 6 ≤ R.slots) (hlocks : meth.locks = false)
    (hx : ∀ t : State, s.vm.Alike t.vm → H.size ≤ t.heap.size → (∀ q : Nat, q < H.size → t.heap[q]? = H[q]?) → XC cls s t)
    (hf : ∀ z ∈ locs, free z.base) (hc : cells + 1 ≤ mc) (hs : slots + 6 ≤ ms) :
    W p l e R s m args below meth c H locs cells slots (vx_MQ below Qc XC args s mc ms free) (F0 m pc ls rest) := by
  intro T hT X
  have htr : e.platform.stackTraces = false := (show e.platform.stackTraces = l.stackTraces by rw [X.admits.platform]).trans hl
  have Y := vx_rebase X (R' := { frames := R.frames, locals := R.locals, cells := 1, slots := 6 }) (Nat.le_refl _) (Nat.le_refl _) hRcells hRslots
  obtain ⟨s', hA⟩ : ∃ z, z = (T.setVm s.vm).setFrames (.invoking m args :: below) := ⟨_, rfl⟩
  rw [← hA] at Y
  have hvm : s'.vm = s.vm := by rw [hA]; rfl
  have hhp : s'.heap = H := by rw [hA]; exact hT
  have hW0 : s.WarmedH s'.vm := by rw [hvm]; exact State.WarmedH.refl s
  have hat' : ∀ w ∈ vx_atS own ic cls names, w.before args s' = true := fun w hw => vx_ot_at hW0 hvm.symm (hgood w (List.mem_cons_of_mem _ (List.mem_cons_of_mem _ hw))) (hat w hw)
  have hk' : (Cond.classLink own ik cls).before args s' = true := vx_ot_at hW0 hvm.symm (hgood _ List.mem_cons_self) hk
  have hini' : (Cond.initialized cls).before args s' = true := vx_ot_at hW0 hvm.symm (hgood _ (List.mem_cons_of_mem _ List.mem_cons_self)) hini
  have hU' : vx_Zq Bundle.tN "UNASSIGNED_STACK" Bundle.steD A s' s'.heap := by rw [hhp]; exact vx_Zq.moved hW0.alike (hU.kept hS.2.1)
  have hN' : vx_Zq Bundle.tN "SUPPRESSED_SENTINEL" Bundle.listD A s' s'.heap := by rw [hhp]; exact vx_Zq.moved hW0.alike (hN.kept hS.2.1)
  have h : ∀ w ∈ Bundle.ownAtoms own ic cls names, w.before args s' = true := vx_own hat' (vx_isRefq hU'.1) (vx_isRefq hN'.1) hU'.2.word hN'.2.word
  have hown' : s'.vm.findClass own = some m.cls := by rw [hvm]; exact hown
  have hins : (Cond.instantiable cls 6).before args s' = true := h _ (by simp [Bundle.ownAtoms])
  obtain ⟨vm₁, cX, kX, hfX, hkX, -, -, X₁, st1⟩ := Y.newCold hexec (own := own) (C := cls) (index := ik) (n := 6) hown' hk' hins hini'
    (g := F0 m pc ls rest) rfl (by rw [hb]; exact d0) (Nat.le_refl _) (Nat.le_refl _)
  generalize hT1 : (T.setVm vm₁).pushCell { cls := cX, slots := kX.instanceTypes.map defaultValue, vm := .none } = T1 at X₁ st1
  have hcat : (Value.ref T.heap.size).category = 1 := rfl
  have hcellA : T1.heap[T.heap.size]? = some (freshCell cX kX) := by rw [← hT1]; exact State.heap_pushCell_size _ _
  have d3' : decode c.code (pc + 3) = .ok (.dup, 1) := by rw [hb]; exact d3
  have d4' : decode c.code (pc + 4) = .ok (.ldc is, 2) := by rw [hb]; exact d4
  have hstr' : vk_R own is text sa s' := vk_R.warm hW0 hstr
  obtain ⟨U, hsteps, hrun, hend, hW, hsame, ce, hce, hO⟩ := X₁.ctorThrowS hexec htr (own := own) (cls := cls) (names := names) (ic := ic) hown' hcls hnames h (fun x hx => nomatch hx) hfX hkX hcellA (by rw [hhp, hT]; exact Nat.le_refl _) (msg := .ref sa) rfl
    (g := { method := m, pc := pc + 6, locals := ls, stack := .ref sa :: .ref T.heap.size :: .ref T.heap.size :: rest, locked := none }) rfl hsize rfl rfl (rest := rest) rfl
    (by rw [hb]; exact d6) (by rw [hb]; exact d9) hout hRframes (by simp only [List.map_cons, List.sum_cons, hcat]; omega) hlocks
  obtain ⟨f1, f2⟩ := vx_frame hsame
  rw [hhp] at f1 f2
  have hWs : s.WarmedH U.vm := State.WarmedH.trans hW0 hW
  have hcl : s.vm.findClass cls = some ce.cls := by
    have h9 := hO.cls
    rw [hvm] at h9
    exact h9
  have hall : s.sameButNew ({ U with vm := s.vm } : State) locs mc ms := by
    subst hA
    obtain ⟨e1, e2⟩ := hsame
    rw [State.setFrames_setFrames] at e1
    have h2 : (T.setVm s.vm).sameButNew ({ U with vm := s.vm } : State) [] (0 + 1) (0 + 6) := ⟨e1, e2⟩
    have h3 := X.same.trans h2
    rw [List.append_nil] at h3
    exact h3.mono hc hs
  refine ⟨U, ?_, .threw T.heap.size, hrun, hend, Or.inr ⟨T.heap.size, rfl, cls, ce, locs, hx U hWs.alike f1 (fun q hq => f2 q hq (fun z hz => nomatch hz)), hce, hO.vm, hcl, hWs, hall, hf⟩⟩
  refine st1 _ ?_
  show Steps p.tables e below (T1.setTop { method := m, pc := pc + 3, locals := ls, stack := .ref T.heap.size :: rest, locked := none }) _
  jvm_step X₁.here [X₁.here.top, hexec, d3', Value.category]
  exact X₁.ldcString hexec (own := own) (text := text) (index := is) (a := sa) hown' hstr'.1 hstr'.2
    (g := { method := m, pc := pc + 4, locals := ls, stack := .ref T.heap.size :: .ref T.heap.size :: rest, locked := none }) rfl d4' _ hsteps
/-- 'throw new E("text")', the text by a wide index -/
theorem vx_throwSW {cc : ByteArray} {pc : Nat} (hexec : p.tables.exec = Jvm.exec) (hb : c.code = cc) (hl : l.stackTraces = false) {own cls text : String} {names : List String} {ik is ic mc ms sa : Nat} {A : Nat → Prop}
    (hown : s.vm.findClass own = some m.cls) (hcls : Bundle.fit cls = true) (hnames : ∀ n ∈ names, Bundle.fit n = true)
    (hk : (Cond.classLink own ik cls).before args s = true) (hini : (Cond.initialized cls).before args s = true) (hstr : vk_R own is text sa s) (hat : ∀ w ∈ vx_atS own ic cls names, w.before args s = true)
    (hgood : ∀ w ∈ Cond.classLink own ik cls :: Cond.initialized cls :: vx_atS own ic cls names, vx_ot w = true)
    (hU : vx_Zq Bundle.tN "UNASSIGNED_STACK" Bundle.steD A s s.heap) (hN : vx_Zq Bundle.tN "SUPPRESSED_SENTINEL" Bundle.listD A s s.heap) (hS : va_S A s.heap H locs) (hsize : ls.size = c.maxLocals)
    (d0 : decode cc pc = .ok (.new ik, 3)) (d3 : decode cc (pc + 3) = .ok (.dup, 1)) (d4 : decode cc (pc + 4) = .ok (.ldc_w is, 3)) (d7 : decode cc (pc + 7) = .ok (.invokespecial ic, 3)) (d10 : decode cc (pc + 10) = .ok (.athrow, 1))
    (hout : ∀ x ∈ c.exceptionTable.toList, covers x (pc + 10) = false)
    (hRframes : names.length + 3 < R.frames) (hRlocals : (rest.map fun v => v.category).sum + (13 * (names.length + 1) + 43) ≤ R.locals) (hRcells : cells + 1 ≤ R.cells) (hRslots : slots + 6 ≤ R.slots) (hlocks : meth.locks = false)
    (hx : ∀ t : State, s.vm.Alike t.vm → H.size ≤ t.heap.size → (∀ q : Nat, q < H.size → t.heap[q]? = H[q]?) → XC cls s t)
    (hf : ∀ z ∈ locs, free z.base) (hc : cells + 1 ≤ mc) (hs : slots + 6 ≤ ms) :
    W p l e R s m args below meth c H locs cells slots (vx_MQ below Qc XC args s mc ms free) (F0 m pc ls rest) := by
  intro T hT X
  have htr : e.platform.stackTraces = false := (show e.platform.stackTraces = l.stackTraces by rw [X.admits.platform]).trans hl
  have Y := vx_rebase X (R' := { frames := R.frames, locals := R.locals, cells := 1, slots := 6 }) (Nat.le_refl _) (Nat.le_refl _) hRcells hRslots
  obtain ⟨s', hA⟩ : ∃ z, z = (T.setVm s.vm).setFrames (.invoking m args :: below) := ⟨_, rfl⟩
  rw [← hA] at Y
  have hvm : s'.vm = s.vm := by rw [hA]; rfl
  have hhp : s'.heap = H := by rw [hA]; exact hT
  have hW0 : s.WarmedH s'.vm := by rw [hvm]; exact State.WarmedH.refl s
  have hat' : ∀ w ∈ vx_atS own ic cls names, w.before args s' = true := fun w hw => vx_ot_at hW0 hvm.symm (hgood w (List.mem_cons_of_mem _ (List.mem_cons_of_mem _ hw))) (hat w hw)
  have hk' : (Cond.classLink own ik cls).before args s' = true := vx_ot_at hW0 hvm.symm (hgood _ List.mem_cons_self) hk
  have hini' : (Cond.initialized cls).before args s' = true := vx_ot_at hW0 hvm.symm (hgood _ (List.mem_cons_of_mem _ List.mem_cons_self)) hini
  have hU' : vx_Zq Bundle.tN "UNASSIGNED_STACK" Bundle.steD A s' s'.heap := by rw [hhp]; exact vx_Zq.moved hW0.alike (hU.kept hS.2.1)
  have hN' : vx_Zq Bundle.tN "SUPPRESSED_SENTINEL" Bundle.listD A s' s'.heap := by rw [hhp]; exact vx_Zq.moved hW0.alike (hN.kept hS.2.1)
  have h : ∀ w ∈ Bundle.ownAtoms own ic cls names, w.before args s' = true := vx_own hat' (vx_isRefq hU'.1) (vx_isRefq hN'.1) hU'.2.word hN'.2.word
  have hown' : s'.vm.findClass own = some m.cls := by rw [hvm]; exact hown
  have hins : (Cond.instantiable cls 6).before args s' = true := h _ (by simp [Bundle.ownAtoms])
  obtain ⟨vm₁, cX, kX, hfX, hkX, -, -, X₁, st1⟩ := Y.newCold hexec (own := own) (C := cls) (index := ik) (n := 6) hown' hk' hins hini'
    (g := F0 m pc ls rest) rfl (by rw [hb]; exact d0) (Nat.le_refl _) (Nat.le_refl _)
  generalize hT1 : (T.setVm vm₁).pushCell { cls := cX, slots := kX.instanceTypes.map defaultValue, vm := .none } = T1 at X₁ st1
  have hcat : (Value.ref T.heap.size).category = 1 := rfl
  have hcellA : T1.heap[T.heap.size]? = some (freshCell cX kX) := by rw [← hT1]; exact State.heap_pushCell_size _ _
  have d3' : decode c.code (pc + 3) = .ok (.dup, 1) := by rw [hb]; exact d3
  have d4' : decode c.code (pc + 4) = .ok (.ldc_w is, 3) := by rw [hb]; exact d4
  have hstr' : vk_R own is text sa s' := vk_R.warm hW0 hstr
  obtain ⟨U, hsteps, hrun, hend, hW, hsame, ce, hce, hO⟩ := X₁.ctorThrowS hexec htr (own := own) (cls := cls) (names := names) (ic := ic) hown' hcls hnames h (fun x hx => nomatch hx) hfX hkX hcellA (by rw [hhp, hT]; exact Nat.le_refl _) (msg := .ref sa) rfl
    (g := { method := m, pc := pc + 7, locals := ls, stack := .ref sa :: .ref T.heap.size :: .ref T.heap.size :: rest, locked := none }) rfl hsize rfl rfl (rest := rest) rfl
    (by rw [hb]; exact d7) (by rw [hb]; exact d10) hout hRframes (by simp only [List.map_cons, List.sum_cons, hcat]; omega) hlocks
  obtain ⟨f1, f2⟩ := vx_frame hsame
  rw [hhp] at f1 f2
  have hWs : s.WarmedH U.vm := State.WarmedH.trans hW0 hW
  have hcl : s.vm.findClass cls = some ce.cls := by
    have h9 := hO.cls
    rw [hvm] at h9
    exact h9
  have hall : s.sameButNew ({ U with vm := s.vm } : State) locs mc ms := by
    subst hA
    obtain ⟨e1, e2⟩ := hsame
    rw [State.setFrames_setFrames] at e1
    have h2 : (T.setVm s.vm).sameButNew ({ U with vm := s.vm } : State) [] (0 + 1) (0 + 6) := ⟨e1, e2⟩
    have h3 := X.same.trans h2
    rw [List.append_nil] at h3
    exact h3.mono hc hs
  refine ⟨U, ?_, .threw T.heap.size, hrun, hend, Or.inr ⟨T.heap.size, rfl, cls, ce, locs, hx U hWs.alike f1 (fun q hq => f2 q hq (fun z hz => nomatch hz)), hce, hO.vm, hcl, hWs, hall, hf⟩⟩
  refine st1 _ ?_
  show Steps p.tables e below (T1.setTop { method := m, pc := pc + 3, locals := ls, stack := .ref T.heap.size :: rest, locked := none }) _
  jvm_step X₁.here [X₁.here.top, hexec, d3', Value.category]
  exact X₁.ldcStringW hexec (own := own) (text := text) (index := is) (a := sa) hown' hstr'.1 hstr'.2
    (g := { method := m, pc := pc + 4, locals := ls, stack := .ref T.heap.size :: .ref T.heap.size :: rest, locked := none }) rfl d4' _ hsteps
end Ends
section Bodies
variable {l : Launch}
theorem vx_ofW {y : MethodName} {ws ws' : List Cond} {rm : Room} {Pc : Array Value → State → Prop} {Qc : Array Value → State → Outcome → State → Prop} {XC : String → State → State → Prop} {mc ms : Nat} {free : Addr → Prop} {cc : ByteArray} {maxL : Nat} {ret : Option FieldType}
    (hy : plainName y.cls = true) (hw : ws = Cond.code y cc maxL ret :: ws')
    (body : ∀ p e s m args below meth c s₁, BodyLoose p l y (headSpec ws rm) cc maxL ret e s m args below meth c s₁ → c.maxLocals = maxL → (∀ x ∈ c.exceptionTable.toList, False) → Pc args s →
      W p l e (headSpec ws rm).room s m args below meth c s.heap [] 0 0 (vx_MQ below Qc XC args s mc ms free) (entryFrame m args maxL)) : vx_Met l y ws rm Pc Qc XC mc ms free := by
  refine MetFree.of_bodyS (code := cc) (maxLocals := maxL) (ret := ret) hy ?_ ?_
  · intro args s m h hn
    obtain ⟨meth, c, h1, h2, h3, h4, h5, h6, -, -⟩ := Cond.code_spec hn (atoms_spec (ws := ws) h _ (by rw [hw]; exact List.mem_cons_self))
    exact ⟨meth, c, h1, h2, h3, h4, h5, h6⟩
  · intro p e s m args below meth c s₁ B hml hP _
    have hh0 : s₁.heap = s.heap := by rw [B.state]; rfl
    have ht : ∀ x ∈ c.exceptionTable.toList, False := by
      obtain ⟨meth9, c9, h1, h2, -, -, -, -, h7, -⟩ := Cond.code_spec B.named (atoms_spec (ws := ws) B.pre _ (by rw [hw]; exact List.mem_cons_self))
      cases Option.some.inj (h1.symm.trans B.method)
      cases Option.some.inj (h2.symm.trans (Stand.of_body B).code)
      intro x hx
      rw [Array.isEmpty_iff.mp h7] at hx
      cases hx
    obtain ⟨t, a1, o, b1, b2, b3⟩ := body p e s m args below meth c s₁ B hml ht hP s₁ hh0 (Stand.of_body B)
    exact ⟨t, o, a1, b1, b2, b3⟩
/-- the table of a body with handlers -/
theorem vx_table {p : Program} {x y : MethodName} {S : Spec} {cc bytes : ByteArray} {maxL maxL' : Nat} {ret ret' : Option FieldType} {e : Env} {s s₁ : State} {m : MethodId} {args : Array Value} {below : List Frame} {meth : Method} {c : Code} {hh : List (Nat × Nat × Nat × Nat)}
    (B : BodyLoose p l y S cc maxL ret e s m args below meth c s₁) (h : (Cond.codeWith y bytes maxL' ret' hh).before args s = true) : c.exceptionTable.toList = tableOf hh := by
  obtain ⟨m9, meth9, c9, hn9, h1, h2, -, -, h6, -⟩ := Cond.codeWith_spec h
  cases Option.some.inj (hn9.symm.trans B.named)
  cases Option.some.inj (h1.symm.trans B.method)
  cases Option.some.inj (h2.symm.trans (Stand.of_body B).code)
  rw [← h6, table_eq]
end Bodies
end VXA
/-! ===== END ===== -/
/-! ===== BEGIN a static call of a method with an exception table ===== -/
section VXS
variable {p : Program} {l : Launch} {e : Env} {R : Room} {s : State} {m : MethodId} {args : Array Value} {below : List Frame} {meth : Method} {c : Code} {T : State} {H : Heap} {locs : List Loc} {cells slots : Nat}
abbrev vx_CSW (R : Room) (s : State) (args : Array Value) (own : String) (index : Nat) (y : MethodName) (bytes : ByteArray) (maxL : Nat) (ret : Option FieldType) (hh : List (Nat × Nat × Nat × Nat)) (ws : List Cond) (rm : Room) (mc ms n : Nat) : Prop :=
  (rm.cells = mc ∧ rm.slots = ms ∧ rm.frames + 1 ≤ R.frames ∧ 8 + (maxL + 11) + rm.locals ≤ R.locals ∧ (∀ w ∈ ws, ∀ (a' : Array Value) (U : State), s.WarmedH U.vm → w.before a' U = true) ∧ Cond.codeWith y bytes maxL ret hh ∈ ws) ∧
  (Cond.codeWith y bytes maxL ret hh).before args s = true ∧ (Cond.initialized y.cls).before args s = true ∧ (y.cls ≠ "java/lang/invoke/MethodHandle" ∧ y.cls ≠ "java/lang/invoke/VarHandle") ∧
  (∀ sig, parseMethodDescriptor y.desc = some sig → n = sig.parameters.length) ∧ (Cond.methodLink own index y).before args s = true ∧ (Cond.static y).before args s = true
theorem vx_cwSW {own : String} {index maxL mc ms : Nat} {y : MethodName} {bytes : ByteArray} {ret : Option FieldType} {hh : List (Nat × Nat × Nat × Nat)} {Ts ws ws' : List Cond} {rm : Room} (n : Nat) (ht : ∀ w ∈ Ts, w.before args s = true) (hT : GoodIn Ts (va_wsS own index y ws)) (hw : ws = Cond.codeWith y bytes maxL ret hh :: ws') (hrc : rm.cells = mc) (hrs : rm.slots = ms)
    (hd : y.cls ≠ "java/lang/invoke/MethodHandle" ∧ y.cls ≠ "java/lang/invoke/VarHandle" ∧ (parseMethodDescriptor y.desc).map (fun d => d.parameters.length) = some n) (hR : rm.frames + 1 ≤ R.frames ∧ 8 + (maxL + 11) + rm.locals ≤ R.locals) :
    vx_CSW R s args own index y bytes maxL ret hh ws rm mc ms n := by
  have ok : ∀ w ∈ va_wsS own index y ws, w.before args s = true := fun w h => ht w (hT w h).1
  have hG : GoodIn Ts ws := fun w h => hT w (by unfold va_wsS; exact List.mem_append_right _ h)
  have hc : Cond.codeWith y bytes maxL ret hh ∈ ws := by rw [hw]; exact List.mem_cons_self
  refine ⟨⟨hrc, hrs, hR.1, hR.2, pay_in ht hG, hc⟩, ht _ (hG _ hc).1, ok _ (by simp [va_wsS]), ⟨hd.1, hd.2.1⟩, fun sig h => ?_, ok _ (by simp [va_wsS]), ok _ (by simp [va_wsS])⟩
  have h2 := hd.2.2
  rw [h] at h2
  exact (Option.some.inj h2).symm
theorem vx_callSW (X : Stand p l e R s m args below meth c T locs cells slots) (hexec : p.tables.exec = Jvm.exec) {own : String} {index : Nat} {y : MethodName} {bytes : ByteArray} {maxL : Nat} {ret : Option FieldType} {hh : List (Nat × Nat × Nat × Nat)}
    (hown : s.vm.findClass own = some m.cls) (hlink : (Cond.methodLink own index y).before args s = true) (hstat : (Cond.static y).before args s = true) (hinit : (Cond.initialized y.cls).before args s = true)
    (hcode : (Cond.codeWith y bytes maxL ret hh).before args s = true) (hy : y.cls ≠ "java/lang/invoke/MethodHandle" ∧ y.cls ≠ "java/lang/invoke/VarHandle")
    {W9 : Nat} {Pre : Pt → Array Value → Prop} {Post : Pt → Array Value → Option Value → Pt → Prop} (hK : Back l R p e below s args y 3 W9 Pre Post)
    {g : JFrame} (hg : g.method = m) (hsize : g.locals.size = c.maxLocals) {argsL rest : List Value} (hlen : ∀ sig, parseMethodDescriptor y.desc = some sig → argsL.length = sig.parameters.length)
    (hstack : g.stack = argsL.reverse ++ rest) (hW : 2 * g.monitorRoom + (rest.map fun v => v.category).sum ≤ W9) (hdg : decode c.code g.pc = .ok (.invokestatic index, 3))
    (hpre : ∀ vm₁, s.WarmedH vm₁ → Pre ⟨T.setVm vm₁, locs, cells, slots⟩ argsL.toArray) :
    ∃ (v : Option Value) (vm₁ : Vm) (B : Pt), s.WarmedH vm₁ ∧ Stand p l e R s m args below meth c B.U B.locs B.cells B.slots ∧ Post ⟨T.setVm vm₁, locs, cells, slots⟩ argsL.toArray v B ∧
      ∀ target, Steps p.tables e below (B.U.setTop { g with pc := g.pc + 3, stack := v.toList ++ rest }) target → Steps p.tables e below (T.setTop g) target := by
  obtain ⟨mk, methM, cM, hnamed, hmethM, -, -, -, -, -, -, hsigM⟩ := Cond.codeWith_spec hcode
  have hstatic : methM.isStatic = true := Cond.static_spec hnamed hmethM hstat
  obtain ⟨kP, hkP, -⟩ := className_of_methodNamed hnamed
  have hinitP : kP.init = .initialized := Cond.initialized_spec (findClass_of_methodNamed hnamed) hkP hinit
  obtain ⟨vm₁, X₁, hstep₁⟩ := X.invokestatic hexec hown hlink hnamed hmethM hstatic hkP hinitP hy (g := g) hg (argsL := argsL) (rest := rest) (hlen _ hsigM) hstack hdg
  obtain ⟨v, B, X', hpost, hsteps⟩ := hK m meth c ⟨T.setVm vm₁, locs, cells, slots⟩ { g with stack := rest } (.invokestatic index) mk argsL.toArray X₁ hg hsize hdg hW (X₁.named hnamed) (hpre vm₁ X₁.warmed)
  exact ⟨v, vm₁, B, X₁.warmed, X', hpost, fun target h => hstep₁ _ fun acts => by rw [doInvoke_state]; exact hsteps.trans h⟩
theorem vx_runSW {y : MethodName} {bytes cc : ByteArray} {maxL nL mc ms n index : Nat} {ret : Option FieldType} {hh : List (Nat × Nat × Nat × Nat)} {ws : List Cond} {rm : Room} {Pc : Array Value → State → Prop} {Qc : Array Value → State → Outcome → State → Prop} {free : Addr → Prop} {Ts : List Cond} {own : String} {As rest : List Value} {g : JFrame}
    (S : CallFix p m c cc nL s args Ts own) (hM : Met l y ws rm Pc Qc mc ms free) (cw : vx_CSW R s args own index y bytes maxL ret hh ws rm mc ms n) (hp : PreS s H Pc As)
    (hg : g.method = m) (hn : As.length = n) (hsize : g.locals.size = nL) (hstack : g.stack = As.reverse ++ rest) (hW : 2 * g.monitorRoom + (rest.map fun v => v.category).sum ≤ 8) (hdg : decode cc g.pc = .ok (.invokestatic index, 3)) (hf : cells + mc ≤ R.cells ∧ slots + ms ≤ R.slots) :
    va_Run p l e R s m args below meth c H locs cells slots mc ms g rest (Qc As.toArray) (free) := by
  obtain ⟨⟨hrc, hrs, hfr, hlo, hws, hcw⟩, hcode, hini, hy, hlen, hl, hstt⟩ := cw
  have hK : Back l R p e below s args y 3 8 (PreOf R mc ms Pc) (PostOf Qc mc ms free) := va_backW (hh := hh) (bytes := bytes) (maxL := maxL) (ret := ret) hM hp.1 hrc hrs hfr hlo hws hcw (fun a' U hW => word_at hW (Or.inl (by first | rfl | simp [Cond.onTables, Cond.keeps, Cond.steady])) hini)
  obtain ⟨hx, hb, hml, ho, -⟩ := S
  intro T hT X
  obtain ⟨v, vm₁, ⟨U', l2, c2, s2⟩, hW₁, X', ⟨g', mk, t, L, e1, e2, hq, h1, hL, h2, h3⟩, st⟩ := vx_callSW X hx (hh := hh) (bytes := bytes) (maxL := maxL) (ret := ret) ho hl hstt hini hcode hy hK hg (hsize.trans hml.symm) (argsL := As) (rest := rest) (fun sig h => hn.trans (hlen sig h)) hstack hW (by rw [hb]; exact hdg)
    (fun vm₁ hW₁ => ⟨hf.1, hf.2, hp.2 (T.setVm vm₁) hT hW₁⟩)
  dsimp only [Pt.U, Pt.locs, Pt.cells, Pt.slots] at X' e1 e2 h1 h2 h3 st
  subst h1; subst h2; subst h3
  exact ⟨v, (T.setVm vm₁).calling g' mk As.toArray, t, U', L, hT, X', hL, e1, e2, hq, st⟩
/-- not caught here, past rows that name other classes: it goes on to the caller -/
theorem vx_outP {p : Program} {l : Launch} {e : Env} {R : Room} {s : State} {m : MethodId} {args : Array Value} {below : List Frame} {meth : Method} {c : Code} {H : Heap} {locs : List Loc} {cells slots : Nat} {free : Addr → Prop} {ls : Array Slot} {rest : List Value} {Qc : Array Value → State → Outcome → State → Prop} {XC : String → State → State → Prop}
    {pc : Nat} {own E : String} {ce : Cell} {q : Addr} {mc ms : Nat} (hown : s.vm.findClass own = some m.cls) (hlocks : meth.locks = false)
    (hpass : ∀ z ∈ c.exceptionTable.toList, covers z pc = false ∨ (z.catchType ≠ 0 ∧ ∃ nm : String, (Cond.classLink own z.catchType nm).before args s = true ∧ va_Nc E nm s)) (hcell : H[q]? = some ce) (hv : ce.vm = .none) (hcl : s.vm.findClass E = some ce.cls)
    (hx : ∀ t : State, t.heap = H → s.vm.Alike t.vm → XC E s t) (hf : ∀ z ∈ locs, free z.base) (hc : cells ≤ mc) (hs : slots ≤ ms) :
    vx_W p l e R s m args below meth c H locs cells slots (vx_MQ below Qc XC args s mc ms free) (F0 m pc ls rest) q := by
  intro T hT X
  have hpl : e.platform.magicAccessors = ({} : Platform).magicAccessors := by rw [X.admits.platform]
  obtain ⟨vm', hW', X', st⟩ := X.outThrough hlocks q (g := F0 m pc ls rest) rfl rfl rfl (cell := ce) (by rw [hT]; exact hcell) (by rw [hv]; rfl)
    (by obtain ⟨k9, h9, -⟩ := Vm.findClass_spec hcl; exact ⟨k9, h9⟩) (fun z hz => by
      rcases hpass z hz with h | ⟨hz0, nm, hl1, hn1⟩
      · exact Or.inl h
      · obtain ⟨c6, hc6, hcl6⟩ := Cond.classLink_spec hown hl1 e.platform hpl
        obtain ⟨a8, b8, h1, h2, h3⟩ := hn1
        cases Option.some.inj (h1.symm.trans hcl)
        cases Option.some.inj (h2.symm.trans hc6)
        exact Or.inr ⟨hz0, _, hcl6, h3⟩)
  obtain ⟨g₀, hfr⟩ := X'.frames_eq
  have hcell9 : ((T.setVm vm').setFrames (.throwing q :: below)).heap[q]? = some ce := by
    show T.heap[q]? = some ce
    rw [hT]; exact hcell
  have hend : Ended ((T.setVm vm').setFrames (.throwing q :: below)) below (.threw q) := State.frames_setFrames _ (State.cur_lt_of_frames hfr)
  refine ⟨(T.setVm vm').setFrames (.throwing q :: below), ?_, .threw q, X'.here.running, hend, Or.inr ⟨q, rfl, E, ce, locs, hx _ hT (X'.ends _).1.alike, hcell9, hv, hcl, (X'.ends _).1, (X'.ends _).2.mono hc hs, hf⟩⟩
  rw [X.pushThrowing_eq]
  exact st
/-- a thing of a world lies in the heap -/
theorem vx_lt {D : va_G} {cl : List vw_C} {ws : va_W} {H1 : Heap} (h : va_P D cl ws H1) {k : Nat} {q : Nat × va_E} (hk : ws[k]? = some q) : q.1 < H1.size := (h k q hk).lt
end VXS
/-! ===== END ===== -/
/-! ===== BEGIN methods with a table of their own: called by a name, returning or throwing ===== -/
section VXH
/-! vx_backW, vx_callVX, vx_callSX, vx_callVW, vx_runVW, vx_runVX, vx_runSX, vx_ofWH follow the same proofs as their sisters above (Free/Laws.lean, Shelf42/LK1.lean); vx_outP calls Shelf42/NT130.lean (outThrough). -/
section
variable {l : Launch} {R : Room} {p : Program} {e : Env} {below : List Frame} {s : State} {sargs : Array Value} {y : MethodName} {len W9 : Nat}
theorem vx_backW {ws : List Cond} {rm : Room} {Pc : Array Value → State → Prop} {Qc : Array Value → State → Outcome → State → Prop} {XC : String → State → State → Prop} {mc ms : Nat} {free : Addr → Prop} {bytes : ByteArray} {maxL : Nat} {ret : Option FieldType} {hh : List (Nat × Nat × Nat × Nat)}
    (hM : vx_Met l y ws rm Pc Qc XC mc ms free) (hblind : FrameBlind Pc) (hrc : rm.cells = mc) (hrs : rm.slots = ms)
    (hframes : rm.frames + 1 ≤ R.frames) (hlocals : W9 + (maxL + 11) + rm.locals ≤ R.locals)
    (hws : ∀ w ∈ ws, ∀ a' U, s.WarmedH U.vm → w.before a' U = true) (hcode : Cond.codeWith y bytes maxL ret hh ∈ ws) (hinit : ∀ a' U, s.WarmedH U.vm → (Cond.initialized y.cls).before a' U = true) :
    vx_Back l R p e below s sargs y len W9 (PreOf R mc ms Pc) (PostOf Qc mc ms free) (vx_Post XC mc ms free) := by
  intro m meth c A g ig mk a X hg hsize hdg hW hn hp
  have h1 : (headSpec ws rm).pre.before a A.U = true := atoms_intro fun w hw => hws w hw _ _ X.warmed
  have h2 : (Cond.codeWith y bytes maxL ret hh).before a A.U = true := hws _ hcode _ _ X.warmed
  have h3 : (Cond.initialized y.cls).before a A.U = true := hinit _ _ X.warmed
  have h4 : A.cells + (headSpec ws rm).room.cells ≤ R.cells := by rw [show (headSpec ws rm).room.cells = mc from hrc]; exact hp.1
  have h5 : A.slots + (headSpec ws rm).room.slots ≤ R.slots := by rw [show (headSpec ws rm).room.slots = ms from hrs]; exact hp.2.1
  have hPc : Pc a (A.U.calling g mk a) := hblind _ _ _ _ hp.2.2
  obtain ⟨U, Ls, c0, s0⟩ := A
  dsimp only [Pt.U, Pt.locs, Pt.cells, Pt.slots] at h1 h2 h3 h4 h5 X hn hPc ⊢
  obtain ⟨m9, methY, cY, hn9, hmY, hcY, -, hlY, -⟩ := Cond.codeWith_spec h2
  cases Option.some.inj (hn9.symm.trans hn)
  obtain ⟨kY, hkY, -⟩ := className_of_methodNamed hn
  have hinitY : kY.init = .initialized := Cond.initialized_spec (findClass_of_methodNamed hn) hkY h3
  have h : At U g.method c below := by rw [hg]; exact X.here
  have hlocals9 : W9 + (maxL + 11) + (headSpec ws rm).room.locals ≤ R.locals := hlocals
  have happ : (headSpec ws rm).appliesLoose y e.platform (U.calling g mk a) = true :=
    Spec.appliesLoose_calling (g := g) h hdg hn hkY hinitY
      (X.room_calling (g := g) (R' := (headSpec ws rm).room) hsize hmY hcY hframes (by rw [hlY]; omega) h4 h5) h1
  obtain ⟨mid, hmid⟩ := h.above
  have hfr : (U.setTop g).frames = (.java g :: mid) ++ below := by rw [State.frames_setTop' g h.top, hmid]; rfl
  obtain ⟨o, s₂, hsteps, -, hend, hq⟩ := Steps.callFree hM p X.admits X.cas X.clock (acts := []) hfr happ hPc trivial
  have hq' : vx_Q Qc XC mc ms free a (U.calling g mk a) o s₂ := hq
  rw [State.frames_setTop' g h.top] at hend
  obtain ⟨g₀, hg0⟩ := Option.isSome_iff_exists.mp h.top
  obtain ⟨r, hr⟩ := State.topJava?_eq_some.mp hg0
  have hr' : (({ U with heap := s₂.heap, slotsUsed := s₂.slotsUsed } : State).setVm s₂.vm).frames = .java g₀ :: r := hr
  rcases hq' with ⟨hqc, L, hfe, hL⟩ | ⟨q, rfl, E, ce, L, hx, hce, hcv, hcl, hW₂, hsm, hL⟩
  · obtain ⟨⟨v, rfl⟩, hW₂, e2, q2, q3, q4, q5, q6⟩ := id hfe
    have e3 : s₂ = ({ (U.calling g mk a).setFrames s₂.frames with heap := s₂.heap, slotsUsed := s₂.slotsUsed } : State).setVm s₂.vm := by
      have : s₂ = ({ s₂ with vm := (U.calling g mk a).vm } : State).setVm s₂.vm := rfl
      rw [e2] at this
      exact this
    obtain ⟨c₂, i₂, len₂, hc₂, hd₂, hf₂⟩ := hend
    have hW' : U.WarmedH s₂.vm := hW₂
    have hcc : c₂ = c := by
      have h1 : s₂.code? g.method = U.code? g.method := by
        rw [State.code?_eq, State.code?_eq, hW'.alike.method?]
      exact Option.some.inj (hc₂.symm.trans (h1.trans h.code))
    subst hcc
    have hlen : len₂ = len := by rw [hdg] at hd₂; cases hd₂; rfl
    subst hlen
    have hs₂ : s₂ = (({ U with heap := s₂.heap, slotsUsed := s₂.slotsUsed } : State).setVm s₂.vm).setTop { g with pc := g.pc + len₂, stack := v.toList ++ g.stack } := by
      refine e3.trans ?_
      rw [hf₂, State.calling_eq h.top, State.setFrames_setFrames, State.setTop_of_frames _ hr', hr]
      rfl
    have hsame : U.sameButNew ({ U with heap := s₂.heap, slotsUsed := s₂.slotsUsed } : State) L mc ms := by
      refine ⟨?_, q2, q3, q4, q5, q6⟩
      obtain ⟨t, ht, -⟩ := State.frames_cons hr
      show ({ U with heap := s₂.heap, slotsUsed := s₂.slotsUsed } : State) = { U.setFrames U.frames with heap := s₂.heap, slotsUsed := s₂.slotsUsed }
      rw [State.setFrames_self ht]
    subst hg
    refine Or.inl ⟨v, ⟨(({ U with heap := s₂.heap, slotsUsed := s₂.slotsUsed } : State).setVm s₂.vm), Ls ++ L, c0 + mc, s0 + ms⟩,
      ⟨X.admits, X.cas, X.clock, X.frames, X.room, X.hears, X.method, X.code, (X.here.setHeapUsed s₂.heap s₂.slotsUsed).setVm hW'.alike, X.tail, State.WarmedH.trans X.warmed hW', X.limits, X.bytes, X.same.trans (hsame.setVm s.vm)⟩,
      ⟨g, mk, s₂, L, rfl, rfl, hqc, rfl, hL, rfl, rfl⟩, ?_⟩
    show Steps p.tables e below _ ((({ U with heap := s₂.heap, slotsUsed := s₂.slotsUsed } : State).setVm s₂.vm).setTop { g with pc := g.pc + len₂, stack := v.toList ++ g.stack })
    rw [← hs₂]
    exact hsteps
  · obtain ⟨e2, q2, q3, q4, q5, q6⟩ := id hsm
    have e3 : s₂ = ({ (U.calling g mk a).setFrames s₂.frames with heap := s₂.heap, slotsUsed := s₂.slotsUsed } : State).setVm s₂.vm := by
      have : s₂ = ({ s₂ with vm := (U.calling g mk a).vm } : State).setVm s₂.vm := rfl
      rw [e2] at this
      exact this
    have hf₂ : s₂.frames = .throwing q :: .java g :: U.frames.tail := hend
    have hW' : U.WarmedH s₂.vm := hW₂
    have hs₂ : s₂ = ((({ U with heap := s₂.heap, slotsUsed := s₂.slotsUsed } : State).setVm s₂.vm).setTop g).pushFrame (.throwing q) := by
      refine e3.trans ?_
      rw [hf₂, State.calling_eq h.top, State.setFrames_setFrames, State.pushFrame, State.frames_setTop _ hr', State.setTop_of_frames _ hr', State.setFrames_setFrames, hr]
      rfl
    have hsame : U.sameButNew ({ U with heap := s₂.heap, slotsUsed := s₂.slotsUsed } : State) L mc ms := by
      refine ⟨?_, q2, q3, q4, q5, q6⟩
      obtain ⟨t, ht, -⟩ := State.frames_cons hr
      show ({ U with heap := s₂.heap, slotsUsed := s₂.slotsUsed } : State) = { U.setFrames U.frames with heap := s₂.heap, slotsUsed := s₂.slotsUsed }
      rw [State.setFrames_self ht]
    subst hg
    refine Or.inr ⟨q, ⟨(({ U with heap := s₂.heap, slotsUsed := s₂.slotsUsed } : State).setVm s₂.vm), Ls ++ L, c0 + mc, s0 + ms⟩,
      ⟨X.admits, X.cas, X.clock, X.frames, X.room, X.hears, X.method, X.code, (X.here.setHeapUsed s₂.heap s₂.slotsUsed).setVm hW'.alike, X.tail, State.WarmedH.trans X.warmed hW', X.limits, X.bytes, X.same.trans (hsame.setVm s.vm)⟩,
      ⟨g, mk, s₂, L, E, ce, rfl, rfl, hx, hce, hcv, hcl, rfl, hL, rfl, rfl⟩, ?_⟩
    show Steps p.tables e below _ (((({ U with heap := s₂.heap, slotsUsed := s₂.slotsUsed } : State).setVm s₂.vm).setTop g).pushFrame (.throwing q))
    rw [← hs₂]
    exact hsteps
end
variable {p : Program} {l : Launch} {e : Env} {R : Room} {s : State} {m : MethodId} {args : Array Value} {below : List Frame} {meth : Method} {c : Code} {T : State} {H : Heap} {locs : List Loc} {cells slots : Nat}
theorem vx_callVX (X : Stand p l e R s m args below meth c T locs cells slots) (hexec : p.tables.exec = Jvm.exec) {own C : String} {index : Nat} {y : MethodName} {bytes : ByteArray} {maxL : Nat} {ret : Option FieldType} {hh : List (Nat × Nat × Nat × Nat)}
    (hown : s.vm.findClass own = some m.cls) (hlink : (Cond.methodLink own index y).before args s = true) (hinst : (Cond.instanceMethod y).before args s = true) (hsel : (Cond.selects C y y).before args s = true)
    (hcode : (Cond.codeWith y bytes maxL ret hh).before args s = true) (hy : y.cls ≠ "java/lang/invoke/MethodHandle" ∧ y.cls ≠ "java/lang/invoke/VarHandle")
    {W9 : Nat} {Pre : Pt → Array Value → Prop} {Post : Pt → Array Value → Option Value → Pt → Prop} {PostX : Pt → Array Value → Addr → Pt → Prop} (hK : vx_Back l R p e below s args y 3 W9 Pre Post PostX)
    {b : Addr} {cellB : Cell} (hcell : T.heap[b]? = some cellB) (hobj : cellB.vm.isStatics = false) (hcls : s.vm.findClass C = some cellB.cls)
    {g : JFrame} (hg : g.method = m) (hsize : g.locals.size = c.maxLocals) {argsL rest : List Value} (hlen : ∀ sig, parseMethodDescriptor y.desc = some sig → argsL.length = sig.parameters.length)
    (hstack : g.stack = argsL.reverse ++ .ref b :: rest) (hW : 2 * g.monitorRoom + (rest.map fun v => v.category).sum ≤ W9) (hdg : decode c.code g.pc = .ok (.invokevirtual index, 3))
    (hpre : ∀ vm₁, s.WarmedH vm₁ → Pre ⟨T.setVm vm₁, locs, cells, slots⟩ (Value.ref b :: argsL).toArray) :
    (∃ (v : Option Value) (vm₁ : Vm) (B : Pt), s.WarmedH vm₁ ∧ Stand p l e R s m args below meth c B.U B.locs B.cells B.slots ∧ Post ⟨T.setVm vm₁, locs, cells, slots⟩ (Value.ref b :: argsL).toArray v B ∧
      ∀ target, Steps p.tables e below (B.U.setTop { g with pc := g.pc + 3, stack := v.toList ++ rest }) target → Steps p.tables e below (T.setTop g) target) ∨
    (∃ (q : Addr) (vm₁ : Vm) (B : Pt), s.WarmedH vm₁ ∧ Stand p l e R s m args below meth c B.U B.locs B.cells B.slots ∧ PostX ⟨T.setVm vm₁, locs, cells, slots⟩ (Value.ref b :: argsL).toArray q B ∧
      Steps p.tables e below (T.setTop g) ((B.U.setTop { g with stack := rest }).pushFrame (.throwing q))) := by
  obtain ⟨mk, methM, hnamed, hmethM, hstM, habM⟩ := Cond.instanceMethod_spec hinst
  obtain ⟨m8, methM', cM, hn8, hmethM', -, -, -, -, -, -, hsigM⟩ := Cond.codeWith_spec hcode
  cases Option.some.inj (hn8.symm.trans hnamed)
  cases hmethM.symm.trans hmethM'
  obtain ⟨c2, r2, m2, q1, q2, q3, q4, kP, hkP, hkPi⟩ := Cond.selects_spec hsel
  cases hcls.symm.trans q1
  cases (State.methodFound?_of_named hnamed hy).symm.trans q2
  cases hnamed.symm.trans q3
  have hselP : selectMethod e.platform s.vm cellB.cls mk = .method mk := by rw [Launch.admits_selectMethod X.admits]; exact q4
  obtain ⟨vm₁, X₁, hstep₁⟩ := X.invokevirtual hexec hown hlink hnamed hmethM hstM hkP hkPi hy (a := b) (cell := cellB) hcell
    (fun z h => by rw [h] at hobj; cases hobj) hselP hmethM habM hkP hkPi (g := g) hg (argsL := argsL) (rest := rest) (hlen _ hsigM) hstack hdg
  rcases hK m meth c ⟨T.setVm vm₁, locs, cells, slots⟩ { g with stack := rest } (.invokevirtual index) mk (Value.ref b :: argsL).toArray X₁ hg hsize hdg hW (X₁.named hnamed) (hpre vm₁ X₁.warmed) with ⟨v, B, X', hpost, hsteps⟩ | ⟨q, B, X', hpost, hsteps⟩
  · exact Or.inl ⟨v, vm₁, B, X₁.warmed, X', hpost, fun target h => hstep₁ _ fun acts => by rw [doInvoke_state]; exact hsteps.trans h⟩
  · exact Or.inr ⟨q, vm₁, B, X₁.warmed, X', hpost, hstep₁ _ fun acts => by rw [doInvoke_state]; exact hsteps⟩
theorem vx_callSX (X : Stand p l e R s m args below meth c T locs cells slots) (hexec : p.tables.exec = Jvm.exec) {own : String} {index : Nat} {y : MethodName} {bytes : ByteArray} {maxL : Nat} {ret : Option FieldType} {hh : List (Nat × Nat × Nat × Nat)}
    (hown : s.vm.findClass own = some m.cls) (hlink : (Cond.methodLink own index y).before args s = true) (hstat : (Cond.static y).before args s = true) (hinit : (Cond.initialized y.cls).before args s = true)
    (hcode : (Cond.codeWith y bytes maxL ret hh).before args s = true) (hy : y.cls ≠ "java/lang/invoke/MethodHandle" ∧ y.cls ≠ "java/lang/invoke/VarHandle")
    {W9 : Nat} {Pre : Pt → Array Value → Prop} {Post : Pt → Array Value → Option Value → Pt → Prop} {PostX : Pt → Array Value → Addr → Pt → Prop} (hK : vx_Back l R p e below s args y 3 W9 Pre Post PostX)
    {g : JFrame} (hg : g.method = m) (hsize : g.locals.size = c.maxLocals) {argsL rest : List Value} (hlen : ∀ sig, parseMethodDescriptor y.desc = some sig → argsL.length = sig.parameters.length)
    (hstack : g.stack = argsL.reverse ++ rest) (hW : 2 * g.monitorRoom + (rest.map fun v => v.category).sum ≤ W9) (hdg : decode c.code g.pc = .ok (.invokestatic index, 3))
    (hpre : ∀ vm₁, s.WarmedH vm₁ → Pre ⟨T.setVm vm₁, locs, cells, slots⟩ argsL.toArray) :
    (∃ (v : Option Value) (vm₁ : Vm) (B : Pt), s.WarmedH vm₁ ∧ Stand p l e R s m args below meth c B.U B.locs B.cells B.slots ∧ Post ⟨T.setVm vm₁, locs, cells, slots⟩ argsL.toArray v B ∧
      ∀ target, Steps p.tables e below (B.U.setTop { g with pc := g.pc + 3, stack := v.toList ++ rest }) target → Steps p.tables e below (T.setTop g) target) ∨
    (∃ (q : Addr) (vm₁ : Vm) (B : Pt), s.WarmedH vm₁ ∧ Stand p l e R s m args below meth c B.U B.locs B.cells B.slots ∧ PostX ⟨T.setVm vm₁, locs, cells, slots⟩ argsL.toArray q B ∧
      Steps p.tables e below (T.setTop g) ((B.U.setTop { g with stack := rest }).pushFrame (.throwing q))) := by
  obtain ⟨mk, methM, cM, hnamed, hmethM, -, -, -, -, -, -, hsigM⟩ := Cond.codeWith_spec hcode
  have hstatic : methM.isStatic = true := Cond.static_spec hnamed hmethM hstat
  obtain ⟨kP, hkP, -⟩ := className_of_methodNamed hnamed
  have hinitP : kP.init = .initialized := Cond.initialized_spec (findClass_of_methodNamed hnamed) hkP hinit
  obtain ⟨vm₁, X₁, hstep₁⟩ := X.invokestatic hexec hown hlink hnamed hmethM hstatic hkP hinitP hy (g := g) hg (argsL := argsL) (rest := rest) (hlen _ hsigM) hstack hdg
  rcases hK m meth c ⟨T.setVm vm₁, locs, cells, slots⟩ { g with stack := rest } (.invokestatic index) mk argsL.toArray X₁ hg hsize hdg hW (X₁.named hnamed) (hpre vm₁ X₁.warmed) with ⟨v, B, X', hpost, hsteps⟩ | ⟨q, B, X', hpost, hsteps⟩
  · exact Or.inl ⟨v, vm₁, B, X₁.warmed, X', hpost, fun target h => hstep₁ _ fun acts => by rw [doInvoke_state]; exact hsteps.trans h⟩
  · exact Or.inr ⟨q, vm₁, B, X₁.warmed, X', hpost, hstep₁ _ fun acts => by rw [doInvoke_state]; exact hsteps⟩
theorem vx_callVW (X : Stand p l e R s m args below meth c T locs cells slots) (hexec : p.tables.exec = Jvm.exec) {own C : String} {index : Nat} {y : MethodName} {bytes : ByteArray} {maxL : Nat} {ret : Option FieldType} {hh : List (Nat × Nat × Nat × Nat)}
    (hown : s.vm.findClass own = some m.cls) (hlink : (Cond.methodLink own index y).before args s = true) (hinst : (Cond.instanceMethod y).before args s = true) (hsel : (Cond.selects C y y).before args s = true)
    (hcode : (Cond.codeWith y bytes maxL ret hh).before args s = true) (hy : y.cls ≠ "java/lang/invoke/MethodHandle" ∧ y.cls ≠ "java/lang/invoke/VarHandle")
    {W9 : Nat} {Pre : Pt → Array Value → Prop} {Post : Pt → Array Value → Option Value → Pt → Prop} (hK : Back l R p e below s args y 3 W9 Pre Post)
    {b : Addr} {cellB : Cell} (hcell : T.heap[b]? = some cellB) (hobj : cellB.vm.isStatics = false) (hcls : s.vm.findClass C = some cellB.cls)
    {g : JFrame} (hg : g.method = m) (hsize : g.locals.size = c.maxLocals) {argsL rest : List Value} (hlen : ∀ sig, parseMethodDescriptor y.desc = some sig → argsL.length = sig.parameters.length)
    (hstack : g.stack = argsL.reverse ++ .ref b :: rest) (hW : 2 * g.monitorRoom + (rest.map fun v => v.category).sum ≤ W9) (hdg : decode c.code g.pc = .ok (.invokevirtual index, 3))
    (hpre : ∀ vm₁, s.WarmedH vm₁ → Pre ⟨T.setVm vm₁, locs, cells, slots⟩ (Value.ref b :: argsL).toArray) :
    ∃ (v : Option Value) (vm₁ : Vm) (B : Pt), s.WarmedH vm₁ ∧ Stand p l e R s m args below meth c B.U B.locs B.cells B.slots ∧ Post ⟨T.setVm vm₁, locs, cells, slots⟩ (Value.ref b :: argsL).toArray v B ∧
      ∀ target, Steps p.tables e below (B.U.setTop { g with pc := g.pc + 3, stack := v.toList ++ rest }) target → Steps p.tables e below (T.setTop g) target := by
  obtain ⟨mk, methM, hnamed, hmethM, hstM, habM⟩ := Cond.instanceMethod_spec hinst
  obtain ⟨m8, methM', cM, hn8, hmethM', -, -, -, -, -, -, hsigM⟩ := Cond.codeWith_spec hcode
  cases Option.some.inj (hn8.symm.trans hnamed)
  cases hmethM.symm.trans hmethM'
  obtain ⟨c2, r2, m2, q1, q2, q3, q4, kP, hkP, hkPi⟩ := Cond.selects_spec hsel
  cases hcls.symm.trans q1
  cases (State.methodFound?_of_named hnamed hy).symm.trans q2
  cases hnamed.symm.trans q3
  have hselP : selectMethod e.platform s.vm cellB.cls mk = .method mk := by rw [Launch.admits_selectMethod X.admits]; exact q4
  obtain ⟨vm₁, X₁, hstep₁⟩ := X.invokevirtual hexec hown hlink hnamed hmethM hstM hkP hkPi hy (a := b) (cell := cellB) hcell
    (fun z h => by rw [h] at hobj; cases hobj) hselP hmethM habM hkP hkPi (g := g) hg (argsL := argsL) (rest := rest) (hlen _ hsigM) hstack hdg
  obtain ⟨v, B, X', hpost, hsteps⟩ := hK m meth c ⟨T.setVm vm₁, locs, cells, slots⟩ { g with stack := rest } (.invokevirtual index) mk (Value.ref b :: argsL).toArray X₁ hg hsize hdg hW (X₁.named hnamed) (hpre vm₁ X₁.warmed)
  exact ⟨v, vm₁, B, X₁.warmed, X', hpost, fun target h => hstep₁ _ fun acts => by rw [doInvoke_state]; exact hsteps.trans h⟩
abbrev vx_CVW (R : Room) (s : State) (args : Array Value) (own C : String) (index : Nat) (y : MethodName) (bytes : ByteArray) (maxL : Nat) (ret : Option FieldType) (hh : List (Nat × Nat × Nat × Nat)) (ws : List Cond) (rm : Room) (mc ms n : Nat) : Prop :=
  (rm.cells = mc ∧ rm.slots = ms ∧ rm.frames + 1 ≤ R.frames ∧ 8 + (maxL + 11) + rm.locals ≤ R.locals ∧ (∀ w ∈ ws, ∀ (a' : Array Value) (U : State), s.WarmedH U.vm → w.before a' U = true) ∧ Cond.codeWith y bytes maxL ret hh ∈ ws) ∧
  (Cond.codeWith y bytes maxL ret hh).before args s = true ∧ (Cond.initialized y.cls).before args s = true ∧ (y.cls ≠ "java/lang/invoke/MethodHandle" ∧ y.cls ≠ "java/lang/invoke/VarHandle") ∧
  (∀ sig, parseMethodDescriptor y.desc = some sig → n = sig.parameters.length) ∧ (Cond.methodLink own index y).before args s = true ∧ (Cond.instanceMethod y).before args s = true ∧ (Cond.selects C y y).before args s = true
theorem vx_cwVW {own C : String} {index maxL mc ms : Nat} {y : MethodName} {bytes : ByteArray} {ret : Option FieldType} {hh : List (Nat × Nat × Nat × Nat)} {Ts ws ws' : List Cond} {rm : Room} (n : Nat) (ht : ∀ w ∈ Ts, w.before args s = true) (hT : GoodIn Ts (wsV own index C y ws)) (hw : ws = Cond.codeWith y bytes maxL ret hh :: ws') (hrc : rm.cells = mc) (hrs : rm.slots = ms)
    (hd : y.cls = C ∧ y.cls ≠ "java/lang/invoke/MethodHandle" ∧ y.cls ≠ "java/lang/invoke/VarHandle" ∧ (parseMethodDescriptor y.desc).map (fun d => d.parameters.length) = some n) (hR : rm.frames + 1 ≤ R.frames ∧ 8 + (maxL + 11) + rm.locals ≤ R.locals) :
    vx_CVW R s args own C index y bytes maxL ret hh ws rm mc ms n := by
  obtain ⟨hC, hd⟩ := hd
  subst hC
  have ok : ∀ w ∈ wsV own index y.cls y ws, w.before args s = true := fun w h => ht w (hT w h).1
  have hG : GoodIn Ts ws := fun w h => hT w (by unfold wsV; exact List.mem_append_right _ h)
  have hc : Cond.codeWith y bytes maxL ret hh ∈ ws := by rw [hw]; exact List.mem_cons_self
  refine ⟨⟨hrc, hrs, hR.1, hR.2, pay_in ht hG, hc⟩, ht _ (hG _ hc).1, ok _ (by simp [wsV]), ⟨hd.1, hd.2.1⟩, fun sig h => ?_, ok _ (by simp [wsV]), ok _ (by simp [wsV]), ok _ (by simp [wsV])⟩
  have h2 := hd.2.2
  rw [h] at h2
  exact (Option.some.inj h2).symm
theorem vx_runVW {y : MethodName} {bytes cc : ByteArray} {maxL nL mc ms n index : Nat} {ret : Option FieldType} {hh : List (Nat × Nat × Nat × Nat)} {ws : List Cond} {rm : Room} {Pc : Array Value → State → Prop} {Qc : Array Value → State → Outcome → State → Prop} {free : Addr → Prop} {Ts : List Cond} {own C : String} {b : Addr} {As rest : List Value} {g : JFrame}
    (S : CallFix p m c cc nL s args Ts own) (hM : Met l y ws rm Pc Qc mc ms free) (cw : vx_CVW R s args own C index y bytes maxL ret hh ws rm mc ms n) (hp : PreV s H C b Pc As)
    (hg : g.method = m) (hn : As.length = n) (hsize : g.locals.size = nL) (hstack : g.stack = As.reverse ++ .ref b :: rest) (hW : 2 * g.monitorRoom + (rest.map fun v => v.category).sum ≤ 8) (hdg : decode cc g.pc = .ok (.invokevirtual index, 3)) (hf : cells + mc ≤ R.cells ∧ slots + ms ≤ R.slots) :
    va_Run p l e R s m args below meth c H locs cells slots mc ms g rest (Qc (Value.ref b :: As).toArray) free := by
  obtain ⟨⟨hrc, hrs, hfr, hlo, hws, hcw⟩, hcode, hini, hy, hlen, hl, hin, hse⟩ := cw
  have hK : Back l R p e below s args y 3 8 (PreOf R mc ms Pc) (PostOf Qc mc ms free) := va_backW (hh := hh) (bytes := bytes) (maxL := maxL) (ret := ret) hM hp.1 hrc hrs hfr hlo hws hcw (fun a' U hW => word_at hW (Or.inl (by first | rfl | simp [Cond.onTables, Cond.keeps, Cond.steady])) hini)
  obtain ⟨hx, hb, hml, ho, -⟩ := S
  obtain ⟨-, ⟨cellB, hcB, hoB, hclB⟩, hPc⟩ := hp
  intro T hT X
  obtain ⟨v, vm₁, ⟨U', l2, c2, s2⟩, hW₁, X', ⟨g', mk, t, L, e1, e2, hq, h1, hL, h2, h3⟩, st⟩ := vx_callVW X hx (C := C) (hh := hh) (bytes := bytes) (maxL := maxL) (ret := ret) ho hl hin hse hcode hy hK (by rw [hT]; exact hcB) hoB hclB hg (hsize.trans hml.symm) (argsL := As) (rest := rest) (fun sig h => hn.trans (hlen sig h)) hstack hW (by rw [hb]; exact hdg)
    (fun vm₁ hW₁ => ⟨hf.1, hf.2, hPc (T.setVm vm₁) hT hW₁⟩)
  dsimp only [Pt.U, Pt.locs, Pt.cells, Pt.slots] at X' e1 e2 h1 h2 h3 st
  subst h1; subst h2; subst h3
  exact ⟨v, (T.setVm vm₁).calling g' mk (Value.ref b :: As).toArray, t, U', L, hT, X', hL, e1, e2, hq, st⟩
section
variable {y : MethodName} {bytes cc : ByteArray} {maxL nL mc ms n index : Nat} {ret : Option FieldType} {ws : List Cond} {rm : Room} {Pc : Array Value → State → Prop} {Qc : Array Value → State → Outcome → State → Prop} {XC : String → State → State → Prop} {free : Addr → Prop} {Ts : List Cond} {own C : String} {b : Addr} {As rest : List Value} {g : JFrame}
theorem vx_runVX {hh : List (Nat × Nat × Nat × Nat)} (S : CallFix p m c cc nL s args Ts own) (hM : vx_Met l y ws rm Pc Qc XC mc ms free) (cw : vx_CVW R s args own C index y bytes maxL ret hh ws rm mc ms n) (hp : PreV s H C b Pc As)
    (hg : g.method = m) (hn : As.length = n) (hsize : g.locals.size = nL) (hstack : g.stack = As.reverse ++ .ref b :: rest) (hW : 2 * g.monitorRoom + (rest.map fun v => v.category).sum ≤ 8) (hdg : decode cc g.pc = .ok (.invokevirtual index, 3)) (hf : cells + mc ≤ R.cells ∧ slots + ms ≤ R.slots) :
    vx_Run p l e R s m args below meth c H locs cells slots mc ms g rest (Qc (Value.ref b :: As).toArray) XC free := by
  obtain ⟨⟨hrc, hrs, hfr, hlo, hws, hcw⟩, hcode, hini, hy, hlen, hl, hin, hse⟩ := cw
  have hK : vx_Back l R p e below s args y 3 8 (PreOf R mc ms Pc) (PostOf Qc mc ms free) (vx_Post XC mc ms free) := vx_backW (hh := hh) (bytes := bytes) (maxL := maxL) (ret := ret) hM hp.1 hrc hrs hfr hlo hws hcw (fun a' U hW => word_at hW (Or.inl (by first | rfl | simp [Cond.onTables, Cond.keeps, Cond.steady])) hini)
  obtain ⟨hx, hb, hml, ho, -⟩ := S
  obtain ⟨-, ⟨cellB, hcB, hoB, hclB⟩, hPc⟩ := hp
  intro T hT X
  rcases vx_callVX X hx (C := C) (hh := hh) (bytes := bytes) (maxL := maxL) (ret := ret) ho hl hin hse hcode hy hK (by rw [hT]; exact hcB) hoB hclB hg (hsize.trans hml.symm) (argsL := As) (rest := rest) (fun sig h => hn.trans (hlen sig h)) hstack hW (by rw [hb]; exact hdg)
    (fun vm₁ hW₁ => ⟨hf.1, hf.2, hPc (T.setVm vm₁) hT hW₁⟩) with ⟨v, vm₁, ⟨U', l2, c2, s2⟩, hW₁, X', ⟨g', mk, t, L, e1, e2, hq, h1, hL, h2, h3⟩, st⟩ | ⟨q, vm₁, ⟨U', l2, c2, s2⟩, hW₁, X', ⟨g', mk, t, L, E, ce, e1, e2, hq, hce, hcv, hcl, h1, hL, h2, h3⟩, st⟩
  · dsimp only [Pt.U, Pt.locs, Pt.cells, Pt.slots] at X' e1 e2 h1 h2 h3 st
    subst h1; subst h2; subst h3
    exact Or.inl ⟨v, (T.setVm vm₁).calling g' mk (Value.ref b :: As).toArray, t, U', L, hT, X', hL, e1, e2, hq, st⟩
  · dsimp only [Pt.U, Pt.locs, Pt.cells, Pt.slots] at X' e1 e2 h1 h2 h3 st hcl
    subst h1; subst h2; subst h3
    exact Or.inr ⟨q, (T.setVm vm₁).calling g' mk (Value.ref b :: As).toArray, t, U', L, E, ce, hT, X', hL, e1, e2, hq, hce, hcv, vx_cls hW₁ hcl, st⟩
theorem vx_runSX {hh : List (Nat × Nat × Nat × Nat)} (S : CallFix p m c cc nL s args Ts own) (hM : vx_Met l y ws rm Pc Qc XC mc ms free) (cw : vx_CSW R s args own index y bytes maxL ret hh ws rm mc ms n) (hp : PreS s H Pc As)
    (hg : g.method = m) (hn : As.length = n) (hsize : g.locals.size = nL) (hstack : g.stack = As.reverse ++ rest) (hW : 2 * g.monitorRoom + (rest.map fun v => v.category).sum ≤ 8) (hdg : decode cc g.pc = .ok (.invokestatic index, 3)) (hf : cells + mc ≤ R.cells ∧ slots + ms ≤ R.slots) :
    vx_Run p l e R s m args below meth c H locs cells slots mc ms g rest (Qc As.toArray) XC free := by
  obtain ⟨⟨hrc, hrs, hfr, hlo, hws, hcw⟩, hcode, hini, hy, hlen, hl, hstt⟩ := cw
  have hK : vx_Back l R p e below s args y 3 8 (PreOf R mc ms Pc) (PostOf Qc mc ms free) (vx_Post XC mc ms free) := vx_backW (hh := hh) (bytes := bytes) (maxL := maxL) (ret := ret) hM hp.1 hrc hrs hfr hlo hws hcw (fun a' U hW => word_at hW (Or.inl (by first | rfl | simp [Cond.onTables, Cond.keeps, Cond.steady])) hini)
  obtain ⟨hx, hb, hml, ho, -⟩ := S
  intro T hT X
  rcases vx_callSX X hx (hh := hh) (bytes := bytes) (maxL := maxL) (ret := ret) ho hl hstt hini hcode hy hK hg (hsize.trans hml.symm) (argsL := As) (rest := rest) (fun sig h => hn.trans (hlen sig h)) hstack hW (by rw [hb]; exact hdg)
    (fun vm₁ hW₁ => ⟨hf.1, hf.2, hp.2 (T.setVm vm₁) hT hW₁⟩) with ⟨v, vm₁, ⟨U', l2, c2, s2⟩, hW₁, X', ⟨g', mk, t, L, e1, e2, hq, h1, hL, h2, h3⟩, st⟩ | ⟨q, vm₁, ⟨U', l2, c2, s2⟩, hW₁, X', ⟨g', mk, t, L, E, ce, e1, e2, hq, hce, hcv, hcl, h1, hL, h2, h3⟩, st⟩
  · dsimp only [Pt.U, Pt.locs, Pt.cells, Pt.slots] at X' e1 e2 h1 h2 h3 st
    subst h1; subst h2; subst h3
    exact Or.inl ⟨v, (T.setVm vm₁).calling g' mk As.toArray, t, U', L, hT, X', hL, e1, e2, hq, st⟩
  · dsimp only [Pt.U, Pt.locs, Pt.cells, Pt.slots] at X' e1 e2 h1 h2 h3 st hcl
    subst h1; subst h2; subst h3
    exact Or.inr ⟨q, (T.setVm vm₁).calling g' mk As.toArray, t, U', L, E, ce, hT, X', hL, e1, e2, hq, hce, hcv, vx_cls hW₁ hcl, st⟩
end
end VXH
theorem vx_ofWH {l : Launch} {y : MethodName} {ws ws' : List Cond} {rm : Room} {Pc : Array Value → State → Prop} {Qc : Array Value → State → Outcome → State → Prop} {XC : String → State → State → Prop} {mc ms : Nat} {free : Addr → Prop} {cc : ByteArray} {maxL : Nat} {ret : Option FieldType} {hh : List (Nat × Nat × Nat × Nat)}
    (hy : plainName y.cls = true) (hw : ws = Cond.codeWith y cc maxL ret hh :: ws')
    (body : ∀ p e s m args below meth c s₁, BodyLoose p l y (headSpec ws rm) cc maxL ret e s m args below meth c s₁ → c.maxLocals = maxL → Pc args s →
      W p l e (headSpec ws rm).room s m args below meth c s.heap [] 0 0 (vx_MQ below Qc XC args s mc ms free) (entryFrame m args maxL)) : vx_Met l y ws rm Pc Qc XC mc ms free := by
  refine MetFree.of_bodyS (code := cc) (maxLocals := maxL) (ret := ret) hy ?_ ?_
  · intro args s m h hn
    obtain ⟨m9, meth, c, hn9, h1, h2, h3, h4, -, h5, h6, -⟩ := Cond.codeWith_spec (atoms_spec (ws := ws) h _ (by rw [hw]; exact List.mem_cons_self))
    cases hn.symm.trans hn9
    exact ⟨meth, c, h1, h2, h3, h4, h5, h6⟩
  · intro p e s m args below meth c s₁ B hml hP _
    have hh0 : s₁.heap = s.heap := by rw [B.state]; rfl
    obtain ⟨t, a1, o, b1, b2, b3⟩ := body p e s m args below meth c s₁ B hml hP s₁ hh0 (Stand.of_body B)
    exact ⟨t, o, a1, b1, b2, b3⟩
/-! ===== END ===== -/

def RX0 : String := "CashLedger$Assets"
def TX0 : u_T := fun k => match k with
  | 0 => ("CashLedger$Assets", "size", "I", false)
  | 1 => ("CashLedger$Assets", "price", "[I", true)
  | 2 => ("CashLedger$Assets", "day", "[I", true)
  | 3 => ("CashLedger$Assets", "life", "[I", true)
  | 4 => ("CashLedger$Assets", "sort", "[I", true)
  | 5 => ("CashLedger$Assets", "soldDay", "[I", true)
  | _ => ("CashLedger$Assets", "soldPrice", "[I", true)
def tyX0 : Nat → FieldType := fun k => match k with
  | 0 => .int
  | 1 => .array .int
  | 2 => .array .int
  | 3 => .array .int
  | 4 => .array .int
  | 5 => .array .int
  | _ => .array .int
abbrev wsX00 : List Cond := u_ws RX0 TX0 7
theorem nmX0 : ∀ a, a < 7 → ∀ b, b < 7 → a ≠ b → (TX0 a).2.1 ≠ (TX0 b).2.1 := by decide +kernel
theorem tyX0_ok : ∀ k, k < 7 → parseFieldDescriptor (TX0 k).2.2.1 = some (tyX0 k) := by decide +kernel
abbrev cX0_init : ByteArray := prog_2_method_1_code
def yX0_init : MethodName := ⟨RX0, "<init>", "()V"⟩
abbrev cX0_add : ByteArray := prog_2_method_2_code
def yX0_add : MethodName := ⟨RX0, "add", "(IIII)I"⟩
abbrev cX0_copyFrom : ByteArray := prog_2_method_3_code
def yX0_copyFrom : MethodName := ⟨RX0, "copyFrom", "(LCashLedger$Assets;)V"⟩
abbrev cX0_soldOnes : ByteArray := prog_2_method_4_code
def yX0_soldOnes : MethodName := ⟨RX0, "soldOnes", "()I"⟩
abbrev cX0_isSoldBy : ByteArray := prog_2_method_5_code
def yX0_isSoldBy : MethodName := ⟨RX0, "isSoldBy", "(II)Z"⟩
abbrev cX0_writtenUpTo : ByteArray := prog_2_method_6_code
def yX0_writtenUpTo : MethodName := ⟨RX0, "writtenUpTo", "(II)I"⟩
abbrev cX0_writtenIn : ByteArray := prog_2_method_7_code
def yX0_writtenIn : MethodName := ⟨RX0, "writtenIn", "(II)I"⟩
abbrev cX0_valueAt : ByteArray := prog_2_method_8_code
def yX0_valueAt : MethodName := ⟨RX0, "valueAt", "(II)I"⟩
abbrev cX0_allWrittenUpTo : ByteArray := prog_2_method_9_code
def yX0_allWrittenUpTo : MethodName := ⟨RX0, "allWrittenUpTo", "(I)J"⟩
abbrev cX0_poolAt : ByteArray := prog_2_method_10_code
def yX0_poolAt : MethodName := ⟨RX0, "poolAt", "(I)I"⟩
abbrev cX0_poolWrittenUpTo : ByteArray := prog_2_method_11_code
def yX0_poolWrittenUpTo : MethodName := ⟨RX0, "poolWrittenUpTo", "(I)I"⟩
abbrev cX0_poolWrittenIn : ByteArray := prog_2_method_12_code
def yX0_poolWrittenIn : MethodName := ⟨RX0, "poolWrittenIn", "(I)I"⟩
abbrev cX0_soldFor : ByteArray := prog_2_method_13_code
def yX0_soldFor : MethodName := ⟨RX0, "soldFor", "(II)J"⟩
def RX1 : String := "CashLedger$Entries"
def TX1 : u_T := fun k => match k with
  | 0 => ("CashLedger$Entries", "size", "I", false)
  | 1 => ("CashLedger$Entries", "kind", "[I", true)
  | 2 => ("CashLedger$Entries", "category", "[I", true)
  | 3 => ("CashLedger$Entries", "amount", "[I", true)
  | 4 => ("CashLedger$Entries", "invoiced", "[I", true)
  | 5 => ("CashLedger$Entries", "paid", "[I", true)
  | 6 => ("CashLedger$Entries", "cancelled", "[Z", true)
  | _ => ("CashLedger$Entries", "late", "[Z", true)
def tyX1 : Nat → FieldType := fun k => match k with
  | 0 => .int
  | 1 => .array .int
  | 2 => .array .int
  | 3 => .array .int
  | 4 => .array .int
  | 5 => .array .int
  | 6 => .array .boolean
  | _ => .array .boolean
abbrev wsX10 : List Cond := u_ws RX1 TX1 8
theorem nmX1 : ∀ a, a < 8 → ∀ b, b < 8 → a ≠ b → (TX1 a).2.1 ≠ (TX1 b).2.1 := by decide +kernel
theorem tyX1_ok : ∀ k, k < 8 → parseFieldDescriptor (TX1 k).2.2.1 = some (tyX1 k) := by decide +kernel
abbrev cX1_init : ByteArray := prog_3_method_1_code
def yX1_init : MethodName := ⟨RX1, "<init>", "()V"⟩
abbrev cX1_add : ByteArray := prog_3_method_2_code
def yX1_add : MethodName := ⟨RX1, "add", "(IIIIIZ)I"⟩
abbrev cX1_copyFrom : ByteArray := prog_3_method_3_code
def yX1_copyFrom : MethodName := ⟨RX1, "copyFrom", "(LCashLedger$Entries;)V"⟩
abbrev cX1_isOpen : ByteArray := prog_3_method_4_code
def yX1_isOpen : MethodName := ⟨RX1, "isOpen", "(I)Z"⟩
abbrev cX1_counts : ByteArray := prog_3_method_5_code
def yX1_counts : MethodName := ⟨RX1, "counts", "(I)Z"⟩
abbrev cX1_countsWithin : ByteArray := prog_3_method_6_code
def yX1_countsWithin : MethodName := ⟨RX1, "countsWithin", "(III)Z"⟩
abbrev cX1_openOnes : ByteArray := prog_3_method_7_code
def yX1_openOnes : MethodName := ⟨RX1, "openOnes", "()I"⟩
abbrev cX1_cancelledOnes : ByteArray := prog_3_method_8_code
def yX1_cancelledOnes : MethodName := ⟨RX1, "cancelledOnes", "()I"⟩
abbrev cX1_lateOnes : ByteArray := prog_3_method_9_code
def yX1_lateOnes : MethodName := ⟨RX1, "lateOnes", "()I"⟩
abbrev cX1_sumPaid : ByteArray := prog_3_method_10_code
def yX1_sumPaid : MethodName := ⟨RX1, "sumPaid", "(III)J"⟩
abbrev cX1_incomesOf : ByteArray := prog_3_method_11_code
def yX1_incomesOf : MethodName := ⟨RX1, "incomesOf", "(I)J"⟩
abbrev cX1_sumOpen : ByteArray := prog_3_method_12_code
def yX1_sumOpen : MethodName := ⟨RX1, "sumOpen", "(I)J"⟩
abbrev cX1_firstInvoicedOpen : ByteArray := prog_3_method_13_code
def yX1_firstInvoicedOpen : MethodName := ⟨RX1, "firstInvoicedOpen", "()I"⟩
def RX2 : String := "CashLedger$History"
def TX2 : u_T := fun k => match k with
  | 0 => ("CashLedger$History", "ring", "[LCashLedger$State;", true)
  | 1 => ("CashLedger$History", "next", "I", false)
  | _ => ("CashLedger$History", "size", "I", false)
def tyX2 : Nat → FieldType := fun k => match k with
  | 0 => .array (.object "CashLedger$State")
  | 1 => .int
  | _ => .int
abbrev wsX20 : List Cond := u_ws RX2 TX2 3
theorem nmX2 : ∀ a, a < 3 → ∀ b, b < 3 → a ≠ b → (TX2 a).2.1 ≠ (TX2 b).2.1 := by decide +kernel
theorem tyX2_ok : ∀ k, k < 3 → parseFieldDescriptor (TX2 k).2.2.1 = some (tyX2 k) := by decide +kernel
abbrev cX2_init : ByteArray := prog_4_method_1_code
def yX2_init : MethodName := ⟨RX2, "<init>", "()V"⟩
abbrev cX2_clear : ByteArray := prog_4_method_2_code
def yX2_clear : MethodName := ⟨RX2, "clear", "()V"⟩
abbrev cX2_remember : ByteArray := prog_4_method_3_code
def yX2_remember : MethodName := ⟨RX2, "remember", "(LCashLedger$State;)V"⟩
abbrev cX2_takeBack : ByteArray := prog_4_method_4_code
def yX2_takeBack : MethodName := ⟨RX2, "takeBack", "(LCashLedger$State;)V"⟩
def RX3 : String := "CashLedger$Rooms"
def TX3 : u_T := fun k => match k with
  | 0 => ("CashLedger$Rooms", "size", "I", false)
  | 1 => ("CashLedger$Rooms", "area", "[I", true)
  | 2 => ("CashLedger$Rooms", "from", "[I", true)
  | _ => ("CashLedger$Rooms", "to", "[I", true)
def tyX3 : Nat → FieldType := fun k => match k with
  | 0 => .int
  | 1 => .array .int
  | 2 => .array .int
  | _ => .array .int
abbrev wsX30 : List Cond := u_ws RX3 TX3 4
theorem nmX3 : ∀ a, a < 4 → ∀ b, b < 4 → a ≠ b → (TX3 a).2.1 ≠ (TX3 b).2.1 := by decide +kernel
theorem tyX3_ok : ∀ k, k < 4 → parseFieldDescriptor (TX3 k).2.2.1 = some (tyX3 k) := by decide +kernel
abbrev cX3_init : ByteArray := prog_5_method_1_code
def yX3_init : MethodName := ⟨RX3, "<init>", "()V"⟩
abbrev cX3_add : ByteArray := prog_5_method_2_code
def yX3_add : MethodName := ⟨RX3, "add", "(III)I"⟩
abbrev cX3_copyFrom : ByteArray := prog_5_method_3_code
def yX3_copyFrom : MethodName := ⟨RX3, "copyFrom", "(LCashLedger$Rooms;)V"⟩
abbrev cX3_daysUsed : ByteArray := prog_5_method_4_code
def yX3_daysUsed : MethodName := ⟨RX3, "daysUsed", "(III)I"⟩
abbrev cX3_usedIn : ByteArray := prog_5_method_5_code
def yX3_usedIn : MethodName := ⟨RX3, "usedIn", "(I)I"⟩
abbrev cX3_wholeMonth : ByteArray := prog_5_method_6_code
def yX3_wholeMonth : MethodName := ⟨RX3, "wholeMonth", "()I"⟩
def RX4 : String := "CashLedger$Setup"
def TX4 : u_T := fun k => match k with
  | 0 => ("CashLedger$Setup", "start", "I", false)
  | 1 => ("CashLedger$Setup", "smallLimit", "I", false)
  | 2 => ("CashLedger$Setup", "poolLimit", "I", false)
  | 3 => ("CashLedger$Setup", "interestRate", "I", false)
  | 4 => ("CashLedger$Setup", "topRate", "I", false)
  | 5 => ("CashLedger$Setup", "bracketCount", "I", false)
  | 6 => ("CashLedger$Setup", "limits", "[I", true)
  | 7 => ("CashLedger$Setup", "rates", "[I", true)
  | _ => ("CashLedger$Setup", "rooms", "LCashLedger$Rooms;", true)
def tyX4 : Nat → FieldType := fun k => match k with
  | 0 => .int
  | 1 => .int
  | 2 => .int
  | 3 => .int
  | 4 => .int
  | 5 => .int
  | 6 => .array .int
  | 7 => .array .int
  | _ => .object "CashLedger$Rooms"
abbrev wsX40 : List Cond := u_ws RX4 TX4 9
theorem nmX4 : ∀ a, a < 9 → ∀ b, b < 9 → a ≠ b → (TX4 a).2.1 ≠ (TX4 b).2.1 := by decide +kernel
theorem tyX4_ok : ∀ k, k < 9 → parseFieldDescriptor (TX4 k).2.2.1 = some (tyX4 k) := by decide +kernel
abbrev cX4_init : ByteArray := prog_6_method_1_code
def yX4_init : MethodName := ⟨RX4, "<init>", "()V"⟩
abbrev cX4_useDefaults : ByteArray := prog_6_method_2_code
def yX4_useDefaults : MethodName := ⟨RX4, "useDefaults", "()V"⟩
abbrev cX4_addBracket : ByteArray := prog_6_method_3_code
def yX4_addBracket : MethodName := ⟨RX4, "addBracket", "(II)V"⟩
abbrev cX4_lastLimit : ByteArray := prog_6_method_4_code
def yX4_lastLimit : MethodName := ⟨RX4, "lastLimit", "()I"⟩
abbrev cX4_sortOf : ByteArray := prog_6_method_5_code
def yX4_sortOf : MethodName := ⟨RX4, "sortOf", "(I)I"⟩
abbrev cX4_taxOf : ByteArray := prog_6_method_6_code
def yX4_taxOf : MethodName := ⟨RX4, "taxOf", "(J)J"⟩
abbrev cX4_rateOf : ByteArray := prog_6_method_7_code
def yX4_rateOf : MethodName := ⟨RX4, "rateOf", "(I)I"⟩
def RX5 : String := "CashLedger$SetupReader"
def TX5 : u_T := fun k => match k with
  | 0 => ("CashLedger$SetupReader", "text", "[I", true)
  | 1 => ("CashLedger$SetupReader", "length", "I", false)
  | 2 => ("CashLedger$SetupReader", "position", "I", false)
  | 3 => ("CashLedger$SetupReader", "tokenKind", "I", false)
  | 4 => ("CashLedger$SetupReader", "tokenStart", "I", false)
  | 5 => ("CashLedger$SetupReader", "number", "I", false)
  | 6 => ("CashLedger$SetupReader", "target", "LCashLedger$Setup;", false)
  | 7 => ("CashLedger$SetupReader", "startSeen", "Z", false)
  | 8 => ("CashLedger$SetupReader", "assetsSeen", "Z", false)
  | 9 => ("CashLedger$SetupReader", "interestSeen", "Z", false)
  | _ => ("CashLedger$SetupReader", "topSeen", "Z", false)
def tyX5 : Nat → FieldType := fun k => match k with
  | 0 => .array .int
  | 1 => .int
  | 2 => .int
  | 3 => .int
  | 4 => .int
  | 5 => .int
  | 6 => .object "CashLedger$Setup"
  | 7 => .boolean
  | 8 => .boolean
  | 9 => .boolean
  | _ => .boolean
abbrev wsX50 : List Cond := u_ws RX5 TX5 11
theorem nmX5 : ∀ a, a < 11 → ∀ b, b < 11 → a ≠ b → (TX5 a).2.1 ≠ (TX5 b).2.1 := by decide +kernel
theorem tyX5_ok : ∀ k, k < 11 → parseFieldDescriptor (TX5 k).2.2.1 = some (tyX5 k) := by decide +kernel
abbrev cX5_init : ByteArray := prog_7_method_1_code
def yX5_init : MethodName := ⟨RX5, "<init>", "()V"⟩
abbrev cX5_read : ByteArray := prog_7_method_2_code
def yX5_read : MethodName := ⟨RX5, "read", "([II)I"⟩
abbrev cX5_handOver : ByteArray := prog_7_method_3_code
def yX5_handOver : MethodName := ⟨RX5, "handOver", "(LCashLedger$Setup;)LCashLedger$Setup;"⟩
abbrev cX5_begin : ByteArray := prog_7_method_4_code
def yX5_begin : MethodName := ⟨RX5, "begin", "([II)V"⟩
abbrev cX5_readStatement : ByteArray := prog_7_method_5_code
def yX5_readStatement : MethodName := ⟨RX5, "readStatement", "()Z"⟩
abbrev cX5_readStart : ByteArray := prog_7_method_6_code
def yX5_readStart : MethodName := ⟨RX5, "readStart", "()Z"⟩
abbrev cX5_readAssets : ByteArray := prog_7_method_7_code
def yX5_readAssets : MethodName := ⟨RX5, "readAssets", "()Z"⟩
abbrev cX5_readInterest : ByteArray := prog_7_method_8_code
def yX5_readInterest : MethodName := ⟨RX5, "readInterest", "()Z"⟩
abbrev cX5_readTop : ByteArray := prog_7_method_9_code
def yX5_readTop : MethodName := ⟨RX5, "readTop", "()Z"⟩
abbrev cX5_readBracket : ByteArray := prog_7_method_10_code
def yX5_readBracket : MethodName := ⟨RX5, "readBracket", "()Z"⟩
abbrev cX5_readRoom : ByteArray := prog_7_method_11_code
def yX5_readRoom : MethodName := ⟨RX5, "readRoom", "()Z"⟩
abbrev cX5_takeNumber : ByteArray := prog_7_method_12_code
def yX5_takeNumber : MethodName := ⟨RX5, "takeNumber", "(II)I"⟩
abbrev cX5_isWord : ByteArray := prog_7_method_13_code
def yX5_isWord : MethodName := ⟨RX5, "isWord", "(Ljava/lang/String;)Z"⟩
abbrev cX5_nextToken : ByteArray := prog_7_method_14_code
def yX5_nextToken : MethodName := ⟨RX5, "nextToken", "()V"⟩
abbrev cX5_endOfRun : ByteArray := prog_7_method_15_code
def yX5_endOfRun : MethodName := ⟨RX5, "endOfRun", "(II)I"⟩
abbrev cX5_valueOfDigits : ByteArray := prog_7_method_16_code
def yX5_valueOfDigits : MethodName := ⟨RX5, "valueOfDigits", "()I"⟩
def RX6 : String := "CashLedger$State"
def TX6 : u_T := fun k => match k with
  | 0 => ("CashLedger$State", "entries", "LCashLedger$Entries;", true)
  | 1 => ("CashLedger$State", "rooms", "LCashLedger$Rooms;", true)
  | 2 => ("CashLedger$State", "assets", "LCashLedger$Assets;", true)
  | 3 => ("CashLedger$State", "prepaid", "[I", true)
  | 4 => ("CashLedger$State", "closed", "I", false)
  | _ => ("CashLedger$State", "start", "I", false)
def tyX6 : Nat → FieldType := fun k => match k with
  | 0 => .object "CashLedger$Entries"
  | 1 => .object "CashLedger$Rooms"
  | 2 => .object "CashLedger$Assets"
  | 3 => .array .int
  | 4 => .int
  | _ => .int
abbrev wsX60 : List Cond := u_ws RX6 TX6 6
theorem nmX6 : ∀ a, a < 6 → ∀ b, b < 6 → a ≠ b → (TX6 a).2.1 ≠ (TX6 b).2.1 := by decide +kernel
theorem tyX6_ok : ∀ k, k < 6 → parseFieldDescriptor (TX6 k).2.2.1 = some (tyX6 k) := by decide +kernel
abbrev cX6_init : ByteArray := prog_8_method_1_code
def yX6_init : MethodName := ⟨RX6, "<init>", "()V"⟩
abbrev cX6_begin : ByteArray := prog_8_method_2_code
def yX6_begin : MethodName := ⟨RX6, "begin", "(LCashLedger$Setup;)V"⟩
abbrev cX6_copyFrom : ByteArray := prog_8_method_3_code
def yX6_copyFrom : MethodName := ⟨RX6, "copyFrom", "(LCashLedger$State;)V"⟩
abbrev cX6_deductibleOf : ByteArray := prog_8_method_4_code
def yX6_deductibleOf : MethodName := ⟨RX6, "deductibleOf", "(III)J"⟩
abbrev cX6_deductiblePart : ByteArray := prog_8_method_5_code
def yX6_deductiblePart : MethodName := ⟨RX6, "deductiblePart", "(I)I"⟩
abbrev cX6_deductiblePartsOf : ByteArray := prog_8_method_6_code
def yX6_deductiblePartsOf : MethodName := ⟨RX6, "deductiblePartsOf", "(I)J"⟩
abbrev cX6_deductibleUpTo : ByteArray := prog_8_method_7_code
def yX6_deductibleUpTo : MethodName := ⟨RX6, "deductibleUpTo", "(I)J"⟩
abbrev cX6_received : ByteArray := prog_8_method_8_code
def yX6_received : MethodName := ⟨RX6, "received", "(II)J"⟩
abbrev cX6_receivedIn : ByteArray := prog_8_method_9_code
def yX6_receivedIn : MethodName := ⟨RX6, "receivedIn", "(I)J"⟩
abbrev cX6_profitUpTo : ByteArray := prog_8_method_10_code
def yX6_profitUpTo : MethodName := ⟨RX6, "profitUpTo", "(I)J"⟩
abbrev cX6_prepaidSoFar : ByteArray := prog_8_method_11_code
def yX6_prepaidSoFar : MethodName := ⟨RX6, "prepaidSoFar", "()J"⟩
abbrev cX6_fillBalances : ByteArray := prog_8_method_12_code
def yX6_fillBalances : MethodName := ⟨RX6, "fillBalances", "([J)V"⟩
abbrev cX6_move : ByteArray := prog_8_method_13_code
def yX6_move : MethodName := ⟨RX6, "move", "([JII)V"⟩
def RX7 : String := "CashLedger"
def TX7 : u_T := fun k => match k with
  | 0 => ("CashLedger", "buffer", "[I", true)
  | 1 => ("CashLedger", "bufferLength", "I", false)
  | 2 => ("CashLedger", "reader", "LCashLedger$SetupReader;", true)
  | 3 => ("CashLedger", "setup", "LCashLedger$Setup;", false)
  | 4 => ("CashLedger", "now", "LCashLedger$State;", true)
  | 5 => ("CashLedger", "saved", "LCashLedger$State;", true)
  | 6 => ("CashLedger", "hasSaved", "Z", false)
  | 7 => ("CashLedger", "history", "LCashLedger$History;", true)
  | _ => ("CashLedger", "balances", "[J", true)
def tyX7 : Nat → FieldType := fun k => match k with
  | 0 => .array .int
  | 1 => .int
  | 2 => .object "CashLedger$SetupReader"
  | 3 => .object "CashLedger$Setup"
  | 4 => .object "CashLedger$State"
  | 5 => .object "CashLedger$State"
  | 6 => .boolean
  | 7 => .object "CashLedger$History"
  | _ => .array .long
abbrev wsX70 : List Cond := u_ws RX7 TX7 9
theorem nmX7 : ∀ a, a < 9 → ∀ b, b < 9 → a ≠ b → (TX7 a).2.1 ≠ (TX7 b).2.1 := by decide +kernel
theorem tyX7_ok : ∀ k, k < 9 → parseFieldDescriptor (TX7 k).2.2.1 = some (tyX7 k) := by decide +kernel
abbrev cX7_init : ByteArray := prog_1_method_1_code
def yX7_init : MethodName := ⟨RX7, "<init>", "()V"⟩
abbrev cX7_append : ByteArray := prog_1_method_2_code
def yX7_append : MethodName := ⟨RX7, "append", "(IIIII)I"⟩
abbrev cX7_truncate : ByteArray := prog_1_method_3_code
def yX7_truncate : MethodName := ⟨RX7, "truncate", "(I)I"⟩
abbrev cX7_errorPosition : ByteArray := prog_1_method_4_code
def yX7_errorPosition : MethodName := ⟨RX7, "errorPosition", "()I"⟩
abbrev cX7_load : ByteArray := prog_1_method_5_code
def yX7_load : MethodName := ⟨RX7, "load", "()I"⟩
abbrev cX7_addEntry : ByteArray := prog_1_method_6_code
def yX7_addEntry : MethodName := ⟨RX7, "addEntry", "(IIIII)I"⟩
abbrev cX7_pay : ByteArray := prog_1_method_7_code
def yX7_pay : MethodName := ⟨RX7, "pay", "(II)I"⟩
abbrev cX7_cancel : ByteArray := prog_1_method_8_code
def yX7_cancel : MethodName := ⟨RX7, "cancel", "(I)I"⟩
abbrev cX7_addRoom : ByteArray := prog_1_method_9_code
def yX7_addRoom : MethodName := ⟨RX7, "addRoom", "(I)I"⟩
abbrev cX7_setOffice : ByteArray := prog_1_method_10_code
def yX7_setOffice : MethodName := ⟨RX7, "setOffice", "(III)I"⟩
abbrev cX7_addAsset : ByteArray := prog_1_method_11_code
def yX7_addAsset : MethodName := ⟨RX7, "addAsset", "(III)I"⟩
abbrev cX7_sellAsset : ByteArray := prog_1_method_12_code
def yX7_sellAsset : MethodName := ⟨RX7, "sellAsset", "(III)I"⟩
abbrev cX7_closeQuarter : ByteArray := prog_1_method_13_code
def yX7_closeQuarter : MethodName := ⟨RX7, "closeQuarter", "()I"⟩
abbrev cX7_setStart : ByteArray := prog_1_method_14_code
def yX7_setStart : MethodName := ⟨RX7, "setStart", "(I)I"⟩
abbrev cX7_undo : ByteArray := prog_1_method_15_code
def yX7_undo : MethodName := ⟨RX7, "undo", "()I"⟩
abbrev cX7_undoCount : ByteArray := prog_1_method_16_code
def yX7_undoCount : MethodName := ⟨RX7, "undoCount", "()I"⟩
abbrev cX7_save : ByteArray := prog_1_method_17_code
def yX7_save : MethodName := ⟨RX7, "save", "()I"⟩
abbrev cX7_restore : ByteArray := prog_1_method_18_code
def yX7_restore : MethodName := ⟨RX7, "restore", "()I"⟩
abbrev cX7_count : ByteArray := prog_1_method_19_code
def yX7_count : MethodName := ⟨RX7, "count", "(I)I"⟩
abbrev cX7_entry : ByteArray := prog_1_method_20_code
def yX7_entry : MethodName := ⟨RX7, "entry", "(II)I"⟩
abbrev cX7_deductible : ByteArray := prog_1_method_21_code
def yX7_deductible : MethodName := ⟨RX7, "deductible", "(I)I"⟩
abbrev cX7_total : ByteArray := prog_1_method_22_code
def yX7_total : MethodName := ⟨RX7, "total", "(III)J"⟩
abbrev cX7_byCategory : ByteArray := prog_1_method_23_code
def yX7_byCategory : MethodName := ⟨RX7, "byCategory", "(IZ)J"⟩
abbrev cX7_open : ByteArray := prog_1_method_24_code
def yX7_open : MethodName := ⟨RX7, "open", "(I)J"⟩
abbrev cX7_oldestOpen : ByteArray := prog_1_method_25_code
def yX7_oldestOpen : MethodName := ⟨RX7, "oldestOpen", "()I"⟩
abbrev cX7_room : ByteArray := prog_1_method_26_code
def yX7_room : MethodName := ⟨RX7, "room", "(II)I"⟩
abbrev cX7_share : ByteArray := prog_1_method_27_code
def yX7_share : MethodName := ⟨RX7, "share", "(IZ)I"⟩
abbrev cX7_asset : ByteArray := prog_1_method_28_code
def yX7_asset : MethodName := ⟨RX7, "asset", "(II)I"⟩
abbrev cX7_written : ByteArray := prog_1_method_29_code
def yX7_written : MethodName := ⟨RX7, "written", "(II)I"⟩
abbrev cX7_bookValue : ByteArray := prog_1_method_30_code
def yX7_bookValue : MethodName := ⟨RX7, "bookValue", "(II)I"⟩
abbrev cX7_pool : ByteArray := prog_1_method_31_code
def yX7_pool : MethodName := ⟨RX7, "pool", "(I)I"⟩
abbrev cX7_poolWritten : ByteArray := prog_1_method_32_code
def yX7_poolWritten : MethodName := ⟨RX7, "poolWritten", "(I)I"⟩
abbrev cX7_profit : ByteArray := prog_1_method_33_code
def yX7_profit : MethodName := ⟨RX7, "profit", "(I)J"⟩
abbrev cX7_profitTo : ByteArray := prog_1_method_34_code
def yX7_profitTo : MethodName := ⟨RX7, "profitTo", "(I)J"⟩
abbrev cX7_tax : ByteArray := prog_1_method_35_code
def yX7_tax : MethodName := ⟨RX7, "tax", "(I)J"⟩
abbrev cX7_rate : ByteArray := prog_1_method_36_code
def yX7_rate : MethodName := ⟨RX7, "rate", "(I)I"⟩
abbrev cX7_yearTax : ByteArray := prog_1_method_37_code
def yX7_yearTax : MethodName := ⟨RX7, "yearTax", "()J"⟩
abbrev cX7_prepayment : ByteArray := prog_1_method_38_code
def yX7_prepayment : MethodName := ⟨RX7, "prepayment", "(I)I"⟩
abbrev cX7_recomputed : ByteArray := prog_1_method_39_code
def yX7_recomputed : MethodName := ⟨RX7, "recomputed", "(I)I"⟩
abbrev cX7_correction : ByteArray := prog_1_method_40_code
def yX7_correction : MethodName := ⟨RX7, "correction", "(I)I"⟩
abbrev cX7_settlement : ByteArray := prog_1_method_41_code
def yX7_settlement : MethodName := ⟨RX7, "settlement", "()J"⟩
abbrev cX7_interest : ByteArray := prog_1_method_42_code
def yX7_interest : MethodName := ⟨RX7, "interest", "()J"⟩
abbrev cX7_effectiveRate : ByteArray := prog_1_method_43_code
def yX7_effectiveRate : MethodName := ⟨RX7, "effectiveRate", "()D"⟩
abbrev cX7_whatIf : ByteArray := prog_1_method_44_code
def yX7_whatIf : MethodName := ⟨RX7, "whatIf", "(III)J"⟩
abbrev cX7_neededIncome : ByteArray := prog_1_method_45_code
def yX7_neededIncome : MethodName := ⟨RX7, "neededIncome", "(I)I"⟩
abbrev cX7_balance : ByteArray := prog_1_method_46_code
def yX7_balance : MethodName := ⟨RX7, "balance", "(I)J"⟩
abbrev cX7_lowestDay : ByteArray := prog_1_method_47_code
def yX7_lowestDay : MethodName := ⟨RX7, "lowestDay", "()I"⟩
abbrev cX7_daysBelow : ByteArray := prog_1_method_48_code
def yX7_daysBelow : MethodName := ⟨RX7, "daysBelow", "(I)I"⟩
abbrev cX7_bestMonth : ByteArray := prog_1_method_49_code
def yX7_bestMonth : MethodName := ⟨RX7, "bestMonth", "()I"⟩
abbrev cX7_requireArgument : ByteArray := prog_1_method_50_code
def yX7_requireArgument : MethodName := ⟨RX7, "requireArgument", "(Z)V"⟩
abbrev cX7_requireState : ByteArray := prog_1_method_51_code
def yX7_requireState : MethodName := ⟨RX7, "requireState", "(Z)V"⟩
abbrev cX7_requireElement : ByteArray := prog_1_method_52_code
def yX7_requireElement : MethodName := ⟨RX7, "requireElement", "(Z)V"⟩
abbrev cX7_requireIndex : ByteArray := prog_1_method_53_code
def yX7_requireIndex : MethodName := ⟨RX7, "requireIndex", "(II)V"⟩
abbrev cX7_requireQuarter : ByteArray := prog_1_method_54_code
def yX7_requireQuarter : MethodName := ⟨RX7, "requireQuarter", "(I)V"⟩
abbrev cX7_within : ByteArray := prog_1_method_55_code
def yX7_within : MethodName := ⟨RX7, "within", "(III)Z"⟩
abbrev cX7_isDayOrNone : ByteArray := prog_1_method_56_code
def yX7_isDayOrNone : MethodName := ⟨RX7, "isDayOrNone", "(I)Z"⟩
abbrev cX7_bytesIn : ByteArray := prog_1_method_57_code
def yX7_bytesIn : MethodName := ⟨RX7, "bytesIn", "(I)I"⟩
abbrev cX7_putBytes : ByteArray := prog_1_method_58_code
def yX7_putBytes : MethodName := ⟨RX7, "putBytes", "(I)V"⟩
abbrev cX7_commonDivisor : ByteArray := prog_1_method_59_code
def yX7_commonDivisor : MethodName := ⟨RX7, "commonDivisor", "(II)I"⟩
abbrev cX7_yearProfit : ByteArray := prog_1_method_60_code
def yX7_yearProfit : MethodName := ⟨RX7, "yearProfit", "()J"⟩
abbrev cX7_targetAt : ByteArray := prog_1_method_61_code
def yX7_targetAt : MethodName := ⟨RX7, "targetAt", "(IJ)J"⟩
abbrev cX7_prepaymentNow : ByteArray := prog_1_method_62_code
def yX7_prepaymentNow : MethodName := ⟨RX7, "prepaymentNow", "(I)I"⟩
abbrev cX7_additionalTax : ByteArray := prog_1_method_63_code
def yX7_additionalTax : MethodName := ⟨RX7, "additionalTax", "(JJ)J"⟩
abbrev cX7_leftOf : ByteArray := prog_1_method_64_code
def yX7_leftOf : MethodName := ⟨RX7, "leftOf", "(IJ)J"⟩
def RX8 : String := "CashLedgerModel"
def TX8 : u_T := fun k => match k with
  | 0 => ("CashLedgerModel", "thrown", "I", false)
  | 1 => ("CashLedgerModel", "buffer", "[I", true)
  | 2 => ("CashLedgerModel", "length", "I", false)
  | 3 => ("CashLedgerModel", "at", "I", false)
  | 4 => ("CashLedgerModel", "from", "I", false)
  | 5 => ("CashLedgerModel", "kind", "I", false)
  | 6 => ("CashLedgerModel", "wrong", "I", false)
  | 7 => ("CashLedgerModel", "number", "J", false)
  | 8 => ("CashLedgerModel", "read", "[I", true)
  | 9 => ("CashLedgerModel", "now", "[I", true)
  | 10 => ("CashLedgerModel", "saved", "[I", true)
  | 11 => ("CashLedgerModel", "history", "[I", true)
  | 12 => ("CashLedgerModel", "entries", "I", false)
  | 13 => ("CashLedgerModel", "told", "I", false)
  | 14 => ("CashLedgerModel", "isSaved", "Z", false)
  | _ => ("CashLedgerModel", "brought", "[J", true)
def tyX8 : Nat → FieldType := fun k => match k with
  | 0 => .int
  | 1 => .array .int
  | 2 => .int
  | 3 => .int
  | 4 => .int
  | 5 => .int
  | 6 => .int
  | 7 => .long
  | 8 => .array .int
  | 9 => .array .int
  | 10 => .array .int
  | 11 => .array .int
  | 12 => .int
  | 13 => .int
  | 14 => .boolean
  | _ => .array .long
abbrev wsX80 : List Cond := u_ws RX8 TX8 16
theorem nmX8 : ∀ a, a < 16 → ∀ b, b < 16 → a ≠ b → (TX8 a).2.1 ≠ (TX8 b).2.1 := by decide +kernel
theorem tyX8_ok : ∀ k, k < 16 → parseFieldDescriptor (TX8 k).2.2.1 = some (tyX8 k) := by decide +kernel
abbrev cX8_init : ByteArray := prog_10_method_1_code
def yX8_init : MethodName := ⟨RX8, "<init>", "()V"⟩
abbrev cX8_thrown : ByteArray := prog_10_method_2_code
def yX8_thrown : MethodName := ⟨RX8, "thrown", "()I"⟩
abbrev cX8_in : ByteArray := prog_10_method_3_code
def yX8_in : MethodName := ⟨RX8, "in", "(JJJ)Z"⟩
abbrev cX8_fails : ByteArray := prog_10_method_4_code
def yX8_fails : MethodName := ⟨RX8, "fails", "(ZI)Z"⟩
abbrev cX8_byteOf : ByteArray := prog_10_method_5_code
def yX8_byteOf : MethodName := ⟨RX8, "byteOf", "(IIIIII)I"⟩
abbrev cX8_append : ByteArray := prog_10_method_6_code
def yX8_append : MethodName := ⟨RX8, "append", "(IIIII)I"⟩
abbrev cX8_truncate : ByteArray := prog_10_method_7_code
def yX8_truncate : MethodName := ⟨RX8, "truncate", "(I)I"⟩
abbrev cX8_peek : ByteArray := prog_10_method_8_code
def yX8_peek : MethodName := ⟨RX8, "peek", "(I)I"⟩
abbrev cX8_isLetter : ByteArray := prog_10_method_9_code
def yX8_isLetter : MethodName := ⟨RX8, "isLetter", "(I)Z"⟩
abbrev cX8_isDigit : ByteArray := prog_10_method_10_code
def yX8_isDigit : MethodName := ⟨RX8, "isDigit", "(I)Z"⟩
abbrev cX8_step : ByteArray := prog_10_method_11_code
def yX8_step : MethodName := ⟨RX8, "step", "()V"⟩
abbrev cX8_fail : ByteArray := prog_10_method_12_code
def yX8_fail : MethodName := ⟨RX8, "fail", "()V"⟩
abbrev cX8_isGood : ByteArray := prog_10_method_13_code
def yX8_isGood : MethodName := ⟨RX8, "isGood", "()Z"⟩
abbrev cX8_isWord : ByteArray := prog_10_method_14_code
def yX8_isWord : MethodName := ⟨RX8, "isWord", "(Ljava/lang/String;)Z"⟩
abbrev cX8_takeNumber : ByteArray := prog_10_method_15_code
def yX8_takeNumber : MethodName := ⟨RX8, "takeNumber", "(II)I"⟩
abbrev cX8_begin : ByteArray := prog_10_method_16_code
def yX8_begin : MethodName := ⟨RX8, "begin", "()V"⟩
abbrev cX8_readBracket : ByteArray := prog_10_method_17_code
def yX8_readBracket : MethodName := ⟨RX8, "readBracket", "(II)V"⟩
abbrev cX8_bracketStatement : ByteArray := prog_10_method_18_code
def yX8_bracketStatement : MethodName := ⟨RX8, "bracketStatement", "()V"⟩
abbrev cX8_roomStatement : ByteArray := prog_10_method_19_code
def yX8_roomStatement : MethodName := ⟨RX8, "roomStatement", "()V"⟩
abbrev cX8_once : ByteArray := prog_10_method_20_code
def yX8_once : MethodName := ⟨RX8, "once", "(Ljava/lang/String;I)Z"⟩
abbrev cX8_take : ByteArray := prog_10_method_21_code
def yX8_take : MethodName := ⟨RX8, "take", "(III)V"⟩
abbrev cX8_readStatement : ByteArray := prog_10_method_22_code
def yX8_readStatement : MethodName := ⟨RX8, "readStatement", "()V"⟩
abbrev cX8_parse : ByteArray := prog_10_method_23_code
def yX8_parse : MethodName := ⟨RX8, "parse", "()I"⟩
abbrev cX8_errorPosition : ByteArray := prog_10_method_24_code
def yX8_errorPosition : MethodName := ⟨RX8, "errorPosition", "()I"⟩
abbrev cX8_takeRead : ByteArray := prog_10_method_25_code
def yX8_takeRead : MethodName := ⟨RX8, "takeRead", "()V"⟩
abbrev cX8_load : ByteArray := prog_10_method_26_code
def yX8_load : MethodName := ⟨RX8, "load", "()I"⟩
abbrev cX8_record : ByteArray := prog_10_method_27_code
def yX8_record : MethodName := ⟨RX8, "record", "()V"⟩
abbrev cX8_undo : ByteArray := prog_10_method_28_code
def yX8_undo : MethodName := ⟨RX8, "undo", "()I"⟩
abbrev cX8_undoCount : ByteArray := prog_10_method_29_code
def yX8_undoCount : MethodName := ⟨RX8, "undoCount", "()I"⟩
abbrev cX8_save : ByteArray := prog_10_method_30_code
def yX8_save : MethodName := ⟨RX8, "save", "()I"⟩
abbrev cX8_restore : ByteArray := prog_10_method_31_code
def yX8_restore : MethodName := ⟨RX8, "restore", "()I"⟩
abbrev cX8_isEntry : ByteArray := prog_10_method_32_code
def yX8_isEntry : MethodName := ⟨RX8, "isEntry", "(I)Z"⟩
abbrev cX8_isRoom : ByteArray := prog_10_method_33_code
def yX8_isRoom : MethodName := ⟨RX8, "isRoom", "(I)Z"⟩
abbrev cX8_isAsset : ByteArray := prog_10_method_34_code
def yX8_isAsset : MethodName := ⟨RX8, "isAsset", "(I)Z"⟩
abbrev cX8_isDay : ByteArray := prog_10_method_35_code
def yX8_isDay : MethodName := ⟨RX8, "isDay", "(I)Z"⟩
abbrev cX8_isDayOrNone : ByteArray := prog_10_method_36_code
def yX8_isDayOrNone : MethodName := ⟨RX8, "isDayOrNone", "(I)Z"⟩
abbrev cX8_isMonth : ByteArray := prog_10_method_37_code
def yX8_isMonth : MethodName := ⟨RX8, "isMonth", "(I)Z"⟩
abbrev cX8_isQuarter : ByteArray := prog_10_method_38_code
def yX8_isQuarter : MethodName := ⟨RX8, "isQuarter", "(I)Z"⟩
abbrev cX8_isKind : ByteArray := prog_10_method_39_code
def yX8_isKind : MethodName := ⟨RX8, "isKind", "(I)Z"⟩
abbrev cX8_isAmount : ByteArray := prog_10_method_40_code
def yX8_isAmount : MethodName := ⟨RX8, "isAmount", "(I)Z"⟩
abbrev cX8_entryPart : ByteArray := prog_10_method_41_code
def yX8_entryPart : MethodName := ⟨RX8, "entryPart", "(II)I"⟩
abbrev cX8_roomPart : ByteArray := prog_10_method_42_code
def yX8_roomPart : MethodName := ⟨RX8, "roomPart", "(II)I"⟩
abbrev cX8_assetPart : ByteArray := prog_10_method_43_code
def yX8_assetPart : MethodName := ⟨RX8, "assetPart", "(II)I"⟩
abbrev cX8_isCancelled : ByteArray := prog_10_method_44_code
def yX8_isCancelled : MethodName := ⟨RX8, "isCancelled", "(I)Z"⟩
abbrev cX8_isOpen : ByteArray := prog_10_method_45_code
def yX8_isOpen : MethodName := ⟨RX8, "isOpen", "(I)Z"⟩
abbrev cX8_counts : ByteArray := prog_10_method_46_code
def yX8_counts : MethodName := ⟨RX8, "counts", "(I)Z"⟩
abbrev cX8_countsIn : ByteArray := prog_10_method_47_code
def yX8_countsIn : MethodName := ⟨RX8, "countsIn", "(III)Z"⟩
abbrev cX8_become : ByteArray := prog_10_method_48_code
def yX8_become : MethodName := ⟨RX8, "become", "(II)I"⟩
abbrev cX8_addEntry : ByteArray := prog_10_method_49_code
def yX8_addEntry : MethodName := ⟨RX8, "addEntry", "(IIIII)I"⟩
abbrev cX8_pay : ByteArray := prog_10_method_50_code
def yX8_pay : MethodName := ⟨RX8, "pay", "(II)I"⟩
abbrev cX8_cancel : ByteArray := prog_10_method_51_code
def yX8_cancel : MethodName := ⟨RX8, "cancel", "(I)I"⟩
abbrev cX8_addRoom : ByteArray := prog_10_method_52_code
def yX8_addRoom : MethodName := ⟨RX8, "addRoom", "(I)I"⟩
abbrev cX8_setOffice : ByteArray := prog_10_method_53_code
def yX8_setOffice : MethodName := ⟨RX8, "setOffice", "(III)I"⟩
abbrev cX8_addAsset : ByteArray := prog_10_method_54_code
def yX8_addAsset : MethodName := ⟨RX8, "addAsset", "(III)I"⟩
abbrev cX8_isSold : ByteArray := prog_10_method_55_code
def yX8_isSold : MethodName := ⟨RX8, "isSold", "(I)Z"⟩
abbrev cX8_sellAsset : ByteArray := prog_10_method_56_code
def yX8_sellAsset : MethodName := ⟨RX8, "sellAsset", "(III)I"⟩
abbrev cX8_closeQuarter : ByteArray := prog_10_method_57_code
def yX8_closeQuarter : MethodName := ⟨RX8, "closeQuarter", "()I"⟩
abbrev cX8_setStart : ByteArray := prog_10_method_58_code
def yX8_setStart : MethodName := ⟨RX8, "setStart", "(I)I"⟩
abbrev cX8_usedDays : ByteArray := prog_10_method_59_code
def yX8_usedDays : MethodName := ⟨RX8, "usedDays", "(III)I"⟩
abbrev cX8_shareAbove : ByteArray := prog_10_method_60_code
def yX8_shareAbove : MethodName := ⟨RX8, "shareAbove", "(I)I"⟩
abbrev cX8_shareBelow : ByteArray := prog_10_method_61_code
def yX8_shareBelow : MethodName := ⟨RX8, "shareBelow", "()I"⟩
abbrev cX8_common : ByteArray := prog_10_method_62_code
def yX8_common : MethodName := ⟨RX8, "common", "(II)I"⟩
abbrev cX8_deducted : ByteArray := prog_10_method_63_code
def yX8_deducted : MethodName := ⟨RX8, "deducted", "(III)J"⟩
abbrev cX8_deductedOf : ByteArray := prog_10_method_64_code
def yX8_deductedOf : MethodName := ⟨RX8, "deductedOf", "(I)J"⟩
abbrev cX8_sortOf : ByteArray := prog_10_method_65_code
def yX8_sortOf : MethodName := ⟨RX8, "sortOf", "(I)I"⟩
abbrev cX8_boughtIn : ByteArray := prog_10_method_66_code
def yX8_boughtIn : MethodName := ⟨RX8, "boughtIn", "(I)I"⟩
abbrev cX8_soldIn : ByteArray := prog_10_method_67_code
def yX8_soldIn : MethodName := ⟨RX8, "soldIn", "(I)I"⟩
abbrev cX8_byLife : ByteArray := prog_10_method_68_code
def yX8_byLife : MethodName := ⟨RX8, "byLife", "(II)I"⟩
abbrev cX8_writtenTo : ByteArray := prog_10_method_69_code
def yX8_writtenTo : MethodName := ⟨RX8, "writtenTo", "(II)I"⟩
abbrev cX8_writtenIn : ByteArray := prog_10_method_70_code
def yX8_writtenIn : MethodName := ⟨RX8, "writtenIn", "(II)I"⟩
abbrev cX8_valueOf : ByteArray := prog_10_method_71_code
def yX8_valueOf : MethodName := ⟨RX8, "valueOf", "(II)I"⟩
abbrev cX8_poolTo : ByteArray := prog_10_method_72_code
def yX8_poolTo : MethodName := ⟨RX8, "poolTo", "(I)I"⟩
abbrev cX8_poolOff : ByteArray := prog_10_method_73_code
def yX8_poolOff : MethodName := ⟨RX8, "poolOff", "(I)I"⟩
abbrev cX8_entriesIn : ByteArray := prog_10_method_74_code
def yX8_entriesIn : MethodName := ⟨RX8, "entriesIn", "(I)J"⟩
abbrev cX8_assetsIn : ByteArray := prog_10_method_75_code
def yX8_assetsIn : MethodName := ⟨RX8, "assetsIn", "(I)J"⟩
abbrev cX8_profitOf : ByteArray := prog_10_method_76_code
def yX8_profitOf : MethodName := ⟨RX8, "profitOf", "(I)J"⟩
abbrev cX8_profitsTo : ByteArray := prog_10_method_77_code
def yX8_profitsTo : MethodName := ⟨RX8, "profitsTo", "(I)J"⟩
abbrev cX8_yearProfit : ByteArray := prog_10_method_78_code
def yX8_yearProfit : MethodName := ⟨RX8, "yearProfit", "()J"⟩
abbrev cX8_limitOf : ByteArray := prog_10_method_79_code
def yX8_limitOf : MethodName := ⟨RX8, "limitOf", "(I)I"⟩
abbrev cX8_rateOf : ByteArray := prog_10_method_80_code
def yX8_rateOf : MethodName := ⟨RX8, "rateOf", "(I)I"⟩
abbrev cX8_taxOf : ByteArray := prog_10_method_81_code
def yX8_taxOf : MethodName := ⟨RX8, "taxOf", "(J)J"⟩
abbrev cX8_prepaymentFor : ByteArray := prog_10_method_82_code
def yX8_prepaymentFor : MethodName := ⟨RX8, "prepaymentFor", "(IJ)I"⟩
abbrev cX8_prepaidTo : ByteArray := prog_10_method_83_code
def yX8_prepaidTo : MethodName := ⟨RX8, "prepaidTo", "(I)J"⟩
abbrev cX8_againFor : ByteArray := prog_10_method_84_code
def yX8_againFor : MethodName := ⟨RX8, "againFor", "(I)I"⟩
abbrev cX8_count : ByteArray := prog_10_method_85_code
def yX8_count : MethodName := ⟨RX8, "count", "(I)I"⟩
abbrev cX8_openMany : ByteArray := prog_10_method_86_code
def yX8_openMany : MethodName := ⟨RX8, "openMany", "()I"⟩
abbrev cX8_flagged : ByteArray := prog_10_method_87_code
def yX8_flagged : MethodName := ⟨RX8, "flagged", "(I)I"⟩
abbrev cX8_soldMany : ByteArray := prog_10_method_88_code
def yX8_soldMany : MethodName := ⟨RX8, "soldMany", "()I"⟩
abbrev cX8_entry : ByteArray := prog_10_method_89_code
def yX8_entry : MethodName := ⟨RX8, "entry", "(II)I"⟩
abbrev cX8_deductible : ByteArray := prog_10_method_90_code
def yX8_deductible : MethodName := ⟨RX8, "deductible", "(I)I"⟩
abbrev cX8_total : ByteArray := prog_10_method_91_code
def yX8_total : MethodName := ⟨RX8, "total", "(III)J"⟩
abbrev cX8_byCategory : ByteArray := prog_10_method_92_code
def yX8_byCategory : MethodName := ⟨RX8, "byCategory", "(IZ)J"⟩
abbrev cX8_open : ByteArray := prog_10_method_93_code
def yX8_open : MethodName := ⟨RX8, "open", "(I)J"⟩
abbrev cX8_oldestOpen : ByteArray := prog_10_method_94_code
def yX8_oldestOpen : MethodName := ⟨RX8, "oldestOpen", "()I"⟩
abbrev cX8_room : ByteArray := prog_10_method_95_code
def yX8_room : MethodName := ⟨RX8, "room", "(II)I"⟩
abbrev cX8_share : ByteArray := prog_10_method_96_code
def yX8_share : MethodName := ⟨RX8, "share", "(IZ)I"⟩
abbrev cX8_asset : ByteArray := prog_10_method_97_code
def yX8_asset : MethodName := ⟨RX8, "asset", "(II)I"⟩
abbrev cX8_written : ByteArray := prog_10_method_98_code
def yX8_written : MethodName := ⟨RX8, "written", "(II)I"⟩
abbrev cX8_bookValue : ByteArray := prog_10_method_99_code
def yX8_bookValue : MethodName := ⟨RX8, "bookValue", "(II)I"⟩
abbrev cX8_pool : ByteArray := prog_10_method_100_code
def yX8_pool : MethodName := ⟨RX8, "pool", "(I)I"⟩
abbrev cX8_poolWritten : ByteArray := prog_10_method_101_code
def yX8_poolWritten : MethodName := ⟨RX8, "poolWritten", "(I)I"⟩
abbrev cX8_profit : ByteArray := prog_10_method_102_code
def yX8_profit : MethodName := ⟨RX8, "profit", "(I)J"⟩
abbrev cX8_profitTo : ByteArray := prog_10_method_103_code
def yX8_profitTo : MethodName := ⟨RX8, "profitTo", "(I)J"⟩
abbrev cX8_tax : ByteArray := prog_10_method_104_code
def yX8_tax : MethodName := ⟨RX8, "tax", "(I)J"⟩
abbrev cX8_rate : ByteArray := prog_10_method_105_code
def yX8_rate : MethodName := ⟨RX8, "rate", "(I)I"⟩
abbrev cX8_yearTax : ByteArray := prog_10_method_106_code
def yX8_yearTax : MethodName := ⟨RX8, "yearTax", "()J"⟩
abbrev cX8_isClosed : ByteArray := prog_10_method_107_code
def yX8_isClosed : MethodName := ⟨RX8, "isClosed", "(I)Z"⟩
abbrev cX8_prepayment : ByteArray := prog_10_method_108_code
def yX8_prepayment : MethodName := ⟨RX8, "prepayment", "(I)I"⟩
abbrev cX8_recomputed : ByteArray := prog_10_method_109_code
def yX8_recomputed : MethodName := ⟨RX8, "recomputed", "(I)I"⟩
abbrev cX8_correctionOf : ByteArray := prog_10_method_110_code
def yX8_correctionOf : MethodName := ⟨RX8, "correctionOf", "(I)I"⟩
abbrev cX8_correction : ByteArray := prog_10_method_111_code
def yX8_correction : MethodName := ⟨RX8, "correction", "(I)I"⟩
abbrev cX8_settlement : ByteArray := prog_10_method_112_code
def yX8_settlement : MethodName := ⟨RX8, "settlement", "()J"⟩
abbrev cX8_interest : ByteArray := prog_10_method_113_code
def yX8_interest : MethodName := ⟨RX8, "interest", "()J"⟩
abbrev cX8_effectiveRate : ByteArray := prog_10_method_114_code
def yX8_effectiveRate : MethodName := ⟨RX8, "effectiveRate", "()D"⟩
abbrev cX8_whatIf : ByteArray := prog_10_method_115_code
def yX8_whatIf : MethodName := ⟨RX8, "whatIf", "(III)J"⟩
abbrev cX8_netOf : ByteArray := prog_10_method_116_code
def yX8_netOf : MethodName := ⟨RX8, "netOf", "(JJJ)J"⟩
abbrev cX8_neededIncome : ByteArray := prog_10_method_117_code
def yX8_neededIncome : MethodName := ⟨RX8, "neededIncome", "(I)I"⟩
abbrev cX8_entriesUpTo : ByteArray := prog_10_method_118_code
def yX8_entriesUpTo : MethodName := ⟨RX8, "entriesUpTo", "(I)J"⟩
abbrev cX8_assetsUpTo : ByteArray := prog_10_method_119_code
def yX8_assetsUpTo : MethodName := ⟨RX8, "assetsUpTo", "(I)J"⟩
abbrev cX8_prepaidUpTo : ByteArray := prog_10_method_120_code
def yX8_prepaidUpTo : MethodName := ⟨RX8, "prepaidUpTo", "(I)J"⟩
abbrev cX8_balanceAt : ByteArray := prog_10_method_121_code
def yX8_balanceAt : MethodName := ⟨RX8, "balanceAt", "(I)J"⟩
abbrev cX8_balance : ByteArray := prog_10_method_122_code
def yX8_balance : MethodName := ⟨RX8, "balance", "(I)J"⟩
abbrev cX8_layEntries : ByteArray := prog_10_method_123_code
def yX8_layEntries : MethodName := ⟨RX8, "layEntries", "()V"⟩
abbrev cX8_layAssets : ByteArray := prog_10_method_124_code
def yX8_layAssets : MethodName := ⟨RX8, "layAssets", "()V"⟩
abbrev cX8_layDays : ByteArray := prog_10_method_125_code
def yX8_layDays : MethodName := ⟨RX8, "layDays", "()V"⟩
abbrev cX8_lowestDay : ByteArray := prog_10_method_126_code
def yX8_lowestDay : MethodName := ⟨RX8, "lowestDay", "()I"⟩
abbrev cX8_daysBelow : ByteArray := prog_10_method_127_code
def yX8_daysBelow : MethodName := ⟨RX8, "daysBelow", "(I)I"⟩
abbrev cX8_takenIn : ByteArray := prog_10_method_128_code
def yX8_takenIn : MethodName := ⟨RX8, "takenIn", "(I)J"⟩
abbrev cX8_bestMonth : ByteArray := prog_10_method_129_code
def yX8_bestMonth : MethodName := ⟨RX8, "bestMonth", "()I"⟩
def RJ9 : String := "java/lang/Math"
abbrev cJ9_max_7cf53 : ByteArray := prog_18_method_65_code
def yJ9_max_7cf53 : MethodName := ⟨RJ9, "max", "(II)I"⟩
abbrev cJ9_max_f86c9 : ByteArray := prog_18_method_66_code
def yJ9_max_f86c9 : MethodName := ⟨RJ9, "max", "(JJ)J"⟩
abbrev cJ9_min_7cf53 : ByteArray := prog_18_method_69_code
def yJ9_min_7cf53 : MethodName := ⟨RJ9, "min", "(II)I"⟩
abbrev cJ9_min_f86c9 : ByteArray := prog_18_method_70_code
def yJ9_min_f86c9 : MethodName := ⟨RJ9, "min", "(JJ)J"⟩
def RJ0 : String := "java/lang/String"
def TJ0 : u_T := fun k => match k with
  | _ => ("", "", "", false)
abbrev cJ0_length_8abf5 : ByteArray := prog_20_method_54_code
def yJ0_length_8abf5 : MethodName := ⟨RJ0, "length", "()I"⟩
abbrev cJ0_charAt_5068e : ByteArray := prog_20_method_56_code
def yJ0_charAt_5068e : MethodName := ⟨RJ0, "charAt", "(I)C"⟩
abbrev cJ0_coder_7d493 : ByteArray := prog_20_method_152_code
def yJ0_coder_7d493 : MethodName := ⟨RJ0, "coder", "()B"⟩
abbrev cJ0_isLatin1_aae02 : ByteArray := prog_20_method_154_code
def yJ0_isLatin1_aae02 : MethodName := ⟨RJ0, "isLatin1", "()Z"⟩
abbrev cJ0_checkIndex_df160 : ByteArray := prog_20_method_155_code
def yJ0_checkIndex_df160 : MethodName := ⟨RJ0, "checkIndex", "(II)V"⟩
def RJ1 : String := "java/lang/StringLatin1"
abbrev cJ1_charAt_3b067 : ByteArray := prog_21_method_2_code
def yJ1_charAt_3b067 : MethodName := ⟨RJ1, "charAt", "([BI)C"⟩
def RJ2 : String := "java/lang/StringUTF16"
abbrev cJ2_getChar_3b067 : ByteArray := prog_22_method_5_code
def yJ2_getChar_3b067 : MethodName := ⟨RJ2, "getChar", "([BI)C"⟩
abbrev cJ2_length_9d52b : ByteArray := prog_22_method_6_code
def yJ2_length_9d52b : MethodName := ⟨RJ2, "length", "([B)I"⟩
abbrev cJ2_charAt_3b067 : ByteArray := prog_22_method_83_code
def yJ2_charAt_3b067 : MethodName := ⟨RJ2, "charAt", "([BI)C"⟩
abbrev cJ2_checkIndex_2214a : ByteArray := prog_22_method_91_code
def yJ2_checkIndex_2214a : MethodName := ⟨RJ2, "checkIndex", "(I[B)V"⟩
def RJ3 : String := "jdk/internal/util/Preconditions"
abbrev cJ3_checkIndex_8e157 : ByteArray := prog_27_method_11_code
def yJ3_checkIndex_8e157 : MethodName := ⟨RJ3, "checkIndex", "(IILjava/util/function/BiFunction;)I"⟩
def RL : String := "CashLedgerLaw"
abbrev cL_append : ByteArray := method_3_code
def yL_append : MethodName := ⟨RL, "append", "(LCashLedger;IIIII[J)I"⟩
abbrev cL_truncate : ByteArray := method_4_code
def yL_truncate : MethodName := ⟨RL, "truncate", "(LCashLedger;I[J)I"⟩
abbrev cL_load : ByteArray := method_5_code
def yL_load : MethodName := ⟨RL, "load", "(LCashLedger;[J)I"⟩
abbrev cL_addEntry : ByteArray := method_6_code
def yL_addEntry : MethodName := ⟨RL, "addEntry", "(LCashLedger;IIIII[J)I"⟩
abbrev cL_pay : ByteArray := method_7_code
def yL_pay : MethodName := ⟨RL, "pay", "(LCashLedger;II[J)I"⟩
abbrev cL_cancel : ByteArray := method_8_code
def yL_cancel : MethodName := ⟨RL, "cancel", "(LCashLedger;I[J)I"⟩
abbrev cL_addRoom : ByteArray := method_9_code
def yL_addRoom : MethodName := ⟨RL, "addRoom", "(LCashLedger;I[J)I"⟩
abbrev cL_setOffice : ByteArray := method_10_code
def yL_setOffice : MethodName := ⟨RL, "setOffice", "(LCashLedger;III[J)I"⟩
abbrev cL_addAsset : ByteArray := method_11_code
def yL_addAsset : MethodName := ⟨RL, "addAsset", "(LCashLedger;III[J)I"⟩
abbrev cL_sellAsset : ByteArray := method_12_code
def yL_sellAsset : MethodName := ⟨RL, "sellAsset", "(LCashLedger;III[J)I"⟩
abbrev cL_closeQuarter : ByteArray := method_13_code
def yL_closeQuarter : MethodName := ⟨RL, "closeQuarter", "(LCashLedger;[J)I"⟩
abbrev cL_setStart : ByteArray := method_14_code
def yL_setStart : MethodName := ⟨RL, "setStart", "(LCashLedger;I[J)I"⟩
abbrev cL_undo : ByteArray := method_15_code
def yL_undo : MethodName := ⟨RL, "undo", "(LCashLedger;[J)I"⟩
abbrev cL_restore : ByteArray := method_16_code
def yL_restore : MethodName := ⟨RL, "restore", "(LCashLedger;[J)I"⟩
abbrev cL_count : ByteArray := method_17_code
def yL_count : MethodName := ⟨RL, "count", "(LCashLedger;I[J)I"⟩
abbrev cL_entry : ByteArray := method_18_code
def yL_entry : MethodName := ⟨RL, "entry", "(LCashLedger;II[J)I"⟩
abbrev cL_deductible : ByteArray := method_19_code
def yL_deductible : MethodName := ⟨RL, "deductible", "(LCashLedger;I[J)I"⟩
abbrev cL_total : ByteArray := method_20_code
def yL_total : MethodName := ⟨RL, "total", "(LCashLedger;III[J)I"⟩
abbrev cL_byCategory : ByteArray := method_21_code
def yL_byCategory : MethodName := ⟨RL, "byCategory", "(LCashLedger;IZ[J)I"⟩
abbrev cL_open : ByteArray := method_22_code
def yL_open : MethodName := ⟨RL, "open", "(LCashLedger;I[J)I"⟩
abbrev cL_oldestOpen : ByteArray := method_23_code
def yL_oldestOpen : MethodName := ⟨RL, "oldestOpen", "(LCashLedger;[J)I"⟩
abbrev cL_room : ByteArray := method_24_code
def yL_room : MethodName := ⟨RL, "room", "(LCashLedger;II[J)I"⟩
abbrev cL_share : ByteArray := method_25_code
def yL_share : MethodName := ⟨RL, "share", "(LCashLedger;IZ[J)I"⟩
abbrev cL_asset : ByteArray := method_26_code
def yL_asset : MethodName := ⟨RL, "asset", "(LCashLedger;II[J)I"⟩
abbrev cL_written : ByteArray := method_27_code
def yL_written : MethodName := ⟨RL, "written", "(LCashLedger;II[J)I"⟩
abbrev cL_bookValue : ByteArray := method_28_code
def yL_bookValue : MethodName := ⟨RL, "bookValue", "(LCashLedger;II[J)I"⟩
abbrev cL_pool : ByteArray := method_29_code
def yL_pool : MethodName := ⟨RL, "pool", "(LCashLedger;I[J)I"⟩
abbrev cL_poolWritten : ByteArray := method_30_code
def yL_poolWritten : MethodName := ⟨RL, "poolWritten", "(LCashLedger;I[J)I"⟩
abbrev cL_profit : ByteArray := method_31_code
def yL_profit : MethodName := ⟨RL, "profit", "(LCashLedger;I[J)I"⟩
abbrev cL_profitTo : ByteArray := method_32_code
def yL_profitTo : MethodName := ⟨RL, "profitTo", "(LCashLedger;I[J)I"⟩
abbrev cL_prepayment : ByteArray := method_33_code
def yL_prepayment : MethodName := ⟨RL, "prepayment", "(LCashLedger;I[J)I"⟩
abbrev cL_recomputed : ByteArray := method_34_code
def yL_recomputed : MethodName := ⟨RL, "recomputed", "(LCashLedger;I[J)I"⟩
abbrev cL_correction : ByteArray := method_35_code
def yL_correction : MethodName := ⟨RL, "correction", "(LCashLedger;I[J)I"⟩
abbrev cL_settlement : ByteArray := method_36_code
def yL_settlement : MethodName := ⟨RL, "settlement", "(LCashLedger;[J)I"⟩
abbrev cL_effectiveRate : ByteArray := method_37_code
def yL_effectiveRate : MethodName := ⟨RL, "effectiveRate", "(LCashLedger;[D)I"⟩
abbrev cL_whatIf : ByteArray := method_38_code
def yL_whatIf : MethodName := ⟨RL, "whatIf", "(LCashLedger;III[J)I"⟩
abbrev cL_neededIncome : ByteArray := method_39_code
def yL_neededIncome : MethodName := ⟨RL, "neededIncome", "(LCashLedger;I[J)I"⟩
abbrev cL_balance : ByteArray := method_40_code
def yL_balance : MethodName := ⟨RL, "balance", "(LCashLedger;I[J)I"⟩
abbrev cL_law : ByteArray := code
def yL_law : MethodName := ⟨RL, "law", "([I)Z"⟩
abbrev vwCl : List vw_C := [(RX0, TX0, 7), (RX1, TX1, 8), (RX2, TX2, 3), (RX3, TX3, 4), (RX4, TX4, 9), (RX5, TX5, 11), (RX6, TX6, 6), (RX7, TX7, 9), (RX8, TX8, 16)]
end
section
/-! 02: the abstract heap (positions), the judgement G, a rule an instruction, contracts CT (returns) and CX (returns or throws) -/
def lw_good : List Cond := lw_tbl.filter goodWord
theorem lw_good_in {v : Cond} {n : Nat} (h : lw_tbl[n]? = some v) (hg : goodWord v = true) : v ∈ lw_good := List.mem_filter.mpr ⟨List.mem_of_getElem? h, hg⟩
theorem lw_good_ok {v : Cond} (h : v ∈ lw_good) : GoodIn lw_good (v :: lw_good) := fun x hx => by
  have hm : x ∈ lw_good := (List.mem_cons.mp hx).elim (fun e => e ▸ h) id
  exact ⟨hm, good_of_word (List.mem_filter.mp hm).2⟩
def nw_is (v : Cond) : Bool := match v with
  | .fieldLinkNest _ _ _ _ _ _ => true
  | .methodLinkNest _ _ _ _ => true
  | _ => false
def nw_all : List Cond := lw_tbl.filter nw_is
def NW (U : State) : Prop := ∀ v ∈ nw_all, va_Nw v U
theorem NW.warm {s U : State} (hW : s.WarmedH U.vm) (h : NW s) : NW U := by
  intro v hv
  have h1 := h v hv
  have h2 := (List.mem_filter.mp hv).2
  unfold nw_is at h2
  split at h2
  · exact va_Nw.warmF hW h1
  · exact va_Nw.warmM hW h1
  · cases h2
theorem NW.same {s U : State} (hv : s.vm = U.vm) (h : NW s) : NW U := by
  intro v hm
  have h1 := h v hm
  have h2 := (List.mem_filter.mp hm).2
  unfold nw_is at h2
  split at h2
  · exact va_Nw.same rfl hv h1
  · exact va_Nw.same rfl hv h1
  · cases h2
def rho (B : Nat) (od : Nat → Option Nat) (k : Nat) : Nat := match od k with
  | none => B + k
  | some a => a
def trV (B : Nat) (od : Nat → Option Nat) (v : Value) : Value := match v with
  | .ref k => .ref (rho B od k)
  | x => x
theorem trV_cat (B : Nat) (od : Nat → Option Nat) (v : Value) : (trV B od v).category = v.category := by cases v <;> rfl
theorem rho_inj {B : Nat} {od : Nat → Option Nat} {a b : Nat} (ha : od a = none) (hb : od b = none) (h : a ≠ b) : rho B od a ≠ rho B od b := by
  unfold rho; rw [ha, hb]; dsimp only; omega
theorem rho_lo {B : Nat} {od : Nat → Option Nat} {a : Nat} (ha : od a = none) : rho B od a = B + a := by
  unfold rho; rw [ha]
def trE (B : Nat) (od : Nat → Option Nat) (x : va_E) : va_E := match x with
  | .inl (cA, n, .inr (.inr (.inr (.inr f)))) => .inl (cA, n, .inr (.inr (.inr (.inr (fun j => (f j).map (rho B od))))))
  | .inl (cA, n, .inl f) => .inl (cA, n, .inl f)
  | .inl (cA, n, .inr (.inl f)) => .inl (cA, n, .inr (.inl f))
  | .inl (cA, n, .inr (.inr (.inl f))) => .inl (cA, n, .inr (.inr (.inl f)))
  | .inl (cA, n, .inr (.inr (.inr (.inl f)))) => .inl (cA, n, .inr (.inr (.inr (.inl f))))
  | .inr (ci, fs) => .inr (ci, fs.map (trV B od))
abbrev AH : Type := Nat → Option va_E
def upA (A : AH) (k : Nat) (x : va_E) : AH := fun j => if j = k then some x else A j
def RelA (D : va_G) (B : Nat) (od : Nat → Option Nat) (A : AH) (z : Nat) (H : Heap) : Prop := (∀ k x, A k = some x → od k = none ∧ va_at D vwCl (rho B od k, trE B od x) H) ∧ (z ≠ 0 → H.size + 1 = B + z)
def tysc (cy : Nat → ClassId) : List (ClassId × FieldType) := [(cy 0, .int), (cy 1, .long), (cy 2, .boolean), (cy 3, .double), (cy 4, .object RX6)]
/-- writing one position: the rest stays -/
theorem RelA.put {D : va_G} {B : Nat} {od : Nat → Option Nat} {A : AH} {z k : Nat} {x : va_E} {H H1 : Heap} (h : RelA D B od A z H) (hk : od k = none) (hx : va_at D vwCl (rho B od k, trE B od x) H1) (hz : H1.size = H.size) (ho : ∀ q : Nat, q ≠ rho B od k → H1[q]? = H[q]?) : RelA D B od (upA A k x) z H1 := by
  refine ⟨fun j y hj => ?_, fun hz0 => by rw [hz]; exact h.2 hz0⟩
  unfold upA at hj
  by_cases e : j = k
  · rw [if_pos e] at hj
    cases hj
    subst e
    exact ⟨hk, hx⟩
  · rw [if_neg e] at hj
    obtain ⟨h1, h2⟩ := h.1 j y hj
    exact ⟨h1, h2.kept (ho _ (rho_inj h1 hk e))⟩
/-- a new cell at the end -/
theorem RelA.push {D : va_G} {B : Nat} {od : Nat → Option Nat} {A : AH} {z : Nat} {x : va_E} {H H1 : Heap} (h : RelA D B od A (z + 1) H) (hk : od z = none) (hx : va_at D vwCl (H.size, trE B od x) H1) (hz : H1.size = H.size + 1) (ho : ∀ q : Nat, q < H.size → H1[q]? = H[q]?) : RelA D B od (upA A z x) (z + 2) H1 ∧ H.size = rho B od z := by
  have hs := h.2 (by omega)
  have hr : H.size = rho B od z := by rw [rho_lo hk]; omega
  refine ⟨⟨fun j y hj => ?_, fun _ => by omega⟩, hr⟩
  unfold upA at hj
  by_cases e : j = z
  · rw [if_pos e] at hj
    cases hj
    subst e
    exact ⟨hk, by rw [← hr]; exact hx⟩
  · rw [if_neg e] at hj
    obtain ⟨h1, h2⟩ := h.1 j y hj
    exact ⟨h1, h2.kept (ho _ h2.lt)⟩
theorem RelA.weak {D : va_G} {B : Nat} {od : Nat → Option Nat} {A A' : AH} {z z' : Nat} {H : Heap} (h : RelA D B od A z H) (hA : ∀ k x, A' k = some x → A k = some x) (hz : z' = z ∨ z' = 0) : RelA D B od A' z' H :=
  ⟨fun k x hk => h.1 k x (hA k x hk), fun hz0 => hz.elim (fun e => by rw [e]; exact h.2 (e ▸ hz0)) (fun e => absurd e hz0)⟩
-- locals
def LR (B : Nat) (od : Nat → Option Nat) (ls : Array Slot) (nL : Nat) (lv : List (Option Value)) : Prop := ls.size = nL ∧ lv_wf ls ∧ ∀ (i : Nat) (v : Value), lv[i]? = some (some v) → ls[i]? = some (.val (trV B od v))
def lvP (B : Nat) (od : Nat → Option Nat) (lv : List (Option Value)) : List (Nat × Value) := (List.range lv.length).filterMap (fun i => (lv.getD i none).map (fun v => (i, trV B od v)))
theorem lvP_mem {B : Nat} {od : Nat → Option Nat} {lv : List (Option Value)} {q : Nat × Value} : q ∈ lvP B od lv ↔ ∃ v, lv[q.1]? = some (some v) ∧ q.2 = trV B od v := by
  unfold lvP
  rw [List.mem_filterMap]
  constructor
  · rintro ⟨i, hi, h⟩
    have hl := List.mem_range.mp hi
    rw [List.getD_eq_getElem?_getD, List.getElem?_eq_getElem hl, Option.getD_some] at h
    cases hv : lv[i] with
    | none => rw [hv] at h; cases h
    | some v =>
      rw [hv] at h
      cases h
      exact ⟨v, by rw [List.getElem?_eq_getElem hl, hv], rfl⟩
  · rintro ⟨v, h1, h2⟩
    refine ⟨q.1, List.mem_range.mpr (List.getElem?_eq_some_iff.mp h1).1, ?_⟩
    rw [List.getD_eq_getElem?_getD, h1]
    obtain ⟨a, b⟩ := q
    dsimp only at h2
    rw [h2]; rfl
theorem LR.has {B : Nat} {od : Nat → Option Nat} {ls : Array Slot} {nL : Nat} {lv : List (Option Value)} (h : LR B od ls nL lv) : lv_has ls nL (lvP B od lv) := by
  refine ⟨h.1, h.2.1, fun q hq => ?_⟩
  obtain ⟨v, h1, h2⟩ := lvP_mem.mp hq
  rw [h2]; exact h.2.2 _ _ h1
theorem LR.at {B : Nat} {od : Nat → Option Nat} {ls : Array Slot} {nL : Nat} {lv : List (Option Value)} (h : LR B od ls nL lv) {i : Nat} {v : Value} (hi : lv[i]? = some (some v)) : ls[i]? = some (.val (trV B od v)) := h.2.2 i v hi
def isC2 (v : Option (Option Value)) : Bool := match v with
  | some (some (.long _)) => true
  | some (some (.double _)) => true
  | _ => false
theorem isC2_cat {v : Value} : v.category = 2 → isC2 (some (some v)) = true := by cases v <;> simp [Value.category, isC2]
def lset1 (lv : List (Option Value)) (i : Nat) (v : Value) : List (Option Value) := match i with
  | 0 => lv.set 0 (some v)
  | j + 1 => if isC2 lv[j]? = true then (lv.set j none).set (j + 1) (some v) else lv.set (j + 1) (some v)
def lset2 (lv : List (Option Value)) (i : Nat) (v : Value) : List (Option Value) := (lset1 lv i v).set (i + 1) none
theorem lset1_get {lv : List (Option Value)} {i j : Nat} {v x : Value} (h : (lset1 lv i v)[j]? = some (some x)) : (j = i ∧ x = v) ∨ (j ≠ i ∧ lv[j]? = some (some x) ∧ ¬ (j + 1 = i ∧ x.category = 2)) := by
  cases i with
  | zero =>
    unfold lset1 at h
    rw [List.getElem?_set] at h
    by_cases e : 0 = j
    · rw [if_pos e] at h
      split at h
      · cases h; exact Or.inl ⟨e.symm, rfl⟩
      · cases h
    · rw [if_neg e] at h
      exact Or.inr ⟨fun q => e q.symm, h, fun q => by omega⟩
  | succ k =>
    unfold lset1 at h
    dsimp only at h
    by_cases hc : isC2 lv[k]? = true
    · rw [if_pos hc, List.getElem?_set, List.getElem?_set] at h
      by_cases e : k + 1 = j
      · rw [if_pos e] at h
        split at h
        · cases h; exact Or.inl ⟨e.symm, rfl⟩
        · cases h
      · rw [if_neg e] at h
        by_cases e2 : k = j
        · rw [if_pos e2] at h
          split at h
          · cases h
          · cases h
        · rw [if_neg e2] at h
          exact Or.inr ⟨fun q => e q.symm, h, fun q => e2 (by omega)⟩
    · rw [if_neg hc, List.getElem?_set] at h
      by_cases e : k + 1 = j
      · rw [if_pos e] at h
        split at h
        · cases h; exact Or.inl ⟨e.symm, rfl⟩
        · cases h
      · rw [if_neg e] at h
        refine Or.inr ⟨fun q => e q.symm, h, fun q => hc ?_⟩
        have hj : j = k := by omega
        rw [← hj, h]
        exact isC2_cat q.2
theorem LR.set1 {B : Nat} {od : Nat → Option Nat} {ls : Array Slot} {nL : Nat} {lv : List (Option Value)} (h : LR B od ls nL lv) {i : Nat} {v : Value} (hi : i < nL) (hc : v.category = 1) : ∃ l2, (i, trV B od v) :: (lvP B od lv).filter (fun q => !(q.1 == i) && !(q.1 + 1 == i && q.2.category == 2)) = l2 ∧ ∀ ls', lv_has ls' nL l2 → LR B od ls' nL (lset1 lv i v) := by
  refine ⟨_, rfl, fun ls' h' => ⟨h'.1, h'.2.1, fun j x hx => ?_⟩⟩
  rcases lset1_get hx with ⟨rfl, rfl⟩ | ⟨h1, h2, h3⟩
  · exact h'.2.2 _ List.mem_cons_self
  · refine h'.2.2 (j, trV B od x) (List.mem_cons_of_mem _ (List.mem_filter.mpr ⟨lvP_mem.mpr ⟨x, h2, rfl⟩, ?_⟩))
    simp only [trV_cat, Bool.and_eq_true, Bool.not_eq_true', beq_eq_false_iff_ne, ne_eq]
    refine ⟨h1, ?_⟩
    cases hq : (j + 1 == i && x.category == 2) with
    | false => rfl
    | true =>
      simp only [Bool.and_eq_true, beq_iff_eq] at hq
      exact absurd hq h3
theorem LR.set2 {B : Nat} {od : Nat → Option Nat} {ls : Array Slot} {nL : Nat} {lv : List (Option Value)} (h : LR B od ls nL lv) {i : Nat} {v : Value} (hi : i + 1 < nL) (hc : v.category = 2) : ∃ l2, (i, trV B od v) :: (lvP B od lv).filter (fun q => !(q.1 == i) && (!(q.1 == i + 1) && !(q.1 + 1 == i && q.2.category == 2))) = l2 ∧ ∀ ls', lv_has ls' nL l2 → LR B od ls' nL (lset2 lv i v) := by
  refine ⟨_, rfl, fun ls' h' => ⟨h'.1, h'.2.1, fun j x hx => ?_⟩⟩
  unfold lset2 at hx
  rw [List.getElem?_set] at hx
  by_cases e : i + 1 = j
  · rw [if_pos e] at hx
    split at hx
    · cases hx
    · cases hx
  · rw [if_neg e] at hx
    rcases lset1_get hx with ⟨rfl, rfl⟩ | ⟨h1, h2, h3⟩
    · exact h'.2.2 _ List.mem_cons_self
    · refine h'.2.2 (j, trV B od x) (List.mem_cons_of_mem _ (List.mem_filter.mpr ⟨lvP_mem.mpr ⟨x, h2, rfl⟩, ?_⟩))
      simp only [trV_cat, Bool.and_eq_true, Bool.not_eq_true', beq_eq_false_iff_ne, ne_eq]
      refine ⟨h1, fun q => e q.symm, ?_⟩
      cases hq : (j + 1 == i && x.category == 2) with
      | false => rfl
      | true =>
        simp only [Bool.and_eq_true, beq_iff_eq] at hq
        exact absurd hq h3
-- the entry's locals
def entL : List Value → List (Option Value)
  | [] => []
  | v :: vs => if v.category = 2 then some v :: none :: entL vs else some v :: entL vs
theorem entL_mem {B : Nat} {od : Nat → Option Nat} : ∀ (vs : List Value) (b i : Nat) (v : Value), (entL vs)[i]? = some (some v) → (b + i, trV B od v) ∈ lv_args b (vs.map (trV B od)) := by
  intro vs
  induction vs with
  | nil => intro b i v h; simp [entL] at h
  | cons x xs ih =>
    intro b i v h
    unfold entL at h
    rw [List.map_cons]
    unfold lv_args
    by_cases hc : x.category = 2
    · rw [if_pos hc] at h
      rw [trV_cat, if_pos hc]
      match i, h with
      | 0, h => simp at h; subst h; exact List.mem_cons_self
      | 1, h => simp at h
      | k + 2, h =>
        have h' : (entL xs)[k]? = some (some v) := by simpa using h
        have := ih (b + 2) k v h'
        rw [show b + (k + 2) = b + 2 + k by omega]
        exact List.mem_cons_of_mem _ this
    · rw [if_neg hc] at h
      rw [trV_cat, if_neg hc]
      match i, h with
      | 0, h => simp at h; subst h; exact List.mem_cons_self
      | k + 1, h =>
        have h' : (entL xs)[k]? = some (some v) := by simpa using h
        have := ih (b + 1) k v h'
        rw [show b + (k + 1) = b + 1 + k by omega]
        exact List.mem_cons_of_mem _ this
def entN (vs : List Value) (n : Nat) : List (Option Value) := entL vs ++ List.replicate (n - (entL vs).length) none
theorem LR.entry {B : Nat} {od : Nat → Option Nat} {vs : List Value} {n : Nat} {ls : Array Slot} (h : lv_has ls n (lv_args 0 (vs.map (trV B od)))) : LR B od ls n (entN vs n) := by
  refine ⟨h.1, h.2.1, fun i v hv => ?_⟩
  unfold entN at hv
  rw [List.getElem?_append] at hv
  split at hv
  · have := h.2.2 _ (entL_mem (B := B) (od := od) vs 0 i v hv)
    rw [Nat.zero_add] at this
    exact this
  · rw [List.getElem?_replicate] at hv
    split at hv
    · cases hv
    · cases hv
theorem lg_len (B : Nat) (od : Nat → Option Nat) (vs : List Value) : (lg_sl (vs.map (trV B od))).length = (entL vs).length := by
  induction vs with
  | nil => rfl
  | cons x xs ih =>
    unfold lg_sl at ih ⊢
    rw [List.map_cons, List.flatMap_cons, List.length_append, ih]
    rw [show entL (x :: xs) = if x.category = 2 then some x :: none :: entL xs else some x :: entL xs from rfl, trV_cat]
    by_cases hc : x.category = 2
    · rw [if_pos hc, if_pos hc]; simp; omega
    · rw [if_neg hc, if_neg hc]; simp; omega
-- the code's table: (pc, instruction, length, the next row, the target row)
abbrev PT : Type := Nat × Instr × Nat × Nat × Nat
def isTerm (x : Instr) : Bool := match x with
  | .goto _ => true
  | .ireturn => true
  | .lreturn => true
  | .dreturn => true
  | .areturn => true
  | .return_ => true
  | .athrow => true
  | .tableswitch _ _ _ _ => true
  | _ => false
def brOff (x : Instr) : Option Int := match x with
  | .goto o => some o
  | .ifCond _ o => some o
  | .if_icmp _ o => some o
  | .ifnull o => some o
  | .ifnonnull o => some o
  | _ => none
def okRow (tab : List PT) (q : PT) : Bool := (isTerm q.2.1 || (match tab[q.2.2.2.1]? with | some r => r.1 == q.1 + q.2.2.1 | none => false)) && (match brOff q.2.1 with | none => true | some d => (match tab[q.2.2.2.2]? with | some r => (q.1 : Int) + d == (r.1 : Int) | none => false))
def OkTab (cc : ByteArray) (tab : List PT) : Prop := (∀ q ∈ tab, decode cc q.1 = .ok (q.2.1, q.2.2.1)) ∧ (tab.all (okRow tab)) = true
theorem OkTab.dec {cc : ByteArray} {tab : List PT} (h : OkTab cc tab) {i pc len nx tg : Nat} {x : Instr} (hi : tab[i]? = some (pc, x, len, nx, tg)) : decode cc pc = .ok (x, len) := h.1 (pc, x, len, nx, tg) (List.mem_of_getElem? hi)
theorem OkTab.fall {cc : ByteArray} {tab : List PT} (h : OkTab cc tab) {i pc len nx tg : Nat} {x : Instr} (hi : tab[i]? = some (pc, x, len, nx, tg)) (ht : isTerm x = false) : ∃ q, tab[nx]? = some q ∧ q.1 = pc + len := by
  have h1 := List.all_eq_true.mp h.2 _ (List.mem_of_getElem? hi)
  unfold okRow at h1
  rw [Bool.and_eq_true, Bool.or_eq_true] at h1
  rcases h1.1 with h2 | h2
  · exact absurd (ht.symm.trans h2) (by decide)
  · dsimp only at h2
    split at h2
    · rename_i r hr
      exact ⟨r, hr, by simpa using h2⟩
    · cases h2
theorem OkTab.br {cc : ByteArray} {tab : List PT} (h : OkTab cc tab) {i pc len nx tg : Nat} {x : Instr} {d : Int} (hi : tab[i]? = some (pc, x, len, nx, tg)) (hd : brOff x = some d) : ∃ q, tab[tg]? = some q ∧ (pc : Int) + d = (q.1 : Int) := by
  have h1 := List.all_eq_true.mp h.2 _ (List.mem_of_getElem? hi)
  unfold okRow at h1
  rw [Bool.and_eq_true] at h1
  have h2 := h1.2
  dsimp only at h2
  rw [hd] at h2
  dsimp only at h2
  split at h2
  · rename_i r hr
    exact ⟨r, hr, by simpa using h2⟩
  · cases h2
/-- string constants: the class that names it, its number there, its text -/
def strT : List (String × Nat × String) := [("CashLedger$SetupReader", 68, "start"), ("CashLedger$SetupReader", 77, "assets"), ("CashLedger$SetupReader", 82, "interest"), ("CashLedger$SetupReader", 87, "top"), ("CashLedger$SetupReader", 92, "bracket"), ("CashLedger$SetupReader", 97, "room"), ("CashLedger$SetupReader", 142, "office"), ("CashLedger", 343, "the ledger's state does not allow this call"), ("CashLedger", 339, "an argument is out of range, or the text is not valid"), ("CashLedger", 353, "there is nothing of this number"), ("CashLedger", 230, "what is out of range"), ("CashLedger", 348, "there is no such value"), ("CashLedgerModel", 134, "bracket"), ("CashLedgerModel", 139, "room"), ("CashLedgerModel", 128, "office"), ("CashLedgerModel", 144, "start"), ("CashLedgerModel", 155, "assets"), ("CashLedgerModel", 157, "interest"), ("CashLedgerModel", 159, "top")]
def OldF (B : Nat) (od : Nat → Option Nat) (U : State) (H : Heap) : Prop := vx_Zq Bundle.tN "UNASSIGNED_STACK" Bundle.steD (fun q => B ≤ q) U H ∧ vx_Zq Bundle.tN "SUPPRESSED_SENTINEL" Bundle.listD (fun q => B ≤ q) U H ∧ (∀ (j : Nat) (q : String × Nat × String), strT[j]? = some q → ∃ a, od (1000000 + j) = some a ∧ vk_R q.1 q.2.1 q.2.2 a U) ∧ ∀ k, k < 1000000 → od k = none
def Wd (D : va_G) (cy : Nat → ClassId) (B : Nat) (od : Nat → Option Nat) (A : AH) (z : Nat) (U : State) : Prop := va_K D vwCl (tysc cy) U ∧ NW U ∧ RelA D B od A z U.heap ∧ B ≤ U.heap.size ∧ OldF B od U U.heap
theorem OldF.kept {B : Nat} {od : Nat → Option Nat} {U : State} {H H1 : Heap} (h : OldF B od U H) (hq : ∀ a : Nat, a < H.size → ¬ B ≤ a → H1[a]? = H[a]?) : OldF B od U H1 := ⟨h.1.kept hq, h.2.1.kept hq, h.2.2⟩
theorem OldF.warm {B : Nat} {od : Nat → Option Nat} {s U : State} {H : Heap} (hW : s.WarmedH U.vm) (h : OldF B od s H) : OldF B od U H := ⟨vx_Zq.moved hW.alike h.1, vx_Zq.moved hW.alike h.2.1, fun j q hj => by obtain ⟨a, h1, h2⟩ := h.2.2.1 j q hj; exact ⟨a, h1, h2.warm hW⟩, h.2.2.2⟩
theorem OldF.same {B : Nat} {od : Nat → Option Nat} {s U : State} {H : Heap} (hv : U.vm = s.vm) (h : OldF B od s H) : OldF B od U H := ⟨vx_Zq.moved (hv ▸ Vm.Alike.refl s.vm) h.1, vx_Zq.moved (hv ▸ Vm.Alike.refl s.vm) h.2.1, fun j q hj => by obtain ⟨a, h1, h2⟩ := h.2.2.1 j q hj; exact ⟨a, h1, h2.same hv⟩, h.2.2.2⟩
theorem Wd.same {D : va_G} {cy : Nat → ClassId} {B : Nat} {od : Nat → Option Nat} {A : AH} {z : Nat} {s U : State} (hv : U.vm = s.vm) (hh : U.heap = s.heap) (h : Wd D cy B od A z s) : Wd D cy B od A z U := by
  obtain ⟨h1, h2, h3, h4, h5⟩ := h
  exact ⟨va_K.moved (hv ▸ Vm.Alike.refl s.vm) h1, NW.same hv.symm h2, by rw [hh]; exact h3, by rw [hh]; exact h4, by rw [hh]; exact OldF.same hv h5⟩
def PcA (D : va_G) (cy : Nat → ClassId) (B : Nat) (od : Nat → Option Nat) (av : List Value) (A : AH) (z : Nat) : Array Value → State → Prop := fun v U => v = (av.map (trV B od)).toArray ∧ Wd D cy B od A z U
theorem PcA.blind {D : va_G} {cy : Nat → ClassId} {B : Nat} {od : Nat → Option Nat} {av : List Value} {A : AH} {z : Nat} : FrameBlind (PcA D cy B od av A z) := fun _ U _ _ h => ⟨h.1, Wd.same (s := U) rfl rfl h.2⟩
abbrev QT : Type := Option Value → AH → Nat → Prop
abbrev QX : Type := String → AH → Prop
def QcA (D : va_G) (B : Nat) (od : Nat → Option Nat) (Q : QT) : Array Value → State → Outcome → State → Prop := fun _ st oc t => (∃ (v : Option Value) (A' : AH) (z' : Nat), oc = .returned (v.map (trV B od)) ∧ Q v A' z' ∧ RelA D B od A' z' t.heap) ∧ va_F (fun q => B ≤ q) st t
def XcA (D : va_G) (B : Nat) (od : Nat → Option Nat) (Q : QX) : String → State → State → Prop := fun E st t => (∃ A' : AH, Q E A' ∧ RelA D B od A' 0 t.heap) ∧ va_F (fun q => B ≤ q) st t
def CT (l : Launch) (D : va_G) (cy : Nat → ClassId) (B : Nat) (od : Nat → Option Nat) (y : MethodName) (bytes : ByteArray) (maxL : Nat) (ret : Option FieldType) (rm : Room) (av : List Value) (A : AH) (z : Nat) (Q : QT) : Prop := Met l y (Cond.code y bytes maxL ret :: lw_good) rm (PcA D cy B od av A z) (QcA D B od Q) rm.cells rm.slots (fun q => B ≤ q)
def CX (l : Launch) (D : va_G) (cy : Nat → ClassId) (B : Nat) (od : Nat → Option Nat) (y : MethodName) (bytes : ByteArray) (maxL : Nat) (ret : Option FieldType) (rm : Room) (av : List Value) (A : AH) (z : Nat) (Q : QT) (Qx : QX) : Prop := vx_Met l y (Cond.code y bytes maxL ret :: lw_good) rm (PcA D cy B od av A z) (QcA D B od Q) (XcA D B od Qx) rm.cells rm.slots (fun q => B ≤ q)
section CORE
variable {p : Program} {l : Launch} {e : Env} {R : Room} {s : State} {m : MethodId} {args : Array Value} {below : List Frame} {meth : Method} {c : Code}
variable {D : va_G} {cy : Nat → ClassId} {B : Nat} {od : Nat → Option Nat} {cc : ByteArray} {nL : Nat} {tab : List PT} {own : String} {ret : Option FieldType}
/-- what holds all through a method's body -/
def Cx (p : Program) (s : State) (m : MethodId) (args : Array Value) (meth : Method) (c : Code) (D : va_G) (cy : Nat → ClassId) (B : Nat) (od : Nat → Option Nat) (cc : ByteArray) (nL : Nat) (tab : List PT) (own : String) (ret : Option FieldType) : Prop :=
  (p.tables.exec = Jvm.exec ∧ c.code = cc ∧ c.maxLocals = nL ∧ s.vm.findClass own = some m.cls ∧ ∀ v ∈ lw_good, v.before args s = true) ∧ va_K D vwCl (tysc cy) s ∧ NW s ∧ OkTab cc tab ∧ meth.sig.returnType = ret ∧ meth.locks = false ∧ B ≤ s.heap.size ∧ OldF B od s s.heap
/-- the end: b tells whether the body may throw -/
def FinQ (b : Bool) (D : va_G) (B : Nat) (od : Nat → Option Nat) (Q : QT) (Qx : QX) (args : Array Value) (s : State) (below : List Frame) (mc ms : Nat) : State → Prop := match b with
  | false => MQ below (QcA D B od Q) args s mc ms (fun q => B ≤ q)
  | true => vx_MQ below (QcA D B od Q) (XcA D B od Qx) args s mc ms (fun q => B ≤ q)
def G (p : Program) (l : Launch) (e : Env) (R : Room) (s : State) (m : MethodId) (args : Array Value) (below : List Frame) (meth : Method) (c : Code) (D : va_G) (B : Nat) (od : Nat → Option Nat) (nL : Nat) (tab : List PT) (F : State → Prop) (cells slots : Nat) (A : AH) (z i : Nat) (lv : List (Option Value)) (st : List Value) : Prop :=
  ∀ q, tab[i]? = some q → ∀ (H : Heap) (locs : List Loc) (ls : Array Slot), RelA D B od A z H → va_S (fun q => B ≤ q) s.heap H locs → LR B od ls nL lv → W p l e R s m args below meth c H locs cells slots F (F0 m q.1 ls (st.map (trV B od)))
theorem Cx.world {A : AH} {z : Nat} {H : Heap} {locs : List Loc} (X : Cx p s m args meth c D cy B od cc nL tab own ret) (hR : RelA D B od A z H) (hS : va_S (fun q => B ≤ q) s.heap H locs) : ∀ U : State, U.heap = H → s.WarmedH U.vm → Wd D cy B od A z U := by
  obtain ⟨-, hK, hN, -, -, -, hB, hO⟩ := X
  intro U hU hW
  refine ⟨va_K.moved hW.alike hK, hN.warm hW, by rw [hU]; exact hR, by rw [hU]; exact Nat.le_trans hB hS.1, ?_⟩
  rw [hU]
  exact OldF.warm hW (hO.kept (fun a h1 h2 => hS.2.1 a h1 h2))
variable {F : State → Prop} {cells slots : Nat} {A : AH} {z i pc len nx tg : Nat} {lv : List (Option Value)} {st : List Value}

theorem g_iconst (X : Cx p s m args meth c D cy B od cc nL tab own ret) {n : Int} {v : Int32} (hi : tab[i]? = some (pc, .iconst n, 1, nx, tg)) (hv : Int32.ofInt n = v) (kk : G p l e R s m args below meth c D B od nL tab F cells slots A z nx lv (.int v :: st)) : G p l e R s m args below meth c D B od nL tab F cells slots A z i lv st := by
  intro q hq H locs ls hR hS hl
  cases Option.some.inj (hi.symm.trans hq)
  obtain ⟨q2, hq2, e2⟩ := X.2.2.2.1.fall hi rfl
  have K := kk q2 hq2 H locs ls hR hS hl
  rw [e2] at K
  exact lv_iconst X.1.1 X.1.2.1 (X.2.2.2.1.dec hi) hv K
theorem g_bipush (X : Cx p s m args meth c D cy B od cc nL tab own ret) {n : Int} {v : Int32} (hi : tab[i]? = some (pc, .bipush n, 2, nx, tg)) (hv : (Int8.ofInt n).toInt32 = v) (kk : G p l e R s m args below meth c D B od nL tab F cells slots A z nx lv (.int v :: st)) : G p l e R s m args below meth c D B od nL tab F cells slots A z i lv st := by
  intro q hq H locs ls hR hS hl
  cases Option.some.inj (hi.symm.trans hq)
  obtain ⟨q2, hq2, e2⟩ := X.2.2.2.1.fall hi rfl
  have K := kk q2 hq2 H locs ls hR hS hl
  rw [e2] at K
  exact lv_bipush X.1.1 X.1.2.1 (X.2.2.2.1.dec hi) hv K
theorem g_sipush (X : Cx p s m args meth c D cy B od cc nL tab own ret) {n : Int} {v : Int32} (hi : tab[i]? = some (pc, .sipush n, 3, nx, tg)) (hv : (Int16.ofInt n).toInt32 = v) (kk : G p l e R s m args below meth c D B od nL tab F cells slots A z nx lv (.int v :: st)) : G p l e R s m args below meth c D B od nL tab F cells slots A z i lv st := by
  intro q hq H locs ls hR hS hl
  cases Option.some.inj (hi.symm.trans hq)
  obtain ⟨q2, hq2, e2⟩ := X.2.2.2.1.fall hi rfl
  have K := kk q2 hq2 H locs ls hR hS hl
  rw [e2] at K
  exact lv_sipush X.1.1 X.1.2.1 (X.2.2.2.1.dec hi) hv K
theorem g_lconst (X : Cx p s m args meth c D cy B od cc nL tab own ret) {n : Fin 2} {v : Int64} (hi : tab[i]? = some (pc, .lconst n, 1, nx, tg)) (hv : Int64.ofNat (n : Nat) = v) (kk : G p l e R s m args below meth c D B od nL tab F cells slots A z nx lv (.long v :: st)) : G p l e R s m args below meth c D B od nL tab F cells slots A z i lv st := by
  intro q hq H locs ls hR hS hl
  cases Option.some.inj (hi.symm.trans hq)
  obtain ⟨q2, hq2, e2⟩ := X.2.2.2.1.fall hi rfl
  have K := kk q2 hq2 H locs ls hR hS hl
  rw [e2] at K
  exact lv_lconst X.1.1 X.1.2.1 (X.2.2.2.1.dec hi) hv K
theorem g_dconst0 (X : Cx p s m args meth c D cy B od cc nL tab own ret)  (hi : tab[i]? = some (pc, .dconst 0, 1, nx, tg))  (kk : G p l e R s m args below meth c D B od nL tab F cells slots A z nx lv (.double 0 :: st)) : G p l e R s m args below meth c D B od nL tab F cells slots A z i lv st := by
  intro q hq H locs ls hR hS hl
  cases Option.some.inj (hi.symm.trans hq)
  obtain ⟨q2, hq2, e2⟩ := X.2.2.2.1.fall hi rfl
  have K := kk q2 hq2 H locs ls hR hS hl
  rw [e2] at K
  exact lv_dconst0 X.1.1 X.1.2.1 (X.2.2.2.1.dec hi) K
theorem g_ldc (X : Cx p s m args meth c D cy B od cc nL tab own ret) {ix : Nat} {v : Int32} (hi : tab[i]? = some (pc, .ldc ix, 2, nx, tg)) (hw : Cond.constant own ix v ∈ lw_good) (kk : G p l e R s m args below meth c D B od nL tab F cells slots A z nx lv (.int v :: st)) : G p l e R s m args below meth c D B od nL tab F cells slots A z i lv st := by
  intro q hq H locs ls hR hS hl
  cases Option.some.inj (hi.symm.trans hq)
  obtain ⟨q2, hq2, e2⟩ := X.2.2.2.1.fall hi rfl
  have K := kk q2 hq2 H locs ls hR hS hl
  rw [e2] at K
  exact lv_ldc X.1.1 X.1.2.1 X.1.2.2.2.1 (X.1.2.2.2.2 _ hw) (X.2.2.2.1.dec hi) K
theorem g_ldcw (X : Cx p s m args meth c D cy B od cc nL tab own ret) {ix : Nat} {v : Int32} (hi : tab[i]? = some (pc, .ldc_w ix, 3, nx, tg)) (hw : Cond.constant own ix v ∈ lw_good) (kk : G p l e R s m args below meth c D B od nL tab F cells slots A z nx lv (.int v :: st)) : G p l e R s m args below meth c D B od nL tab F cells slots A z i lv st := by
  intro q hq H locs ls hR hS hl
  cases Option.some.inj (hi.symm.trans hq)
  obtain ⟨q2, hq2, e2⟩ := X.2.2.2.1.fall hi rfl
  have K := kk q2 hq2 H locs ls hR hS hl
  rw [e2] at K
  exact lv_ldcw X.1.1 X.1.2.1 X.1.2.2.2.1 (X.1.2.2.2.2 _ hw) (X.2.2.2.1.dec hi) K
theorem g_ldc2 (X : Cx p s m args meth c D cy B od cc nL tab own ret) {ix : Nat} {v : Int64} (hi : tab[i]? = some (pc, .ldc2_w ix, 3, nx, tg)) (hw : Cond.constantLong own ix v ∈ lw_good) (kk : G p l e R s m args below meth c D B od nL tab F cells slots A z nx lv (.long v :: st)) : G p l e R s m args below meth c D B od nL tab F cells slots A z i lv st := by
  intro q hq H locs ls hR hS hl
  cases Option.some.inj (hi.symm.trans hq)
  obtain ⟨q2, hq2, e2⟩ := X.2.2.2.1.fall hi rfl
  have K := kk q2 hq2 H locs ls hR hS hl
  rw [e2] at K
  exact lv_ldc2 X.1.1 X.1.2.1 X.1.2.2.2.1 (X.1.2.2.2.2 _ hw) (X.2.2.2.1.dec hi) K
theorem g_ldc2d (X : Cx p s m args meth c D cy B od cc nL tab own ret) {ix : Nat} {v : UInt64} (hi : tab[i]? = some (pc, .ldc2_w ix, 3, nx, tg)) (hw : Cond.constantDouble own ix v ∈ lw_good) (kk : G p l e R s m args below meth c D B od nL tab F cells slots A z nx lv (.double v :: st)) : G p l e R s m args below meth c D B od nL tab F cells slots A z i lv st := by
  intro q hq H locs ls hR hS hl
  cases Option.some.inj (hi.symm.trans hq)
  obtain ⟨q2, hq2, e2⟩ := X.2.2.2.1.fall hi rfl
  have K := kk q2 hq2 H locs ls hR hS hl
  rw [e2] at K
  exact lv_ldc2d X.1.1 X.1.2.1 X.1.2.2.2.1 (X.1.2.2.2.2 _ hw) (X.2.2.2.1.dec hi) K
theorem g_iload (X : Cx p s m args meth c D cy B od cc nL tab own ret) {k : Nat} {x : Int32} (hi : tab[i]? = some (pc, .iload k, 2, nx, tg)) (hk : lv[k]? = some (some (.int x))) (kk : G p l e R s m args below meth c D B od nL tab F cells slots A z nx lv (.int x :: st)) : G p l e R s m args below meth c D B od nL tab F cells slots A z i lv st := by
  intro q hq H locs ls hR hS hl
  cases Option.some.inj (hi.symm.trans hq)
  obtain ⟨q2, hq2, e2⟩ := X.2.2.2.1.fall hi rfl
  have K := kk q2 hq2 H locs ls hR hS hl
  rw [e2] at K
  exact lv_iload X.1.1 X.1.2.1 (X.2.2.2.1.dec hi) (hl.at hk) K
theorem g_iload_n (X : Cx p s m args meth c D cy B od cc nL tab own ret) {k : Fin 4} {x : Int32} (hi : tab[i]? = some (pc, .iload_n k, 1, nx, tg)) (hk : lv[(k : Nat)]? = some (some (.int x))) (kk : G p l e R s m args below meth c D B od nL tab F cells slots A z nx lv (.int x :: st)) : G p l e R s m args below meth c D B od nL tab F cells slots A z i lv st := by
  intro q hq H locs ls hR hS hl
  cases Option.some.inj (hi.symm.trans hq)
  obtain ⟨q2, hq2, e2⟩ := X.2.2.2.1.fall hi rfl
  have K := kk q2 hq2 H locs ls hR hS hl
  rw [e2] at K
  exact lv_iload_n X.1.1 X.1.2.1 (X.2.2.2.1.dec hi) rfl (hl.at hk) K
theorem g_lload (X : Cx p s m args meth c D cy B od cc nL tab own ret) {k : Nat} {x : Int64} (hi : tab[i]? = some (pc, .lload k, 2, nx, tg)) (hk : lv[k]? = some (some (.long x))) (kk : G p l e R s m args below meth c D B od nL tab F cells slots A z nx lv (.long x :: st)) : G p l e R s m args below meth c D B od nL tab F cells slots A z i lv st := by
  intro q hq H locs ls hR hS hl
  cases Option.some.inj (hi.symm.trans hq)
  obtain ⟨q2, hq2, e2⟩ := X.2.2.2.1.fall hi rfl
  have K := kk q2 hq2 H locs ls hR hS hl
  rw [e2] at K
  exact lv_lload X.1.1 X.1.2.1 (X.2.2.2.1.dec hi) (hl.at hk) K
theorem g_lload_n (X : Cx p s m args meth c D cy B od cc nL tab own ret) {k : Fin 4} {x : Int64} (hi : tab[i]? = some (pc, .lload_n k, 1, nx, tg)) (hk : lv[(k : Nat)]? = some (some (.long x))) (kk : G p l e R s m args below meth c D B od nL tab F cells slots A z nx lv (.long x :: st)) : G p l e R s m args below meth c D B od nL tab F cells slots A z i lv st := by
  intro q hq H locs ls hR hS hl
  cases Option.some.inj (hi.symm.trans hq)
  obtain ⟨q2, hq2, e2⟩ := X.2.2.2.1.fall hi rfl
  have K := kk q2 hq2 H locs ls hR hS hl
  rw [e2] at K
  exact lv_lload_n X.1.1 X.1.2.1 (X.2.2.2.1.dec hi) rfl (hl.at hk) K
theorem g_dload (X : Cx p s m args meth c D cy B od cc nL tab own ret) {k : Nat} {x : UInt64} (hi : tab[i]? = some (pc, .dload k, 2, nx, tg)) (hk : lv[k]? = some (some (.double x))) (kk : G p l e R s m args below meth c D B od nL tab F cells slots A z nx lv (.double x :: st)) : G p l e R s m args below meth c D B od nL tab F cells slots A z i lv st := by
  intro q hq H locs ls hR hS hl
  cases Option.some.inj (hi.symm.trans hq)
  obtain ⟨q2, hq2, e2⟩ := X.2.2.2.1.fall hi rfl
  have K := kk q2 hq2 H locs ls hR hS hl
  rw [e2] at K
  exact lv_dload X.1.1 X.1.2.1 (X.2.2.2.1.dec hi) (hl.at hk) K
theorem g_dload_n (X : Cx p s m args meth c D cy B od cc nL tab own ret) {k : Fin 4} {x : UInt64} (hi : tab[i]? = some (pc, .dload_n k, 1, nx, tg)) (hk : lv[(k : Nat)]? = some (some (.double x))) (kk : G p l e R s m args below meth c D B od nL tab F cells slots A z nx lv (.double x :: st)) : G p l e R s m args below meth c D B od nL tab F cells slots A z i lv st := by
  intro q hq H locs ls hR hS hl
  cases Option.some.inj (hi.symm.trans hq)
  obtain ⟨q2, hq2, e2⟩ := X.2.2.2.1.fall hi rfl
  have K := kk q2 hq2 H locs ls hR hS hl
  rw [e2] at K
  exact lv_dload_n X.1.1 X.1.2.1 (X.2.2.2.1.dec hi) rfl (hl.at hk) K
theorem g_aload (X : Cx p s m args meth c D cy B od cc nL tab own ret) {k : Nat} {x : Nat} (hi : tab[i]? = some (pc, .aload k, 2, nx, tg)) (hk : lv[k]? = some (some (.ref x))) (kk : G p l e R s m args below meth c D B od nL tab F cells slots A z nx lv (.ref x :: st)) : G p l e R s m args below meth c D B od nL tab F cells slots A z i lv st := by
  intro q hq H locs ls hR hS hl
  cases Option.some.inj (hi.symm.trans hq)
  obtain ⟨q2, hq2, e2⟩ := X.2.2.2.1.fall hi rfl
  have K := kk q2 hq2 H locs ls hR hS hl
  rw [e2] at K
  exact lv_aload X.1.1 X.1.2.1 (X.2.2.2.1.dec hi) (hl.at hk) K
theorem g_aload_n (X : Cx p s m args meth c D cy B od cc nL tab own ret) {k : Fin 4} {x : Nat} (hi : tab[i]? = some (pc, .aload_n k, 1, nx, tg)) (hk : lv[(k : Nat)]? = some (some (.ref x))) (kk : G p l e R s m args below meth c D B od nL tab F cells slots A z nx lv (.ref x :: st)) : G p l e R s m args below meth c D B od nL tab F cells slots A z i lv st := by
  intro q hq H locs ls hR hS hl
  cases Option.some.inj (hi.symm.trans hq)
  obtain ⟨q2, hq2, e2⟩ := X.2.2.2.1.fall hi rfl
  have K := kk q2 hq2 H locs ls hR hS hl
  rw [e2] at K
  exact lv_aload_n X.1.1 X.1.2.1 (X.2.2.2.1.dec hi) rfl (hl.at hk) K
theorem g_istore (X : Cx p s m args meth c D cy B od cc nL tab own ret) {k : Nat} {x : Int32} (hi : tab[i]? = some (pc, .istore k, 2, nx, tg)) (hn : k < nL) (kk : G p l e R s m args below meth c D B od nL tab F cells slots A z nx (lset1 lv k (.int x)) st) : G p l e R s m args below meth c D B od nL tab F cells slots A z i lv (.int x :: st) := by
  intro q hq H locs ls hR hS hl
  cases Option.some.inj (hi.symm.trans hq)
  obtain ⟨q2, hq2, e2⟩ := X.2.2.2.1.fall hi rfl
  obtain ⟨l2, h2, h3⟩ := hl.set1 (v := .int x) hn rfl
  refine lv_istore X.1.1 X.1.2.1 (X.2.2.2.1.dec hi) hl.has hn h2 (fun ls2 hl2 => ?_)
  have K := kk q2 hq2 H locs ls2 hR hS (h3 ls2 hl2)
  rw [e2] at K
  exact K
theorem g_istore_n (X : Cx p s m args meth c D cy B od cc nL tab own ret) {k : Fin 4} {x : Int32} (hi : tab[i]? = some (pc, .istore_n k, 1, nx, tg)) (hn : (k : Nat) < nL) (kk : G p l e R s m args below meth c D B od nL tab F cells slots A z nx (lset1 lv (k : Nat) (.int x)) st) : G p l e R s m args below meth c D B od nL tab F cells slots A z i lv (.int x :: st) := by
  intro q hq H locs ls hR hS hl
  cases Option.some.inj (hi.symm.trans hq)
  obtain ⟨q2, hq2, e2⟩ := X.2.2.2.1.fall hi rfl
  obtain ⟨l2, h2, h3⟩ := hl.set1 (v := .int x) hn rfl
  refine lv_istore_n X.1.1 X.1.2.1 (X.2.2.2.1.dec hi) rfl hl.has hn h2 (fun ls2 hl2 => ?_)
  have K := kk q2 hq2 H locs ls2 hR hS (h3 ls2 hl2)
  rw [e2] at K
  exact K
theorem g_lstore (X : Cx p s m args meth c D cy B od cc nL tab own ret) {k : Nat} {x : Int64} (hi : tab[i]? = some (pc, .lstore k, 2, nx, tg)) (hn : k + 1 < nL) (kk : G p l e R s m args below meth c D B od nL tab F cells slots A z nx (lset2 lv k (.long x)) st) : G p l e R s m args below meth c D B od nL tab F cells slots A z i lv (.long x :: st) := by
  intro q hq H locs ls hR hS hl
  cases Option.some.inj (hi.symm.trans hq)
  obtain ⟨q2, hq2, e2⟩ := X.2.2.2.1.fall hi rfl
  obtain ⟨l2, h2, h3⟩ := hl.set2 (v := .long x) hn rfl
  refine lv_lstore X.1.1 X.1.2.1 (X.2.2.2.1.dec hi) hl.has hn h2 (fun ls2 hl2 => ?_)
  have K := kk q2 hq2 H locs ls2 hR hS (h3 ls2 hl2)
  rw [e2] at K
  exact K
theorem g_lstore_n (X : Cx p s m args meth c D cy B od cc nL tab own ret) {k : Fin 4} {x : Int64} (hi : tab[i]? = some (pc, .lstore_n k, 1, nx, tg)) (hn : (k : Nat) + 1 < nL) (kk : G p l e R s m args below meth c D B od nL tab F cells slots A z nx (lset2 lv (k : Nat) (.long x)) st) : G p l e R s m args below meth c D B od nL tab F cells slots A z i lv (.long x :: st) := by
  intro q hq H locs ls hR hS hl
  cases Option.some.inj (hi.symm.trans hq)
  obtain ⟨q2, hq2, e2⟩ := X.2.2.2.1.fall hi rfl
  obtain ⟨l2, h2, h3⟩ := hl.set2 (v := .long x) hn rfl
  refine lv_lstore_n X.1.1 X.1.2.1 (X.2.2.2.1.dec hi) rfl hl.has hn h2 (fun ls2 hl2 => ?_)
  have K := kk q2 hq2 H locs ls2 hR hS (h3 ls2 hl2)
  rw [e2] at K
  exact K
theorem g_dstore (X : Cx p s m args meth c D cy B od cc nL tab own ret) {k : Nat} {x : UInt64} (hi : tab[i]? = some (pc, .dstore k, 2, nx, tg)) (hn : k + 1 < nL) (kk : G p l e R s m args below meth c D B od nL tab F cells slots A z nx (lset2 lv k (.double x)) st) : G p l e R s m args below meth c D B od nL tab F cells slots A z i lv (.double x :: st) := by
  intro q hq H locs ls hR hS hl
  cases Option.some.inj (hi.symm.trans hq)
  obtain ⟨q2, hq2, e2⟩ := X.2.2.2.1.fall hi rfl
  obtain ⟨l2, h2, h3⟩ := hl.set2 (v := .double x) hn rfl
  refine lv_dstore X.1.1 X.1.2.1 (X.2.2.2.1.dec hi) hl.has hn h2 (fun ls2 hl2 => ?_)
  have K := kk q2 hq2 H locs ls2 hR hS (h3 ls2 hl2)
  rw [e2] at K
  exact K
theorem g_dstore_n (X : Cx p s m args meth c D cy B od cc nL tab own ret) {k : Fin 4} {x : UInt64} (hi : tab[i]? = some (pc, .dstore_n k, 1, nx, tg)) (hn : (k : Nat) + 1 < nL) (kk : G p l e R s m args below meth c D B od nL tab F cells slots A z nx (lset2 lv (k : Nat) (.double x)) st) : G p l e R s m args below meth c D B od nL tab F cells slots A z i lv (.double x :: st) := by
  intro q hq H locs ls hR hS hl
  cases Option.some.inj (hi.symm.trans hq)
  obtain ⟨q2, hq2, e2⟩ := X.2.2.2.1.fall hi rfl
  obtain ⟨l2, h2, h3⟩ := hl.set2 (v := .double x) hn rfl
  refine lv_dstore_n X.1.1 X.1.2.1 (X.2.2.2.1.dec hi) rfl hl.has hn h2 (fun ls2 hl2 => ?_)
  have K := kk q2 hq2 H locs ls2 hR hS (h3 ls2 hl2)
  rw [e2] at K
  exact K
theorem g_astore (X : Cx p s m args meth c D cy B od cc nL tab own ret) {k : Nat} {x : Nat} (hi : tab[i]? = some (pc, .astore k, 2, nx, tg)) (hn : k < nL) (kk : G p l e R s m args below meth c D B od nL tab F cells slots A z nx (lset1 lv k (.ref x)) st) : G p l e R s m args below meth c D B od nL tab F cells slots A z i lv (.ref x :: st) := by
  intro q hq H locs ls hR hS hl
  cases Option.some.inj (hi.symm.trans hq)
  obtain ⟨q2, hq2, e2⟩ := X.2.2.2.1.fall hi rfl
  obtain ⟨l2, h2, h3⟩ := hl.set1 (v := .ref x) hn rfl
  refine lv_astore X.1.1 X.1.2.1 (X.2.2.2.1.dec hi) hl.has hn h2 (fun ls2 hl2 => ?_)
  have K := kk q2 hq2 H locs ls2 hR hS (h3 ls2 hl2)
  rw [e2] at K
  exact K
theorem g_astore_n (X : Cx p s m args meth c D cy B od cc nL tab own ret) {k : Fin 4} {x : Nat} (hi : tab[i]? = some (pc, .astore_n k, 1, nx, tg)) (hn : (k : Nat) < nL) (kk : G p l e R s m args below meth c D B od nL tab F cells slots A z nx (lset1 lv (k : Nat) (.ref x)) st) : G p l e R s m args below meth c D B od nL tab F cells slots A z i lv (.ref x :: st) := by
  intro q hq H locs ls hR hS hl
  cases Option.some.inj (hi.symm.trans hq)
  obtain ⟨q2, hq2, e2⟩ := X.2.2.2.1.fall hi rfl
  obtain ⟨l2, h2, h3⟩ := hl.set1 (v := .ref x) hn rfl
  refine lv_astore_n X.1.1 X.1.2.1 (X.2.2.2.1.dec hi) rfl hl.has hn h2 (fun ls2 hl2 => ?_)
  have K := kk q2 hq2 H locs ls2 hR hS (h3 ls2 hl2)
  rw [e2] at K
  exact K
theorem g_iinc (X : Cx p s m args meth c D cy B od cc nL tab own ret) {k : Nat} {n : Int} {x : Int32} (hi : tab[i]? = some (pc, .iinc k n, 3, nx, tg)) (hk : lv[k]? = some (some (.int x))) (hn : k < nL) (kk : G p l e R s m args below meth c D B od nL tab F cells slots A z nx (lset1 lv k (.int (x + Int32.ofInt n))) st) : G p l e R s m args below meth c D B od nL tab F cells slots A z i lv st := by
  intro q hq H locs ls hR hS hl
  cases Option.some.inj (hi.symm.trans hq)
  obtain ⟨q2, hq2, e2⟩ := X.2.2.2.1.fall hi rfl
  obtain ⟨l2, h2, h3⟩ := hl.set1 (v := .int (x + Int32.ofInt n)) hn rfl
  obtain ⟨k2, hk2⟩ := List.getElem?_of_mem (lvP_mem.mpr ⟨.int x, hk, rfl⟩ : ((k, trV B od (.int x)) : Nat × Value) ∈ lvP B od lv)
  refine lv_iinc X.1.1 X.1.2.1 (X.2.2.2.1.dec hi) hl.has hk2 rfl hn h2 (fun ls2 hl2 => ?_)
  have K := kk q2 hq2 H locs ls2 hR hS (h3 ls2 hl2)
  rw [e2] at K
  exact K
theorem g_iadd (X : Cx p s m args meth c D cy B od cc nL tab own ret) {x y : Int32} (hi : tab[i]? = some (pc, .iadd, 1, nx, tg))  (kk : G p l e R s m args below meth c D B od nL tab F cells slots A z nx lv (.int (x + y) :: st)) : G p l e R s m args below meth c D B od nL tab F cells slots A z i lv (.int y :: .int x :: st) := by
  intro q hq H locs ls hR hS hl
  cases Option.some.inj (hi.symm.trans hq)
  obtain ⟨q2, hq2, e2⟩ := X.2.2.2.1.fall hi rfl
  have K := kk q2 hq2 H locs ls hR hS hl
  rw [e2] at K
  exact lv_iadd X.1.1 X.1.2.1 (X.2.2.2.1.dec hi) K
theorem g_isub (X : Cx p s m args meth c D cy B od cc nL tab own ret) {x y : Int32} (hi : tab[i]? = some (pc, .isub, 1, nx, tg))  (kk : G p l e R s m args below meth c D B od nL tab F cells slots A z nx lv (.int (x - y) :: st)) : G p l e R s m args below meth c D B od nL tab F cells slots A z i lv (.int y :: .int x :: st) := by
  intro q hq H locs ls hR hS hl
  cases Option.some.inj (hi.symm.trans hq)
  obtain ⟨q2, hq2, e2⟩ := X.2.2.2.1.fall hi rfl
  have K := kk q2 hq2 H locs ls hR hS hl
  rw [e2] at K
  exact lv_isub X.1.1 X.1.2.1 (X.2.2.2.1.dec hi) K
theorem g_imul (X : Cx p s m args meth c D cy B od cc nL tab own ret) {x y : Int32} (hi : tab[i]? = some (pc, .imul, 1, nx, tg))  (kk : G p l e R s m args below meth c D B od nL tab F cells slots A z nx lv (.int (x * y) :: st)) : G p l e R s m args below meth c D B od nL tab F cells slots A z i lv (.int y :: .int x :: st) := by
  intro q hq H locs ls hR hS hl
  cases Option.some.inj (hi.symm.trans hq)
  obtain ⟨q2, hq2, e2⟩ := X.2.2.2.1.fall hi rfl
  have K := kk q2 hq2 H locs ls hR hS hl
  rw [e2] at K
  exact lv_imul X.1.1 X.1.2.1 (X.2.2.2.1.dec hi) K
theorem g_iand (X : Cx p s m args meth c D cy B od cc nL tab own ret) {x y : Int32} (hi : tab[i]? = some (pc, .iand, 1, nx, tg))  (kk : G p l e R s m args below meth c D B od nL tab F cells slots A z nx lv (.int (x &&& y) :: st)) : G p l e R s m args below meth c D B od nL tab F cells slots A z i lv (.int y :: .int x :: st) := by
  intro q hq H locs ls hR hS hl
  cases Option.some.inj (hi.symm.trans hq)
  obtain ⟨q2, hq2, e2⟩ := X.2.2.2.1.fall hi rfl
  have K := kk q2 hq2 H locs ls hR hS hl
  rw [e2] at K
  exact lv_iand X.1.1 X.1.2.1 (X.2.2.2.1.dec hi) K
theorem g_ior (X : Cx p s m args meth c D cy B od cc nL tab own ret) {x y : Int32} (hi : tab[i]? = some (pc, .ior, 1, nx, tg))  (kk : G p l e R s m args below meth c D B od nL tab F cells slots A z nx lv (.int (x ||| y) :: st)) : G p l e R s m args below meth c D B od nL tab F cells slots A z i lv (.int y :: .int x :: st) := by
  intro q hq H locs ls hR hS hl
  cases Option.some.inj (hi.symm.trans hq)
  obtain ⟨q2, hq2, e2⟩ := X.2.2.2.1.fall hi rfl
  have K := kk q2 hq2 H locs ls hR hS hl
  rw [e2] at K
  exact lv_ior X.1.1 X.1.2.1 (X.2.2.2.1.dec hi) K
theorem g_ishl (X : Cx p s m args meth c D cy B od cc nL tab own ret) {x y : Int32} (hi : tab[i]? = some (pc, .ishl, 1, nx, tg))  (kk : G p l e R s m args below meth c D B od nL tab F cells slots A z nx lv (.int (x <<< (y &&& 31)) :: st)) : G p l e R s m args below meth c D B od nL tab F cells slots A z i lv (.int y :: .int x :: st) := by
  intro q hq H locs ls hR hS hl
  cases Option.some.inj (hi.symm.trans hq)
  obtain ⟨q2, hq2, e2⟩ := X.2.2.2.1.fall hi rfl
  have K := kk q2 hq2 H locs ls hR hS hl
  rw [e2] at K
  exact lv_ishl X.1.1 X.1.2.1 (X.2.2.2.1.dec hi) K
theorem g_ishr (X : Cx p s m args meth c D cy B od cc nL tab own ret) {x y : Int32} (hi : tab[i]? = some (pc, .ishr, 1, nx, tg))  (kk : G p l e R s m args below meth c D B od nL tab F cells slots A z nx lv (.int (x >>> (y &&& 31)) :: st)) : G p l e R s m args below meth c D B od nL tab F cells slots A z i lv (.int y :: .int x :: st) := by
  intro q hq H locs ls hR hS hl
  cases Option.some.inj (hi.symm.trans hq)
  obtain ⟨q2, hq2, e2⟩ := X.2.2.2.1.fall hi rfl
  have K := kk q2 hq2 H locs ls hR hS hl
  rw [e2] at K
  exact lv_ishr X.1.1 X.1.2.1 (X.2.2.2.1.dec hi) K
theorem g_iushr (X : Cx p s m args meth c D cy B od cc nL tab own ret) {x y : Int32} (hi : tab[i]? = some (pc, .iushr, 1, nx, tg))  (kk : G p l e R s m args below meth c D B od nL tab F cells slots A z nx lv (.int ((x.toUInt32 >>> (y.toUInt32 &&& Int32.toUInt32 31)).toInt32) :: st)) : G p l e R s m args below meth c D B od nL tab F cells slots A z i lv (.int y :: .int x :: st) := by
  intro q hq H locs ls hR hS hl
  cases Option.some.inj (hi.symm.trans hq)
  obtain ⟨q2, hq2, e2⟩ := X.2.2.2.1.fall hi rfl
  have K := kk q2 hq2 H locs ls hR hS hl
  rw [e2] at K
  exact lv_iushr X.1.1 X.1.2.1 (X.2.2.2.1.dec hi) rfl K
theorem g_idiv (X : Cx p s m args meth c D cy B od cc nL tab own ret) {x y : Int32} (hi : tab[i]? = some (pc, .idiv, 1, nx, tg)) (hne : ¬ y = 0) (kk : G p l e R s m args below meth c D B od nL tab F cells slots A z nx lv (.int (x / y) :: st)) : G p l e R s m args below meth c D B od nL tab F cells slots A z i lv (.int y :: .int x :: st) := by
  intro q hq H locs ls hR hS hl
  cases Option.some.inj (hi.symm.trans hq)
  obtain ⟨q2, hq2, e2⟩ := X.2.2.2.1.fall hi rfl
  have K := kk q2 hq2 H locs ls hR hS hl
  rw [e2] at K
  exact lv_idiv X.1.1 X.1.2.1 (X.2.2.2.1.dec hi) hne K
theorem g_irem (X : Cx p s m args meth c D cy B od cc nL tab own ret) {x y : Int32} (hi : tab[i]? = some (pc, .irem, 1, nx, tg)) (hne : ¬ y = 0) (kk : G p l e R s m args below meth c D B od nL tab F cells slots A z nx lv (.int (x - x / y * y) :: st)) : G p l e R s m args below meth c D B od nL tab F cells slots A z i lv (.int y :: .int x :: st) := by
  intro q hq H locs ls hR hS hl
  cases Option.some.inj (hi.symm.trans hq)
  obtain ⟨q2, hq2, e2⟩ := X.2.2.2.1.fall hi rfl
  have K := kk q2 hq2 H locs ls hR hS hl
  rw [e2] at K
  exact lv_irem X.1.1 X.1.2.1 (X.2.2.2.1.dec hi) hne K
theorem g_ladd (X : Cx p s m args meth c D cy B od cc nL tab own ret) {x y : Int64} (hi : tab[i]? = some (pc, .ladd, 1, nx, tg))  (kk : G p l e R s m args below meth c D B od nL tab F cells slots A z nx lv (.long (x + y) :: st)) : G p l e R s m args below meth c D B od nL tab F cells slots A z i lv (.long y :: .long x :: st) := by
  intro q hq H locs ls hR hS hl
  cases Option.some.inj (hi.symm.trans hq)
  obtain ⟨q2, hq2, e2⟩ := X.2.2.2.1.fall hi rfl
  have K := kk q2 hq2 H locs ls hR hS hl
  rw [e2] at K
  exact lv_ladd X.1.1 X.1.2.1 (X.2.2.2.1.dec hi) K
theorem g_lsub (X : Cx p s m args meth c D cy B od cc nL tab own ret) {x y : Int64} (hi : tab[i]? = some (pc, .lsub, 1, nx, tg))  (kk : G p l e R s m args below meth c D B od nL tab F cells slots A z nx lv (.long (x - y) :: st)) : G p l e R s m args below meth c D B od nL tab F cells slots A z i lv (.long y :: .long x :: st) := by
  intro q hq H locs ls hR hS hl
  cases Option.some.inj (hi.symm.trans hq)
  obtain ⟨q2, hq2, e2⟩ := X.2.2.2.1.fall hi rfl
  have K := kk q2 hq2 H locs ls hR hS hl
  rw [e2] at K
  exact lv_lsub X.1.1 X.1.2.1 (X.2.2.2.1.dec hi) K
theorem g_lmul (X : Cx p s m args meth c D cy B od cc nL tab own ret) {x y : Int64} (hi : tab[i]? = some (pc, .lmul, 1, nx, tg))  (kk : G p l e R s m args below meth c D B od nL tab F cells slots A z nx lv (.long (x * y) :: st)) : G p l e R s m args below meth c D B od nL tab F cells slots A z i lv (.long y :: .long x :: st) := by
  intro q hq H locs ls hR hS hl
  cases Option.some.inj (hi.symm.trans hq)
  obtain ⟨q2, hq2, e2⟩ := X.2.2.2.1.fall hi rfl
  have K := kk q2 hq2 H locs ls hR hS hl
  rw [e2] at K
  exact lv_lmul X.1.1 X.1.2.1 (X.2.2.2.1.dec hi) K
theorem g_ldiv (X : Cx p s m args meth c D cy B od cc nL tab own ret) {x y : Int64} (hi : tab[i]? = some (pc, .ldiv, 1, nx, tg)) (hne : ¬ y = 0) (kk : G p l e R s m args below meth c D B od nL tab F cells slots A z nx lv (.long (x / y) :: st)) : G p l e R s m args below meth c D B od nL tab F cells slots A z i lv (.long y :: .long x :: st) := by
  intro q hq H locs ls hR hS hl
  cases Option.some.inj (hi.symm.trans hq)
  obtain ⟨q2, hq2, e2⟩ := X.2.2.2.1.fall hi rfl
  have K := kk q2 hq2 H locs ls hR hS hl
  rw [e2] at K
  exact lv_ldiv X.1.1 X.1.2.1 (X.2.2.2.1.dec hi) hne K
theorem g_ineg (X : Cx p s m args meth c D cy B od cc nL tab own ret) {x : Int32} (hi : tab[i]? = some (pc, .ineg, 1, nx, tg))  (kk : G p l e R s m args below meth c D B od nL tab F cells slots A z nx lv (.int (-x) :: st)) : G p l e R s m args below meth c D B od nL tab F cells slots A z i lv (.int x :: st) := by
  intro q hq H locs ls hR hS hl
  cases Option.some.inj (hi.symm.trans hq)
  obtain ⟨q2, hq2, e2⟩ := X.2.2.2.1.fall hi rfl
  have K := kk q2 hq2 H locs ls hR hS hl
  rw [e2] at K
  exact lv_ineg X.1.1 X.1.2.1 (X.2.2.2.1.dec hi) K
theorem g_lneg (X : Cx p s m args meth c D cy B od cc nL tab own ret) {x : Int64} (hi : tab[i]? = some (pc, .lneg, 1, nx, tg))  (kk : G p l e R s m args below meth c D B od nL tab F cells slots A z nx lv (.long (-x) :: st)) : G p l e R s m args below meth c D B od nL tab F cells slots A z i lv (.long x :: st) := by
  intro q hq H locs ls hR hS hl
  cases Option.some.inj (hi.symm.trans hq)
  obtain ⟨q2, hq2, e2⟩ := X.2.2.2.1.fall hi rfl
  have K := kk q2 hq2 H locs ls hR hS hl
  rw [e2] at K
  exact lv_lneg X.1.1 X.1.2.1 (X.2.2.2.1.dec hi) K
theorem g_i2l (X : Cx p s m args meth c D cy B od cc nL tab own ret) {x : Int32} (hi : tab[i]? = some (pc, .i2l, 1, nx, tg))  (kk : G p l e R s m args below meth c D B od nL tab F cells slots A z nx lv (.long x.toInt64 :: st)) : G p l e R s m args below meth c D B od nL tab F cells slots A z i lv (.int x :: st) := by
  intro q hq H locs ls hR hS hl
  cases Option.some.inj (hi.symm.trans hq)
  obtain ⟨q2, hq2, e2⟩ := X.2.2.2.1.fall hi rfl
  have K := kk q2 hq2 H locs ls hR hS hl
  rw [e2] at K
  exact lv_i2l X.1.1 X.1.2.1 (X.2.2.2.1.dec hi) rfl K
theorem g_l2i (X : Cx p s m args meth c D cy B od cc nL tab own ret) {x : Int64} (hi : tab[i]? = some (pc, .l2i, 1, nx, tg))  (kk : G p l e R s m args below meth c D B od nL tab F cells slots A z nx lv (.int x.toInt32 :: st)) : G p l e R s m args below meth c D B od nL tab F cells slots A z i lv (.long x :: st) := by
  intro q hq H locs ls hR hS hl
  cases Option.some.inj (hi.symm.trans hq)
  obtain ⟨q2, hq2, e2⟩ := X.2.2.2.1.fall hi rfl
  have K := kk q2 hq2 H locs ls hR hS hl
  rw [e2] at K
  exact lv_l2i X.1.1 X.1.2.1 (X.2.2.2.1.dec hi) rfl K
theorem g_i2c (X : Cx p s m args meth c D cy B od cc nL tab own ret) {x : Int32} (hi : tab[i]? = some (pc, .i2c, 1, nx, tg))  (kk : G p l e R s m args below meth c D B od nL tab F cells slots A z nx lv (.int (x.toUInt32 % 65536).toInt32 :: st)) : G p l e R s m args below meth c D B od nL tab F cells slots A z i lv (.int x :: st) := by
  intro q hq H locs ls hR hS hl
  cases Option.some.inj (hi.symm.trans hq)
  obtain ⟨q2, hq2, e2⟩ := X.2.2.2.1.fall hi rfl
  have K := kk q2 hq2 H locs ls hR hS hl
  rw [e2] at K
  exact lv_i2c X.1.1 X.1.2.1 (X.2.2.2.1.dec hi) rfl K
theorem g_l2d (X : Cx p s m args meth c D cy B od cc nL tab own ret) {x : Int64} (hi : tab[i]? = some (pc, .l2d, 1, nx, tg))  (kk : G p l e R s m args below meth c D B od nL tab F cells slots A z nx lv (.double (FP.l2d x) :: st)) : G p l e R s m args below meth c D B od nL tab F cells slots A z i lv (.long x :: st) := by
  intro q hq H locs ls hR hS hl
  cases Option.some.inj (hi.symm.trans hq)
  obtain ⟨q2, hq2, e2⟩ := X.2.2.2.1.fall hi rfl
  have K := kk q2 hq2 H locs ls hR hS hl
  rw [e2] at K
  exact lv_l2d X.1.1 X.1.2.1 (X.2.2.2.1.dec hi) K
theorem g_dmul (X : Cx p s m args meth c D cy B od cc nL tab own ret) {x y : UInt64} (hi : tab[i]? = some (pc, .dmul, 1, nx, tg)) (hne : vf_n64 (FP.dmul x y)) (kk : G p l e R s m args below meth c D B od nL tab F cells slots A z nx lv (.double (FP.dmul x y) :: st)) : G p l e R s m args below meth c D B od nL tab F cells slots A z i lv (.double y :: .double x :: st) := by
  intro q hq H locs ls hR hS hl
  cases Option.some.inj (hi.symm.trans hq)
  obtain ⟨q2, hq2, e2⟩ := X.2.2.2.1.fall hi rfl
  have K := kk q2 hq2 H locs ls hR hS hl
  rw [e2] at K
  exact lv_dmul X.1.1 X.1.2.1 (X.2.2.2.1.dec hi) hne K
theorem g_ddiv (X : Cx p s m args meth c D cy B od cc nL tab own ret) {x y : UInt64} (hi : tab[i]? = some (pc, .ddiv, 1, nx, tg)) (hne : vf_n64 (FP.ddiv x y)) (kk : G p l e R s m args below meth c D B od nL tab F cells slots A z nx lv (.double (FP.ddiv x y) :: st)) : G p l e R s m args below meth c D B od nL tab F cells slots A z i lv (.double y :: .double x :: st) := by
  intro q hq H locs ls hR hS hl
  cases Option.some.inj (hi.symm.trans hq)
  obtain ⟨q2, hq2, e2⟩ := X.2.2.2.1.fall hi rfl
  have K := kk q2 hq2 H locs ls hR hS hl
  rw [e2] at K
  exact lv_ddiv X.1.1 X.1.2.1 (X.2.2.2.1.dec hi) hne K
theorem g_dcmp (X : Cx p s m args meth c D cy B od cc nL tab own ret) {op : CmpOp} {x y : UInt64} (hi : tab[i]? = some (pc, .dcmp op, 1, nx, tg))  (kk : G p l e R s m args below meth c D B od nL tab F cells slots A z nx lv (.int (Op.cmpValue (FP.dcmp x y) op) :: st)) : G p l e R s m args below meth c D B od nL tab F cells slots A z i lv (.double y :: .double x :: st) := by
  intro q hq H locs ls hR hS hl
  cases Option.some.inj (hi.symm.trans hq)
  obtain ⟨q2, hq2, e2⟩ := X.2.2.2.1.fall hi rfl
  have K := kk q2 hq2 H locs ls hR hS hl
  rw [e2] at K
  exact lv_dcmp X.1.1 X.1.2.1 (X.2.2.2.1.dec hi) K
theorem g_lcmp (X : Cx p s m args meth c D cy B od cc nL tab own ret) {x y : Int64} (hi : tab[i]? = some (pc, .lcmp, 1, nx, tg))  (kk : G p l e R s m args below meth c D B od nL tab F cells slots A z nx lv (.int (lg_cmp x y) :: st)) : G p l e R s m args below meth c D B od nL tab F cells slots A z i lv (.long y :: .long x :: st) := by
  intro q hq H locs ls hR hS hl
  cases Option.some.inj (hi.symm.trans hq)
  obtain ⟨q2, hq2, e2⟩ := X.2.2.2.1.fall hi rfl
  have K := kk q2 hq2 H locs ls hR hS hl
  rw [e2] at K
  exact W.lcmp X.1.1 X.1.2.1 (X.2.2.2.1.dec hi) K
theorem g_dup (X : Cx p s m args meth c D cy B od cc nL tab own ret) {va : Value} (hi : tab[i]? = some (pc, .dup, 1, nx, tg)) (hva : va.category = 1) (kk : G p l e R s m args below meth c D B od nL tab F cells slots A z nx lv (va :: va :: st)) : G p l e R s m args below meth c D B od nL tab F cells slots A z i lv (va :: st) := by
  intro q hq H locs ls hR hS hl
  cases Option.some.inj (hi.symm.trans hq)
  obtain ⟨q2, hq2, e2⟩ := X.2.2.2.1.fall hi rfl
  have K := kk q2 hq2 H locs ls hR hS hl
  rw [e2] at K
  exact lv_dup X.1.1 X.1.2.1 (X.2.2.2.1.dec hi) ((trV_cat B od va).trans hva) K
theorem g_dup2 (X : Cx p s m args meth c D cy B od cc nL tab own ret) {va vb : Value} (hi : tab[i]? = some (pc, .dup2, 1, nx, tg)) (hva : va.category = 1) (hvb : vb.category = 1) (kk : G p l e R s m args below meth c D B od nL tab F cells slots A z nx lv (va :: vb :: va :: vb :: st)) : G p l e R s m args below meth c D B od nL tab F cells slots A z i lv (va :: vb :: st) := by
  intro q hq H locs ls hR hS hl
  cases Option.some.inj (hi.symm.trans hq)
  obtain ⟨q2, hq2, e2⟩ := X.2.2.2.1.fall hi rfl
  have K := kk q2 hq2 H locs ls hR hS hl
  rw [e2] at K
  exact lv_dup2_11 X.1.1 X.1.2.1 (X.2.2.2.1.dec hi) ((trV_cat B od va).trans hva) ((trV_cat B od vb).trans hvb) K
theorem g_pop (X : Cx p s m args meth c D cy B od cc nL tab own ret) {va : Value} (hi : tab[i]? = some (pc, .pop, 1, nx, tg)) (hva : va.category = 1) (kk : G p l e R s m args below meth c D B od nL tab F cells slots A z nx lv st) : G p l e R s m args below meth c D B od nL tab F cells slots A z i lv (va :: st) := by
  intro q hq H locs ls hR hS hl
  cases Option.some.inj (hi.symm.trans hq)
  obtain ⟨q2, hq2, e2⟩ := X.2.2.2.1.fall hi rfl
  have K := kk q2 hq2 H locs ls hR hS hl
  rw [e2] at K
  exact lv_pop X.1.1 X.1.2.1 (X.2.2.2.1.dec hi) ((trV_cat B od va).trans hva) K
theorem g_goto (X : Cx p s m args meth c D cy B od cc nL tab own ret) {d : Int} (hi : tab[i]? = some (pc, .goto d, 3, nx, tg)) (kk : G p l e R s m args below meth c D B od nL tab F cells slots A z tg lv st) : G p l e R s m args below meth c D B od nL tab F cells slots A z i lv st := by
  intro q hq H locs ls hR hS hl
  cases Option.some.inj (hi.symm.trans hq)
  obtain ⟨q2, hq2, e2⟩ := X.2.2.2.1.br hi rfl
  exact lv_goto X.1.1 X.1.2.1 (X.2.2.2.1.dec hi) e2 (kk q2 hq2 H locs ls hR hS hl)
theorem g_if_eq (X : Cx p s m args meth c D cy B od cc nL tab own ret) {x : Int32} {d : Int} (hi : tab[i]? = some (pc, .ifCond .eq d, 3, nx, tg)) (kt : x = 0 → G p l e R s m args below meth c D B od nL tab F cells slots A z tg lv st) (kf : ¬ x = 0 → G p l e R s m args below meth c D B od nL tab F cells slots A z nx lv st) : G p l e R s m args below meth c D B od nL tab F cells slots A z i lv (.int x :: st) := by
  intro q hq H locs ls hR hS hl
  cases Option.some.inj (hi.symm.trans hq)
  obtain ⟨q2, hq2, e2⟩ := X.2.2.2.1.fall hi rfl
  obtain ⟨q3, hq3, e3⟩ := X.2.2.2.1.br hi rfl
  refine lv_if_eq X.1.1 X.1.2.1 (X.2.2.2.1.dec hi) e3 (fun h => kt h q3 hq3 H locs ls hR hS hl) (fun h => ?_)
  have K := kf h q2 hq2 H locs ls hR hS hl
  rw [e2] at K
  exact K
theorem g_if_ne (X : Cx p s m args meth c D cy B od cc nL tab own ret) {x : Int32} {d : Int} (hi : tab[i]? = some (pc, .ifCond .ne d, 3, nx, tg)) (kt : ¬ x = 0 → G p l e R s m args below meth c D B od nL tab F cells slots A z tg lv st) (kf : x = 0 → G p l e R s m args below meth c D B od nL tab F cells slots A z nx lv st) : G p l e R s m args below meth c D B od nL tab F cells slots A z i lv (.int x :: st) := by
  intro q hq H locs ls hR hS hl
  cases Option.some.inj (hi.symm.trans hq)
  obtain ⟨q2, hq2, e2⟩ := X.2.2.2.1.fall hi rfl
  obtain ⟨q3, hq3, e3⟩ := X.2.2.2.1.br hi rfl
  refine lv_if_ne X.1.1 X.1.2.1 (X.2.2.2.1.dec hi) e3 (fun h => kt h q3 hq3 H locs ls hR hS hl) (fun h => ?_)
  have K := kf h q2 hq2 H locs ls hR hS hl
  rw [e2] at K
  exact K
theorem g_if_lt (X : Cx p s m args meth c D cy B od cc nL tab own ret) {x : Int32} {d : Int} (hi : tab[i]? = some (pc, .ifCond .lt d, 3, nx, tg)) (kt : x < 0 → G p l e R s m args below meth c D B od nL tab F cells slots A z tg lv st) (kf : ¬ x < 0 → G p l e R s m args below meth c D B od nL tab F cells slots A z nx lv st) : G p l e R s m args below meth c D B od nL tab F cells slots A z i lv (.int x :: st) := by
  intro q hq H locs ls hR hS hl
  cases Option.some.inj (hi.symm.trans hq)
  obtain ⟨q2, hq2, e2⟩ := X.2.2.2.1.fall hi rfl
  obtain ⟨q3, hq3, e3⟩ := X.2.2.2.1.br hi rfl
  refine lv_if_lt X.1.1 X.1.2.1 (X.2.2.2.1.dec hi) e3 (fun h => kt h q3 hq3 H locs ls hR hS hl) (fun h => ?_)
  have K := kf h q2 hq2 H locs ls hR hS hl
  rw [e2] at K
  exact K
theorem g_if_ge (X : Cx p s m args meth c D cy B od cc nL tab own ret) {x : Int32} {d : Int} (hi : tab[i]? = some (pc, .ifCond .ge d, 3, nx, tg)) (kt : 0 ≤ x → G p l e R s m args below meth c D B od nL tab F cells slots A z tg lv st) (kf : ¬ 0 ≤ x → G p l e R s m args below meth c D B od nL tab F cells slots A z nx lv st) : G p l e R s m args below meth c D B od nL tab F cells slots A z i lv (.int x :: st) := by
  intro q hq H locs ls hR hS hl
  cases Option.some.inj (hi.symm.trans hq)
  obtain ⟨q2, hq2, e2⟩ := X.2.2.2.1.fall hi rfl
  obtain ⟨q3, hq3, e3⟩ := X.2.2.2.1.br hi rfl
  refine lv_if_ge X.1.1 X.1.2.1 (X.2.2.2.1.dec hi) e3 (fun h => kt h q3 hq3 H locs ls hR hS hl) (fun h => ?_)
  have K := kf h q2 hq2 H locs ls hR hS hl
  rw [e2] at K
  exact K
theorem g_if_gt (X : Cx p s m args meth c D cy B od cc nL tab own ret) {x : Int32} {d : Int} (hi : tab[i]? = some (pc, .ifCond .gt d, 3, nx, tg)) (kt : 0 < x → G p l e R s m args below meth c D B od nL tab F cells slots A z tg lv st) (kf : ¬ 0 < x → G p l e R s m args below meth c D B od nL tab F cells slots A z nx lv st) : G p l e R s m args below meth c D B od nL tab F cells slots A z i lv (.int x :: st) := by
  intro q hq H locs ls hR hS hl
  cases Option.some.inj (hi.symm.trans hq)
  obtain ⟨q2, hq2, e2⟩ := X.2.2.2.1.fall hi rfl
  obtain ⟨q3, hq3, e3⟩ := X.2.2.2.1.br hi rfl
  refine lv_if_gt X.1.1 X.1.2.1 (X.2.2.2.1.dec hi) e3 (fun h => kt h q3 hq3 H locs ls hR hS hl) (fun h => ?_)
  have K := kf h q2 hq2 H locs ls hR hS hl
  rw [e2] at K
  exact K
theorem g_if_le (X : Cx p s m args meth c D cy B od cc nL tab own ret) {x : Int32} {d : Int} (hi : tab[i]? = some (pc, .ifCond .le d, 3, nx, tg)) (kt : x ≤ 0 → G p l e R s m args below meth c D B od nL tab F cells slots A z tg lv st) (kf : ¬ x ≤ 0 → G p l e R s m args below meth c D B od nL tab F cells slots A z nx lv st) : G p l e R s m args below meth c D B od nL tab F cells slots A z i lv (.int x :: st) := by
  intro q hq H locs ls hR hS hl
  cases Option.some.inj (hi.symm.trans hq)
  obtain ⟨q2, hq2, e2⟩ := X.2.2.2.1.fall hi rfl
  obtain ⟨q3, hq3, e3⟩ := X.2.2.2.1.br hi rfl
  refine lv_if_le X.1.1 X.1.2.1 (X.2.2.2.1.dec hi) e3 (fun h => kt h q3 hq3 H locs ls hR hS hl) (fun h => ?_)
  have K := kf h q2 hq2 H locs ls hR hS hl
  rw [e2] at K
  exact K
theorem g_icmp_eq (X : Cx p s m args meth c D cy B od cc nL tab own ret) {x y : Int32} {d : Int} (hi : tab[i]? = some (pc, .if_icmp .eq d, 3, nx, tg)) (kt : x = y → G p l e R s m args below meth c D B od nL tab F cells slots A z tg lv st) (kf : ¬ x = y → G p l e R s m args below meth c D B od nL tab F cells slots A z nx lv st) : G p l e R s m args below meth c D B od nL tab F cells slots A z i lv (.int y :: .int x :: st) := by
  intro q hq H locs ls hR hS hl
  cases Option.some.inj (hi.symm.trans hq)
  obtain ⟨q2, hq2, e2⟩ := X.2.2.2.1.fall hi rfl
  obtain ⟨q3, hq3, e3⟩ := X.2.2.2.1.br hi rfl
  refine lv_icmp_eq X.1.1 X.1.2.1 (X.2.2.2.1.dec hi) e3 (fun h => kt h q3 hq3 H locs ls hR hS hl) (fun h => ?_)
  have K := kf h q2 hq2 H locs ls hR hS hl
  rw [e2] at K
  exact K
theorem g_icmp_ne (X : Cx p s m args meth c D cy B od cc nL tab own ret) {x y : Int32} {d : Int} (hi : tab[i]? = some (pc, .if_icmp .ne d, 3, nx, tg)) (kt : ¬ x = y → G p l e R s m args below meth c D B od nL tab F cells slots A z tg lv st) (kf : x = y → G p l e R s m args below meth c D B od nL tab F cells slots A z nx lv st) : G p l e R s m args below meth c D B od nL tab F cells slots A z i lv (.int y :: .int x :: st) := by
  intro q hq H locs ls hR hS hl
  cases Option.some.inj (hi.symm.trans hq)
  obtain ⟨q2, hq2, e2⟩ := X.2.2.2.1.fall hi rfl
  obtain ⟨q3, hq3, e3⟩ := X.2.2.2.1.br hi rfl
  refine lv_icmp_ne X.1.1 X.1.2.1 (X.2.2.2.1.dec hi) e3 (fun h => kt h q3 hq3 H locs ls hR hS hl) (fun h => ?_)
  have K := kf h q2 hq2 H locs ls hR hS hl
  rw [e2] at K
  exact K
theorem g_icmp_lt (X : Cx p s m args meth c D cy B od cc nL tab own ret) {x y : Int32} {d : Int} (hi : tab[i]? = some (pc, .if_icmp .lt d, 3, nx, tg)) (kt : x < y → G p l e R s m args below meth c D B od nL tab F cells slots A z tg lv st) (kf : ¬ x < y → G p l e R s m args below meth c D B od nL tab F cells slots A z nx lv st) : G p l e R s m args below meth c D B od nL tab F cells slots A z i lv (.int y :: .int x :: st) := by
  intro q hq H locs ls hR hS hl
  cases Option.some.inj (hi.symm.trans hq)
  obtain ⟨q2, hq2, e2⟩ := X.2.2.2.1.fall hi rfl
  obtain ⟨q3, hq3, e3⟩ := X.2.2.2.1.br hi rfl
  refine lv_icmp_lt X.1.1 X.1.2.1 (X.2.2.2.1.dec hi) e3 (fun h => kt h q3 hq3 H locs ls hR hS hl) (fun h => ?_)
  have K := kf h q2 hq2 H locs ls hR hS hl
  rw [e2] at K
  exact K
theorem g_icmp_ge (X : Cx p s m args meth c D cy B od cc nL tab own ret) {x y : Int32} {d : Int} (hi : tab[i]? = some (pc, .if_icmp .ge d, 3, nx, tg)) (kt : y ≤ x → G p l e R s m args below meth c D B od nL tab F cells slots A z tg lv st) (kf : ¬ y ≤ x → G p l e R s m args below meth c D B od nL tab F cells slots A z nx lv st) : G p l e R s m args below meth c D B od nL tab F cells slots A z i lv (.int y :: .int x :: st) := by
  intro q hq H locs ls hR hS hl
  cases Option.some.inj (hi.symm.trans hq)
  obtain ⟨q2, hq2, e2⟩ := X.2.2.2.1.fall hi rfl
  obtain ⟨q3, hq3, e3⟩ := X.2.2.2.1.br hi rfl
  refine lv_icmp_ge X.1.1 X.1.2.1 (X.2.2.2.1.dec hi) e3 (fun h => kt h q3 hq3 H locs ls hR hS hl) (fun h => ?_)
  have K := kf h q2 hq2 H locs ls hR hS hl
  rw [e2] at K
  exact K
theorem g_icmp_gt (X : Cx p s m args meth c D cy B od cc nL tab own ret) {x y : Int32} {d : Int} (hi : tab[i]? = some (pc, .if_icmp .gt d, 3, nx, tg)) (kt : y < x → G p l e R s m args below meth c D B od nL tab F cells slots A z tg lv st) (kf : ¬ y < x → G p l e R s m args below meth c D B od nL tab F cells slots A z nx lv st) : G p l e R s m args below meth c D B od nL tab F cells slots A z i lv (.int y :: .int x :: st) := by
  intro q hq H locs ls hR hS hl
  cases Option.some.inj (hi.symm.trans hq)
  obtain ⟨q2, hq2, e2⟩ := X.2.2.2.1.fall hi rfl
  obtain ⟨q3, hq3, e3⟩ := X.2.2.2.1.br hi rfl
  refine lv_icmp_gt X.1.1 X.1.2.1 (X.2.2.2.1.dec hi) e3 (fun h => kt h q3 hq3 H locs ls hR hS hl) (fun h => ?_)
  have K := kf h q2 hq2 H locs ls hR hS hl
  rw [e2] at K
  exact K
theorem g_icmp_le (X : Cx p s m args meth c D cy B od cc nL tab own ret) {x y : Int32} {d : Int} (hi : tab[i]? = some (pc, .if_icmp .le d, 3, nx, tg)) (kt : x ≤ y → G p l e R s m args below meth c D B od nL tab F cells slots A z tg lv st) (kf : ¬ x ≤ y → G p l e R s m args below meth c D B od nL tab F cells slots A z nx lv st) : G p l e R s m args below meth c D B od nL tab F cells slots A z i lv (.int y :: .int x :: st) := by
  intro q hq H locs ls hR hS hl
  cases Option.some.inj (hi.symm.trans hq)
  obtain ⟨q2, hq2, e2⟩ := X.2.2.2.1.fall hi rfl
  obtain ⟨q3, hq3, e3⟩ := X.2.2.2.1.br hi rfl
  refine lv_icmp_le X.1.1 X.1.2.1 (X.2.2.2.1.dec hi) e3 (fun h => kt h q3 hq3 H locs ls hR hS hl) (fun h => ?_)
  have K := kf h q2 hq2 H locs ls hR hS hl
  rw [e2] at K
  exact K
theorem g_ifnull (X : Cx p s m args meth c D cy B od cc nL tab own ret) {d : Int} {x : Nat} (hi : tab[i]? = some (pc, .ifnull d, 3, nx, tg)) (kk : G p l e R s m args below meth c D B od nL tab F cells slots A z nx lv st) : G p l e R s m args below meth c D B od nL tab F cells slots A z i lv (.ref x :: st) := by
  intro q hq H locs ls hR hS hl
  cases Option.some.inj (hi.symm.trans hq)
  obtain ⟨q2, hq2, e2⟩ := X.2.2.2.1.fall hi rfl
  have K := kk q2 hq2 H locs ls hR hS hl
  rw [e2] at K
  exact lv_ifnull X.1.1 X.1.2.1 (X.2.2.2.1.dec hi) K
end CORE
end
section
/-! 03: the rules that touch the heap; calls; ends -/
section CORE3
variable {p : Program} {l : Launch} {e : Env} {R : Room} {s : State} {m : MethodId} {args : Array Value} {below : List Frame} {meth : Method} {c : Code}
variable {D : va_G} {cy : Nat → ClassId} {B : Nat} {od : Nat → Option Nat} {cc : ByteArray} {nL : Nat} {tab : List PT} {own : String} {ret : Option FieldType}
variable {F : State → Prop} {cells slots : Nat} {A : AH} {z i pc len nx tg : Nat} {lv : List (Option Value)} {st : List Value}
theorem va_P1 {cl : List vw_C} {q : Nat × va_E} {H : Heap} (h : va_at D cl q H) : va_P D cl [q] H := fun k r hk => by
  match k, hk with
  | 0, hk => cases hk; exact h
  | k + 1, hk => simp at hk
/-- a field, linked by its number in a class: class C has N slots with names T and types ty0, it is the slot k -/
def FLk (own : String) (ix : Nat) (C : String) (T : u_T) (N : Nat) (ty0 : Nat → FieldType) (k : Nat) : Prop := k < N ∧ (∀ w ∈ u_ws C T N, w ∈ lw_good) ∧ (∀ k, k < N → parseFieldDescriptor (T k).2.2.1 = some (ty0 k)) ∧ (∀ a, a < N → ∀ b, b < N → a ≠ b → (T a).2.1 ≠ (T b).2.1) ∧ (Cond.fieldLink own ix (T k).1 (T k).2.1 (T k).2.2.1 ∈ lw_good ∨ ∃ host, Cond.fieldLinkNest own ix (T k).1 (T k).2.1 (T k).2.2.1 host ∈ nw_all)
set_option maxHeartbeats 100000 in
theorem wv_iast {pc : Nat} {ls : Array Slot} {rest : List Value} {locs : List Loc} {H : Heap} (hexec : p.tables.exec = Jvm.exec) (hb : c.code = cc) {a n : Nat} {f : Nat → Int32} {cA : ClassId} (hat : H[a]? = some (vp_cell cA (n, .inl f))) (harr : ArrOfT s cA .int) {x : Int32} {v : Int32} (hin : vp_in x n) (hdg : decode cc pc = .ok (.iastore, 1))
    (kk : ∀ H1 : Heap, H1[a]? = some (vp_cell cA (n, .inl (upd f x.toNatClampNeg v))) → H1.size = H.size → (∀ q : Nat, q ≠ a → H1[q]? = H[q]?) → W p l e R s m args below meth c H1 (locs ++ [⟨a, x.toNatClampNeg⟩]) cells slots F (F0 m (pc + 1) ls rest)) : W p l e R s m args below meth c H locs cells slots F (F0 m pc ls (.int v :: .int x :: .ref a :: rest)) := by
  refine W.iast hexec hb hat (harr n (fun j => .int (f j))) (fun q => by cases q) (by show ¬ (x < 0 ∨ (arrV _ _ _).slots.size ≤ _); rw [arrV_size]; exact hin) rfl rfl hdg fun H1 e1 z9 oq => ?_
  refine kk H1 ?_ z9 oq
  rw [e1]
  rw [vp_cell_i, vp_cell_i, arrV_store]
  congr 2
  funext q
  by_cases hq : q = x.toNatClampNeg
  · subst hq
    simp [updV, upd]
  · simp [updV, upd, vp_updL, vf_upd, hq]
set_option maxHeartbeats 100000 in
theorem wv_zast {pc : Nat} {ls : Array Slot} {rest : List Value} {locs : List Loc} {H : Heap} (hexec : p.tables.exec = Jvm.exec) (hb : c.code = cc) {a n : Nat} {f : Nat → Int32} {cA : ClassId} (hat : H[a]? = some (vp_cell cA (n, .inl f))) (harr : ArrOfT s cA .boolean) {x : Int32} {v : Int32} (hin : vp_in x n) (hv : v = 0 ∨ v = 1) (hdg : decode cc pc = .ok (.bastore, 1))
    (kk : ∀ H1 : Heap, H1[a]? = some (vp_cell cA (n, .inl (upd f x.toNatClampNeg v))) → H1.size = H.size → (∀ q : Nat, q ≠ a → H1[q]? = H[q]?) → W p l e R s m args below meth c H1 (locs ++ [⟨a, x.toNatClampNeg⟩]) cells slots F (F0 m (pc + 1) ls rest)) : W p l e R s m args below meth c H locs cells slots F (F0 m pc ls (.int v :: .int x :: .ref a :: rest)) := by
  refine W.zast hexec hb hat (harr n (fun j => .int (f j))) (fun q => by cases q) (by show ¬ (x < 0 ∨ (arrV _ _ _).slots.size ≤ _); rw [arrV_size]; exact hin) rfl rfl hdg fun H1 e1 z9 oq => ?_
  refine kk H1 ?_ z9 oq
  rw [e1]
  rw [vp_cell_i, vp_cell_i, arrV_store]
  congr 2
  funext q
  by_cases hq : q = x.toNatClampNeg
  · subst hq
    rcases hv with rfl | rfl <;> simp [updV, upd] <;> rfl
  · simp [updV, upd, vp_updL, vf_upd, hq]
set_option maxHeartbeats 100000 in
theorem wv_last {pc : Nat} {ls : Array Slot} {rest : List Value} {locs : List Loc} {H : Heap} (hexec : p.tables.exec = Jvm.exec) (hb : c.code = cc) {a n : Nat} {f : Nat → Int64} {cA : ClassId} (hat : H[a]? = some (vp_cell cA (n, .inr (.inl (f))))) (harr : ArrOfT s cA .long) {x : Int32} {v : Int64} (hin : vp_in x n) (hdg : decode cc pc = .ok (.lastore, 1))
    (kk : ∀ H1 : Heap, H1[a]? = some (vp_cell cA (n, .inr (.inl (vp_updL f x.toNatClampNeg v)))) → H1.size = H.size → (∀ q : Nat, q ≠ a → H1[q]? = H[q]?) → W p l e R s m args below meth c H1 (locs ++ [⟨a, x.toNatClampNeg⟩]) cells slots F (F0 m (pc + 1) ls rest)) : W p l e R s m args below meth c H locs cells slots F (F0 m pc ls (.long v :: .int x :: .ref a :: rest)) := by
  refine W.last hexec hb hat (harr n (fun j => .long (f j))) (fun q => by cases q) (by show ¬ (x < 0 ∨ (arrV _ _ _).slots.size ≤ _); rw [arrV_size]; exact hin) rfl rfl hdg fun H1 e1 z9 oq => ?_
  refine kk H1 ?_ z9 oq
  rw [e1]
  rw [vp_cell_l, vp_cell_l, arrV_store]
  congr 2
  funext q
  by_cases hq : q = x.toNatClampNeg
  · subst hq
    simp [updV, vp_updL]
  · simp [updV, upd, vp_updL, vf_upd, hq]
set_option maxHeartbeats 100000 in
theorem wv_dast {pc : Nat} {ls : Array Slot} {rest : List Value} {locs : List Loc} {H : Heap} (hexec : p.tables.exec = Jvm.exec) (hb : c.code = cc) {a n : Nat} {f : Nat → UInt64} {cA : ClassId} (hat : H[a]? = some (vp_cell cA (n, .inr (.inr (.inr (.inl (f))))))) (harr : ArrOfT s cA .double) {x : Int32} {v : UInt64} (hin : vp_in x n) (hdg : decode cc pc = .ok (.dastore, 1))
    (kk : ∀ H1 : Heap, H1[a]? = some (vp_cell cA (n, .inr (.inr (.inr (.inl (vf_upd f x.toNatClampNeg v)))))) → H1.size = H.size → (∀ q : Nat, q ≠ a → H1[q]? = H[q]?) → W p l e R s m args below meth c H1 (locs ++ [⟨a, x.toNatClampNeg⟩]) cells slots F (F0 m (pc + 1) ls rest)) : W p l e R s m args below meth c H locs cells slots F (F0 m pc ls (.double v :: .int x :: .ref a :: rest)) := by
  refine W.dast hexec hb hat (harr n (fun j => .double (f j))) (fun q => by cases q) (by show ¬ (x < 0 ∨ (arrV _ _ _).slots.size ≤ _); rw [arrV_size]; exact hin) rfl rfl hdg fun H1 e1 z9 oq => ?_
  refine kk H1 ?_ z9 oq
  rw [e1]
  rw [vp_cell_d, vp_cell_d, arrV_store]
  congr 2
  funext q
  by_cases hq : q = x.toNatClampNeg
  · subst hq
    simp [updV, vf_upd]
  · simp [updV, upd, vp_updL, vf_upd, hq]
set_option maxHeartbeats 100000 in
theorem wv_put {pc : Nat} {ls : Array Slot} {rest : List Value} {locs : List Loc} {H : Heap} (hexec : p.tables.exec = Jvm.exec) (hb : c.code = cc) (hts : ∀ w ∈ lw_good, w.before args s = true) (hNW : NW s) (hown : s.vm.findClass own = some m.cls) (hK : va_K D vwCl (tysc cy) s) {ix : Nat} {C : String} {T : u_T} {N : Nat} {ty0 : Nat → FieldType} {k : Nat} (hf : FLk own ix C T N ty0 k) (hfin : (T k).2.2.2 = false) {ci : Nat} (hc : vwCl[ci]? = some (C, T, N)) {a : Nat} {fs : List Value} (hat : va_at D vwCl (a, .inr (ci, fs)) H) (hl9 : k < fs.length) {v : Value} (hn : narrow (ty0 k) v = v) (hfit : fits (ty0 k) v = true) (hdg : decode cc pc = .ok (.putfield ix, 3))
    (kk : ∀ (H1 : Heap) (j : Nat), va_at D vwCl (a, .inr (ci, fs.set k v)) H1 → H1.size = H.size → (∀ q : Nat, q ≠ a → H1[q]? = H[q]?) → W p l e R s m args below meth c H1 (locs ++ [⟨a, j⟩]) cells slots F (F0 m (pc + 3) ls rest)) : W p l e R s m args below meth c H locs cells slots F (F0 m pc ls (v :: .ref a :: rest)) := by
  obtain ⟨hk, hin, hty, hnm, hlk⟩ := hf
  have hap := va_apart (own := own) hts hin ty0 hty hnm hK hc
  obtain ⟨r, h1, cell, q1, q2, q3, q4⟩ := hat
  have hr : r = (C, T, N) := Option.some.inj (h1.symm.trans hc)
  subst hr
  obtain ⟨hS, hfc, kC, hkC, hkind⟩ := hK.1 ci _ hc
  obtain ⟨cf, kf, fi, f, hi, hsl⟩ := hS k hk
  have hlay := hts _ (hin _ (u_in_lay hk))
  unfold u_lay at hlay
  rw [if_neg (by rw [hfin]; decide)] at hlay
  have hst := (u_facts hfc hkC (u_lays hts hin hk) hi).1
  have h6 := u_store hfc hkC hkind hlay hi (hty k hk) hn hfit
  have fin : ∀ H' : Heap, H'[a]? = some (cell.setSlot f.slot v) → H'.size = H.size → (∀ q, q ≠ a → H'[q]? = H[q]?) → W p l e R s m args below meth c H' (locs ++ [⟨a, f.slot⟩]) cells slots F (F0 m (pc + 3) ls rest) := by
    intro H' e1 e2 e3
    rw [hsl] at e1
    exact kk H' f.slot ⟨_, hc, t_OB.to (V := updV (vp_V fs) k v) ⟨_, e1, q2, q3, t_set q4 hap hk v⟩ (fun j _ => vp_updV_set hl9 v j)⟩ e2 e3
  rcases hlk with h | ⟨host, h⟩
  · exact W.putK hexec hb (f := f) ⟨hown, hts _ h, ⟨_, _, _, hi⟩, hst⟩ (by rw [q2]; exact h6) q1 q3 (by rw [hsl]; exact k2_hasslot (q4 k hk)) rfl rfl hdg fun H' e1 e2 e3 => fin H' e1 e2 e3
  · exact va_WputK hexec hb (f := f) hown (va_Nw.use rfl (hNW _ h)) hi hst (by rw [q2]; exact h6) q1 q3 (by rw [hsl]; exact k2_hasslot (q4 k hk)) rfl rfl hdg fun H' e1 e2 e3 => fin H' e1 e2 e3
set_option maxHeartbeats 100000 in
theorem wv_putF {pc : Nat} {ls : Array Slot} {rest : List Value} {locs : List Loc} {H : Heap} (hexec : p.tables.exec = Jvm.exec) (hb : c.code = cc) (hts : ∀ w ∈ lw_good, w.before args s = true) (hNW : NW s) (hown : s.vm.findClass own = some m.cls) (hK : va_K D vwCl (tysc cy) s) {ix : Nat} {C : String} {T : u_T} {N : Nat} {ty0 : Nat → FieldType} {k : Nat} (hf : FLk own ix C T N ty0 k) (hfin : (T k).2.2.2 = true) (hin2 : meth.name = "<init>") (hdecl : (T k).1 = own) (hlf : Cond.fieldLink own ix (T k).1 (T k).2.1 (T k).2.2.1 ∈ lw_good) {ci : Nat} (hc : vwCl[ci]? = some (C, T, N)) {a : Nat} {fs : List Value} (hat : va_at D vwCl (a, .inr (ci, fs)) H) (hl9 : k < fs.length) {v : Value} (hn : narrow (ty0 k) v = v) (hfit : fits (ty0 k) v = true) (hdg : decode cc pc = .ok (.putfield ix, 3))
    (kk : ∀ (H1 : Heap) (j : Nat), va_at D vwCl (a, .inr (ci, fs.set k v)) H1 → H1.size = H.size → (∀ q : Nat, q ≠ a → H1[q]? = H[q]?) → W p l e R s m args below meth c H1 (locs ++ [⟨a, j⟩]) cells slots F (F0 m (pc + 3) ls rest)) : W p l e R s m args below meth c H locs cells slots F (F0 m pc ls (v :: .ref a :: rest)) := by
  obtain ⟨hk, hin, hty, hnm, hlk⟩ := hf
  have hap := va_apart (own := own) hts hin ty0 hty hnm hK hc
  obtain ⟨r, h1, cell, q1, q2, q3, q4⟩ := hat
  have hr : r = (C, T, N) := Option.some.inj (h1.symm.trans hc)
  subst hr
  obtain ⟨hS, hfc, kC, hkC, hkind⟩ := hK.1 ci _ hc
  obtain ⟨cf, kf, fi, f, hi, hsl⟩ := hS k hk
  have hlay := hts _ (hin _ (u_in_lay hk))
  unfold u_lay at hlay
  rw [if_pos hfin] at hlay
  have hst := (u_facts hfc hkC (u_lays hts hin hk) hi).1
  have hcf : m.cls = cf := by
    obtain ⟨_, _, c', _, _, _, -, -, hf', -, -, -, hown2, -⟩ := Cond.laysFinal_spec hlay
    have e1 : c' = cf := by have := hi.symm.trans hf'; simp at this; exact this.1.symm
    rw [hdecl] at hown2
    rw [← e1]; exact Option.some.inj (hown.symm.trans hown2)
  have h6 := u_fits hfc hkC hkind (Or.inr hlay) hi (hty k hk) hn hfit
  have fin : ∀ H' : Heap, H'[a]? = some (cell.setSlot f.slot v) → H'.size = H.size → (∀ q, q ≠ a → H'[q]? = H[q]?) → W p l e R s m args below meth c H' (locs ++ [⟨a, f.slot⟩]) cells slots F (F0 m (pc + 3) ls rest) := by
    intro H' e1 e2 e3
    rw [hsl] at e1
    exact kk H' f.slot ⟨_, hc, t_OB.to (V := updV (vp_V fs) k v) ⟨_, e1, q2, q3, t_set q4 hap hk v⟩ (fun j _ => vp_updV_set hl9 v j)⟩ e2 e3
  exact W.putFinK hexec hb hown (hts _ hlf) hi hst hcf hin2 (by rw [q2]; exact h6) q1 q3 (by rw [hsl]; exact k2_hasslot (q4 k hk)) rfl rfl hdg fun H' e1 e2 e3 => fin H' e1 e2 e3
theorem g_get (X : Cx p s m args meth c D cy B od cc nL tab own ret) {ix : Nat} (hi : tab[i]? = some (pc, .getfield ix, 3, nx, tg)) {C : String} {T : u_T} {N : Nat} {ty0 : Nat → FieldType} {k : Nat} (hf : FLk own ix C T N ty0 k) {ci : Nat} (hc : vwCl[ci]? = some (C, T, N)) {a : Nat} {fs : List Value} (hA : A a = some (.inr (ci, fs))) {v : Value} (hv : fs[k]? = some v)
    (kk : G p l e R s m args below meth c D B od nL tab F cells slots A z nx lv (v :: st)) : G p l e R s m args below meth c D B od nL tab F cells slots A z i lv (.ref a :: st) := by
  intro q hq H locs ls hR hS hl
  cases Option.some.inj (hi.symm.trans hq)
  obtain ⟨q2, hq2, e2⟩ := X.2.2.2.1.fall hi rfl
  have K := kk q2 hq2 H locs ls hR hS hl
  rw [e2] at K
  obtain ⟨hk, hin, -, -, hlk⟩ := hf
  have hP : va_P D vwCl [(rho B od a, .inr (ci, fs.map (trV B od)))] H := va_P1 (hR.1 a _ hA).2
  rcases hlk with h | ⟨host, h⟩
  · exact va_get X.1.1 X.1.2.1 X.1.2.2.2.2 hin X.1.2.2.2.1 X.2.1 hP 0 rfl hc k hk (X.1.2.2.2.2 _ h) (fun _ h => h) (v := trV B od v) (by rw [List.getElem?_map, hv]; rfl) (X.2.2.2.1.dec hi) K
  · exact va_getN X.1.1 X.1.2.1 X.1.2.2.2.2 hin X.1.2.2.2.1 X.2.1 hP 0 rfl hc k hk (va_Nw.use rfl (X.2.2.1 _ h)) (fun _ h => h) (v := trV B od v) (by rw [List.getElem?_map, hv]; rfl) (X.2.2.2.1.dec hi) K
theorem va_Sput {a : Nat} {j : Nat} {H H1 : Heap} {locs : List Loc} (hS : va_S (fun q => B ≤ q) s.heap H locs) (ha : od a = none) (z : H1.size = H.size) (oq : ∀ q : Nat, q ≠ rho B od a → H1[q]? = H[q]?) : va_S (fun q => B ≤ q) s.heap H1 (locs ++ [⟨rho B od a, j⟩]) := hS.put z oq (by show B ≤ rho B od a; rw [rho_lo ha]; omega)
set_option maxHeartbeats 100000 in
theorem g_put (X : Cx p s m args meth c D cy B od cc nL tab own ret) {ix : Nat} (hi : tab[i]? = some (pc, .putfield ix, 3, nx, tg)) {C : String} {T : u_T} {N : Nat} {ty0 : Nat → FieldType} {k : Nat} (hf : FLk own ix C T N ty0 k) (hfin : (T k).2.2.2 = false) {ci : Nat} (hc : vwCl[ci]? = some (C, T, N)) {a : Nat} {fs : List Value} (hA : A a = some (.inr (ci, fs))) (hl9 : k < fs.length) {v : Value} (hn : narrow (ty0 k) (trV B od v) = trV B od v) (hfit : fits (ty0 k) (trV B od v) = true)
    (kk : G p l e R s m args below meth c D B od nL tab F cells slots (upA A a (.inr (ci, fs.set k v))) z nx lv st) : G p l e R s m args below meth c D B od nL tab F cells slots A z i lv (v :: .ref a :: st) := by
  intro q hq H locs ls hR hS hl
  cases Option.some.inj (hi.symm.trans hq)
  obtain ⟨q2, hq2, e2⟩ := X.2.2.2.1.fall hi rfl
  obtain ⟨hlt, hat⟩ := hR.1 a _ hA
  have hd : decode cc pc = .ok (.putfield ix, 3) := X.2.2.2.1.dec hi
  refine wv_put X.1.1 X.1.2.1 X.1.2.2.2.2 X.2.2.1 X.1.2.2.2.1 X.2.1 hf hfin hc (fs := fs.map (trV B od)) hat (by rw [List.length_map]; exact hl9) hn hfit hd (fun H1 j h1 z9 oq => ?_)
  have h2 : va_at D vwCl (rho B od a, trE B od (.inr (ci, fs.set k v))) H1 := by
    show va_at D vwCl (rho B od a, .inr (ci, (fs.set k v).map (trV B od))) H1
    rw [List.map_set]; exact h1
  have K := kk q2 hq2 H1 _ ls (hR.put hlt h2 z9 oq) (va_Sput (j := j) hS hlt z9 oq) hl
  rw [e2] at K
  exact K
set_option maxHeartbeats 100000 in
theorem g_putF (X : Cx p s m args meth c D cy B od cc nL tab own ret) {ix : Nat} (hi : tab[i]? = some (pc, .putfield ix, 3, nx, tg)) {C : String} {T : u_T} {N : Nat} {ty0 : Nat → FieldType} {k : Nat} (hf : FLk own ix C T N ty0 k) (hfin : (T k).2.2.2 = true) (hin2 : meth.name = "<init>") (hdecl : (T k).1 = own) (hlf : Cond.fieldLink own ix (T k).1 (T k).2.1 (T k).2.2.1 ∈ lw_good) {ci : Nat} (hc : vwCl[ci]? = some (C, T, N)) {a : Nat} {fs : List Value} (hA : A a = some (.inr (ci, fs))) (hl9 : k < fs.length) {v : Value} (hn : narrow (ty0 k) (trV B od v) = trV B od v) (hfit : fits (ty0 k) (trV B od v) = true)
    (kk : G p l e R s m args below meth c D B od nL tab F cells slots (upA A a (.inr (ci, fs.set k v))) z nx lv st) : G p l e R s m args below meth c D B od nL tab F cells slots A z i lv (v :: .ref a :: st) := by
  intro q hq H locs ls hR hS hl
  cases Option.some.inj (hi.symm.trans hq)
  obtain ⟨q2, hq2, e2⟩ := X.2.2.2.1.fall hi rfl
  obtain ⟨hlt, hat⟩ := hR.1 a _ hA
  have hd : decode cc pc = .ok (.putfield ix, 3) := X.2.2.2.1.dec hi
  refine wv_putF X.1.1 X.1.2.1 X.1.2.2.2.2 X.2.2.1 X.1.2.2.2.1 X.2.1 hf hfin hin2 hdecl hlf hc (fs := fs.map (trV B od)) hat (by rw [List.length_map]; exact hl9) hn hfit hd (fun H1 j h1 z9 oq => ?_)
  have h2 : va_at D vwCl (rho B od a, trE B od (.inr (ci, fs.set k v))) H1 := by
    show va_at D vwCl (rho B od a, .inr (ci, (fs.set k v).map (trV B od))) H1
    rw [List.map_set]; exact h1
  have K := kk q2 hq2 H1 _ ls (hR.put hlt h2 z9 oq) (va_Sput (j := j) hS hlt z9 oq) hl
  rw [e2] at K
  exact K
theorem g_iald (X : Cx p s m args meth c D cy B od cc nL tab own ret) (hi : tab[i]? = some (pc, .iaload, 1, nx, tg)) {a n : Nat} {f : Nat → Int32} {x : Int32} (hA : A a = some (.inl (cy 0, n, .inl f))) (hin : vp_in x n) (kk : G p l e R s m args below meth c D B od nL tab F cells slots A z nx lv (.int (f x.toNatClampNeg) :: st)) : G p l e R s m args below meth c D B od nL tab F cells slots A z i lv (.int x :: .ref a :: st) := by
  intro q hq H locs ls hR hS hl
  cases Option.some.inj (hi.symm.trans hq)
  obtain ⟨q2, hq2, e2⟩ := X.2.2.2.1.fall hi rfl
  have K := kk q2 hq2 H locs ls hR hS hl
  rw [e2] at K
  exact va_iald X.1.1 X.1.2.1 X.2.1 (va_P1 (hR.1 a _ hA).2) 0 0 rfl rfl hin (X.2.2.2.1.dec hi) K
theorem g_lald (X : Cx p s m args meth c D cy B od cc nL tab own ret) (hi : tab[i]? = some (pc, .laload, 1, nx, tg)) {a n : Nat} {f : Nat → Int64} {x : Int32} (hA : A a = some (.inl (cy 1, n, .inr (.inl f)))) (hin : vp_in x n) (kk : G p l e R s m args below meth c D B od nL tab F cells slots A z nx lv (.long (f x.toNatClampNeg) :: st)) : G p l e R s m args below meth c D B od nL tab F cells slots A z i lv (.int x :: .ref a :: st) := by
  intro q hq H locs ls hR hS hl
  cases Option.some.inj (hi.symm.trans hq)
  obtain ⟨q2, hq2, e2⟩ := X.2.2.2.1.fall hi rfl
  have K := kk q2 hq2 H locs ls hR hS hl
  rw [e2] at K
  exact va_lald X.1.1 X.1.2.1 X.2.1 (va_P1 (hR.1 a _ hA).2) 0 1 rfl rfl hin (X.2.2.2.1.dec hi) K
theorem g_zald (X : Cx p s m args meth c D cy B od cc nL tab own ret) (hi : tab[i]? = some (pc, .baload, 1, nx, tg)) {a n : Nat} {f : Nat → Int32} {x : Int32} (hA : A a = some (.inl (cy 2, n, .inl f))) (hin : vp_in x n) (kk : G p l e R s m args below meth c D B od nL tab F cells slots A z nx lv (.int (f x.toNatClampNeg) :: st)) : G p l e R s m args below meth c D B od nL tab F cells slots A z i lv (.int x :: .ref a :: st) := by
  intro q hq H locs ls hR hS hl
  cases Option.some.inj (hi.symm.trans hq)
  obtain ⟨q2, hq2, e2⟩ := X.2.2.2.1.fall hi rfl
  have K := kk q2 hq2 H locs ls hR hS hl
  rw [e2] at K
  exact va_zald X.1.1 X.1.2.1 X.2.1 (va_P1 (hR.1 a _ hA).2) 0 2 rfl rfl hin (X.2.2.2.1.dec hi) K
theorem g_dald (X : Cx p s m args meth c D cy B od cc nL tab own ret) (hi : tab[i]? = some (pc, .daload, 1, nx, tg)) {a n : Nat} {f : Nat → UInt64} {x : Int32} (hA : A a = some (.inl (cy 3, n, .inr (.inr (.inr (.inl f)))))) (hin : vp_in x n) (kk : G p l e R s m args below meth c D B od nL tab F cells slots A z nx lv (.double (f x.toNatClampNeg) :: st)) : G p l e R s m args below meth c D B od nL tab F cells slots A z i lv (.int x :: .ref a :: st) := by
  intro q hq H locs ls hR hS hl
  cases Option.some.inj (hi.symm.trans hq)
  obtain ⟨q2, hq2, e2⟩ := X.2.2.2.1.fall hi rfl
  have K := kk q2 hq2 H locs ls hR hS hl
  rw [e2] at K
  exact va_dald X.1.1 X.1.2.1 X.2.1 (va_P1 (hR.1 a _ hA).2) 0 3 rfl rfl hin (X.2.2.2.1.dec hi) K
theorem g_aald (X : Cx p s m args meth c D cy B od cc nL tab own ret) (hi : tab[i]? = some (pc, .aaload, 1, nx, tg)) {a n b : Nat} {f : Nat → Option Nat} {x : Int32} (hA : A a = some (.inl (cy 4, n, .inr (.inr (.inr (.inr f)))))) (hin : vp_in x n) (hb : f x.toNatClampNeg = some b) (kk : G p l e R s m args below meth c D B od nL tab F cells slots A z nx lv (.ref b :: st)) : G p l e R s m args below meth c D B od nL tab F cells slots A z i lv (.int x :: .ref a :: st) := by
  intro q hq H locs ls hR hS hl
  cases Option.some.inj (hi.symm.trans hq)
  obtain ⟨q2, hq2, e2⟩ := X.2.2.2.1.fall hi rfl
  have K := kk q2 hq2 H locs ls hR hS hl
  rw [e2] at K
  refine va_aldq X.1.1 X.1.2.1 X.2.1 (va_P1 (hR.1 a _ hA).2) 0 4 rfl rfl hin (X.2.2.2.1.dec hi) ?_
  dsimp only
  rw [hb]
  exact K
theorem g_alen (X : Cx p s m args meth c D cy B od cc nL tab own ret) (hi : tab[i]? = some (pc, .arraylength, 1, nx, tg)) {a n t0 : Nat} {ty : FieldType} {x : (Nat → Int32) ⊕ (Nat → Int64)} (ht : (tysc cy)[t0]? = some (cy t0, ty)) (hA : A a = some (.inl (cy t0, n, x.elim (fun f => .inl f) (fun f => .inr (.inl f))))) (kk : G p l e R s m args below meth c D B od nL tab F cells slots A z nx lv (.int (nI n) :: st)) : G p l e R s m args below meth c D B od nL tab F cells slots A z i lv (.ref a :: st) := by
  intro q hq H locs ls hR hS hl
  cases Option.some.inj (hi.symm.trans hq)
  obtain ⟨q2, hq2, e2⟩ := X.2.2.2.1.fall hi rfl
  have K := kk q2 hq2 H locs ls hR hS hl
  rw [e2] at K
  rcases x with f | f
  · exact va_alen X.1.1 X.1.2.1 X.2.1 (va_P1 (hR.1 a _ hA).2) 0 t0 rfl ht rfl (X.2.2.2.1.dec hi) K
  · exact va_alen X.1.1 X.1.2.1 X.2.1 (va_P1 (hR.1 a _ hA).2) 0 t0 rfl ht rfl (X.2.2.2.1.dec hi) K
set_option maxHeartbeats 100000 in
theorem g_iast (X : Cx p s m args meth c D cy B od cc nL tab own ret) (hi : tab[i]? = some (pc, .iastore, 1, nx, tg)) {a n : Nat} {f : Nat → Int32} {x : Int32} {v : Int32} (hA : A a = some (.inl (cy 0, n, .inl (f)))) (hin : vp_in x n) 
    (kk : G p l e R s m args below meth c D B od nL tab F cells slots (upA A a (.inl (cy 0, n, .inl (upd f x.toNatClampNeg v)))) z nx lv st) : G p l e R s m args below meth c D B od nL tab F cells slots A z i lv (.int v :: .int x :: .ref a :: st) := by
  intro q hq H locs ls hR hS hl
  cases Option.some.inj (hi.symm.trans hq)
  obtain ⟨q2, hq2, e2⟩ := X.2.2.2.1.fall hi rfl
  obtain ⟨hlt, hat⟩ := hR.1 a _ hA
  have hd : decode cc pc = .ok (.iastore, 1) := X.2.2.2.1.dec hi
  have hat : H[rho B od a]? = some (vp_cell (cy 0) (n, .inl (f))) := hat
  refine wv_iast X.1.1 X.1.2.1 hat (X.2.1.2 0 _ rfl).1 hin hd (fun H1 h1 z9 oq => ?_)
  have h2 : va_at D vwCl (rho B od a, trE B od (.inl (cy 0, n, .inl (upd f x.toNatClampNeg v)))) H1 := h1
  have K := kk q2 hq2 H1 _ ls (hR.put hlt h2 z9 oq) (va_Sput (j := x.toNatClampNeg) hS hlt z9 oq) hl
  rw [e2] at K
  exact K
set_option maxHeartbeats 100000 in
theorem g_zast (X : Cx p s m args meth c D cy B od cc nL tab own ret) (hi : tab[i]? = some (pc, .bastore, 1, nx, tg)) {a n : Nat} {f : Nat → Int32} {x : Int32} {v : Int32} (hA : A a = some (.inl (cy 2, n, .inl (f)))) (hin : vp_in x n) (hv : v = 0 ∨ v = 1)
    (kk : G p l e R s m args below meth c D B od nL tab F cells slots (upA A a (.inl (cy 2, n, .inl (upd f x.toNatClampNeg v)))) z nx lv st) : G p l e R s m args below meth c D B od nL tab F cells slots A z i lv (.int v :: .int x :: .ref a :: st) := by
  intro q hq H locs ls hR hS hl
  cases Option.some.inj (hi.symm.trans hq)
  obtain ⟨q2, hq2, e2⟩ := X.2.2.2.1.fall hi rfl
  obtain ⟨hlt, hat⟩ := hR.1 a _ hA
  have hd : decode cc pc = .ok (.bastore, 1) := X.2.2.2.1.dec hi
  have hat : H[rho B od a]? = some (vp_cell (cy 2) (n, .inl (f))) := hat
  refine wv_zast X.1.1 X.1.2.1 hat (X.2.1.2 2 _ rfl).1 hin hv hd (fun H1 h1 z9 oq => ?_)
  have h2 : va_at D vwCl (rho B od a, trE B od (.inl (cy 2, n, .inl (upd f x.toNatClampNeg v)))) H1 := h1
  have K := kk q2 hq2 H1 _ ls (hR.put hlt h2 z9 oq) (va_Sput (j := x.toNatClampNeg) hS hlt z9 oq) hl
  rw [e2] at K
  exact K
set_option maxHeartbeats 100000 in
theorem g_last (X : Cx p s m args meth c D cy B od cc nL tab own ret) (hi : tab[i]? = some (pc, .lastore, 1, nx, tg)) {a n : Nat} {f : Nat → Int64} {x : Int32} {v : Int64} (hA : A a = some (.inl (cy 1, n, .inr (.inl (f))))) (hin : vp_in x n) 
    (kk : G p l e R s m args below meth c D B od nL tab F cells slots (upA A a (.inl (cy 1, n, .inr (.inl (vp_updL f x.toNatClampNeg v))))) z nx lv st) : G p l e R s m args below meth c D B od nL tab F cells slots A z i lv (.long v :: .int x :: .ref a :: st) := by
  intro q hq H locs ls hR hS hl
  cases Option.some.inj (hi.symm.trans hq)
  obtain ⟨q2, hq2, e2⟩ := X.2.2.2.1.fall hi rfl
  obtain ⟨hlt, hat⟩ := hR.1 a _ hA
  have hd : decode cc pc = .ok (.lastore, 1) := X.2.2.2.1.dec hi
  have hat : H[rho B od a]? = some (vp_cell (cy 1) (n, .inr (.inl (f)))) := hat
  refine wv_last X.1.1 X.1.2.1 hat (X.2.1.2 1 _ rfl).1 hin hd (fun H1 h1 z9 oq => ?_)
  have h2 : va_at D vwCl (rho B od a, trE B od (.inl (cy 1, n, .inr (.inl (vp_updL f x.toNatClampNeg v))))) H1 := h1
  have K := kk q2 hq2 H1 _ ls (hR.put hlt h2 z9 oq) (va_Sput (j := x.toNatClampNeg) hS hlt z9 oq) hl
  rw [e2] at K
  exact K
set_option maxHeartbeats 100000 in
theorem g_dast (X : Cx p s m args meth c D cy B od cc nL tab own ret) (hi : tab[i]? = some (pc, .dastore, 1, nx, tg)) {a n : Nat} {f : Nat → UInt64} {x : Int32} {v : UInt64} (hA : A a = some (.inl (cy 3, n, .inr (.inr (.inr (.inl (f))))))) (hin : vp_in x n) 
    (kk : G p l e R s m args below meth c D B od nL tab F cells slots (upA A a (.inl (cy 3, n, .inr (.inr (.inr (.inl (vf_upd f x.toNatClampNeg v))))))) z nx lv st) : G p l e R s m args below meth c D B od nL tab F cells slots A z i lv (.double v :: .int x :: .ref a :: st) := by
  intro q hq H locs ls hR hS hl
  cases Option.some.inj (hi.symm.trans hq)
  obtain ⟨q2, hq2, e2⟩ := X.2.2.2.1.fall hi rfl
  obtain ⟨hlt, hat⟩ := hR.1 a _ hA
  have hd : decode cc pc = .ok (.dastore, 1) := X.2.2.2.1.dec hi
  have hat : H[rho B od a]? = some (vp_cell (cy 3) (n, .inr (.inr (.inr (.inl (f)))))) := hat
  refine wv_dast X.1.1 X.1.2.1 hat (X.2.1.2 3 _ rfl).1 hin hd (fun H1 h1 z9 oq => ?_)
  have h2 : va_at D vwCl (rho B od a, trE B od (.inl (cy 3, n, .inr (.inr (.inr (.inl (vf_upd f x.toNatClampNeg v))))))) H1 := h1
  have K := kk q2 hq2 H1 _ ls (hR.put hlt h2 z9 oq) (va_Sput (j := x.toNatClampNeg) hS hlt z9 oq) hl
  rw [e2] at K
  exact K
end CORE3
end
section
/-! 04: new objects, calls, ends, a method's contract out of its body -/
section CORE4
variable {p : Program} {l : Launch} {e : Env} {R : Room} {s : State} {m : MethodId} {args : Array Value} {below : List Frame} {meth : Method} {c : Code}
variable {D : va_G} {cy : Nat → ClassId} {B : Nat} {od : Nat → Option Nat} {cc : ByteArray} {nL : Nat} {tab : List PT} {own : String} {ret : Option FieldType}
variable {F : State → Prop} {cells slots : Nat} {A : AH} {z i pc len nx tg : Nat} {lv : List (Option Value)} {st : List Value}
theorem Cx.od0 (X : Cx p s m args meth c D cy B od cc nL tab own ret) {k : Nat} (h : k < 1000000) : od k = none := X.2.2.2.2.2.2.2.2.2.2 k h
theorem va_Spush {H H1 : Heap} {locs : List Loc} (hS : va_S (fun q => B ≤ q) s.heap H locs) (z1 : H1.size = H.size + 1) (o1 : ∀ q : Nat, q < H.size → H1[q]? = H[q]?) : va_S (fun q => B ≤ q) s.heap H1 locs := ⟨Nat.le_trans hS.1 (by omega), fun x h1 h2 => (o1 x (Nat.lt_of_lt_of_le h1 hS.1)).trans (hS.2.1 x h1 h2), hS.2.2⟩
/-- new C -/
def NWk (own : String) (ix : Nat) (C : String) (T : u_T) (N : Nat) (ty0 : Nat → FieldType) : Prop := (∀ w ∈ u_ws C T N, w ∈ lw_good) ∧ (∀ k, k < N → parseFieldDescriptor (T k).2.2.1 = some (ty0 k)) ∧ Cond.classLink own ix C ∈ lw_good ∧ Cond.instantiable C N ∈ lw_good ∧ Cond.initialized C ∈ lw_good
theorem g_new (X : Cx p s m args meth c D cy B od cc nL tab own ret) {ix : Nat} (hi : tab[i]? = some (pc, .new ix, 3, nx, tg)) {C : String} {T : u_T} {N : Nat} {ty0 : Nat → FieldType} (hf : NWk own ix C T N ty0) {ci : Nat} (hc : vwCl[ci]? = some (C, T, N)) {fs : List Value} (hfs : (List.range N).map (fun j => defaultValue (ty0 j)) = fs) (hnr : fs.map (trV B od) = fs) (hz : z < 1000000) (hcells : cells + 1 ≤ R.cells) (hslots : slots + N ≤ R.slots)
    (kk : G p l e R s m args below meth c D B od nL tab F (cells + 1) (slots + N) (upA A z (.inr (ci, fs))) (z + 2) nx lv (.ref z :: st)) : G p l e R s m args below meth c D B od nL tab F cells slots A (z + 1) i lv st := by
  intro q hq H locs ls hR hS hl
  cases Option.some.inj (hi.symm.trans hq)
  obtain ⟨q2, hq2, e2⟩ := X.2.2.2.1.fall hi rfl
  obtain ⟨hin, hty, h1, h2, h3⟩ := hf
  have hKn := X.2.1.1 ci _ hc
  refine W.newcK X.1.1 X.1.2.1 X.1.2.2.2.1 (X.1.2.2.2.2 _ h1) (X.1.2.2.2.2 _ h2) (X.1.2.2.2.2 _ h3) rfl (X.2.2.2.1.dec hi) hcells hslots hKn.2.1 rfl fun H1 kC hkC e1 z1 o1 => ?_
  have hat : va_at D vwCl (H.size, trE B od (.inr (ci, fs))) H1 := by
    show va_at D vwCl (H.size, .inr (ci, fs.map (trV B od))) H1
    rw [hnr]
    refine ⟨_, hc, (u_born ty0 X.1.2.2.2.2 hin hKn hkC e1 hty).to (fun j hj => ?_)⟩
    unfold vp_V
    rw [← hfs, List.getD_eq_getElem?_getD, List.getElem?_map, List.getElem?_range hj]
    rfl
  obtain ⟨hR2, hr⟩ := hR.push (X.od0 hz) hat z1 o1
  have K := kk q2 hq2 H1 locs ls hR2 (va_Spush hS z1 o1) hl
  rw [e2] at K
  rw [hr]
  exact K
theorem tysc_cls {t0 : Nat} {ty : FieldType} (hK : va_K D vwCl (tysc cy) s) (ht : (tysc cy)[t0]? = some (cy t0, ty)) : va_RA s (cy t0) ty := (hK.2 t0 _ ht).2
theorem g_newai (X : Cx p s m args meth c D cy B od cc nL tab own ret) (hi : tab[i]? = some (pc, .newarray .int, 2, nx, tg)) (hw : Cond.arrayClass .int ∈ lw_good) {x : Int32} {N : Nat} (hx : ¬ x < 0) (hN : x.toNatClampNeg = N) (hbytes : N * 4 ≤ 536870912) (hz : z < 1000000) (hcells : cells + 1 ≤ R.cells) (hslots : slots + N ≤ R.slots)
    (kk : G p l e R s m args below meth c D B od nL tab F (cells + 1) (slots + N) (upA A z (.inl (cy 0, N, .inl (fun _ => 0)))) (z + 2) nx lv (.ref z :: st)) : G p l e R s m args below meth c D B od nL tab F cells slots A (z + 1) i lv (.int x :: st) := by
  intro q hq H locs ls hR hS hl
  cases Option.some.inj (hi.symm.trans hq)
  obtain ⟨q2, hq2, e2⟩ := X.2.2.2.1.fall hi rfl
  refine va_newaK (atype := .int) X.1.1 X.1.2.1 (X.1.2.2.2.2 _ hw) rfl (X.2.2.2.1.dec hi) rfl hx hN hbytes hcells hslots rfl fun H1 cA e1 z1 o1 hAr hNm => ?_
  have hcA : cA = cy 0 := Option.some.inj (hNm.symm.trans (tysc_cls (t0 := 0) (ty := .int) X.2.1 rfl))
  have hat : va_at D vwCl (H.size, trE B od (.inl (cy 0, N, .inl (fun _ => 0)))) H1 := by
    show H1[H.size]? = some (vp_cell (cy 0) (N, .inl (fun _ => 0)))
    rw [← hcA]; exact e1
  obtain ⟨hR2, hr⟩ := hR.push (X.od0 hz) hat z1 o1
  have K := kk q2 hq2 H1 locs ls hR2 (va_Spush hS z1 o1) hl
  rw [e2] at K
  rw [hr]
  exact K
theorem g_newaz (X : Cx p s m args meth c D cy B od cc nL tab own ret) (hi : tab[i]? = some (pc, .newarray .boolean, 2, nx, tg)) (hw : Cond.arrayClass .boolean ∈ lw_good) {x : Int32} {N : Nat} (hx : ¬ x < 0) (hN : x.toNatClampNeg = N) (hbytes : N * 1 ≤ 536870912) (hz : z < 1000000) (hcells : cells + 1 ≤ R.cells) (hslots : slots + N ≤ R.slots)
    (kk : G p l e R s m args below meth c D B od nL tab F (cells + 1) (slots + N) (upA A z (.inl (cy 2, N, .inl (fun _ => 0)))) (z + 2) nx lv (.ref z :: st)) : G p l e R s m args below meth c D B od nL tab F cells slots A (z + 1) i lv (.int x :: st) := by
  intro q hq H locs ls hR hS hl
  cases Option.some.inj (hi.symm.trans hq)
  obtain ⟨q2, hq2, e2⟩ := X.2.2.2.1.fall hi rfl
  refine va_newaK (atype := .boolean) X.1.1 X.1.2.1 (X.1.2.2.2.2 _ hw) rfl (X.2.2.2.1.dec hi) rfl hx hN hbytes hcells hslots rfl fun H1 cA e1 z1 o1 hAr hNm => ?_
  have hcA : cA = cy 2 := Option.some.inj (hNm.symm.trans (tysc_cls (t0 := 2) (ty := .boolean) X.2.1 rfl))
  have hat : va_at D vwCl (H.size, trE B od (.inl (cy 2, N, .inl (fun _ => 0)))) H1 := by
    show H1[H.size]? = some (vp_cell (cy 2) (N, .inl (fun _ => 0)))
    rw [← hcA]; exact e1
  obtain ⟨hR2, hr⟩ := hR.push (X.od0 hz) hat z1 o1
  have K := kk q2 hq2 H1 locs ls hR2 (va_Spush hS z1 o1) hl
  rw [e2] at K
  rw [hr]
  exact K
theorem g_newal (X : Cx p s m args meth c D cy B od cc nL tab own ret) (hi : tab[i]? = some (pc, .newarray .long, 2, nx, tg)) (hw : Cond.arrayClass .long ∈ lw_good) {x : Int32} {N : Nat} (hx : ¬ x < 0) (hN : x.toNatClampNeg = N) (hbytes : N * 8 ≤ 536870912) (hz : z < 1000000) (hcells : cells + 1 ≤ R.cells) (hslots : slots + N ≤ R.slots)
    (kk : G p l e R s m args below meth c D B od nL tab F (cells + 1) (slots + N) (upA A z (.inl (cy 1, N, .inr (.inl (fun _ => 0))))) (z + 2) nx lv (.ref z :: st)) : G p l e R s m args below meth c D B od nL tab F cells slots A (z + 1) i lv (.int x :: st) := by
  intro q hq H locs ls hR hS hl
  cases Option.some.inj (hi.symm.trans hq)
  obtain ⟨q2, hq2, e2⟩ := X.2.2.2.1.fall hi rfl
  refine va_newaK (atype := .long) X.1.1 X.1.2.1 (X.1.2.2.2.2 _ hw) rfl (X.2.2.2.1.dec hi) rfl hx hN hbytes hcells hslots rfl fun H1 cA e1 z1 o1 hAr hNm => ?_
  have hcA : cA = cy 1 := Option.some.inj (hNm.symm.trans (tysc_cls (t0 := 1) (ty := .long) X.2.1 rfl))
  have hat : va_at D vwCl (H.size, trE B od (.inl (cy 1, N, .inr (.inl (fun _ => 0))))) H1 := by
    show H1[H.size]? = some (vp_cell (cy 1) (N, .inr (.inl (fun _ => 0))))
    rw [← hcA]; exact e1
  obtain ⟨hR2, hr⟩ := hR.push (X.od0 hz) hat z1 o1
  have K := kk q2 hq2 H1 locs ls hR2 (va_Spush hS z1 o1) hl
  rw [e2] at K
  rw [hr]
  exact K
theorem g_newad (X : Cx p s m args meth c D cy B od cc nL tab own ret) (hi : tab[i]? = some (pc, .newarray .double, 2, nx, tg)) (hw : Cond.arrayClass .double ∈ lw_good) {x : Int32} {N : Nat} (hx : ¬ x < 0) (hN : x.toNatClampNeg = N) (hbytes : N * 8 ≤ 536870912) (hz : z < 1000000) (hcells : cells + 1 ≤ R.cells) (hslots : slots + N ≤ R.slots)
    (kk : G p l e R s m args below meth c D B od nL tab F (cells + 1) (slots + N) (upA A z (.inl (cy 3, N, .inr (.inr (.inr (.inl (fun _ => 0))))))) (z + 2) nx lv (.ref z :: st)) : G p l e R s m args below meth c D B od nL tab F cells slots A (z + 1) i lv (.int x :: st) := by
  intro q hq H locs ls hR hS hl
  cases Option.some.inj (hi.symm.trans hq)
  obtain ⟨q2, hq2, e2⟩ := X.2.2.2.1.fall hi rfl
  refine va_newaK (atype := .double) X.1.1 X.1.2.1 (X.1.2.2.2.2 _ hw) rfl (X.2.2.2.1.dec hi) rfl hx hN hbytes hcells hslots rfl fun H1 cA e1 z1 o1 hAr hNm => ?_
  have hcA : cA = cy 3 := Option.some.inj (hNm.symm.trans (tysc_cls (t0 := 3) (ty := .double) X.2.1 rfl))
  have hat : va_at D vwCl (H.size, trE B od (.inl (cy 3, N, .inr (.inr (.inr (.inl (fun _ => 0))))))) H1 := by
    show H1[H.size]? = some (vp_cell (cy 3) (N, .inr (.inr (.inr (.inl (fun _ => 0))))))
    rw [← hcA]; exact e1
  obtain ⟨hR2, hr⟩ := hR.push (X.od0 hz) hat z1 o1
  have K := kk q2 hq2 H1 locs ls hR2 (va_Spush hS z1 o1) hl
  rw [e2] at K
  rw [hr]
  exact K
theorem g_objInit (X : Cx p s m args meth c D cy B od cc nL tab own ret) {ix : Nat} (hi : tab[i]? = some (pc, .invokespecial ix, 3, nx, tg)) {a : Nat} (hw : Cond.methodLink own ix objectInit ∈ lw_good ∧ Cond.instanceMethod objectInit ∈ lw_good ∧ Cond.code objectInit ⟨#[0xb1]⟩ 1 none ∈ lw_good) (hf : 1 ≤ R.frames) (hst : (st.map fun v => v.category).sum ≤ 8) (hlo : 20 ≤ R.locals)
    (kk : G p l e R s m args below meth c D B od nL tab F cells slots A z nx lv st) : G p l e R s m args below meth c D B od nL tab F cells slots A z i lv (.ref a :: st) := by
  intro q hq H locs ls hR hS hl
  cases Option.some.inj (hi.symm.trans hq)
  obtain ⟨q2, hq2, e2⟩ := X.2.2.2.1.fall hi rfl
  have K := kk q2 hq2 H locs ls hR hS hl
  rw [e2] at K
  have hst2 : ((st.map (trV B od)).map fun v => v.category).sum ≤ 8 := by
    rw [List.map_map, show ((fun v : Value => v.category) ∘ trV B od) = (fun v => v.category) from funext fun v => trV_cat B od v]; exact hst
  have hrm := lv_room (m := m) (pc := pc) (ls := ls) (rest := st.map (trV B od)) hst2
  refine W.objInit X.1.1 X.1.2.1 X.1.2.2.2.1 (X.1.2.2.2.2 _ hw.1) (X.1.2.2.2.2 _ hw.2.1) (X.1.2.2.2.2 _ hw.2.2) rfl (hl.1.trans X.1.2.2.1.symm) rfl (X.2.2.2.1.dec hi) hf ?_ K
  have : 2 * (F0 m pc ls (st.map (trV B od))).monitorRoom + ((st.map (trV B od)).map fun v => v.category).sum + 12 ≤ R.locals := by omega
  exact this
-- ends
theorem g_retW {Q : QT} {Qx : QX} {mc ms : Nat} {b : Bool} {g : JFrame} {H : Heap} {locs : List Loc} (hc : cells ≤ mc) (hs : slots ≤ ms) (k : W p l e R s m args below meth c H locs mc ms (MQ below (QcA D B od Q) args s mc ms (fun q => B ≤ q)) g) : W p l e R s m args below meth c H locs cells slots (FinQ b D B od Q Qx args s below mc ms) g := by
  refine W.widen hc hs ?_
  cases b
  · exact k
  · exact vx_ret k
theorem g_iret (X : Cx p s m args meth c D cy B od cc nL tab own ret) (hi : tab[i]? = some (pc, .ireturn, 1, nx, tg)) {Q : QT} {Qx : QX} {mc ms : Nat} {b : Bool} {ty : FieldType} {v : Int32} (hr : ret = some ty) (hn : narrow ty (.int v) = .int v) (hc : cells ≤ mc) (hs : slots ≤ ms) (hQ : Q (some (.int v)) A z) : G p l e R s m args below meth c D B od nL tab (FinQ b D B od Q Qx args s below mc ms) cells slots A z i lv [.int v] := by
  intro q hq H locs ls hR hS hl
  cases Option.some.inj (hi.symm.trans hq)
  have hret := X.2.2.2.2.1
  have hlk := X.2.2.2.2.2.1
  exact g_retW hc hs (W.zret (v := v) X.1.1 X.1.2.1 (hret.trans hr) hn (fun t ht _ => ⟨⟨some (.int v), A, z, rfl, hQ, by rw [ht]; exact hR⟩, hS.F ht⟩) hS.2.2 (X.2.2.2.1.dec hi) hlk)
theorem g_lret (X : Cx p s m args meth c D cy B od cc nL tab own ret) (hi : tab[i]? = some (pc, .lreturn, 1, nx, tg)) {Q : QT} {Qx : QX} {mc ms : Nat} {b : Bool} {v : Int64} (hr : ret = some .long) (hc : cells ≤ mc) (hs : slots ≤ ms) (hQ : Q (some (.long v)) A z) : G p l e R s m args below meth c D B od nL tab (FinQ b D B od Q Qx args s below mc ms) cells slots A z i lv [.long v] := by
  intro q hq H locs ls hR hS hl
  cases Option.some.inj (hi.symm.trans hq)
  have hret := X.2.2.2.2.1
  have hlk := X.2.2.2.2.2.1
  exact g_retW hc hs (W.lret (v := v) X.1.1 X.1.2.1 (hret.trans hr) (fun t ht _ => ⟨⟨some (.long v), A, z, rfl, hQ, by rw [ht]; exact hR⟩, hS.F ht⟩) hS.2.2 (X.2.2.2.1.dec hi) hlk)
theorem g_dret (X : Cx p s m args meth c D cy B od cc nL tab own ret) (hi : tab[i]? = some (pc, .dreturn, 1, nx, tg)) {Q : QT} {Qx : QX} {mc ms : Nat} {b : Bool} {v : UInt64} (hr : ret = some .double) (hc : cells ≤ mc) (hs : slots ≤ ms) (hQ : Q (some (.double v)) A z) : G p l e R s m args below meth c D B od nL tab (FinQ b D B od Q Qx args s below mc ms) cells slots A z i lv [.double v] := by
  intro q hq H locs ls hR hS hl
  cases Option.some.inj (hi.symm.trans hq)
  have hret := X.2.2.2.2.1
  have hlk := X.2.2.2.2.2.1
  exact g_retW hc hs (W.dret (v := v) X.1.1 X.1.2.1 (hret.trans hr) (fun t ht _ => ⟨⟨some (.double v), A, z, rfl, hQ, by rw [ht]; exact hR⟩, hS.F ht⟩) hS.2.2 (X.2.2.2.1.dec hi) hlk)
theorem g_aret (X : Cx p s m args meth c D cy B od cc nL tab own ret) (hi : tab[i]? = some (pc, .areturn, 1, nx, tg)) {Q : QT} {Qx : QX} {mc ms : Nat} {b : Bool} {v : Nat} {nm : String} (hr : ret = some (.object nm)) (hc : cells ≤ mc) (hs : slots ≤ ms) (hQ : Q (some (.ref v)) A z) : G p l e R s m args below meth c D B od nL tab (FinQ b D B od Q Qx args s below mc ms) cells slots A z i lv [.ref v] := by
  intro q hq H locs ls hR hS hl
  cases Option.some.inj (hi.symm.trans hq)
  have hret := X.2.2.2.2.1
  have hlk := X.2.2.2.2.2.1
  exact g_retW hc hs (W.aret (v := .ref (rho B od v)) X.1.1 X.1.2.1 (hret.trans hr) (Or.inl ⟨nm, rfl⟩) (Or.inr ⟨_, rfl⟩) (fun t ht _ => ⟨⟨some (.ref v), A, z, rfl, hQ, by rw [ht]; exact hR⟩, hS.F ht⟩) hS.2.2 (X.2.2.2.1.dec hi) hlk)
theorem g_vret (X : Cx p s m args meth c D cy B od cc nL tab own ret) (hi : tab[i]? = some (pc, .return_, 1, nx, tg)) {Q : QT} {Qx : QX} {mc ms : Nat} {b : Bool} (hr : ret = none) (hc : cells ≤ mc) (hs : slots ≤ ms) (hQ : Q none A z) : G p l e R s m args below meth c D B od nL tab (FinQ b D B od Q Qx args s below mc ms) cells slots A z i lv [] := by
  intro q hq H locs ls hR hS hl
  cases Option.some.inj (hi.symm.trans hq)
  have hret := X.2.2.2.2.1
  have hlk := X.2.2.2.2.2.1
  exact g_retW hc hs (W.vret X.1.1 X.1.2.1 (hret.trans hr) (fun t ht _ => ⟨⟨none, A, z, rfl, hQ, by rw [ht]; exact hR⟩, hS.F ht⟩) hS.2.2 (X.2.2.2.1.dec hi) hlk)
-- links of calls
def LkC (y : MethodName) (bytes : ByteArray) (maxL : Nat) (rt : Option FieldType) (n : Nat) : Prop := Cond.code y bytes maxL rt ∈ lw_good ∧ Cond.initialized y.cls ∈ lw_good ∧ (y.cls ≠ "java/lang/invoke/MethodHandle" ∧ y.cls ≠ "java/lang/invoke/VarHandle") ∧ (parseMethodDescriptor y.desc).map (fun d => d.parameters.length) = some n
def LkM (own : String) (ix : Nat) (y : MethodName) : Prop := Cond.methodLink own ix y ∈ lw_good
def LkN (own : String) (ix : Nat) (y : MethodName) : Prop := ∃ host, Cond.methodLinkNest own ix y host ∈ nw_all
def LkSel (y : MethodName) : Prop := Cond.instanceMethod y ∈ lw_good ∧ Cond.selects y.cls y y ∈ lw_good
theorem lk_len {y : MethodName} {n : Nat} (h : (parseMethodDescriptor y.desc).map (fun d => d.parameters.length) = some n) : ∀ sig, parseMethodDescriptor y.desc = some sig → n = sig.parameters.length := by
  intro sig hs
  rw [hs] at h
  exact (Option.some.inj h).symm
section CALLS
variable {y : MethodName} {bytes : ByteArray} {maxL n ix : Nat} {rt : Option FieldType} {rm : Room} {As rest : List Value} {b : Nat} {Q' : QT} {Qx' : QX}
theorem mkB (X : Cx p s m args meth c D cy B od cc nL tab own ret) (h : LkC y bytes maxL rt n) (hl : LkM own ix y) (hR : rm.frames + 1 ≤ R.frames ∧ 8 + (maxL + 11) + rm.locals ≤ R.locals) : CallB R s args own ix y bytes maxL rt (Cond.code y bytes maxL rt :: lw_good) rm rm.cells rm.slots n :=
  ⟨rfl, rfl, hR.1, hR.2, pay_in X.1.2.2.2.2 (lw_good_ok h.1), List.mem_cons_self, X.1.2.2.2.2 _ h.1, X.1.2.2.2.2 _ h.2.1, h.2.2.1, lk_len h.2.2.2, X.1.2.2.2.2 _ hl⟩
theorem mkN (X : Cx p s m args meth c D cy B od cc nL tab own ret) (h : LkC y bytes maxL rt n) {host : String} (hl : Cond.methodLinkNest own ix y host ∈ nw_all) (hR : rm.frames + 1 ≤ R.frames ∧ 8 + (maxL + 11) + rm.locals ≤ R.locals) : va_CN R s args own ix y host bytes maxL rt (Cond.code y bytes maxL rt :: lw_good) rm rm.cells rm.slots n :=
  ⟨⟨rfl, rfl, hR.1, hR.2, pay_in X.1.2.2.2.2 (lw_good_ok h.1), List.mem_cons_self⟩, X.1.2.2.2.2 _ h.1, X.1.2.2.2.2 _ h.2.1, h.2.2.1, lk_len h.2.2.2, va_Nw.use rfl (X.2.2.1 _ hl)⟩
theorem run_go {H : Heap} {locs : List Loc} {mc ms : Nat} {ls : Array Slot} {st0 rs : List Value} {a : Array Value} (hr : va_Run p l e R s m args below meth c H locs cells slots mc ms (F0 m pc ls st0) rs (QcA D B od Q' a) (fun q => B ≤ q)) (hS : va_S (fun q => B ≤ q) s.heap H locs)
    (kk : ∀ (v : Option Value) (A' : AH) (z' : Nat) (H1 : Heap) (locs1 : List Loc), Q' v A' z' → RelA D B od A' z' H1 → va_S (fun q => B ≤ q) s.heap H1 locs1 → W p l e R s m args below meth c H1 locs1 (cells + mc) (slots + ms) F (F0 m (pc + 3) ls ((v.map (trV B od)).toList ++ rs))) : W p l e R s m args below meth c H locs cells slots F (F0 m pc ls st0) := by
  intro T hT X
  obtain ⟨v, st₀, t, T', L, h0, X', hL, e1, e2, ⟨⟨v', A', z', hv, hp, hb⟩, hz, hk⟩, st⟩ := hr T hT X
  have hv : v = v'.map (trV B od) := by cases hv; rfl
  subst hv
  rw [h0] at hz hk
  obtain ⟨t2, a1, b1⟩ := kk v' A' z' T'.heap (locs ++ L) hp (by rw [e1]; exact hb)
    ⟨Nat.le_trans hS.1 (by rw [e1]; exact hz), fun q h1 h2 => by rw [e1, hk q (Nat.lt_of_lt_of_le h1 hS.1) h2]; exact hS.2.1 q h1 h2, fun q hq => by
      rcases List.mem_append.mp hq with h | h
      · exact hS.2.2 q h
      · exact hL q h⟩ T' rfl X'
  exact ⟨t2, st t2 a1, b1⟩
theorem st_cat {rest : List Value} (hst : (rest.map fun v => v.category).sum ≤ 8) : ((rest.map (trV B od)).map fun v => v.category).sum ≤ 8 := by
  rw [List.map_map, show ((fun v : Value => v.category) ∘ trV B od) = (fun v => v.category) from funext fun v => trV_cat B od v]; exact hst
theorem st_ret {v : Option Value} {rest : List Value} : (v.map (trV B od)).toList ++ rest.map (trV B od) = (v.toList ++ rest).map (trV B od) := by cases v <;> rfl
theorem recv {H : Heap} {ci : Nat} {fs : List Value} {C : String} {T : u_T} {N : Nat} (X : Cx p s m args meth c D cy B od cc nL tab own ret) (hR : RelA D B od A z H) (hA : A b = some (.inr (ci, fs))) (hc : vwCl[ci]? = some (C, T, N)) : ∃ cell : Cell, H[rho B od b]? = some cell ∧ cell.vm.isStatics = false ∧ s.vm.findClass C = some cell.cls := va_recv (q := (C, T, N)) (ws := [(rho B od b, .inr (ci, fs.map (trV B od)))]) X.2.1 (va_P1 (hR.1 b _ hA).2) (q0 := 0) hc rfl
theorem g_callV (X : Cx p s m args meth c D cy B od cc nL tab own ret) (hi : tab[i]? = some (pc, .invokevirtual ix, 3, nx, tg)) (hL : LkC y bytes maxL rt n) (hM : LkM own ix y) (hSe : LkSel y) (hC : CT l D cy B od y bytes maxL rt rm (.ref b :: As) A z Q') {ci : Nat} {fs : List Value} {T : u_T} {N : Nat} (hA : A b = some (.inr (ci, fs))) (hc : vwCl[ci]? = some (y.cls, T, N)) (hst : st = As.reverse ++ .ref b :: rest) (hn : As.length = n) (hw : (rest.map fun v => v.category).sum ≤ 8) (hRm : rm.frames + 1 ≤ R.frames ∧ 8 + (maxL + 11) + rm.locals ≤ R.locals) (hf : cells + rm.cells ≤ R.cells ∧ slots + rm.slots ≤ R.slots)
    (kk : ∀ (v : Option Value) (A' : AH) (z' : Nat), Q' v A' z' → G p l e R s m args below meth c D B od nL tab F (cells + rm.cells) (slots + rm.slots) A' z' nx lv (v.toList ++ rest)) : G p l e R s m args below meth c D B od nL tab F cells slots A z i lv st := by
  intro q hq H locs ls hR hS hl
  cases Option.some.inj (hi.symm.trans hq)
  obtain ⟨q2, hq2, e2⟩ := X.2.2.2.1.fall hi rfl
  subst hst
  rw [List.map_append, List.map_reverse, List.map_cons]
  refine run_go (va_runV (As := As.map (trV B od)) (b := rho B od b) (rest := rest.map (trV B od)) X.1 hC ⟨mkB X hL hM hRm, X.1.2.2.2.2 _ hSe.1, X.1.2.2.2.2 _ hSe.2⟩ ⟨PcA.blind, recv X hR hA hc, fun U hU hW => ⟨rfl, X.world hR hS U hU hW⟩⟩ rfl ((List.length_map _).trans hn) hl.1 rfl (lv_room (st_cat hw)) (X.2.2.2.1.dec hi) hf) hS (fun v A' z' H1 locs1 hq hR1 hS1 => ?_)
  have K := kk v A' z' hq q2 hq2 H1 locs1 ls hR1 hS1 hl
  rw [e2, ← st_ret] at K
  exact K
theorem g_callVN (X : Cx p s m args meth c D cy B od cc nL tab own ret) (hi : tab[i]? = some (pc, .invokevirtual ix, 3, nx, tg)) (hL : LkC y bytes maxL rt n) (hM : LkN own ix y) (hSe : LkSel y) (hC : CT l D cy B od y bytes maxL rt rm (.ref b :: As) A z Q') {ci : Nat} {fs : List Value} {T : u_T} {N : Nat} (hA : A b = some (.inr (ci, fs))) (hc : vwCl[ci]? = some (y.cls, T, N)) (hst : st = As.reverse ++ .ref b :: rest) (hn : As.length = n) (hw : (rest.map fun v => v.category).sum ≤ 8) (hRm : rm.frames + 1 ≤ R.frames ∧ 8 + (maxL + 11) + rm.locals ≤ R.locals) (hf : cells + rm.cells ≤ R.cells ∧ slots + rm.slots ≤ R.slots)
    (kk : ∀ (v : Option Value) (A' : AH) (z' : Nat), Q' v A' z' → G p l e R s m args below meth c D B od nL tab F (cells + rm.cells) (slots + rm.slots) A' z' nx lv (v.toList ++ rest)) : G p l e R s m args below meth c D B od nL tab F cells slots A z i lv st := by
  intro q hq H locs ls hR hS hl
  cases Option.some.inj (hi.symm.trans hq)
  obtain ⟨q2, hq2, e2⟩ := X.2.2.2.1.fall hi rfl
  obtain ⟨host, hM⟩ := hM
  subst hst
  rw [List.map_append, List.map_reverse, List.map_cons]
  refine run_go (va_runVN (As := As.map (trV B od)) (b := rho B od b) (rest := rest.map (trV B od)) X.1 hC ⟨mkN X hL hM hRm, X.1.2.2.2.2 _ hSe.1, X.1.2.2.2.2 _ hSe.2⟩ ⟨PcA.blind, recv X hR hA hc, fun U hU hW => ⟨rfl, X.world hR hS U hU hW⟩⟩ rfl ((List.length_map _).trans hn) hl.1 rfl (lv_room (st_cat hw)) (X.2.2.2.1.dec hi) hf) hS (fun v A' z' H1 locs1 hq hR1 hS1 => ?_)
  have K := kk v A' z' hq q2 hq2 H1 locs1 ls hR1 hS1 hl
  rw [e2, ← st_ret] at K
  exact K
theorem g_callS (X : Cx p s m args meth c D cy B od cc nL tab own ret) (hi : tab[i]? = some (pc, .invokestatic ix, 3, nx, tg)) (hL : LkC y bytes maxL rt n) (hM : LkM own ix y) (hSt : Cond.static y ∈ lw_good) (hC : CT l D cy B od y bytes maxL rt rm As A z Q') (hst : st = As.reverse ++ rest) (hn : As.length = n) (hw : (rest.map fun v => v.category).sum ≤ 8) (hRm : rm.frames + 1 ≤ R.frames ∧ 8 + (maxL + 11) + rm.locals ≤ R.locals) (hf : cells + rm.cells ≤ R.cells ∧ slots + rm.slots ≤ R.slots)
    (kk : ∀ (v : Option Value) (A' : AH) (z' : Nat), Q' v A' z' → G p l e R s m args below meth c D B od nL tab F (cells + rm.cells) (slots + rm.slots) A' z' nx lv (v.toList ++ rest)) : G p l e R s m args below meth c D B od nL tab F cells slots A z i lv st := by
  intro q hq H locs ls hR hS hl
  cases Option.some.inj (hi.symm.trans hq)
  obtain ⟨q2, hq2, e2⟩ := X.2.2.2.1.fall hi rfl
  subst hst
  rw [List.map_append, List.map_reverse]
  refine run_go (va_runS (As := As.map (trV B od)) (rest := rest.map (trV B od)) X.1 hC ⟨mkB X hL hM hRm, X.1.2.2.2.2 _ hSt⟩ ⟨PcA.blind, fun U hU hW => ⟨rfl, X.world hR hS U hU hW⟩⟩ rfl ((List.length_map _).trans hn) hl.1 rfl (lv_room (st_cat hw)) (X.2.2.2.1.dec hi) hf) hS (fun v A' z' H1 locs1 hq hR1 hS1 => ?_)
  have K := kk v A' z' hq q2 hq2 H1 locs1 ls hR1 hS1 hl
  rw [e2, ← st_ret] at K
  exact K
theorem g_callSN (X : Cx p s m args meth c D cy B od cc nL tab own ret) (hi : tab[i]? = some (pc, .invokestatic ix, 3, nx, tg)) (hL : LkC y bytes maxL rt n) (hM : LkN own ix y) (hSt : Cond.static y ∈ lw_good) (hC : CT l D cy B od y bytes maxL rt rm As A z Q') (hst : st = As.reverse ++ rest) (hn : As.length = n) (hw : (rest.map fun v => v.category).sum ≤ 8) (hRm : rm.frames + 1 ≤ R.frames ∧ 8 + (maxL + 11) + rm.locals ≤ R.locals) (hf : cells + rm.cells ≤ R.cells ∧ slots + rm.slots ≤ R.slots)
    (kk : ∀ (v : Option Value) (A' : AH) (z' : Nat), Q' v A' z' → G p l e R s m args below meth c D B od nL tab F (cells + rm.cells) (slots + rm.slots) A' z' nx lv (v.toList ++ rest)) : G p l e R s m args below meth c D B od nL tab F cells slots A z i lv st := by
  intro q hq H locs ls hR hS hl
  cases Option.some.inj (hi.symm.trans hq)
  obtain ⟨q2, hq2, e2⟩ := X.2.2.2.1.fall hi rfl
  obtain ⟨host, hM⟩ := hM
  subst hst
  rw [List.map_append, List.map_reverse]
  refine run_go (va_runSN (As := As.map (trV B od)) (rest := rest.map (trV B od)) X.1 hC ⟨mkN X hL hM hRm, X.1.2.2.2.2 _ hSt, trivial⟩ ⟨PcA.blind, fun U hU hW => ⟨rfl, X.world hR hS U hU hW⟩⟩ rfl ((List.length_map _).trans hn) hl.1 rfl (lv_room (st_cat hw)) (X.2.2.2.1.dec hi) hf) hS (fun v A' z' H1 locs1 hq hR1 hS1 => ?_)
  have K := kk v A' z' hq q2 hq2 H1 locs1 ls hR1 hS1 hl
  rw [e2, ← st_ret] at K
  exact K
theorem g_callI (X : Cx p s m args meth c D cy B od cc nL tab own ret) (hi : tab[i]? = some (pc, .invokespecial ix, 3, nx, tg)) (hL : LkC y bytes maxL none n) (hM : LkM own ix y) (hI : Cond.instanceMethod y ∈ lw_good) (hy : y.name = "<init>") (hC : CT l D cy B od y bytes maxL none rm (.ref b :: As) A z Q') (hst : st = As.reverse ++ .ref b :: rest) (hn : As.length = n) (hw : (rest.map fun v => v.category).sum ≤ 8) (hRm : rm.frames + 1 ≤ R.frames ∧ 8 + (maxL + 11) + rm.locals ≤ R.locals) (hf : cells + rm.cells ≤ R.cells ∧ slots + rm.slots ≤ R.slots)
    (kk : ∀ (v : Option Value) (A' : AH) (z' : Nat), Q' v A' z' → G p l e R s m args below meth c D B od nL tab F (cells + rm.cells) (slots + rm.slots) A' z' nx lv (v.toList ++ rest)) : G p l e R s m args below meth c D B od nL tab F cells slots A z i lv st := by
  intro q hq H locs ls hR hS hl
  cases Option.some.inj (hi.symm.trans hq)
  obtain ⟨q2, hq2, e2⟩ := X.2.2.2.1.fall hi rfl
  subst hst
  rw [List.map_append, List.map_reverse, List.map_cons]
  refine run_go (va_runI (As := As.map (trV B od)) (b := rho B od b) (rest := rest.map (trV B od)) X.1 hC ⟨mkB X hL hM hRm, hy, X.1.2.2.2.2 _ hI⟩ ⟨PcA.blind, fun U hU hW => ⟨rfl, X.world hR hS U hU hW⟩⟩ rfl ((List.length_map _).trans hn) hl.1 rfl (lv_room (st_cat hw)) (X.2.2.2.1.dec hi) hf) hS (fun v A' z' H1 locs1 hq hR1 hS1 => ?_)
  have K := kk v A' z' hq q2 hq2 H1 locs1 ls hR1 hS1 hl
  rw [e2, ← st_ret] at K
  exact K
theorem g_callIN (X : Cx p s m args meth c D cy B od cc nL tab own ret) (hi : tab[i]? = some (pc, .invokespecial ix, 3, nx, tg)) (hL : LkC y bytes maxL none n) (hM : LkN own ix y) (hI : Cond.instanceMethod y ∈ lw_good) (hy : y.name = "<init>") (hC : CT l D cy B od y bytes maxL none rm (.ref b :: As) A z Q') (hst : st = As.reverse ++ .ref b :: rest) (hn : As.length = n) (hw : (rest.map fun v => v.category).sum ≤ 8) (hRm : rm.frames + 1 ≤ R.frames ∧ 8 + (maxL + 11) + rm.locals ≤ R.locals) (hf : cells + rm.cells ≤ R.cells ∧ slots + rm.slots ≤ R.slots)
    (kk : ∀ (v : Option Value) (A' : AH) (z' : Nat), Q' v A' z' → G p l e R s m args below meth c D B od nL tab F (cells + rm.cells) (slots + rm.slots) A' z' nx lv (v.toList ++ rest)) : G p l e R s m args below meth c D B od nL tab F cells slots A z i lv st := by
  intro q hq H locs ls hR hS hl
  cases Option.some.inj (hi.symm.trans hq)
  obtain ⟨q2, hq2, e2⟩ := X.2.2.2.1.fall hi rfl
  obtain ⟨host, hM⟩ := hM
  subst hst
  rw [List.map_append, List.map_reverse, List.map_cons]
  refine run_go (va_runIN (As := As.map (trV B od)) (b := rho B od b) (rest := rest.map (trV B od)) X.1 hC ⟨mkN X hL hM hRm, hy, X.1.2.2.2.2 _ hI⟩ ⟨PcA.blind, fun U hU hW => ⟨rfl, X.world hR hS U hU hW⟩⟩ rfl ((List.length_map _).trans hn) hl.1 rfl (lv_room (st_cat hw)) (X.2.2.2.1.dec hi) hf) hS (fun v A' z' H1 locs1 hq hR1 hS1 => ?_)
  have K := kk v A' z' hq q2 hq2 H1 locs1 ls hR1 hS1 hl
  rw [e2, ← st_ret] at K
  exact K
end CALLS
-- contracts out of bodies
theorem CT.of {y : MethodName} {bytes : ByteArray} {maxL : Nat} {rt : Option FieldType} {rm : Room} {av : List Value} {Q : QT} (hy : plainName y.cls = true) (tb : List PT) (hok : OkTab bytes tb) (hlen : (entL av).length ≤ maxL) {q0 : PT} (h0 : tb[0]? = some q0) (h00 : q0.1 = 0)
    (body : ∀ (p : Program) (e : Env) (s : State) (m : MethodId) (args : Array Value) (below : List Frame) (meth : Method) (c : Code), Cx p s m args meth c D cy B od bytes maxL tb y.cls rt → meth.name = y.name → G p l e rm s m args below meth c D B od maxL tb (FinQ false D B od Q (fun _ _ => True) args s below rm.cells rm.slots) 0 0 A z 0 (entN av maxL) []) : CT l D cy B od y bytes maxL rt rm av A z Q := by
  refine Met.ofW (cc := bytes) (maxL := maxL) (ret := rt) hy rfl ?_
  intro p e s m args below meth c s₁ Bd hml hv
  obtain ⟨hav, hK, hN, hR, hB, hO⟩ := hv
  have X : Cx p s m args meth c D cy B od bytes maxL tb y.cls rt := ⟨⟨Bd.exec, Bd.bytes, hml, findClass_of_methodNamed Bd.named, fun v hv => atoms_spec Bd.pre _ (List.mem_cons_of_mem _ hv)⟩, hK, hN, hok, Bd.returns, Bd.notSynchronized, hB, hO⟩
  have g := body p e s m args below meth c X (name_of_methodNamed Bd.named Bd.method).1
  have hl := lv_entry (av.map (trV B od)) (n := maxL) (by rw [lg_len]; exact hlen)
  have K := g q0 h0 s.heap [] _ hR va_S.rf (LR.entry hl)
  rw [h00] at K
  rw [hav, lg_entry_eq]
  exact hav ▸ K
theorem CX.of {y : MethodName} {bytes : ByteArray} {maxL : Nat} {rt : Option FieldType} {rm : Room} {av : List Value} {Q : QT} {Qx : QX} (hy : plainName y.cls = true) (tb : List PT) (hok : OkTab bytes tb) (hlen : (entL av).length ≤ maxL) {q0 : PT} (h0 : tb[0]? = some q0) (h00 : q0.1 = 0)
    (body : ∀ (p : Program) (e : Env) (s : State) (m : MethodId) (args : Array Value) (below : List Frame) (meth : Method) (c : Code), Cx p s m args meth c D cy B od bytes maxL tb y.cls rt → (∀ x ∈ c.exceptionTable.toList, False) → G p l e rm s m args below meth c D B od maxL tb (FinQ true D B od Q Qx args s below rm.cells rm.slots) 0 0 A z 0 (entN av maxL) []) : CX l D cy B od y bytes maxL rt rm av A z Q Qx := by
  refine vx_ofW (cc := bytes) (maxL := maxL) (ret := rt) hy rfl ?_
  intro p e s m args below meth c s₁ Bd hml hxt hv
  obtain ⟨hav, hK, hN, hR, hB, hO⟩ := hv
  have X : Cx p s m args meth c D cy B od bytes maxL tb y.cls rt := ⟨⟨Bd.exec, Bd.bytes, hml, findClass_of_methodNamed Bd.named, fun v hv => atoms_spec Bd.pre _ (List.mem_cons_of_mem _ hv)⟩, hK, hN, hok, Bd.returns, Bd.notSynchronized, hB, hO⟩
  have g := body p e s m args below meth c X hxt
  have hl := lv_entry (av.map (trV B od)) (n := maxL) (by rw [lg_len]; exact hlen)
  have K := g q0 h0 s.heap [] _ hR va_S.rf (LR.entry hl)
  rw [h00] at K
  rw [hav, lg_entry_eq]
  exact hav ▸ K
end CORE4
end
