section
-- ===== PART A: goes FIRST, ahead of the names: the tables' words, and 'selects' of the private methods out of them =====
/-- a private method of a class that the tables say can be made, by its rows of tables_1 -/
def lw_okq (q : MethodName × Nat) : Prop := (q.1.cls ≠ "java/lang/invoke/MethodHandle" ∧ q.1.cls ≠ "java/lang/invoke/VarHandle") ∧ Cond.instantiable q.1.cls q.2 ∈ tables_1 ∧ Cond.privateMethod q.1 ∈ tables_1 ∧ Cond.instanceMethod q.1 ∈ tables_1
theorem lw_p0 : lw_okq (⟨"java/lang/Throwable", "fillInStackTrace", "(I)Ljava/lang/Throwable;"⟩, 6) := ⟨⟨by decide +kernel, by decide +kernel⟩, List.mem_of_getElem? (i := 292) (by decide +kernel), List.mem_of_getElem? (i := 290) (by decide +kernel), List.mem_of_getElem? (i := 291) (by decide +kernel)⟩
theorem lw_p1 : lw_okq (⟨"MaskedSum", "isInRound", "(I)Z"⟩, 4) := ⟨⟨by decide +kernel, by decide +kernel⟩, List.mem_of_getElem? (i := 21) (by decide +kernel), List.mem_of_getElem? (i := 381) (by decide +kernel), List.mem_of_getElem? (i := 382) (by decide +kernel)⟩
theorem lw_p2 : lw_okq (⟨"MaskedSum$Mail", "append", "(I)[I"⟩, 3) := ⟨⟨by decide +kernel, by decide +kernel⟩, List.mem_of_getElem? (i := 80) (by decide +kernel), List.mem_of_getElem? (i := 393) (by decide +kernel), List.mem_of_getElem? (i := 394) (by decide +kernel)⟩
theorem lw_p3 : lw_okq (⟨"MaskedSum$Phone", "writeKeys", "([I)V"⟩, 13) := ⟨⟨by decide +kernel, by decide +kernel⟩, List.mem_of_getElem? (i := 177) (by decide +kernel), List.mem_of_getElem? (i := 397) (by decide +kernel), List.mem_of_getElem? (i := 398) (by decide +kernel)⟩
theorem lw_p4 : lw_okq (⟨"MaskedSum$Phone", "makeShares", "(LMaskedSum$Crypto;I)V"⟩, 13) := ⟨⟨by decide +kernel, by decide +kernel⟩, List.mem_of_getElem? (i := 177) (by decide +kernel), List.mem_of_getElem? (i := 414) (by decide +kernel), List.mem_of_getElem? (i := 415) (by decide +kernel)⟩
theorem lw_p5 : lw_okq (⟨"MaskedSum$ChaCha", "quarterRound", "(IIII)V"⟩, 2) := ⟨⟨by decide +kernel, by decide +kernel⟩, List.mem_of_getElem? (i := 35) (by decide +kernel), List.mem_of_getElem? (i := 434) (by decide +kernel), List.mem_of_getElem? (i := 435) (by decide +kernel)⟩
theorem lw_p6 : lw_okq (⟨"MaskedSum$Phone", "writeBoxes", "([ILMaskedSum$Crypto;)V"⟩, 13) := ⟨⟨by decide +kernel, by decide +kernel⟩, List.mem_of_getElem? (i := 177) (by decide +kernel), List.mem_of_getElem? (i := 452) (by decide +kernel), List.mem_of_getElem? (i := 453) (by decide +kernel)⟩
theorem lw_p7 : lw_okq (⟨"MaskedSum$Phone", "agreed", "(II)J"⟩, 13) := ⟨⟨by decide +kernel, by decide +kernel⟩, List.mem_of_getElem? (i := 177) (by decide +kernel), List.mem_of_getElem? (i := 460) (by decide +kernel), List.mem_of_getElem? (i := 461) (by decide +kernel)⟩
theorem lw_p8 : lw_okq (⟨"MaskedSum$Crypto", "makeTag", "(JII[II)V"⟩, 2) := ⟨⟨by decide +kernel, by decide +kernel⟩, List.mem_of_getElem? (i := 29) (by decide +kernel), List.mem_of_getElem? (i := 469) (by decide +kernel), List.mem_of_getElem? (i := 470) (by decide +kernel)⟩
theorem lw_p9 : lw_okq (⟨"MaskedSum$Poly1305", "multiply", "()V"⟩, 5) := ⟨⟨by decide +kernel, by decide +kernel⟩, List.mem_of_getElem? (i := 49) (by decide +kernel), List.mem_of_getElem? (i := 493) (by decide +kernel), List.mem_of_getElem? (i := 494) (by decide +kernel)⟩
theorem lw_p10 : lw_okq (⟨"MaskedSum$Poly1305", "carry", "()V"⟩, 5) := ⟨⟨by decide +kernel, by decide +kernel⟩, List.mem_of_getElem? (i := 49) (by decide +kernel), List.mem_of_getElem? (i := 498) (by decide +kernel), List.mem_of_getElem? (i := 499) (by decide +kernel)⟩
theorem lw_p11 : lw_okq (⟨"MaskedSum$Poly1305", "carryUp", "()J"⟩, 5) := ⟨⟨by decide +kernel, by decide +kernel⟩, List.mem_of_getElem? (i := 49) (by decide +kernel), List.mem_of_getElem? (i := 502) (by decide +kernel), List.mem_of_getElem? (i := 503) (by decide +kernel)⟩
theorem lw_p12 : lw_okq (⟨"MaskedSum$Poly1305", "reachesPrime", "()Z"⟩, 5) := ⟨⟨by decide +kernel, by decide +kernel⟩, List.mem_of_getElem? (i := 49) (by decide +kernel), List.mem_of_getElem? (i := 510) (by decide +kernel), List.mem_of_getElem? (i := 511) (by decide +kernel)⟩
theorem lw_p13 : lw_okq (⟨"MaskedSum$Poly1305", "sumWord", "(I)I"⟩, 5) := ⟨⟨by decide +kernel, by decide +kernel⟩, List.mem_of_getElem? (i := 49) (by decide +kernel), List.mem_of_getElem? (i := 515) (by decide +kernel), List.mem_of_getElem? (i := 516) (by decide +kernel)⟩
theorem lw_p14 : lw_okq (⟨"MaskedSum$Phone", "writeMasked", "([ILMaskedSum$Crypto;)V"⟩, 13) := ⟨⟨by decide +kernel, by decide +kernel⟩, List.mem_of_getElem? (i := 177) (by decide +kernel), List.mem_of_getElem? (i := 520) (by decide +kernel), List.mem_of_getElem? (i := 521) (by decide +kernel)⟩
theorem lw_p15 : lw_okq (⟨"MaskedSum$Phone", "writeShares", "([ILMaskedSum$Crypto;)V"⟩, 13) := ⟨⟨by decide +kernel, by decide +kernel⟩, List.mem_of_getElem? (i := 177) (by decide +kernel), List.mem_of_getElem? (i := 529) (by decide +kernel), List.mem_of_getElem? (i := 530) (by decide +kernel)⟩
def lw_privs_1 : List (MethodName × Nat) := [(⟨"java/lang/Throwable", "fillInStackTrace", "(I)Ljava/lang/Throwable;"⟩, 6), (⟨"MaskedSum", "isInRound", "(I)Z"⟩, 4), (⟨"MaskedSum$Mail", "append", "(I)[I"⟩, 3), (⟨"MaskedSum$Phone", "writeKeys", "([I)V"⟩, 13), (⟨"MaskedSum$Phone", "makeShares", "(LMaskedSum$Crypto;I)V"⟩, 13), (⟨"MaskedSum$ChaCha", "quarterRound", "(IIII)V"⟩, 2), (⟨"MaskedSum$Phone", "writeBoxes", "([ILMaskedSum$Crypto;)V"⟩, 13), (⟨"MaskedSum$Phone", "agreed", "(II)J"⟩, 13), (⟨"MaskedSum$Crypto", "makeTag", "(JII[II)V"⟩, 2), (⟨"MaskedSum$Poly1305", "multiply", "()V"⟩, 5), (⟨"MaskedSum$Poly1305", "carry", "()V"⟩, 5), (⟨"MaskedSum$Poly1305", "carryUp", "()J"⟩, 5), (⟨"MaskedSum$Poly1305", "reachesPrime", "()Z"⟩, 5), (⟨"MaskedSum$Poly1305", "sumWord", "(I)I"⟩, 5), (⟨"MaskedSum$Phone", "writeMasked", "([ILMaskedSum$Crypto;)V"⟩, 13), (⟨"MaskedSum$Phone", "writeShares", "([ILMaskedSum$Crypto;)V"⟩, 13)]
theorem lw_r1 : ∀ q ∈ lw_privs_1, lw_okq q := List.forall_mem_cons.mpr ⟨lw_p0, List.forall_mem_cons.mpr ⟨lw_p1, List.forall_mem_cons.mpr ⟨lw_p2, List.forall_mem_cons.mpr ⟨lw_p3, List.forall_mem_cons.mpr ⟨lw_p4, List.forall_mem_cons.mpr ⟨lw_p5, List.forall_mem_cons.mpr ⟨lw_p6, List.forall_mem_cons.mpr ⟨lw_p7, List.forall_mem_cons.mpr ⟨lw_p8, List.forall_mem_cons.mpr ⟨lw_p9, List.forall_mem_cons.mpr ⟨lw_p10, List.forall_mem_cons.mpr ⟨lw_p11, List.forall_mem_cons.mpr ⟨lw_p12, List.forall_mem_cons.mpr ⟨lw_p13, List.forall_mem_cons.mpr ⟨lw_p14, List.forall_mem_cons.mpr ⟨lw_p15, fun _ h => absurd h List.not_mem_nil⟩⟩⟩⟩⟩⟩⟩⟩⟩⟩⟩⟩⟩⟩⟩⟩
theorem lw_p16 : lw_okq (⟨"MaskedSum$Phone", "giveShare", "([II)V"⟩, 13) := ⟨⟨by decide +kernel, by decide +kernel⟩, List.mem_of_getElem? (i := 177) (by decide +kernel), List.mem_of_getElem? (i := 533) (by decide +kernel), List.mem_of_getElem? (i := 534) (by decide +kernel)⟩
theorem lw_p17 : lw_okq (⟨"MaskedSum$Server", "fail", "(I)V"⟩, 11) := ⟨⟨by decide +kernel, by decide +kernel⟩, List.mem_of_getElem? (i := 130) (by decide +kernel), List.mem_of_getElem? (i := 558) (by decide +kernel), List.mem_of_getElem? (i := 559) (by decide +kernel)⟩
theorem lw_p18 : lw_okq (⟨"MaskedSum$Server", "answerAll", "(LMaskedSum$Mail;)V"⟩, 11) := ⟨⟨by decide +kernel, by decide +kernel⟩, List.mem_of_getElem? (i := 130) (by decide +kernel), List.mem_of_getElem? (i := 562) (by decide +kernel), List.mem_of_getElem? (i := 563) (by decide +kernel)⟩
theorem lw_p19 : lw_okq (⟨"MaskedSum$Server", "writeKeys", "([I)V"⟩, 11) := ⟨⟨by decide +kernel, by decide +kernel⟩, List.mem_of_getElem? (i := 130) (by decide +kernel), List.mem_of_getElem? (i := 571) (by decide +kernel), List.mem_of_getElem? (i := 572) (by decide +kernel)⟩
theorem lw_p20 : lw_okq (⟨"MaskedSum$Server", "writeBoxes", "([II)V"⟩, 11) := ⟨⟨by decide +kernel, by decide +kernel⟩, List.mem_of_getElem? (i := 130) (by decide +kernel), List.mem_of_getElem? (i := 576) (by decide +kernel), List.mem_of_getElem? (i := 577) (by decide +kernel)⟩
theorem lw_p21 : lw_okq (⟨"MaskedSum$Server", "unmask", "(LMaskedSum$Crypto;)Z"⟩, 11) := ⟨⟨by decide +kernel, by decide +kernel⟩, List.mem_of_getElem? (i := 130) (by decide +kernel), List.mem_of_getElem? (i := 580) (by decide +kernel), List.mem_of_getElem? (i := 581) (by decide +kernel)⟩
theorem lw_p22 : lw_okq (⟨"MaskedSum$Server", "lowestHolders", "(I)I"⟩, 11) := ⟨⟨by decide +kernel, by decide +kernel⟩, List.mem_of_getElem? (i := 130) (by decide +kernel), List.mem_of_getElem? (i := 584) (by decide +kernel), List.mem_of_getElem? (i := 585) (by decide +kernel)⟩
theorem lw_p23 : lw_okq (⟨"MaskedSum$Server", "addMasked", "(I)V"⟩, 11) := ⟨⟨by decide +kernel, by decide +kernel⟩, List.mem_of_getElem? (i := 130) (by decide +kernel), List.mem_of_getElem? (i := 597) (by decide +kernel), List.mem_of_getElem? (i := 598) (by decide +kernel)⟩
theorem lw_p24 : lw_okq (⟨"MaskedSum$Server", "takePairsOff", "(IJLMaskedSum$Crypto;)V"⟩, 11) := ⟨⟨by decide +kernel, by decide +kernel⟩, List.mem_of_getElem? (i := 130) (by decide +kernel), List.mem_of_getElem? (i := 602) (by decide +kernel), List.mem_of_getElem? (i := 603) (by decide +kernel)⟩
theorem lw_p25 : lw_okq (⟨"MaskedSum$Phone", "areGood", "(IIII)Z"⟩, 13) := ⟨⟨by decide +kernel, by decide +kernel⟩, List.mem_of_getElem? (i := 177) (by decide +kernel), List.mem_of_getElem? (i := 632) (by decide +kernel), List.mem_of_getElem? (i := 633) (by decide +kernel)⟩
theorem lw_p26 : lw_okq (⟨"MaskedSum$Server", "isAwaited", "(I)Z"⟩, 11) := ⟨⟨by decide +kernel, by decide +kernel⟩, List.mem_of_getElem? (i := 130) (by decide +kernel), List.mem_of_getElem? (i := 641) (by decide +kernel), List.mem_of_getElem? (i := 642) (by decide +kernel)⟩
theorem lw_p27 : lw_okq (⟨"MaskedSum$Server", "rowFor", "(I)[I"⟩, 11) := ⟨⟨by decide +kernel, by decide +kernel⟩, List.mem_of_getElem? (i := 130) (by decide +kernel), List.mem_of_getElem? (i := 645) (by decide +kernel), List.mem_of_getElem? (i := 646) (by decide +kernel)⟩
theorem lw_p28 : lw_okq (⟨"MaskedSumModel", "isOpen", "()Z"⟩, 34) := ⟨⟨by decide +kernel, by decide +kernel⟩, List.mem_of_getElem? (i := 701) (by decide +kernel), List.mem_of_getElem? (i := 826) (by decide +kernel), List.mem_of_getElem? (i := 827) (by decide +kernel)⟩
theorem lw_p29 : lw_okq (⟨"MaskedSumModel", "isPhone", "(I)Z"⟩, 34) := ⟨⟨by decide +kernel, by decide +kernel⟩, List.mem_of_getElem? (i := 701) (by decide +kernel), List.mem_of_getElem? (i := 830) (by decide +kernel), List.mem_of_getElem? (i := 831) (by decide +kernel)⟩
theorem lw_p30 : lw_okq (⟨"MaskedSumModel", "sendKeys", "(I)V"⟩, 34) := ⟨⟨by decide +kernel, by decide +kernel⟩, List.mem_of_getElem? (i := 701) (by decide +kernel), List.mem_of_getElem? (i := 848) (by decide +kernel), List.mem_of_getElem? (i := 849) (by decide +kernel)⟩
theorem lw_p31 : lw_okq (⟨"MaskedSumModel", "post", "(IIZI)I"⟩, 34) := ⟨⟨by decide +kernel, by decide +kernel⟩, List.mem_of_getElem? (i := 701) (by decide +kernel), List.mem_of_getElem? (i := 852) (by decide +kernel), List.mem_of_getElem? (i := 853) (by decide +kernel)⟩
def lw_privs_2 : List (MethodName × Nat) := [(⟨"MaskedSum$Phone", "giveShare", "([II)V"⟩, 13), (⟨"MaskedSum$Server", "fail", "(I)V"⟩, 11), (⟨"MaskedSum$Server", "answerAll", "(LMaskedSum$Mail;)V"⟩, 11), (⟨"MaskedSum$Server", "writeKeys", "([I)V"⟩, 11), (⟨"MaskedSum$Server", "writeBoxes", "([II)V"⟩, 11), (⟨"MaskedSum$Server", "unmask", "(LMaskedSum$Crypto;)Z"⟩, 11), (⟨"MaskedSum$Server", "lowestHolders", "(I)I"⟩, 11), (⟨"MaskedSum$Server", "addMasked", "(I)V"⟩, 11), (⟨"MaskedSum$Server", "takePairsOff", "(IJLMaskedSum$Crypto;)V"⟩, 11), (⟨"MaskedSum$Phone", "areGood", "(IIII)Z"⟩, 13), (⟨"MaskedSum$Server", "isAwaited", "(I)Z"⟩, 11), (⟨"MaskedSum$Server", "rowFor", "(I)[I"⟩, 11), (⟨"MaskedSumModel", "isOpen", "()Z"⟩, 34), (⟨"MaskedSumModel", "isPhone", "(I)Z"⟩, 34), (⟨"MaskedSumModel", "sendKeys", "(I)V"⟩, 34), (⟨"MaskedSumModel", "post", "(IIZI)I"⟩, 34)]
theorem lw_r2 : ∀ q ∈ lw_privs_2, lw_okq q := List.forall_mem_cons.mpr ⟨lw_p16, List.forall_mem_cons.mpr ⟨lw_p17, List.forall_mem_cons.mpr ⟨lw_p18, List.forall_mem_cons.mpr ⟨lw_p19, List.forall_mem_cons.mpr ⟨lw_p20, List.forall_mem_cons.mpr ⟨lw_p21, List.forall_mem_cons.mpr ⟨lw_p22, List.forall_mem_cons.mpr ⟨lw_p23, List.forall_mem_cons.mpr ⟨lw_p24, List.forall_mem_cons.mpr ⟨lw_p25, List.forall_mem_cons.mpr ⟨lw_p26, List.forall_mem_cons.mpr ⟨lw_p27, List.forall_mem_cons.mpr ⟨lw_p28, List.forall_mem_cons.mpr ⟨lw_p29, List.forall_mem_cons.mpr ⟨lw_p30, List.forall_mem_cons.mpr ⟨lw_p31, fun _ h => absurd h List.not_mem_nil⟩⟩⟩⟩⟩⟩⟩⟩⟩⟩⟩⟩⟩⟩⟩⟩
theorem lw_p32 : lw_okq (⟨"MaskedSumModel", "writeNumber", "(IJ)V"⟩, 34) := ⟨⟨by decide +kernel, by decide +kernel⟩, List.mem_of_getElem? (i := 701) (by decide +kernel), List.mem_of_getElem? (i := 866) (by decide +kernel), List.mem_of_getElem? (i := 867) (by decide +kernel)⟩
theorem lw_p33 : lw_okq (⟨"MaskedSumModel", "sendBoxes", "(I)V"⟩, 34) := ⟨⟨by decide +kernel, by decide +kernel⟩, List.mem_of_getElem? (i := 701) (by decide +kernel), List.mem_of_getElem? (i := 870) (by decide +kernel), List.mem_of_getElem? (i := 871) (by decide +kernel)⟩
theorem lw_p34 : lw_okq (⟨"MaskedSumModel", "agreed", "(IIJ)J"⟩, 34) := ⟨⟨by decide +kernel, by decide +kernel⟩, List.mem_of_getElem? (i := 701) (by decide +kernel), List.mem_of_getElem? (i := 877) (by decide +kernel), List.mem_of_getElem? (i := 878) (by decide +kernel)⟩
theorem lw_p35 : lw_okq (⟨"MaskedSumModel", "share", "(III)J"⟩, 34) := ⟨⟨by decide +kernel, by decide +kernel⟩, List.mem_of_getElem? (i := 701) (by decide +kernel), List.mem_of_getElem? (i := 881) (by decide +kernel), List.mem_of_getElem? (i := 882) (by decide +kernel)⟩
theorem lw_p36 : lw_okq (⟨"MaskedSumModel", "word", "(JIII)I"⟩, 34) := ⟨⟨by decide +kernel, by decide +kernel⟩, List.mem_of_getElem? (i := 701) (by decide +kernel), List.mem_of_getElem? (i := 885) (by decide +kernel), List.mem_of_getElem? (i := 886) (by decide +kernel)⟩
theorem lw_p37 : lw_okq (⟨"MaskedSumModel", "mix", "(JIIII)V"⟩, 34) := ⟨⟨by decide +kernel, by decide +kernel⟩, List.mem_of_getElem? (i := 701) (by decide +kernel), List.mem_of_getElem? (i := 889) (by decide +kernel), List.mem_of_getElem? (i := 890) (by decide +kernel)⟩
theorem lw_p38 : lw_okq (⟨"MaskedSumModel", "quarter", "(IIII)V"⟩, 34) := ⟨⟨by decide +kernel, by decide +kernel⟩, List.mem_of_getElem? (i := 701) (by decide +kernel), List.mem_of_getElem? (i := 897) (by decide +kernel), List.mem_of_getElem? (i := 898) (by decide +kernel)⟩
theorem lw_p39 : lw_okq (⟨"MaskedSumModel", "seal", "(JIIIIII)V"⟩, 34) := ⟨⟨by decide +kernel, by decide +kernel⟩, List.mem_of_getElem? (i := 701) (by decide +kernel), List.mem_of_getElem? (i := 904) (by decide +kernel), List.mem_of_getElem? (i := 905) (by decide +kernel)⟩
theorem lw_p40 : lw_okq (⟨"MaskedSumModel", "absorb", "()V"⟩, 34) := ⟨⟨by decide +kernel, by decide +kernel⟩, List.mem_of_getElem? (i := 701) (by decide +kernel), List.mem_of_getElem? (i := 913) (by decide +kernel), List.mem_of_getElem? (i := 914) (by decide +kernel)⟩
theorem lw_p41 : lw_okq (⟨"MaskedSumModel", "settle", "()V"⟩, 34) := ⟨⟨by decide +kernel, by decide +kernel⟩, List.mem_of_getElem? (i := 701) (by decide +kernel), List.mem_of_getElem? (i := 918) (by decide +kernel), List.mem_of_getElem? (i := 919) (by decide +kernel)⟩
theorem lw_p42 : lw_okq (⟨"MaskedSumModel", "settle13", "()V"⟩, 34) := ⟨⟨by decide +kernel, by decide +kernel⟩, List.mem_of_getElem? (i := 701) (by decide +kernel), List.mem_of_getElem? (i := 923) (by decide +kernel), List.mem_of_getElem? (i := 924) (by decide +kernel)⟩
theorem lw_p43 : lw_okq (⟨"MaskedSumModel", "sendMasked", "(I)V"⟩, 34) := ⟨⟨by decide +kernel, by decide +kernel⟩, List.mem_of_getElem? (i := 701) (by decide +kernel), List.mem_of_getElem? (i := 927) (by decide +kernel), List.mem_of_getElem? (i := 928) (by decide +kernel)⟩
theorem lw_p44 : lw_okq (⟨"MaskedSumModel", "sendShares", "(I)V"⟩, 34) := ⟨⟨by decide +kernel, by decide +kernel⟩, List.mem_of_getElem? (i := 701) (by decide +kernel), List.mem_of_getElem? (i := 931) (by decide +kernel), List.mem_of_getElem? (i := 932) (by decide +kernel)⟩
theorem lw_p45 : lw_okq (⟨"MaskedSumModel", "isMessage", "(I)Z"⟩, 34) := ⟨⟨by decide +kernel, by decide +kernel⟩, List.mem_of_getElem? (i := 701) (by decide +kernel), List.mem_of_getElem? (i := 939) (by decide +kernel), List.mem_of_getElem? (i := 940) (by decide +kernel)⟩
theorem lw_p46 : lw_okq (⟨"MaskedSumModel", "answered", "(I)Z"⟩, 34) := ⟨⟨by decide +kernel, by decide +kernel⟩, List.mem_of_getElem? (i := 701) (by decide +kernel), List.mem_of_getElem? (i := 943) (by decide +kernel), List.mem_of_getElem? (i := 944) (by decide +kernel)⟩
theorem lw_p47 : lw_okq (⟨"MaskedSumModel", "heard", "(I)Z"⟩, 34) := ⟨⟨by decide +kernel, by decide +kernel⟩, List.mem_of_getElem? (i := 701) (by decide +kernel), List.mem_of_getElem? (i := 950) (by decide +kernel), List.mem_of_getElem? (i := 951) (by decide +kernel)⟩
def lw_privs_3 : List (MethodName × Nat) := [(⟨"MaskedSumModel", "writeNumber", "(IJ)V"⟩, 34), (⟨"MaskedSumModel", "sendBoxes", "(I)V"⟩, 34), (⟨"MaskedSumModel", "agreed", "(IIJ)J"⟩, 34), (⟨"MaskedSumModel", "share", "(III)J"⟩, 34), (⟨"MaskedSumModel", "word", "(JIII)I"⟩, 34), (⟨"MaskedSumModel", "mix", "(JIIII)V"⟩, 34), (⟨"MaskedSumModel", "quarter", "(IIII)V"⟩, 34), (⟨"MaskedSumModel", "seal", "(JIIIIII)V"⟩, 34), (⟨"MaskedSumModel", "absorb", "()V"⟩, 34), (⟨"MaskedSumModel", "settle", "()V"⟩, 34), (⟨"MaskedSumModel", "settle13", "()V"⟩, 34), (⟨"MaskedSumModel", "sendMasked", "(I)V"⟩, 34), (⟨"MaskedSumModel", "sendShares", "(I)V"⟩, 34), (⟨"MaskedSumModel", "isMessage", "(I)Z"⟩, 34), (⟨"MaskedSumModel", "answered", "(I)Z"⟩, 34), (⟨"MaskedSumModel", "heard", "(I)Z"⟩, 34)]
theorem lw_r3 : ∀ q ∈ lw_privs_3, lw_okq q := List.forall_mem_cons.mpr ⟨lw_p32, List.forall_mem_cons.mpr ⟨lw_p33, List.forall_mem_cons.mpr ⟨lw_p34, List.forall_mem_cons.mpr ⟨lw_p35, List.forall_mem_cons.mpr ⟨lw_p36, List.forall_mem_cons.mpr ⟨lw_p37, List.forall_mem_cons.mpr ⟨lw_p38, List.forall_mem_cons.mpr ⟨lw_p39, List.forall_mem_cons.mpr ⟨lw_p40, List.forall_mem_cons.mpr ⟨lw_p41, List.forall_mem_cons.mpr ⟨lw_p42, List.forall_mem_cons.mpr ⟨lw_p43, List.forall_mem_cons.mpr ⟨lw_p44, List.forall_mem_cons.mpr ⟨lw_p45, List.forall_mem_cons.mpr ⟨lw_p46, List.forall_mem_cons.mpr ⟨lw_p47, fun _ h => absurd h List.not_mem_nil⟩⟩⟩⟩⟩⟩⟩⟩⟩⟩⟩⟩⟩⟩⟩⟩
theorem lw_p48 : lw_okq (⟨"MaskedSumModel", "takeOut", "(I)V"⟩, 34) := ⟨⟨by decide +kernel, by decide +kernel⟩, List.mem_of_getElem? (i := 701) (by decide +kernel), List.mem_of_getElem? (i := 954) (by decide +kernel), List.mem_of_getElem? (i := 955) (by decide +kernel)⟩
theorem lw_p49 : lw_okq (⟨"MaskedSumModel", "reckon", "()Z"⟩, 34) := ⟨⟨by decide +kernel, by decide +kernel⟩, List.mem_of_getElem? (i := 701) (by decide +kernel), List.mem_of_getElem? (i := 974) (by decide +kernel), List.mem_of_getElem? (i := 975) (by decide +kernel)⟩
theorem lw_p50 : lw_okq (⟨"MaskedSumModel", "join", "(I)Z"⟩, 34) := ⟨⟨by decide +kernel, by decide +kernel⟩, List.mem_of_getElem? (i := 701) (by decide +kernel), List.mem_of_getElem? (i := 978) (by decide +kernel), List.mem_of_getElem? (i := 979) (by decide +kernel)⟩
theorem lw_p51 : lw_okq (⟨"MaskedSumModel", "answer", "(II)V"⟩, 34) := ⟨⟨by decide +kernel, by decide +kernel⟩, List.mem_of_getElem? (i := 701) (by decide +kernel), List.mem_of_getElem? (i := 983) (by decide +kernel), List.mem_of_getElem? (i := 984) (by decide +kernel)⟩
theorem lw_p52 : lw_okq (⟨"MaskedSumModel", "raise", "(I)I"⟩, 34) := ⟨⟨by decide +kernel, by decide +kernel⟩, List.mem_of_getElem? (i := 701) (by decide +kernel), List.mem_of_getElem? (i := 991) (by decide +kernel), List.mem_of_getElem? (i := 992) (by decide +kernel)⟩
def lw_privs_4 : List (MethodName × Nat) := [(⟨"MaskedSumModel", "takeOut", "(I)V"⟩, 34), (⟨"MaskedSumModel", "reckon", "()Z"⟩, 34), (⟨"MaskedSumModel", "join", "(I)Z"⟩, 34), (⟨"MaskedSumModel", "answer", "(II)V"⟩, 34), (⟨"MaskedSumModel", "raise", "(I)I"⟩, 34)]
theorem lw_r4 : ∀ q ∈ lw_privs_4, lw_okq q := List.forall_mem_cons.mpr ⟨lw_p48, List.forall_mem_cons.mpr ⟨lw_p49, List.forall_mem_cons.mpr ⟨lw_p50, List.forall_mem_cons.mpr ⟨lw_p51, List.forall_mem_cons.mpr ⟨lw_p52, fun _ h => absurd h List.not_mem_nil⟩⟩⟩⟩⟩
def lw_privs : List (MethodName × Nat) := lw_privs_1 ++ (lw_privs_2 ++ (lw_privs_3 ++ (lw_privs_4)))
def lw_tbl : List Cond := k2_sels lw_privs ++ tables_1
theorem lw_privs_ok : ∀ q ∈ lw_privs, lw_okq q := by
  show ∀ q ∈ lw_privs_1 ++ (lw_privs_2 ++ (lw_privs_3 ++ (lw_privs_4))), lw_okq q
  exact List.forall_mem_append.mpr ⟨lw_r1, List.forall_mem_append.mpr ⟨lw_r2, List.forall_mem_append.mpr ⟨lw_r3, lw_r4⟩⟩⟩
end
section
/-! THE PURE MACHINE'S TABLES, by a program (wip/whole/gen.py) out of the files: methods, their code with what each instruction links to, words. -/
-- what an instruction links to: two numbers, a value, numbers
abbrev ms_X : Type := Nat × Nat × Value × List Nat
-- an instruction, its length, its link
abbrev ms_I : Type := Jvm.ClassFile.Instr × Nat × ms_X
def ms_cO : String := "MaskedSum"
def ms_cM : String := "MaskedSum$Message"
def ms_cP : String := "MaskedSum$Phone"
def ms_T0 : u_T := fun k => match k with
  | 0 => ("MaskedSum", "crypto", "LMaskedSum$Crypto;", true)
  | 1 => ("MaskedSum", "mail", "LMaskedSum$Mail;", true)
  | 2 => ("MaskedSum", "server", "LMaskedSum$Server;", true)
  | _ => ("MaskedSum", "phones", "[LMaskedSum$Phone;", true)
def ms_T1 : u_T := fun k => match k with
  | 0 => ("MaskedSum$Crypto", "cipher", "LMaskedSum$ChaCha;", true)
  | _ => ("MaskedSum$Crypto", "mac", "LMaskedSum$Poly1305;", true)
def ms_T2 : u_T := fun k => match k with
  | 0 => ("MaskedSum$ChaCha", "state", "[I", true)
  | _ => ("MaskedSum$ChaCha", "block", "[I", true)
def ms_T3 : u_T := fun k => match k with
  | 0 => ("MaskedSum$Poly1305", "factor", "[J", true)
  | 1 => ("MaskedSum$Poly1305", "sum", "[J", true)
  | 2 => ("MaskedSum$Poly1305", "work", "[J", true)
  | 3 => ("MaskedSum$Poly1305", "pad", "[I", true)
  | _ => ("MaskedSum$Poly1305", "tag", "[I", true)
def ms_T4 : u_T := fun k => match k with
  | 0 => ("MaskedSum$Mail", "places", "[LMaskedSum$Message;", true)
  | 1 => ("MaskedSum$Mail", "queue", "[I", true)
  | _ => ("MaskedSum$Mail", "size", "I", false)
def ms_T5 : u_T := fun k => match k with
  | 0 => ("MaskedSum$Message", "stage", "I", true)
  | 1 => ("MaskedSum$Message", "party", "I", true)
  | 2 => ("MaskedSum$Message", "fromServer", "Z", true)
  | _ => ("MaskedSum$Message", "words", "[I", true)
def ms_T6 : u_T := fun k => match k with
  | 0 => ("MaskedSum$Server", "size", "I", false)
  | 1 => ("MaskedSum$Server", "threshold", "I", false)
  | 2 => ("MaskedSum$Server", "stage", "I", false)
  | 3 => ("MaskedSum$Server", "reason", "I", false)
  | 4 => ("MaskedSum$Server", "heard", "I", false)
  | 5 => ("MaskedSum$Server", "named", "[I", true)
  | 6 => ("MaskedSum$Server", "keys", "[[I", true)
  | 7 => ("MaskedSum$Server", "boxes", "[[I", true)
  | 8 => ("MaskedSum$Server", "masked", "[[I", true)
  | 9 => ("MaskedSum$Server", "shares", "[[I", true)
  | _ => ("MaskedSum$Server", "sums", "[I", true)
def ms_T7 : u_T := fun k => match k with
  | 0 => ("MaskedSum$Phone", "number", "I", true)
  | 1 => ("MaskedSum$Phone", "secrets", "[J", true)
  | 2 => ("MaskedSum$Phone", "inputs", "[I", true)
  | 3 => ("MaskedSum$Phone", "seedShares", "[J", true)
  | 4 => ("MaskedSum$Phone", "maskKeyShares", "[J", true)
  | 5 => ("MaskedSum$Phone", "named", "[I", true)
  | 6 => ("MaskedSum$Phone", "keys", "[I", true)
  | 7 => ("MaskedSum$Phone", "boxes", "[I", true)
  | 8 => ("MaskedSum$Phone", "text", "[I", true)
  | 9 => ("MaskedSum$Phone", "sent", "I", false)
  | 10 => ("MaskedSum$Phone", "taken", "I", false)
  | 11 => ("MaskedSum$Phone", "seedsGiven", "I", false)
  | _ => ("MaskedSum$Phone", "maskKeysGiven", "I", false)
def ms_T8 : u_T := fun k => match k with
  | 0 => ("MaskedSumModel", "code", "I", false)
  | 1 => ("MaskedSumModel", "n", "I", false)
  | 2 => ("MaskedSumModel", "t", "I", false)
  | 3 => ("MaskedSumModel", "stage", "I", false)
  | 4 => ("MaskedSumModel", "reason", "I", false)
  | 5 => ("MaskedSumModel", "secrets", "[J", true)
  | 6 => ("MaskedSumModel", "inputs", "[I", true)
  | 7 => ("MaskedSumModel", "sent", "[I", true)
  | 8 => ("MaskedSumModel", "taken", "[I", true)
  | 9 => ("MaskedSumModel", "gaveSeed", "[I", true)
  | 10 => ("MaskedSumModel", "gaveKey", "[I", true)
  | 11 => ("MaskedSumModel", "named", "[I", true)
  | 12 => ("MaskedSumModel", "keysTold", "[I", true)
  | 13 => ("MaskedSumModel", "boxesTold", "[I", true)
  | 14 => ("MaskedSumModel", "names", "[I", true)
  | 15 => ("MaskedSumModel", "heardNow", "[I", true)
  | 16 => ("MaskedSumModel", "keys", "[I", true)
  | 17 => ("MaskedSumModel", "boxes", "[I", true)
  | 18 => ("MaskedSumModel", "masked", "[I", true)
  | 19 => ("MaskedSumModel", "shares", "[I", true)
  | 20 => ("MaskedSumModel", "messages", "I", false)
  | 21 => ("MaskedSumModel", "row", "[I", true)
  | 22 => ("MaskedSumModel", "sums", "[I", true)
  | 23 => ("MaskedSumModel", "ended", "Z", false)
  | 24 => ("MaskedSumModel", "state", "[I", true)
  | 25 => ("MaskedSumModel", "block", "[I", true)
  | 26 => ("MaskedSumModel", "sum", "[J", true)
  | 27 => ("MaskedSumModel", "key", "[J", true)
  | 28 => ("MaskedSumModel", "product", "[J", true)
  | 29 => ("MaskedSumModel", "four", "[I", true)
  | 30 => ("MaskedSumModel", "tag", "[I", true)
  | 31 => ("MaskedSumModel", "extra", "[J", true)
  | 32 => ("MaskedSumModel", "joined", "J", false)
  | _ => ("MaskedSumModel", "last", "I", false)
abbrev ms_cl : List vw_C := [("MaskedSum", ms_T0, 4), ("MaskedSum$Crypto", ms_T1, 2), ("MaskedSum$ChaCha", ms_T2, 2), ("MaskedSum$Poly1305", ms_T3, 5), ("MaskedSum$Mail", ms_T4, 3), ("MaskedSum$Message", ms_T5, 4), ("MaskedSum$Server", ms_T6, 11), ("MaskedSum$Phone", ms_T7, 13), ("MaskedSumModel", ms_T8, 34)]
def ms_fts : List (List FieldType) := [[.object "MaskedSum$Crypto", .object "MaskedSum$Mail", .object "MaskedSum$Server", .array (.object "MaskedSum$Phone")],
  [.object "MaskedSum$ChaCha", .object "MaskedSum$Poly1305"],
  [.array .int, .array .int],
  [.array .long, .array .long, .array .long, .array .int, .array .int],
  [.array (.object "MaskedSum$Message"), .array .int, .int],
  [.int, .int, .boolean, .array .int],
  [.int, .int, .int, .int, .int, .array .int, .array (.array .int), .array (.array .int), .array (.array .int), .array (.array .int), .array .int],
  [.int, .array .long, .array .int, .array .long, .array .long, .array .int, .array .int, .array .int, .array .int, .int, .int, .int, .int],
  [.int, .int, .int, .int, .int, .array .long, .array .int, .array .int, .array .int, .array .int, .array .int, .array .int, .array .int, .array .int, .array .int, .array .int, .array .int, .array .int, .array .int, .array .int, .int, .array .int, .array .int, .boolean, .array .int, .array .int, .array .long, .array .long, .array .long, .array .int, .array .int, .array .long, .long, .int]]
def ms_ft (ci k : Nat) : FieldType := (ms_fts.getD ci []).getD k .int
def ms_dfs : List (List Value) := [[.null, .null, .null, .null],
  [.null, .null],
  [.null, .null],
  [.null, .null, .null, .null, .null],
  [.null, .null, .int 0],
  [.int 0, .int 0, .int 0, .null],
  [.int 0, .int 0, .int 0, .int 0, .int 0, .null, .null, .null, .null, .null, .null],
  [.int 0, .null, .null, .null, .null, .null, .null, .null, .null, .int 0, .int 0, .int 0, .int 0],
  [.int 0, .int 0, .int 0, .int 0, .int 0, .null, .null, .null, .null, .null, .null, .null, .null, .null, .null, .null, .null, .null, .null, .null, .int 0, .null, .null, .int 0, .null, .null, .null, .null, .null, .null, .null, .null, .long 0, .int 0]]
def ms_df (ci : Nat) : List Value := ms_dfs.getD ci []
def ms_el (k : Nat) : Option Nat := if k = 3 then some 5 else if k = 4 then some 7 else none
def ms_sn (k : Nat) : String := if k = 1 then "SENT_WORDS" else "ANSWER_WORDS"
def ms_nst : List Cond := [(Jvm.Cond.methodLinkNest "MaskedSum" (9 : Nat) ({ cls := "MaskedSum$Crypto", name := "<init>", desc := "()V" } : Jvm.MethodName) "MaskedSum"), (Jvm.Cond.methodLinkNest "MaskedSum$Crypto" (11 : Nat) ({ cls := "MaskedSum$ChaCha", name := "<init>", desc := "()V" } : Jvm.MethodName) "MaskedSum"), (Jvm.Cond.methodLinkNest "MaskedSum$Crypto" (20 : Nat) ({ cls := "MaskedSum$Poly1305", name := "<init>", desc := "()V" } : Jvm.MethodName) "MaskedSum"), (Jvm.Cond.fieldLinkNest "MaskedSum$Mail" (21 : Nat) "MaskedSum" "SENT_WORDS" "[I" "MaskedSum"), (Jvm.Cond.fieldLinkNest "MaskedSum$Mail" (27 : Nat) "MaskedSum" "ANSWER_WORDS" "[I" "MaskedSum"), (Jvm.Cond.methodLinkNest "MaskedSum" (25 : Nat) ({ cls := "MaskedSum$Server", name := "<init>", desc := "()V" } : Jvm.MethodName) "MaskedSum"), (Jvm.Cond.methodLinkNest "MaskedSum$Phone" (79 : Nat) ({ cls := "MaskedSum", name := "isNamed", desc := "(II)Z" } : Jvm.MethodName) "MaskedSum"), (Jvm.Cond.methodLinkNest "MaskedSum$Server" (60 : Nat) ({ cls := "MaskedSum", name := "isNamed", desc := "(II)Z" } : Jvm.MethodName) "MaskedSum"), (Jvm.Cond.methodLinkNest "MaskedSum$Sharing" (22 : Nat) ({ cls := "MaskedSum", name := "isNamed", desc := "(II)Z" } : Jvm.MethodName) "MaskedSum")]
def ms_ys : List MethodName := [⟨"MaskedSum", "<init>", "()V"⟩,
  ⟨"MaskedSum", "start", "(II)V"⟩,
  ⟨"MaskedSum", "secret", "(IIII)V"⟩,
  ⟨"MaskedSum", "input", "(III)V"⟩,
  ⟨"MaskedSum", "step", "(I)Z"⟩,
  ⟨"MaskedSum", "close", "()I"⟩,
  ⟨"MaskedSum", "deliver", "(I)Z"⟩,
  ⟨"MaskedSum", "lose", "(I)V"⟩,
  ⟨"MaskedSum", "alter", "(III)V"⟩,
  ⟨"MaskedSum", "message", "(II)I"⟩,
  ⟨"MaskedSum", "total", "(I)I"⟩,
  ⟨"MaskedSum", "phone", "(II)I"⟩,
  ⟨"MaskedSum", "count", "(I)I"⟩,
  ⟨"MaskedSum", "stream", "(IIIII)I"⟩,
  ⟨"MaskedSum", "isInRound", "(I)Z"⟩,
  ⟨"MaskedSum", "isNamed", "(II)Z"⟩,
  ⟨"MaskedSumModel", "<init>", "()V"⟩,
  ⟨"MaskedSumModel", "thrown", "()I"⟩,
  ⟨"MaskedSumModel", "raise", "(I)I"⟩,
  ⟨"MaskedSumModel", "in", "(III)Z"⟩,
  ⟨"MaskedSumModel", "plus", "(JJ)J"⟩,
  ⟨"MaskedSumModel", "times", "(JJ)J"⟩,
  ⟨"MaskedSumModel", "power", "(JJ)J"⟩,
  ⟨"MaskedSumModel", "number", "(II)J"⟩,
  ⟨"MaskedSumModel", "turn", "(II)I"⟩,
  ⟨"MaskedSumModel", "quarter", "(IIII)V"⟩,
  ⟨"MaskedSumModel", "mix", "(JIIII)V"⟩,
  ⟨"MaskedSumModel", "word", "(JIII)I"⟩,
  ⟨"MaskedSumModel", "spread", "([J[II)V"⟩,
  ⟨"MaskedSumModel", "absorb", "()V"⟩,
  ⟨"MaskedSumModel", "settle", "()V"⟩,
  ⟨"MaskedSumModel", "seal", "(JIIIIII)V"⟩,
  ⟨"MaskedSumModel", "settle13", "()V"⟩,
  ⟨"MaskedSumModel", "agreed", "(IIJ)J"⟩,
  ⟨"MaskedSumModel", "share", "(III)J"⟩,
  ⟨"MaskedSumModel", "start", "(II)V"⟩,
  ⟨"MaskedSumModel", "isOpen", "()Z"⟩,
  ⟨"MaskedSumModel", "isPhone", "(I)Z"⟩,
  ⟨"MaskedSumModel", "secret", "(IIII)V"⟩,
  ⟨"MaskedSumModel", "input", "(III)V"⟩,
  ⟨"MaskedSumModel", "post", "(IIZI)I"⟩,
  ⟨"MaskedSumModel", "takeOut", "(I)V"⟩,
  ⟨"MaskedSumModel", "has", "(II)Z"⟩,
  ⟨"MaskedSumModel", "ones", "(I)I"⟩,
  ⟨"MaskedSumModel", "writeNumber", "(IJ)V"⟩,
  ⟨"MaskedSumModel", "sendKeys", "(I)V"⟩,
  ⟨"MaskedSumModel", "sendBoxes", "(I)V"⟩,
  ⟨"MaskedSumModel", "sendMasked", "(I)V"⟩,
  ⟨"MaskedSumModel", "sendShares", "(I)V"⟩,
  ⟨"MaskedSumModel", "step", "(I)Z"⟩,
  ⟨"MaskedSumModel", "answered", "(I)Z"⟩,
  ⟨"MaskedSumModel", "heard", "(I)Z"⟩,
  ⟨"MaskedSumModel", "isMessage", "(I)Z"⟩,
  ⟨"MaskedSumModel", "deliver", "(I)Z"⟩,
  ⟨"MaskedSumModel", "lose", "(I)V"⟩,
  ⟨"MaskedSumModel", "alter", "(III)V"⟩,
  ⟨"MaskedSumModel", "message", "(II)I"⟩,
  ⟨"MaskedSumModel", "answer", "(II)V"⟩,
  ⟨"MaskedSumModel", "join", "(I)Z"⟩,
  ⟨"MaskedSumModel", "reckon", "()Z"⟩,
  ⟨"MaskedSumModel", "close", "()I"⟩,
  ⟨"MaskedSumModel", "total", "(I)I"⟩,
  ⟨"MaskedSumModel", "phone", "(II)I"⟩,
  ⟨"MaskedSumModel", "count", "(I)I"⟩,
  ⟨"MaskedSumModel", "stream", "(IIIII)I"⟩,
  ⟨"MaskedSum$ChaCha", "<init>", "()V"⟩,
  ⟨"MaskedSum$ChaCha", "makeBlock", "(JIIII)[I"⟩,
  ⟨"MaskedSum$ChaCha", "quarterRound", "(IIII)V"⟩,
  ⟨"MaskedSum$Crypto", "<init>", "()V"⟩,
  ⟨"MaskedSum$Crypto", "streamBlock", "(JIII)[I"⟩,
  ⟨"MaskedSum$Crypto", "addMask", "([IZJII)V"⟩,
  ⟨"MaskedSum$Crypto", "seal", "(JII[II)V"⟩,
  ⟨"MaskedSum$Crypto", "open", "(JII[II[I)Z"⟩,
  ⟨"MaskedSum$Crypto", "makeTag", "(JII[II)V"⟩,
  ⟨"MaskedSum$Mail", "<init>", "()V"⟩,
  ⟨"MaskedSum$Mail", "clear", "()V"⟩,
  ⟨"MaskedSum$Mail", "has", "(I)Z"⟩,
  ⟨"MaskedSum$Mail", "get", "(I)LMaskedSum$Message;"⟩,
  ⟨"MaskedSum$Mail", "remove", "(I)LMaskedSum$Message;"⟩,
  ⟨"MaskedSum$Mail", "post", "(II)[I"⟩,
  ⟨"MaskedSum$Mail", "postAnswer", "(II)[I"⟩,
  ⟨"MaskedSum$Mail", "append", "(I)[I"⟩,
  ⟨"MaskedSum$Message", "<init>", "(IIZI)V"⟩,
  ⟨"MaskedSum$Message", "tell", "(I)I"⟩,
  ⟨"MaskedSum$Numbers", "ofWords", "(II)J"⟩,
  ⟨"MaskedSum$Numbers", "read", "([II)J"⟩,
  ⟨"MaskedSum$Numbers", "write", "(J[II)V"⟩,
  ⟨"MaskedSum$Numbers", "fold", "(J)J"⟩,
  ⟨"MaskedSum$Numbers", "plus", "(JJ)J"⟩,
  ⟨"MaskedSum$Numbers", "minus", "(JJ)J"⟩,
  ⟨"MaskedSum$Numbers", "times", "(JJ)J"⟩,
  ⟨"MaskedSum$Numbers", "power", "(JJ)J"⟩,
  ⟨"MaskedSum$Phone", "<init>", "(I)V"⟩,
  ⟨"MaskedSum$Phone", "begin", "()V"⟩,
  ⟨"MaskedSum$Phone", "tell", "(I)I"⟩,
  ⟨"MaskedSum$Phone", "takeAnswer", "(LMaskedSum$Message;II)Z"⟩,
  ⟨"MaskedSum$Phone", "areGood", "(IIII)Z"⟩,
  ⟨"MaskedSum$Phone", "sendNext", "(LMaskedSum$Mail;LMaskedSum$Crypto;I)Z"⟩,
  ⟨"MaskedSum$Phone", "writeKeys", "([I)V"⟩,
  ⟨"MaskedSum$Phone", "makeShares", "(LMaskedSum$Crypto;I)V"⟩,
  ⟨"MaskedSum$Phone", "writeBoxes", "([ILMaskedSum$Crypto;)V"⟩,
  ⟨"MaskedSum$Phone", "writeMasked", "([ILMaskedSum$Crypto;)V"⟩,
  ⟨"MaskedSum$Phone", "writeShares", "([ILMaskedSum$Crypto;)V"⟩,
  ⟨"MaskedSum$Phone", "giveShare", "([II)V"⟩,
  ⟨"MaskedSum$Phone", "agreed", "(II)J"⟩,
  ⟨"MaskedSum$Poly1305", "<init>", "()V"⟩,
  ⟨"MaskedSum$Poly1305", "begin", "([I)V"⟩,
  ⟨"MaskedSum$Poly1305", "addBlock", "(IIII)V"⟩,
  ⟨"MaskedSum$Poly1305", "addLimbs", "([JIIII)V"⟩,
  ⟨"MaskedSum$Poly1305", "multiply", "()V"⟩,
  ⟨"MaskedSum$Poly1305", "carry", "()V"⟩,
  ⟨"MaskedSum$Poly1305", "carryUp", "()J"⟩,
  ⟨"MaskedSum$Poly1305", "finish", "()V"⟩,
  ⟨"MaskedSum$Poly1305", "reachesPrime", "()Z"⟩,
  ⟨"MaskedSum$Poly1305", "sumWord", "(I)I"⟩,
  ⟨"MaskedSum$Server", "<init>", "()V"⟩,
  ⟨"MaskedSum$Server", "begin", "(II)V"⟩,
  ⟨"MaskedSum$Server", "isOpen", "()Z"⟩,
  ⟨"MaskedSum$Server", "tell", "(I)I"⟩,
  ⟨"MaskedSum$Server", "hear", "(LMaskedSum$Message;)Z"⟩,
  ⟨"MaskedSum$Server", "isAwaited", "(I)Z"⟩,
  ⟨"MaskedSum$Server", "rowFor", "(I)[I"⟩,
  ⟨"MaskedSum$Server", "closeStage", "(LMaskedSum$Mail;LMaskedSum$Crypto;)V"⟩,
  ⟨"MaskedSum$Server", "fail", "(I)V"⟩,
  ⟨"MaskedSum$Server", "answerAll", "(LMaskedSum$Mail;)V"⟩,
  ⟨"MaskedSum$Server", "writeKeys", "([I)V"⟩,
  ⟨"MaskedSum$Server", "writeBoxes", "([II)V"⟩,
  ⟨"MaskedSum$Server", "unmask", "(LMaskedSum$Crypto;)Z"⟩,
  ⟨"MaskedSum$Server", "lowestHolders", "(I)I"⟩,
  ⟨"MaskedSum$Server", "addMasked", "(I)V"⟩,
  ⟨"MaskedSum$Server", "takePairsOff", "(IJLMaskedSum$Crypto;)V"⟩,
  ⟨"MaskedSum$Sharing", "share", "(J[III)J"⟩,
  ⟨"MaskedSum$Sharing", "join", "([[III)J"⟩,
  ⟨"MaskedSumLaw", "start", "(LMaskedSum;II)I"⟩,
  ⟨"MaskedSumLaw", "secret", "(LMaskedSum;IIII)I"⟩,
  ⟨"MaskedSumLaw", "input", "(LMaskedSum;III)I"⟩,
  ⟨"MaskedSumLaw", "step", "(LMaskedSum;I[J)I"⟩,
  ⟨"MaskedSumLaw", "close", "(LMaskedSum;[J)I"⟩,
  ⟨"MaskedSumLaw", "deliver", "(LMaskedSum;I[J)I"⟩,
  ⟨"MaskedSumLaw", "lose", "(LMaskedSum;I)I"⟩,
  ⟨"MaskedSumLaw", "alter", "(LMaskedSum;III)I"⟩,
  ⟨"MaskedSumLaw", "message", "(LMaskedSum;II[J)I"⟩,
  ⟨"MaskedSumLaw", "total", "(LMaskedSum;I[J)I"⟩,
  ⟨"MaskedSumLaw", "phone", "(LMaskedSum;II[J)I"⟩,
  ⟨"MaskedSumLaw", "stream", "(LMaskedSum;IIIII[J)I"⟩,
  ⟨"MaskedSumLaw", "law", "([I)Z"⟩,
  ⟨"java/lang/Integer", "bitCount", "(I)I"⟩,
  ⟨"java/lang/Integer", "rotateLeft", "(II)I"⟩,
  ⟨"java/util/Arrays", "fill", "([II)V"⟩,
  ⟨"java/util/Arrays", "fill", "([JJ)V"⟩]
def ms_y (j : Nat) : MethodName := ms_ys.getD j ⟨"", "", ""⟩
def ms_ow (j : Nat) : String := (ms_y j).cls
def ms_bys : List ByteArray := [prog_1_method_1_code, prog_1_method_2_code, prog_1_method_3_code, prog_1_method_4_code, prog_1_method_5_code, prog_1_method_6_code, prog_1_method_7_code, prog_1_method_8_code, prog_1_method_9_code, prog_1_method_10_code, prog_1_method_11_code, prog_1_method_12_code, prog_1_method_13_code, prog_1_method_14_code, prog_1_method_15_code, prog_1_method_16_code, prog_12_method_1_code, prog_12_method_2_code, prog_12_method_3_code, prog_12_method_4_code, prog_12_method_5_code, prog_12_method_6_code, prog_12_method_7_code, prog_12_method_8_code, prog_12_method_9_code, prog_12_method_10_code, prog_12_method_11_code, prog_12_method_12_code, prog_12_method_13_code, prog_12_method_14_code, prog_12_method_15_code, prog_12_method_16_code, prog_12_method_17_code, prog_12_method_18_code, prog_12_method_19_code, prog_12_method_20_code, prog_12_method_21_code, prog_12_method_22_code, prog_12_method_23_code, prog_12_method_24_code, prog_12_method_25_code, prog_12_method_26_code, prog_12_method_27_code, prog_12_method_28_code, prog_12_method_29_code, prog_12_method_30_code, prog_12_method_31_code, prog_12_method_32_code, prog_12_method_33_code, prog_12_method_34_code, prog_12_method_35_code, prog_12_method_36_code, prog_12_method_37_code, prog_12_method_38_code, prog_12_method_39_code, prog_12_method_40_code, prog_12_method_41_code, prog_12_method_42_code, prog_12_method_43_code, prog_12_method_44_code, prog_12_method_45_code, prog_12_method_46_code, prog_12_method_47_code, prog_12_method_48_code, prog_12_method_49_code, prog_2_method_1_code, prog_2_method_2_code, prog_2_method_3_code, prog_3_method_1_code, prog_3_method_2_code, prog_3_method_3_code, prog_3_method_4_code, prog_3_method_5_code, prog_3_method_6_code, prog_4_method_1_code, prog_4_method_2_code, prog_4_method_3_code, prog_4_method_4_code, prog_4_method_5_code, prog_4_method_6_code, prog_4_method_7_code, prog_4_method_8_code, prog_5_method_1_code, prog_5_method_2_code, prog_6_method_2_code, prog_6_method_3_code, prog_6_method_4_code, prog_6_method_5_code, prog_6_method_6_code, prog_6_method_7_code, prog_6_method_8_code, prog_6_method_9_code, prog_7_method_1_code, prog_7_method_2_code, prog_7_method_3_code, prog_7_method_4_code, prog_7_method_5_code, prog_7_method_6_code, prog_7_method_7_code, prog_7_method_8_code, prog_7_method_9_code, prog_7_method_10_code, prog_7_method_11_code, prog_7_method_12_code, prog_7_method_13_code, prog_8_method_1_code, prog_8_method_2_code, prog_8_method_3_code, prog_8_method_4_code, prog_8_method_5_code, prog_8_method_6_code, prog_8_method_7_code, prog_8_method_8_code, prog_8_method_9_code, prog_8_method_10_code, prog_9_method_1_code, prog_9_method_2_code, prog_9_method_3_code, prog_9_method_4_code, prog_9_method_5_code, prog_9_method_6_code, prog_9_method_7_code, prog_9_method_8_code, prog_9_method_9_code, prog_9_method_10_code, prog_9_method_11_code, prog_9_method_12_code, prog_9_method_13_code, prog_9_method_14_code, prog_9_method_15_code, prog_9_method_16_code, prog_10_method_2_code, prog_10_method_3_code, method_3_code, method_4_code, method_5_code, method_6_code, method_7_code, method_8_code, method_9_code, method_10_code, method_11_code, method_12_code, method_13_code, method_14_code, code, prog_16_method_49_code, prog_16_method_50_code, prog_20_method_103_code, prog_20_method_101_code]
def ms_by (j : Nat) : ByteArray := ms_bys.getD j ⟨#[]⟩
def ms_mxs : List Nat := [2, 4, 5, 4, 2, 1, 3, 2, 4, 3, 2, 3, 2, 6, 2, 2, 1, 1, 2, 3, 6, 7, 7, 4, 2, 6, 9, 6, 10, 3, 4, 18, 4, 5, 15, 4, 1, 2, 5, 4, 7, 3, 2, 3, 4, 3, 15, 8, 10, 2, 7, 6, 2, 4, 2, 4, 3, 6, 10, 8, 3, 2, 3, 2, 6, 1, 10, 5, 1, 6, 9, 9, 10, 7, 3, 1, 2, 2, 3, 3, 3, 2, 5, 2, 4, 2, 4, 4, 4, 4, 16, 9, 2, 1, 2, 6, 5, 5, 2, 5, 5, 4, 4, 3, 3, 1, 2, 5, 9, 5, 3, 4, 4, 1, 3, 1, 3, 1, 2, 4, 2, 2, 3, 2, 5, 3, 4, 6, 5, 3, 8, 10, 11, 4, 6, 5, 4, 3, 4, 3, 5, 5, 4, 5, 8, 7, 1, 2, 4, 5]
def ms_mx (j : Nat) : Nat := ms_mxs.getD j 0
def ms_rts : List (Option FieldType) := [none, none, none, none, some (.boolean), some (.int), some (.boolean), none, none, some (.int), some (.int), some (.int), some (.int), some (.int), some (.boolean), some (.boolean), none, some (.int), some (.int), some (.boolean), some (.long), some (.long), some (.long), some (.long), some (.int), none, none, some (.int), none, none, none, none, none, some (.long), some (.long), none, some (.boolean), some (.boolean), none, none, some (.int), none, some (.boolean), some (.int), none, none, none, none, none, some (.boolean), some (.boolean), some (.boolean), some (.boolean), some (.boolean), none, none, some (.int), none, some (.boolean), some (.boolean), some (.int), some (.int), some (.int), some (.int), some (.int), none, some (.array .int), none, none, some (.array .int), none, none, some (.boolean), none, none, none, some (.boolean), some (.object "MaskedSum$Message"), some (.object "MaskedSum$Message"), some (.array .int), some (.array .int), some (.array .int), none, some (.int), some (.long), some (.long), none, some (.long), some (.long), some (.long), some (.long), some (.long), none, none, some (.int), some (.boolean), some (.boolean), some (.boolean), none, none, none, none, none, none, some (.long), none, none, none, none, none, none, some (.long), none, some (.boolean), some (.int), none, none, some (.boolean), some (.int), some (.boolean), some (.boolean), some (.array .int), none, none, none, none, none, some (.boolean), some (.int), none, none, some (.long), some (.long), some (.int), some (.int), some (.int), some (.int), some (.int), some (.int), some (.int), some (.int), some (.int), some (.int), some (.int), some (.int), some (.boolean), some (.int), some (.int), none, none]
def ms_rt (j : Nat) : Option FieldType := ms_rts.getD j none
def ms_nas : List Nat := [1, 3, 5, 4, 2, 1, 2, 2, 4, 3, 2, 3, 2, 6, 2, 2, 1, 1, 2, 3, 2, 2, 2, 2, 2, 5, 6, 5, 3, 1, 1, 8, 1, 4, 4, 3, 1, 2, 5, 4, 5, 2, 2, 1, 3, 2, 2, 2, 2, 2, 2, 2, 2, 2, 2, 4, 3, 3, 2, 1, 1, 2, 3, 2, 6, 1, 6, 5, 1, 5, 6, 6, 7, 6, 1, 1, 2, 2, 2, 3, 3, 2, 5, 2, 2, 2, 3, 1, 2, 2, 2, 2, 2, 1, 2, 4, 5, 4, 2, 3, 3, 3, 3, 3, 3, 1, 2, 5, 5, 1, 1, 1, 1, 1, 2, 1, 3, 1, 2, 2, 2, 2, 3, 2, 2, 2, 3, 2, 2, 2, 4, 4, 3, 3, 5, 4, 3, 2, 3, 2, 4, 4, 3, 4, 7, 1, 1, 2, 2, 2]
def ms_na (j : Nat) : Nat := ms_nas.getD j 0
-- what the receiver is, where the method is no static one and no constructor
def ms_rcs : List (Option Nat) := [none, some 0, some 0, some 0, some 0, some 0, some 0, some 0, some 0, some 0, some 0, some 0, some 0, some 0, some 0, none, none, some 8, some 8, none, none, none, none, none, none, some 8, some 8, some 8, none, some 8, some 8, some 8, some 8, some 8, some 8, some 8, some 8, some 8, some 8, some 8, some 8, some 8, none, none, some 8, some 8, some 8, some 8, some 8, some 8, some 8, some 8, some 8, some 8, some 8, some 8, some 8, some 8, some 8, some 8, some 8, some 8, some 8, some 8, some 8, none, some 2, some 2, none, some 1, some 1, some 1, some 1, some 1, none, some 4, some 4, some 4, some 4, some 4, some 4, some 4, none, some 5, none, none, none, none, none, none, none, none, none, some 7, some 7, some 7, some 7, some 7, some 7, some 7, some 7, some 7, some 7, some 7, some 7, none, some 3, some 3, none, some 3, some 3, some 3, some 3, some 3, some 3, none, some 6, some 6, some 6, some 6, some 6, some 6, some 6, some 6, some 6, some 6, some 6, some 6, some 6, some 6, some 6, none, none, none, none, none, none, none, none, none, none, none, none, none, none, none, none, none, none, none]
def ms_rc (j : Nat) : Option Nat := ms_rcs.getD j none
def ms_inis : List Bool := [true, false, false, false, false, false, false, false, false, false, false, false, false, false, false, false, true, false, false, false, false, false, false, false, false, false, false, false, false, false, false, false, false, false, false, false, false, false, false, false, false, false, false, false, false, false, false, false, false, false, false, false, false, false, false, false, false, false, false, false, false, false, false, false, false, true, false, false, true, false, false, false, false, false, true, false, false, false, false, false, false, false, true, false, false, false, false, false, false, false, false, false, true, false, false, false, false, false, false, false, false, false, false, false, false, true, false, false, false, false, false, false, false, false, false, true, false, false, false, false, false, false, false, false, false, false, false, false, false, false, false, false, false, false, false, false, false, false, false, false, false, false, false, false, false, false, false, false, false, false]
def ms_ini (j : Nat) : Bool := ms_inis.getD j false
def ms_frs : List Nat := [3, 6, 6, 6, 7, 7, 6, 6, 6, 6, 6, 6, 1, 6, 0, 0, 1, 0, 0, 0, 0, 1, 2, 0, 0, 1, 2, 3, 0, 1, 0, 3, 0, 3, 4, 1, 0, 1, 2, 2, 0, 0, 0, 0, 0, 3, 5, 4, 5, 6, 1, 1, 1, 2, 2, 2, 2, 1, 3, 4, 5, 1, 2, 1, 4, 1, 2, 1, 2, 3, 3, 4, 4, 3, 2, 0, 0, 0, 1, 1, 1, 0, 1, 0, 1, 2, 0, 0, 1, 1, 1, 2, 1, 0, 0, 2, 1, 6, 3, 4, 5, 4, 5, 1, 3, 1, 1, 2, 0, 1, 1, 0, 2, 0, 0, 1, 1, 0, 0, 2, 1, 0, 6, 0, 2, 1, 1, 5, 1, 0, 4, 3, 3, 7, 7, 7, 8, 8, 7, 7, 7, 7, 7, 7, 7, 9, 0, 0, 0, 0]
def ms_fr (j : Nat) : Nat := ms_frs.getD j 0
def ms_los : List Nat := [66, 82, 82, 82, 176, 176, 82, 82, 82, 82, 82, 82, 21, 99, 0, 0, 20, 0, 0, 0, 0, 25, 51, 0, 0, 21, 46, 74, 0, 29, 0, 74, 0, 77, 99, 22, 0, 22, 43, 43, 0, 0, 0, 0, 0, 77, 133, 101, 133, 167, 22, 21, 22, 48, 43, 43, 43, 26, 77, 106, 133, 22, 43, 20, 99, 20, 45, 21, 40, 74, 74, 100, 100, 74, 44, 0, 0, 0, 26, 21, 21, 0, 20, 0, 23, 46, 0, 0, 23, 23, 23, 58, 20, 0, 0, 45, 21, 152, 86, 99, 128, 108, 129, 26, 86, 20, 28, 50, 0, 26, 23, 0, 45, 0, 0, 20, 23, 0, 0, 42, 21, 0, 154, 0, 49, 26, 26, 129, 21, 0, 102, 67, 86, 105, 106, 105, 197, 196, 104, 103, 105, 104, 103, 104, 124, 220, 0, 0, 0, 0]
def ms_lo (j : Nat) : Nat := ms_los.getD j 0
def ms_sts : List Bool := [false, false, false, false, false, false, false, false, false, false, false, false, false, false, false, true, false, false, false, true, true, true, true, true, true, false, false, false, true, false, false, false, false, false, false, false, false, false, false, false, false, false, true, true, false, false, false, false, false, false, false, false, false, false, false, false, false, false, false, false, false, false, false, false, false, false, false, false, false, false, false, false, false, false, false, false, false, false, false, false, false, false, false, false, true, true, true, true, true, true, true, true, false, false, false, false, false, false, false, false, false, false, false, false, false, false, false, false, true, false, false, false, false, false, false, false, false, false, false, false, false, false, false, false, false, false, false, false, false, false, false, true, true, true, true, true, true, true, true, true, true, true, true, true, true, true, true, true, true, true]
def ms_st (j : Nat) : Bool := ms_sts.getD j false
-- the places of a method's words: its code, its owner is ready, static or not, selected
def ms_mws : List (List Nat) := [[77, 54, 76, 0], [306, 54, 304, 305], [391, 54, 389, 390], [425, 54, 423, 424], [432, 54, 430, 431], [599, 54, 597, 598], [666, 54, 664, 665], [707, 54, 705, 706], [714, 54, 712, 713], [722, 54, 720, 721], [733, 54, 731, 732], [740, 54, 738, 739], [294, 54, 292, 293], [751, 54, 749, 750], [436, 54, 435, 1], [511, 54, 510, 0], [757, 62, 756, 0], [865, 62, 863, 864], [1046, 62, 1045, 52], [872, 62, 871, 0], [917, 62, 916, 0], [914, 62, 913, 0], [911, 62, 910, 0], [888, 62, 887, 0], [955, 62, 954, 0], [952, 62, 951, 38], [944, 62, 943, 37], [940, 62, 939, 36], [964, 62, 963, 0], [968, 62, 967, 40], [973, 62, 972, 41], [959, 62, 958, 39], [978, 62, 977, 42], [932, 62, 931, 34], [936, 62, 935, 35], [869, 62, 867, 868], [881, 62, 880, 28], [885, 62, 884, 29], [877, 62, 875, 876], [895, 62, 893, 894], [907, 62, 906, 31], [1009, 62, 1008, 48], [928, 62, 927, 0], [1001, 62, 1000, 0], [921, 62, 920, 32], [903, 62, 902, 30], [925, 62, 924, 33], [982, 62, 981, 43], [986, 62, 985, 44], [899, 62, 897, 898], [998, 62, 997, 46], [1005, 62, 1004, 47], [994, 62, 993, 45], [990, 62, 988, 989], [1013, 62, 1011, 1012], [1017, 62, 1015, 1016], [1021, 62, 1019, 1020], [1038, 62, 1037, 51], [1033, 62, 1032, 50], [1029, 62, 1028, 49], [1025, 62, 1023, 1024], [1042, 62, 1040, 1041], [1050, 62, 1048, 1049], [1054, 62, 1052, 1053], [1058, 62, 1056, 1057], [91, 56, 90, 0], [477, 56, 475, 476], [489, 56, 488, 5], [85, 55, 84, 0], [473, 55, 471, 472], [580, 55, 578, 579], [520, 55, 518, 519], [592, 55, 590, 591], [524, 55, 523, 8], [136, 58, 135, 0], [372, 58, 370, 371], [670, 58, 668, 669], [678, 58, 676, 677], [674, 58, 672, 673], [444, 58, 442, 443], [622, 58, 620, 621], [448, 58, 447, 2], [145, 59, 144, 0], [726, 59, 724, 725], [413, 69, 412, 0], [498, 69, 497, 0], [465, 69, 464, 0], [418, 69, 417, 0], [502, 69, 501, 0], [646, 69, 645, 0], [459, 69, 458, 0], [456, 69, 455, 0], [233, 61, 232, 0], [383, 61, 381, 382], [744, 61, 742, 743], [683, 61, 681, 682], [687, 61, 686, 25], [440, 61, 438, 439], [452, 61, 451, 3], [469, 61, 468, 4], [507, 61, 506, 6], [575, 61, 574, 14], [584, 61, 583, 15], [588, 61, 587, 16], [515, 61, 514, 7], [105, 57, 104, 0], [528, 57, 526, 527], [543, 57, 541, 542], [536, 57, 535, 0], [548, 57, 547, 9], [553, 57, 552, 10], [557, 57, 556, 11], [561, 57, 559, 560], [565, 57, 564, 12], [570, 57, 569, 13], [186, 60, 185, 0], [376, 60, 374, 375], [395, 60, 393, 394], [298, 60, 296, 297], [692, 60, 690, 691], [696, 60, 695, 26], [700, 60, 699, 27], [603, 60, 601, 602], [613, 60, 612, 17], [617, 60, 616, 18], [626, 60, 625, 19], [631, 60, 630, 20], [635, 60, 634, 21], [639, 60, 638, 22], [652, 60, 651, 23], [657, 60, 656, 24], [495, 72, 494, 0], [642, 72, 641, 0], [301, 53, 300, 0], [386, 53, 385, 0], [421, 53, 420, 0], [428, 53, 427, 0], [595, 53, 594, 0], [662, 53, 661, 0], [703, 53, 702, 0], [710, 53, 709, 0], [718, 53, 717, 0], [729, 53, 728, 0], [736, 53, 735, 0], [747, 53, 746, 0], [0, 53, 0, 0], [606, 71, 605, 0], [492, 71, 491, 0], [379, 67, 378, 0], [531, 67, 530, 0]]
def ms_mw (j : Nat) : List Nat := ms_mws.getD j []
def ms_law : Nat := 145
-- handlers: from, to, where, kind of exception, catch type
def ms_hss : List (List (Nat × Nat × Nat × Nat × Nat)) := [[], [], [], [], [], [], [], [], [], [], [], [], [], [], [], [], [], [], [], [], [], [], [], [], [], [], [], [], [], [], [], [], [], [], [], [], [], [], [], [], [], [], [], [], [], [], [], [], [], [], [], [], [], [], [], [], [], [], [], [], [], [], [], [], [], [], [], [], [], [], [], [], [], [], [], [], [], [], [], [], [], [], [], [], [], [], [], [], [], [], [], [], [], [], [], [], [], [], [], [], [], [], [], [], [], [], [], [], [], [], [], [], [], [], [], [], [], [], [], [], [], [], [], [], [], [], [], [], [], [], [], [], [], [(0, 6, 9, 0, 13)], [(0, 9, 12, 0, 13), (0, 9, 16, 1, 19)], [(0, 7, 10, 0, 13), (0, 7, 14, 1, 19)], [(0, 16, 19, 0, 13), (0, 16, 22, 1, 19)], [(0, 8, 11, 1, 19)], [(0, 16, 19, 0, 13)], [(0, 5, 8, 0, 13)], [(0, 7, 10, 0, 13)], [(0, 10, 13, 0, 13)], [(0, 9, 12, 0, 13), (0, 9, 15, 1, 19)], [(0, 10, 13, 0, 13)], [(0, 16, 19, 0, 13)], [], [], [], [], []]
def ms_hs (j : Nat) : List (Nat × Nat × Nat × Nat × Nat) := ms_hss.getD j []
def ms_hw (k : Nat) : Nat := if k = 0 then 302 else 387
def ms_hd (j pc k : Nat) : Option Nat := ((ms_hs j).find? (fun h => decide (h.1 ≤ pc) && decide (pc < h.2.1) && h.2.2.2.1 == k)).map (fun h => h.2.2.1)
-- MaskedSum.<init>()V
def ms_c0 : List (Nat × ms_I) := [(0, .aload_n 0, 1, 0, 0, .null, []), (1, .invokespecial 1, 3, 0, 2, .null, [78]), (4, .aload_n 0, 1, 0, 0, .null, []), (5, .new 7, 3, 1, 0, .null, [81]),
  (8, .dup, 1, 0, 0, .null, []), (9, .invokespecial 9, 3, 68, 0, .null, [1, 0]), (12, .putfield 10, 3, 0, 0, .null, [278]), (15, .aload_n 0, 1, 0, 0, .null, []),
  (16, .new 16, 3, 4, 0, .null, [132]), (19, .dup, 1, 0, 0, .null, []), (20, .invokespecial 18, 3, 74, 0, .null, [0, 134]), (23, .putfield 19, 3, 0, 1, .null, [279]),
  (26, .aload_n 0, 1, 0, 0, .null, []), (27, .new 23, 3, 6, 0, .null, [182]), (30, .dup, 1, 0, 0, .null, []), (31, .invokespecial 25, 3, 115, 0, .null, [1, 5]),
  (34, .putfield 26, 3, 0, 2, .null, [280]), (37, .aload_n 0, 1, 0, 0, .null, []), (38, .bipush 8, 2, 0, 0, .int (nI 8), []), (40, .anewarray 30, 3, 4, 0, .null, [228]),
  (43, .putfield 32, 3, 0, 3, .null, [281]), (46, .iconst 0, 1, 0, 0, .int (nI 0), []), (47, .istore_n 1, 1, 0, 0, .null, []), (48, .iload_n 1, 1, 0, 0, .null, []),
  (49, .bipush 8, 2, 0, 0, .int (nI 8), []), (51, .if_icmp .ge (23), 3, 74, 0, .null, []), (54, .aload_n 0, 1, 0, 0, .null, []), (55, .getfield 32, 3, 0, 3, .null, [281]),
  (58, .iload_n 1, 1, 0, 0, .null, []), (59, .new 30, 3, 7, 0, .null, [228]), (62, .dup, 1, 0, 0, .null, []), (63, .iload_n 1, 1, 0, 0, .null, []),
  (64, .invokespecial 36, 3, 92, 0, .null, [0, 231]), (67, .aastore, 1, 0, 0, .null, []), (68, .iinc 1 (1), 3, 0, 0, .null, []), (71, .goto (-23), 3, 48, 0, .null, []),
  (74, .return_, 1, 0, 0, .null, [])]
-- MaskedSum.start(II)V
def ms_c1 : List (Nat × ms_I) := [(0, .iload_n 1, 1, 0, 0, .null, []), (1, .iconst 3, 1, 0, 0, .int (nI 3), []), (2, .if_icmp .lt (21), 3, 23, 0, .null, []), (5, .iload_n 1, 1, 0, 0, .null, []),
  (6, .bipush 8, 2, 0, 0, .int (nI 8), []), (8, .if_icmp .gt (15), 3, 23, 0, .null, []), (11, .iload_n 2, 1, 0, 0, .null, []), (12, .iload_n 1, 1, 0, 0, .null, []),
  (13, .if_icmp .gt (10), 3, 23, 0, .null, []), (16, .iload_n 2, 1, 0, 0, .null, []), (17, .iload_n 1, 1, 0, 0, .null, []), (18, .iconst 2, 1, 0, 0, .int (nI 2), []),
  (19, .idiv, 1, 0, 0, .null, []), (20, .if_icmp .gt (11), 3, 31, 0, .null, []), (23, .new 39, 3, 0, 1, .null, [307, 41]), (31, .aload_n 0, 1, 0, 0, .null, []),
  (32, .getfield 19, 3, 0, 1, .null, [279]), (35, .invokevirtual 42, 3, 75, 0, .null, [0, 369]), (38, .aload_n 0, 1, 0, 0, .null, []), (39, .getfield 26, 3, 0, 2, .null, [280]),
  (42, .iload_n 1, 1, 0, 0, .null, []), (43, .iload_n 2, 1, 0, 0, .null, []), (44, .invokevirtual 45, 3, 116, 0, .null, [0, 373]), (47, .iconst 0, 1, 0, 0, .int (nI 0), []),
  (48, .istore_n 3, 1, 0, 0, .null, []), (49, .iload_n 3, 1, 0, 0, .null, []), (50, .bipush 8, 2, 0, 0, .int (nI 8), []), (52, .if_icmp .ge (18), 3, 70, 0, .null, []),
  (55, .aload_n 0, 1, 0, 0, .null, []), (56, .getfield 32, 3, 0, 3, .null, [281]), (59, .iload_n 3, 1, 0, 0, .null, []), (60, .aaload, 1, 0, 0, .null, []),
  (61, .invokevirtual 49, 3, 93, 0, .null, [0, 380]), (64, .iinc 3 (1), 3, 0, 0, .null, []), (67, .goto (-18), 3, 49, 0, .null, []), (70, .return_, 1, 0, 0, .null, [])]
-- MaskedSum.secret(IIII)V
def ms_c2 : List (Nat × ms_I) := [(0, .iload_n 1, 1, 0, 0, .null, []), (1, .ifCond .lt (18), 3, 19, 0, .null, []), (4, .iload_n 1, 1, 0, 0, .null, []), (5, .bipush 8, 2, 0, 0, .int (nI 8), []),
  (7, .if_icmp .ge (12), 3, 19, 0, .null, []), (10, .iload_n 2, 1, 0, 0, .null, []), (11, .ifCond .lt (8), 3, 19, 0, .null, []), (14, .iload_n 2, 1, 0, 0, .null, []),
  (15, .iconst 3, 1, 0, 0, .int (nI 3), []), (16, .if_icmp .lt (11), 3, 27, 0, .null, []), (19, .new 39, 3, 0, 1, .null, [307, 41]), (27, .aload_n 0, 1, 0, 0, .null, []),
  (28, .getfield 26, 3, 0, 2, .null, [280]), (31, .invokevirtual 51, 3, 117, 0, .null, [0, 392]), (34, .ifCond .eq (23), 3, 57, 0, .null, []), (37, .aload_n 0, 1, 0, 0, .null, []),
  (38, .getfield 32, 3, 0, 3, .null, [281]), (41, .iload_n 1, 1, 0, 0, .null, []), (42, .aaload, 1, 0, 0, .null, []), (43, .getfield 55, 3, 7, 9, .null, [247]),
  (46, .ifCond .le (11), 3, 57, 0, .null, []), (49, .new 59, 3, 1, 1, .null, [396, 61]), (57, .aload_n 0, 1, 0, 0, .null, []), (58, .getfield 32, 3, 0, 3, .null, [281]),
  (61, .iload_n 1, 1, 0, 0, .null, []), (62, .aaload, 1, 0, 0, .null, []), (63, .getfield 62, 3, 7, 1, .null, [237]), (66, .iload_n 2, 1, 0, 0, .null, []),
  (67, .iload_n 3, 1, 0, 0, .null, []), (68, .iload 4, 2, 0, 0, .null, []), (70, .invokestatic 66, 3, 84, 0, .null, [0, 411]), (73, .lastore, 1, 0, 0, .null, []),
  (74, .return_, 1, 0, 0, .null, [])]
-- MaskedSum.input(III)V
def ms_c3 : List (Nat × ms_I) := [(0, .iload_n 1, 1, 0, 0, .null, []), (1, .ifCond .lt (18), 3, 19, 0, .null, []), (4, .iload_n 1, 1, 0, 0, .null, []), (5, .bipush 8, 2, 0, 0, .int (nI 8), []),
  (7, .if_icmp .ge (12), 3, 19, 0, .null, []), (10, .iload_n 2, 1, 0, 0, .null, []), (11, .ifCond .lt (8), 3, 19, 0, .null, []), (14, .iload_n 2, 1, 0, 0, .null, []),
  (15, .iconst 4, 1, 0, 0, .int (nI 4), []), (16, .if_icmp .lt (11), 3, 27, 0, .null, []), (19, .new 39, 3, 0, 1, .null, [307, 41]), (27, .aload_n 0, 1, 0, 0, .null, []),
  (28, .getfield 26, 3, 0, 2, .null, [280]), (31, .invokevirtual 51, 3, 117, 0, .null, [0, 392]), (34, .ifCond .eq (24), 3, 58, 0, .null, []), (37, .aload_n 0, 1, 0, 0, .null, []),
  (38, .getfield 32, 3, 0, 3, .null, [281]), (41, .iload_n 1, 1, 0, 0, .null, []), (42, .aaload, 1, 0, 0, .null, []), (43, .getfield 55, 3, 7, 9, .null, [247]),
  (46, .iconst 2, 1, 0, 0, .int (nI 2), []), (47, .if_icmp .le (11), 3, 58, 0, .null, []), (50, .new 59, 3, 1, 1, .null, [396, 61]), (58, .aload_n 0, 1, 0, 0, .null, []),
  (59, .getfield 32, 3, 0, 3, .null, [281]), (62, .iload_n 1, 1, 0, 0, .null, []), (63, .aaload, 1, 0, 0, .null, []), (64, .getfield 72, 3, 7, 2, .null, [239]),
  (67, .iload_n 2, 1, 0, 0, .null, []), (68, .iload_n 3, 1, 0, 0, .null, []), (69, .iastore, 1, 0, 0, .null, []), (70, .return_, 1, 0, 0, .null, [])]
-- MaskedSum.step(I)Z
def ms_c4 : List (Nat × ms_I) := [(0, .aload_n 0, 1, 0, 0, .null, []), (1, .iload_n 1, 1, 0, 0, .null, []), (2, .invokevirtual 76, 3, 14, 0, .null, [0, 433]), (5, .ifCond .ne (11), 3, 16, 0, .null, []),
  (8, .new 39, 3, 0, 1, .null, [307, 41]), (16, .aload_n 0, 1, 0, 0, .null, []), (17, .getfield 26, 3, 0, 2, .null, [280]), (20, .invokevirtual 51, 3, 117, 0, .null, [0, 392]),
  (23, .ifCond .ne (11), 3, 34, 0, .null, []), (26, .new 59, 3, 1, 1, .null, [396, 61]), (34, .aload_n 0, 1, 0, 0, .null, []), (35, .getfield 32, 3, 0, 3, .null, [281]),
  (38, .iload_n 1, 1, 0, 0, .null, []), (39, .aaload, 1, 0, 0, .null, []), (40, .aload_n 0, 1, 0, 0, .null, []), (41, .getfield 19, 3, 0, 1, .null, [279]),
  (44, .aload_n 0, 1, 0, 0, .null, []), (45, .getfield 10, 3, 0, 0, .null, [278]), (48, .aload_n 0, 1, 0, 0, .null, []), (49, .getfield 26, 3, 0, 2, .null, [280]),
  (52, .getfield 80, 3, 6, 1, .null, [193]), (55, .invokevirtual 83, 3, 97, 0, .null, [0, 437]), (58, .ireturn, 1, 0, 0, .null, [])]
-- MaskedSum.close()I
def ms_c5 : List (Nat × ms_I) := [(0, .aload_n 0, 1, 0, 0, .null, []), (1, .getfield 26, 3, 0, 2, .null, [280]), (4, .invokevirtual 51, 3, 117, 0, .null, [0, 392]), (7, .ifCond .ne (11), 3, 18, 0, .null, []),
  (10, .new 59, 3, 1, 1, .null, [396, 61]), (18, .aload_n 0, 1, 0, 0, .null, []), (19, .getfield 26, 3, 0, 2, .null, [280]), (22, .aload_n 0, 1, 0, 0, .null, []),
  (23, .getfield 19, 3, 0, 1, .null, [279]), (26, .aload_n 0, 1, 0, 0, .null, []), (27, .getfield 10, 3, 0, 0, .null, [278]), (30, .invokevirtual 87, 3, 122, 0, .null, [0, 600]),
  (33, .aload_n 0, 1, 0, 0, .null, []), (34, .getfield 26, 3, 0, 2, .null, [280]), (37, .getfield 91, 3, 6, 2, .null, [195]), (40, .ireturn, 1, 0, 0, .null, [])]
-- MaskedSum.deliver(I)Z
def ms_c6 : List (Nat × ms_I) := [(0, .aload_n 0, 1, 0, 0, .null, []), (1, .getfield 19, 3, 0, 1, .null, [279]), (4, .iload_n 1, 1, 0, 0, .null, []), (5, .invokevirtual 94, 3, 76, 0, .null, [0, 667]),
  (8, .ifCond .ne (11), 3, 19, 0, .null, []), (11, .new 39, 3, 0, 1, .null, [307, 41]), (19, .aload_n 0, 1, 0, 0, .null, []), (20, .getfield 19, 3, 0, 1, .null, [279]),
  (23, .iload_n 1, 1, 0, 0, .null, []), (24, .invokevirtual 97, 3, 78, 0, .null, [0, 671]), (27, .astore_n 2, 1, 0, 0, .null, []), (28, .aload_n 2, 1, 0, 0, .null, []),
  (29, .getfield 101, 3, 5, 2, .null, [154]), (32, .ifCond .eq (31), 3, 63, 0, .null, []), (35, .aload_n 0, 1, 0, 0, .null, []), (36, .getfield 32, 3, 0, 3, .null, [281]),
  (39, .aload_n 2, 1, 0, 0, .null, []), (40, .getfield 107, 3, 5, 1, .null, [152]), (43, .aaload, 1, 0, 0, .null, []), (44, .aload_n 2, 1, 0, 0, .null, []),
  (45, .aload_n 0, 1, 0, 0, .null, []), (46, .getfield 26, 3, 0, 2, .null, [280]), (49, .getfield 110, 3, 6, 0, .null, [191]), (52, .aload_n 0, 1, 0, 0, .null, []),
  (53, .getfield 26, 3, 0, 2, .null, [280]), (56, .getfield 80, 3, 6, 1, .null, [193]), (59, .invokevirtual 113, 3, 95, 0, .null, [0, 680]), (62, .ireturn, 1, 0, 0, .null, []),
  (63, .aload_n 0, 1, 0, 0, .null, []), (64, .getfield 26, 3, 0, 2, .null, [280]), (67, .aload_n 2, 1, 0, 0, .null, []), (68, .invokevirtual 117, 3, 119, 0, .null, [0, 689]),
  (71, .ireturn, 1, 0, 0, .null, [])]
-- MaskedSum.lose(I)V
def ms_c7 : List (Nat × ms_I) := [(0, .aload_n 0, 1, 0, 0, .null, []), (1, .getfield 19, 3, 0, 1, .null, [279]), (4, .iload_n 1, 1, 0, 0, .null, []), (5, .invokevirtual 94, 3, 76, 0, .null, [0, 667]),
  (8, .ifCond .ne (11), 3, 19, 0, .null, []), (11, .new 39, 3, 0, 1, .null, [307, 41]), (19, .aload_n 0, 1, 0, 0, .null, []), (20, .getfield 19, 3, 0, 1, .null, [279]),
  (23, .iload_n 1, 1, 0, 0, .null, []), (24, .invokevirtual 97, 3, 78, 0, .null, [0, 671]), (27, .pop, 1, 0, 0, .null, []), (28, .return_, 1, 0, 0, .null, [])]
-- MaskedSum.alter(III)V
def ms_c8 : List (Nat × ms_I) := [(0, .aload_n 0, 1, 0, 0, .null, []), (1, .getfield 19, 3, 0, 1, .null, [279]), (4, .iload_n 1, 1, 0, 0, .null, []), (5, .invokevirtual 94, 3, 76, 0, .null, [0, 667]),
  (8, .ifCond .eq (23), 3, 31, 0, .null, []), (11, .iload_n 2, 1, 0, 0, .null, []), (12, .ifCond .lt (19), 3, 31, 0, .null, []), (15, .iload_n 2, 1, 0, 0, .null, []),
  (16, .aload_n 0, 1, 0, 0, .null, []), (17, .getfield 19, 3, 0, 1, .null, [279]), (20, .iload_n 1, 1, 0, 0, .null, []), (21, .invokevirtual 121, 3, 77, 0, .null, [0, 715]),
  (24, .getfield 124, 3, 5, 3, .null, [159]), (27, .arraylength, 1, 0, 0, .null, []), (28, .if_icmp .lt (11), 3, 39, 0, .null, []), (31, .new 39, 3, 0, 1, .null, [307, 41]),
  (39, .aload_n 0, 1, 0, 0, .null, []), (40, .getfield 19, 3, 0, 1, .null, [279]), (43, .iload_n 1, 1, 0, 0, .null, []), (44, .invokevirtual 121, 3, 77, 0, .null, [0, 715]),
  (47, .getfield 124, 3, 5, 3, .null, [159]), (50, .iload_n 2, 1, 0, 0, .null, []), (51, .dup2, 1, 0, 0, .null, []), (52, .iaload, 1, 0, 0, .null, []),
  (53, .iload_n 3, 1, 0, 0, .null, []), (54, .ixor, 1, 0, 0, .null, []), (55, .iastore, 1, 0, 0, .null, []), (56, .return_, 1, 0, 0, .null, [])]
-- MaskedSum.message(II)I
def ms_c9 : List (Nat × ms_I) := [(0, .aload_n 0, 1, 0, 0, .null, []), (1, .getfield 19, 3, 0, 1, .null, [279]), (4, .iload_n 1, 1, 0, 0, .null, []), (5, .invokevirtual 94, 3, 76, 0, .null, [0, 667]),
  (8, .ifCond .eq (25), 3, 33, 0, .null, []), (11, .iload_n 2, 1, 0, 0, .null, []), (12, .ifCond .lt (21), 3, 33, 0, .null, []), (15, .iload_n 2, 1, 0, 0, .null, []),
  (16, .iconst 4, 1, 0, 0, .int (nI 4), []), (17, .aload_n 0, 1, 0, 0, .null, []), (18, .getfield 19, 3, 0, 1, .null, [279]), (21, .iload_n 1, 1, 0, 0, .null, []),
  (22, .invokevirtual 121, 3, 77, 0, .null, [0, 715]), (25, .getfield 124, 3, 5, 3, .null, [159]), (28, .arraylength, 1, 0, 0, .null, []), (29, .iadd, 1, 0, 0, .null, []),
  (30, .if_icmp .lt (11), 3, 41, 0, .null, []), (33, .new 39, 3, 0, 1, .null, [307, 41]), (41, .aload_n 0, 1, 0, 0, .null, []), (42, .getfield 19, 3, 0, 1, .null, [279]),
  (45, .iload_n 1, 1, 0, 0, .null, []), (46, .invokevirtual 121, 3, 77, 0, .null, [0, 715]), (49, .iload_n 2, 1, 0, 0, .null, []), (50, .invokevirtual 127, 3, 83, 0, .null, [0, 723]),
  (53, .ireturn, 1, 0, 0, .null, [])]
-- MaskedSum.total(I)I
def ms_c10 : List (Nat × ms_I) := [(0, .iload_n 1, 1, 0, 0, .null, []), (1, .ifCond .lt (8), 3, 9, 0, .null, []), (4, .iload_n 1, 1, 0, 0, .null, []), (5, .iconst 4, 1, 0, 0, .int (nI 4), []),
  (6, .if_icmp .lt (11), 3, 17, 0, .null, []), (9, .new 39, 3, 0, 1, .null, [307, 41]), (17, .aload_n 0, 1, 0, 0, .null, []), (18, .getfield 26, 3, 0, 2, .null, [280]),
  (21, .getfield 91, 3, 6, 2, .null, [195]), (24, .iconst 4, 1, 0, 0, .int (nI 4), []), (25, .if_icmp .eq (11), 3, 36, 0, .null, []), (28, .new 59, 3, 1, 1, .null, [396, 61]),
  (36, .aload_n 0, 1, 0, 0, .null, []), (37, .getfield 26, 3, 0, 2, .null, [280]), (40, .getfield 131, 3, 6, 10, .null, [204]), (43, .iload_n 1, 1, 0, 0, .null, []),
  (44, .iaload, 1, 0, 0, .null, []), (45, .ireturn, 1, 0, 0, .null, [])]
-- MaskedSum.phone(II)I
def ms_c11 : List (Nat × ms_I) := [(0, .aload_n 0, 1, 0, 0, .null, []), (1, .iload_n 1, 1, 0, 0, .null, []), (2, .invokevirtual 76, 3, 14, 0, .null, [0, 433]), (5, .ifCond .eq (12), 3, 17, 0, .null, []),
  (8, .iload_n 2, 1, 0, 0, .null, []), (9, .ifCond .lt (8), 3, 17, 0, .null, []), (12, .iload_n 2, 1, 0, 0, .null, []), (13, .iconst 3, 1, 0, 0, .int (nI 3), []),
  (14, .if_icmp .le (11), 3, 25, 0, .null, []), (17, .new 39, 3, 0, 1, .null, [307, 41]), (25, .aload_n 0, 1, 0, 0, .null, []), (26, .getfield 32, 3, 0, 3, .null, [281]),
  (29, .iload_n 1, 1, 0, 0, .null, []), (30, .aaload, 1, 0, 0, .null, []), (31, .iload_n 2, 1, 0, 0, .null, []), (32, .invokevirtual 134, 3, 94, 0, .null, [0, 741]),
  (35, .ireturn, 1, 0, 0, .null, [])]
-- MaskedSum.count(I)I
def ms_c12 : List (Nat × ms_I) := [(0, .iload_n 1, 1, 0, 0, .null, []), (1, .ifCond .ne (13), 3, 14, 0, .null, []), (4, .aload_n 0, 1, 0, 0, .null, []), (5, .getfield 19, 3, 0, 1, .null, [279]),
  (8, .getfield 135, 3, 4, 2, .null, [174]), (11, .goto (11), 3, 22, 0, .null, []), (14, .aload_n 0, 1, 0, 0, .null, []), (15, .getfield 26, 3, 0, 2, .null, [280]),
  (18, .iload_n 1, 1, 0, 0, .null, []), (19, .invokevirtual 136, 3, 118, 0, .null, [0, 295]), (22, .ireturn, 1, 0, 0, .null, [])]
-- MaskedSum.stream(IIIII)I
def ms_c13 : List (Nat × ms_I) := [(0, .iload 5, 2, 0, 0, .null, []), (2, .ifCond .lt (10), 3, 12, 0, .null, []), (5, .iload 5, 2, 0, 0, .null, []), (7, .bipush 64, 2, 0, 0, .int (nI 64), []),
  (9, .if_icmp .lt (11), 3, 20, 0, .null, []), (12, .new 39, 3, 0, 1, .null, [307, 41]), (20, .aload_n 0, 1, 0, 0, .null, []), (21, .getfield 10, 3, 0, 0, .null, [278]),
  (24, .iload_n 1, 1, 0, 0, .null, []), (25, .iload_n 2, 1, 0, 0, .null, []), (26, .invokestatic 66, 3, 84, 0, .null, [0, 411]), (29, .iload_n 3, 1, 0, 0, .null, []),
  (30, .iload 4, 2, 0, 0, .null, []), (32, .iload 5, 2, 0, 0, .null, []), (34, .bipush 16, 2, 0, 0, .int (nI 16), []), (36, .idiv, 1, 0, 0, .null, []),
  (37, .invokevirtual 137, 3, 69, 0, .null, [0, 752]), (40, .iload 5, 2, 0, 0, .null, []), (42, .bipush 16, 2, 0, 0, .int (nI 16), []), (44, .irem, 1, 0, 0, .null, []),
  (45, .iaload, 1, 0, 0, .null, []), (46, .ireturn, 1, 0, 0, .null, [])]
-- MaskedSum.isInRound(I)Z
def ms_c14 : List (Nat × ms_I) := [(0, .iload_n 1, 1, 0, 0, .null, []), (1, .ifCond .lt (18), 3, 19, 0, .null, []), (4, .iload_n 1, 1, 0, 0, .null, []), (5, .aload_n 0, 1, 0, 0, .null, []),
  (6, .getfield 26, 3, 0, 2, .null, [280]), (9, .getfield 110, 3, 6, 0, .null, [191]), (12, .if_icmp .ge (7), 3, 19, 0, .null, []), (15, .iconst 1, 1, 0, 0, .int (nI 1), []),
  (16, .goto (4), 3, 20, 0, .null, []), (19, .iconst 0, 1, 0, 0, .int (nI 0), []), (20, .ireturn, 1, 0, 0, .null, [])]
-- MaskedSum.isNamed(II)Z
def ms_c15 : List (Nat × ms_I) := [(0, .iload_n 0, 1, 0, 0, .null, []), (1, .iload_n 1, 1, 0, 0, .null, []), (2, .iushr, 1, 0, 0, .null, []), (3, .iconst 1, 1, 0, 0, .int (nI 1), []),
  (4, .iand, 1, 0, 0, .null, []), (5, .ifCond .eq (7), 3, 12, 0, .null, []), (8, .iconst 1, 1, 0, 0, .int (nI 1), []), (9, .goto (4), 3, 13, 0, .null, []),
  (12, .iconst 0, 1, 0, 0, .int (nI 0), []), (13, .ireturn, 1, 0, 0, .null, [])]
-- MaskedSumModel.<init>()V
def ms_c16 : List (Nat × ms_I) := [(0, .aload_n 0, 1, 0, 0, .null, []), (1, .invokespecial 1, 3, 0, 2, .null, [758]), (4, .aload_n 0, 1, 0, 0, .null, []), (5, .iconst 5, 1, 0, 0, .int (nI 5), []),
  (6, .putfield 7, 3, 8, 3, .null, [762]), (9, .aload_n 0, 1, 0, 0, .null, []), (10, .bipush 24, 2, 0, 0, .int (nI 24), []), (12, .newarray .long, 2, 1, 0, .null, []),
  (14, .putfield 13, 3, 8, 5, .null, [764]), (17, .aload_n 0, 1, 0, 0, .null, []), (18, .bipush 32, 2, 0, 0, .int (nI 32), []), (20, .newarray .int, 2, 0, 0, .null, []),
  (22, .putfield 17, 3, 8, 6, .null, [765]), (25, .aload_n 0, 1, 0, 0, .null, []), (26, .bipush 8, 2, 0, 0, .int (nI 8), []), (28, .newarray .int, 2, 0, 0, .null, []),
  (30, .putfield 21, 3, 8, 7, .null, [766]), (33, .aload_n 0, 1, 0, 0, .null, []), (34, .bipush 8, 2, 0, 0, .int (nI 8), []), (36, .newarray .int, 2, 0, 0, .null, []),
  (38, .putfield 24, 3, 8, 8, .null, [767]), (41, .aload_n 0, 1, 0, 0, .null, []), (42, .bipush 8, 2, 0, 0, .int (nI 8), []), (44, .newarray .int, 2, 0, 0, .null, []),
  (46, .putfield 27, 3, 8, 9, .null, [768]), (49, .aload_n 0, 1, 0, 0, .null, []), (50, .bipush 8, 2, 0, 0, .int (nI 8), []), (52, .newarray .int, 2, 0, 0, .null, []),
  (54, .putfield 30, 3, 8, 10, .null, [769]), (57, .aload_n 0, 1, 0, 0, .null, []), (58, .bipush 24, 2, 0, 0, .int (nI 24), []), (60, .newarray .int, 2, 0, 0, .null, []),
  (62, .putfield 33, 3, 8, 11, .null, [770]), (65, .aload_n 0, 1, 0, 0, .null, []), (66, .sipush 256, 3, 0, 0, .int (nI 256), []), (69, .newarray .int, 2, 0, 0, .null, []),
  (71, .putfield 36, 3, 8, 12, .null, [771]), (74, .aload_n 0, 1, 0, 0, .null, []), (75, .sipush 512, 3, 0, 0, .int (nI 512), []), (78, .newarray .int, 2, 0, 0, .null, []),
  (80, .putfield 39, 3, 8, 13, .null, [772]), (83, .aload_n 0, 1, 0, 0, .null, []), (84, .iconst 4, 1, 0, 0, .int (nI 4), []), (85, .newarray .int, 2, 0, 0, .null, []),
  (87, .putfield 42, 3, 8, 14, .null, [773]), (90, .aload_n 0, 1, 0, 0, .null, []), (91, .iconst 4, 1, 0, 0, .int (nI 4), []), (92, .newarray .int, 2, 0, 0, .null, []),
  (94, .putfield 45, 3, 8, 15, .null, [774]), (97, .aload_n 0, 1, 0, 0, .null, []), (98, .bipush 32, 2, 0, 0, .int (nI 32), []), (100, .newarray .int, 2, 0, 0, .null, []),
  (102, .putfield 48, 3, 8, 16, .null, [775]), (105, .aload_n 0, 1, 0, 0, .null, []), (106, .sipush 512, 3, 0, 0, .int (nI 512), []), (109, .newarray .int, 2, 0, 0, .null, []),
  (111, .putfield 51, 3, 8, 17, .null, [776]), (114, .aload_n 0, 1, 0, 0, .null, []), (115, .bipush 32, 2, 0, 0, .int (nI 32), []), (117, .newarray .int, 2, 0, 0, .null, []),
  (119, .putfield 54, 3, 8, 18, .null, [777]), (122, .aload_n 0, 1, 0, 0, .null, []), (123, .sipush 136, 3, 0, 0, .int (nI 136), []), (126, .newarray .int, 2, 0, 0, .null, []),
  (128, .putfield 57, 3, 8, 19, .null, [778]), (131, .aload_n 0, 1, 0, 0, .null, []), (132, .sipush 4480, 3, 0, 0, .int (nI 4480), []), (135, .newarray .int, 2, 0, 0, .null, []),
  (137, .putfield 60, 3, 8, 21, .null, [780]), (140, .aload_n 0, 1, 0, 0, .null, []), (141, .iconst 4, 1, 0, 0, .int (nI 4), []), (142, .newarray .int, 2, 0, 0, .null, []),
  (144, .putfield 63, 3, 8, 22, .null, [781]), (147, .aload_n 0, 1, 0, 0, .null, []), (148, .bipush 16, 2, 0, 0, .int (nI 16), []), (150, .newarray .int, 2, 0, 0, .null, []),
  (152, .putfield 66, 3, 8, 24, .null, [783]), (155, .aload_n 0, 1, 0, 0, .null, []), (156, .bipush 16, 2, 0, 0, .int (nI 16), []), (158, .newarray .int, 2, 0, 0, .null, []),
  (160, .putfield 69, 3, 8, 25, .null, [784]), (163, .aload_n 0, 1, 0, 0, .null, []), (164, .bipush 10, 2, 0, 0, .int (nI 10), []), (166, .newarray .long, 2, 1, 0, .null, []),
  (168, .putfield 72, 3, 8, 26, .null, [785]), (171, .aload_n 0, 1, 0, 0, .null, []), (172, .bipush 10, 2, 0, 0, .int (nI 10), []), (174, .newarray .long, 2, 1, 0, .null, []),
  (176, .putfield 75, 3, 8, 27, .null, [786]), (179, .aload_n 0, 1, 0, 0, .null, []), (180, .bipush 20, 2, 0, 0, .int (nI 20), []), (182, .newarray .long, 2, 1, 0, .null, []),
  (184, .putfield 78, 3, 8, 28, .null, [787]), (187, .aload_n 0, 1, 0, 0, .null, []), (188, .iconst 5, 1, 0, 0, .int (nI 5), []), (189, .newarray .int, 2, 0, 0, .null, []),
  (191, .putfield 81, 3, 8, 29, .null, [788]), (194, .aload_n 0, 1, 0, 0, .null, []), (195, .iconst 4, 1, 0, 0, .int (nI 4), []), (196, .newarray .int, 2, 0, 0, .null, []),
  (198, .putfield 84, 3, 8, 30, .null, [789]), (201, .aload_n 0, 1, 0, 0, .null, []), (202, .bipush 10, 2, 0, 0, .int (nI 10), []), (204, .newarray .long, 2, 1, 0, .null, []),
  (206, .putfield 87, 3, 8, 31, .null, [790]), (209, .return_, 1, 0, 0, .null, [])]
-- MaskedSumModel.thrown()I
def ms_c17 : List (Nat × ms_I) := [(0, .aload_n 0, 1, 0, 0, .null, []), (1, .getfield 90, 3, 8, 0, .null, [759]), (4, .ireturn, 1, 0, 0, .null, [])]
-- MaskedSumModel.raise(I)I
def ms_c18 : List (Nat × ms_I) := [(0, .aload_n 0, 1, 0, 0, .null, []), (1, .iload_n 1, 1, 0, 0, .null, []), (2, .putfield 90, 3, 8, 0, .null, [759]), (5, .iconst 0, 1, 0, 0, .int (nI 0), []),
  (6, .ireturn, 1, 0, 0, .null, [])]
-- MaskedSumModel.in(III)Z
def ms_c19 : List (Nat × ms_I) := [(0, .iload_n 0, 1, 0, 0, .null, []), (1, .iload_n 1, 1, 0, 0, .null, []), (2, .if_icmp .lt (12), 3, 14, 0, .null, []), (5, .iload_n 0, 1, 0, 0, .null, []),
  (6, .iload_n 2, 1, 0, 0, .null, []), (7, .if_icmp .gt (7), 3, 14, 0, .null, []), (10, .iconst 1, 1, 0, 0, .int (nI 1), []), (11, .goto (4), 3, 15, 0, .null, []),
  (14, .iconst 0, 1, 0, 0, .int (nI 0), []), (15, .ireturn, 1, 0, 0, .null, [])]
-- MaskedSumModel.plus(JJ)J
def ms_c20 : List (Nat × ms_I) := [(0, .lload_n 0, 1, 0, 0, .null, []), (1, .lload_n 2, 1, 0, 0, .null, []), (2, .ladd, 1, 0, 0, .null, []), (3, .lstore 4, 2, 0, 0, .null, []),
  (5, .lload 4, 2, 0, 0, .null, []), (7, .ldc2_w 93, 3, 891, 0, .long (lN 2305843009213693951), []), (10, .lcmp, 1, 0, 0, .null, []), (11, .ifCond .lt (12), 3, 23, 0, .null, []),
  (14, .lload 4, 2, 0, 0, .null, []), (16, .ldc2_w 93, 3, 891, 0, .long (lN 2305843009213693951), []), (19, .lsub, 1, 0, 0, .null, []), (20, .goto (5), 3, 25, 0, .null, []),
  (23, .lload 4, 2, 0, 0, .null, []), (25, .lreturn, 1, 0, 0, .null, [])]
-- MaskedSumModel.times(JJ)J
def ms_c21 : List (Nat × ms_I) := [(0, .lconst 0, 1, 0, 0, .long (lN 0), []), (1, .lstore 4, 2, 0, 0, .null, []), (3, .bipush 60, 2, 0, 0, .int (nI 60), []), (5, .istore 6, 2, 0, 0, .null, []),
  (7, .iload 6, 2, 0, 0, .null, []), (9, .ifCond .lt (37), 3, 46, 0, .null, []), (12, .lload 4, 2, 0, 0, .null, []), (14, .lload 4, 2, 0, 0, .null, []),
  (16, .invokestatic 95, 3, 20, 0, .null, [0, 915]), (19, .lstore 4, 2, 0, 0, .null, []), (21, .lload_n 2, 1, 0, 0, .null, []), (22, .iload 6, 2, 0, 0, .null, []),
  (24, .lshr, 1, 0, 0, .null, []), (25, .lconst 1, 1, 0, 0, .long (lN 1), []), (26, .land, 1, 0, 0, .null, []), (27, .lconst 1, 1, 0, 0, .long (lN 1), []),
  (28, .lcmp, 1, 0, 0, .null, []), (29, .ifCond .ne (11), 3, 40, 0, .null, []), (32, .lload 4, 2, 0, 0, .null, []), (34, .lload_n 0, 1, 0, 0, .null, []),
  (35, .invokestatic 95, 3, 20, 0, .null, [0, 915]), (38, .lstore 4, 2, 0, 0, .null, []), (40, .iinc 6 (-1), 3, 0, 0, .null, []), (43, .goto (-36), 3, 7, 0, .null, []),
  (46, .lload 4, 2, 0, 0, .null, []), (48, .lreturn, 1, 0, 0, .null, [])]
-- MaskedSumModel.power(JJ)J
def ms_c22 : List (Nat × ms_I) := [(0, .lconst 1, 1, 0, 0, .long (lN 1), []), (1, .lstore 4, 2, 0, 0, .null, []), (3, .bipush 60, 2, 0, 0, .int (nI 60), []), (5, .istore 6, 2, 0, 0, .null, []),
  (7, .iload 6, 2, 0, 0, .null, []), (9, .ifCond .lt (37), 3, 46, 0, .null, []), (12, .lload 4, 2, 0, 0, .null, []), (14, .lload 4, 2, 0, 0, .null, []),
  (16, .invokestatic 99, 3, 21, 0, .null, [0, 912]), (19, .lstore 4, 2, 0, 0, .null, []), (21, .lload_n 2, 1, 0, 0, .null, []), (22, .iload 6, 2, 0, 0, .null, []),
  (24, .lshr, 1, 0, 0, .null, []), (25, .lconst 1, 1, 0, 0, .long (lN 1), []), (26, .land, 1, 0, 0, .null, []), (27, .lconst 1, 1, 0, 0, .long (lN 1), []),
  (28, .lcmp, 1, 0, 0, .null, []), (29, .ifCond .ne (11), 3, 40, 0, .null, []), (32, .lload 4, 2, 0, 0, .null, []), (34, .lload_n 0, 1, 0, 0, .null, []),
  (35, .invokestatic 99, 3, 21, 0, .null, [0, 912]), (38, .lstore 4, 2, 0, 0, .null, []), (40, .iinc 6 (-1), 3, 0, 0, .null, []), (43, .goto (-36), 3, 7, 0, .null, []),
  (46, .lload 4, 2, 0, 0, .null, []), (48, .lreturn, 1, 0, 0, .null, [])]
-- MaskedSumModel.number(II)J
def ms_c23 : List (Nat × ms_I) := [(0, .iload_n 1, 1, 0, 0, .null, []), (1, .ldc 102, 2, 889, 0, .int (nI 536870911), []), (3, .iand, 1, 0, 0, .null, []), (4, .i2l, 1, 0, 0, .null, []),
  (5, .bipush 32, 2, 0, 0, .int (nI 32), []), (7, .lshl, 1, 0, 0, .null, []), (8, .iload_n 0, 1, 0, 0, .null, []), (9, .i2l, 1, 0, 0, .null, []),
  (10, .ldc2_w 103, 3, 890, 0, .long (lN 4294967295), []), (13, .land, 1, 0, 0, .null, []), (14, .lor, 1, 0, 0, .null, []), (15, .lstore_n 2, 1, 0, 0, .null, []),
  (16, .lload_n 2, 1, 0, 0, .null, []), (17, .ldc2_w 93, 3, 891, 0, .long (lN 2305843009213693951), []), (20, .lcmp, 1, 0, 0, .null, []), (21, .ifCond .ne (7), 3, 28, 0, .null, []),
  (24, .lconst 0, 1, 0, 0, .long (lN 0), []), (25, .goto (4), 3, 29, 0, .null, []), (28, .lload_n 2, 1, 0, 0, .null, []), (29, .lreturn, 1, 0, 0, .null, [])]
-- MaskedSumModel.turn(II)I
def ms_c24 : List (Nat × ms_I) := [(0, .iload_n 0, 1, 0, 0, .null, []), (1, .iload_n 1, 1, 0, 0, .null, []), (2, .ishl, 1, 0, 0, .null, []), (3, .iload_n 0, 1, 0, 0, .null, []),
  (4, .bipush 32, 2, 0, 0, .int (nI 32), []), (6, .iload_n 1, 1, 0, 0, .null, []), (7, .isub, 1, 0, 0, .null, []), (8, .iushr, 1, 0, 0, .null, []),
  (9, .ior, 1, 0, 0, .null, []), (10, .ireturn, 1, 0, 0, .null, [])]
-- MaskedSumModel.quarter(IIII)V
def ms_c25 : List (Nat × ms_I) := [(0, .iconst 0, 1, 0, 0, .int (nI 0), []), (1, .istore 5, 2, 0, 0, .null, []), (3, .iload 5, 2, 0, 0, .null, []), (5, .iconst 2, 1, 0, 0, .int (nI 2), []),
  (6, .if_icmp .ge (110), 3, 116, 0, .null, []), (9, .aload_n 0, 1, 0, 0, .null, []), (10, .getfield 69, 3, 8, 25, .null, [784]), (13, .iload_n 1, 1, 0, 0, .null, []),
  (14, .dup2, 1, 0, 0, .null, []), (15, .iaload, 1, 0, 0, .null, []), (16, .aload_n 0, 1, 0, 0, .null, []), (17, .getfield 69, 3, 8, 25, .null, [784]),
  (20, .iload_n 2, 1, 0, 0, .null, []), (21, .iaload, 1, 0, 0, .null, []), (22, .iadd, 1, 0, 0, .null, []), (23, .iastore, 1, 0, 0, .null, []),
  (24, .aload_n 0, 1, 0, 0, .null, []), (25, .getfield 69, 3, 8, 25, .null, [784]), (28, .iload 4, 2, 0, 0, .null, []), (30, .aload_n 0, 1, 0, 0, .null, []),
  (31, .getfield 69, 3, 8, 25, .null, [784]), (34, .iload 4, 2, 0, 0, .null, []), (36, .iaload, 1, 0, 0, .null, []), (37, .aload_n 0, 1, 0, 0, .null, []),
  (38, .getfield 69, 3, 8, 25, .null, [784]), (41, .iload_n 1, 1, 0, 0, .null, []), (42, .iaload, 1, 0, 0, .null, []), (43, .ixor, 1, 0, 0, .null, []),
  (44, .iload 5, 2, 0, 0, .null, []), (46, .ifCond .ne (8), 3, 54, 0, .null, []), (49, .bipush 16, 2, 0, 0, .int (nI 16), []), (51, .goto (5), 3, 56, 0, .null, []),
  (54, .bipush 8, 2, 0, 0, .int (nI 8), []), (56, .invokestatic 105, 3, 24, 0, .null, [0, 953]), (59, .iastore, 1, 0, 0, .null, []), (60, .aload_n 0, 1, 0, 0, .null, []),
  (61, .getfield 69, 3, 8, 25, .null, [784]), (64, .iload_n 3, 1, 0, 0, .null, []), (65, .dup2, 1, 0, 0, .null, []), (66, .iaload, 1, 0, 0, .null, []),
  (67, .aload_n 0, 1, 0, 0, .null, []), (68, .getfield 69, 3, 8, 25, .null, [784]), (71, .iload 4, 2, 0, 0, .null, []), (73, .iaload, 1, 0, 0, .null, []),
  (74, .iadd, 1, 0, 0, .null, []), (75, .iastore, 1, 0, 0, .null, []), (76, .aload_n 0, 1, 0, 0, .null, []), (77, .getfield 69, 3, 8, 25, .null, [784]),
  (80, .iload_n 2, 1, 0, 0, .null, []), (81, .aload_n 0, 1, 0, 0, .null, []), (82, .getfield 69, 3, 8, 25, .null, [784]), (85, .iload_n 2, 1, 0, 0, .null, []),
  (86, .iaload, 1, 0, 0, .null, []), (87, .aload_n 0, 1, 0, 0, .null, []), (88, .getfield 69, 3, 8, 25, .null, [784]), (91, .iload_n 3, 1, 0, 0, .null, []),
  (92, .iaload, 1, 0, 0, .null, []), (93, .ixor, 1, 0, 0, .null, []), (94, .iload 5, 2, 0, 0, .null, []), (96, .ifCond .ne (8), 3, 104, 0, .null, []),
  (99, .bipush 12, 2, 0, 0, .int (nI 12), []), (101, .goto (5), 3, 106, 0, .null, []), (104, .bipush 7, 2, 0, 0, .int (nI 7), []), (106, .invokestatic 105, 3, 24, 0, .null, [0, 953]),
  (109, .iastore, 1, 0, 0, .null, []), (110, .iinc 5 (1), 3, 0, 0, .null, []), (113, .goto (-110), 3, 3, 0, .null, []), (116, .return_, 1, 0, 0, .null, [])]
-- MaskedSumModel.mix(JIIII)V
def ms_c26 : List (Nat × ms_I) := [(0, .iconst 0, 1, 0, 0, .int (nI 0), []), (1, .istore 7, 2, 0, 0, .null, []), (3, .iload 7, 2, 0, 0, .null, []), (5, .bipush 16, 2, 0, 0, .int (nI 16), []),
  (7, .if_icmp .ge (17), 3, 24, 0, .null, []), (10, .aload_n 0, 1, 0, 0, .null, []), (11, .getfield 66, 3, 8, 24, .null, [783]), (14, .iload 7, 2, 0, 0, .null, []),
  (16, .iconst 0, 1, 0, 0, .int (nI 0), []), (17, .iastore, 1, 0, 0, .null, []), (18, .iinc 7 (1), 3, 0, 0, .null, []), (21, .goto (-18), 3, 3, 0, .null, []),
  (24, .aload_n 0, 1, 0, 0, .null, []), (25, .getfield 66, 3, 8, 24, .null, [783]), (28, .iconst 0, 1, 0, 0, .int (nI 0), []), (29, .ldc 109, 2, 945, 0, .int (nI 1634760805), []),
  (31, .iastore, 1, 0, 0, .null, []), (32, .aload_n 0, 1, 0, 0, .null, []), (33, .getfield 66, 3, 8, 24, .null, [783]), (36, .iconst 1, 1, 0, 0, .int (nI 1), []),
  (37, .ldc 110, 2, 946, 0, .int (nI 857760878), []), (39, .iastore, 1, 0, 0, .null, []), (40, .aload_n 0, 1, 0, 0, .null, []), (41, .getfield 66, 3, 8, 24, .null, [783]),
  (44, .iconst 2, 1, 0, 0, .int (nI 2), []), (45, .ldc 111, 2, 947, 0, .int (nI 2036477234), []), (47, .iastore, 1, 0, 0, .null, []), (48, .aload_n 0, 1, 0, 0, .null, []),
  (49, .getfield 66, 3, 8, 24, .null, [783]), (52, .iconst 3, 1, 0, 0, .int (nI 3), []), (53, .ldc 112, 2, 948, 0, .int (nI 1797285236), []), (55, .iastore, 1, 0, 0, .null, []),
  (56, .aload_n 0, 1, 0, 0, .null, []), (57, .getfield 66, 3, 8, 24, .null, [783]), (60, .iconst 4, 1, 0, 0, .int (nI 4), []), (61, .lload_n 1, 1, 0, 0, .null, []),
  (62, .l2i, 1, 0, 0, .null, []), (63, .iastore, 1, 0, 0, .null, []), (64, .aload_n 0, 1, 0, 0, .null, []), (65, .getfield 66, 3, 8, 24, .null, [783]),
  (68, .iconst 5, 1, 0, 0, .int (nI 5), []), (69, .lload_n 1, 1, 0, 0, .null, []), (70, .bipush 32, 2, 0, 0, .int (nI 32), []), (72, .lshr, 1, 0, 0, .null, []),
  (73, .l2i, 1, 0, 0, .null, []), (74, .iastore, 1, 0, 0, .null, []), (75, .aload_n 0, 1, 0, 0, .null, []), (76, .getfield 66, 3, 8, 24, .null, [783]),
  (79, .bipush 12, 2, 0, 0, .int (nI 12), []), (81, .iload 6, 2, 0, 0, .null, []), (83, .iastore, 1, 0, 0, .null, []), (84, .aload_n 0, 1, 0, 0, .null, []),
  (85, .getfield 66, 3, 8, 24, .null, [783]), (88, .bipush 13, 2, 0, 0, .int (nI 13), []), (90, .iload_n 3, 1, 0, 0, .null, []), (91, .iastore, 1, 0, 0, .null, []),
  (92, .aload_n 0, 1, 0, 0, .null, []), (93, .getfield 66, 3, 8, 24, .null, [783]), (96, .bipush 14, 2, 0, 0, .int (nI 14), []), (98, .iload 4, 2, 0, 0, .null, []),
  (100, .iastore, 1, 0, 0, .null, []), (101, .aload_n 0, 1, 0, 0, .null, []), (102, .getfield 66, 3, 8, 24, .null, [783]), (105, .bipush 15, 2, 0, 0, .int (nI 15), []),
  (107, .iload 5, 2, 0, 0, .null, []), (109, .iastore, 1, 0, 0, .null, []), (110, .iconst 0, 1, 0, 0, .int (nI 0), []), (111, .istore 7, 2, 0, 0, .null, []),
  (113, .iload 7, 2, 0, 0, .null, []), (115, .bipush 16, 2, 0, 0, .int (nI 16), []), (117, .if_icmp .ge (23), 3, 140, 0, .null, []), (120, .aload_n 0, 1, 0, 0, .null, []),
  (121, .getfield 69, 3, 8, 25, .null, [784]), (124, .iload 7, 2, 0, 0, .null, []), (126, .aload_n 0, 1, 0, 0, .null, []), (127, .getfield 66, 3, 8, 24, .null, [783]),
  (130, .iload 7, 2, 0, 0, .null, []), (132, .iaload, 1, 0, 0, .null, []), (133, .iastore, 1, 0, 0, .null, []), (134, .iinc 7 (1), 3, 0, 0, .null, []),
  (137, .goto (-24), 3, 113, 0, .null, []), (140, .iconst 0, 1, 0, 0, .int (nI 0), []), (141, .istore 7, 2, 0, 0, .null, []), (143, .iload 7, 2, 0, 0, .null, []),
  (145, .bipush 10, 2, 0, 0, .int (nI 10), []), (147, .if_icmp .ge (91), 3, 238, 0, .null, []), (150, .iconst 0, 1, 0, 0, .int (nI 0), []), (151, .istore 8, 2, 0, 0, .null, []),
  (153, .iload 8, 2, 0, 0, .null, []), (155, .iconst 4, 1, 0, 0, .int (nI 4), []), (156, .if_icmp .ge (29), 3, 185, 0, .null, []), (159, .aload_n 0, 1, 0, 0, .null, []),
  (160, .iload 8, 2, 0, 0, .null, []), (162, .iconst 4, 1, 0, 0, .int (nI 4), []), (163, .iload 8, 2, 0, 0, .null, []), (165, .iadd, 1, 0, 0, .null, []),
  (166, .bipush 8, 2, 0, 0, .int (nI 8), []), (168, .iload 8, 2, 0, 0, .null, []), (170, .iadd, 1, 0, 0, .null, []), (171, .bipush 12, 2, 0, 0, .int (nI 12), []),
  (173, .iload 8, 2, 0, 0, .null, []), (175, .iadd, 1, 0, 0, .null, []), (176, .invokevirtual 113, 3, 25, 0, .null, [0, 949]), (179, .iinc 8 (1), 3, 0, 0, .null, []),
  (182, .goto (-29), 3, 153, 0, .null, []), (185, .iconst 0, 1, 0, 0, .int (nI 0), []), (186, .istore 8, 2, 0, 0, .null, []), (188, .iload 8, 2, 0, 0, .null, []),
  (190, .iconst 4, 1, 0, 0, .int (nI 4), []), (191, .if_icmp .ge (41), 3, 232, 0, .null, []), (194, .aload_n 0, 1, 0, 0, .null, []), (195, .iload 8, 2, 0, 0, .null, []),
  (197, .iconst 4, 1, 0, 0, .int (nI 4), []), (198, .iload 8, 2, 0, 0, .null, []), (200, .iconst 1, 1, 0, 0, .int (nI 1), []), (201, .iadd, 1, 0, 0, .null, []),
  (202, .iconst 4, 1, 0, 0, .int (nI 4), []), (203, .irem, 1, 0, 0, .null, []), (204, .iadd, 1, 0, 0, .null, []), (205, .bipush 8, 2, 0, 0, .int (nI 8), []),
  (207, .iload 8, 2, 0, 0, .null, []), (209, .iconst 2, 1, 0, 0, .int (nI 2), []), (210, .iadd, 1, 0, 0, .null, []), (211, .iconst 4, 1, 0, 0, .int (nI 4), []),
  (212, .irem, 1, 0, 0, .null, []), (213, .iadd, 1, 0, 0, .null, []), (214, .bipush 12, 2, 0, 0, .int (nI 12), []), (216, .iload 8, 2, 0, 0, .null, []),
  (218, .iconst 3, 1, 0, 0, .int (nI 3), []), (219, .iadd, 1, 0, 0, .null, []), (220, .iconst 4, 1, 0, 0, .int (nI 4), []), (221, .irem, 1, 0, 0, .null, []),
  (222, .iadd, 1, 0, 0, .null, []), (223, .invokevirtual 113, 3, 25, 0, .null, [0, 949]), (226, .iinc 8 (1), 3, 0, 0, .null, []), (229, .goto (-41), 3, 188, 0, .null, []),
  (232, .iinc 7 (1), 3, 0, 0, .null, []), (235, .goto (-92), 3, 143, 0, .null, []), (238, .iconst 0, 1, 0, 0, .int (nI 0), []), (239, .istore 7, 2, 0, 0, .null, []),
  (241, .iload 7, 2, 0, 0, .null, []), (243, .bipush 16, 2, 0, 0, .int (nI 16), []), (245, .if_icmp .ge (26), 3, 271, 0, .null, []), (248, .aload_n 0, 1, 0, 0, .null, []),
  (249, .getfield 69, 3, 8, 25, .null, [784]), (252, .iload 7, 2, 0, 0, .null, []), (254, .dup2, 1, 0, 0, .null, []), (255, .iaload, 1, 0, 0, .null, []),
  (256, .aload_n 0, 1, 0, 0, .null, []), (257, .getfield 66, 3, 8, 24, .null, [783]), (260, .iload 7, 2, 0, 0, .null, []), (262, .iaload, 1, 0, 0, .null, []),
  (263, .iadd, 1, 0, 0, .null, []), (264, .iastore, 1, 0, 0, .null, []), (265, .iinc 7 (1), 3, 0, 0, .null, []), (268, .goto (-27), 3, 241, 0, .null, []),
  (271, .return_, 1, 0, 0, .null, [])]
-- MaskedSumModel.word(JIII)I
def ms_c27 : List (Nat × ms_I) := [(0, .aload_n 0, 1, 0, 0, .null, []), (1, .lload_n 1, 1, 0, 0, .null, []), (2, .iload_n 3, 1, 0, 0, .null, []), (3, .iload 4, 2, 0, 0, .null, []),
  (5, .iconst 0, 1, 0, 0, .int (nI 0), []), (6, .iload 5, 2, 0, 0, .null, []), (8, .bipush 16, 2, 0, 0, .int (nI 16), []), (10, .idiv, 1, 0, 0, .null, []),
  (11, .invokevirtual 117, 3, 26, 0, .null, [0, 941]), (14, .aload_n 0, 1, 0, 0, .null, []), (15, .getfield 69, 3, 8, 25, .null, [784]), (18, .iload 5, 2, 0, 0, .null, []),
  (20, .bipush 16, 2, 0, 0, .int (nI 16), []), (22, .irem, 1, 0, 0, .null, []), (23, .iaload, 1, 0, 0, .null, []), (24, .ireturn, 1, 0, 0, .null, [])]
-- MaskedSumModel.spread([J[II)V
def ms_c28 : List (Nat × ms_I) := [(0, .iconst 0, 1, 0, 0, .int (nI 0), []), (1, .istore_n 3, 1, 0, 0, .null, []), (2, .iload_n 3, 1, 0, 0, .null, []), (3, .bipush 10, 2, 0, 0, .int (nI 10), []),
  (5, .if_icmp .ge (95), 3, 100, 0, .null, []), (8, .lconst 0, 1, 0, 0, .long (lN 0), []), (9, .lstore 4, 2, 0, 0, .null, []), (11, .iconst 0, 1, 0, 0, .int (nI 0), []),
  (12, .istore 6, 2, 0, 0, .null, []), (14, .iload 6, 2, 0, 0, .null, []), (16, .bipush 13, 2, 0, 0, .int (nI 13), []), (18, .if_icmp .ge (71), 3, 89, 0, .null, []),
  (21, .bipush 13, 2, 0, 0, .int (nI 13), []), (23, .iload_n 3, 1, 0, 0, .null, []), (24, .imul, 1, 0, 0, .null, []), (25, .iload 6, 2, 0, 0, .null, []),
  (27, .iadd, 1, 0, 0, .null, []), (28, .istore 7, 2, 0, 0, .null, []), (30, .iload 7, 2, 0, 0, .null, []), (32, .sipush 128, 3, 0, 0, .int (nI 128), []),
  (35, .if_icmp .ge (22), 3, 57, 0, .null, []), (38, .aload_n 1, 1, 0, 0, .null, []), (39, .iload 7, 2, 0, 0, .null, []), (41, .bipush 32, 2, 0, 0, .int (nI 32), []),
  (43, .idiv, 1, 0, 0, .null, []), (44, .iaload, 1, 0, 0, .null, []), (45, .iload 7, 2, 0, 0, .null, []), (47, .bipush 32, 2, 0, 0, .int (nI 32), []),
  (49, .irem, 1, 0, 0, .null, []), (50, .iushr, 1, 0, 0, .null, []), (51, .iconst 1, 1, 0, 0, .int (nI 1), []), (52, .iand, 1, 0, 0, .null, []),
  (53, .i2l, 1, 0, 0, .null, []), (54, .goto (17), 3, 71, 0, .null, []), (57, .iload 7, 2, 0, 0, .null, []), (59, .sipush 128, 3, 0, 0, .int (nI 128), []),
  (62, .if_icmp .ne (8), 3, 70, 0, .null, []), (65, .iload_n 2, 1, 0, 0, .null, []), (66, .i2l, 1, 0, 0, .null, []), (67, .goto (4), 3, 71, 0, .null, []),
  (70, .lconst 0, 1, 0, 0, .long (lN 0), []), (71, .lstore 8, 2, 0, 0, .null, []), (73, .lload 4, 2, 0, 0, .null, []), (75, .lload 8, 2, 0, 0, .null, []),
  (77, .iload 6, 2, 0, 0, .null, []), (79, .lshl, 1, 0, 0, .null, []), (80, .lor, 1, 0, 0, .null, []), (81, .lstore 4, 2, 0, 0, .null, []),
  (83, .iinc 6 (1), 3, 0, 0, .null, []), (86, .goto (-72), 3, 14, 0, .null, []), (89, .aload_n 0, 1, 0, 0, .null, []), (90, .iload_n 3, 1, 0, 0, .null, []),
  (91, .lload 4, 2, 0, 0, .null, []), (93, .lastore, 1, 0, 0, .null, []), (94, .iinc 3 (1), 3, 0, 0, .null, []), (97, .goto (-95), 3, 2, 0, .null, []),
  (100, .return_, 1, 0, 0, .null, [])]
-- MaskedSumModel.absorb()V
def ms_c29 : List (Nat × ms_I) := [(0, .aload_n 0, 1, 0, 0, .null, []), (1, .getfield 87, 3, 8, 31, .null, [790]), (4, .aload_n 0, 1, 0, 0, .null, []), (5, .getfield 81, 3, 8, 29, .null, [788]),
  (8, .iconst 1, 1, 0, 0, .int (nI 1), []), (9, .invokestatic 121, 3, 28, 0, .null, [0, 962]), (12, .iconst 0, 1, 0, 0, .int (nI 0), []), (13, .istore_n 1, 1, 0, 0, .null, []),
  (14, .iload_n 1, 1, 0, 0, .null, []), (15, .bipush 10, 2, 0, 0, .int (nI 10), []), (17, .if_icmp .ge (24), 3, 41, 0, .null, []), (20, .aload_n 0, 1, 0, 0, .null, []),
  (21, .getfield 72, 3, 8, 26, .null, [785]), (24, .iload_n 1, 1, 0, 0, .null, []), (25, .dup2, 1, 0, 0, .null, []), (26, .laload, 1, 0, 0, .null, []),
  (27, .aload_n 0, 1, 0, 0, .null, []), (28, .getfield 87, 3, 8, 31, .null, [790]), (31, .iload_n 1, 1, 0, 0, .null, []), (32, .laload, 1, 0, 0, .null, []),
  (33, .ladd, 1, 0, 0, .null, []), (34, .lastore, 1, 0, 0, .null, []), (35, .iinc 1 (1), 3, 0, 0, .null, []), (38, .goto (-24), 3, 14, 0, .null, []),
  (41, .iconst 0, 1, 0, 0, .int (nI 0), []), (42, .istore_n 1, 1, 0, 0, .null, []), (43, .iload_n 1, 1, 0, 0, .null, []), (44, .bipush 20, 2, 0, 0, .int (nI 20), []),
  (46, .if_icmp .ge (16), 3, 62, 0, .null, []), (49, .aload_n 0, 1, 0, 0, .null, []), (50, .getfield 78, 3, 8, 28, .null, [787]), (53, .iload_n 1, 1, 0, 0, .null, []),
  (54, .lconst 0, 1, 0, 0, .long (lN 0), []), (55, .lastore, 1, 0, 0, .null, []), (56, .iinc 1 (1), 3, 0, 0, .null, []), (59, .goto (-16), 3, 43, 0, .null, []),
  (62, .iconst 0, 1, 0, 0, .int (nI 0), []), (63, .istore_n 1, 1, 0, 0, .null, []), (64, .iload_n 1, 1, 0, 0, .null, []), (65, .bipush 10, 2, 0, 0, .int (nI 10), []),
  (67, .if_icmp .ge (47), 3, 114, 0, .null, []), (70, .iconst 0, 1, 0, 0, .int (nI 0), []), (71, .istore_n 2, 1, 0, 0, .null, []), (72, .iload_n 2, 1, 0, 0, .null, []),
  (73, .bipush 10, 2, 0, 0, .int (nI 10), []), (75, .if_icmp .ge (33), 3, 108, 0, .null, []), (78, .aload_n 0, 1, 0, 0, .null, []), (79, .getfield 78, 3, 8, 28, .null, [787]),
  (82, .iload_n 1, 1, 0, 0, .null, []), (83, .iload_n 2, 1, 0, 0, .null, []), (84, .iadd, 1, 0, 0, .null, []), (85, .dup2, 1, 0, 0, .null, []),
  (86, .laload, 1, 0, 0, .null, []), (87, .aload_n 0, 1, 0, 0, .null, []), (88, .getfield 72, 3, 8, 26, .null, [785]), (91, .iload_n 1, 1, 0, 0, .null, []),
  (92, .laload, 1, 0, 0, .null, []), (93, .aload_n 0, 1, 0, 0, .null, []), (94, .getfield 75, 3, 8, 27, .null, [786]), (97, .iload_n 2, 1, 0, 0, .null, []),
  (98, .laload, 1, 0, 0, .null, []), (99, .lmul, 1, 0, 0, .null, []), (100, .ladd, 1, 0, 0, .null, []), (101, .lastore, 1, 0, 0, .null, []),
  (102, .iinc 2 (1), 3, 0, 0, .null, []), (105, .goto (-33), 3, 72, 0, .null, []), (108, .iinc 1 (1), 3, 0, 0, .null, []), (111, .goto (-47), 3, 64, 0, .null, []),
  (114, .iconst 0, 1, 0, 0, .int (nI 0), []), (115, .istore_n 1, 1, 0, 0, .null, []), (116, .iload_n 1, 1, 0, 0, .null, []), (117, .bipush 10, 2, 0, 0, .int (nI 10), []),
  (119, .if_icmp .ge (35), 3, 154, 0, .null, []), (122, .aload_n 0, 1, 0, 0, .null, []), (123, .getfield 72, 3, 8, 26, .null, [785]), (126, .iload_n 1, 1, 0, 0, .null, []),
  (127, .aload_n 0, 1, 0, 0, .null, []), (128, .getfield 78, 3, 8, 28, .null, [787]), (131, .iload_n 1, 1, 0, 0, .null, []), (132, .laload, 1, 0, 0, .null, []),
  (133, .ldc2_w 125, 3, 969, 0, .long (lN 5), []), (136, .aload_n 0, 1, 0, 0, .null, []), (137, .getfield 78, 3, 8, 28, .null, [787]), (140, .iload_n 1, 1, 0, 0, .null, []),
  (141, .bipush 10, 2, 0, 0, .int (nI 10), []), (143, .iadd, 1, 0, 0, .null, []), (144, .laload, 1, 0, 0, .null, []), (145, .lmul, 1, 0, 0, .null, []),
  (146, .ladd, 1, 0, 0, .null, []), (147, .lastore, 1, 0, 0, .null, []), (148, .iinc 1 (1), 3, 0, 0, .null, []), (151, .goto (-35), 3, 116, 0, .null, []),
  (154, .aload_n 0, 1, 0, 0, .null, []), (155, .invokevirtual 127, 3, 30, 0, .null, [0, 970]), (158, .aload_n 0, 1, 0, 0, .null, []), (159, .invokevirtual 127, 3, 30, 0, .null, [0, 970]),
  (162, .return_, 1, 0, 0, .null, [])]
-- MaskedSumModel.settle()V
def ms_c30 : List (Nat × ms_I) := [(0, .lconst 0, 1, 0, 0, .long (lN 0), []), (1, .lstore_n 1, 1, 0, 0, .null, []), (2, .iconst 0, 1, 0, 0, .int (nI 0), []), (3, .istore_n 3, 1, 0, 0, .null, []),
  (4, .iload_n 3, 1, 0, 0, .null, []), (5, .bipush 10, 2, 0, 0, .int (nI 10), []), (7, .if_icmp .ge (34), 3, 41, 0, .null, []), (10, .lload_n 1, 1, 0, 0, .null, []),
  (11, .aload_n 0, 1, 0, 0, .null, []), (12, .getfield 72, 3, 8, 26, .null, [785]), (15, .iload_n 3, 1, 0, 0, .null, []), (16, .laload, 1, 0, 0, .null, []),
  (17, .ladd, 1, 0, 0, .null, []), (18, .lstore_n 1, 1, 0, 0, .null, []), (19, .aload_n 0, 1, 0, 0, .null, []), (20, .getfield 72, 3, 8, 26, .null, [785]),
  (23, .iload_n 3, 1, 0, 0, .null, []), (24, .lload_n 1, 1, 0, 0, .null, []), (25, .ldc2_w 130, 3, 974, 0, .long (lN 8191), []), (28, .land, 1, 0, 0, .null, []),
  (29, .lastore, 1, 0, 0, .null, []), (30, .lload_n 1, 1, 0, 0, .null, []), (31, .bipush 13, 2, 0, 0, .int (nI 13), []), (33, .lshr, 1, 0, 0, .null, []),
  (34, .lstore_n 1, 1, 0, 0, .null, []), (35, .iinc 3 (1), 3, 0, 0, .null, []), (38, .goto (-34), 3, 4, 0, .null, []), (41, .aload_n 0, 1, 0, 0, .null, []),
  (42, .getfield 72, 3, 8, 26, .null, [785]), (45, .iconst 0, 1, 0, 0, .int (nI 0), []), (46, .dup2, 1, 0, 0, .null, []), (47, .laload, 1, 0, 0, .null, []),
  (48, .ldc2_w 125, 3, 969, 0, .long (lN 5), []), (51, .lload_n 1, 1, 0, 0, .null, []), (52, .lmul, 1, 0, 0, .null, []), (53, .ladd, 1, 0, 0, .null, []),
  (54, .lastore, 1, 0, 0, .null, []), (55, .return_, 1, 0, 0, .null, [])]
-- MaskedSumModel.seal(JIIIIII)V
def ms_c31 : List (Nat × ms_I) := [(0, .aload_n 0, 1, 0, 0, .null, []), (1, .lload_n 1, 1, 0, 0, .null, []), (2, .iload_n 3, 1, 0, 0, .null, []), (3, .iload 4, 2, 0, 0, .null, []),
  (5, .iconst 1, 1, 0, 0, .int (nI 1), []), (6, .iconst 0, 1, 0, 0, .int (nI 0), []), (7, .invokevirtual 117, 3, 26, 0, .null, [0, 941]), (10, .iconst 0, 1, 0, 0, .int (nI 0), []),
  (11, .istore 9, 2, 0, 0, .null, []), (13, .iload 9, 2, 0, 0, .null, []), (15, .iconst 4, 1, 0, 0, .int (nI 4), []), (16, .if_icmp .ge (23), 3, 39, 0, .null, []),
  (19, .aload_n 0, 1, 0, 0, .null, []), (20, .getfield 81, 3, 8, 29, .null, [788]), (23, .iload 9, 2, 0, 0, .null, []), (25, .aload_n 0, 1, 0, 0, .null, []),
  (26, .getfield 69, 3, 8, 25, .null, [784]), (29, .iload 9, 2, 0, 0, .null, []), (31, .iaload, 1, 0, 0, .null, []), (32, .iastore, 1, 0, 0, .null, []),
  (33, .iinc 9 (1), 3, 0, 0, .null, []), (36, .goto (-23), 3, 13, 0, .null, []), (39, .aload_n 0, 1, 0, 0, .null, []), (40, .getfield 81, 3, 8, 29, .null, [788]),
  (43, .iconst 0, 1, 0, 0, .int (nI 0), []), (44, .dup2, 1, 0, 0, .null, []), (45, .iaload, 1, 0, 0, .null, []), (46, .ldc 132, 2, 960, 0, .int (nI 268435455), []),
  (48, .iand, 1, 0, 0, .null, []), (49, .iastore, 1, 0, 0, .null, []), (50, .iconst 1, 1, 0, 0, .int (nI 1), []), (51, .istore 9, 2, 0, 0, .null, []),
  (53, .iload 9, 2, 0, 0, .null, []), (55, .iconst 4, 1, 0, 0, .int (nI 4), []), (56, .if_icmp .ge (21), 3, 77, 0, .null, []), (59, .aload_n 0, 1, 0, 0, .null, []),
  (60, .getfield 81, 3, 8, 29, .null, [788]), (63, .iload 9, 2, 0, 0, .null, []), (65, .dup2, 1, 0, 0, .null, []), (66, .iaload, 1, 0, 0, .null, []),
  (67, .ldc 133, 2, 961, 0, .int (nI 268435452), []), (69, .iand, 1, 0, 0, .null, []), (70, .iastore, 1, 0, 0, .null, []), (71, .iinc 9 (1), 3, 0, 0, .null, []),
  (74, .goto (-21), 3, 53, 0, .null, []), (77, .aload_n 0, 1, 0, 0, .null, []), (78, .getfield 75, 3, 8, 27, .null, [786]), (81, .aload_n 0, 1, 0, 0, .null, []),
  (82, .getfield 81, 3, 8, 29, .null, [788]), (85, .iconst 0, 1, 0, 0, .int (nI 0), []), (86, .invokestatic 121, 3, 28, 0, .null, [0, 962]), (89, .iconst 0, 1, 0, 0, .int (nI 0), []),
  (90, .istore 9, 2, 0, 0, .null, []), (92, .iload 9, 2, 0, 0, .null, []), (94, .iconst 4, 1, 0, 0, .int (nI 4), []), (95, .if_icmp .ge (25), 3, 120, 0, .null, []),
  (98, .aload_n 0, 1, 0, 0, .null, []), (99, .getfield 84, 3, 8, 30, .null, [789]), (102, .iload 9, 2, 0, 0, .null, []), (104, .aload_n 0, 1, 0, 0, .null, []),
  (105, .getfield 69, 3, 8, 25, .null, [784]), (108, .iconst 4, 1, 0, 0, .int (nI 4), []), (109, .iload 9, 2, 0, 0, .null, []), (111, .iadd, 1, 0, 0, .null, []),
  (112, .iaload, 1, 0, 0, .null, []), (113, .iastore, 1, 0, 0, .null, []), (114, .iinc 9 (1), 3, 0, 0, .null, []), (117, .goto (-25), 3, 92, 0, .null, []),
  (120, .iconst 0, 1, 0, 0, .int (nI 0), []), (121, .istore 9, 2, 0, 0, .null, []), (123, .iload 9, 2, 0, 0, .null, []), (125, .bipush 10, 2, 0, 0, .int (nI 10), []),
  (127, .if_icmp .ge (17), 3, 144, 0, .null, []), (130, .aload_n 0, 1, 0, 0, .null, []), (131, .getfield 72, 3, 8, 26, .null, [785]), (134, .iload 9, 2, 0, 0, .null, []),
  (136, .lconst 0, 1, 0, 0, .long (lN 0), []), (137, .lastore, 1, 0, 0, .null, []), (138, .iinc 9 (1), 3, 0, 0, .null, []), (141, .goto (-18), 3, 123, 0, .null, []),
  (144, .aload_n 0, 1, 0, 0, .null, []), (145, .getfield 81, 3, 8, 29, .null, [788]), (148, .iconst 0, 1, 0, 0, .int (nI 0), []), (149, .iload 5, 2, 0, 0, .null, []),
  (151, .iastore, 1, 0, 0, .null, []), (152, .aload_n 0, 1, 0, 0, .null, []), (153, .getfield 81, 3, 8, 29, .null, [788]), (156, .iconst 1, 1, 0, 0, .int (nI 1), []),
  (157, .iload 6, 2, 0, 0, .null, []), (159, .iastore, 1, 0, 0, .null, []), (160, .aload_n 0, 1, 0, 0, .null, []), (161, .getfield 81, 3, 8, 29, .null, [788]),
  (164, .iconst 2, 1, 0, 0, .int (nI 2), []), (165, .iload 7, 2, 0, 0, .null, []), (167, .iastore, 1, 0, 0, .null, []), (168, .aload_n 0, 1, 0, 0, .null, []),
  (169, .getfield 81, 3, 8, 29, .null, [788]), (172, .iconst 3, 1, 0, 0, .int (nI 3), []), (173, .iload 8, 2, 0, 0, .null, []), (175, .iastore, 1, 0, 0, .null, []),
  (176, .aload_n 0, 1, 0, 0, .null, []), (177, .invokevirtual 134, 3, 29, 0, .null, [0, 965]), (180, .aload_n 0, 1, 0, 0, .null, []), (181, .getfield 81, 3, 8, 29, .null, [788]),
  (184, .iconst 0, 1, 0, 0, .int (nI 0), []), (185, .iconst 0, 1, 0, 0, .int (nI 0), []), (186, .iastore, 1, 0, 0, .null, []), (187, .aload_n 0, 1, 0, 0, .null, []),
  (188, .getfield 81, 3, 8, 29, .null, [788]), (191, .iconst 1, 1, 0, 0, .int (nI 1), []), (192, .iconst 0, 1, 0, 0, .int (nI 0), []), (193, .iastore, 1, 0, 0, .null, []),
  (194, .aload_n 0, 1, 0, 0, .null, []), (195, .getfield 81, 3, 8, 29, .null, [788]), (198, .iconst 2, 1, 0, 0, .int (nI 2), []), (199, .bipush 16, 2, 0, 0, .int (nI 16), []),
  (201, .iastore, 1, 0, 0, .null, []), (202, .aload_n 0, 1, 0, 0, .null, []), (203, .getfield 81, 3, 8, 29, .null, [788]), (206, .iconst 3, 1, 0, 0, .int (nI 3), []),
  (207, .iconst 0, 1, 0, 0, .int (nI 0), []), (208, .iastore, 1, 0, 0, .null, []), (209, .aload_n 0, 1, 0, 0, .null, []), (210, .invokevirtual 134, 3, 29, 0, .null, [0, 965]),
  (213, .aload_n 0, 1, 0, 0, .null, []), (214, .invokevirtual 127, 3, 30, 0, .null, [0, 970]), (217, .ldc2_w 125, 3, 969, 0, .long (lN 5), []), (220, .lstore 9, 2, 0, 0, .null, []),
  (222, .iconst 0, 1, 0, 0, .int (nI 0), []), (223, .istore 11, 2, 0, 0, .null, []), (225, .iload 11, 2, 0, 0, .null, []), (227, .bipush 10, 2, 0, 0, .int (nI 10), []),
  (229, .if_icmp .ge (24), 3, 253, 0, .null, []), (232, .lload 9, 2, 0, 0, .null, []), (234, .aload_n 0, 1, 0, 0, .null, []), (235, .getfield 72, 3, 8, 26, .null, [785]),
  (238, .iload 11, 2, 0, 0, .null, []), (240, .laload, 1, 0, 0, .null, []), (241, .ladd, 1, 0, 0, .null, []), (242, .bipush 13, 2, 0, 0, .int (nI 13), []),
  (244, .lshr, 1, 0, 0, .null, []), (245, .lstore 9, 2, 0, 0, .null, []), (247, .iinc 11 (1), 3, 0, 0, .null, []), (250, .goto (-25), 3, 225, 0, .null, []),
  (253, .aload_n 0, 1, 0, 0, .null, []), (254, .getfield 72, 3, 8, 26, .null, [785]), (257, .iconst 0, 1, 0, 0, .int (nI 0), []), (258, .dup2, 1, 0, 0, .null, []),
  (259, .laload, 1, 0, 0, .null, []), (260, .ldc2_w 125, 3, 969, 0, .long (lN 5), []), (263, .lload 9, 2, 0, 0, .null, []), (265, .lmul, 1, 0, 0, .null, []),
  (266, .ladd, 1, 0, 0, .null, []), (267, .lastore, 1, 0, 0, .null, []), (268, .aload_n 0, 1, 0, 0, .null, []), (269, .invokevirtual 137, 3, 32, 0, .null, [0, 975]),
  (272, .lconst 0, 1, 0, 0, .long (lN 0), []), (273, .lstore 11, 2, 0, 0, .null, []), (275, .iconst 0, 1, 0, 0, .int (nI 0), []), (276, .istore 13, 2, 0, 0, .null, []),
  (278, .iload 13, 2, 0, 0, .null, []), (280, .iconst 4, 1, 0, 0, .int (nI 4), []), (281, .if_icmp .ge (101), 3, 382, 0, .null, []), (284, .lconst 0, 1, 0, 0, .long (lN 0), []),
  (285, .lstore 14, 2, 0, 0, .null, []), (287, .iconst 0, 1, 0, 0, .int (nI 0), []), (288, .istore 16, 2, 0, 0, .null, []), (290, .iload 16, 2, 0, 0, .null, []),
  (292, .bipush 32, 2, 0, 0, .int (nI 32), []), (294, .if_icmp .ge (45), 3, 339, 0, .null, []), (297, .bipush 32, 2, 0, 0, .int (nI 32), []), (299, .iload 13, 2, 0, 0, .null, []),
  (301, .imul, 1, 0, 0, .null, []), (302, .iload 16, 2, 0, 0, .null, []), (304, .iadd, 1, 0, 0, .null, []), (305, .istore 17, 2, 0, 0, .null, []),
  (307, .lload 14, 2, 0, 0, .null, []), (309, .aload_n 0, 1, 0, 0, .null, []), (310, .getfield 72, 3, 8, 26, .null, [785]), (313, .iload 17, 2, 0, 0, .null, []),
  (315, .bipush 13, 2, 0, 0, .int (nI 13), []), (317, .idiv, 1, 0, 0, .null, []), (318, .laload, 1, 0, 0, .null, []), (319, .iload 17, 2, 0, 0, .null, []),
  (321, .bipush 13, 2, 0, 0, .int (nI 13), []), (323, .irem, 1, 0, 0, .null, []), (324, .lshr, 1, 0, 0, .null, []), (325, .lconst 1, 1, 0, 0, .long (lN 1), []),
  (326, .land, 1, 0, 0, .null, []), (327, .iload 16, 2, 0, 0, .null, []), (329, .lshl, 1, 0, 0, .null, []), (330, .lor, 1, 0, 0, .null, []),
  (331, .lstore 14, 2, 0, 0, .null, []), (333, .iinc 16 (1), 3, 0, 0, .null, []), (336, .goto (-46), 3, 290, 0, .null, []), (339, .lload 11, 2, 0, 0, .null, []),
  (341, .lload 14, 2, 0, 0, .null, []), (343, .aload_n 0, 1, 0, 0, .null, []), (344, .getfield 84, 3, 8, 30, .null, [789]), (347, .iload 13, 2, 0, 0, .null, []),
  (349, .iaload, 1, 0, 0, .null, []), (350, .i2l, 1, 0, 0, .null, []), (351, .ldc2_w 103, 3, 890, 0, .long (lN 4294967295), []), (354, .land, 1, 0, 0, .null, []),
  (355, .ladd, 1, 0, 0, .null, []), (356, .ladd, 1, 0, 0, .null, []), (357, .lstore 11, 2, 0, 0, .null, []), (359, .aload_n 0, 1, 0, 0, .null, []),
  (360, .getfield 84, 3, 8, 30, .null, [789]), (363, .iload 13, 2, 0, 0, .null, []), (365, .lload 11, 2, 0, 0, .null, []), (367, .l2i, 1, 0, 0, .null, []),
  (368, .iastore, 1, 0, 0, .null, []), (369, .lload 11, 2, 0, 0, .null, []), (371, .bipush 32, 2, 0, 0, .int (nI 32), []), (373, .lshr, 1, 0, 0, .null, []),
  (374, .lstore 11, 2, 0, 0, .null, []), (376, .iinc 13 (1), 3, 0, 0, .null, []), (379, .goto (-101), 3, 278, 0, .null, []), (382, .return_, 1, 0, 0, .null, [])]
-- MaskedSumModel.settle13()V
def ms_c32 : List (Nat × ms_I) := [(0, .lconst 0, 1, 0, 0, .long (lN 0), []), (1, .lstore_n 1, 1, 0, 0, .null, []), (2, .iconst 0, 1, 0, 0, .int (nI 0), []), (3, .istore_n 3, 1, 0, 0, .null, []),
  (4, .iload_n 3, 1, 0, 0, .null, []), (5, .bipush 10, 2, 0, 0, .int (nI 10), []), (7, .if_icmp .ge (34), 3, 41, 0, .null, []), (10, .lload_n 1, 1, 0, 0, .null, []),
  (11, .aload_n 0, 1, 0, 0, .null, []), (12, .getfield 72, 3, 8, 26, .null, [785]), (15, .iload_n 3, 1, 0, 0, .null, []), (16, .laload, 1, 0, 0, .null, []),
  (17, .ladd, 1, 0, 0, .null, []), (18, .lstore_n 1, 1, 0, 0, .null, []), (19, .aload_n 0, 1, 0, 0, .null, []), (20, .getfield 72, 3, 8, 26, .null, [785]),
  (23, .iload_n 3, 1, 0, 0, .null, []), (24, .lload_n 1, 1, 0, 0, .null, []), (25, .ldc2_w 130, 3, 974, 0, .long (lN 8191), []), (28, .land, 1, 0, 0, .null, []),
  (29, .lastore, 1, 0, 0, .null, []), (30, .lload_n 1, 1, 0, 0, .null, []), (31, .bipush 13, 2, 0, 0, .int (nI 13), []), (33, .lshr, 1, 0, 0, .null, []),
  (34, .lstore_n 1, 1, 0, 0, .null, []), (35, .iinc 3 (1), 3, 0, 0, .null, []), (38, .goto (-34), 3, 4, 0, .null, []), (41, .return_, 1, 0, 0, .null, [])]
-- MaskedSumModel.agreed(IIJ)J
def ms_c33 : List (Nat × ms_I) := [(0, .iload_n 1, 1, 0, 0, .null, []), (1, .iload_n 2, 1, 0, 0, .null, []), (2, .invokestatic 140, 3, 23, 0, .null, [0, 886]), (5, .lload_n 3, 1, 0, 0, .null, []),
  (6, .invokestatic 144, 3, 22, 0, .null, [0, 909]), (9, .lreturn, 1, 0, 0, .null, [])]
-- MaskedSumModel.share(III)J
def ms_c34 : List (Nat × ms_I) := [(0, .aload_n 0, 1, 0, 0, .null, []), (1, .getfield 13, 3, 8, 5, .null, [764]), (4, .iconst 3, 1, 0, 0, .int (nI 3), []), (5, .iload_n 1, 1, 0, 0, .null, []),
  (6, .imul, 1, 0, 0, .null, []), (7, .iconst 2, 1, 0, 0, .int (nI 2), []), (8, .iadd, 1, 0, 0, .null, []), (9, .laload, 1, 0, 0, .null, []),
  (10, .lstore 4, 2, 0, 0, .null, []), (12, .iload_n 2, 1, 0, 0, .null, []), (13, .ifCond .ne (14), 3, 27, 0, .null, []), (16, .aload_n 0, 1, 0, 0, .null, []),
  (17, .getfield 13, 3, 8, 5, .null, [764]), (20, .iconst 3, 1, 0, 0, .int (nI 3), []), (21, .iload_n 1, 1, 0, 0, .null, []), (22, .imul, 1, 0, 0, .null, []),
  (23, .laload, 1, 0, 0, .null, []), (24, .goto (5), 3, 29, 0, .null, []), (27, .lload 4, 2, 0, 0, .null, []), (29, .lstore 6, 2, 0, 0, .null, []),
  (31, .iload_n 3, 1, 0, 0, .null, []), (32, .i2l, 1, 0, 0, .null, []), (33, .lconst 1, 1, 0, 0, .long (lN 1), []), (34, .ladd, 1, 0, 0, .null, []),
  (35, .lstore 8, 2, 0, 0, .null, []), (37, .lconst 1, 1, 0, 0, .long (lN 1), []), (38, .lstore 10, 2, 0, 0, .null, []), (40, .iconst 1, 1, 0, 0, .int (nI 1), []),
  (41, .istore 12, 2, 0, 0, .null, []), (43, .iload 12, 2, 0, 0, .null, []), (45, .aload_n 0, 1, 0, 0, .null, []), (46, .getfield 147, 3, 8, 2, .null, [761]),
  (49, .if_icmp .ge (69), 3, 118, 0, .null, []), (52, .lload 10, 2, 0, 0, .null, []), (54, .lload 8, 2, 0, 0, .null, []), (56, .invokestatic 99, 3, 21, 0, .null, [0, 912]),
  (59, .lstore 10, 2, 0, 0, .null, []), (61, .aload_n 0, 1, 0, 0, .null, []), (62, .lload 4, 2, 0, 0, .null, []), (64, .iconst 2, 1, 0, 0, .int (nI 2), []),
  (65, .iload_n 2, 1, 0, 0, .null, []), (66, .iadd, 1, 0, 0, .null, []), (67, .iload_n 1, 1, 0, 0, .null, []), (68, .iconst 2, 1, 0, 0, .int (nI 2), []),
  (69, .iload 12, 2, 0, 0, .null, []), (71, .imul, 1, 0, 0, .null, []), (72, .iconst 2, 1, 0, 0, .int (nI 2), []), (73, .isub, 1, 0, 0, .null, []),
  (74, .invokevirtual 150, 3, 27, 0, .null, [0, 937]), (77, .aload_n 0, 1, 0, 0, .null, []), (78, .lload 4, 2, 0, 0, .null, []), (80, .iconst 2, 1, 0, 0, .int (nI 2), []),
  (81, .iload_n 2, 1, 0, 0, .null, []), (82, .iadd, 1, 0, 0, .null, []), (83, .iload_n 1, 1, 0, 0, .null, []), (84, .iconst 2, 1, 0, 0, .int (nI 2), []),
  (85, .iload 12, 2, 0, 0, .null, []), (87, .imul, 1, 0, 0, .null, []), (88, .iconst 1, 1, 0, 0, .int (nI 1), []), (89, .isub, 1, 0, 0, .null, []),
  (90, .invokevirtual 150, 3, 27, 0, .null, [0, 937]), (93, .invokestatic 140, 3, 23, 0, .null, [0, 886]), (96, .lstore 13, 2, 0, 0, .null, []), (98, .lload 6, 2, 0, 0, .null, []),
  (100, .lload 13, 2, 0, 0, .null, []), (102, .lload 10, 2, 0, 0, .null, []), (104, .invokestatic 99, 3, 21, 0, .null, [0, 912]), (107, .invokestatic 95, 3, 20, 0, .null, [0, 915]),
  (110, .lstore 6, 2, 0, 0, .null, []), (112, .iinc 12 (1), 3, 0, 0, .null, []), (115, .goto (-72), 3, 43, 0, .null, []), (118, .lload 6, 2, 0, 0, .null, []),
  (120, .lreturn, 1, 0, 0, .null, [])]
-- MaskedSumModel.start(II)V
def ms_c35 : List (Nat × ms_I) := [(0, .aload_n 0, 1, 0, 0, .null, []), (1, .iload_n 1, 1, 0, 0, .null, []), (2, .iconst 3, 1, 0, 0, .int (nI 3), []), (3, .bipush 8, 2, 0, 0, .int (nI 8), []),
  (5, .invokestatic 154, 3, 19, 0, .null, [0, 870]), (8, .ifCond .eq (24), 3, 32, 0, .null, []), (11, .iload_n 2, 1, 0, 0, .null, []), (12, .iload_n 1, 1, 0, 0, .null, []),
  (13, .if_icmp .gt (19), 3, 32, 0, .null, []), (16, .ldc2_w 158, 3, 873, 0, .long (lN 2), []), (19, .iload_n 2, 1, 0, 0, .null, []), (20, .i2l, 1, 0, 0, .null, []),
  (21, .lmul, 1, 0, 0, .null, []), (22, .iload_n 1, 1, 0, 0, .null, []), (23, .i2l, 1, 0, 0, .null, []), (24, .lcmp, 1, 0, 0, .null, []),
  (25, .ifCond .le (7), 3, 32, 0, .null, []), (28, .iconst 0, 1, 0, 0, .int (nI 0), []), (29, .goto (4), 3, 33, 0, .null, []), (32, .iconst 1, 1, 0, 0, .int (nI 1), []),
  (33, .putfield 90, 3, 8, 0, .null, [759]), (36, .aload_n 0, 1, 0, 0, .null, []), (37, .getfield 90, 3, 8, 0, .null, [759]), (40, .ifCond .le (4), 3, 44, 0, .null, []),
  (43, .return_, 1, 0, 0, .null, []), (44, .aload_n 0, 1, 0, 0, .null, []), (45, .iload_n 1, 1, 0, 0, .null, []), (46, .putfield 160, 3, 8, 1, .null, [760]),
  (49, .aload_n 0, 1, 0, 0, .null, []), (50, .iload_n 2, 1, 0, 0, .null, []), (51, .putfield 147, 3, 8, 2, .null, [761]), (54, .aload_n 0, 1, 0, 0, .null, []),
  (55, .iconst 0, 1, 0, 0, .int (nI 0), []), (56, .putfield 7, 3, 8, 3, .null, [762]), (59, .aload_n 0, 1, 0, 0, .null, []), (60, .iconst 0, 1, 0, 0, .int (nI 0), []),
  (61, .putfield 163, 3, 8, 4, .null, [763]), (64, .aload_n 0, 1, 0, 0, .null, []), (65, .iconst 0, 1, 0, 0, .int (nI 0), []), (66, .putfield 166, 3, 8, 23, .null, [782]),
  (69, .aload_n 0, 1, 0, 0, .null, []), (70, .iconst 0, 1, 0, 0, .int (nI 0), []), (71, .putfield 170, 3, 8, 20, .null, [779]), (74, .iconst 0, 1, 0, 0, .int (nI 0), []),
  (75, .istore_n 3, 1, 0, 0, .null, []), (76, .iload_n 3, 1, 0, 0, .null, []), (77, .bipush 8, 2, 0, 0, .int (nI 8), []), (79, .if_icmp .ge (37), 3, 116, 0, .null, []),
  (82, .aload_n 0, 1, 0, 0, .null, []), (83, .getfield 21, 3, 8, 7, .null, [766]), (86, .iload_n 3, 1, 0, 0, .null, []), (87, .iconst 0, 1, 0, 0, .int (nI 0), []),
  (88, .iastore, 1, 0, 0, .null, []), (89, .aload_n 0, 1, 0, 0, .null, []), (90, .getfield 24, 3, 8, 8, .null, [767]), (93, .iload_n 3, 1, 0, 0, .null, []),
  (94, .iconst 0, 1, 0, 0, .int (nI 0), []), (95, .iastore, 1, 0, 0, .null, []), (96, .aload_n 0, 1, 0, 0, .null, []), (97, .getfield 27, 3, 8, 9, .null, [768]),
  (100, .iload_n 3, 1, 0, 0, .null, []), (101, .iconst 0, 1, 0, 0, .int (nI 0), []), (102, .iastore, 1, 0, 0, .null, []), (103, .aload_n 0, 1, 0, 0, .null, []),
  (104, .getfield 30, 3, 8, 10, .null, [769]), (107, .iload_n 3, 1, 0, 0, .null, []), (108, .iconst 0, 1, 0, 0, .int (nI 0), []), (109, .iastore, 1, 0, 0, .null, []),
  (110, .iinc 3 (1), 3, 0, 0, .null, []), (113, .goto (-37), 3, 76, 0, .null, []), (116, .iconst 0, 1, 0, 0, .int (nI 0), []), (117, .istore_n 3, 1, 0, 0, .null, []),
  (118, .iload_n 3, 1, 0, 0, .null, []), (119, .iconst 4, 1, 0, 0, .int (nI 4), []), (120, .if_icmp .ge (23), 3, 143, 0, .null, []), (123, .aload_n 0, 1, 0, 0, .null, []),
  (124, .getfield 42, 3, 8, 14, .null, [773]), (127, .iload_n 3, 1, 0, 0, .null, []), (128, .iconst 0, 1, 0, 0, .int (nI 0), []), (129, .iastore, 1, 0, 0, .null, []),
  (130, .aload_n 0, 1, 0, 0, .null, []), (131, .getfield 45, 3, 8, 15, .null, [774]), (134, .iload_n 3, 1, 0, 0, .null, []), (135, .iconst 0, 1, 0, 0, .int (nI 0), []),
  (136, .iastore, 1, 0, 0, .null, []), (137, .iinc 3 (1), 3, 0, 0, .null, []), (140, .goto (-22), 3, 118, 0, .null, []), (143, .return_, 1, 0, 0, .null, [])]
-- MaskedSumModel.isOpen()Z
def ms_c36 : List (Nat × ms_I) := [(0, .aload_n 0, 1, 0, 0, .null, []), (1, .getfield 7, 3, 8, 3, .null, [762]), (4, .iconst 4, 1, 0, 0, .int (nI 4), []), (5, .if_icmp .ge (7), 3, 12, 0, .null, []),
  (8, .iconst 1, 1, 0, 0, .int (nI 1), []), (9, .goto (4), 3, 13, 0, .null, []), (12, .iconst 0, 1, 0, 0, .int (nI 0), []), (13, .ireturn, 1, 0, 0, .null, [])]
-- MaskedSumModel.isPhone(I)Z
def ms_c37 : List (Nat × ms_I) := [(0, .iload_n 1, 1, 0, 0, .null, []), (1, .iconst 0, 1, 0, 0, .int (nI 0), []), (2, .aload_n 0, 1, 0, 0, .null, []), (3, .getfield 160, 3, 8, 1, .null, [760]),
  (6, .iconst 1, 1, 0, 0, .int (nI 1), []), (7, .isub, 1, 0, 0, .null, []), (8, .invokestatic 154, 3, 19, 0, .null, [0, 870]), (11, .ireturn, 1, 0, 0, .null, [])]
-- MaskedSumModel.secret(IIII)V
def ms_c38 : List (Nat × ms_I) := [(0, .aload_n 0, 1, 0, 0, .null, []), (1, .iload_n 1, 1, 0, 0, .null, []), (2, .iconst 0, 1, 0, 0, .int (nI 0), []), (3, .bipush 7, 2, 0, 0, .int (nI 7), []),
  (5, .invokestatic 154, 3, 19, 0, .null, [0, 870]), (8, .ifCond .eq (16), 3, 24, 0, .null, []), (11, .iload_n 2, 1, 0, 0, .null, []), (12, .iconst 0, 1, 0, 0, .int (nI 0), []),
  (13, .iconst 2, 1, 0, 0, .int (nI 2), []), (14, .invokestatic 154, 3, 19, 0, .null, [0, 870]), (17, .ifCond .eq (7), 3, 24, 0, .null, []), (20, .iconst 0, 1, 0, 0, .int (nI 0), []),
  (21, .goto (4), 3, 25, 0, .null, []), (24, .iconst 1, 1, 0, 0, .int (nI 1), []), (25, .putfield 90, 3, 8, 0, .null, [759]), (28, .aload_n 0, 1, 0, 0, .null, []),
  (29, .getfield 90, 3, 8, 0, .null, [759]), (32, .ifCond .ne (32), 3, 64, 0, .null, []), (35, .aload_n 0, 1, 0, 0, .null, []), (36, .invokevirtual 173, 3, 36, 0, .null, [0, 878]),
  (39, .ifCond .eq (25), 3, 64, 0, .null, []), (42, .aload_n 0, 1, 0, 0, .null, []), (43, .iload_n 1, 1, 0, 0, .null, []), (44, .invokevirtual 177, 3, 37, 0, .null, [0, 882]),
  (47, .ifCond .eq (17), 3, 64, 0, .null, []), (50, .aload_n 0, 1, 0, 0, .null, []), (51, .getfield 21, 3, 8, 7, .null, [766]), (54, .iload_n 1, 1, 0, 0, .null, []),
  (55, .iaload, 1, 0, 0, .null, []), (56, .ifCond .le (8), 3, 64, 0, .null, []), (59, .aload_n 0, 1, 0, 0, .null, []), (60, .iconst 2, 1, 0, 0, .int (nI 2), []),
  (61, .putfield 90, 3, 8, 0, .null, [759]), (64, .aload_n 0, 1, 0, 0, .null, []), (65, .getfield 90, 3, 8, 0, .null, [759]), (68, .ifCond .ne (19), 3, 87, 0, .null, []),
  (71, .aload_n 0, 1, 0, 0, .null, []), (72, .getfield 13, 3, 8, 5, .null, [764]), (75, .iconst 3, 1, 0, 0, .int (nI 3), []), (76, .iload_n 1, 1, 0, 0, .null, []),
  (77, .imul, 1, 0, 0, .null, []), (78, .iload_n 2, 1, 0, 0, .null, []), (79, .iadd, 1, 0, 0, .null, []), (80, .iload_n 3, 1, 0, 0, .null, []),
  (81, .iload 4, 2, 0, 0, .null, []), (83, .invokestatic 140, 3, 23, 0, .null, [0, 886]), (86, .lastore, 1, 0, 0, .null, []), (87, .return_, 1, 0, 0, .null, [])]
-- MaskedSumModel.input(III)V
def ms_c39 : List (Nat × ms_I) := [(0, .aload_n 0, 1, 0, 0, .null, []), (1, .iload_n 1, 1, 0, 0, .null, []), (2, .iconst 0, 1, 0, 0, .int (nI 0), []), (3, .bipush 7, 2, 0, 0, .int (nI 7), []),
  (5, .invokestatic 154, 3, 19, 0, .null, [0, 870]), (8, .ifCond .eq (16), 3, 24, 0, .null, []), (11, .iload_n 2, 1, 0, 0, .null, []), (12, .iconst 0, 1, 0, 0, .int (nI 0), []),
  (13, .iconst 3, 1, 0, 0, .int (nI 3), []), (14, .invokestatic 154, 3, 19, 0, .null, [0, 870]), (17, .ifCond .eq (7), 3, 24, 0, .null, []), (20, .iconst 0, 1, 0, 0, .int (nI 0), []),
  (21, .goto (4), 3, 25, 0, .null, []), (24, .iconst 1, 1, 0, 0, .int (nI 1), []), (25, .putfield 90, 3, 8, 0, .null, [759]), (28, .aload_n 0, 1, 0, 0, .null, []),
  (29, .getfield 90, 3, 8, 0, .null, [759]), (32, .ifCond .ne (33), 3, 65, 0, .null, []), (35, .aload_n 0, 1, 0, 0, .null, []), (36, .invokevirtual 173, 3, 36, 0, .null, [0, 878]),
  (39, .ifCond .eq (26), 3, 65, 0, .null, []), (42, .aload_n 0, 1, 0, 0, .null, []), (43, .iload_n 1, 1, 0, 0, .null, []), (44, .invokevirtual 177, 3, 37, 0, .null, [0, 882]),
  (47, .ifCond .eq (18), 3, 65, 0, .null, []), (50, .aload_n 0, 1, 0, 0, .null, []), (51, .getfield 21, 3, 8, 7, .null, [766]), (54, .iload_n 1, 1, 0, 0, .null, []),
  (55, .iaload, 1, 0, 0, .null, []), (56, .iconst 2, 1, 0, 0, .int (nI 2), []), (57, .if_icmp .le (8), 3, 65, 0, .null, []), (60, .aload_n 0, 1, 0, 0, .null, []),
  (61, .iconst 2, 1, 0, 0, .int (nI 2), []), (62, .putfield 90, 3, 8, 0, .null, [759]), (65, .aload_n 0, 1, 0, 0, .null, []), (66, .getfield 90, 3, 8, 0, .null, [759]),
  (69, .ifCond .ne (14), 3, 83, 0, .null, []), (72, .aload_n 0, 1, 0, 0, .null, []), (73, .getfield 17, 3, 8, 6, .null, [765]), (76, .iconst 4, 1, 0, 0, .int (nI 4), []),
  (77, .iload_n 1, 1, 0, 0, .null, []), (78, .imul, 1, 0, 0, .null, []), (79, .iload_n 2, 1, 0, 0, .null, []), (80, .iadd, 1, 0, 0, .null, []),
  (81, .iload_n 3, 1, 0, 0, .null, []), (82, .iastore, 1, 0, 0, .null, []), (83, .return_, 1, 0, 0, .null, [])]
-- MaskedSumModel.post(IIZI)I
def ms_c40 : List (Nat × ms_I) := [(0, .bipush 70, 2, 0, 0, .int (nI 70), []), (2, .aload_n 0, 1, 0, 0, .null, []), (3, .getfield 170, 3, 8, 20, .null, [779]), (6, .imul, 1, 0, 0, .null, []),
  (7, .istore 5, 2, 0, 0, .null, []), (9, .iconst 0, 1, 0, 0, .int (nI 0), []), (10, .istore 6, 2, 0, 0, .null, []), (12, .iload 6, 2, 0, 0, .null, []),
  (14, .bipush 70, 2, 0, 0, .int (nI 70), []), (16, .if_icmp .ge (20), 3, 36, 0, .null, []), (19, .aload_n 0, 1, 0, 0, .null, []), (20, .getfield 60, 3, 8, 21, .null, [780]),
  (23, .iload 5, 2, 0, 0, .null, []), (25, .iload 6, 2, 0, 0, .null, []), (27, .iadd, 1, 0, 0, .null, []), (28, .iconst 0, 1, 0, 0, .int (nI 0), []),
  (29, .iastore, 1, 0, 0, .null, []), (30, .iinc 6 (1), 3, 0, 0, .null, []), (33, .goto (-21), 3, 12, 0, .null, []), (36, .aload_n 0, 1, 0, 0, .null, []),
  (37, .getfield 60, 3, 8, 21, .null, [780]), (40, .iload 5, 2, 0, 0, .null, []), (42, .iload_n 1, 1, 0, 0, .null, []), (43, .iastore, 1, 0, 0, .null, []),
  (44, .aload_n 0, 1, 0, 0, .null, []), (45, .getfield 60, 3, 8, 21, .null, [780]), (48, .iload 5, 2, 0, 0, .null, []), (50, .iconst 1, 1, 0, 0, .int (nI 1), []),
  (51, .iadd, 1, 0, 0, .null, []), (52, .iload_n 2, 1, 0, 0, .null, []), (53, .iastore, 1, 0, 0, .null, []), (54, .aload_n 0, 1, 0, 0, .null, []),
  (55, .getfield 60, 3, 8, 21, .null, [780]), (58, .iload 5, 2, 0, 0, .null, []), (60, .iconst 2, 1, 0, 0, .int (nI 2), []), (61, .iadd, 1, 0, 0, .null, []),
  (62, .iload_n 3, 1, 0, 0, .null, []), (63, .ifCond .eq (7), 3, 70, 0, .null, []), (66, .iconst 1, 1, 0, 0, .int (nI 1), []), (67, .goto (4), 3, 71, 0, .null, []),
  (70, .iconst 0, 1, 0, 0, .int (nI 0), []), (71, .iastore, 1, 0, 0, .null, []), (72, .aload_n 0, 1, 0, 0, .null, []), (73, .getfield 60, 3, 8, 21, .null, [780]),
  (76, .iload 5, 2, 0, 0, .null, []), (78, .iconst 3, 1, 0, 0, .int (nI 3), []), (79, .iadd, 1, 0, 0, .null, []), (80, .iload 4, 2, 0, 0, .null, []),
  (82, .iastore, 1, 0, 0, .null, []), (83, .aload_n 0, 1, 0, 0, .null, []), (84, .dup, 1, 0, 0, .null, []), (85, .getfield 170, 3, 8, 20, .null, [779]),
  (88, .iconst 1, 1, 0, 0, .int (nI 1), []), (89, .iadd, 1, 0, 0, .null, []), (90, .putfield 170, 3, 8, 20, .null, [779]), (93, .iload 5, 2, 0, 0, .null, []),
  (95, .iconst 4, 1, 0, 0, .int (nI 4), []), (96, .iadd, 1, 0, 0, .null, []), (97, .ireturn, 1, 0, 0, .null, [])]
-- MaskedSumModel.takeOut(I)V
def ms_c41 : List (Nat × ms_I) := [(0, .bipush 70, 2, 0, 0, .int (nI 70), []), (2, .iload_n 1, 1, 0, 0, .null, []), (3, .imul, 1, 0, 0, .null, []), (4, .istore_n 2, 1, 0, 0, .null, []),
  (5, .iload_n 2, 1, 0, 0, .null, []), (6, .bipush 70, 2, 0, 0, .int (nI 70), []), (8, .aload_n 0, 1, 0, 0, .null, []), (9, .getfield 170, 3, 8, 20, .null, [779]),
  (12, .imul, 1, 0, 0, .null, []), (13, .bipush 70, 2, 0, 0, .int (nI 70), []), (15, .isub, 1, 0, 0, .null, []), (16, .if_icmp .ge (24), 3, 40, 0, .null, []),
  (19, .aload_n 0, 1, 0, 0, .null, []), (20, .getfield 60, 3, 8, 21, .null, [780]), (23, .iload_n 2, 1, 0, 0, .null, []), (24, .aload_n 0, 1, 0, 0, .null, []),
  (25, .getfield 60, 3, 8, 21, .null, [780]), (28, .iload_n 2, 1, 0, 0, .null, []), (29, .bipush 70, 2, 0, 0, .int (nI 70), []), (31, .iadd, 1, 0, 0, .null, []),
  (32, .iaload, 1, 0, 0, .null, []), (33, .iastore, 1, 0, 0, .null, []), (34, .iinc 2 (1), 3, 0, 0, .null, []), (37, .goto (-32), 3, 5, 0, .null, []),
  (40, .aload_n 0, 1, 0, 0, .null, []), (41, .dup, 1, 0, 0, .null, []), (42, .getfield 170, 3, 8, 20, .null, [779]), (45, .iconst 1, 1, 0, 0, .int (nI 1), []),
  (46, .isub, 1, 0, 0, .null, []), (47, .putfield 170, 3, 8, 20, .null, [779]), (50, .return_, 1, 0, 0, .null, [])]
-- MaskedSumModel.has(II)Z
def ms_c42 : List (Nat × ms_I) := [(0, .iload_n 0, 1, 0, 0, .null, []), (1, .iload_n 1, 1, 0, 0, .null, []), (2, .ishr, 1, 0, 0, .null, []), (3, .iconst 1, 1, 0, 0, .int (nI 1), []),
  (4, .iand, 1, 0, 0, .null, []), (5, .iconst 1, 1, 0, 0, .int (nI 1), []), (6, .if_icmp .ne (7), 3, 13, 0, .null, []), (9, .iconst 1, 1, 0, 0, .int (nI 1), []),
  (10, .goto (4), 3, 14, 0, .null, []), (13, .iconst 0, 1, 0, 0, .int (nI 0), []), (14, .ireturn, 1, 0, 0, .null, [])]
-- MaskedSumModel.ones(I)I
def ms_c43 : List (Nat × ms_I) := [(0, .iconst 0, 1, 0, 0, .int (nI 0), []), (1, .istore_n 1, 1, 0, 0, .null, []), (2, .iconst 0, 1, 0, 0, .int (nI 0), []), (3, .istore_n 2, 1, 0, 0, .null, []),
  (4, .iload_n 2, 1, 0, 0, .null, []), (5, .bipush 32, 2, 0, 0, .int (nI 32), []), (7, .if_icmp .ge (17), 3, 24, 0, .null, []), (10, .iload_n 1, 1, 0, 0, .null, []),
  (11, .iload_n 0, 1, 0, 0, .null, []), (12, .iload_n 2, 1, 0, 0, .null, []), (13, .ishr, 1, 0, 0, .null, []), (14, .iconst 1, 1, 0, 0, .int (nI 1), []),
  (15, .iand, 1, 0, 0, .null, []), (16, .iadd, 1, 0, 0, .null, []), (17, .istore_n 1, 1, 0, 0, .null, []), (18, .iinc 2 (1), 3, 0, 0, .null, []),
  (21, .goto (-17), 3, 4, 0, .null, []), (24, .iload_n 1, 1, 0, 0, .null, []), (25, .ireturn, 1, 0, 0, .null, [])]
-- MaskedSumModel.writeNumber(IJ)V
def ms_c44 : List (Nat × ms_I) := [(0, .aload_n 0, 1, 0, 0, .null, []), (1, .getfield 60, 3, 8, 21, .null, [780]), (4, .iload_n 1, 1, 0, 0, .null, []), (5, .lload_n 2, 1, 0, 0, .null, []),
  (6, .l2i, 1, 0, 0, .null, []), (7, .iastore, 1, 0, 0, .null, []), (8, .aload_n 0, 1, 0, 0, .null, []), (9, .getfield 60, 3, 8, 21, .null, [780]),
  (12, .iload_n 1, 1, 0, 0, .null, []), (13, .iconst 1, 1, 0, 0, .int (nI 1), []), (14, .iadd, 1, 0, 0, .null, []), (15, .lload_n 2, 1, 0, 0, .null, []),
  (16, .bipush 32, 2, 0, 0, .int (nI 32), []), (18, .lshr, 1, 0, 0, .null, []), (19, .l2i, 1, 0, 0, .null, []), (20, .iastore, 1, 0, 0, .null, []),
  (21, .return_, 1, 0, 0, .null, [])]
-- MaskedSumModel.sendKeys(I)V
def ms_c45 : List (Nat × ms_I) := [(0, .aload_n 0, 1, 0, 0, .null, []), (1, .iconst 0, 1, 0, 0, .int (nI 0), []), (2, .iload_n 1, 1, 0, 0, .null, []), (3, .iconst 0, 1, 0, 0, .int (nI 0), []),
  (4, .iconst 4, 1, 0, 0, .int (nI 4), []), (5, .invokevirtual 181, 3, 40, 0, .null, [0, 904]), (8, .istore_n 2, 1, 0, 0, .null, []), (9, .aload_n 0, 1, 0, 0, .null, []),
  (10, .iload_n 2, 1, 0, 0, .null, []), (11, .ldc2_w 185, 3, 908, 0, .long (lN 37), []), (14, .aload_n 0, 1, 0, 0, .null, []), (15, .getfield 13, 3, 8, 5, .null, [764]),
  (18, .iconst 3, 1, 0, 0, .int (nI 3), []), (19, .iload_n 1, 1, 0, 0, .null, []), (20, .imul, 1, 0, 0, .null, []), (21, .laload, 1, 0, 0, .null, []),
  (22, .invokestatic 144, 3, 22, 0, .null, [0, 909]), (25, .invokevirtual 187, 3, 44, 0, .null, [0, 918]), (28, .aload_n 0, 1, 0, 0, .null, []), (29, .iload_n 2, 1, 0, 0, .null, []),
  (30, .iconst 2, 1, 0, 0, .int (nI 2), []), (31, .iadd, 1, 0, 0, .null, []), (32, .ldc2_w 185, 3, 908, 0, .long (lN 37), []), (35, .aload_n 0, 1, 0, 0, .null, []),
  (36, .getfield 13, 3, 8, 5, .null, [764]), (39, .iconst 3, 1, 0, 0, .int (nI 3), []), (40, .iload_n 1, 1, 0, 0, .null, []), (41, .imul, 1, 0, 0, .null, []),
  (42, .iconst 1, 1, 0, 0, .int (nI 1), []), (43, .iadd, 1, 0, 0, .null, []), (44, .laload, 1, 0, 0, .null, []), (45, .invokestatic 144, 3, 22, 0, .null, [0, 909]),
  (48, .invokevirtual 187, 3, 44, 0, .null, [0, 918]), (51, .return_, 1, 0, 0, .null, [])]
-- MaskedSumModel.sendBoxes(I)V
def ms_c46 : List (Nat × ms_I) := [(0, .aload_n 0, 1, 0, 0, .null, []), (1, .iconst 1, 1, 0, 0, .int (nI 1), []), (2, .iload_n 1, 1, 0, 0, .null, []), (3, .iconst 0, 1, 0, 0, .int (nI 0), []),
  (4, .bipush 64, 2, 0, 0, .int (nI 64), []), (6, .invokevirtual 181, 3, 40, 0, .null, [0, 904]), (9, .istore_n 2, 1, 0, 0, .null, []), (10, .iconst 0, 1, 0, 0, .int (nI 0), []),
  (11, .istore_n 3, 1, 0, 0, .null, []), (12, .iload_n 3, 1, 0, 0, .null, []), (13, .aload_n 0, 1, 0, 0, .null, []), (14, .getfield 160, 3, 8, 1, .null, [760]),
  (17, .if_icmp .ge (272), 3, 289, 0, .null, []), (20, .iload_n 3, 1, 0, 0, .null, []), (21, .iload_n 1, 1, 0, 0, .null, []), (22, .if_icmp .eq (261), 3, 283, 0, .null, []),
  (25, .aload_n 0, 1, 0, 0, .null, []), (26, .getfield 33, 3, 8, 11, .null, [770]), (29, .iconst 3, 1, 0, 0, .int (nI 3), []), (30, .iload_n 1, 1, 0, 0, .null, []),
  (31, .imul, 1, 0, 0, .null, []), (32, .iaload, 1, 0, 0, .null, []), (33, .iload_n 3, 1, 0, 0, .null, []), (34, .invokestatic 191, 3, 42, 0, .null, [0, 926]),
  (37, .ifCond .ne (6), 3, 43, 0, .null, []), (40, .goto (243), 3, 283, 0, .null, []), (43, .aload_n 0, 1, 0, 0, .null, []), (44, .aload_n 0, 1, 0, 0, .null, []),
  (45, .getfield 36, 3, 8, 12, .null, [771]), (48, .bipush 32, 2, 0, 0, .int (nI 32), []), (50, .iload_n 1, 1, 0, 0, .null, []), (51, .imul, 1, 0, 0, .null, []),
  (52, .iconst 4, 1, 0, 0, .int (nI 4), []), (53, .iload_n 3, 1, 0, 0, .null, []), (54, .imul, 1, 0, 0, .null, []), (55, .iadd, 1, 0, 0, .null, []),
  (56, .iconst 2, 1, 0, 0, .int (nI 2), []), (57, .iadd, 1, 0, 0, .null, []), (58, .iaload, 1, 0, 0, .null, []), (59, .aload_n 0, 1, 0, 0, .null, []),
  (60, .getfield 36, 3, 8, 12, .null, [771]), (63, .bipush 32, 2, 0, 0, .int (nI 32), []), (65, .iload_n 1, 1, 0, 0, .null, []), (66, .imul, 1, 0, 0, .null, []),
  (67, .iconst 4, 1, 0, 0, .int (nI 4), []), (68, .iload_n 3, 1, 0, 0, .null, []), (69, .imul, 1, 0, 0, .null, []), (70, .iadd, 1, 0, 0, .null, []),
  (71, .iconst 3, 1, 0, 0, .int (nI 3), []), (72, .iadd, 1, 0, 0, .null, []), (73, .iaload, 1, 0, 0, .null, []), (74, .aload_n 0, 1, 0, 0, .null, []),
  (75, .getfield 13, 3, 8, 5, .null, [764]), (78, .iconst 3, 1, 0, 0, .int (nI 3), []), (79, .iload_n 1, 1, 0, 0, .null, []), (80, .imul, 1, 0, 0, .null, []),
  (81, .iconst 1, 1, 0, 0, .int (nI 1), []), (82, .iadd, 1, 0, 0, .null, []), (83, .laload, 1, 0, 0, .null, []), (84, .invokevirtual 195, 3, 33, 0, .null, [0, 929]),
  (87, .lstore 4, 2, 0, 0, .null, []), (89, .aload_n 0, 1, 0, 0, .null, []), (90, .iload_n 1, 1, 0, 0, .null, []), (91, .iconst 1, 1, 0, 0, .int (nI 1), []),
  (92, .iload_n 3, 1, 0, 0, .null, []), (93, .invokevirtual 199, 3, 34, 0, .null, [0, 933]), (96, .lstore 6, 2, 0, 0, .null, []), (98, .aload_n 0, 1, 0, 0, .null, []),
  (99, .iload_n 1, 1, 0, 0, .null, []), (100, .iconst 0, 1, 0, 0, .int (nI 0), []), (101, .iload_n 3, 1, 0, 0, .null, []), (102, .invokevirtual 199, 3, 34, 0, .null, [0, 933]),
  (105, .lstore 8, 2, 0, 0, .null, []), (107, .aload_n 0, 1, 0, 0, .null, []), (108, .lload 4, 2, 0, 0, .null, []), (110, .iload_n 1, 1, 0, 0, .null, []),
  (111, .iload_n 3, 1, 0, 0, .null, []), (112, .iconst 1, 1, 0, 0, .int (nI 1), []), (113, .iconst 1, 1, 0, 0, .int (nI 1), []), (114, .invokevirtual 117, 3, 26, 0, .null, [0, 941]),
  (117, .lload 6, 2, 0, 0, .null, []), (119, .l2i, 1, 0, 0, .null, []), (120, .aload_n 0, 1, 0, 0, .null, []), (121, .getfield 69, 3, 8, 25, .null, [784]),
  (124, .iconst 0, 1, 0, 0, .int (nI 0), []), (125, .iaload, 1, 0, 0, .null, []), (126, .ixor, 1, 0, 0, .null, []), (127, .istore 10, 2, 0, 0, .null, []),
  (129, .lload 6, 2, 0, 0, .null, []), (131, .bipush 32, 2, 0, 0, .int (nI 32), []), (133, .lshr, 1, 0, 0, .null, []), (134, .l2i, 1, 0, 0, .null, []),
  (135, .aload_n 0, 1, 0, 0, .null, []), (136, .getfield 69, 3, 8, 25, .null, [784]), (139, .iconst 1, 1, 0, 0, .int (nI 1), []), (140, .iaload, 1, 0, 0, .null, []),
  (141, .ixor, 1, 0, 0, .null, []), (142, .istore 11, 2, 0, 0, .null, []), (144, .lload 8, 2, 0, 0, .null, []), (146, .l2i, 1, 0, 0, .null, []),
  (147, .aload_n 0, 1, 0, 0, .null, []), (148, .getfield 69, 3, 8, 25, .null, [784]), (151, .iconst 2, 1, 0, 0, .int (nI 2), []), (152, .iaload, 1, 0, 0, .null, []),
  (153, .ixor, 1, 0, 0, .null, []), (154, .istore 12, 2, 0, 0, .null, []), (156, .lload 8, 2, 0, 0, .null, []), (158, .bipush 32, 2, 0, 0, .int (nI 32), []),
  (160, .lshr, 1, 0, 0, .null, []), (161, .l2i, 1, 0, 0, .null, []), (162, .aload_n 0, 1, 0, 0, .null, []), (163, .getfield 69, 3, 8, 25, .null, [784]),
  (166, .iconst 3, 1, 0, 0, .int (nI 3), []), (167, .iaload, 1, 0, 0, .null, []), (168, .ixor, 1, 0, 0, .null, []), (169, .istore 13, 2, 0, 0, .null, []),
  (171, .aload_n 0, 1, 0, 0, .null, []), (172, .lload 4, 2, 0, 0, .null, []), (174, .iload_n 1, 1, 0, 0, .null, []), (175, .iload_n 3, 1, 0, 0, .null, []),
  (176, .iload 10, 2, 0, 0, .null, []), (178, .iload 11, 2, 0, 0, .null, []), (180, .iload 12, 2, 0, 0, .null, []), (182, .iload 13, 2, 0, 0, .null, []),
  (184, .invokevirtual 203, 3, 31, 0, .null, [0, 956]), (187, .aload_n 0, 1, 0, 0, .null, []), (188, .getfield 60, 3, 8, 21, .null, [780]), (191, .iload_n 2, 1, 0, 0, .null, []),
  (192, .bipush 8, 2, 0, 0, .int (nI 8), []), (194, .iload_n 3, 1, 0, 0, .null, []), (195, .imul, 1, 0, 0, .null, []), (196, .iadd, 1, 0, 0, .null, []),
  (197, .iload 10, 2, 0, 0, .null, []), (199, .iastore, 1, 0, 0, .null, []), (200, .aload_n 0, 1, 0, 0, .null, []), (201, .getfield 60, 3, 8, 21, .null, [780]),
  (204, .iload_n 2, 1, 0, 0, .null, []), (205, .bipush 8, 2, 0, 0, .int (nI 8), []), (207, .iload_n 3, 1, 0, 0, .null, []), (208, .imul, 1, 0, 0, .null, []),
  (209, .iadd, 1, 0, 0, .null, []), (210, .iconst 1, 1, 0, 0, .int (nI 1), []), (211, .iadd, 1, 0, 0, .null, []), (212, .iload 11, 2, 0, 0, .null, []),
  (214, .iastore, 1, 0, 0, .null, []), (215, .aload_n 0, 1, 0, 0, .null, []), (216, .getfield 60, 3, 8, 21, .null, [780]), (219, .iload_n 2, 1, 0, 0, .null, []),
  (220, .bipush 8, 2, 0, 0, .int (nI 8), []), (222, .iload_n 3, 1, 0, 0, .null, []), (223, .imul, 1, 0, 0, .null, []), (224, .iadd, 1, 0, 0, .null, []),
  (225, .iconst 2, 1, 0, 0, .int (nI 2), []), (226, .iadd, 1, 0, 0, .null, []), (227, .iload 12, 2, 0, 0, .null, []), (229, .iastore, 1, 0, 0, .null, []),
  (230, .aload_n 0, 1, 0, 0, .null, []), (231, .getfield 60, 3, 8, 21, .null, [780]), (234, .iload_n 2, 1, 0, 0, .null, []), (235, .bipush 8, 2, 0, 0, .int (nI 8), []),
  (237, .iload_n 3, 1, 0, 0, .null, []), (238, .imul, 1, 0, 0, .null, []), (239, .iadd, 1, 0, 0, .null, []), (240, .iconst 3, 1, 0, 0, .int (nI 3), []),
  (241, .iadd, 1, 0, 0, .null, []), (242, .iload 13, 2, 0, 0, .null, []), (244, .iastore, 1, 0, 0, .null, []), (245, .iconst 0, 1, 0, 0, .int (nI 0), []),
  (246, .istore 14, 2, 0, 0, .null, []), (248, .iload 14, 2, 0, 0, .null, []), (250, .iconst 4, 1, 0, 0, .int (nI 4), []), (251, .if_icmp .ge (32), 3, 283, 0, .null, []),
  (254, .aload_n 0, 1, 0, 0, .null, []), (255, .getfield 60, 3, 8, 21, .null, [780]), (258, .iload_n 2, 1, 0, 0, .null, []), (259, .bipush 8, 2, 0, 0, .int (nI 8), []),
  (261, .iload_n 3, 1, 0, 0, .null, []), (262, .imul, 1, 0, 0, .null, []), (263, .iadd, 1, 0, 0, .null, []), (264, .iconst 4, 1, 0, 0, .int (nI 4), []),
  (265, .iadd, 1, 0, 0, .null, []), (266, .iload 14, 2, 0, 0, .null, []), (268, .iadd, 1, 0, 0, .null, []), (269, .aload_n 0, 1, 0, 0, .null, []),
  (270, .getfield 84, 3, 8, 30, .null, [789]), (273, .iload 14, 2, 0, 0, .null, []), (275, .iaload, 1, 0, 0, .null, []), (276, .iastore, 1, 0, 0, .null, []),
  (277, .iinc 14 (1), 3, 0, 0, .null, []), (280, .goto (-32), 3, 248, 0, .null, []), (283, .iinc 3 (1), 3, 0, 0, .null, []), (286, .goto (-274), 3, 12, 0, .null, []),
  (289, .return_, 1, 0, 0, .null, [])]
-- MaskedSumModel.sendMasked(I)V
def ms_c47 : List (Nat × ms_I) := [(0, .aload_n 0, 1, 0, 0, .null, []), (1, .iconst 2, 1, 0, 0, .int (nI 2), []), (2, .iload_n 1, 1, 0, 0, .null, []), (3, .iconst 0, 1, 0, 0, .int (nI 0), []),
  (4, .iconst 4, 1, 0, 0, .int (nI 4), []), (5, .invokevirtual 181, 3, 40, 0, .null, [0, 904]), (8, .istore_n 2, 1, 0, 0, .null, []), (9, .iconst 0, 1, 0, 0, .int (nI 0), []),
  (10, .istore_n 3, 1, 0, 0, .null, []), (11, .iload_n 3, 1, 0, 0, .null, []), (12, .iconst 4, 1, 0, 0, .int (nI 4), []), (13, .if_icmp .ge (45), 3, 58, 0, .null, []),
  (16, .aload_n 0, 1, 0, 0, .null, []), (17, .getfield 60, 3, 8, 21, .null, [780]), (20, .iload_n 2, 1, 0, 0, .null, []), (21, .iload_n 3, 1, 0, 0, .null, []),
  (22, .iadd, 1, 0, 0, .null, []), (23, .aload_n 0, 1, 0, 0, .null, []), (24, .getfield 17, 3, 8, 6, .null, [765]), (27, .iconst 4, 1, 0, 0, .int (nI 4), []),
  (28, .iload_n 1, 1, 0, 0, .null, []), (29, .imul, 1, 0, 0, .null, []), (30, .iload_n 3, 1, 0, 0, .null, []), (31, .iadd, 1, 0, 0, .null, []),
  (32, .iaload, 1, 0, 0, .null, []), (33, .aload_n 0, 1, 0, 0, .null, []), (34, .aload_n 0, 1, 0, 0, .null, []), (35, .getfield 13, 3, 8, 5, .null, [764]),
  (38, .iconst 3, 1, 0, 0, .int (nI 3), []), (39, .iload_n 1, 1, 0, 0, .null, []), (40, .imul, 1, 0, 0, .null, []), (41, .iconst 2, 1, 0, 0, .int (nI 2), []),
  (42, .iadd, 1, 0, 0, .null, []), (43, .laload, 1, 0, 0, .null, []), (44, .iconst 0, 1, 0, 0, .int (nI 0), []), (45, .iload_n 1, 1, 0, 0, .null, []),
  (46, .iload_n 3, 1, 0, 0, .null, []), (47, .invokevirtual 150, 3, 27, 0, .null, [0, 937]), (50, .iadd, 1, 0, 0, .null, []), (51, .iastore, 1, 0, 0, .null, []),
  (52, .iinc 3 (1), 3, 0, 0, .null, []), (55, .goto (-44), 3, 11, 0, .null, []), (58, .iconst 0, 1, 0, 0, .int (nI 0), []), (59, .istore_n 3, 1, 0, 0, .null, []),
  (60, .iload_n 3, 1, 0, 0, .null, []), (61, .aload_n 0, 1, 0, 0, .null, []), (62, .getfield 160, 3, 8, 1, .null, [760]), (65, .if_icmp .ge (128), 3, 193, 0, .null, []),
  (68, .iload_n 3, 1, 0, 0, .null, []), (69, .iload_n 1, 1, 0, 0, .null, []), (70, .if_icmp .eq (117), 3, 187, 0, .null, []), (73, .aload_n 0, 1, 0, 0, .null, []),
  (74, .getfield 33, 3, 8, 11, .null, [770]), (77, .iconst 3, 1, 0, 0, .int (nI 3), []), (78, .iload_n 1, 1, 0, 0, .null, []), (79, .imul, 1, 0, 0, .null, []),
  (80, .iconst 1, 1, 0, 0, .int (nI 1), []), (81, .iadd, 1, 0, 0, .null, []), (82, .iaload, 1, 0, 0, .null, []), (83, .iload_n 3, 1, 0, 0, .null, []),
  (84, .invokestatic 191, 3, 42, 0, .null, [0, 926]), (87, .ifCond .ne (6), 3, 93, 0, .null, []), (90, .goto (97), 3, 187, 0, .null, []), (93, .aload_n 0, 1, 0, 0, .null, []),
  (94, .aload_n 0, 1, 0, 0, .null, []), (95, .getfield 36, 3, 8, 12, .null, [771]), (98, .bipush 32, 2, 0, 0, .int (nI 32), []), (100, .iload_n 1, 1, 0, 0, .null, []),
  (101, .imul, 1, 0, 0, .null, []), (102, .iconst 4, 1, 0, 0, .int (nI 4), []), (103, .iload_n 3, 1, 0, 0, .null, []), (104, .imul, 1, 0, 0, .null, []),
  (105, .iadd, 1, 0, 0, .null, []), (106, .iaload, 1, 0, 0, .null, []), (107, .aload_n 0, 1, 0, 0, .null, []), (108, .getfield 36, 3, 8, 12, .null, [771]),
  (111, .bipush 32, 2, 0, 0, .int (nI 32), []), (113, .iload_n 1, 1, 0, 0, .null, []), (114, .imul, 1, 0, 0, .null, []), (115, .iconst 4, 1, 0, 0, .int (nI 4), []),
  (116, .iload_n 3, 1, 0, 0, .null, []), (117, .imul, 1, 0, 0, .null, []), (118, .iadd, 1, 0, 0, .null, []), (119, .iconst 1, 1, 0, 0, .int (nI 1), []),
  (120, .iadd, 1, 0, 0, .null, []), (121, .iaload, 1, 0, 0, .null, []), (122, .aload_n 0, 1, 0, 0, .null, []), (123, .getfield 13, 3, 8, 5, .null, [764]),
  (126, .iconst 3, 1, 0, 0, .int (nI 3), []), (127, .iload_n 1, 1, 0, 0, .null, []), (128, .imul, 1, 0, 0, .null, []), (129, .laload, 1, 0, 0, .null, []),
  (130, .invokevirtual 195, 3, 33, 0, .null, [0, 929]), (133, .lstore 4, 2, 0, 0, .null, []), (135, .iconst 0, 1, 0, 0, .int (nI 0), []), (136, .istore 6, 2, 0, 0, .null, []),
  (138, .iload 6, 2, 0, 0, .null, []), (140, .iconst 4, 1, 0, 0, .int (nI 4), []), (141, .if_icmp .ge (46), 3, 187, 0, .null, []), (144, .aload_n 0, 1, 0, 0, .null, []),
  (145, .lload 4, 2, 0, 0, .null, []), (147, .iconst 1, 1, 0, 0, .int (nI 1), []), (148, .iconst 0, 1, 0, 0, .int (nI 0), []), (149, .iload 6, 2, 0, 0, .null, []),
  (151, .invokevirtual 150, 3, 27, 0, .null, [0, 937]), (154, .istore 7, 2, 0, 0, .null, []), (156, .aload_n 0, 1, 0, 0, .null, []), (157, .getfield 60, 3, 8, 21, .null, [780]),
  (160, .iload_n 2, 1, 0, 0, .null, []), (161, .iload 6, 2, 0, 0, .null, []), (163, .iadd, 1, 0, 0, .null, []), (164, .dup2, 1, 0, 0, .null, []),
  (165, .iaload, 1, 0, 0, .null, []), (166, .iload_n 3, 1, 0, 0, .null, []), (167, .iload_n 1, 1, 0, 0, .null, []), (168, .if_icmp .le (8), 3, 176, 0, .null, []),
  (171, .iload 7, 2, 0, 0, .null, []), (173, .goto (6), 3, 179, 0, .null, []), (176, .iload 7, 2, 0, 0, .null, []), (178, .ineg, 1, 0, 0, .null, []),
  (179, .iadd, 1, 0, 0, .null, []), (180, .iastore, 1, 0, 0, .null, []), (181, .iinc 6 (1), 3, 0, 0, .null, []), (184, .goto (-46), 3, 138, 0, .null, []),
  (187, .iinc 3 (1), 3, 0, 0, .null, []), (190, .goto (-130), 3, 60, 0, .null, []), (193, .return_, 1, 0, 0, .null, [])]
-- MaskedSumModel.sendShares(I)V
def ms_c48 : List (Nat × ms_I) := [(0, .aload_n 0, 1, 0, 0, .null, []), (1, .iconst 3, 1, 0, 0, .int (nI 3), []), (2, .iload_n 1, 1, 0, 0, .null, []), (3, .iconst 0, 1, 0, 0, .int (nI 0), []),
  (4, .bipush 17, 2, 0, 0, .int (nI 17), []), (6, .invokevirtual 181, 3, 40, 0, .null, [0, 904]), (9, .istore_n 2, 1, 0, 0, .null, []), (10, .iconst 0, 1, 0, 0, .int (nI 0), []),
  (11, .istore_n 3, 1, 0, 0, .null, []), (12, .iload_n 3, 1, 0, 0, .null, []), (13, .aload_n 0, 1, 0, 0, .null, []), (14, .getfield 160, 3, 8, 1, .null, [760]),
  (17, .if_icmp .ge (369), 3, 386, 0, .null, []), (20, .aload_n 0, 1, 0, 0, .null, []), (21, .getfield 33, 3, 8, 11, .null, [770]), (24, .iconst 3, 1, 0, 0, .int (nI 3), []),
  (25, .iload_n 1, 1, 0, 0, .null, []), (26, .imul, 1, 0, 0, .null, []), (27, .iconst 1, 1, 0, 0, .int (nI 1), []), (28, .iadd, 1, 0, 0, .null, []),
  (29, .iaload, 1, 0, 0, .null, []), (30, .iload_n 3, 1, 0, 0, .null, []), (31, .invokestatic 191, 3, 42, 0, .null, [0, 926]), (34, .ifCond .ne (6), 3, 40, 0, .null, []),
  (37, .goto (343), 3, 380, 0, .null, []), (40, .aload_n 0, 1, 0, 0, .null, []), (41, .getfield 33, 3, 8, 11, .null, [770]), (44, .iconst 3, 1, 0, 0, .int (nI 3), []),
  (45, .iload_n 1, 1, 0, 0, .null, []), (46, .imul, 1, 0, 0, .null, []), (47, .iconst 2, 1, 0, 0, .int (nI 2), []), (48, .iadd, 1, 0, 0, .null, []),
  (49, .iaload, 1, 0, 0, .null, []), (50, .iload_n 3, 1, 0, 0, .null, []), (51, .invokestatic 191, 3, 42, 0, .null, [0, 926]), (54, .istore 4, 2, 0, 0, .null, []),
  (56, .iload_n 3, 1, 0, 0, .null, []), (57, .iload_n 1, 1, 0, 0, .null, []), (58, .if_icmp .ne (33), 3, 91, 0, .null, []), (61, .aload_n 0, 1, 0, 0, .null, []),
  (62, .iload_n 2, 1, 0, 0, .null, []), (63, .iconst 1, 1, 0, 0, .int (nI 1), []), (64, .iadd, 1, 0, 0, .null, []), (65, .iconst 2, 1, 0, 0, .int (nI 2), []),
  (66, .iload_n 3, 1, 0, 0, .null, []), (67, .imul, 1, 0, 0, .null, []), (68, .iadd, 1, 0, 0, .null, []), (69, .aload_n 0, 1, 0, 0, .null, []),
  (70, .iload_n 1, 1, 0, 0, .null, []), (71, .iload 4, 2, 0, 0, .null, []), (73, .ifCond .eq (7), 3, 80, 0, .null, []), (76, .iconst 1, 1, 0, 0, .int (nI 1), []),
  (77, .goto (4), 3, 81, 0, .null, []), (80, .iconst 0, 1, 0, 0, .int (nI 0), []), (81, .iload_n 1, 1, 0, 0, .null, []), (82, .invokevirtual 199, 3, 34, 0, .null, [0, 933]),
  (85, .invokevirtual 187, 3, 44, 0, .null, [0, 918]), (88, .goto (248), 3, 336, 0, .null, []), (91, .bipush 64, 2, 0, 0, .int (nI 64), []), (93, .iload_n 1, 1, 0, 0, .null, []),
  (94, .imul, 1, 0, 0, .null, []), (95, .bipush 8, 2, 0, 0, .int (nI 8), []), (97, .iload_n 3, 1, 0, 0, .null, []), (98, .imul, 1, 0, 0, .null, []),
  (99, .iadd, 1, 0, 0, .null, []), (100, .istore 5, 2, 0, 0, .null, []), (102, .aload_n 0, 1, 0, 0, .null, []), (103, .aload_n 0, 1, 0, 0, .null, []),
  (104, .getfield 36, 3, 8, 12, .null, [771]), (107, .bipush 32, 2, 0, 0, .int (nI 32), []), (109, .iload_n 1, 1, 0, 0, .null, []), (110, .imul, 1, 0, 0, .null, []),
  (111, .iconst 4, 1, 0, 0, .int (nI 4), []), (112, .iload_n 3, 1, 0, 0, .null, []), (113, .imul, 1, 0, 0, .null, []), (114, .iadd, 1, 0, 0, .null, []),
  (115, .iconst 2, 1, 0, 0, .int (nI 2), []), (116, .iadd, 1, 0, 0, .null, []), (117, .iaload, 1, 0, 0, .null, []), (118, .aload_n 0, 1, 0, 0, .null, []),
  (119, .getfield 36, 3, 8, 12, .null, [771]), (122, .bipush 32, 2, 0, 0, .int (nI 32), []), (124, .iload_n 1, 1, 0, 0, .null, []), (125, .imul, 1, 0, 0, .null, []),
  (126, .iconst 4, 1, 0, 0, .int (nI 4), []), (127, .iload_n 3, 1, 0, 0, .null, []), (128, .imul, 1, 0, 0, .null, []), (129, .iadd, 1, 0, 0, .null, []),
  (130, .iconst 3, 1, 0, 0, .int (nI 3), []), (131, .iadd, 1, 0, 0, .null, []), (132, .iaload, 1, 0, 0, .null, []), (133, .aload_n 0, 1, 0, 0, .null, []),
  (134, .getfield 13, 3, 8, 5, .null, [764]), (137, .iconst 3, 1, 0, 0, .int (nI 3), []), (138, .iload_n 1, 1, 0, 0, .null, []), (139, .imul, 1, 0, 0, .null, []),
  (140, .iconst 1, 1, 0, 0, .int (nI 1), []), (141, .iadd, 1, 0, 0, .null, []), (142, .laload, 1, 0, 0, .null, []), (143, .invokevirtual 195, 3, 33, 0, .null, [0, 929]),
  (146, .lstore 6, 2, 0, 0, .null, []), (148, .aload_n 0, 1, 0, 0, .null, []), (149, .lload 6, 2, 0, 0, .null, []), (151, .iload_n 3, 1, 0, 0, .null, []),
  (152, .iload_n 1, 1, 0, 0, .null, []), (153, .aload_n 0, 1, 0, 0, .null, []), (154, .getfield 39, 3, 8, 13, .null, [772]), (157, .iload 5, 2, 0, 0, .null, []),
  (159, .iaload, 1, 0, 0, .null, []), (160, .aload_n 0, 1, 0, 0, .null, []), (161, .getfield 39, 3, 8, 13, .null, [772]), (164, .iload 5, 2, 0, 0, .null, []),
  (166, .iconst 1, 1, 0, 0, .int (nI 1), []), (167, .iadd, 1, 0, 0, .null, []), (168, .iaload, 1, 0, 0, .null, []), (169, .aload_n 0, 1, 0, 0, .null, []),
  (170, .getfield 39, 3, 8, 13, .null, [772]), (173, .iload 5, 2, 0, 0, .null, []), (175, .iconst 2, 1, 0, 0, .int (nI 2), []), (176, .iadd, 1, 0, 0, .null, []),
  (177, .iaload, 1, 0, 0, .null, []), (178, .aload_n 0, 1, 0, 0, .null, []), (179, .getfield 39, 3, 8, 13, .null, [772]), (182, .iload 5, 2, 0, 0, .null, []),
  (184, .iconst 3, 1, 0, 0, .int (nI 3), []), (185, .iadd, 1, 0, 0, .null, []), (186, .iaload, 1, 0, 0, .null, []), (187, .invokevirtual 203, 3, 31, 0, .null, [0, 956]),
  (190, .iconst 1, 1, 0, 0, .int (nI 1), []), (191, .istore 8, 2, 0, 0, .null, []), (193, .iconst 0, 1, 0, 0, .int (nI 0), []), (194, .istore 9, 2, 0, 0, .null, []),
  (196, .iload 9, 2, 0, 0, .null, []), (198, .iconst 4, 1, 0, 0, .int (nI 4), []), (199, .if_icmp .ge (43), 3, 242, 0, .null, []), (202, .iload 8, 2, 0, 0, .null, []),
  (204, .ifCond .eq (29), 3, 233, 0, .null, []), (207, .aload_n 0, 1, 0, 0, .null, []), (208, .getfield 84, 3, 8, 30, .null, [789]), (211, .iload 9, 2, 0, 0, .null, []),
  (213, .iaload, 1, 0, 0, .null, []), (214, .aload_n 0, 1, 0, 0, .null, []), (215, .getfield 39, 3, 8, 13, .null, [772]), (218, .iload 5, 2, 0, 0, .null, []),
  (220, .iconst 4, 1, 0, 0, .int (nI 4), []), (221, .iadd, 1, 0, 0, .null, []), (222, .iload 9, 2, 0, 0, .null, []), (224, .iadd, 1, 0, 0, .null, []),
  (225, .iaload, 1, 0, 0, .null, []), (226, .if_icmp .ne (7), 3, 233, 0, .null, []), (229, .iconst 1, 1, 0, 0, .int (nI 1), []), (230, .goto (4), 3, 234, 0, .null, []),
  (233, .iconst 0, 1, 0, 0, .int (nI 0), []), (234, .istore 8, 2, 0, 0, .null, []), (236, .iinc 9 (1), 3, 0, 0, .null, []), (239, .goto (-43), 3, 196, 0, .null, []),
  (242, .iload 8, 2, 0, 0, .null, []), (244, .ifCond .ne (6), 3, 250, 0, .null, []), (247, .goto (133), 3, 380, 0, .null, []), (250, .aload_n 0, 1, 0, 0, .null, []),
  (251, .lload 6, 2, 0, 0, .null, []), (253, .iload_n 3, 1, 0, 0, .null, []), (254, .iload_n 1, 1, 0, 0, .null, []), (255, .iconst 1, 1, 0, 0, .int (nI 1), []),
  (256, .iconst 1, 1, 0, 0, .int (nI 1), []), (257, .invokevirtual 117, 3, 26, 0, .null, [0, 941]), (260, .iload 4, 2, 0, 0, .null, []), (262, .ifCond .eq (7), 3, 269, 0, .null, []),
  (265, .iconst 0, 1, 0, 0, .int (nI 0), []), (266, .goto (4), 3, 270, 0, .null, []), (269, .iconst 2, 1, 0, 0, .int (nI 2), []), (270, .istore 9, 2, 0, 0, .null, []),
  (272, .aload_n 0, 1, 0, 0, .null, []), (273, .getfield 60, 3, 8, 21, .null, [780]), (276, .iload_n 2, 1, 0, 0, .null, []), (277, .iconst 1, 1, 0, 0, .int (nI 1), []),
  (278, .iadd, 1, 0, 0, .null, []), (279, .iconst 2, 1, 0, 0, .int (nI 2), []), (280, .iload_n 3, 1, 0, 0, .null, []), (281, .imul, 1, 0, 0, .null, []),
  (282, .iadd, 1, 0, 0, .null, []), (283, .aload_n 0, 1, 0, 0, .null, []), (284, .getfield 39, 3, 8, 13, .null, [772]), (287, .iload 5, 2, 0, 0, .null, []),
  (289, .iload 9, 2, 0, 0, .null, []), (291, .iadd, 1, 0, 0, .null, []), (292, .iaload, 1, 0, 0, .null, []), (293, .aload_n 0, 1, 0, 0, .null, []),
  (294, .getfield 69, 3, 8, 25, .null, [784]), (297, .iload 9, 2, 0, 0, .null, []), (299, .iaload, 1, 0, 0, .null, []), (300, .ixor, 1, 0, 0, .null, []),
  (301, .iastore, 1, 0, 0, .null, []), (302, .aload_n 0, 1, 0, 0, .null, []), (303, .getfield 60, 3, 8, 21, .null, [780]), (306, .iload_n 2, 1, 0, 0, .null, []),
  (307, .iconst 2, 1, 0, 0, .int (nI 2), []), (308, .iadd, 1, 0, 0, .null, []), (309, .iconst 2, 1, 0, 0, .int (nI 2), []), (310, .iload_n 3, 1, 0, 0, .null, []),
  (311, .imul, 1, 0, 0, .null, []), (312, .iadd, 1, 0, 0, .null, []), (313, .aload_n 0, 1, 0, 0, .null, []), (314, .getfield 39, 3, 8, 13, .null, [772]),
  (317, .iload 5, 2, 0, 0, .null, []), (319, .iload 9, 2, 0, 0, .null, []), (321, .iadd, 1, 0, 0, .null, []), (322, .iconst 1, 1, 0, 0, .int (nI 1), []),
  (323, .iadd, 1, 0, 0, .null, []), (324, .iaload, 1, 0, 0, .null, []), (325, .aload_n 0, 1, 0, 0, .null, []), (326, .getfield 69, 3, 8, 25, .null, [784]),
  (329, .iload 9, 2, 0, 0, .null, []), (331, .iconst 1, 1, 0, 0, .int (nI 1), []), (332, .iadd, 1, 0, 0, .null, []), (333, .iaload, 1, 0, 0, .null, []),
  (334, .ixor, 1, 0, 0, .null, []), (335, .iastore, 1, 0, 0, .null, []), (336, .aload_n 0, 1, 0, 0, .null, []), (337, .getfield 60, 3, 8, 21, .null, [780]),
  (340, .iload_n 2, 1, 0, 0, .null, []), (341, .dup2, 1, 0, 0, .null, []), (342, .iaload, 1, 0, 0, .null, []), (343, .iconst 1, 1, 0, 0, .int (nI 1), []),
  (344, .iload_n 3, 1, 0, 0, .null, []), (345, .ishl, 1, 0, 0, .null, []), (346, .ior, 1, 0, 0, .null, []), (347, .iastore, 1, 0, 0, .null, []),
  (348, .iload 4, 2, 0, 0, .null, []), (350, .ifCond .eq (18), 3, 368, 0, .null, []), (353, .aload_n 0, 1, 0, 0, .null, []), (354, .getfield 27, 3, 8, 9, .null, [768]),
  (357, .iload_n 1, 1, 0, 0, .null, []), (358, .dup2, 1, 0, 0, .null, []), (359, .iaload, 1, 0, 0, .null, []), (360, .iconst 1, 1, 0, 0, .int (nI 1), []),
  (361, .iload_n 3, 1, 0, 0, .null, []), (362, .ishl, 1, 0, 0, .null, []), (363, .ior, 1, 0, 0, .null, []), (364, .iastore, 1, 0, 0, .null, []),
  (365, .goto (15), 3, 380, 0, .null, []), (368, .aload_n 0, 1, 0, 0, .null, []), (369, .getfield 30, 3, 8, 10, .null, [769]), (372, .iload_n 1, 1, 0, 0, .null, []),
  (373, .dup2, 1, 0, 0, .null, []), (374, .iaload, 1, 0, 0, .null, []), (375, .iconst 1, 1, 0, 0, .int (nI 1), []), (376, .iload_n 3, 1, 0, 0, .null, []),
  (377, .ishl, 1, 0, 0, .null, []), (378, .ior, 1, 0, 0, .null, []), (379, .iastore, 1, 0, 0, .null, []), (380, .iinc 3 (1), 3, 0, 0, .null, []),
  (383, .goto (-371), 3, 12, 0, .null, []), (386, .return_, 1, 0, 0, .null, [])]
-- MaskedSumModel.step(I)Z
def ms_c49 : List (Nat × ms_I) := [(0, .aload_n 0, 1, 0, 0, .null, []), (1, .aload_n 0, 1, 0, 0, .null, []), (2, .iload_n 1, 1, 0, 0, .null, []), (3, .invokevirtual 177, 3, 37, 0, .null, [0, 882]),
  (6, .ifCond .ne (7), 3, 13, 0, .null, []), (9, .iconst 1, 1, 0, 0, .int (nI 1), []), (10, .goto (15), 3, 25, 0, .null, []), (13, .aload_n 0, 1, 0, 0, .null, []),
  (14, .invokevirtual 173, 3, 36, 0, .null, [0, 878]), (17, .ifCond .ne (7), 3, 24, 0, .null, []), (20, .iconst 2, 1, 0, 0, .int (nI 2), []), (21, .goto (4), 3, 25, 0, .null, []),
  (24, .iconst 0, 1, 0, 0, .int (nI 0), []), (25, .putfield 90, 3, 8, 0, .null, [759]), (28, .aload_n 0, 1, 0, 0, .null, []), (29, .getfield 90, 3, 8, 0, .null, [759]),
  (32, .ifCond .gt (28), 3, 60, 0, .null, []), (35, .aload_n 0, 1, 0, 0, .null, []), (36, .getfield 21, 3, 8, 7, .null, [766]), (39, .iload_n 1, 1, 0, 0, .null, []),
  (40, .iaload, 1, 0, 0, .null, []), (41, .iconst 3, 1, 0, 0, .int (nI 3), []), (42, .if_icmp .gt (18), 3, 60, 0, .null, []), (45, .aload_n 0, 1, 0, 0, .null, []),
  (46, .getfield 24, 3, 8, 8, .null, [767]), (49, .iload_n 1, 1, 0, 0, .null, []), (50, .iaload, 1, 0, 0, .null, []), (51, .aload_n 0, 1, 0, 0, .null, []),
  (52, .getfield 21, 3, 8, 7, .null, [766]), (55, .iload_n 1, 1, 0, 0, .null, []), (56, .iaload, 1, 0, 0, .null, []), (57, .if_icmp .ge (5), 3, 62, 0, .null, []),
  (60, .iconst 0, 1, 0, 0, .int (nI 0), []), (61, .ireturn, 1, 0, 0, .null, []), (62, .aload_n 0, 1, 0, 0, .null, []), (63, .getfield 21, 3, 8, 7, .null, [766]),
  (66, .iload_n 1, 1, 0, 0, .null, []), (67, .iaload, 1, 0, 0, .null, []), (68, .ifCond .ne (11), 3, 79, 0, .null, []), (71, .aload_n 0, 1, 0, 0, .null, []),
  (72, .iload_n 1, 1, 0, 0, .null, []), (73, .invokevirtual 207, 3, 45, 0, .null, [0, 900]), (76, .goto (44), 3, 120, 0, .null, []), (79, .aload_n 0, 1, 0, 0, .null, []),
  (80, .getfield 21, 3, 8, 7, .null, [766]), (83, .iload_n 1, 1, 0, 0, .null, []), (84, .iaload, 1, 0, 0, .null, []), (85, .iconst 1, 1, 0, 0, .int (nI 1), []),
  (86, .if_icmp .ne (11), 3, 97, 0, .null, []), (89, .aload_n 0, 1, 0, 0, .null, []), (90, .iload_n 1, 1, 0, 0, .null, []), (91, .invokevirtual 211, 3, 46, 0, .null, [0, 922]),
  (94, .goto (26), 3, 120, 0, .null, []), (97, .aload_n 0, 1, 0, 0, .null, []), (98, .getfield 21, 3, 8, 7, .null, [766]), (101, .iload_n 1, 1, 0, 0, .null, []),
  (102, .iaload, 1, 0, 0, .null, []), (103, .iconst 2, 1, 0, 0, .int (nI 2), []), (104, .if_icmp .ne (11), 3, 115, 0, .null, []), (107, .aload_n 0, 1, 0, 0, .null, []),
  (108, .iload_n 1, 1, 0, 0, .null, []), (109, .invokevirtual 214, 3, 47, 0, .null, [0, 979]), (112, .goto (8), 3, 120, 0, .null, []), (115, .aload_n 0, 1, 0, 0, .null, []),
  (116, .iload_n 1, 1, 0, 0, .null, []), (117, .invokevirtual 217, 3, 48, 0, .null, [0, 983]), (120, .aload_n 0, 1, 0, 0, .null, []), (121, .getfield 21, 3, 8, 7, .null, [766]),
  (124, .iload_n 1, 1, 0, 0, .null, []), (125, .dup2, 1, 0, 0, .null, []), (126, .iaload, 1, 0, 0, .null, []), (127, .iconst 1, 1, 0, 0, .int (nI 1), []),
  (128, .iadd, 1, 0, 0, .null, []), (129, .iastore, 1, 0, 0, .null, []), (130, .iconst 1, 1, 0, 0, .int (nI 1), []), (131, .ireturn, 1, 0, 0, .null, [])]
-- MaskedSumModel.answered(I)Z
def ms_c50 : List (Nat × ms_I) := [(0, .aload_n 0, 1, 0, 0, .null, []), (1, .getfield 60, 3, 8, 21, .null, [780]), (4, .iload_n 1, 1, 0, 0, .null, []), (5, .iaload, 1, 0, 0, .null, []),
  (6, .istore_n 2, 1, 0, 0, .null, []), (7, .aload_n 0, 1, 0, 0, .null, []), (8, .getfield 60, 3, 8, 21, .null, [780]), (11, .iload_n 1, 1, 0, 0, .null, []),
  (12, .iconst 1, 1, 0, 0, .int (nI 1), []), (13, .iadd, 1, 0, 0, .null, []), (14, .iaload, 1, 0, 0, .null, []), (15, .istore_n 3, 1, 0, 0, .null, []),
  (16, .aload_n 0, 1, 0, 0, .null, []), (17, .getfield 60, 3, 8, 21, .null, [780]), (20, .iload_n 1, 1, 0, 0, .null, []), (21, .iconst 4, 1, 0, 0, .int (nI 4), []),
  (22, .iadd, 1, 0, 0, .null, []), (23, .iaload, 1, 0, 0, .null, []), (24, .istore 4, 2, 0, 0, .null, []), (26, .aload_n 0, 1, 0, 0, .null, []),
  (27, .getfield 21, 3, 8, 7, .null, [766]), (30, .iload_n 3, 1, 0, 0, .null, []), (31, .iaload, 1, 0, 0, .null, []), (32, .iload_n 2, 1, 0, 0, .null, []),
  (33, .iconst 1, 1, 0, 0, .int (nI 1), []), (34, .iadd, 1, 0, 0, .null, []), (35, .if_icmp .ne (53), 3, 88, 0, .null, []), (38, .aload_n 0, 1, 0, 0, .null, []),
  (39, .getfield 24, 3, 8, 8, .null, [767]), (42, .iload_n 3, 1, 0, 0, .null, []), (43, .iaload, 1, 0, 0, .null, []), (44, .iload_n 2, 1, 0, 0, .null, []),
  (45, .if_icmp .ne (43), 3, 88, 0, .null, []), (48, .iload 4, 2, 0, 0, .null, []), (50, .aload_n 0, 1, 0, 0, .null, []), (51, .getfield 160, 3, 8, 1, .null, [760]),
  (54, .ishr, 1, 0, 0, .null, []), (55, .ifCond .ne (33), 3, 88, 0, .null, []), (58, .iload 4, 2, 0, 0, .null, []), (60, .invokestatic 220, 3, 43, 0, .null, [0, 999]),
  (63, .aload_n 0, 1, 0, 0, .null, []), (64, .getfield 147, 3, 8, 2, .null, [761]), (67, .if_icmp .lt (21), 3, 88, 0, .null, []), (70, .iload_n 2, 1, 0, 0, .null, []),
  (71, .iconst 2, 1, 0, 0, .int (nI 2), []), (72, .if_icmp .eq (12), 3, 84, 0, .null, []), (75, .iload 4, 2, 0, 0, .null, []), (77, .iload_n 3, 1, 0, 0, .null, []),
  (78, .invokestatic 191, 3, 42, 0, .null, [0, 926]), (81, .ifCond .eq (7), 3, 88, 0, .null, []), (84, .iconst 1, 1, 0, 0, .int (nI 1), []), (85, .goto (4), 3, 89, 0, .null, []),
  (88, .iconst 0, 1, 0, 0, .int (nI 0), []), (89, .istore 5, 2, 0, 0, .null, []), (91, .iload 5, 2, 0, 0, .null, []), (93, .ifCond .eq (34), 3, 127, 0, .null, []),
  (96, .iload_n 2, 1, 0, 0, .null, []), (97, .ifCond .le (30), 3, 127, 0, .null, []), (100, .iload 4, 2, 0, 0, .null, []), (102, .aload_n 0, 1, 0, 0, .null, []),
  (103, .getfield 33, 3, 8, 11, .null, [770]), (106, .iconst 3, 1, 0, 0, .int (nI 3), []), (107, .iload_n 3, 1, 0, 0, .null, []), (108, .imul, 1, 0, 0, .null, []),
  (109, .iload_n 2, 1, 0, 0, .null, []), (110, .iadd, 1, 0, 0, .null, []), (111, .iconst 1, 1, 0, 0, .int (nI 1), []), (112, .isub, 1, 0, 0, .null, []),
  (113, .iaload, 1, 0, 0, .null, []), (114, .iconst (-1), 1, 0, 0, .int (-1), []), (115, .ixor, 1, 0, 0, .null, []), (116, .iand, 1, 0, 0, .null, []),
  (117, .ifCond .ne (7), 3, 124, 0, .null, []), (120, .iconst 1, 1, 0, 0, .int (nI 1), []), (121, .goto (4), 3, 125, 0, .null, []), (124, .iconst 0, 1, 0, 0, .int (nI 0), []),
  (125, .istore 5, 2, 0, 0, .null, []), (127, .iload 5, 2, 0, 0, .null, []), (129, .ifCond .ne (5), 3, 134, 0, .null, []), (132, .iconst 0, 1, 0, 0, .int (nI 0), []),
  (133, .ireturn, 1, 0, 0, .null, []), (134, .aload_n 0, 1, 0, 0, .null, []), (135, .getfield 24, 3, 8, 8, .null, [767]), (138, .iload_n 3, 1, 0, 0, .null, []),
  (139, .dup2, 1, 0, 0, .null, []), (140, .iaload, 1, 0, 0, .null, []), (141, .iconst 1, 1, 0, 0, .int (nI 1), []), (142, .iadd, 1, 0, 0, .null, []),
  (143, .iastore, 1, 0, 0, .null, []), (144, .aload_n 0, 1, 0, 0, .null, []), (145, .getfield 33, 3, 8, 11, .null, [770]), (148, .iconst 3, 1, 0, 0, .int (nI 3), []),
  (149, .iload_n 3, 1, 0, 0, .null, []), (150, .imul, 1, 0, 0, .null, []), (151, .iload_n 2, 1, 0, 0, .null, []), (152, .iadd, 1, 0, 0, .null, []),
  (153, .iload 4, 2, 0, 0, .null, []), (155, .iastore, 1, 0, 0, .null, []), (156, .iconst 0, 1, 0, 0, .int (nI 0), []), (157, .istore 6, 2, 0, 0, .null, []),
  (159, .iload 6, 2, 0, 0, .null, []), (161, .bipush 32, 2, 0, 0, .int (nI 32), []), (163, .if_icmp .ge (36), 3, 199, 0, .null, []), (166, .iload_n 2, 1, 0, 0, .null, []),
  (167, .ifCond .ne (32), 3, 199, 0, .null, []), (170, .aload_n 0, 1, 0, 0, .null, []), (171, .getfield 36, 3, 8, 12, .null, [771]), (174, .bipush 32, 2, 0, 0, .int (nI 32), []),
  (176, .iload_n 3, 1, 0, 0, .null, []), (177, .imul, 1, 0, 0, .null, []), (178, .iload 6, 2, 0, 0, .null, []), (180, .iadd, 1, 0, 0, .null, []),
  (181, .aload_n 0, 1, 0, 0, .null, []), (182, .getfield 60, 3, 8, 21, .null, [780]), (185, .iload_n 1, 1, 0, 0, .null, []), (186, .iconst 5, 1, 0, 0, .int (nI 5), []),
  (187, .iadd, 1, 0, 0, .null, []), (188, .iload 6, 2, 0, 0, .null, []), (190, .iadd, 1, 0, 0, .null, []), (191, .iaload, 1, 0, 0, .null, []),
  (192, .iastore, 1, 0, 0, .null, []), (193, .iinc 6 (1), 3, 0, 0, .null, []), (196, .goto (-37), 3, 159, 0, .null, []), (199, .iconst 0, 1, 0, 0, .int (nI 0), []),
  (200, .istore 6, 2, 0, 0, .null, []), (202, .iload 6, 2, 0, 0, .null, []), (204, .bipush 64, 2, 0, 0, .int (nI 64), []), (206, .if_icmp .ge (37), 3, 243, 0, .null, []),
  (209, .iload_n 2, 1, 0, 0, .null, []), (210, .iconst 1, 1, 0, 0, .int (nI 1), []), (211, .if_icmp .ne (32), 3, 243, 0, .null, []), (214, .aload_n 0, 1, 0, 0, .null, []),
  (215, .getfield 39, 3, 8, 13, .null, [772]), (218, .bipush 64, 2, 0, 0, .int (nI 64), []), (220, .iload_n 3, 1, 0, 0, .null, []), (221, .imul, 1, 0, 0, .null, []),
  (222, .iload 6, 2, 0, 0, .null, []), (224, .iadd, 1, 0, 0, .null, []), (225, .aload_n 0, 1, 0, 0, .null, []), (226, .getfield 60, 3, 8, 21, .null, [780]),
  (229, .iload_n 1, 1, 0, 0, .null, []), (230, .iconst 5, 1, 0, 0, .int (nI 5), []), (231, .iadd, 1, 0, 0, .null, []), (232, .iload 6, 2, 0, 0, .null, []),
  (234, .iadd, 1, 0, 0, .null, []), (235, .iaload, 1, 0, 0, .null, []), (236, .iastore, 1, 0, 0, .null, []), (237, .iinc 6 (1), 3, 0, 0, .null, []),
  (240, .goto (-38), 3, 202, 0, .null, []), (243, .iconst 1, 1, 0, 0, .int (nI 1), []), (244, .ireturn, 1, 0, 0, .null, [])]
-- MaskedSumModel.heard(I)Z
def ms_c51 : List (Nat × ms_I) := [(0, .aload_n 0, 1, 0, 0, .null, []), (1, .getfield 60, 3, 8, 21, .null, [780]), (4, .iload_n 1, 1, 0, 0, .null, []), (5, .iaload, 1, 0, 0, .null, []),
  (6, .istore_n 2, 1, 0, 0, .null, []), (7, .aload_n 0, 1, 0, 0, .null, []), (8, .getfield 60, 3, 8, 21, .null, [780]), (11, .iload_n 1, 1, 0, 0, .null, []),
  (12, .iconst 1, 1, 0, 0, .int (nI 1), []), (13, .iadd, 1, 0, 0, .null, []), (14, .iaload, 1, 0, 0, .null, []), (15, .istore_n 3, 1, 0, 0, .null, []),
  (16, .iload_n 2, 1, 0, 0, .null, []), (17, .aload_n 0, 1, 0, 0, .null, []), (18, .getfield 7, 3, 8, 3, .null, [762]), (21, .if_icmp .ne (44), 3, 65, 0, .null, []),
  (24, .aload_n 0, 1, 0, 0, .null, []), (25, .getfield 45, 3, 8, 15, .null, [774]), (28, .iload_n 2, 1, 0, 0, .null, []), (29, .iaload, 1, 0, 0, .null, []),
  (30, .iload_n 3, 1, 0, 0, .null, []), (31, .invokestatic 191, 3, 42, 0, .null, [0, 926]), (34, .ifCond .ne (31), 3, 65, 0, .null, []), (37, .iload_n 2, 1, 0, 0, .null, []),
  (38, .ifCond .le (29), 3, 67, 0, .null, []), (41, .aload_n 0, 1, 0, 0, .null, []), (42, .getfield 42, 3, 8, 14, .null, [773]), (45, .iload_n 2, 1, 0, 0, .null, []),
  (46, .iconst 3, 1, 0, 0, .int (nI 3), []), (47, .if_icmp .ne (7), 3, 54, 0, .null, []), (50, .iconst 1, 1, 0, 0, .int (nI 1), []), (51, .goto (6), 3, 57, 0, .null, []),
  (54, .iload_n 2, 1, 0, 0, .null, []), (55, .iconst 1, 1, 0, 0, .int (nI 1), []), (56, .isub, 1, 0, 0, .null, []), (57, .iaload, 1, 0, 0, .null, []),
  (58, .iload_n 3, 1, 0, 0, .null, []), (59, .invokestatic 191, 3, 42, 0, .null, [0, 926]), (62, .ifCond .ne (5), 3, 67, 0, .null, []), (65, .iconst 0, 1, 0, 0, .int (nI 0), []),
  (66, .ireturn, 1, 0, 0, .null, []), (67, .aload_n 0, 1, 0, 0, .null, []), (68, .getfield 45, 3, 8, 15, .null, [774]), (71, .iload_n 2, 1, 0, 0, .null, []),
  (72, .dup2, 1, 0, 0, .null, []), (73, .iaload, 1, 0, 0, .null, []), (74, .iconst 1, 1, 0, 0, .int (nI 1), []), (75, .iload_n 3, 1, 0, 0, .null, []),
  (76, .ishl, 1, 0, 0, .null, []), (77, .ior, 1, 0, 0, .null, []), (78, .iastore, 1, 0, 0, .null, []), (79, .iconst 0, 1, 0, 0, .int (nI 0), []),
  (80, .istore 4, 2, 0, 0, .null, []), (82, .iload 4, 2, 0, 0, .null, []), (84, .aload_n 0, 1, 0, 0, .null, []), (85, .getfield 60, 3, 8, 21, .null, [780]),
  (88, .iload_n 1, 1, 0, 0, .null, []), (89, .iconst 3, 1, 0, 0, .int (nI 3), []), (90, .iadd, 1, 0, 0, .null, []), (91, .iaload, 1, 0, 0, .null, []),
  (92, .if_icmp .ge (99), 3, 191, 0, .null, []), (95, .aload_n 0, 1, 0, 0, .null, []), (96, .getfield 60, 3, 8, 21, .null, [780]), (99, .iload_n 1, 1, 0, 0, .null, []),
  (100, .iconst 4, 1, 0, 0, .int (nI 4), []), (101, .iadd, 1, 0, 0, .null, []), (102, .iload 4, 2, 0, 0, .null, []), (104, .iadd, 1, 0, 0, .null, []),
  (105, .iaload, 1, 0, 0, .null, []), (106, .istore 5, 2, 0, 0, .null, []), (108, .iload_n 2, 1, 0, 0, .null, []), (109, .ifCond .ne (19), 3, 128, 0, .null, []),
  (112, .aload_n 0, 1, 0, 0, .null, []), (113, .getfield 48, 3, 8, 16, .null, [775]), (116, .iconst 4, 1, 0, 0, .int (nI 4), []), (117, .iload_n 3, 1, 0, 0, .null, []),
  (118, .imul, 1, 0, 0, .null, []), (119, .iload 4, 2, 0, 0, .null, []), (121, .iadd, 1, 0, 0, .null, []), (122, .iload 5, 2, 0, 0, .null, []),
  (124, .iastore, 1, 0, 0, .null, []), (125, .goto (60), 3, 185, 0, .null, []), (128, .iload_n 2, 1, 0, 0, .null, []), (129, .iconst 1, 1, 0, 0, .int (nI 1), []),
  (130, .if_icmp .ne (20), 3, 150, 0, .null, []), (133, .aload_n 0, 1, 0, 0, .null, []), (134, .getfield 51, 3, 8, 17, .null, [776]), (137, .bipush 64, 2, 0, 0, .int (nI 64), []),
  (139, .iload_n 3, 1, 0, 0, .null, []), (140, .imul, 1, 0, 0, .null, []), (141, .iload 4, 2, 0, 0, .null, []), (143, .iadd, 1, 0, 0, .null, []),
  (144, .iload 5, 2, 0, 0, .null, []), (146, .iastore, 1, 0, 0, .null, []), (147, .goto (38), 3, 185, 0, .null, []), (150, .iload_n 2, 1, 0, 0, .null, []),
  (151, .iconst 2, 1, 0, 0, .int (nI 2), []), (152, .if_icmp .ne (19), 3, 171, 0, .null, []), (155, .aload_n 0, 1, 0, 0, .null, []), (156, .getfield 54, 3, 8, 18, .null, [777]),
  (159, .iconst 4, 1, 0, 0, .int (nI 4), []), (160, .iload_n 3, 1, 0, 0, .null, []), (161, .imul, 1, 0, 0, .null, []), (162, .iload 4, 2, 0, 0, .null, []),
  (164, .iadd, 1, 0, 0, .null, []), (165, .iload 5, 2, 0, 0, .null, []), (167, .iastore, 1, 0, 0, .null, []), (168, .goto (17), 3, 185, 0, .null, []),
  (171, .aload_n 0, 1, 0, 0, .null, []), (172, .getfield 57, 3, 8, 19, .null, [778]), (175, .bipush 17, 2, 0, 0, .int (nI 17), []), (177, .iload_n 3, 1, 0, 0, .null, []),
  (178, .imul, 1, 0, 0, .null, []), (179, .iload 4, 2, 0, 0, .null, []), (181, .iadd, 1, 0, 0, .null, []), (182, .iload 5, 2, 0, 0, .null, []),
  (184, .iastore, 1, 0, 0, .null, []), (185, .iinc 4 (1), 3, 0, 0, .null, []), (188, .goto (-106), 3, 82, 0, .null, []), (191, .iconst 1, 1, 0, 0, .int (nI 1), []),
  (192, .ireturn, 1, 0, 0, .null, [])]
-- MaskedSumModel.isMessage(I)Z
def ms_c52 : List (Nat × ms_I) := [(0, .aload_n 0, 1, 0, 0, .null, []), (1, .iload_n 1, 1, 0, 0, .null, []), (2, .iconst 0, 1, 0, 0, .int (nI 0), []), (3, .aload_n 0, 1, 0, 0, .null, []),
  (4, .getfield 170, 3, 8, 20, .null, [779]), (7, .iconst 1, 1, 0, 0, .int (nI 1), []), (8, .isub, 1, 0, 0, .null, []), (9, .invokestatic 154, 3, 19, 0, .null, [0, 870]),
  (12, .ifCond .eq (7), 3, 19, 0, .null, []), (15, .iconst 0, 1, 0, 0, .int (nI 0), []), (16, .goto (4), 3, 20, 0, .null, []), (19, .iconst 1, 1, 0, 0, .int (nI 1), []),
  (20, .putfield 90, 3, 8, 0, .null, [759]), (23, .aload_n 0, 1, 0, 0, .null, []), (24, .getfield 90, 3, 8, 0, .null, [759]), (27, .ifCond .ne (7), 3, 34, 0, .null, []),
  (30, .iconst 1, 1, 0, 0, .int (nI 1), []), (31, .goto (4), 3, 35, 0, .null, []), (34, .iconst 0, 1, 0, 0, .int (nI 0), []), (35, .ireturn, 1, 0, 0, .null, [])]
-- MaskedSumModel.deliver(I)Z
def ms_c53 : List (Nat × ms_I) := [(0, .aload_n 0, 1, 0, 0, .null, []), (1, .iload_n 1, 1, 0, 0, .null, []), (2, .invokevirtual 224, 3, 52, 0, .null, [0, 991]), (5, .ifCond .ne (5), 3, 10, 0, .null, []),
  (8, .iconst 0, 1, 0, 0, .int (nI 0), []), (9, .ireturn, 1, 0, 0, .null, []), (10, .bipush 70, 2, 0, 0, .int (nI 70), []), (12, .iload_n 1, 1, 0, 0, .null, []),
  (13, .imul, 1, 0, 0, .null, []), (14, .istore_n 2, 1, 0, 0, .null, []), (15, .aload_n 0, 1, 0, 0, .null, []), (16, .getfield 60, 3, 8, 21, .null, [780]),
  (19, .iload_n 2, 1, 0, 0, .null, []), (20, .iconst 2, 1, 0, 0, .int (nI 2), []), (21, .iadd, 1, 0, 0, .null, []), (22, .iaload, 1, 0, 0, .null, []),
  (23, .iconst 1, 1, 0, 0, .int (nI 1), []), (24, .if_icmp .ne (11), 3, 35, 0, .null, []), (27, .aload_n 0, 1, 0, 0, .null, []), (28, .iload_n 2, 1, 0, 0, .null, []),
  (29, .invokevirtual 227, 3, 50, 0, .null, [0, 995]), (32, .goto (8), 3, 40, 0, .null, []), (35, .aload_n 0, 1, 0, 0, .null, []), (36, .iload_n 2, 1, 0, 0, .null, []),
  (37, .invokevirtual 230, 3, 51, 0, .null, [0, 1002]), (40, .istore_n 3, 1, 0, 0, .null, []), (41, .aload_n 0, 1, 0, 0, .null, []), (42, .iload_n 1, 1, 0, 0, .null, []),
  (43, .invokevirtual 233, 3, 41, 0, .null, [0, 1006]), (46, .iload_n 3, 1, 0, 0, .null, []), (47, .ireturn, 1, 0, 0, .null, [])]
-- MaskedSumModel.lose(I)V
def ms_c54 : List (Nat × ms_I) := [(0, .aload_n 0, 1, 0, 0, .null, []), (1, .iload_n 1, 1, 0, 0, .null, []), (2, .invokevirtual 224, 3, 52, 0, .null, [0, 991]), (5, .ifCond .eq (8), 3, 13, 0, .null, []),
  (8, .aload_n 0, 1, 0, 0, .null, []), (9, .iload_n 1, 1, 0, 0, .null, []), (10, .invokevirtual 233, 3, 41, 0, .null, [0, 1006]), (13, .return_, 1, 0, 0, .null, [])]
-- MaskedSumModel.alter(III)V
def ms_c55 : List (Nat × ms_I) := [(0, .aload_n 0, 1, 0, 0, .null, []), (1, .iload_n 1, 1, 0, 0, .null, []), (2, .invokevirtual 224, 3, 52, 0, .null, [0, 991]), (5, .ifCond .ne (4), 3, 9, 0, .null, []),
  (8, .return_, 1, 0, 0, .null, []), (9, .aload_n 0, 1, 0, 0, .null, []), (10, .iload_n 2, 1, 0, 0, .null, []), (11, .iconst 0, 1, 0, 0, .int (nI 0), []),
  (12, .aload_n 0, 1, 0, 0, .null, []), (13, .getfield 60, 3, 8, 21, .null, [780]), (16, .bipush 70, 2, 0, 0, .int (nI 70), []), (18, .iload_n 1, 1, 0, 0, .null, []),
  (19, .imul, 1, 0, 0, .null, []), (20, .iconst 3, 1, 0, 0, .int (nI 3), []), (21, .iadd, 1, 0, 0, .null, []), (22, .iaload, 1, 0, 0, .null, []),
  (23, .iconst 1, 1, 0, 0, .int (nI 1), []), (24, .isub, 1, 0, 0, .null, []), (25, .invokestatic 154, 3, 19, 0, .null, [0, 870]), (28, .ifCond .eq (7), 3, 35, 0, .null, []),
  (31, .iconst 0, 1, 0, 0, .int (nI 0), []), (32, .goto (4), 3, 36, 0, .null, []), (35, .iconst 1, 1, 0, 0, .int (nI 1), []), (36, .putfield 90, 3, 8, 0, .null, [759]),
  (39, .aload_n 0, 1, 0, 0, .null, []), (40, .getfield 90, 3, 8, 0, .null, [759]), (43, .ifCond .ne (20), 3, 63, 0, .null, []), (46, .aload_n 0, 1, 0, 0, .null, []),
  (47, .getfield 60, 3, 8, 21, .null, [780]), (50, .bipush 70, 2, 0, 0, .int (nI 70), []), (52, .iload_n 1, 1, 0, 0, .null, []), (53, .imul, 1, 0, 0, .null, []),
  (54, .iconst 4, 1, 0, 0, .int (nI 4), []), (55, .iadd, 1, 0, 0, .null, []), (56, .iload_n 2, 1, 0, 0, .null, []), (57, .iadd, 1, 0, 0, .null, []),
  (58, .dup2, 1, 0, 0, .null, []), (59, .iaload, 1, 0, 0, .null, []), (60, .iload_n 3, 1, 0, 0, .null, []), (61, .ixor, 1, 0, 0, .null, []),
  (62, .iastore, 1, 0, 0, .null, []), (63, .return_, 1, 0, 0, .null, [])]
-- MaskedSumModel.message(II)I
def ms_c56 : List (Nat × ms_I) := [(0, .aload_n 0, 1, 0, 0, .null, []), (1, .iload_n 1, 1, 0, 0, .null, []), (2, .invokevirtual 224, 3, 52, 0, .null, [0, 991]), (5, .ifCond .ne (5), 3, 10, 0, .null, []),
  (8, .iconst 0, 1, 0, 0, .int (nI 0), []), (9, .ireturn, 1, 0, 0, .null, []), (10, .aload_n 0, 1, 0, 0, .null, []), (11, .iload_n 2, 1, 0, 0, .null, []),
  (12, .iconst 0, 1, 0, 0, .int (nI 0), []), (13, .iconst 3, 1, 0, 0, .int (nI 3), []), (14, .aload_n 0, 1, 0, 0, .null, []), (15, .getfield 60, 3, 8, 21, .null, [780]),
  (18, .bipush 70, 2, 0, 0, .int (nI 70), []), (20, .iload_n 1, 1, 0, 0, .null, []), (21, .imul, 1, 0, 0, .null, []), (22, .iconst 3, 1, 0, 0, .int (nI 3), []),
  (23, .iadd, 1, 0, 0, .null, []), (24, .iaload, 1, 0, 0, .null, []), (25, .iadd, 1, 0, 0, .null, []), (26, .invokestatic 154, 3, 19, 0, .null, [0, 870]),
  (29, .ifCond .eq (7), 3, 36, 0, .null, []), (32, .iconst 0, 1, 0, 0, .int (nI 0), []), (33, .goto (4), 3, 37, 0, .null, []), (36, .iconst 1, 1, 0, 0, .int (nI 1), []),
  (37, .putfield 90, 3, 8, 0, .null, [759]), (40, .aload_n 0, 1, 0, 0, .null, []), (41, .getfield 90, 3, 8, 0, .null, [759]), (44, .ifCond .le (7), 3, 51, 0, .null, []),
  (47, .iconst 0, 1, 0, 0, .int (nI 0), []), (48, .goto (14), 3, 62, 0, .null, []), (51, .aload_n 0, 1, 0, 0, .null, []), (52, .getfield 60, 3, 8, 21, .null, [780]),
  (55, .bipush 70, 2, 0, 0, .int (nI 70), []), (57, .iload_n 1, 1, 0, 0, .null, []), (58, .imul, 1, 0, 0, .null, []), (59, .iload_n 2, 1, 0, 0, .null, []),
  (60, .iadd, 1, 0, 0, .null, []), (61, .iaload, 1, 0, 0, .null, []), (62, .ireturn, 1, 0, 0, .null, [])]
-- MaskedSumModel.answer(II)V
def ms_c57 : List (Nat × ms_I) := [(0, .aload_n 0, 1, 0, 0, .null, []), (1, .iload_n 1, 1, 0, 0, .null, []), (2, .iload_n 2, 1, 0, 0, .null, []), (3, .iconst 1, 1, 0, 0, .int (nI 1), []),
  (4, .iload_n 1, 1, 0, 0, .null, []), (5, .ifCond .ne (8), 3, 13, 0, .null, []), (8, .bipush 33, 2, 0, 0, .int (nI 33), []), (10, .goto (14), 3, 24, 0, .null, []),
  (13, .iload_n 1, 1, 0, 0, .null, []), (14, .iconst 1, 1, 0, 0, .int (nI 1), []), (15, .if_icmp .ne (8), 3, 23, 0, .null, []), (18, .bipush 65, 2, 0, 0, .int (nI 65), []),
  (20, .goto (4), 3, 24, 0, .null, []), (23, .iconst 1, 1, 0, 0, .int (nI 1), []), (24, .invokevirtual 181, 3, 40, 0, .null, [0, 904]), (27, .istore_n 3, 1, 0, 0, .null, []),
  (28, .aload_n 0, 1, 0, 0, .null, []), (29, .getfield 60, 3, 8, 21, .null, [780]), (32, .iload_n 3, 1, 0, 0, .null, []), (33, .aload_n 0, 1, 0, 0, .null, []),
  (34, .getfield 42, 3, 8, 14, .null, [773]), (37, .iload_n 1, 1, 0, 0, .null, []), (38, .iaload, 1, 0, 0, .null, []), (39, .iastore, 1, 0, 0, .null, []),
  (40, .iconst 0, 1, 0, 0, .int (nI 0), []), (41, .istore 4, 2, 0, 0, .null, []), (43, .iload 4, 2, 0, 0, .null, []), (45, .aload_n 0, 1, 0, 0, .null, []),
  (46, .getfield 160, 3, 8, 1, .null, [760]), (49, .if_icmp .ge (135), 3, 184, 0, .null, []), (52, .aload_n 0, 1, 0, 0, .null, []), (53, .getfield 42, 3, 8, 14, .null, [773]),
  (56, .iload_n 1, 1, 0, 0, .null, []), (57, .iaload, 1, 0, 0, .null, []), (58, .iload 4, 2, 0, 0, .null, []), (60, .invokestatic 191, 3, 42, 0, .null, [0, 926]),
  (63, .ifCond .ne (6), 3, 69, 0, .null, []), (66, .goto (112), 3, 178, 0, .null, []), (69, .iconst 0, 1, 0, 0, .int (nI 0), []), (70, .istore 5, 2, 0, 0, .null, []),
  (72, .iload 5, 2, 0, 0, .null, []), (74, .iconst 4, 1, 0, 0, .int (nI 4), []), (75, .if_icmp .ge (41), 3, 116, 0, .null, []), (78, .iload_n 1, 1, 0, 0, .null, []),
  (79, .ifCond .ne (37), 3, 116, 0, .null, []), (82, .aload_n 0, 1, 0, 0, .null, []), (83, .getfield 60, 3, 8, 21, .null, [780]), (86, .iload_n 3, 1, 0, 0, .null, []),
  (87, .iconst 1, 1, 0, 0, .int (nI 1), []), (88, .iadd, 1, 0, 0, .null, []), (89, .iconst 4, 1, 0, 0, .int (nI 4), []), (90, .iload 4, 2, 0, 0, .null, []),
  (92, .imul, 1, 0, 0, .null, []), (93, .iadd, 1, 0, 0, .null, []), (94, .iload 5, 2, 0, 0, .null, []), (96, .iadd, 1, 0, 0, .null, []),
  (97, .aload_n 0, 1, 0, 0, .null, []), (98, .getfield 48, 3, 8, 16, .null, [775]), (101, .iconst 4, 1, 0, 0, .int (nI 4), []), (102, .iload 4, 2, 0, 0, .null, []),
  (104, .imul, 1, 0, 0, .null, []), (105, .iload 5, 2, 0, 0, .null, []), (107, .iadd, 1, 0, 0, .null, []), (108, .iaload, 1, 0, 0, .null, []),
  (109, .iastore, 1, 0, 0, .null, []), (110, .iinc 5 (1), 3, 0, 0, .null, []), (113, .goto (-41), 3, 72, 0, .null, []), (116, .iconst 0, 1, 0, 0, .int (nI 0), []),
  (117, .istore 5, 2, 0, 0, .null, []), (119, .iload 5, 2, 0, 0, .null, []), (121, .bipush 8, 2, 0, 0, .int (nI 8), []), (123, .if_icmp .ge (55), 3, 178, 0, .null, []),
  (126, .iload_n 1, 1, 0, 0, .null, []), (127, .iconst 1, 1, 0, 0, .int (nI 1), []), (128, .if_icmp .ne (50), 3, 178, 0, .null, []), (131, .iload 4, 2, 0, 0, .null, []),
  (133, .iload_n 2, 1, 0, 0, .null, []), (134, .if_icmp .eq (44), 3, 178, 0, .null, []), (137, .aload_n 0, 1, 0, 0, .null, []), (138, .getfield 60, 3, 8, 21, .null, [780]),
  (141, .iload_n 3, 1, 0, 0, .null, []), (142, .iconst 1, 1, 0, 0, .int (nI 1), []), (143, .iadd, 1, 0, 0, .null, []), (144, .bipush 8, 2, 0, 0, .int (nI 8), []),
  (146, .iload 4, 2, 0, 0, .null, []), (148, .imul, 1, 0, 0, .null, []), (149, .iadd, 1, 0, 0, .null, []), (150, .iload 5, 2, 0, 0, .null, []),
  (152, .iadd, 1, 0, 0, .null, []), (153, .aload_n 0, 1, 0, 0, .null, []), (154, .getfield 51, 3, 8, 17, .null, [776]), (157, .bipush 64, 2, 0, 0, .int (nI 64), []),
  (159, .iload 4, 2, 0, 0, .null, []), (161, .imul, 1, 0, 0, .null, []), (162, .bipush 8, 2, 0, 0, .int (nI 8), []), (164, .iload_n 2, 1, 0, 0, .null, []),
  (165, .imul, 1, 0, 0, .null, []), (166, .iadd, 1, 0, 0, .null, []), (167, .iload 5, 2, 0, 0, .null, []), (169, .iadd, 1, 0, 0, .null, []),
  (170, .iaload, 1, 0, 0, .null, []), (171, .iastore, 1, 0, 0, .null, []), (172, .iinc 5 (1), 3, 0, 0, .null, []), (175, .goto (-56), 3, 119, 0, .null, []),
  (178, .iinc 4 (1), 3, 0, 0, .null, []), (181, .goto (-138), 3, 43, 0, .null, []), (184, .return_, 1, 0, 0, .null, [])]
-- MaskedSumModel.join(I)Z
def ms_c58 : List (Nat × ms_I) := [(0, .iconst 0, 1, 0, 0, .int (nI 0), []), (1, .istore_n 2, 1, 0, 0, .null, []), (2, .iconst 0, 1, 0, 0, .int (nI 0), []), (3, .istore_n 3, 1, 0, 0, .null, []),
  (4, .iload_n 3, 1, 0, 0, .null, []), (5, .aload_n 0, 1, 0, 0, .null, []), (6, .getfield 160, 3, 8, 1, .null, [760]), (9, .if_icmp .ge (55), 3, 64, 0, .null, []),
  (12, .iload_n 2, 1, 0, 0, .null, []), (13, .invokestatic 220, 3, 43, 0, .null, [0, 999]), (16, .aload_n 0, 1, 0, 0, .null, []), (17, .getfield 147, 3, 8, 2, .null, [761]),
  (20, .if_icmp .ge (44), 3, 64, 0, .null, []), (23, .aload_n 0, 1, 0, 0, .null, []), (24, .getfield 45, 3, 8, 15, .null, [774]), (27, .iconst 3, 1, 0, 0, .int (nI 3), []),
  (28, .iaload, 1, 0, 0, .null, []), (29, .iload_n 3, 1, 0, 0, .null, []), (30, .invokestatic 191, 3, 42, 0, .null, [0, 926]), (33, .ifCond .eq (25), 3, 58, 0, .null, []),
  (36, .aload_n 0, 1, 0, 0, .null, []), (37, .getfield 57, 3, 8, 19, .null, [778]), (40, .bipush 17, 2, 0, 0, .int (nI 17), []), (42, .iload_n 3, 1, 0, 0, .null, []),
  (43, .imul, 1, 0, 0, .null, []), (44, .iaload, 1, 0, 0, .null, []), (45, .iload_n 1, 1, 0, 0, .null, []), (46, .invokestatic 191, 3, 42, 0, .null, [0, 926]),
  (49, .ifCond .eq (9), 3, 58, 0, .null, []), (52, .iload_n 2, 1, 0, 0, .null, []), (53, .iconst 1, 1, 0, 0, .int (nI 1), []), (54, .iload_n 3, 1, 0, 0, .null, []),
  (55, .ishl, 1, 0, 0, .null, []), (56, .ior, 1, 0, 0, .null, []), (57, .istore_n 2, 1, 0, 0, .null, []), (58, .iinc 3 (1), 3, 0, 0, .null, []),
  (61, .goto (-57), 3, 4, 0, .null, []), (64, .iload_n 2, 1, 0, 0, .null, []), (65, .invokestatic 220, 3, 43, 0, .null, [0, 999]), (68, .aload_n 0, 1, 0, 0, .null, []),
  (69, .getfield 147, 3, 8, 2, .null, [761]), (72, .if_icmp .ge (5), 3, 77, 0, .null, []), (75, .iconst 0, 1, 0, 0, .int (nI 0), []), (76, .ireturn, 1, 0, 0, .null, []),
  (77, .aload_n 0, 1, 0, 0, .null, []), (78, .lconst 0, 1, 0, 0, .long (lN 0), []), (79, .putfield 236, 3, 8, 32, .null, [791]), (82, .iconst 0, 1, 0, 0, .int (nI 0), []),
  (83, .istore_n 3, 1, 0, 0, .null, []), (84, .iload_n 3, 1, 0, 0, .null, []), (85, .aload_n 0, 1, 0, 0, .null, []), (86, .getfield 160, 3, 8, 1, .null, [760]),
  (89, .if_icmp .ge (168), 3, 257, 0, .null, []), (92, .iload_n 2, 1, 0, 0, .null, []), (93, .iload_n 3, 1, 0, 0, .null, []), (94, .invokestatic 191, 3, 42, 0, .null, [0, 926]),
  (97, .ifCond .ne (6), 3, 103, 0, .null, []), (100, .goto (151), 3, 251, 0, .null, []), (103, .lconst 1, 1, 0, 0, .long (lN 1), []), (104, .lstore 4, 2, 0, 0, .null, []),
  (106, .lconst 1, 1, 0, 0, .long (lN 1), []), (107, .lstore 6, 2, 0, 0, .null, []), (109, .iconst 0, 1, 0, 0, .int (nI 0), []), (110, .istore 8, 2, 0, 0, .null, []),
  (112, .iload 8, 2, 0, 0, .null, []), (114, .aload_n 0, 1, 0, 0, .null, []), (115, .getfield 160, 3, 8, 1, .null, [760]), (118, .if_icmp .ge (69), 3, 187, 0, .null, []),
  (121, .iload 8, 2, 0, 0, .null, []), (123, .iload_n 3, 1, 0, 0, .null, []), (124, .if_icmp .eq (57), 3, 181, 0, .null, []), (127, .iload_n 2, 1, 0, 0, .null, []),
  (128, .iload 8, 2, 0, 0, .null, []), (130, .invokestatic 191, 3, 42, 0, .null, [0, 926]), (133, .ifCond .ne (6), 3, 139, 0, .null, []), (136, .goto (45), 3, 181, 0, .null, []),
  (139, .lload 4, 2, 0, 0, .null, []), (141, .iload 8, 2, 0, 0, .null, []), (143, .i2l, 1, 0, 0, .null, []), (144, .lconst 1, 1, 0, 0, .long (lN 1), []),
  (145, .ladd, 1, 0, 0, .null, []), (146, .invokestatic 99, 3, 21, 0, .null, [0, 912]), (149, .lstore 4, 2, 0, 0, .null, []), (151, .lload 6, 2, 0, 0, .null, []),
  (153, .iload 8, 2, 0, 0, .null, []), (155, .iload_n 3, 1, 0, 0, .null, []), (156, .if_icmp .le (11), 3, 167, 0, .null, []), (159, .iload 8, 2, 0, 0, .null, []),
  (161, .iload_n 3, 1, 0, 0, .null, []), (162, .isub, 1, 0, 0, .null, []), (163, .i2l, 1, 0, 0, .null, []), (164, .goto (12), 3, 176, 0, .null, []),
  (167, .ldc2_w 93, 3, 891, 0, .long (lN 2305843009213693951), []), (170, .iload_n 3, 1, 0, 0, .null, []), (171, .iload 8, 2, 0, 0, .null, []), (173, .isub, 1, 0, 0, .null, []),
  (174, .i2l, 1, 0, 0, .null, []), (175, .lsub, 1, 0, 0, .null, []), (176, .invokestatic 99, 3, 21, 0, .null, [0, 912]), (179, .lstore 6, 2, 0, 0, .null, []),
  (181, .iinc 8 (1), 3, 0, 0, .null, []), (184, .goto (-72), 3, 112, 0, .null, []), (187, .lload 4, 2, 0, 0, .null, []), (189, .lload 6, 2, 0, 0, .null, []),
  (191, .ldc2_w 240, 3, 1034, 0, .long (lN 2305843009213693949), []), (194, .invokestatic 144, 3, 22, 0, .null, [0, 909]), (197, .invokestatic 99, 3, 21, 0, .null, [0, 912]), (200, .lstore 8, 2, 0, 0, .null, []),
  (202, .aload_n 0, 1, 0, 0, .null, []), (203, .aload_n 0, 1, 0, 0, .null, []), (204, .getfield 236, 3, 8, 32, .null, [791]), (207, .lload 8, 2, 0, 0, .null, []),
  (209, .aload_n 0, 1, 0, 0, .null, []), (210, .getfield 57, 3, 8, 19, .null, [778]), (213, .bipush 17, 2, 0, 0, .int (nI 17), []), (215, .iload_n 3, 1, 0, 0, .null, []),
  (216, .imul, 1, 0, 0, .null, []), (217, .iconst 1, 1, 0, 0, .int (nI 1), []), (218, .iadd, 1, 0, 0, .null, []), (219, .iconst 2, 1, 0, 0, .int (nI 2), []),
  (220, .iload_n 1, 1, 0, 0, .null, []), (221, .imul, 1, 0, 0, .null, []), (222, .iadd, 1, 0, 0, .null, []), (223, .iaload, 1, 0, 0, .null, []),
  (224, .aload_n 0, 1, 0, 0, .null, []), (225, .getfield 57, 3, 8, 19, .null, [778]), (228, .bipush 17, 2, 0, 0, .int (nI 17), []), (230, .iload_n 3, 1, 0, 0, .null, []),
  (231, .imul, 1, 0, 0, .null, []), (232, .iconst 2, 1, 0, 0, .int (nI 2), []), (233, .iadd, 1, 0, 0, .null, []), (234, .iconst 2, 1, 0, 0, .int (nI 2), []),
  (235, .iload_n 1, 1, 0, 0, .null, []), (236, .imul, 1, 0, 0, .null, []), (237, .iadd, 1, 0, 0, .null, []), (238, .iaload, 1, 0, 0, .null, []),
  (239, .invokestatic 140, 3, 23, 0, .null, [0, 886]), (242, .invokestatic 99, 3, 21, 0, .null, [0, 912]), (245, .invokestatic 95, 3, 20, 0, .null, [0, 915]), (248, .putfield 236, 3, 8, 32, .null, [791]),
  (251, .iinc 3 (1), 3, 0, 0, .null, []), (254, .goto (-170), 3, 84, 0, .null, []), (257, .iconst 1, 1, 0, 0, .int (nI 1), []), (258, .ireturn, 1, 0, 0, .null, [])]
-- MaskedSumModel.reckon()Z
def ms_c59 : List (Nat × ms_I) := [(0, .iconst 0, 1, 0, 0, .int (nI 0), []), (1, .istore_n 1, 1, 0, 0, .null, []), (2, .iload_n 1, 1, 0, 0, .null, []), (3, .iconst 4, 1, 0, 0, .int (nI 4), []),
  (4, .if_icmp .ge (16), 3, 20, 0, .null, []), (7, .aload_n 0, 1, 0, 0, .null, []), (8, .getfield 63, 3, 8, 22, .null, [781]), (11, .iload_n 1, 1, 0, 0, .null, []),
  (12, .iconst 0, 1, 0, 0, .int (nI 0), []), (13, .iastore, 1, 0, 0, .null, []), (14, .iinc 1 (1), 3, 0, 0, .null, []), (17, .goto (-15), 3, 2, 0, .null, []),
  (20, .iconst 0, 1, 0, 0, .int (nI 0), []), (21, .istore_n 1, 1, 0, 0, .null, []), (22, .iload_n 1, 1, 0, 0, .null, []), (23, .aload_n 0, 1, 0, 0, .null, []),
  (24, .getfield 160, 3, 8, 1, .null, [760]), (27, .if_icmp .ge (208), 3, 235, 0, .null, []), (30, .aload_n 0, 1, 0, 0, .null, []), (31, .getfield 42, 3, 8, 14, .null, [773]),
  (34, .iconst 1, 1, 0, 0, .int (nI 1), []), (35, .iaload, 1, 0, 0, .null, []), (36, .iload_n 1, 1, 0, 0, .null, []), (37, .invokestatic 191, 3, 42, 0, .null, [0, 926]),
  (40, .ifCond .ne (6), 3, 46, 0, .null, []), (43, .goto (186), 3, 229, 0, .null, []), (46, .aload_n 0, 1, 0, 0, .null, []), (47, .iload_n 1, 1, 0, 0, .null, []),
  (48, .invokevirtual 242, 3, 58, 0, .null, [0, 1030]), (51, .ifCond .ne (5), 3, 56, 0, .null, []), (54, .iconst 0, 1, 0, 0, .int (nI 0), []), (55, .ireturn, 1, 0, 0, .null, []),
  (56, .aload_n 0, 1, 0, 0, .null, []), (57, .getfield 42, 3, 8, 14, .null, [773]), (60, .iconst 2, 1, 0, 0, .int (nI 2), []), (61, .iaload, 1, 0, 0, .null, []),
  (62, .iload_n 1, 1, 0, 0, .null, []), (63, .invokestatic 191, 3, 42, 0, .null, [0, 926]), (66, .istore_n 2, 1, 0, 0, .null, []), (67, .iconst 0, 1, 0, 0, .int (nI 0), []),
  (68, .istore_n 3, 1, 0, 0, .null, []), (69, .iload_n 3, 1, 0, 0, .null, []), (70, .iconst 4, 1, 0, 0, .int (nI 4), []), (71, .if_icmp .ge (44), 3, 115, 0, .null, []),
  (74, .iload_n 2, 1, 0, 0, .null, []), (75, .ifCond .eq (40), 3, 115, 0, .null, []), (78, .aload_n 0, 1, 0, 0, .null, []), (79, .getfield 63, 3, 8, 22, .null, [781]),
  (82, .iload_n 3, 1, 0, 0, .null, []), (83, .dup2, 1, 0, 0, .null, []), (84, .iaload, 1, 0, 0, .null, []), (85, .aload_n 0, 1, 0, 0, .null, []),
  (86, .getfield 54, 3, 8, 18, .null, [777]), (89, .iconst 4, 1, 0, 0, .int (nI 4), []), (90, .iload_n 1, 1, 0, 0, .null, []), (91, .imul, 1, 0, 0, .null, []),
  (92, .iload_n 3, 1, 0, 0, .null, []), (93, .iadd, 1, 0, 0, .null, []), (94, .iaload, 1, 0, 0, .null, []), (95, .aload_n 0, 1, 0, 0, .null, []),
  (96, .aload_n 0, 1, 0, 0, .null, []), (97, .getfield 236, 3, 8, 32, .null, [791]), (100, .iconst 0, 1, 0, 0, .int (nI 0), []), (101, .iload_n 1, 1, 0, 0, .null, []),
  (102, .iload_n 3, 1, 0, 0, .null, []), (103, .invokevirtual 150, 3, 27, 0, .null, [0, 937]), (106, .isub, 1, 0, 0, .null, []), (107, .iadd, 1, 0, 0, .null, []),
  (108, .iastore, 1, 0, 0, .null, []), (109, .iinc 3 (1), 3, 0, 0, .null, []), (112, .goto (-43), 3, 69, 0, .null, []), (115, .iconst 0, 1, 0, 0, .int (nI 0), []),
  (116, .istore_n 3, 1, 0, 0, .null, []), (117, .iload_n 3, 1, 0, 0, .null, []), (118, .aload_n 0, 1, 0, 0, .null, []), (119, .getfield 160, 3, 8, 1, .null, [760]),
  (122, .if_icmp .ge (107), 3, 229, 0, .null, []), (125, .iload_n 2, 1, 0, 0, .null, []), (126, .ifCond .ne (103), 3, 229, 0, .null, []), (129, .aload_n 0, 1, 0, 0, .null, []),
  (130, .getfield 42, 3, 8, 14, .null, [773]), (133, .iconst 2, 1, 0, 0, .int (nI 2), []), (134, .iaload, 1, 0, 0, .null, []), (135, .iload_n 3, 1, 0, 0, .null, []),
  (136, .invokestatic 191, 3, 42, 0, .null, [0, 926]), (139, .ifCond .ne (6), 3, 145, 0, .null, []), (142, .goto (81), 3, 223, 0, .null, []), (145, .aload_n 0, 1, 0, 0, .null, []),
  (146, .aload_n 0, 1, 0, 0, .null, []), (147, .getfield 48, 3, 8, 16, .null, [775]), (150, .iconst 4, 1, 0, 0, .int (nI 4), []), (151, .iload_n 3, 1, 0, 0, .null, []),
  (152, .imul, 1, 0, 0, .null, []), (153, .iaload, 1, 0, 0, .null, []), (154, .aload_n 0, 1, 0, 0, .null, []), (155, .getfield 48, 3, 8, 16, .null, [775]),
  (158, .iconst 4, 1, 0, 0, .int (nI 4), []), (159, .iload_n 3, 1, 0, 0, .null, []), (160, .imul, 1, 0, 0, .null, []), (161, .iconst 1, 1, 0, 0, .int (nI 1), []),
  (162, .iadd, 1, 0, 0, .null, []), (163, .iaload, 1, 0, 0, .null, []), (164, .aload_n 0, 1, 0, 0, .null, []), (165, .getfield 236, 3, 8, 32, .null, [791]),
  (168, .invokevirtual 195, 3, 33, 0, .null, [0, 929]), (171, .lstore 4, 2, 0, 0, .null, []), (173, .iconst 0, 1, 0, 0, .int (nI 0), []), (174, .istore 6, 2, 0, 0, .null, []),
  (176, .iload 6, 2, 0, 0, .null, []), (178, .iconst 4, 1, 0, 0, .int (nI 4), []), (179, .if_icmp .ge (44), 3, 223, 0, .null, []), (182, .aload_n 0, 1, 0, 0, .null, []),
  (183, .lload 4, 2, 0, 0, .null, []), (185, .iconst 1, 1, 0, 0, .int (nI 1), []), (186, .iconst 0, 1, 0, 0, .int (nI 0), []), (187, .iload 6, 2, 0, 0, .null, []),
  (189, .invokevirtual 150, 3, 27, 0, .null, [0, 937]), (192, .istore 7, 2, 0, 0, .null, []), (194, .aload_n 0, 1, 0, 0, .null, []), (195, .getfield 63, 3, 8, 22, .null, [781]),
  (198, .iload 6, 2, 0, 0, .null, []), (200, .dup2, 1, 0, 0, .null, []), (201, .iaload, 1, 0, 0, .null, []), (202, .iload_n 1, 1, 0, 0, .null, []),
  (203, .iload_n 3, 1, 0, 0, .null, []), (204, .if_icmp .le (8), 3, 212, 0, .null, []), (207, .iload 7, 2, 0, 0, .null, []), (209, .goto (6), 3, 215, 0, .null, []),
  (212, .iload 7, 2, 0, 0, .null, []), (214, .ineg, 1, 0, 0, .null, []), (215, .isub, 1, 0, 0, .null, []), (216, .iastore, 1, 0, 0, .null, []),
  (217, .iinc 6 (1), 3, 0, 0, .null, []), (220, .goto (-44), 3, 176, 0, .null, []), (223, .iinc 3 (1), 3, 0, 0, .null, []), (226, .goto (-109), 3, 117, 0, .null, []),
  (229, .iinc 1 (1), 3, 0, 0, .null, []), (232, .goto (-210), 3, 22, 0, .null, []), (235, .iconst 1, 1, 0, 0, .int (nI 1), []), (236, .ireturn, 1, 0, 0, .null, [])]
-- MaskedSumModel.close()I
def ms_c60 : List (Nat × ms_I) := [(0, .aload_n 0, 1, 0, 0, .null, []), (1, .aload_n 0, 1, 0, 0, .null, []), (2, .invokevirtual 173, 3, 36, 0, .null, [0, 878]), (5, .ifCond .eq (7), 3, 12, 0, .null, []),
  (8, .iconst 0, 1, 0, 0, .int (nI 0), []), (9, .goto (4), 3, 13, 0, .null, []), (12, .iconst 1, 1, 0, 0, .int (nI 1), []), (13, .putfield 90, 3, 8, 0, .null, [759]),
  (16, .aload_n 0, 1, 0, 0, .null, []), (17, .getfield 90, 3, 8, 0, .null, [759]), (20, .ifCond .le (5), 3, 25, 0, .null, []), (23, .iconst 0, 1, 0, 0, .int (nI 0), []),
  (24, .ireturn, 1, 0, 0, .null, []), (25, .aload_n 0, 1, 0, 0, .null, []), (26, .getfield 7, 3, 8, 3, .null, [762]), (29, .istore_n 1, 1, 0, 0, .null, []),
  (30, .aload_n 0, 1, 0, 0, .null, []), (31, .getfield 45, 3, 8, 15, .null, [774]), (34, .iload_n 1, 1, 0, 0, .null, []), (35, .iaload, 1, 0, 0, .null, []),
  (36, .invokestatic 220, 3, 43, 0, .null, [0, 999]), (39, .aload_n 0, 1, 0, 0, .null, []), (40, .getfield 147, 3, 8, 2, .null, [761]), (43, .if_icmp .ge (25), 3, 68, 0, .null, []),
  (46, .aload_n 0, 1, 0, 0, .null, []), (47, .iconst 1, 1, 0, 0, .int (nI 1), []), (48, .iload_n 1, 1, 0, 0, .null, []), (49, .iadd, 1, 0, 0, .null, []),
  (50, .putfield 163, 3, 8, 4, .null, [763]), (53, .aload_n 0, 1, 0, 0, .null, []), (54, .iload_n 1, 1, 0, 0, .null, []), (55, .putfield 245, 3, 8, 33, .null, [792]),
  (58, .aload_n 0, 1, 0, 0, .null, []), (59, .iconst 5, 1, 0, 0, .int (nI 5), []), (60, .putfield 7, 3, 8, 3, .null, [762]), (63, .aload_n 0, 1, 0, 0, .null, []),
  (64, .getfield 7, 3, 8, 3, .null, [762]), (67, .ireturn, 1, 0, 0, .null, []), (68, .aload_n 0, 1, 0, 0, .null, []), (69, .getfield 42, 3, 8, 14, .null, [773]),
  (72, .iload_n 1, 1, 0, 0, .null, []), (73, .aload_n 0, 1, 0, 0, .null, []), (74, .getfield 45, 3, 8, 15, .null, [774]), (77, .iload_n 1, 1, 0, 0, .null, []),
  (78, .iaload, 1, 0, 0, .null, []), (79, .iastore, 1, 0, 0, .null, []), (80, .iload_n 1, 1, 0, 0, .null, []), (81, .iconst 3, 1, 0, 0, .int (nI 3), []),
  (82, .if_icmp .ne (53), 3, 135, 0, .null, []), (85, .aload_n 0, 1, 0, 0, .null, []), (86, .iconst 3, 1, 0, 0, .int (nI 3), []), (87, .putfield 245, 3, 8, 33, .null, [792]),
  (90, .aload_n 0, 1, 0, 0, .null, []), (91, .aload_n 0, 1, 0, 0, .null, []), (92, .invokevirtual 248, 3, 59, 0, .null, [0, 1026]), (95, .putfield 166, 3, 8, 23, .null, [782]),
  (98, .aload_n 0, 1, 0, 0, .null, []), (99, .aload_n 0, 1, 0, 0, .null, []), (100, .getfield 166, 3, 8, 23, .null, [782]), (103, .ifCond .eq (7), 3, 110, 0, .null, []),
  (106, .iconst 0, 1, 0, 0, .int (nI 0), []), (107, .goto (4), 3, 111, 0, .null, []), (110, .iconst 5, 1, 0, 0, .int (nI 5), []), (111, .putfield 163, 3, 8, 4, .null, [763]),
  (114, .aload_n 0, 1, 0, 0, .null, []), (115, .aload_n 0, 1, 0, 0, .null, []), (116, .getfield 166, 3, 8, 23, .null, [782]), (119, .ifCond .eq (7), 3, 126, 0, .null, []),
  (122, .iconst 4, 1, 0, 0, .int (nI 4), []), (123, .goto (4), 3, 127, 0, .null, []), (126, .iconst 5, 1, 0, 0, .int (nI 5), []), (127, .putfield 7, 3, 8, 3, .null, [762]),
  (130, .aload_n 0, 1, 0, 0, .null, []), (131, .getfield 7, 3, 8, 3, .null, [762]), (134, .ireturn, 1, 0, 0, .null, []), (135, .iconst 0, 1, 0, 0, .int (nI 0), []),
  (136, .istore_n 2, 1, 0, 0, .null, []), (137, .iload_n 2, 1, 0, 0, .null, []), (138, .aload_n 0, 1, 0, 0, .null, []), (139, .getfield 160, 3, 8, 1, .null, [760]),
  (142, .if_icmp .ge (37), 3, 179, 0, .null, []), (145, .aload_n 0, 1, 0, 0, .null, []), (146, .getfield 42, 3, 8, 14, .null, [773]), (149, .iload_n 1, 1, 0, 0, .null, []),
  (150, .iconst 2, 1, 0, 0, .int (nI 2), []), (151, .if_icmp .ne (7), 3, 158, 0, .null, []), (154, .iconst 1, 1, 0, 0, .int (nI 1), []), (155, .goto (4), 3, 159, 0, .null, []),
  (158, .iload_n 1, 1, 0, 0, .null, []), (159, .iaload, 1, 0, 0, .null, []), (160, .iload_n 2, 1, 0, 0, .null, []), (161, .invokestatic 191, 3, 42, 0, .null, [0, 926]),
  (164, .ifCond .eq (9), 3, 173, 0, .null, []), (167, .aload_n 0, 1, 0, 0, .null, []), (168, .iload_n 1, 1, 0, 0, .null, []), (169, .iload_n 2, 1, 0, 0, .null, []),
  (170, .invokevirtual 251, 3, 57, 0, .null, [0, 1035]), (173, .iinc 2 (1), 3, 0, 0, .null, []), (176, .goto (-39), 3, 137, 0, .null, []), (179, .aload_n 0, 1, 0, 0, .null, []),
  (180, .dup, 1, 0, 0, .null, []), (181, .getfield 7, 3, 8, 3, .null, [762]), (184, .iconst 1, 1, 0, 0, .int (nI 1), []), (185, .iadd, 1, 0, 0, .null, []),
  (186, .putfield 7, 3, 8, 3, .null, [762]), (189, .aload_n 0, 1, 0, 0, .null, []), (190, .getfield 7, 3, 8, 3, .null, [762]), (193, .ireturn, 1, 0, 0, .null, [])]
-- MaskedSumModel.total(I)I
def ms_c61 : List (Nat × ms_I) := [(0, .iload_n 1, 1, 0, 0, .null, []), (1, .iconst 0, 1, 0, 0, .int (nI 0), []), (2, .iconst 3, 1, 0, 0, .int (nI 3), []), (3, .invokestatic 154, 3, 19, 0, .null, [0, 870]),
  (6, .ifCond .ne (9), 3, 15, 0, .null, []), (9, .aload_n 0, 1, 0, 0, .null, []), (10, .iconst 1, 1, 0, 0, .int (nI 1), []), (11, .invokevirtual 255, 3, 18, 0, .null, [0, 1043]),
  (14, .ireturn, 1, 0, 0, .null, []), (15, .aload_n 0, 1, 0, 0, .null, []), (16, .getfield 166, 3, 8, 23, .null, [782]), (19, .ifCond .ne (9), 3, 28, 0, .null, []),
  (22, .aload_n 0, 1, 0, 0, .null, []), (23, .iconst 2, 1, 0, 0, .int (nI 2), []), (24, .invokevirtual 255, 3, 18, 0, .null, [0, 1043]), (27, .ireturn, 1, 0, 0, .null, []),
  (28, .aload_n 0, 1, 0, 0, .null, []), (29, .iconst 0, 1, 0, 0, .int (nI 0), []), (30, .putfield 90, 3, 8, 0, .null, [759]), (33, .aload_n 0, 1, 0, 0, .null, []),
  (34, .getfield 63, 3, 8, 22, .null, [781]), (37, .iload_n 1, 1, 0, 0, .null, []), (38, .iaload, 1, 0, 0, .null, []), (39, .ireturn, 1, 0, 0, .null, [])]
-- MaskedSumModel.phone(II)I
def ms_c62 : List (Nat × ms_I) := [(0, .aload_n 0, 1, 0, 0, .null, []), (1, .aload_n 0, 1, 0, 0, .null, []), (2, .iload_n 1, 1, 0, 0, .null, []), (3, .invokevirtual 177, 3, 37, 0, .null, [0, 882]),
  (6, .ifCond .eq (16), 3, 22, 0, .null, []), (9, .iload_n 2, 1, 0, 0, .null, []), (10, .iconst 0, 1, 0, 0, .int (nI 0), []), (11, .iconst 3, 1, 0, 0, .int (nI 3), []),
  (12, .invokestatic 154, 3, 19, 0, .null, [0, 870]), (15, .ifCond .eq (7), 3, 22, 0, .null, []), (18, .iconst 0, 1, 0, 0, .int (nI 0), []), (19, .goto (4), 3, 23, 0, .null, []),
  (22, .iconst 1, 1, 0, 0, .int (nI 1), []), (23, .putfield 90, 3, 8, 0, .null, [759]), (26, .aload_n 0, 1, 0, 0, .null, []), (27, .getfield 90, 3, 8, 0, .null, [759]),
  (30, .ifCond .le (5), 3, 35, 0, .null, []), (33, .iconst 0, 1, 0, 0, .int (nI 0), []), (34, .ireturn, 1, 0, 0, .null, []), (35, .iload_n 2, 1, 0, 0, .null, []),
  (36, .ifCond .ne (12), 3, 48, 0, .null, []), (39, .aload_n 0, 1, 0, 0, .null, []), (40, .getfield 21, 3, 8, 7, .null, [766]), (43, .iload_n 1, 1, 0, 0, .null, []),
  (44, .iaload, 1, 0, 0, .null, []), (45, .goto (37), 3, 82, 0, .null, []), (48, .iload_n 2, 1, 0, 0, .null, []), (49, .iconst 1, 1, 0, 0, .int (nI 1), []),
  (50, .if_icmp .ne (12), 3, 62, 0, .null, []), (53, .aload_n 0, 1, 0, 0, .null, []), (54, .getfield 24, 3, 8, 8, .null, [767]), (57, .iload_n 1, 1, 0, 0, .null, []),
  (58, .iaload, 1, 0, 0, .null, []), (59, .goto (23), 3, 82, 0, .null, []), (62, .iload_n 2, 1, 0, 0, .null, []), (63, .iconst 2, 1, 0, 0, .int (nI 2), []),
  (64, .if_icmp .ne (12), 3, 76, 0, .null, []), (67, .aload_n 0, 1, 0, 0, .null, []), (68, .getfield 27, 3, 8, 9, .null, [768]), (71, .iload_n 1, 1, 0, 0, .null, []),
  (72, .iaload, 1, 0, 0, .null, []), (73, .goto (9), 3, 82, 0, .null, []), (76, .aload_n 0, 1, 0, 0, .null, []), (77, .getfield 30, 3, 8, 10, .null, [769]),
  (80, .iload_n 1, 1, 0, 0, .null, []), (81, .iaload, 1, 0, 0, .null, []), (82, .ireturn, 1, 0, 0, .null, [])]
-- MaskedSumModel.count(I)I
def ms_c63 : List (Nat × ms_I) := [(0, .aload_n 0, 1, 0, 0, .null, []), (1, .iconst 0, 1, 0, 0, .int (nI 0), []), (2, .putfield 90, 3, 8, 0, .null, [759]), (5, .iload_n 1, 1, 0, 0, .null, []),
  (6, .tableswitch (90) (0) (6) #[42, 47, 52, 57, 57, 57, 66], 42, 96, 0, .null, [48, 53, 58, 63, 63, 63, 72]), (48, .aload_n 0, 1, 0, 0, .null, []), (49, .getfield 170, 3, 8, 20, .null, [779]), (52, .ireturn, 1, 0, 0, .null, []),
  (53, .aload_n 0, 1, 0, 0, .null, []), (54, .getfield 7, 3, 8, 3, .null, [762]), (57, .ireturn, 1, 0, 0, .null, []), (58, .aload_n 0, 1, 0, 0, .null, []),
  (59, .getfield 163, 3, 8, 4, .null, [763]), (62, .ireturn, 1, 0, 0, .null, []), (63, .aload_n 0, 1, 0, 0, .null, []), (64, .getfield 42, 3, 8, 14, .null, [773]),
  (67, .iload_n 1, 1, 0, 0, .null, []), (68, .iconst 3, 1, 0, 0, .int (nI 3), []), (69, .isub, 1, 0, 0, .null, []), (70, .iaload, 1, 0, 0, .null, []),
  (71, .ireturn, 1, 0, 0, .null, []), (72, .aload_n 0, 1, 0, 0, .null, []), (73, .getfield 45, 3, 8, 15, .null, [774]), (76, .aload_n 0, 1, 0, 0, .null, []),
  (77, .invokevirtual 173, 3, 36, 0, .null, [0, 878]), (80, .ifCond .eq (10), 3, 90, 0, .null, []), (83, .aload_n 0, 1, 0, 0, .null, []), (84, .getfield 7, 3, 8, 3, .null, [762]),
  (87, .goto (7), 3, 94, 0, .null, []), (90, .aload_n 0, 1, 0, 0, .null, []), (91, .getfield 245, 3, 8, 33, .null, [792]), (94, .iaload, 1, 0, 0, .null, []),
  (95, .ireturn, 1, 0, 0, .null, []), (96, .iconst (-1), 1, 0, 0, .int (-1), []), (97, .ireturn, 1, 0, 0, .null, [])]
-- MaskedSumModel.stream(IIIII)I
def ms_c64 : List (Nat × ms_I) := [(0, .aload_n 0, 1, 0, 0, .null, []), (1, .iload 5, 2, 0, 0, .null, []), (3, .iconst 0, 1, 0, 0, .int (nI 0), []), (4, .bipush 63, 2, 0, 0, .int (nI 63), []),
  (6, .invokestatic 154, 3, 19, 0, .null, [0, 870]), (9, .ifCond .eq (7), 3, 16, 0, .null, []), (12, .iconst 0, 1, 0, 0, .int (nI 0), []), (13, .goto (4), 3, 17, 0, .null, []),
  (16, .iconst 1, 1, 0, 0, .int (nI 1), []), (17, .putfield 90, 3, 8, 0, .null, [759]), (20, .aload_n 0, 1, 0, 0, .null, []), (21, .getfield 90, 3, 8, 0, .null, [759]),
  (24, .ifCond .le (7), 3, 31, 0, .null, []), (27, .iconst 0, 1, 0, 0, .int (nI 0), []), (28, .goto (17), 3, 45, 0, .null, []), (31, .aload_n 0, 1, 0, 0, .null, []),
  (32, .iload_n 1, 1, 0, 0, .null, []), (33, .iload_n 2, 1, 0, 0, .null, []), (34, .invokestatic 140, 3, 23, 0, .null, [0, 886]), (37, .iload_n 3, 1, 0, 0, .null, []),
  (38, .iload 4, 2, 0, 0, .null, []), (40, .iload 5, 2, 0, 0, .null, []), (42, .invokevirtual 150, 3, 27, 0, .null, [0, 937]), (45, .ireturn, 1, 0, 0, .null, [])]
-- MaskedSum$ChaCha.<init>()V
def ms_c65 : List (Nat × ms_I) := [(0, .aload_n 0, 1, 0, 0, .null, []), (1, .invokespecial 3, 3, 0, 2, .null, [92]), (4, .aload_n 0, 1, 0, 0, .null, []), (5, .bipush 16, 2, 0, 0, .int (nI 16), []),
  (7, .newarray .int, 2, 0, 0, .null, []), (9, .putfield 9, 3, 2, 0, .null, [93]), (12, .aload_n 0, 1, 0, 0, .null, []), (13, .bipush 16, 2, 0, 0, .int (nI 16), []),
  (15, .newarray .int, 2, 0, 0, .null, []), (17, .putfield 15, 3, 2, 1, .null, [94]), (20, .return_, 1, 0, 0, .null, [])]
-- MaskedSum$ChaCha.makeBlock(JIIII)[I
def ms_c66 : List (Nat × ms_I) := [(0, .aload_n 0, 1, 0, 0, .null, []), (1, .getfield 9, 3, 2, 0, .null, [93]), (4, .iconst 0, 1, 0, 0, .int (nI 0), []), (5, .ldc 18, 2, 478, 0, .int (nI 1634760805), []),
  (7, .iastore, 1, 0, 0, .null, []), (8, .aload_n 0, 1, 0, 0, .null, []), (9, .getfield 9, 3, 2, 0, .null, [93]), (12, .iconst 1, 1, 0, 0, .int (nI 1), []),
  (13, .ldc 19, 2, 479, 0, .int (nI 857760878), []), (15, .iastore, 1, 0, 0, .null, []), (16, .aload_n 0, 1, 0, 0, .null, []), (17, .getfield 9, 3, 2, 0, .null, [93]),
  (20, .iconst 2, 1, 0, 0, .int (nI 2), []), (21, .ldc 20, 2, 480, 0, .int (nI 2036477234), []), (23, .iastore, 1, 0, 0, .null, []), (24, .aload_n 0, 1, 0, 0, .null, []),
  (25, .getfield 9, 3, 2, 0, .null, [93]), (28, .iconst 3, 1, 0, 0, .int (nI 3), []), (29, .ldc 21, 2, 481, 0, .int (nI 1797285236), []), (31, .iastore, 1, 0, 0, .null, []),
  (32, .lload_n 1, 1, 0, 0, .null, []), (33, .aload_n 0, 1, 0, 0, .null, []), (34, .getfield 9, 3, 2, 0, .null, [93]), (37, .iconst 4, 1, 0, 0, .int (nI 4), []),
  (38, .invokestatic 22, 3, 86, 0, .null, [0, 482]), (41, .aload_n 0, 1, 0, 0, .null, []), (42, .getfield 9, 3, 2, 0, .null, [93]), (45, .bipush 12, 2, 0, 0, .int (nI 12), []),
  (47, .iload_n 3, 1, 0, 0, .null, []), (48, .iastore, 1, 0, 0, .null, []), (49, .aload_n 0, 1, 0, 0, .null, []), (50, .getfield 9, 3, 2, 0, .null, [93]),
  (53, .bipush 13, 2, 0, 0, .int (nI 13), []), (55, .iload 4, 2, 0, 0, .null, []), (57, .iastore, 1, 0, 0, .null, []), (58, .aload_n 0, 1, 0, 0, .null, []),
  (59, .getfield 9, 3, 2, 0, .null, [93]), (62, .bipush 14, 2, 0, 0, .int (nI 14), []), (64, .iload 5, 2, 0, 0, .null, []), (66, .iastore, 1, 0, 0, .null, []),
  (67, .aload_n 0, 1, 0, 0, .null, []), (68, .getfield 9, 3, 2, 0, .null, [93]), (71, .bipush 15, 2, 0, 0, .int (nI 15), []), (73, .iload 6, 2, 0, 0, .null, []),
  (75, .iastore, 1, 0, 0, .null, []), (76, .aload_n 0, 1, 0, 0, .null, []), (77, .getfield 9, 3, 2, 0, .null, [93]), (80, .iconst 0, 1, 0, 0, .int (nI 0), []),
  (81, .aload_n 0, 1, 0, 0, .null, []), (82, .getfield 15, 3, 2, 1, .null, [94]), (85, .iconst 0, 1, 0, 0, .int (nI 0), []), (86, .bipush 16, 2, 0, 0, .int (nI 16), []),
  (88, .invokestatic 28, 3, 0, 1, .null, [483]), (91, .iconst 0, 1, 0, 0, .int (nI 0), []), (92, .istore 7, 2, 0, 0, .null, []), (94, .iload 7, 2, 0, 0, .null, []),
  (96, .bipush 20, 2, 0, 0, .int (nI 20), []), (98, .if_icmp .ge (69), 3, 167, 0, .null, []), (101, .iload 7, 2, 0, 0, .null, []), (103, .iconst 2, 1, 0, 0, .int (nI 2), []),
  (104, .irem, 1, 0, 0, .null, []), (105, .istore 8, 2, 0, 0, .null, []), (107, .iconst 0, 1, 0, 0, .int (nI 0), []), (108, .istore 9, 2, 0, 0, .null, []),
  (110, .iload 9, 2, 0, 0, .null, []), (112, .iconst 4, 1, 0, 0, .int (nI 4), []), (113, .if_icmp .ge (48), 3, 161, 0, .null, []), (116, .aload_n 0, 1, 0, 0, .null, []),
  (117, .iload 9, 2, 0, 0, .null, []), (119, .iconst 4, 1, 0, 0, .int (nI 4), []), (120, .iload 9, 2, 0, 0, .null, []), (122, .iload 8, 2, 0, 0, .null, []),
  (124, .iadd, 1, 0, 0, .null, []), (125, .iconst 4, 1, 0, 0, .int (nI 4), []), (126, .irem, 1, 0, 0, .null, []), (127, .iadd, 1, 0, 0, .null, []),
  (128, .bipush 8, 2, 0, 0, .int (nI 8), []), (130, .iload 9, 2, 0, 0, .null, []), (132, .iconst 2, 1, 0, 0, .int (nI 2), []), (133, .iload 8, 2, 0, 0, .null, []),
  (135, .imul, 1, 0, 0, .null, []), (136, .iadd, 1, 0, 0, .null, []), (137, .iconst 4, 1, 0, 0, .int (nI 4), []), (138, .irem, 1, 0, 0, .null, []),
  (139, .iadd, 1, 0, 0, .null, []), (140, .bipush 12, 2, 0, 0, .int (nI 12), []), (142, .iload 9, 2, 0, 0, .null, []), (144, .iconst 3, 1, 0, 0, .int (nI 3), []),
  (145, .iload 8, 2, 0, 0, .null, []), (147, .imul, 1, 0, 0, .null, []), (148, .iadd, 1, 0, 0, .null, []), (149, .iconst 4, 1, 0, 0, .int (nI 4), []),
  (150, .irem, 1, 0, 0, .null, []), (151, .iadd, 1, 0, 0, .null, []), (152, .invokevirtual 34, 3, 67, 0, .null, [0, 486]), (155, .iinc 9 (1), 3, 0, 0, .null, []),
  (158, .goto (-48), 3, 110, 0, .null, []), (161, .iinc 7 (1), 3, 0, 0, .null, []), (164, .goto (-70), 3, 94, 0, .null, []), (167, .iconst 0, 1, 0, 0, .int (nI 0), []),
  (168, .istore 7, 2, 0, 0, .null, []), (170, .iload 7, 2, 0, 0, .null, []), (172, .bipush 16, 2, 0, 0, .int (nI 16), []), (174, .if_icmp .ge (26), 3, 200, 0, .null, []),
  (177, .aload_n 0, 1, 0, 0, .null, []), (178, .getfield 15, 3, 2, 1, .null, [94]), (181, .iload 7, 2, 0, 0, .null, []), (183, .dup2, 1, 0, 0, .null, []),
  (184, .iaload, 1, 0, 0, .null, []), (185, .aload_n 0, 1, 0, 0, .null, []), (186, .getfield 9, 3, 2, 0, .null, [93]), (189, .iload 7, 2, 0, 0, .null, []),
  (191, .iaload, 1, 0, 0, .null, []), (192, .iadd, 1, 0, 0, .null, []), (193, .iastore, 1, 0, 0, .null, []), (194, .iinc 7 (1), 3, 0, 0, .null, []),
  (197, .goto (-27), 3, 170, 0, .null, []), (200, .aload_n 0, 1, 0, 0, .null, []), (201, .getfield 15, 3, 2, 1, .null, [94]), (204, .areturn, 1, 0, 0, .null, [])]
-- MaskedSum$ChaCha.quarterRound(IIII)V
def ms_c67 : List (Nat × ms_I) := [(0, .aload_n 0, 1, 0, 0, .null, []), (1, .getfield 15, 3, 2, 1, .null, [94]), (4, .iload_n 1, 1, 0, 0, .null, []), (5, .dup2, 1, 0, 0, .null, []),
  (6, .iaload, 1, 0, 0, .null, []), (7, .aload_n 0, 1, 0, 0, .null, []), (8, .getfield 15, 3, 2, 1, .null, [94]), (11, .iload_n 2, 1, 0, 0, .null, []),
  (12, .iaload, 1, 0, 0, .null, []), (13, .iadd, 1, 0, 0, .null, []), (14, .iastore, 1, 0, 0, .null, []), (15, .aload_n 0, 1, 0, 0, .null, []),
  (16, .getfield 15, 3, 2, 1, .null, [94]), (19, .iload 4, 2, 0, 0, .null, []), (21, .aload_n 0, 1, 0, 0, .null, []), (22, .getfield 15, 3, 2, 1, .null, [94]),
  (25, .iload 4, 2, 0, 0, .null, []), (27, .iaload, 1, 0, 0, .null, []), (28, .aload_n 0, 1, 0, 0, .null, []), (29, .getfield 15, 3, 2, 1, .null, [94]),
  (32, .iload_n 1, 1, 0, 0, .null, []), (33, .iaload, 1, 0, 0, .null, []), (34, .ixor, 1, 0, 0, .null, []), (35, .bipush 16, 2, 0, 0, .int (nI 16), []),
  (37, .invokestatic 38, 3, 147, 0, .null, [0, 490]), (40, .iastore, 1, 0, 0, .null, []), (41, .aload_n 0, 1, 0, 0, .null, []), (42, .getfield 15, 3, 2, 1, .null, [94]),
  (45, .iload_n 3, 1, 0, 0, .null, []), (46, .dup2, 1, 0, 0, .null, []), (47, .iaload, 1, 0, 0, .null, []), (48, .aload_n 0, 1, 0, 0, .null, []),
  (49, .getfield 15, 3, 2, 1, .null, [94]), (52, .iload 4, 2, 0, 0, .null, []), (54, .iaload, 1, 0, 0, .null, []), (55, .iadd, 1, 0, 0, .null, []),
  (56, .iastore, 1, 0, 0, .null, []), (57, .aload_n 0, 1, 0, 0, .null, []), (58, .getfield 15, 3, 2, 1, .null, [94]), (61, .iload_n 2, 1, 0, 0, .null, []),
  (62, .aload_n 0, 1, 0, 0, .null, []), (63, .getfield 15, 3, 2, 1, .null, [94]), (66, .iload_n 2, 1, 0, 0, .null, []), (67, .iaload, 1, 0, 0, .null, []),
  (68, .aload_n 0, 1, 0, 0, .null, []), (69, .getfield 15, 3, 2, 1, .null, [94]), (72, .iload_n 3, 1, 0, 0, .null, []), (73, .iaload, 1, 0, 0, .null, []),
  (74, .ixor, 1, 0, 0, .null, []), (75, .bipush 12, 2, 0, 0, .int (nI 12), []), (77, .invokestatic 38, 3, 147, 0, .null, [0, 490]), (80, .iastore, 1, 0, 0, .null, []),
  (81, .aload_n 0, 1, 0, 0, .null, []), (82, .getfield 15, 3, 2, 1, .null, [94]), (85, .iload_n 1, 1, 0, 0, .null, []), (86, .dup2, 1, 0, 0, .null, []),
  (87, .iaload, 1, 0, 0, .null, []), (88, .aload_n 0, 1, 0, 0, .null, []), (89, .getfield 15, 3, 2, 1, .null, [94]), (92, .iload_n 2, 1, 0, 0, .null, []),
  (93, .iaload, 1, 0, 0, .null, []), (94, .iadd, 1, 0, 0, .null, []), (95, .iastore, 1, 0, 0, .null, []), (96, .aload_n 0, 1, 0, 0, .null, []),
  (97, .getfield 15, 3, 2, 1, .null, [94]), (100, .iload 4, 2, 0, 0, .null, []), (102, .aload_n 0, 1, 0, 0, .null, []), (103, .getfield 15, 3, 2, 1, .null, [94]),
  (106, .iload 4, 2, 0, 0, .null, []), (108, .iaload, 1, 0, 0, .null, []), (109, .aload_n 0, 1, 0, 0, .null, []), (110, .getfield 15, 3, 2, 1, .null, [94]),
  (113, .iload_n 1, 1, 0, 0, .null, []), (114, .iaload, 1, 0, 0, .null, []), (115, .ixor, 1, 0, 0, .null, []), (116, .bipush 8, 2, 0, 0, .int (nI 8), []),
  (118, .invokestatic 38, 3, 147, 0, .null, [0, 490]), (121, .iastore, 1, 0, 0, .null, []), (122, .aload_n 0, 1, 0, 0, .null, []), (123, .getfield 15, 3, 2, 1, .null, [94]),
  (126, .iload_n 3, 1, 0, 0, .null, []), (127, .dup2, 1, 0, 0, .null, []), (128, .iaload, 1, 0, 0, .null, []), (129, .aload_n 0, 1, 0, 0, .null, []),
  (130, .getfield 15, 3, 2, 1, .null, [94]), (133, .iload 4, 2, 0, 0, .null, []), (135, .iaload, 1, 0, 0, .null, []), (136, .iadd, 1, 0, 0, .null, []),
  (137, .iastore, 1, 0, 0, .null, []), (138, .aload_n 0, 1, 0, 0, .null, []), (139, .getfield 15, 3, 2, 1, .null, [94]), (142, .iload_n 2, 1, 0, 0, .null, []),
  (143, .aload_n 0, 1, 0, 0, .null, []), (144, .getfield 15, 3, 2, 1, .null, [94]), (147, .iload_n 2, 1, 0, 0, .null, []), (148, .iaload, 1, 0, 0, .null, []),
  (149, .aload_n 0, 1, 0, 0, .null, []), (150, .getfield 15, 3, 2, 1, .null, [94]), (153, .iload_n 3, 1, 0, 0, .null, []), (154, .iaload, 1, 0, 0, .null, []),
  (155, .ixor, 1, 0, 0, .null, []), (156, .bipush 7, 2, 0, 0, .int (nI 7), []), (158, .invokestatic 38, 3, 147, 0, .null, [0, 490]), (161, .iastore, 1, 0, 0, .null, []),
  (162, .return_, 1, 0, 0, .null, [])]
-- MaskedSum$Crypto.<init>()V
def ms_c68 : List (Nat × ms_I) := [(0, .aload_n 0, 1, 0, 0, .null, []), (1, .invokespecial 3, 3, 0, 2, .null, [86]), (4, .aload_n 0, 1, 0, 0, .null, []), (5, .new 9, 3, 2, 0, .null, [87]),
  (8, .dup, 1, 0, 0, .null, []), (9, .invokespecial 11, 3, 65, 0, .null, [1, 1]), (12, .putfield 12, 3, 1, 0, .null, [125]), (15, .aload_n 0, 1, 0, 0, .null, []),
  (16, .new 18, 3, 3, 0, .null, [101]), (19, .dup, 1, 0, 0, .null, []), (20, .invokespecial 20, 3, 105, 0, .null, [1, 2]), (23, .putfield 21, 3, 1, 1, .null, [126]),
  (26, .return_, 1, 0, 0, .null, [])]
-- MaskedSum$Crypto.streamBlock(JIII)[I
def ms_c69 : List (Nat × ms_I) := [(0, .aload_n 0, 1, 0, 0, .null, []), (1, .getfield 12, 3, 1, 0, .null, [125]), (4, .lload_n 1, 1, 0, 0, .null, []), (5, .iload 5, 2, 0, 0, .null, []),
  (7, .iload_n 3, 1, 0, 0, .null, []), (8, .iload 4, 2, 0, 0, .null, []), (10, .iconst 0, 1, 0, 0, .int (nI 0), []), (11, .invokevirtual 25, 3, 66, 0, .null, [0, 474]),
  (14, .areturn, 1, 0, 0, .null, [])]
-- MaskedSum$Crypto.addMask([IZJII)V
def ms_c70 : List (Nat × ms_I) := [(0, .aload_n 0, 1, 0, 0, .null, []), (1, .getfield 12, 3, 1, 0, .null, [125]), (4, .lload_n 3, 1, 0, 0, .null, []), (5, .iconst 0, 1, 0, 0, .int (nI 0), []),
  (6, .iload 5, 2, 0, 0, .null, []), (8, .iload 6, 2, 0, 0, .null, []), (10, .iconst 0, 1, 0, 0, .int (nI 0), []), (11, .invokevirtual 25, 3, 66, 0, .null, [0, 474]),
  (14, .astore 7, 2, 0, 0, .null, []), (16, .iconst 0, 1, 0, 0, .int (nI 0), []), (17, .istore 8, 2, 0, 0, .null, []), (19, .iload 8, 2, 0, 0, .null, []),
  (21, .iconst 4, 1, 0, 0, .int (nI 4), []), (22, .if_icmp .ge (34), 3, 56, 0, .null, []), (25, .aload_n 1, 1, 0, 0, .null, []), (26, .iload 8, 2, 0, 0, .null, []),
  (28, .dup2, 1, 0, 0, .null, []), (29, .iaload, 1, 0, 0, .null, []), (30, .iload_n 2, 1, 0, 0, .null, []), (31, .ifCond .eq (11), 3, 42, 0, .null, []),
  (34, .aload 7, 2, 0, 0, .null, []), (36, .iload 8, 2, 0, 0, .null, []), (38, .iaload, 1, 0, 0, .null, []), (39, .goto (9), 3, 48, 0, .null, []),
  (42, .aload 7, 2, 0, 0, .null, []), (44, .iload 8, 2, 0, 0, .null, []), (46, .iaload, 1, 0, 0, .null, []), (47, .ineg, 1, 0, 0, .null, []),
  (48, .iadd, 1, 0, 0, .null, []), (49, .iastore, 1, 0, 0, .null, []), (50, .iinc 8 (1), 3, 0, 0, .null, []), (53, .goto (-34), 3, 19, 0, .null, []),
  (56, .return_, 1, 0, 0, .null, [])]
-- MaskedSum$Crypto.seal(JII[II)V
def ms_c71 : List (Nat × ms_I) := [(0, .aload_n 0, 1, 0, 0, .null, []), (1, .getfield 12, 3, 1, 0, .null, [125]), (4, .lload_n 1, 1, 0, 0, .null, []), (5, .iconst 1, 1, 0, 0, .int (nI 1), []),
  (6, .iload_n 3, 1, 0, 0, .null, []), (7, .iload 4, 2, 0, 0, .null, []), (9, .iconst 1, 1, 0, 0, .int (nI 1), []), (10, .invokevirtual 25, 3, 66, 0, .null, [0, 474]),
  (13, .astore 7, 2, 0, 0, .null, []), (15, .iconst 0, 1, 0, 0, .int (nI 0), []), (16, .istore 8, 2, 0, 0, .null, []), (18, .iload 8, 2, 0, 0, .null, []),
  (20, .iconst 4, 1, 0, 0, .int (nI 4), []), (21, .if_icmp .ge (25), 3, 46, 0, .null, []), (24, .aload 5, 2, 0, 0, .null, []), (26, .iload 6, 2, 0, 0, .null, []),
  (28, .iload 8, 2, 0, 0, .null, []), (30, .iadd, 1, 0, 0, .null, []), (31, .dup2, 1, 0, 0, .null, []), (32, .iaload, 1, 0, 0, .null, []),
  (33, .aload 7, 2, 0, 0, .null, []), (35, .iload 8, 2, 0, 0, .null, []), (37, .iaload, 1, 0, 0, .null, []), (38, .ixor, 1, 0, 0, .null, []),
  (39, .iastore, 1, 0, 0, .null, []), (40, .iinc 8 (1), 3, 0, 0, .null, []), (43, .goto (-25), 3, 18, 0, .null, []), (46, .aload_n 0, 1, 0, 0, .null, []),
  (47, .lload_n 1, 1, 0, 0, .null, []), (48, .iload_n 3, 1, 0, 0, .null, []), (49, .iload 4, 2, 0, 0, .null, []), (51, .aload 5, 2, 0, 0, .null, []),
  (53, .iload 6, 2, 0, 0, .null, []), (55, .invokevirtual 29, 3, 73, 0, .null, [0, 521]), (58, .aload_n 0, 1, 0, 0, .null, []), (59, .getfield 21, 3, 1, 1, .null, [126]),
  (62, .getfield 33, 3, 3, 4, .null, [112]), (65, .iconst 0, 1, 0, 0, .int (nI 0), []), (66, .aload 5, 2, 0, 0, .null, []), (68, .iload 6, 2, 0, 0, .null, []),
  (70, .iconst 4, 1, 0, 0, .int (nI 4), []), (71, .iadd, 1, 0, 0, .null, []), (72, .iconst 4, 1, 0, 0, .int (nI 4), []), (73, .invokestatic 37, 3, 0, 1, .null, [571]),
  (76, .return_, 1, 0, 0, .null, [])]
-- MaskedSum$Crypto.open(JII[II[I)Z
def ms_c72 : List (Nat × ms_I) := [(0, .aload_n 0, 1, 0, 0, .null, []), (1, .lload_n 1, 1, 0, 0, .null, []), (2, .iload_n 3, 1, 0, 0, .null, []), (3, .iload 4, 2, 0, 0, .null, []),
  (5, .aload 5, 2, 0, 0, .null, []), (7, .iload 6, 2, 0, 0, .null, []), (9, .invokevirtual 29, 3, 73, 0, .null, [0, 521]), (12, .iconst 0, 1, 0, 0, .int (nI 0), []),
  (13, .istore 8, 2, 0, 0, .null, []), (15, .iload 8, 2, 0, 0, .null, []), (17, .iconst 4, 1, 0, 0, .int (nI 4), []), (18, .if_icmp .ge (34), 3, 52, 0, .null, []),
  (21, .aload_n 0, 1, 0, 0, .null, []), (22, .getfield 21, 3, 1, 1, .null, [126]), (25, .getfield 33, 3, 3, 4, .null, [112]), (28, .iload 8, 2, 0, 0, .null, []),
  (30, .iaload, 1, 0, 0, .null, []), (31, .aload 5, 2, 0, 0, .null, []), (33, .iload 6, 2, 0, 0, .null, []), (35, .iconst 4, 1, 0, 0, .int (nI 4), []),
  (36, .iadd, 1, 0, 0, .null, []), (37, .iload 8, 2, 0, 0, .null, []), (39, .iadd, 1, 0, 0, .null, []), (40, .iaload, 1, 0, 0, .null, []),
  (41, .if_icmp .eq (5), 3, 46, 0, .null, []), (44, .iconst 0, 1, 0, 0, .int (nI 0), []), (45, .ireturn, 1, 0, 0, .null, []), (46, .iinc 8 (1), 3, 0, 0, .null, []),
  (49, .goto (-34), 3, 15, 0, .null, []), (52, .aload_n 0, 1, 0, 0, .null, []), (53, .getfield 12, 3, 1, 0, .null, [125]), (56, .lload_n 1, 1, 0, 0, .null, []),
  (57, .iconst 1, 1, 0, 0, .int (nI 1), []), (58, .iload_n 3, 1, 0, 0, .null, []), (59, .iload 4, 2, 0, 0, .null, []), (61, .iconst 1, 1, 0, 0, .int (nI 1), []),
  (62, .invokevirtual 25, 3, 66, 0, .null, [0, 474]), (65, .astore 8, 2, 0, 0, .null, []), (67, .iconst 0, 1, 0, 0, .int (nI 0), []), (68, .istore 9, 2, 0, 0, .null, []),
  (70, .iload 9, 2, 0, 0, .null, []), (72, .iconst 4, 1, 0, 0, .int (nI 4), []), (73, .if_icmp .ge (28), 3, 101, 0, .null, []), (76, .aload 7, 2, 0, 0, .null, []),
  (78, .iload 9, 2, 0, 0, .null, []), (80, .aload 5, 2, 0, 0, .null, []), (82, .iload 6, 2, 0, 0, .null, []), (84, .iload 9, 2, 0, 0, .null, []),
  (86, .iadd, 1, 0, 0, .null, []), (87, .iaload, 1, 0, 0, .null, []), (88, .aload 8, 2, 0, 0, .null, []), (90, .iload 9, 2, 0, 0, .null, []),
  (92, .iaload, 1, 0, 0, .null, []), (93, .ixor, 1, 0, 0, .null, []), (94, .iastore, 1, 0, 0, .null, []), (95, .iinc 9 (1), 3, 0, 0, .null, []),
  (98, .goto (-28), 3, 70, 0, .null, []), (101, .iconst 1, 1, 0, 0, .int (nI 1), []), (102, .ireturn, 1, 0, 0, .null, [])]
-- MaskedSum$Crypto.makeTag(JII[II)V
def ms_c73 : List (Nat × ms_I) := [(0, .aload_n 0, 1, 0, 0, .null, []), (1, .getfield 21, 3, 1, 1, .null, [126]), (4, .aload_n 0, 1, 0, 0, .null, []), (5, .getfield 12, 3, 1, 0, .null, [125]),
  (8, .lload_n 1, 1, 0, 0, .null, []), (9, .iconst 0, 1, 0, 0, .int (nI 0), []), (10, .iload_n 3, 1, 0, 0, .null, []), (11, .iload 4, 2, 0, 0, .null, []),
  (13, .iconst 1, 1, 0, 0, .int (nI 1), []), (14, .invokevirtual 25, 3, 66, 0, .null, [0, 474]), (17, .invokevirtual 43, 3, 106, 0, .null, [0, 525]), (20, .aload_n 0, 1, 0, 0, .null, []),
  (21, .getfield 21, 3, 1, 1, .null, [126]), (24, .aload 5, 2, 0, 0, .null, []), (26, .iload 6, 2, 0, 0, .null, []), (28, .iaload, 1, 0, 0, .null, []),
  (29, .aload 5, 2, 0, 0, .null, []), (31, .iload 6, 2, 0, 0, .null, []), (33, .iconst 1, 1, 0, 0, .int (nI 1), []), (34, .iadd, 1, 0, 0, .null, []),
  (35, .iaload, 1, 0, 0, .null, []), (36, .aload 5, 2, 0, 0, .null, []), (38, .iload 6, 2, 0, 0, .null, []), (40, .iconst 2, 1, 0, 0, .int (nI 2), []),
  (41, .iadd, 1, 0, 0, .null, []), (42, .iaload, 1, 0, 0, .null, []), (43, .aload 5, 2, 0, 0, .null, []), (45, .iload 6, 2, 0, 0, .null, []),
  (47, .iconst 3, 1, 0, 0, .int (nI 3), []), (48, .iadd, 1, 0, 0, .null, []), (49, .iaload, 1, 0, 0, .null, []), (50, .invokevirtual 47, 3, 107, 0, .null, [0, 540]),
  (53, .aload_n 0, 1, 0, 0, .null, []), (54, .getfield 21, 3, 1, 1, .null, [126]), (57, .iconst 0, 1, 0, 0, .int (nI 0), []), (58, .iconst 0, 1, 0, 0, .int (nI 0), []),
  (59, .bipush 16, 2, 0, 0, .int (nI 16), []), (61, .iconst 0, 1, 0, 0, .int (nI 0), []), (62, .invokevirtual 47, 3, 107, 0, .null, [0, 540]), (65, .aload_n 0, 1, 0, 0, .null, []),
  (66, .getfield 21, 3, 1, 1, .null, [126]), (69, .invokevirtual 51, 3, 112, 0, .null, [0, 558]), (72, .return_, 1, 0, 0, .null, [])]
-- MaskedSum$Mail.<init>()V
def ms_c74 : List (Nat × ms_I) := [(0, .aload_n 0, 1, 0, 0, .null, []), (1, .invokespecial 3, 3, 0, 2, .null, [137]), (4, .aload_n 0, 1, 0, 0, .null, []), (5, .bipush 56, 2, 0, 0, .int (nI 56), []),
  (7, .anewarray 11, 3, 3, 0, .null, [138]), (10, .putfield 13, 3, 4, 0, .null, [171]), (13, .aload_n 0, 1, 0, 0, .null, []), (14, .bipush 56, 2, 0, 0, .int (nI 56), []),
  (16, .newarray .int, 2, 0, 0, .null, []), (18, .putfield 17, 3, 4, 1, .null, [172]), (21, .iconst 0, 1, 0, 0, .int (nI 0), []), (22, .istore_n 1, 1, 0, 0, .null, []),
  (23, .iload_n 1, 1, 0, 0, .null, []), (24, .bipush 8, 2, 0, 0, .int (nI 8), []), (26, .if_icmp .ge (89), 3, 115, 0, .null, []), (29, .iconst 0, 1, 0, 0, .int (nI 0), []),
  (30, .istore_n 2, 1, 0, 0, .null, []), (31, .iload_n 2, 1, 0, 0, .null, []), (32, .iconst 4, 1, 0, 0, .int (nI 4), []), (33, .if_icmp .ge (35), 3, 68, 0, .null, []),
  (36, .aload_n 0, 1, 0, 0, .null, []), (37, .getfield 13, 3, 4, 0, .null, [171]), (40, .iload_n 1, 1, 0, 0, .null, []), (41, .bipush 7, 2, 0, 0, .int (nI 7), []),
  (43, .imul, 1, 0, 0, .null, []), (44, .iload_n 2, 1, 0, 0, .null, []), (45, .iadd, 1, 0, 0, .null, []), (46, .new 11, 3, 5, 0, .null, [138]),
  (49, .dup, 1, 0, 0, .null, []), (50, .iload_n 2, 1, 0, 0, .null, []), (51, .iload_n 1, 1, 0, 0, .null, []), (52, .iconst 0, 1, 0, 0, .int (nI 0), []),
  (53, .getstatic 21, 3, 1, 3, .ref 1, []), (56, .iload_n 2, 1, 0, 0, .null, []), (57, .iaload, 1, 0, 0, .null, []), (58, .invokespecial 24, 3, 82, 0, .null, [0, 143]),
  (61, .aastore, 1, 0, 0, .null, []), (62, .iinc 2 (1), 3, 0, 0, .null, []), (65, .goto (-34), 3, 31, 0, .null, []), (68, .iconst 0, 1, 0, 0, .int (nI 0), []),
  (69, .istore_n 2, 1, 0, 0, .null, []), (70, .iload_n 2, 1, 0, 0, .null, []), (71, .iconst 3, 1, 0, 0, .int (nI 3), []), (72, .if_icmp .ge (37), 3, 109, 0, .null, []),
  (75, .aload_n 0, 1, 0, 0, .null, []), (76, .getfield 13, 3, 4, 0, .null, [171]), (79, .iload_n 1, 1, 0, 0, .null, []), (80, .bipush 7, 2, 0, 0, .int (nI 7), []),
  (82, .imul, 1, 0, 0, .null, []), (83, .iconst 4, 1, 0, 0, .int (nI 4), []), (84, .iadd, 1, 0, 0, .null, []), (85, .iload_n 2, 1, 0, 0, .null, []),
  (86, .iadd, 1, 0, 0, .null, []), (87, .new 11, 3, 5, 0, .null, [138]), (90, .dup, 1, 0, 0, .null, []), (91, .iload_n 2, 1, 0, 0, .null, []),
  (92, .iload_n 1, 1, 0, 0, .null, []), (93, .iconst 1, 1, 0, 0, .int (nI 1), []), (94, .getstatic 27, 3, 2, 4, .ref 2, []), (97, .iload_n 2, 1, 0, 0, .null, []),
  (98, .iaload, 1, 0, 0, .null, []), (99, .invokespecial 24, 3, 82, 0, .null, [0, 143]), (102, .aastore, 1, 0, 0, .null, []), (103, .iinc 2 (1), 3, 0, 0, .null, []),
  (106, .goto (-36), 3, 70, 0, .null, []), (109, .iinc 1 (1), 3, 0, 0, .null, []), (112, .goto (-89), 3, 23, 0, .null, []), (115, .return_, 1, 0, 0, .null, [])]
-- MaskedSum$Mail.clear()V
def ms_c75 : List (Nat × ms_I) := [(0, .aload_n 0, 1, 0, 0, .null, []), (1, .iconst 0, 1, 0, 0, .int (nI 0), []), (2, .putfield 30, 3, 4, 2, .null, [173]), (5, .return_, 1, 0, 0, .null, [])]
-- MaskedSum$Mail.has(I)Z
def ms_c76 : List (Nat × ms_I) := [(0, .iload_n 1, 1, 0, 0, .null, []), (1, .ifCond .lt (15), 3, 16, 0, .null, []), (4, .iload_n 1, 1, 0, 0, .null, []), (5, .aload_n 0, 1, 0, 0, .null, []),
  (6, .getfield 30, 3, 4, 2, .null, [173]), (9, .if_icmp .ge (7), 3, 16, 0, .null, []), (12, .iconst 1, 1, 0, 0, .int (nI 1), []), (13, .goto (4), 3, 17, 0, .null, []),
  (16, .iconst 0, 1, 0, 0, .int (nI 0), []), (17, .ireturn, 1, 0, 0, .null, [])]
-- MaskedSum$Mail.get(I)LMaskedSum$Message;
def ms_c77 : List (Nat × ms_I) := [(0, .aload_n 0, 1, 0, 0, .null, []), (1, .getfield 13, 3, 4, 0, .null, [171]), (4, .aload_n 0, 1, 0, 0, .null, []), (5, .getfield 17, 3, 4, 1, .null, [172]),
  (8, .iload_n 1, 1, 0, 0, .null, []), (9, .iaload, 1, 0, 0, .null, []), (10, .aaload, 1, 0, 0, .null, []), (11, .areturn, 1, 0, 0, .null, [])]
-- MaskedSum$Mail.remove(I)LMaskedSum$Message;
def ms_c78 : List (Nat × ms_I) := [(0, .aload_n 0, 1, 0, 0, .null, []), (1, .iload_n 1, 1, 0, 0, .null, []), (2, .invokevirtual 34, 3, 77, 0, .null, [0, 675]), (5, .astore_n 2, 1, 0, 0, .null, []),
  (6, .aload_n 0, 1, 0, 0, .null, []), (7, .dup, 1, 0, 0, .null, []), (8, .getfield 30, 3, 4, 2, .null, [173]), (11, .iconst 1, 1, 0, 0, .int (nI 1), []),
  (12, .isub, 1, 0, 0, .null, []), (13, .putfield 30, 3, 4, 2, .null, [173]), (16, .aload_n 0, 1, 0, 0, .null, []), (17, .getfield 17, 3, 4, 1, .null, [172]),
  (20, .iload_n 1, 1, 0, 0, .null, []), (21, .iconst 1, 1, 0, 0, .int (nI 1), []), (22, .iadd, 1, 0, 0, .null, []), (23, .aload_n 0, 1, 0, 0, .null, []),
  (24, .getfield 17, 3, 4, 1, .null, [172]), (27, .iload_n 1, 1, 0, 0, .null, []), (28, .aload_n 0, 1, 0, 0, .null, []), (29, .getfield 30, 3, 4, 2, .null, [173]),
  (32, .iload_n 1, 1, 0, 0, .null, []), (33, .isub, 1, 0, 0, .null, []), (34, .invokestatic 38, 3, 0, 1, .null, [679]), (37, .aload_n 2, 1, 0, 0, .null, []),
  (38, .areturn, 1, 0, 0, .null, [])]
-- MaskedSum$Mail.post(II)[I
def ms_c79 : List (Nat × ms_I) := [(0, .aload_n 0, 1, 0, 0, .null, []), (1, .iload_n 1, 1, 0, 0, .null, []), (2, .bipush 7, 2, 0, 0, .int (nI 7), []), (4, .imul, 1, 0, 0, .null, []),
  (5, .iload_n 2, 1, 0, 0, .null, []), (6, .iadd, 1, 0, 0, .null, []), (7, .invokevirtual 44, 3, 81, 0, .null, [0, 445]), (10, .areturn, 1, 0, 0, .null, [])]
-- MaskedSum$Mail.postAnswer(II)[I
def ms_c80 : List (Nat × ms_I) := [(0, .aload_n 0, 1, 0, 0, .null, []), (1, .iload_n 1, 1, 0, 0, .null, []), (2, .bipush 7, 2, 0, 0, .int (nI 7), []), (4, .imul, 1, 0, 0, .null, []),
  (5, .iconst 4, 1, 0, 0, .int (nI 4), []), (6, .iadd, 1, 0, 0, .null, []), (7, .iload_n 2, 1, 0, 0, .null, []), (8, .iadd, 1, 0, 0, .null, []),
  (9, .invokevirtual 44, 3, 81, 0, .null, [0, 445]), (12, .areturn, 1, 0, 0, .null, [])]
-- MaskedSum$Mail.append(I)[I
def ms_c81 : List (Nat × ms_I) := [(0, .aload_n 0, 1, 0, 0, .null, []), (1, .getfield 30, 3, 4, 2, .null, [173]), (4, .aload_n 0, 1, 0, 0, .null, []), (5, .getfield 17, 3, 4, 1, .null, [172]),
  (8, .arraylength, 1, 0, 0, .null, []), (9, .if_icmp .ge (23), 3, 32, 0, .null, []), (12, .aload_n 0, 1, 0, 0, .null, []), (13, .getfield 17, 3, 4, 1, .null, [172]),
  (16, .aload_n 0, 1, 0, 0, .null, []), (17, .getfield 30, 3, 4, 2, .null, [173]), (20, .iload_n 1, 1, 0, 0, .null, []), (21, .iastore, 1, 0, 0, .null, []),
  (22, .aload_n 0, 1, 0, 0, .null, []), (23, .dup, 1, 0, 0, .null, []), (24, .getfield 30, 3, 4, 2, .null, [173]), (27, .iconst 1, 1, 0, 0, .int (nI 1), []),
  (28, .iadd, 1, 0, 0, .null, []), (29, .putfield 30, 3, 4, 2, .null, [173]), (32, .aload_n 0, 1, 0, 0, .null, []), (33, .getfield 13, 3, 4, 0, .null, [171]),
  (36, .iload_n 1, 1, 0, 0, .null, []), (37, .aaload, 1, 0, 0, .null, []), (38, .getfield 48, 3, 5, 3, .null, [158]), (41, .areturn, 1, 0, 0, .null, [])]
-- MaskedSum$Message.<init>(IIZI)V
def ms_c82 : List (Nat × ms_I) := [(0, .aload_n 0, 1, 0, 0, .null, []), (1, .invokespecial 1, 3, 0, 2, .null, [146]), (4, .aload_n 0, 1, 0, 0, .null, []), (5, .iload_n 1, 1, 0, 0, .null, []),
  (6, .putfield 7, 3, 5, 0, .null, [147]), (9, .aload_n 0, 1, 0, 0, .null, []), (10, .iload_n 2, 1, 0, 0, .null, []), (11, .putfield 13, 3, 5, 1, .null, [150]),
  (14, .aload_n 0, 1, 0, 0, .null, []), (15, .iload_n 3, 1, 0, 0, .null, []), (16, .putfield 16, 3, 5, 2, .null, [153]), (19, .aload_n 0, 1, 0, 0, .null, []),
  (20, .iload 4, 2, 0, 0, .null, []), (22, .newarray .int, 2, 0, 0, .null, []), (24, .putfield 20, 3, 5, 3, .null, [155]), (27, .return_, 1, 0, 0, .null, [])]
-- MaskedSum$Message.tell(I)I
def ms_c83 : List (Nat × ms_I) := [(0, .iload_n 1, 1, 0, 0, .null, []), (1, .tableswitch (60) (0) (3) #[31, 36, 41, 54], 31, 61, 0, .null, [32, 37, 42, 55]), (32, .aload_n 0, 1, 0, 0, .null, []), (33, .getfield 7, 3, 5, 0, .null, [147]),
  (36, .ireturn, 1, 0, 0, .null, []), (37, .aload_n 0, 1, 0, 0, .null, []), (38, .getfield 13, 3, 5, 1, .null, [150]), (41, .ireturn, 1, 0, 0, .null, []),
  (42, .aload_n 0, 1, 0, 0, .null, []), (43, .getfield 16, 3, 5, 2, .null, [153]), (46, .ifCond .eq (7), 3, 53, 0, .null, []), (49, .iconst 1, 1, 0, 0, .int (nI 1), []),
  (50, .goto (4), 3, 54, 0, .null, []), (53, .iconst 0, 1, 0, 0, .int (nI 0), []), (54, .ireturn, 1, 0, 0, .null, []), (55, .aload_n 0, 1, 0, 0, .null, []),
  (56, .getfield 20, 3, 5, 3, .null, [155]), (59, .arraylength, 1, 0, 0, .null, []), (60, .ireturn, 1, 0, 0, .null, []), (61, .aload_n 0, 1, 0, 0, .null, []),
  (62, .getfield 20, 3, 5, 3, .null, [155]), (65, .iload_n 1, 1, 0, 0, .null, []), (66, .iconst 4, 1, 0, 0, .int (nI 4), []), (67, .isub, 1, 0, 0, .null, []),
  (68, .iaload, 1, 0, 0, .null, []), (69, .ireturn, 1, 0, 0, .null, [])]
-- MaskedSum$Numbers.ofWords(II)J
def ms_c84 : List (Nat × ms_I) := [(0, .iload_n 1, 1, 0, 0, .null, []), (1, .i2l, 1, 0, 0, .null, []), (2, .bipush 32, 2, 0, 0, .int (nI 32), []), (4, .lshl, 1, 0, 0, .null, []),
  (5, .iload_n 0, 1, 0, 0, .null, []), (6, .i2l, 1, 0, 0, .null, []), (7, .ldc2_w 9, 3, 414, 0, .long (lN 4294967295), []), (10, .land, 1, 0, 0, .null, []),
  (11, .lor, 1, 0, 0, .null, []), (12, .lstore_n 2, 1, 0, 0, .null, []), (13, .lload_n 2, 1, 0, 0, .null, []), (14, .ldc2_w 11, 3, 415, 0, .long (lN 2305843009213693951), []),
  (17, .land, 1, 0, 0, .null, []), (18, .invokestatic 13, 3, 87, 0, .null, [0, 416]), (21, .lreturn, 1, 0, 0, .null, [])]
-- MaskedSum$Numbers.read([II)J
def ms_c85 : List (Nat × ms_I) := [(0, .aload_n 0, 1, 0, 0, .null, []), (1, .iload_n 1, 1, 0, 0, .null, []), (2, .iaload, 1, 0, 0, .null, []), (3, .aload_n 0, 1, 0, 0, .null, []),
  (4, .iload_n 1, 1, 0, 0, .null, []), (5, .iconst 1, 1, 0, 0, .int (nI 1), []), (6, .iadd, 1, 0, 0, .null, []), (7, .iaload, 1, 0, 0, .null, []),
  (8, .invokestatic 17, 3, 84, 0, .null, [0, 499]), (11, .lreturn, 1, 0, 0, .null, [])]
-- MaskedSum$Numbers.write(J[II)V
def ms_c86 : List (Nat × ms_I) := [(0, .aload_n 2, 1, 0, 0, .null, []), (1, .iload_n 3, 1, 0, 0, .null, []), (2, .lload_n 0, 1, 0, 0, .null, []), (3, .l2i, 1, 0, 0, .null, []),
  (4, .iastore, 1, 0, 0, .null, []), (5, .aload_n 2, 1, 0, 0, .null, []), (6, .iload_n 3, 1, 0, 0, .null, []), (7, .iconst 1, 1, 0, 0, .int (nI 1), []),
  (8, .iadd, 1, 0, 0, .null, []), (9, .lload_n 0, 1, 0, 0, .null, []), (10, .bipush 32, 2, 0, 0, .int (nI 32), []), (12, .lushr, 1, 0, 0, .null, []),
  (13, .l2i, 1, 0, 0, .null, []), (14, .iastore, 1, 0, 0, .null, []), (15, .return_, 1, 0, 0, .null, [])]
-- MaskedSum$Numbers.fold(J)J
def ms_c87 : List (Nat × ms_I) := [(0, .lload_n 0, 1, 0, 0, .null, []), (1, .ldc2_w 11, 3, 415, 0, .long (lN 2305843009213693951), []), (4, .land, 1, 0, 0, .null, []), (5, .lload_n 0, 1, 0, 0, .null, []),
  (6, .bipush 61, 2, 0, 0, .int (nI 61), []), (8, .lushr, 1, 0, 0, .null, []), (9, .ladd, 1, 0, 0, .null, []), (10, .lstore_n 2, 1, 0, 0, .null, []),
  (11, .lload_n 2, 1, 0, 0, .null, []), (12, .ldc2_w 11, 3, 415, 0, .long (lN 2305843009213693951), []), (15, .lcmp, 1, 0, 0, .null, []), (16, .ifCond .lt (11), 3, 27, 0, .null, []),
  (19, .lload_n 2, 1, 0, 0, .null, []), (20, .ldc2_w 11, 3, 415, 0, .long (lN 2305843009213693951), []), (23, .lsub, 1, 0, 0, .null, []), (24, .goto (4), 3, 28, 0, .null, []),
  (27, .lload_n 2, 1, 0, 0, .null, []), (28, .lreturn, 1, 0, 0, .null, [])]
-- MaskedSum$Numbers.plus(JJ)J
def ms_c88 : List (Nat × ms_I) := [(0, .lload_n 0, 1, 0, 0, .null, []), (1, .lload_n 2, 1, 0, 0, .null, []), (2, .ladd, 1, 0, 0, .null, []), (3, .invokestatic 13, 3, 87, 0, .null, [0, 416]),
  (6, .lreturn, 1, 0, 0, .null, [])]
-- MaskedSum$Numbers.minus(JJ)J
def ms_c89 : List (Nat × ms_I) := [(0, .lload_n 0, 1, 0, 0, .null, []), (1, .ldc2_w 11, 3, 415, 0, .long (lN 2305843009213693951), []), (4, .ladd, 1, 0, 0, .null, []), (5, .lload_n 2, 1, 0, 0, .null, []),
  (6, .lsub, 1, 0, 0, .null, []), (7, .invokestatic 13, 3, 87, 0, .null, [0, 416]), (10, .lreturn, 1, 0, 0, .null, [])]
-- MaskedSum$Numbers.times(JJ)J
def ms_c90 : List (Nat × ms_I) := [(0, .lload_n 0, 1, 0, 0, .null, []), (1, .bipush 31, 2, 0, 0, .int (nI 31), []), (3, .lushr, 1, 0, 0, .null, []), (4, .lstore 4, 2, 0, 0, .null, []),
  (6, .lload_n 0, 1, 0, 0, .null, []), (7, .ldc2_w 21, 3, 460, 0, .long (lN 2147483647), []), (10, .land, 1, 0, 0, .null, []), (11, .lstore 6, 2, 0, 0, .null, []),
  (13, .lload_n 2, 1, 0, 0, .null, []), (14, .bipush 31, 2, 0, 0, .int (nI 31), []), (16, .lushr, 1, 0, 0, .null, []), (17, .lstore 8, 2, 0, 0, .null, []),
  (19, .lload_n 2, 1, 0, 0, .null, []), (20, .ldc2_w 21, 3, 460, 0, .long (lN 2147483647), []), (23, .land, 1, 0, 0, .null, []), (24, .lstore 10, 2, 0, 0, .null, []),
  (26, .lload 4, 2, 0, 0, .null, []), (28, .lload 10, 2, 0, 0, .null, []), (30, .lmul, 1, 0, 0, .null, []), (31, .lload 6, 2, 0, 0, .null, []),
  (33, .lload 8, 2, 0, 0, .null, []), (35, .lmul, 1, 0, 0, .null, []), (36, .ladd, 1, 0, 0, .null, []), (37, .lstore 12, 2, 0, 0, .null, []),
  (39, .lload 12, 2, 0, 0, .null, []), (41, .bipush 30, 2, 0, 0, .int (nI 30), []), (43, .lushr, 1, 0, 0, .null, []), (44, .lload 12, 2, 0, 0, .null, []),
  (46, .ldc2_w 23, 3, 461, 0, .long (lN 1073741823), []), (49, .land, 1, 0, 0, .null, []), (50, .bipush 31, 2, 0, 0, .int (nI 31), []), (52, .lshl, 1, 0, 0, .null, []),
  (53, .ladd, 1, 0, 0, .null, []), (54, .lstore 14, 2, 0, 0, .null, []), (56, .ldc2_w 25, 3, 462, 0, .long (lN 2), []), (59, .lload 4, 2, 0, 0, .null, []),
  (61, .lmul, 1, 0, 0, .null, []), (62, .lload 8, 2, 0, 0, .null, []), (64, .lmul, 1, 0, 0, .null, []), (65, .lload 14, 2, 0, 0, .null, []),
  (67, .ladd, 1, 0, 0, .null, []), (68, .lload 6, 2, 0, 0, .null, []), (70, .lload 10, 2, 0, 0, .null, []), (72, .lmul, 1, 0, 0, .null, []),
  (73, .ladd, 1, 0, 0, .null, []), (74, .invokestatic 13, 3, 87, 0, .null, [0, 416]), (77, .lreturn, 1, 0, 0, .null, [])]
-- MaskedSum$Numbers.power(JJ)J
def ms_c91 : List (Nat × ms_I) := [(0, .lconst 1, 1, 0, 0, .long (lN 1), []), (1, .lstore 4, 2, 0, 0, .null, []), (3, .lload_n 0, 1, 0, 0, .null, []), (4, .lstore 6, 2, 0, 0, .null, []),
  (6, .iconst 0, 1, 0, 0, .int (nI 0), []), (7, .istore 8, 2, 0, 0, .null, []), (9, .iload 8, 2, 0, 0, .null, []), (11, .bipush 61, 2, 0, 0, .int (nI 61), []),
  (13, .if_icmp .ge (38), 3, 51, 0, .null, []), (16, .lload_n 2, 1, 0, 0, .null, []), (17, .iload 8, 2, 0, 0, .null, []), (19, .lushr, 1, 0, 0, .null, []),
  (20, .lconst 1, 1, 0, 0, .long (lN 1), []), (21, .land, 1, 0, 0, .null, []), (22, .lconst 0, 1, 0, 0, .long (lN 0), []), (23, .lcmp, 1, 0, 0, .null, []),
  (24, .ifCond .eq (12), 3, 36, 0, .null, []), (27, .lload 4, 2, 0, 0, .null, []), (29, .lload 6, 2, 0, 0, .null, []), (31, .invokestatic 27, 3, 90, 0, .null, [0, 457]),
  (34, .lstore 4, 2, 0, 0, .null, []), (36, .lload 6, 2, 0, 0, .null, []), (38, .lload 6, 2, 0, 0, .null, []), (40, .invokestatic 27, 3, 90, 0, .null, [0, 457]),
  (43, .lstore 6, 2, 0, 0, .null, []), (45, .iinc 8 (1), 3, 0, 0, .null, []), (48, .goto (-39), 3, 9, 0, .null, []), (51, .lload 4, 2, 0, 0, .null, []),
  (53, .lreturn, 1, 0, 0, .null, [])]
-- MaskedSum$Phone.<init>(I)V
def ms_c92 : List (Nat × ms_I) := [(0, .aload_n 0, 1, 0, 0, .null, []), (1, .invokespecial 3, 3, 0, 2, .null, [234]), (4, .aload_n 0, 1, 0, 0, .null, []), (5, .iconst 3, 1, 0, 0, .int (nI 3), []),
  (6, .newarray .long, 2, 1, 0, .null, []), (8, .putfield 9, 3, 7, 1, .null, [236]), (11, .aload_n 0, 1, 0, 0, .null, []), (12, .iconst 4, 1, 0, 0, .int (nI 4), []),
  (13, .newarray .int, 2, 0, 0, .null, []), (15, .putfield 15, 3, 7, 2, .null, [238]), (18, .aload_n 0, 1, 0, 0, .null, []), (19, .bipush 8, 2, 0, 0, .int (nI 8), []),
  (21, .newarray .long, 2, 1, 0, .null, []), (23, .putfield 19, 3, 7, 3, .null, [240]), (26, .aload_n 0, 1, 0, 0, .null, []), (27, .bipush 8, 2, 0, 0, .int (nI 8), []),
  (29, .newarray .long, 2, 1, 0, .null, []), (31, .putfield 22, 3, 7, 4, .null, [241]), (34, .aload_n 0, 1, 0, 0, .null, []), (35, .iconst 3, 1, 0, 0, .int (nI 3), []),
  (36, .newarray .int, 2, 0, 0, .null, []), (38, .putfield 25, 3, 7, 5, .null, [242]), (41, .aload_n 0, 1, 0, 0, .null, []), (42, .bipush 33, 2, 0, 0, .int (nI 33), []),
  (44, .newarray .int, 2, 0, 0, .null, []), (46, .putfield 28, 3, 7, 6, .null, [243]), (49, .aload_n 0, 1, 0, 0, .null, []), (50, .bipush 65, 2, 0, 0, .int (nI 65), []),
  (52, .newarray .int, 2, 0, 0, .null, []), (54, .putfield 31, 3, 7, 7, .null, [244]), (57, .aload_n 0, 1, 0, 0, .null, []), (58, .iconst 4, 1, 0, 0, .int (nI 4), []),
  (59, .newarray .int, 2, 0, 0, .null, []), (61, .putfield 36, 3, 7, 8, .null, [245]), (64, .aload_n 0, 1, 0, 0, .null, []), (65, .iload_n 1, 1, 0, 0, .null, []),
  (66, .putfield 39, 3, 7, 0, .null, [235]), (69, .return_, 1, 0, 0, .null, [])]
-- MaskedSum$Phone.begin()V
def ms_c93 : List (Nat × ms_I) := [(0, .aload_n 0, 1, 0, 0, .null, []), (1, .iconst 0, 1, 0, 0, .int (nI 0), []), (2, .putfield 43, 3, 7, 9, .null, [246]), (5, .aload_n 0, 1, 0, 0, .null, []),
  (6, .iconst 0, 1, 0, 0, .int (nI 0), []), (7, .putfield 46, 3, 7, 10, .null, [248]), (10, .aload_n 0, 1, 0, 0, .null, []), (11, .iconst 0, 1, 0, 0, .int (nI 0), []),
  (12, .putfield 49, 3, 7, 11, .null, [249]), (15, .aload_n 0, 1, 0, 0, .null, []), (16, .iconst 0, 1, 0, 0, .int (nI 0), []), (17, .putfield 52, 3, 7, 12, .null, [250]),
  (20, .return_, 1, 0, 0, .null, [])]
-- MaskedSum$Phone.tell(I)I
def ms_c94 : List (Nat × ms_I) := [(0, .iload_n 1, 1, 0, 0, .null, []), (1, .tableswitch (42) (0) (2) #[27, 32, 37], 27, 43, 0, .null, [28, 33, 38]), (28, .aload_n 0, 1, 0, 0, .null, []), (29, .getfield 43, 3, 7, 9, .null, [246]),
  (32, .ireturn, 1, 0, 0, .null, []), (33, .aload_n 0, 1, 0, 0, .null, []), (34, .getfield 46, 3, 7, 10, .null, [248]), (37, .ireturn, 1, 0, 0, .null, []),
  (38, .aload_n 0, 1, 0, 0, .null, []), (39, .getfield 49, 3, 7, 11, .null, [249]), (42, .ireturn, 1, 0, 0, .null, []), (43, .aload_n 0, 1, 0, 0, .null, []),
  (44, .getfield 52, 3, 7, 12, .null, [250]), (47, .ireturn, 1, 0, 0, .null, [])]
-- MaskedSum$Phone.takeAnswer(LMaskedSum$Message;II)Z
def ms_c95 : List (Nat × ms_I) := [(0, .aload_n 1, 1, 0, 0, .null, []), (1, .getfield 55, 3, 5, 0, .null, [148]), (4, .istore 4, 2, 0, 0, .null, []), (6, .aload_n 1, 1, 0, 0, .null, []),
  (7, .getfield 60, 3, 5, 3, .null, [156]), (10, .iconst 0, 1, 0, 0, .int (nI 0), []), (11, .iaload, 1, 0, 0, .null, []), (12, .istore 5, 2, 0, 0, .null, []),
  (14, .iload 4, 2, 0, 0, .null, []), (16, .aload_n 0, 1, 0, 0, .null, []), (17, .getfield 43, 3, 7, 9, .null, [246]), (20, .iconst 1, 1, 0, 0, .int (nI 1), []),
  (21, .isub, 1, 0, 0, .null, []), (22, .if_icmp .ne (25), 3, 47, 0, .null, []), (25, .iload 4, 2, 0, 0, .null, []), (27, .aload_n 0, 1, 0, 0, .null, []),
  (28, .getfield 46, 3, 7, 10, .null, [248]), (31, .if_icmp .ne (16), 3, 47, 0, .null, []), (34, .aload_n 0, 1, 0, 0, .null, []), (35, .iload 5, 2, 0, 0, .null, []),
  (37, .iload 4, 2, 0, 0, .null, []), (39, .iload_n 2, 1, 0, 0, .null, []), (40, .iload_n 3, 1, 0, 0, .null, []), (41, .invokevirtual 63, 3, 96, 0, .null, [0, 684]),
  (44, .ifCond .ne (5), 3, 49, 0, .null, []), (47, .iconst 0, 1, 0, 0, .int (nI 0), []), (48, .ireturn, 1, 0, 0, .null, []), (49, .aload_n 0, 1, 0, 0, .null, []),
  (50, .getfield 25, 3, 7, 5, .null, [242]), (53, .iload 4, 2, 0, 0, .null, []), (55, .iload 5, 2, 0, 0, .null, []), (57, .iastore, 1, 0, 0, .null, []),
  (58, .iload 4, 2, 0, 0, .null, []), (60, .ifCond .ne (24), 3, 84, 0, .null, []), (63, .aload_n 1, 1, 0, 0, .null, []), (64, .getfield 60, 3, 5, 3, .null, [156]),
  (67, .iconst 0, 1, 0, 0, .int (nI 0), []), (68, .aload_n 0, 1, 0, 0, .null, []), (69, .getfield 28, 3, 7, 6, .null, [243]), (72, .iconst 0, 1, 0, 0, .int (nI 0), []),
  (73, .aload_n 0, 1, 0, 0, .null, []), (74, .getfield 28, 3, 7, 6, .null, [243]), (77, .arraylength, 1, 0, 0, .null, []), (78, .invokestatic 67, 3, 0, 1, .null, [576]),
  (81, .goto (27), 3, 108, 0, .null, []), (84, .iload 4, 2, 0, 0, .null, []), (86, .iconst 1, 1, 0, 0, .int (nI 1), []), (87, .if_icmp .ne (21), 3, 108, 0, .null, []),
  (90, .aload_n 1, 1, 0, 0, .null, []), (91, .getfield 60, 3, 5, 3, .null, [156]), (94, .iconst 0, 1, 0, 0, .int (nI 0), []), (95, .aload_n 0, 1, 0, 0, .null, []),
  (96, .getfield 31, 3, 7, 7, .null, [244]), (99, .iconst 0, 1, 0, 0, .int (nI 0), []), (100, .aload_n 0, 1, 0, 0, .null, []), (101, .getfield 31, 3, 7, 7, .null, [244]),
  (104, .arraylength, 1, 0, 0, .null, []), (105, .invokestatic 67, 3, 0, 1, .null, [576]), (108, .aload_n 0, 1, 0, 0, .null, []), (109, .dup, 1, 0, 0, .null, []),
  (110, .getfield 46, 3, 7, 10, .null, [248]), (113, .iconst 1, 1, 0, 0, .int (nI 1), []), (114, .iadd, 1, 0, 0, .null, []), (115, .putfield 46, 3, 7, 10, .null, [248]),
  (118, .iconst 1, 1, 0, 0, .int (nI 1), []), (119, .ireturn, 1, 0, 0, .null, [])]
-- MaskedSum$Phone.areGood(IIII)Z
def ms_c96 : List (Nat × ms_I) := [(0, .iload_n 1, 1, 0, 0, .null, []), (1, .iload_n 3, 1, 0, 0, .null, []), (2, .iushr, 1, 0, 0, .null, []), (3, .ifCond .ne (12), 3, 15, 0, .null, []),
  (6, .iload_n 1, 1, 0, 0, .null, []), (7, .invokestatic 73, 3, 146, 0, .null, [0, 688]), (10, .iload 4, 2, 0, 0, .null, []), (12, .if_icmp .ge (5), 3, 17, 0, .null, []),
  (15, .iconst 0, 1, 0, 0, .int (nI 0), []), (16, .ireturn, 1, 0, 0, .null, []), (17, .iload_n 2, 1, 0, 0, .null, []), (18, .iconst 2, 1, 0, 0, .int (nI 2), []),
  (19, .if_icmp .eq (16), 3, 35, 0, .null, []), (22, .iload_n 1, 1, 0, 0, .null, []), (23, .aload_n 0, 1, 0, 0, .null, []), (24, .getfield 39, 3, 7, 0, .null, [235]),
  (27, .invokestatic 79, 3, 15, 0, .null, [1, 6]), (30, .ifCond .ne (5), 3, 35, 0, .null, []), (33, .iconst 0, 1, 0, 0, .int (nI 0), []), (34, .ireturn, 1, 0, 0, .null, []),
  (35, .iload_n 2, 1, 0, 0, .null, []), (36, .ifCond .eq (18), 3, 54, 0, .null, []), (39, .iload_n 1, 1, 0, 0, .null, []), (40, .aload_n 0, 1, 0, 0, .null, []),
  (41, .getfield 25, 3, 7, 5, .null, [242]), (44, .iload_n 2, 1, 0, 0, .null, []), (45, .iconst 1, 1, 0, 0, .int (nI 1), []), (46, .isub, 1, 0, 0, .null, []),
  (47, .iaload, 1, 0, 0, .null, []), (48, .iconst (-1), 1, 0, 0, .int (-1), []), (49, .ixor, 1, 0, 0, .null, []), (50, .iand, 1, 0, 0, .null, []),
  (51, .ifCond .ne (7), 3, 58, 0, .null, []), (54, .iconst 1, 1, 0, 0, .int (nI 1), []), (55, .goto (4), 3, 59, 0, .null, []), (58, .iconst 0, 1, 0, 0, .int (nI 0), []),
  (59, .ireturn, 1, 0, 0, .null, [])]
-- MaskedSum$Phone.sendNext(LMaskedSum$Mail;LMaskedSum$Crypto;I)Z
def ms_c97 : List (Nat × ms_I) := [(0, .aload_n 0, 1, 0, 0, .null, []), (1, .getfield 43, 3, 7, 9, .null, [246]), (4, .aload_n 0, 1, 0, 0, .null, []), (5, .getfield 46, 3, 7, 10, .null, [248]),
  (8, .if_icmp .ne (11), 3, 19, 0, .null, []), (11, .aload_n 0, 1, 0, 0, .null, []), (12, .getfield 43, 3, 7, 9, .null, [246]), (15, .iconst 4, 1, 0, 0, .int (nI 4), []),
  (16, .if_icmp .lt (5), 3, 21, 0, .null, []), (19, .iconst 0, 1, 0, 0, .int (nI 0), []), (20, .ireturn, 1, 0, 0, .null, []), (21, .aload_n 1, 1, 0, 0, .null, []),
  (22, .aload_n 0, 1, 0, 0, .null, []), (23, .getfield 39, 3, 7, 0, .null, [235]), (26, .aload_n 0, 1, 0, 0, .null, []), (27, .getfield 43, 3, 7, 9, .null, [246]),
  (30, .invokevirtual 83, 3, 79, 0, .null, [0, 441]), (33, .astore 4, 2, 0, 0, .null, []), (35, .aload_n 0, 1, 0, 0, .null, []), (36, .getfield 43, 3, 7, 9, .null, [246]),
  (39, .tableswitch (60) (0) (2) #[25, 34, 50], 25, 99, 0, .null, [64, 73, 89]), (64, .aload_n 0, 1, 0, 0, .null, []), (65, .aload 4, 2, 0, 0, .null, []), (67, .invokevirtual 89, 3, 98, 0, .null, [0, 449]),
  (70, .goto (36), 3, 106, 0, .null, []), (73, .aload_n 0, 1, 0, 0, .null, []), (74, .aload_n 2, 1, 0, 0, .null, []), (75, .iload_n 3, 1, 0, 0, .null, []),
  (76, .invokevirtual 93, 3, 99, 0, .null, [0, 466]), (79, .aload_n 0, 1, 0, 0, .null, []), (80, .aload 4, 2, 0, 0, .null, []), (82, .aload_n 2, 1, 0, 0, .null, []),
  (83, .invokevirtual 97, 3, 100, 0, .null, [0, 504]), (86, .goto (20), 3, 106, 0, .null, []), (89, .aload_n 0, 1, 0, 0, .null, []), (90, .aload 4, 2, 0, 0, .null, []),
  (92, .aload_n 2, 1, 0, 0, .null, []), (93, .invokevirtual 101, 3, 101, 0, .null, [0, 572]), (96, .goto (10), 3, 106, 0, .null, []), (99, .aload_n 0, 1, 0, 0, .null, []),
  (100, .aload 4, 2, 0, 0, .null, []), (102, .aload_n 2, 1, 0, 0, .null, []), (103, .invokevirtual 104, 3, 102, 0, .null, [0, 581]), (106, .aload_n 0, 1, 0, 0, .null, []),
  (107, .dup, 1, 0, 0, .null, []), (108, .getfield 43, 3, 7, 9, .null, [246]), (111, .iconst 1, 1, 0, 0, .int (nI 1), []), (112, .iadd, 1, 0, 0, .null, []),
  (113, .putfield 43, 3, 7, 9, .null, [246]), (116, .iconst 1, 1, 0, 0, .int (nI 1), []), (117, .ireturn, 1, 0, 0, .null, [])]
-- MaskedSum$Phone.writeKeys([I)V
def ms_c98 : List (Nat × ms_I) := [(0, .ldc2_w 109, 3, 453, 0, .long (lN 37), []), (3, .aload_n 0, 1, 0, 0, .null, []), (4, .getfield 9, 3, 7, 1, .null, [236]), (7, .iconst 0, 1, 0, 0, .int (nI 0), []),
  (8, .laload, 1, 0, 0, .null, []), (9, .invokestatic 111, 3, 91, 0, .null, [0, 454]), (12, .aload_n 1, 1, 0, 0, .null, []), (13, .iconst 0, 1, 0, 0, .int (nI 0), []),
  (14, .invokestatic 115, 3, 86, 0, .null, [0, 463]), (17, .ldc2_w 109, 3, 453, 0, .long (lN 37), []), (20, .aload_n 0, 1, 0, 0, .null, []), (21, .getfield 9, 3, 7, 1, .null, [236]),
  (24, .iconst 1, 1, 0, 0, .int (nI 1), []), (25, .laload, 1, 0, 0, .null, []), (26, .invokestatic 111, 3, 91, 0, .null, [0, 454]), (29, .aload_n 1, 1, 0, 0, .null, []),
  (30, .iconst 2, 1, 0, 0, .int (nI 2), []), (31, .invokestatic 115, 3, 86, 0, .null, [0, 463]), (34, .return_, 1, 0, 0, .null, [])]
-- MaskedSum$Phone.makeShares(LMaskedSum$Crypto;I)V
def ms_c99 : List (Nat × ms_I) := [(0, .aload_n 1, 1, 0, 0, .null, []), (1, .aload_n 0, 1, 0, 0, .null, []), (2, .getfield 9, 3, 7, 1, .null, [236]), (5, .iconst 2, 1, 0, 0, .int (nI 2), []),
  (6, .laload, 1, 0, 0, .null, []), (7, .iconst 2, 1, 0, 0, .int (nI 2), []), (8, .aload_n 0, 1, 0, 0, .null, []), (9, .getfield 39, 3, 7, 0, .null, [235]),
  (12, .iconst 0, 1, 0, 0, .int (nI 0), []), (13, .invokevirtual 119, 3, 69, 0, .null, [0, 470]), (16, .astore_n 3, 1, 0, 0, .null, []), (17, .iconst 0, 1, 0, 0, .int (nI 0), []),
  (18, .istore 4, 2, 0, 0, .null, []), (20, .iload 4, 2, 0, 0, .null, []), (22, .bipush 8, 2, 0, 0, .int (nI 8), []), (24, .if_icmp .ge (29), 3, 53, 0, .null, []),
  (27, .aload_n 0, 1, 0, 0, .null, []), (28, .getfield 22, 3, 7, 4, .null, [241]), (31, .iload 4, 2, 0, 0, .null, []), (33, .aload_n 0, 1, 0, 0, .null, []),
  (34, .getfield 9, 3, 7, 1, .null, [236]), (37, .iconst 0, 1, 0, 0, .int (nI 0), []), (38, .laload, 1, 0, 0, .null, []), (39, .aload_n 3, 1, 0, 0, .null, []),
  (40, .iload_n 2, 1, 0, 0, .null, []), (41, .iload 4, 2, 0, 0, .null, []), (43, .invokestatic 123, 3, 131, 0, .null, [0, 493]), (46, .lastore, 1, 0, 0, .null, []),
  (47, .iinc 4 (1), 3, 0, 0, .null, []), (50, .goto (-30), 3, 20, 0, .null, []), (53, .aload_n 1, 1, 0, 0, .null, []), (54, .aload_n 0, 1, 0, 0, .null, []),
  (55, .getfield 9, 3, 7, 1, .null, [236]), (58, .iconst 2, 1, 0, 0, .int (nI 2), []), (59, .laload, 1, 0, 0, .null, []), (60, .iconst 3, 1, 0, 0, .int (nI 3), []),
  (61, .aload_n 0, 1, 0, 0, .null, []), (62, .getfield 39, 3, 7, 0, .null, [235]), (65, .iconst 0, 1, 0, 0, .int (nI 0), []), (66, .invokevirtual 119, 3, 69, 0, .null, [0, 470]),
  (69, .astore_n 3, 1, 0, 0, .null, []), (70, .iconst 0, 1, 0, 0, .int (nI 0), []), (71, .istore 4, 2, 0, 0, .null, []), (73, .iload 4, 2, 0, 0, .null, []),
  (75, .bipush 8, 2, 0, 0, .int (nI 8), []), (77, .if_icmp .ge (29), 3, 106, 0, .null, []), (80, .aload_n 0, 1, 0, 0, .null, []), (81, .getfield 19, 3, 7, 3, .null, [240]),
  (84, .iload 4, 2, 0, 0, .null, []), (86, .aload_n 0, 1, 0, 0, .null, []), (87, .getfield 9, 3, 7, 1, .null, [236]), (90, .iconst 2, 1, 0, 0, .int (nI 2), []),
  (91, .laload, 1, 0, 0, .null, []), (92, .aload_n 3, 1, 0, 0, .null, []), (93, .iload_n 2, 1, 0, 0, .null, []), (94, .iload 4, 2, 0, 0, .null, []),
  (96, .invokestatic 123, 3, 131, 0, .null, [0, 493]), (99, .lastore, 1, 0, 0, .null, []), (100, .iinc 4 (1), 3, 0, 0, .null, []), (103, .goto (-30), 3, 73, 0, .null, []),
  (106, .return_, 1, 0, 0, .null, [])]
-- MaskedSum$Phone.writeBoxes([ILMaskedSum$Crypto;)V
def ms_c100 : List (Nat × ms_I) := [(0, .aload_n 1, 1, 0, 0, .null, []), (1, .iconst 0, 1, 0, 0, .int (nI 0), []), (2, .invokestatic 129, 3, 148, 0, .null, [0, 508]), (5, .iconst 0, 1, 0, 0, .int (nI 0), []),
  (6, .istore_n 3, 1, 0, 0, .null, []), (7, .iload_n 3, 1, 0, 0, .null, []), (8, .bipush 8, 2, 0, 0, .int (nI 8), []), (10, .if_icmp .ge (82), 3, 92, 0, .null, []),
  (13, .iload_n 3, 1, 0, 0, .null, []), (14, .aload_n 0, 1, 0, 0, .null, []), (15, .getfield 39, 3, 7, 0, .null, [235]), (18, .if_icmp .eq (68), 3, 86, 0, .null, []),
  (21, .aload_n 0, 1, 0, 0, .null, []), (22, .getfield 25, 3, 7, 5, .null, [242]), (25, .iconst 0, 1, 0, 0, .int (nI 0), []), (26, .iaload, 1, 0, 0, .null, []),
  (27, .iload_n 3, 1, 0, 0, .null, []), (28, .invokestatic 79, 3, 15, 0, .null, [1, 6]), (31, .ifCond .eq (55), 3, 86, 0, .null, []), (34, .bipush 8, 2, 0, 0, .int (nI 8), []),
  (36, .iload_n 3, 1, 0, 0, .null, []), (37, .imul, 1, 0, 0, .null, []), (38, .istore 4, 2, 0, 0, .null, []), (40, .aload_n 0, 1, 0, 0, .null, []),
  (41, .getfield 19, 3, 7, 3, .null, [240]), (44, .iload_n 3, 1, 0, 0, .null, []), (45, .laload, 1, 0, 0, .null, []), (46, .aload_n 1, 1, 0, 0, .null, []),
  (47, .iload 4, 2, 0, 0, .null, []), (49, .iconst 0, 1, 0, 0, .int (nI 0), []), (50, .iadd, 1, 0, 0, .null, []), (51, .invokestatic 115, 3, 86, 0, .null, [0, 463]),
  (54, .aload_n 0, 1, 0, 0, .null, []), (55, .getfield 22, 3, 7, 4, .null, [241]), (58, .iload_n 3, 1, 0, 0, .null, []), (59, .laload, 1, 0, 0, .null, []),
  (60, .aload_n 1, 1, 0, 0, .null, []), (61, .iload 4, 2, 0, 0, .null, []), (63, .iconst 2, 1, 0, 0, .int (nI 2), []), (64, .iadd, 1, 0, 0, .null, []),
  (65, .invokestatic 115, 3, 86, 0, .null, [0, 463]), (68, .aload_n 2, 1, 0, 0, .null, []), (69, .aload_n 0, 1, 0, 0, .null, []), (70, .iload_n 3, 1, 0, 0, .null, []),
  (71, .iconst 1, 1, 0, 0, .int (nI 1), []), (72, .invokevirtual 135, 3, 104, 0, .null, [0, 512]), (75, .aload_n 0, 1, 0, 0, .null, []), (76, .getfield 39, 3, 7, 0, .null, [235]),
  (79, .iload_n 3, 1, 0, 0, .null, []), (80, .aload_n 1, 1, 0, 0, .null, []), (81, .iload 4, 2, 0, 0, .null, []), (83, .invokevirtual 139, 3, 71, 0, .null, [0, 517]),
  (86, .iinc 3 (1), 3, 0, 0, .null, []), (89, .goto (-82), 3, 7, 0, .null, []), (92, .return_, 1, 0, 0, .null, [])]
-- MaskedSum$Phone.writeMasked([ILMaskedSum$Crypto;)V
def ms_c101 : List (Nat × ms_I) := [(0, .aload_n 0, 1, 0, 0, .null, []), (1, .getfield 15, 3, 7, 2, .null, [238]), (4, .iconst 0, 1, 0, 0, .int (nI 0), []), (5, .aload_n 1, 1, 0, 0, .null, []),
  (6, .iconst 0, 1, 0, 0, .int (nI 0), []), (7, .iconst 4, 1, 0, 0, .int (nI 4), []), (8, .invokestatic 67, 3, 0, 1, .null, [576]), (11, .aload_n 2, 1, 0, 0, .null, []),
  (12, .aload_n 1, 1, 0, 0, .null, []), (13, .iconst 1, 1, 0, 0, .int (nI 1), []), (14, .aload_n 0, 1, 0, 0, .null, []), (15, .getfield 9, 3, 7, 1, .null, [236]),
  (18, .iconst 2, 1, 0, 0, .int (nI 2), []), (19, .laload, 1, 0, 0, .null, []), (20, .iconst 0, 1, 0, 0, .int (nI 0), []), (21, .aload_n 0, 1, 0, 0, .null, []),
  (22, .getfield 39, 3, 7, 0, .null, [235]), (25, .invokevirtual 143, 3, 70, 0, .null, [0, 577]), (28, .iconst 0, 1, 0, 0, .int (nI 0), []), (29, .istore_n 3, 1, 0, 0, .null, []),
  (30, .iload_n 3, 1, 0, 0, .null, []), (31, .bipush 8, 2, 0, 0, .int (nI 8), []), (33, .if_icmp .ge (56), 3, 89, 0, .null, []), (36, .iload_n 3, 1, 0, 0, .null, []),
  (37, .aload_n 0, 1, 0, 0, .null, []), (38, .getfield 39, 3, 7, 0, .null, [235]), (41, .if_icmp .eq (42), 3, 83, 0, .null, []), (44, .aload_n 0, 1, 0, 0, .null, []),
  (45, .getfield 25, 3, 7, 5, .null, [242]), (48, .iconst 1, 1, 0, 0, .int (nI 1), []), (49, .iaload, 1, 0, 0, .null, []), (50, .iload_n 3, 1, 0, 0, .null, []),
  (51, .invokestatic 79, 3, 15, 0, .null, [1, 6]), (54, .ifCond .eq (29), 3, 83, 0, .null, []), (57, .aload_n 2, 1, 0, 0, .null, []), (58, .aload_n 1, 1, 0, 0, .null, []),
  (59, .iload_n 3, 1, 0, 0, .null, []), (60, .aload_n 0, 1, 0, 0, .null, []), (61, .getfield 39, 3, 7, 0, .null, [235]), (64, .if_icmp .le (7), 3, 71, 0, .null, []),
  (67, .iconst 1, 1, 0, 0, .int (nI 1), []), (68, .goto (4), 3, 72, 0, .null, []), (71, .iconst 0, 1, 0, 0, .int (nI 0), []), (72, .aload_n 0, 1, 0, 0, .null, []),
  (73, .iload_n 3, 1, 0, 0, .null, []), (74, .iconst 0, 1, 0, 0, .int (nI 0), []), (75, .invokevirtual 135, 3, 104, 0, .null, [0, 512]), (78, .iconst 1, 1, 0, 0, .int (nI 1), []),
  (79, .iconst 0, 1, 0, 0, .int (nI 0), []), (80, .invokevirtual 143, 3, 70, 0, .null, [0, 577]), (83, .iinc 3 (1), 3, 0, 0, .null, []), (86, .goto (-56), 3, 30, 0, .null, []),
  (89, .return_, 1, 0, 0, .null, [])]
-- MaskedSum$Phone.writeShares([ILMaskedSum$Crypto;)V
def ms_c102 : List (Nat × ms_I) := [(0, .aload_n 1, 1, 0, 0, .null, []), (1, .iconst 0, 1, 0, 0, .int (nI 0), []), (2, .invokestatic 129, 3, 148, 0, .null, [0, 508]), (5, .iconst 0, 1, 0, 0, .int (nI 0), []),
  (6, .istore_n 3, 1, 0, 0, .null, []), (7, .iload_n 3, 1, 0, 0, .null, []), (8, .bipush 8, 2, 0, 0, .int (nI 8), []), (10, .if_icmp .ge (105), 3, 115, 0, .null, []),
  (13, .iload_n 3, 1, 0, 0, .null, []), (14, .aload_n 0, 1, 0, 0, .null, []), (15, .getfield 39, 3, 7, 0, .null, [235]), (18, .if_icmp .ne (40), 3, 58, 0, .null, []),
  (21, .aload_n 0, 1, 0, 0, .null, []), (22, .getfield 19, 3, 7, 3, .null, [240]), (25, .iload_n 3, 1, 0, 0, .null, []), (26, .laload, 1, 0, 0, .null, []),
  (27, .aload_n 0, 1, 0, 0, .null, []), (28, .getfield 36, 3, 7, 8, .null, [245]), (31, .iconst 0, 1, 0, 0, .int (nI 0), []), (32, .invokestatic 115, 3, 86, 0, .null, [0, 463]),
  (35, .aload_n 0, 1, 0, 0, .null, []), (36, .getfield 22, 3, 7, 4, .null, [241]), (39, .iload_n 3, 1, 0, 0, .null, []), (40, .laload, 1, 0, 0, .null, []),
  (41, .aload_n 0, 1, 0, 0, .null, []), (42, .getfield 36, 3, 7, 8, .null, [245]), (45, .iconst 2, 1, 0, 0, .int (nI 2), []), (46, .invokestatic 115, 3, 86, 0, .null, [0, 463]),
  (49, .aload_n 0, 1, 0, 0, .null, []), (50, .aload_n 1, 1, 0, 0, .null, []), (51, .iload_n 3, 1, 0, 0, .null, []), (52, .invokevirtual 147, 3, 103, 0, .null, [0, 585]),
  (55, .goto (54), 3, 109, 0, .null, []), (58, .aload_n 0, 1, 0, 0, .null, []), (59, .getfield 25, 3, 7, 5, .null, [242]), (62, .iconst 1, 1, 0, 0, .int (nI 1), []),
  (63, .iaload, 1, 0, 0, .null, []), (64, .iload_n 3, 1, 0, 0, .null, []), (65, .invokestatic 79, 3, 15, 0, .null, [1, 6]), (68, .ifCond .eq (41), 3, 109, 0, .null, []),
  (71, .aload_n 2, 1, 0, 0, .null, []), (72, .aload_n 0, 1, 0, 0, .null, []), (73, .iload_n 3, 1, 0, 0, .null, []), (74, .iconst 1, 1, 0, 0, .int (nI 1), []),
  (75, .invokevirtual 135, 3, 104, 0, .null, [0, 512]), (78, .iload_n 3, 1, 0, 0, .null, []), (79, .aload_n 0, 1, 0, 0, .null, []), (80, .getfield 39, 3, 7, 0, .null, [235]),
  (83, .aload_n 0, 1, 0, 0, .null, []), (84, .getfield 31, 3, 7, 7, .null, [244]), (87, .iconst 1, 1, 0, 0, .int (nI 1), []), (88, .bipush 8, 2, 0, 0, .int (nI 8), []),
  (90, .iload_n 3, 1, 0, 0, .null, []), (91, .imul, 1, 0, 0, .null, []), (92, .iadd, 1, 0, 0, .null, []), (93, .aload_n 0, 1, 0, 0, .null, []),
  (94, .getfield 36, 3, 7, 8, .null, [245]), (97, .invokevirtual 150, 3, 72, 0, .null, [0, 589]), (100, .ifCond .eq (9), 3, 109, 0, .null, []), (103, .aload_n 0, 1, 0, 0, .null, []),
  (104, .aload_n 1, 1, 0, 0, .null, []), (105, .iload_n 3, 1, 0, 0, .null, []), (106, .invokevirtual 147, 3, 103, 0, .null, [0, 585]), (109, .iinc 3 (1), 3, 0, 0, .null, []),
  (112, .goto (-105), 3, 7, 0, .null, []), (115, .aload_n 1, 1, 0, 0, .null, []), (116, .iconst 0, 1, 0, 0, .int (nI 0), []), (117, .aload_n 0, 1, 0, 0, .null, []),
  (118, .getfield 49, 3, 7, 11, .null, [249]), (121, .aload_n 0, 1, 0, 0, .null, []), (122, .getfield 52, 3, 7, 12, .null, [250]), (125, .ior, 1, 0, 0, .null, []),
  (126, .iastore, 1, 0, 0, .null, []), (127, .return_, 1, 0, 0, .null, [])]
-- MaskedSum$Phone.giveShare([II)V
def ms_c103 : List (Nat × ms_I) := [(0, .aload_n 0, 1, 0, 0, .null, []), (1, .getfield 25, 3, 7, 5, .null, [242]), (4, .iconst 2, 1, 0, 0, .int (nI 2), []), (5, .iaload, 1, 0, 0, .null, []),
  (6, .iload_n 2, 1, 0, 0, .null, []), (7, .invokestatic 79, 3, 15, 0, .null, [1, 6]), (10, .ifCond .eq (33), 3, 43, 0, .null, []), (13, .aload_n 0, 1, 0, 0, .null, []),
  (14, .dup, 1, 0, 0, .null, []), (15, .getfield 49, 3, 7, 11, .null, [249]), (18, .iconst 1, 1, 0, 0, .int (nI 1), []), (19, .iload_n 2, 1, 0, 0, .null, []),
  (20, .ishl, 1, 0, 0, .null, []), (21, .ior, 1, 0, 0, .null, []), (22, .putfield 49, 3, 7, 11, .null, [249]), (25, .aload_n 0, 1, 0, 0, .null, []),
  (26, .getfield 36, 3, 7, 8, .null, [245]), (29, .iconst 0, 1, 0, 0, .int (nI 0), []), (30, .aload_n 1, 1, 0, 0, .null, []), (31, .iconst 1, 1, 0, 0, .int (nI 1), []),
  (32, .iconst 2, 1, 0, 0, .int (nI 2), []), (33, .iload_n 2, 1, 0, 0, .null, []), (34, .imul, 1, 0, 0, .null, []), (35, .iadd, 1, 0, 0, .null, []),
  (36, .iconst 2, 1, 0, 0, .int (nI 2), []), (37, .invokestatic 67, 3, 0, 1, .null, [576]), (40, .goto (30), 3, 70, 0, .null, []), (43, .aload_n 0, 1, 0, 0, .null, []),
  (44, .dup, 1, 0, 0, .null, []), (45, .getfield 52, 3, 7, 12, .null, [250]), (48, .iconst 1, 1, 0, 0, .int (nI 1), []), (49, .iload_n 2, 1, 0, 0, .null, []),
  (50, .ishl, 1, 0, 0, .null, []), (51, .ior, 1, 0, 0, .null, []), (52, .putfield 52, 3, 7, 12, .null, [250]), (55, .aload_n 0, 1, 0, 0, .null, []),
  (56, .getfield 36, 3, 7, 8, .null, [245]), (59, .iconst 2, 1, 0, 0, .int (nI 2), []), (60, .aload_n 1, 1, 0, 0, .null, []), (61, .iconst 1, 1, 0, 0, .int (nI 1), []),
  (62, .iconst 2, 1, 0, 0, .int (nI 2), []), (63, .iload_n 2, 1, 0, 0, .null, []), (64, .imul, 1, 0, 0, .null, []), (65, .iadd, 1, 0, 0, .null, []),
  (66, .iconst 2, 1, 0, 0, .int (nI 2), []), (67, .invokestatic 67, 3, 0, 1, .null, [576]), (70, .return_, 1, 0, 0, .null, [])]
-- MaskedSum$Phone.agreed(II)J
def ms_c104 : List (Nat × ms_I) := [(0, .aload_n 0, 1, 0, 0, .null, []), (1, .getfield 28, 3, 7, 6, .null, [243]), (4, .iconst 1, 1, 0, 0, .int (nI 1), []), (5, .iconst 4, 1, 0, 0, .int (nI 4), []),
  (6, .iload_n 1, 1, 0, 0, .null, []), (7, .imul, 1, 0, 0, .null, []), (8, .iadd, 1, 0, 0, .null, []), (9, .iconst 2, 1, 0, 0, .int (nI 2), []),
  (10, .iload_n 2, 1, 0, 0, .null, []), (11, .imul, 1, 0, 0, .null, []), (12, .iadd, 1, 0, 0, .null, []), (13, .invokestatic 154, 3, 85, 0, .null, [0, 516]),
  (16, .aload_n 0, 1, 0, 0, .null, []), (17, .getfield 9, 3, 7, 1, .null, [236]), (20, .iload_n 2, 1, 0, 0, .null, []), (21, .laload, 1, 0, 0, .null, []),
  (22, .invokestatic 111, 3, 91, 0, .null, [0, 454]), (25, .lreturn, 1, 0, 0, .null, [])]
-- MaskedSum$Poly1305.<init>()V
def ms_c105 : List (Nat × ms_I) := [(0, .aload_n 0, 1, 0, 0, .null, []), (1, .invokespecial 3, 3, 0, 2, .null, [106]), (4, .aload_n 0, 1, 0, 0, .null, []), (5, .iconst 5, 1, 0, 0, .int (nI 5), []),
  (6, .newarray .long, 2, 1, 0, .null, []), (8, .putfield 9, 3, 3, 0, .null, [107]), (11, .aload_n 0, 1, 0, 0, .null, []), (12, .iconst 5, 1, 0, 0, .int (nI 5), []),
  (13, .newarray .long, 2, 1, 0, .null, []), (15, .putfield 13, 3, 3, 1, .null, [108]), (18, .aload_n 0, 1, 0, 0, .null, []), (19, .iconst 5, 1, 0, 0, .int (nI 5), []),
  (20, .newarray .long, 2, 1, 0, .null, []), (22, .putfield 16, 3, 3, 2, .null, [109]), (25, .aload_n 0, 1, 0, 0, .null, []), (26, .iconst 4, 1, 0, 0, .int (nI 4), []),
  (27, .newarray .int, 2, 0, 0, .null, []), (29, .putfield 19, 3, 3, 3, .null, [110]), (32, .aload_n 0, 1, 0, 0, .null, []), (33, .iconst 4, 1, 0, 0, .int (nI 4), []),
  (34, .newarray .int, 2, 0, 0, .null, []), (36, .putfield 23, 3, 3, 4, .null, [111]), (39, .return_, 1, 0, 0, .null, [])]
-- MaskedSum$Poly1305.begin([I)V
def ms_c106 : List (Nat × ms_I) := [(0, .aload_n 0, 1, 0, 0, .null, []), (1, .getfield 9, 3, 3, 0, .null, [107]), (4, .lconst 0, 1, 0, 0, .long (lN 0), []), (5, .invokestatic 26, 3, 149, 0, .null, [0, 529]),
  (8, .aload_n 0, 1, 0, 0, .null, []), (9, .getfield 9, 3, 3, 0, .null, [107]), (12, .aload_n 1, 1, 0, 0, .null, []), (13, .iconst 0, 1, 0, 0, .int (nI 0), []),
  (14, .iaload, 1, 0, 0, .null, []), (15, .ldc 32, 2, 532, 0, .int (nI 268435455), []), (17, .iand, 1, 0, 0, .null, []), (18, .aload_n 1, 1, 0, 0, .null, []),
  (19, .iconst 1, 1, 0, 0, .int (nI 1), []), (20, .iaload, 1, 0, 0, .null, []), (21, .ldc 33, 2, 533, 0, .int (nI 268435452), []), (23, .iand, 1, 0, 0, .null, []),
  (24, .aload_n 1, 1, 0, 0, .null, []), (25, .iconst 2, 1, 0, 0, .int (nI 2), []), (26, .iaload, 1, 0, 0, .null, []), (27, .ldc 33, 2, 533, 0, .int (nI 268435452), []),
  (29, .iand, 1, 0, 0, .null, []), (30, .aload_n 1, 1, 0, 0, .null, []), (31, .iconst 3, 1, 0, 0, .int (nI 3), []), (32, .iaload, 1, 0, 0, .null, []),
  (33, .ldc 33, 2, 533, 0, .int (nI 268435452), []), (35, .iand, 1, 0, 0, .null, []), (36, .invokestatic 34, 3, 108, 0, .null, [0, 534]), (39, .aload_n 0, 1, 0, 0, .null, []),
  (40, .getfield 13, 3, 3, 1, .null, [108]), (43, .lconst 0, 1, 0, 0, .long (lN 0), []), (44, .invokestatic 26, 3, 149, 0, .null, [0, 529]), (47, .aload_n 1, 1, 0, 0, .null, []),
  (48, .iconst 4, 1, 0, 0, .int (nI 4), []), (49, .aload_n 0, 1, 0, 0, .null, []), (50, .getfield 19, 3, 3, 3, .null, [110]), (53, .iconst 0, 1, 0, 0, .int (nI 0), []),
  (54, .iconst 4, 1, 0, 0, .int (nI 4), []), (55, .invokestatic 38, 3, 0, 1, .null, [539]), (58, .return_, 1, 0, 0, .null, [])]
-- MaskedSum$Poly1305.addBlock(IIII)V
def ms_c107 : List (Nat × ms_I) := [(0, .aload_n 0, 1, 0, 0, .null, []), (1, .getfield 13, 3, 3, 1, .null, [108]), (4, .iload_n 1, 1, 0, 0, .null, []), (5, .iload_n 2, 1, 0, 0, .null, []),
  (6, .iload_n 3, 1, 0, 0, .null, []), (7, .iload 4, 2, 0, 0, .null, []), (9, .invokestatic 34, 3, 108, 0, .null, [0, 534]), (12, .aload_n 0, 1, 0, 0, .null, []),
  (13, .getfield 13, 3, 3, 1, .null, [108]), (16, .iconst 4, 1, 0, 0, .int (nI 4), []), (17, .dup2, 1, 0, 0, .null, []), (18, .laload, 1, 0, 0, .null, []),
  (19, .ldc2_w 44, 3, 544, 0, .long (lN 16777216), []), (22, .ladd, 1, 0, 0, .null, []), (23, .lastore, 1, 0, 0, .null, []), (24, .aload_n 0, 1, 0, 0, .null, []),
  (25, .invokevirtual 46, 3, 109, 0, .null, [0, 545]), (28, .aload_n 0, 1, 0, 0, .null, []), (29, .invokevirtual 49, 3, 110, 0, .null, [0, 550]), (32, .return_, 1, 0, 0, .null, [])]
-- MaskedSum$Poly1305.addLimbs([JIIII)V
def ms_c108 : List (Nat × ms_I) := [(0, .iload_n 2, 1, 0, 0, .null, []), (1, .i2l, 1, 0, 0, .null, []), (2, .bipush 32, 2, 0, 0, .int (nI 32), []), (4, .lshl, 1, 0, 0, .null, []),
  (5, .iload_n 1, 1, 0, 0, .null, []), (6, .i2l, 1, 0, 0, .null, []), (7, .ldc2_w 52, 3, 537, 0, .long (lN 4294967295), []), (10, .land, 1, 0, 0, .null, []),
  (11, .lor, 1, 0, 0, .null, []), (12, .lstore 5, 2, 0, 0, .null, []), (14, .iload 4, 2, 0, 0, .null, []), (16, .i2l, 1, 0, 0, .null, []),
  (17, .bipush 32, 2, 0, 0, .int (nI 32), []), (19, .lshl, 1, 0, 0, .null, []), (20, .iload_n 3, 1, 0, 0, .null, []), (21, .i2l, 1, 0, 0, .null, []),
  (22, .ldc2_w 52, 3, 537, 0, .long (lN 4294967295), []), (25, .land, 1, 0, 0, .null, []), (26, .lor, 1, 0, 0, .null, []), (27, .lstore 7, 2, 0, 0, .null, []),
  (29, .aload_n 0, 1, 0, 0, .null, []), (30, .iconst 0, 1, 0, 0, .int (nI 0), []), (31, .dup2, 1, 0, 0, .null, []), (32, .laload, 1, 0, 0, .null, []),
  (33, .lload 5, 2, 0, 0, .null, []), (35, .ldc2_w 54, 3, 538, 0, .long (lN 67108863), []), (38, .land, 1, 0, 0, .null, []), (39, .ladd, 1, 0, 0, .null, []),
  (40, .lastore, 1, 0, 0, .null, []), (41, .aload_n 0, 1, 0, 0, .null, []), (42, .iconst 1, 1, 0, 0, .int (nI 1), []), (43, .dup2, 1, 0, 0, .null, []),
  (44, .laload, 1, 0, 0, .null, []), (45, .lload 5, 2, 0, 0, .null, []), (47, .bipush 26, 2, 0, 0, .int (nI 26), []), (49, .lushr, 1, 0, 0, .null, []),
  (50, .ldc2_w 54, 3, 538, 0, .long (lN 67108863), []), (53, .land, 1, 0, 0, .null, []), (54, .ladd, 1, 0, 0, .null, []), (55, .lastore, 1, 0, 0, .null, []),
  (56, .aload_n 0, 1, 0, 0, .null, []), (57, .iconst 2, 1, 0, 0, .int (nI 2), []), (58, .dup2, 1, 0, 0, .null, []), (59, .laload, 1, 0, 0, .null, []),
  (60, .lload 5, 2, 0, 0, .null, []), (62, .bipush 52, 2, 0, 0, .int (nI 52), []), (64, .lushr, 1, 0, 0, .null, []), (65, .lload 7, 2, 0, 0, .null, []),
  (67, .bipush 12, 2, 0, 0, .int (nI 12), []), (69, .lshl, 1, 0, 0, .null, []), (70, .lor, 1, 0, 0, .null, []), (71, .ldc2_w 54, 3, 538, 0, .long (lN 67108863), []),
  (74, .land, 1, 0, 0, .null, []), (75, .ladd, 1, 0, 0, .null, []), (76, .lastore, 1, 0, 0, .null, []), (77, .aload_n 0, 1, 0, 0, .null, []),
  (78, .iconst 3, 1, 0, 0, .int (nI 3), []), (79, .dup2, 1, 0, 0, .null, []), (80, .laload, 1, 0, 0, .null, []), (81, .lload 7, 2, 0, 0, .null, []),
  (83, .bipush 14, 2, 0, 0, .int (nI 14), []), (85, .lushr, 1, 0, 0, .null, []), (86, .ldc2_w 54, 3, 538, 0, .long (lN 67108863), []), (89, .land, 1, 0, 0, .null, []),
  (90, .ladd, 1, 0, 0, .null, []), (91, .lastore, 1, 0, 0, .null, []), (92, .aload_n 0, 1, 0, 0, .null, []), (93, .iconst 4, 1, 0, 0, .int (nI 4), []),
  (94, .dup2, 1, 0, 0, .null, []), (95, .laload, 1, 0, 0, .null, []), (96, .lload 7, 2, 0, 0, .null, []), (98, .bipush 40, 2, 0, 0, .int (nI 40), []),
  (100, .lushr, 1, 0, 0, .null, []), (101, .ladd, 1, 0, 0, .null, []), (102, .lastore, 1, 0, 0, .null, []), (103, .return_, 1, 0, 0, .null, [])]
-- MaskedSum$Poly1305.multiply()V
def ms_c109 : List (Nat × ms_I) := [(0, .iconst 0, 1, 0, 0, .int (nI 0), []), (1, .istore_n 1, 1, 0, 0, .null, []), (2, .iload_n 1, 1, 0, 0, .null, []), (3, .iconst 5, 1, 0, 0, .int (nI 5), []),
  (4, .if_icmp .ge (85), 3, 89, 0, .null, []), (7, .lconst 0, 1, 0, 0, .long (lN 0), []), (8, .lstore_n 2, 1, 0, 0, .null, []), (9, .iconst 0, 1, 0, 0, .int (nI 0), []),
  (10, .istore 4, 2, 0, 0, .null, []), (12, .iload 4, 2, 0, 0, .null, []), (14, .iconst 5, 1, 0, 0, .int (nI 5), []), (15, .if_icmp .ge (61), 3, 76, 0, .null, []),
  (18, .lload_n 2, 1, 0, 0, .null, []), (19, .iload 4, 2, 0, 0, .null, []), (21, .iload_n 1, 1, 0, 0, .null, []), (22, .if_icmp .gt (23), 3, 45, 0, .null, []),
  (25, .aload_n 0, 1, 0, 0, .null, []), (26, .getfield 13, 3, 3, 1, .null, [108]), (29, .iload 4, 2, 0, 0, .null, []), (31, .laload, 1, 0, 0, .null, []),
  (32, .aload_n 0, 1, 0, 0, .null, []), (33, .getfield 9, 3, 3, 0, .null, [107]), (36, .iload_n 1, 1, 0, 0, .null, []), (37, .iload 4, 2, 0, 0, .null, []),
  (39, .isub, 1, 0, 0, .null, []), (40, .laload, 1, 0, 0, .null, []), (41, .lmul, 1, 0, 0, .null, []), (42, .goto (26), 3, 68, 0, .null, []),
  (45, .ldc2_w 56, 3, 549, 0, .long (lN 5), []), (48, .aload_n 0, 1, 0, 0, .null, []), (49, .getfield 13, 3, 3, 1, .null, [108]), (52, .iload 4, 2, 0, 0, .null, []),
  (54, .laload, 1, 0, 0, .null, []), (55, .lmul, 1, 0, 0, .null, []), (56, .aload_n 0, 1, 0, 0, .null, []), (57, .getfield 9, 3, 3, 0, .null, [107]),
  (60, .iconst 5, 1, 0, 0, .int (nI 5), []), (61, .iload_n 1, 1, 0, 0, .null, []), (62, .iadd, 1, 0, 0, .null, []), (63, .iload 4, 2, 0, 0, .null, []),
  (65, .isub, 1, 0, 0, .null, []), (66, .laload, 1, 0, 0, .null, []), (67, .lmul, 1, 0, 0, .null, []), (68, .ladd, 1, 0, 0, .null, []),
  (69, .lstore_n 2, 1, 0, 0, .null, []), (70, .iinc 4 (1), 3, 0, 0, .null, []), (73, .goto (-61), 3, 12, 0, .null, []), (76, .aload_n 0, 1, 0, 0, .null, []),
  (77, .getfield 16, 3, 3, 2, .null, [109]), (80, .iload_n 1, 1, 0, 0, .null, []), (81, .lload_n 2, 1, 0, 0, .null, []), (82, .lastore, 1, 0, 0, .null, []),
  (83, .iinc 1 (1), 3, 0, 0, .null, []), (86, .goto (-84), 3, 2, 0, .null, []), (89, .aload_n 0, 1, 0, 0, .null, []), (90, .getfield 16, 3, 3, 2, .null, [109]),
  (93, .iconst 0, 1, 0, 0, .int (nI 0), []), (94, .aload_n 0, 1, 0, 0, .null, []), (95, .getfield 13, 3, 3, 1, .null, [108]), (98, .iconst 0, 1, 0, 0, .int (nI 0), []),
  (99, .iconst 5, 1, 0, 0, .int (nI 5), []), (100, .invokestatic 38, 3, 0, 1, .null, [539]), (103, .return_, 1, 0, 0, .null, [])]
-- MaskedSum$Poly1305.carry()V
def ms_c110 : List (Nat × ms_I) := [(0, .aload_n 0, 1, 0, 0, .null, []), (1, .invokevirtual 58, 3, 111, 0, .null, [0, 554]), (4, .lstore_n 1, 1, 0, 0, .null, []), (5, .aload_n 0, 1, 0, 0, .null, []),
  (6, .getfield 13, 3, 3, 1, .null, [108]), (9, .iconst 0, 1, 0, 0, .int (nI 0), []), (10, .dup2, 1, 0, 0, .null, []), (11, .laload, 1, 0, 0, .null, []),
  (12, .ldc2_w 56, 3, 549, 0, .long (lN 5), []), (15, .lload_n 1, 1, 0, 0, .null, []), (16, .lmul, 1, 0, 0, .null, []), (17, .ladd, 1, 0, 0, .null, []),
  (18, .lastore, 1, 0, 0, .null, []), (19, .aload_n 0, 1, 0, 0, .null, []), (20, .getfield 13, 3, 3, 1, .null, [108]), (23, .iconst 1, 1, 0, 0, .int (nI 1), []),
  (24, .dup2, 1, 0, 0, .null, []), (25, .laload, 1, 0, 0, .null, []), (26, .aload_n 0, 1, 0, 0, .null, []), (27, .getfield 13, 3, 3, 1, .null, [108]),
  (30, .iconst 0, 1, 0, 0, .int (nI 0), []), (31, .laload, 1, 0, 0, .null, []), (32, .bipush 26, 2, 0, 0, .int (nI 26), []), (34, .lushr, 1, 0, 0, .null, []),
  (35, .ladd, 1, 0, 0, .null, []), (36, .lastore, 1, 0, 0, .null, []), (37, .aload_n 0, 1, 0, 0, .null, []), (38, .getfield 13, 3, 3, 1, .null, [108]),
  (41, .iconst 0, 1, 0, 0, .int (nI 0), []), (42, .dup2, 1, 0, 0, .null, []), (43, .laload, 1, 0, 0, .null, []), (44, .ldc2_w 54, 3, 538, 0, .long (lN 67108863), []),
  (47, .land, 1, 0, 0, .null, []), (48, .lastore, 1, 0, 0, .null, []), (49, .return_, 1, 0, 0, .null, [])]
-- MaskedSum$Poly1305.carryUp()J
def ms_c111 : List (Nat × ms_I) := [(0, .lconst 0, 1, 0, 0, .long (lN 0), []), (1, .lstore_n 1, 1, 0, 0, .null, []), (2, .iconst 0, 1, 0, 0, .int (nI 0), []), (3, .istore_n 3, 1, 0, 0, .null, []),
  (4, .iload_n 3, 1, 0, 0, .null, []), (5, .iconst 5, 1, 0, 0, .int (nI 5), []), (6, .if_icmp .ge (41), 3, 47, 0, .null, []), (9, .aload_n 0, 1, 0, 0, .null, []),
  (10, .getfield 13, 3, 3, 1, .null, [108]), (13, .iload_n 3, 1, 0, 0, .null, []), (14, .dup2, 1, 0, 0, .null, []), (15, .laload, 1, 0, 0, .null, []),
  (16, .lload_n 1, 1, 0, 0, .null, []), (17, .ladd, 1, 0, 0, .null, []), (18, .lastore, 1, 0, 0, .null, []), (19, .aload_n 0, 1, 0, 0, .null, []),
  (20, .getfield 13, 3, 3, 1, .null, [108]), (23, .iload_n 3, 1, 0, 0, .null, []), (24, .laload, 1, 0, 0, .null, []), (25, .bipush 26, 2, 0, 0, .int (nI 26), []),
  (27, .lushr, 1, 0, 0, .null, []), (28, .lstore_n 1, 1, 0, 0, .null, []), (29, .aload_n 0, 1, 0, 0, .null, []), (30, .getfield 13, 3, 3, 1, .null, [108]),
  (33, .iload_n 3, 1, 0, 0, .null, []), (34, .dup2, 1, 0, 0, .null, []), (35, .laload, 1, 0, 0, .null, []), (36, .ldc2_w 54, 3, 538, 0, .long (lN 67108863), []),
  (39, .land, 1, 0, 0, .null, []), (40, .lastore, 1, 0, 0, .null, []), (41, .iinc 3 (1), 3, 0, 0, .null, []), (44, .goto (-40), 3, 4, 0, .null, []),
  (47, .lload_n 1, 1, 0, 0, .null, []), (48, .lreturn, 1, 0, 0, .null, [])]
-- MaskedSum$Poly1305.finish()V
def ms_c112 : List (Nat × ms_I) := [(0, .aload_n 0, 1, 0, 0, .null, []), (1, .invokevirtual 49, 3, 110, 0, .null, [0, 550]), (4, .aload_n 0, 1, 0, 0, .null, []), (5, .invokevirtual 62, 3, 113, 0, .null, [0, 562]),
  (8, .ifCond .eq (20), 3, 28, 0, .null, []), (11, .aload_n 0, 1, 0, 0, .null, []), (12, .getfield 13, 3, 3, 1, .null, [108]), (15, .iconst 0, 1, 0, 0, .int (nI 0), []),
  (16, .dup2, 1, 0, 0, .null, []), (17, .laload, 1, 0, 0, .null, []), (18, .ldc2_w 56, 3, 549, 0, .long (lN 5), []), (21, .ladd, 1, 0, 0, .null, []),
  (22, .lastore, 1, 0, 0, .null, []), (23, .aload_n 0, 1, 0, 0, .null, []), (24, .invokevirtual 58, 3, 111, 0, .null, [0, 554]), (27, .pop2, 1, 0, 0, .null, []),
  (28, .lconst 0, 1, 0, 0, .long (lN 0), []), (29, .lstore_n 1, 1, 0, 0, .null, []), (30, .iconst 0, 1, 0, 0, .int (nI 0), []), (31, .istore_n 3, 1, 0, 0, .null, []),
  (32, .iload_n 3, 1, 0, 0, .null, []), (33, .iconst 4, 1, 0, 0, .int (nI 4), []), (34, .if_icmp .ge (47), 3, 81, 0, .null, []), (37, .lload_n 1, 1, 0, 0, .null, []),
  (38, .aload_n 0, 1, 0, 0, .null, []), (39, .iload_n 3, 1, 0, 0, .null, []), (40, .invokevirtual 66, 3, 114, 0, .null, [0, 567]), (43, .i2l, 1, 0, 0, .null, []),
  (44, .ldc2_w 52, 3, 537, 0, .long (lN 4294967295), []), (47, .land, 1, 0, 0, .null, []), (48, .aload_n 0, 1, 0, 0, .null, []), (49, .getfield 19, 3, 3, 3, .null, [110]),
  (52, .iload_n 3, 1, 0, 0, .null, []), (53, .iaload, 1, 0, 0, .null, []), (54, .i2l, 1, 0, 0, .null, []), (55, .ldc2_w 52, 3, 537, 0, .long (lN 4294967295), []),
  (58, .land, 1, 0, 0, .null, []), (59, .ladd, 1, 0, 0, .null, []), (60, .ladd, 1, 0, 0, .null, []), (61, .lstore_n 1, 1, 0, 0, .null, []),
  (62, .aload_n 0, 1, 0, 0, .null, []), (63, .getfield 23, 3, 3, 4, .null, [111]), (66, .iload_n 3, 1, 0, 0, .null, []), (67, .lload_n 1, 1, 0, 0, .null, []),
  (68, .l2i, 1, 0, 0, .null, []), (69, .iastore, 1, 0, 0, .null, []), (70, .lload_n 1, 1, 0, 0, .null, []), (71, .bipush 32, 2, 0, 0, .int (nI 32), []),
  (73, .lushr, 1, 0, 0, .null, []), (74, .lstore_n 1, 1, 0, 0, .null, []), (75, .iinc 3 (1), 3, 0, 0, .null, []), (78, .goto (-46), 3, 32, 0, .null, []),
  (81, .return_, 1, 0, 0, .null, [])]
-- MaskedSum$Poly1305.reachesPrime()Z
def ms_c113 : List (Nat × ms_I) := [(0, .aload_n 0, 1, 0, 0, .null, []), (1, .getfield 13, 3, 3, 1, .null, [108]), (4, .iconst 0, 1, 0, 0, .int (nI 0), []), (5, .laload, 1, 0, 0, .null, []),
  (6, .ldc2_w 70, 3, 566, 0, .long (lN 67108859), []), (9, .lcmp, 1, 0, 0, .null, []), (10, .ifCond .lt (59), 3, 69, 0, .null, []), (13, .aload_n 0, 1, 0, 0, .null, []),
  (14, .getfield 13, 3, 3, 1, .null, [108]), (17, .iconst 1, 1, 0, 0, .int (nI 1), []), (18, .laload, 1, 0, 0, .null, []), (19, .ldc2_w 54, 3, 538, 0, .long (lN 67108863), []),
  (22, .lcmp, 1, 0, 0, .null, []), (23, .ifCond .ne (46), 3, 69, 0, .null, []), (26, .aload_n 0, 1, 0, 0, .null, []), (27, .getfield 13, 3, 3, 1, .null, [108]),
  (30, .iconst 2, 1, 0, 0, .int (nI 2), []), (31, .laload, 1, 0, 0, .null, []), (32, .ldc2_w 54, 3, 538, 0, .long (lN 67108863), []), (35, .lcmp, 1, 0, 0, .null, []),
  (36, .ifCond .ne (33), 3, 69, 0, .null, []), (39, .aload_n 0, 1, 0, 0, .null, []), (40, .getfield 13, 3, 3, 1, .null, [108]), (43, .iconst 3, 1, 0, 0, .int (nI 3), []),
  (44, .laload, 1, 0, 0, .null, []), (45, .ldc2_w 54, 3, 538, 0, .long (lN 67108863), []), (48, .lcmp, 1, 0, 0, .null, []), (49, .ifCond .ne (20), 3, 69, 0, .null, []),
  (52, .aload_n 0, 1, 0, 0, .null, []), (53, .getfield 13, 3, 3, 1, .null, [108]), (56, .iconst 4, 1, 0, 0, .int (nI 4), []), (57, .laload, 1, 0, 0, .null, []),
  (58, .ldc2_w 54, 3, 538, 0, .long (lN 67108863), []), (61, .lcmp, 1, 0, 0, .null, []), (62, .ifCond .ne (7), 3, 69, 0, .null, []), (65, .iconst 1, 1, 0, 0, .int (nI 1), []),
  (66, .goto (4), 3, 70, 0, .null, []), (69, .iconst 0, 1, 0, 0, .int (nI 0), []), (70, .ireturn, 1, 0, 0, .null, [])]
-- MaskedSum$Poly1305.sumWord(I)I
def ms_c114 : List (Nat × ms_I) := [(0, .bipush 6, 2, 0, 0, .int (nI 6), []), (2, .iload_n 1, 1, 0, 0, .null, []), (3, .imul, 1, 0, 0, .null, []), (4, .istore_n 2, 1, 0, 0, .null, []),
  (5, .aload_n 0, 1, 0, 0, .null, []), (6, .getfield 13, 3, 3, 1, .null, [108]), (9, .iload_n 1, 1, 0, 0, .null, []), (10, .laload, 1, 0, 0, .null, []),
  (11, .iload_n 2, 1, 0, 0, .null, []), (12, .lushr, 1, 0, 0, .null, []), (13, .aload_n 0, 1, 0, 0, .null, []), (14, .getfield 13, 3, 3, 1, .null, [108]),
  (17, .iload_n 1, 1, 0, 0, .null, []), (18, .iconst 1, 1, 0, 0, .int (nI 1), []), (19, .iadd, 1, 0, 0, .null, []), (20, .laload, 1, 0, 0, .null, []),
  (21, .bipush 26, 2, 0, 0, .int (nI 26), []), (23, .iload_n 2, 1, 0, 0, .null, []), (24, .isub, 1, 0, 0, .null, []), (25, .lshl, 1, 0, 0, .null, []),
  (26, .lor, 1, 0, 0, .null, []), (27, .l2i, 1, 0, 0, .null, []), (28, .ireturn, 1, 0, 0, .null, [])]
-- MaskedSum$Server.<init>()V
def ms_c115 : List (Nat × ms_I) := [(0, .aload_n 0, 1, 0, 0, .null, []), (1, .invokespecial 3, 3, 0, 2, .null, [187]), (4, .aload_n 0, 1, 0, 0, .null, []), (5, .iconst 5, 1, 0, 0, .int (nI 5), []),
  (6, .putfield 9, 3, 6, 2, .null, [194]), (9, .aload_n 0, 1, 0, 0, .null, []), (10, .iconst 3, 1, 0, 0, .int (nI 3), []), (11, .newarray .int, 2, 0, 0, .null, []),
  (13, .putfield 15, 3, 6, 5, .null, [198]), (16, .aload_n 0, 1, 0, 0, .null, []), (17, .bipush 8, 2, 0, 0, .int (nI 8), []), (19, .iconst 4, 1, 0, 0, .int (nI 4), []),
  (20, .multianewarray 19 2, 4, 2, 0, .null, [188]), (24, .putfield 21, 3, 6, 6, .null, [199]), (27, .aload_n 0, 1, 0, 0, .null, []), (28, .bipush 8, 2, 0, 0, .int (nI 8), []),
  (30, .bipush 64, 2, 0, 0, .int (nI 64), []), (32, .multianewarray 19 2, 4, 2, 0, .null, [188]), (36, .putfield 24, 3, 6, 7, .null, [200]), (39, .aload_n 0, 1, 0, 0, .null, []),
  (40, .bipush 8, 2, 0, 0, .int (nI 8), []), (42, .iconst 4, 1, 0, 0, .int (nI 4), []), (43, .multianewarray 19 2, 4, 2, 0, .null, [188]), (47, .putfield 27, 3, 6, 8, .null, [201]),
  (50, .aload_n 0, 1, 0, 0, .null, []), (51, .bipush 8, 2, 0, 0, .int (nI 8), []), (53, .bipush 17, 2, 0, 0, .int (nI 17), []), (55, .multianewarray 19 2, 4, 2, 0, .null, [188]),
  (59, .putfield 30, 3, 6, 9, .null, [202]), (62, .aload_n 0, 1, 0, 0, .null, []), (63, .iconst 4, 1, 0, 0, .int (nI 4), []), (64, .newarray .int, 2, 0, 0, .null, []),
  (66, .putfield 33, 3, 6, 10, .null, [203]), (69, .return_, 1, 0, 0, .null, [])]
-- MaskedSum$Server.begin(II)V
def ms_c116 : List (Nat × ms_I) := [(0, .aload_n 0, 1, 0, 0, .null, []), (1, .iload_n 1, 1, 0, 0, .null, []), (2, .putfield 36, 3, 6, 0, .null, [190]), (5, .aload_n 0, 1, 0, 0, .null, []),
  (6, .iload_n 2, 1, 0, 0, .null, []), (7, .putfield 39, 3, 6, 1, .null, [192]), (10, .aload_n 0, 1, 0, 0, .null, []), (11, .iconst 0, 1, 0, 0, .int (nI 0), []),
  (12, .putfield 9, 3, 6, 2, .null, [194]), (15, .aload_n 0, 1, 0, 0, .null, []), (16, .iconst 0, 1, 0, 0, .int (nI 0), []), (17, .putfield 42, 3, 6, 3, .null, [196]),
  (20, .aload_n 0, 1, 0, 0, .null, []), (21, .iconst 0, 1, 0, 0, .int (nI 0), []), (22, .putfield 45, 3, 6, 4, .null, [197]), (25, .aload_n 0, 1, 0, 0, .null, []),
  (26, .getfield 15, 3, 6, 5, .null, [198]), (29, .iconst 0, 1, 0, 0, .int (nI 0), []), (30, .invokestatic 48, 3, 148, 0, .null, [0, 377]), (33, .return_, 1, 0, 0, .null, [])]
-- MaskedSum$Server.isOpen()Z
def ms_c117 : List (Nat × ms_I) := [(0, .aload_n 0, 1, 0, 0, .null, []), (1, .getfield 9, 3, 6, 2, .null, [194]), (4, .iconst 3, 1, 0, 0, .int (nI 3), []), (5, .if_icmp .gt (7), 3, 12, 0, .null, []),
  (8, .iconst 1, 1, 0, 0, .int (nI 1), []), (9, .goto (4), 3, 13, 0, .null, []), (12, .iconst 0, 1, 0, 0, .int (nI 0), []), (13, .ireturn, 1, 0, 0, .null, [])]
-- MaskedSum$Server.tell(I)I
def ms_c118 : List (Nat × ms_I) := [(0, .iload_n 1, 1, 0, 0, .null, []), (1, .tableswitch (63) (1) (6) #[39, 44, 49, 49, 49, 58], 39, 64, 0, .null, [40, 45, 50, 50, 50, 59]), (40, .aload_n 0, 1, 0, 0, .null, []), (41, .getfield 9, 3, 6, 2, .null, [194]),
  (44, .ireturn, 1, 0, 0, .null, []), (45, .aload_n 0, 1, 0, 0, .null, []), (46, .getfield 42, 3, 6, 3, .null, [196]), (49, .ireturn, 1, 0, 0, .null, []),
  (50, .aload_n 0, 1, 0, 0, .null, []), (51, .getfield 15, 3, 6, 5, .null, [198]), (54, .iload_n 1, 1, 0, 0, .null, []), (55, .iconst 3, 1, 0, 0, .int (nI 3), []),
  (56, .isub, 1, 0, 0, .null, []), (57, .iaload, 1, 0, 0, .null, []), (58, .ireturn, 1, 0, 0, .null, []), (59, .aload_n 0, 1, 0, 0, .null, []),
  (60, .getfield 45, 3, 6, 4, .null, [197]), (63, .ireturn, 1, 0, 0, .null, []), (64, .iconst (-1), 1, 0, 0, .int (-1), []), (65, .ireturn, 1, 0, 0, .null, [])]
-- MaskedSum$Server.hear(LMaskedSum$Message;)Z
def ms_c119 : List (Nat × ms_I) := [(0, .aload_n 1, 1, 0, 0, .null, []), (1, .getfield 54, 3, 5, 1, .null, [151]), (4, .istore_n 2, 1, 0, 0, .null, []), (5, .aload_n 1, 1, 0, 0, .null, []),
  (6, .getfield 59, 3, 5, 0, .null, [149]), (9, .aload_n 0, 1, 0, 0, .null, []), (10, .getfield 9, 3, 6, 2, .null, [194]), (13, .if_icmp .ne (22), 3, 35, 0, .null, []),
  (16, .aload_n 0, 1, 0, 0, .null, []), (17, .getfield 45, 3, 6, 4, .null, [197]), (20, .iload_n 2, 1, 0, 0, .null, []), (21, .invokestatic 60, 3, 15, 0, .null, [1, 7]),
  (24, .ifCond .ne (11), 3, 35, 0, .null, []), (27, .aload_n 0, 1, 0, 0, .null, []), (28, .iload_n 2, 1, 0, 0, .null, []), (29, .invokevirtual 64, 3, 120, 0, .null, [0, 693]),
  (32, .ifCond .ne (5), 3, 37, 0, .null, []), (35, .iconst 0, 1, 0, 0, .int (nI 0), []), (36, .ireturn, 1, 0, 0, .null, []), (37, .aload_n 0, 1, 0, 0, .null, []),
  (38, .iload_n 2, 1, 0, 0, .null, []), (39, .invokevirtual 68, 3, 121, 0, .null, [0, 697]), (42, .astore_n 3, 1, 0, 0, .null, []), (43, .aload_n 1, 1, 0, 0, .null, []),
  (44, .getfield 72, 3, 5, 3, .null, [157]), (47, .iconst 0, 1, 0, 0, .int (nI 0), []), (48, .aload_n 3, 1, 0, 0, .null, []), (49, .iconst 0, 1, 0, 0, .int (nI 0), []),
  (50, .aload_n 3, 1, 0, 0, .null, []), (51, .arraylength, 1, 0, 0, .null, []), (52, .invokestatic 75, 3, 0, 1, .null, [627]), (55, .aload_n 0, 1, 0, 0, .null, []),
  (56, .dup, 1, 0, 0, .null, []), (57, .getfield 45, 3, 6, 4, .null, [197]), (60, .iconst 1, 1, 0, 0, .int (nI 1), []), (61, .iload_n 2, 1, 0, 0, .null, []),
  (62, .ishl, 1, 0, 0, .null, []), (63, .ior, 1, 0, 0, .null, []), (64, .putfield 45, 3, 6, 4, .null, [197]), (67, .iconst 1, 1, 0, 0, .int (nI 1), []),
  (68, .ireturn, 1, 0, 0, .null, [])]
-- MaskedSum$Server.isAwaited(I)Z
def ms_c120 : List (Nat × ms_I) := [(0, .aload_n 0, 1, 0, 0, .null, []), (1, .getfield 9, 3, 6, 2, .null, [194]), (4, .lookupswitch (41) #[(0, 28), (1, 30)], 28, 45, 0, .null, [32, 34]), (32, .iconst 1, 1, 0, 0, .int (nI 1), []),
  (33, .ireturn, 1, 0, 0, .null, []), (34, .aload_n 0, 1, 0, 0, .null, []), (35, .getfield 15, 3, 6, 5, .null, [198]), (38, .iconst 0, 1, 0, 0, .int (nI 0), []),
  (39, .iaload, 1, 0, 0, .null, []), (40, .iload_n 1, 1, 0, 0, .null, []), (41, .invokestatic 60, 3, 15, 0, .null, [1, 7]), (44, .ireturn, 1, 0, 0, .null, []),
  (45, .aload_n 0, 1, 0, 0, .null, []), (46, .getfield 15, 3, 6, 5, .null, [198]), (49, .iconst 1, 1, 0, 0, .int (nI 1), []), (50, .iaload, 1, 0, 0, .null, []),
  (51, .iload_n 1, 1, 0, 0, .null, []), (52, .invokestatic 60, 3, 15, 0, .null, [1, 7]), (55, .ireturn, 1, 0, 0, .null, [])]
-- MaskedSum$Server.rowFor(I)[I
def ms_c121 : List (Nat × ms_I) := [(0, .aload_n 0, 1, 0, 0, .null, []), (1, .getfield 9, 3, 6, 2, .null, [194]), (4, .tableswitch (49) (0) (2) #[28, 35, 42], 28, 53, 0, .null, [32, 39, 46]), (32, .aload_n 0, 1, 0, 0, .null, []),
  (33, .getfield 21, 3, 6, 6, .null, [199]), (36, .iload_n 1, 1, 0, 0, .null, []), (37, .aaload, 1, 0, 0, .null, []), (38, .areturn, 1, 0, 0, .null, []),
  (39, .aload_n 0, 1, 0, 0, .null, []), (40, .getfield 24, 3, 6, 7, .null, [200]), (43, .iload_n 1, 1, 0, 0, .null, []), (44, .aaload, 1, 0, 0, .null, []),
  (45, .areturn, 1, 0, 0, .null, []), (46, .aload_n 0, 1, 0, 0, .null, []), (47, .getfield 27, 3, 6, 8, .null, [201]), (50, .iload_n 1, 1, 0, 0, .null, []),
  (51, .aaload, 1, 0, 0, .null, []), (52, .areturn, 1, 0, 0, .null, []), (53, .aload_n 0, 1, 0, 0, .null, []), (54, .getfield 30, 3, 6, 9, .null, [202]),
  (57, .iload_n 1, 1, 0, 0, .null, []), (58, .aaload, 1, 0, 0, .null, []), (59, .areturn, 1, 0, 0, .null, [])]
-- MaskedSum$Server.closeStage(LMaskedSum$Mail;LMaskedSum$Crypto;)V
def ms_c122 : List (Nat × ms_I) := [(0, .aload_n 0, 1, 0, 0, .null, []), (1, .getfield 45, 3, 6, 4, .null, [197]), (4, .invokestatic 81, 3, 146, 0, .null, [0, 604]), (7, .aload_n 0, 1, 0, 0, .null, []),
  (8, .getfield 39, 3, 6, 1, .null, [192]), (11, .if_icmp .ge (16), 3, 27, 0, .null, []), (14, .aload_n 0, 1, 0, 0, .null, []), (15, .iconst 1, 1, 0, 0, .int (nI 1), []),
  (16, .aload_n 0, 1, 0, 0, .null, []), (17, .getfield 9, 3, 6, 2, .null, [194]), (20, .iadd, 1, 0, 0, .null, []), (21, .invokevirtual 87, 3, 123, 0, .null, [0, 610]),
  (24, .goto (68), 3, 92, 0, .null, []), (27, .aload_n 0, 1, 0, 0, .null, []), (28, .getfield 9, 3, 6, 2, .null, [194]), (31, .iconst 3, 1, 0, 0, .int (nI 3), []),
  (32, .if_icmp .ge (39), 3, 71, 0, .null, []), (35, .aload_n 0, 1, 0, 0, .null, []), (36, .getfield 15, 3, 6, 5, .null, [198]), (39, .aload_n 0, 1, 0, 0, .null, []),
  (40, .getfield 9, 3, 6, 2, .null, [194]), (43, .aload_n 0, 1, 0, 0, .null, []), (44, .getfield 45, 3, 6, 4, .null, [197]), (47, .iastore, 1, 0, 0, .null, []),
  (48, .aload_n 0, 1, 0, 0, .null, []), (49, .aload_n 1, 1, 0, 0, .null, []), (50, .invokevirtual 91, 3, 124, 0, .null, [0, 614]), (53, .aload_n 0, 1, 0, 0, .null, []),
  (54, .iconst 0, 1, 0, 0, .int (nI 0), []), (55, .putfield 45, 3, 6, 4, .null, [197]), (58, .aload_n 0, 1, 0, 0, .null, []), (59, .dup, 1, 0, 0, .null, []),
  (60, .getfield 9, 3, 6, 2, .null, [194]), (63, .iconst 1, 1, 0, 0, .int (nI 1), []), (64, .iadd, 1, 0, 0, .null, []), (65, .putfield 9, 3, 6, 2, .null, [194]),
  (68, .goto (24), 3, 92, 0, .null, []), (71, .aload_n 0, 1, 0, 0, .null, []), (72, .aload_n 2, 1, 0, 0, .null, []), (73, .invokevirtual 95, 3, 127, 0, .null, [0, 632]),
  (76, .ifCond .eq (11), 3, 87, 0, .null, []), (79, .aload_n 0, 1, 0, 0, .null, []), (80, .iconst 4, 1, 0, 0, .int (nI 4), []), (81, .putfield 9, 3, 6, 2, .null, [194]),
  (84, .goto (8), 3, 92, 0, .null, []), (87, .aload_n 0, 1, 0, 0, .null, []), (88, .iconst 5, 1, 0, 0, .int (nI 5), []), (89, .invokevirtual 87, 3, 123, 0, .null, [0, 610]),
  (92, .return_, 1, 0, 0, .null, [])]
-- MaskedSum$Server.fail(I)V
def ms_c123 : List (Nat × ms_I) := [(0, .aload_n 0, 1, 0, 0, .null, []), (1, .iconst 5, 1, 0, 0, .int (nI 5), []), (2, .putfield 9, 3, 6, 2, .null, [194]), (5, .aload_n 0, 1, 0, 0, .null, []),
  (6, .iload_n 1, 1, 0, 0, .null, []), (7, .putfield 42, 3, 6, 3, .null, [196]), (10, .return_, 1, 0, 0, .null, [])]
-- MaskedSum$Server.answerAll(LMaskedSum$Mail;)V
def ms_c124 : List (Nat × ms_I) := [(0, .aload_n 0, 1, 0, 0, .null, []), (1, .getfield 9, 3, 6, 2, .null, [194]), (4, .iconst 2, 1, 0, 0, .int (nI 2), []), (5, .if_icmp .ne (12), 3, 17, 0, .null, []),
  (8, .aload_n 0, 1, 0, 0, .null, []), (9, .getfield 15, 3, 6, 5, .null, [198]), (12, .iconst 1, 1, 0, 0, .int (nI 1), []), (13, .iaload, 1, 0, 0, .null, []),
  (14, .goto (12), 3, 26, 0, .null, []), (17, .aload_n 0, 1, 0, 0, .null, []), (18, .getfield 15, 3, 6, 5, .null, [198]), (21, .aload_n 0, 1, 0, 0, .null, []),
  (22, .getfield 9, 3, 6, 2, .null, [194]), (25, .iaload, 1, 0, 0, .null, []), (26, .istore_n 2, 1, 0, 0, .null, []), (27, .iconst 0, 1, 0, 0, .int (nI 0), []),
  (28, .istore_n 3, 1, 0, 0, .null, []), (29, .iload_n 3, 1, 0, 0, .null, []), (30, .bipush 8, 2, 0, 0, .int (nI 8), []), (32, .if_icmp .ge (78), 3, 110, 0, .null, []),
  (35, .iload_n 2, 1, 0, 0, .null, []), (36, .iload_n 3, 1, 0, 0, .null, []), (37, .invokestatic 60, 3, 15, 0, .null, [1, 7]), (40, .ifCond .eq (64), 3, 104, 0, .null, []),
  (43, .aload_n 1, 1, 0, 0, .null, []), (44, .iload_n 3, 1, 0, 0, .null, []), (45, .aload_n 0, 1, 0, 0, .null, []), (46, .getfield 9, 3, 6, 2, .null, [194]),
  (49, .invokevirtual 99, 3, 80, 0, .null, [0, 619]), (52, .astore 4, 2, 0, 0, .null, []), (54, .aload 4, 2, 0, 0, .null, []), (56, .iconst 0, 1, 0, 0, .int (nI 0), []),
  (57, .invokestatic 48, 3, 148, 0, .null, [0, 377]), (60, .aload 4, 2, 0, 0, .null, []), (62, .iconst 0, 1, 0, 0, .int (nI 0), []), (63, .aload_n 0, 1, 0, 0, .null, []),
  (64, .getfield 15, 3, 6, 5, .null, [198]), (67, .aload_n 0, 1, 0, 0, .null, []), (68, .getfield 9, 3, 6, 2, .null, [194]), (71, .iaload, 1, 0, 0, .null, []),
  (72, .iastore, 1, 0, 0, .null, []), (73, .aload_n 0, 1, 0, 0, .null, []), (74, .getfield 9, 3, 6, 2, .null, [194]), (77, .ifCond .ne (12), 3, 89, 0, .null, []),
  (80, .aload_n 0, 1, 0, 0, .null, []), (81, .aload 4, 2, 0, 0, .null, []), (83, .invokevirtual 105, 3, 125, 0, .null, [0, 623]), (86, .goto (18), 3, 104, 0, .null, []),
  (89, .aload_n 0, 1, 0, 0, .null, []), (90, .getfield 9, 3, 6, 2, .null, [194]), (93, .iconst 1, 1, 0, 0, .int (nI 1), []), (94, .if_icmp .ne (10), 3, 104, 0, .null, []),
  (97, .aload_n 0, 1, 0, 0, .null, []), (98, .aload 4, 2, 0, 0, .null, []), (100, .iload_n 3, 1, 0, 0, .null, []), (101, .invokevirtual 109, 3, 126, 0, .null, [0, 628]),
  (104, .iinc 3 (1), 3, 0, 0, .null, []), (107, .goto (-78), 3, 29, 0, .null, []), (110, .return_, 1, 0, 0, .null, [])]
-- MaskedSum$Server.writeKeys([I)V
def ms_c125 : List (Nat × ms_I) := [(0, .iconst 0, 1, 0, 0, .int (nI 0), []), (1, .istore_n 2, 1, 0, 0, .null, []), (2, .iload_n 2, 1, 0, 0, .null, []), (3, .bipush 8, 2, 0, 0, .int (nI 8), []),
  (5, .if_icmp .ge (39), 3, 44, 0, .null, []), (8, .aload_n 0, 1, 0, 0, .null, []), (9, .getfield 15, 3, 6, 5, .null, [198]), (12, .iconst 0, 1, 0, 0, .int (nI 0), []),
  (13, .iaload, 1, 0, 0, .null, []), (14, .iload_n 2, 1, 0, 0, .null, []), (15, .invokestatic 60, 3, 15, 0, .null, [1, 7]), (18, .ifCond .eq (20), 3, 38, 0, .null, []),
  (21, .aload_n 0, 1, 0, 0, .null, []), (22, .getfield 21, 3, 6, 6, .null, [199]), (25, .iload_n 2, 1, 0, 0, .null, []), (26, .aaload, 1, 0, 0, .null, []),
  (27, .iconst 0, 1, 0, 0, .int (nI 0), []), (28, .aload_n 1, 1, 0, 0, .null, []), (29, .iconst 1, 1, 0, 0, .int (nI 1), []), (30, .iconst 4, 1, 0, 0, .int (nI 4), []),
  (31, .iload_n 2, 1, 0, 0, .null, []), (32, .imul, 1, 0, 0, .null, []), (33, .iadd, 1, 0, 0, .null, []), (34, .iconst 4, 1, 0, 0, .int (nI 4), []),
  (35, .invokestatic 75, 3, 0, 1, .null, [627]), (38, .iinc 2 (1), 3, 0, 0, .null, []), (41, .goto (-39), 3, 2, 0, .null, []), (44, .return_, 1, 0, 0, .null, [])]
-- MaskedSum$Server.writeBoxes([II)V
def ms_c126 : List (Nat × ms_I) := [(0, .iconst 0, 1, 0, 0, .int (nI 0), []), (1, .istore_n 3, 1, 0, 0, .null, []), (2, .iload_n 3, 1, 0, 0, .null, []), (3, .bipush 8, 2, 0, 0, .int (nI 8), []),
  (5, .if_icmp .ge (49), 3, 54, 0, .null, []), (8, .iload_n 3, 1, 0, 0, .null, []), (9, .iload_n 2, 1, 0, 0, .null, []), (10, .if_icmp .eq (38), 3, 48, 0, .null, []),
  (13, .aload_n 0, 1, 0, 0, .null, []), (14, .getfield 15, 3, 6, 5, .null, [198]), (17, .iconst 1, 1, 0, 0, .int (nI 1), []), (18, .iaload, 1, 0, 0, .null, []),
  (19, .iload_n 3, 1, 0, 0, .null, []), (20, .invokestatic 60, 3, 15, 0, .null, [1, 7]), (23, .ifCond .eq (25), 3, 48, 0, .null, []), (26, .aload_n 0, 1, 0, 0, .null, []),
  (27, .getfield 24, 3, 6, 7, .null, [200]), (30, .iload_n 3, 1, 0, 0, .null, []), (31, .aaload, 1, 0, 0, .null, []), (32, .bipush 8, 2, 0, 0, .int (nI 8), []),
  (34, .iload_n 2, 1, 0, 0, .null, []), (35, .imul, 1, 0, 0, .null, []), (36, .aload_n 1, 1, 0, 0, .null, []), (37, .iconst 1, 1, 0, 0, .int (nI 1), []),
  (38, .bipush 8, 2, 0, 0, .int (nI 8), []), (40, .iload_n 3, 1, 0, 0, .null, []), (41, .imul, 1, 0, 0, .null, []), (42, .iadd, 1, 0, 0, .null, []),
  (43, .bipush 8, 2, 0, 0, .int (nI 8), []), (45, .invokestatic 75, 3, 0, 1, .null, [627]), (48, .iinc 3 (1), 3, 0, 0, .null, []), (51, .goto (-49), 3, 2, 0, .null, []),
  (54, .return_, 1, 0, 0, .null, [])]
-- MaskedSum$Server.unmask(LMaskedSum$Crypto;)Z
def ms_c127 : List (Nat × ms_I) := [(0, .aload_n 0, 1, 0, 0, .null, []), (1, .getfield 33, 3, 6, 10, .null, [203]), (4, .iconst 0, 1, 0, 0, .int (nI 0), []), (5, .invokestatic 48, 3, 148, 0, .null, [0, 377]),
  (8, .iconst 0, 1, 0, 0, .int (nI 0), []), (9, .istore_n 2, 1, 0, 0, .null, []), (10, .iload_n 2, 1, 0, 0, .null, []), (11, .bipush 8, 2, 0, 0, .int (nI 8), []),
  (13, .if_icmp .ge (98), 3, 111, 0, .null, []), (16, .aload_n 0, 1, 0, 0, .null, []), (17, .getfield 15, 3, 6, 5, .null, [198]), (20, .iconst 1, 1, 0, 0, .int (nI 1), []),
  (21, .iaload, 1, 0, 0, .null, []), (22, .iload_n 2, 1, 0, 0, .null, []), (23, .invokestatic 60, 3, 15, 0, .null, [1, 7]), (26, .ifCond .eq (79), 3, 105, 0, .null, []),
  (29, .aload_n 0, 1, 0, 0, .null, []), (30, .iload_n 2, 1, 0, 0, .null, []), (31, .invokevirtual 112, 3, 128, 0, .null, [0, 636]), (34, .istore_n 3, 1, 0, 0, .null, []),
  (35, .iload_n 3, 1, 0, 0, .null, []), (36, .invokestatic 81, 3, 146, 0, .null, [0, 604]), (39, .aload_n 0, 1, 0, 0, .null, []), (40, .getfield 39, 3, 6, 1, .null, [192]),
  (43, .if_icmp .ge (5), 3, 48, 0, .null, []), (46, .iconst 0, 1, 0, 0, .int (nI 0), []), (47, .ireturn, 1, 0, 0, .null, []), (48, .aload_n 0, 1, 0, 0, .null, []),
  (49, .getfield 30, 3, 6, 9, .null, [202]), (52, .iconst 1, 1, 0, 0, .int (nI 1), []), (53, .iconst 2, 1, 0, 0, .int (nI 2), []), (54, .iload_n 2, 1, 0, 0, .null, []),
  (55, .imul, 1, 0, 0, .null, []), (56, .iadd, 1, 0, 0, .null, []), (57, .iload_n 3, 1, 0, 0, .null, []), (58, .invokestatic 115, 3, 132, 0, .null, [0, 640]),
  (61, .lstore 4, 2, 0, 0, .null, []), (63, .aload_n 0, 1, 0, 0, .null, []), (64, .getfield 15, 3, 6, 5, .null, [198]), (67, .iconst 2, 1, 0, 0, .int (nI 2), []),
  (68, .iaload, 1, 0, 0, .null, []), (69, .iload_n 2, 1, 0, 0, .null, []), (70, .invokestatic 60, 3, 15, 0, .null, [1, 7]), (73, .ifCond .eq (24), 3, 97, 0, .null, []),
  (76, .aload_n 0, 1, 0, 0, .null, []), (77, .iload_n 2, 1, 0, 0, .null, []), (78, .invokevirtual 121, 3, 129, 0, .null, [0, 649]), (81, .aload_n 1, 1, 0, 0, .null, []),
  (82, .aload_n 0, 1, 0, 0, .null, []), (83, .getfield 33, 3, 6, 10, .null, [203]), (86, .iconst 0, 1, 0, 0, .int (nI 0), []), (87, .lload 4, 2, 0, 0, .null, []),
  (89, .iconst 0, 1, 0, 0, .int (nI 0), []), (90, .iload_n 2, 1, 0, 0, .null, []), (91, .invokevirtual 124, 3, 70, 0, .null, [0, 653]), (94, .goto (11), 3, 105, 0, .null, []),
  (97, .aload_n 0, 1, 0, 0, .null, []), (98, .iload_n 2, 1, 0, 0, .null, []), (99, .lload 4, 2, 0, 0, .null, []), (101, .aload_n 1, 1, 0, 0, .null, []),
  (102, .invokevirtual 130, 3, 130, 0, .null, [0, 654]), (105, .iinc 2 (1), 3, 0, 0, .null, []), (108, .goto (-98), 3, 10, 0, .null, []), (111, .iconst 1, 1, 0, 0, .int (nI 1), []),
  (112, .ireturn, 1, 0, 0, .null, [])]
-- MaskedSum$Server.lowestHolders(I)I
def ms_c128 : List (Nat × ms_I) := [(0, .iconst 0, 1, 0, 0, .int (nI 0), []), (1, .istore_n 2, 1, 0, 0, .null, []), (2, .iconst 0, 1, 0, 0, .int (nI 0), []), (3, .istore_n 3, 1, 0, 0, .null, []),
  (4, .iload_n 3, 1, 0, 0, .null, []), (5, .bipush 8, 2, 0, 0, .int (nI 8), []), (7, .if_icmp .ge (64), 3, 71, 0, .null, []), (10, .aload_n 0, 1, 0, 0, .null, []),
  (11, .getfield 45, 3, 6, 4, .null, [197]), (14, .iload_n 3, 1, 0, 0, .null, []), (15, .invokestatic 60, 3, 15, 0, .null, [1, 7]), (18, .ifCond .eq (22), 3, 40, 0, .null, []),
  (21, .aload_n 0, 1, 0, 0, .null, []), (22, .getfield 30, 3, 6, 9, .null, [202]), (25, .iload_n 3, 1, 0, 0, .null, []), (26, .aaload, 1, 0, 0, .null, []),
  (27, .iconst 0, 1, 0, 0, .int (nI 0), []), (28, .iaload, 1, 0, 0, .null, []), (29, .iload_n 1, 1, 0, 0, .null, []), (30, .invokestatic 60, 3, 15, 0, .null, [1, 7]),
  (33, .ifCond .eq (7), 3, 40, 0, .null, []), (36, .iconst 1, 1, 0, 0, .int (nI 1), []), (37, .goto (4), 3, 41, 0, .null, []), (40, .iconst 0, 1, 0, 0, .int (nI 0), []),
  (41, .istore 4, 2, 0, 0, .null, []), (43, .iload 4, 2, 0, 0, .null, []), (45, .ifCond .eq (20), 3, 65, 0, .null, []), (48, .iload_n 2, 1, 0, 0, .null, []),
  (49, .invokestatic 81, 3, 146, 0, .null, [0, 604]), (52, .aload_n 0, 1, 0, 0, .null, []), (53, .getfield 39, 3, 6, 1, .null, [192]), (56, .if_icmp .ge (9), 3, 65, 0, .null, []),
  (59, .iload_n 2, 1, 0, 0, .null, []), (60, .iconst 1, 1, 0, 0, .int (nI 1), []), (61, .iload_n 3, 1, 0, 0, .null, []), (62, .ishl, 1, 0, 0, .null, []),
  (63, .ior, 1, 0, 0, .null, []), (64, .istore_n 2, 1, 0, 0, .null, []), (65, .iinc 3 (1), 3, 0, 0, .null, []), (68, .goto (-64), 3, 4, 0, .null, []),
  (71, .iload_n 2, 1, 0, 0, .null, []), (72, .ireturn, 1, 0, 0, .null, [])]
-- MaskedSum$Server.addMasked(I)V
def ms_c129 : List (Nat × ms_I) := [(0, .iconst 0, 1, 0, 0, .int (nI 0), []), (1, .istore_n 2, 1, 0, 0, .null, []), (2, .iload_n 2, 1, 0, 0, .null, []), (3, .iconst 4, 1, 0, 0, .int (nI 4), []),
  (4, .if_icmp .ge (26), 3, 30, 0, .null, []), (7, .aload_n 0, 1, 0, 0, .null, []), (8, .getfield 33, 3, 6, 10, .null, [203]), (11, .iload_n 2, 1, 0, 0, .null, []),
  (12, .dup2, 1, 0, 0, .null, []), (13, .iaload, 1, 0, 0, .null, []), (14, .aload_n 0, 1, 0, 0, .null, []), (15, .getfield 27, 3, 6, 8, .null, [201]),
  (18, .iload_n 1, 1, 0, 0, .null, []), (19, .aaload, 1, 0, 0, .null, []), (20, .iload_n 2, 1, 0, 0, .null, []), (21, .iaload, 1, 0, 0, .null, []),
  (22, .iadd, 1, 0, 0, .null, []), (23, .iastore, 1, 0, 0, .null, []), (24, .iinc 2 (1), 3, 0, 0, .null, []), (27, .goto (-25), 3, 2, 0, .null, []),
  (30, .return_, 1, 0, 0, .null, [])]
-- MaskedSum$Server.takePairsOff(IJLMaskedSum$Crypto;)V
def ms_c130 : List (Nat × ms_I) := [(0, .iconst 0, 1, 0, 0, .int (nI 0), []), (1, .istore 5, 2, 0, 0, .null, []), (3, .iload 5, 2, 0, 0, .null, []), (5, .bipush 8, 2, 0, 0, .int (nI 8), []),
  (7, .if_icmp .ge (64), 3, 71, 0, .null, []), (10, .aload_n 0, 1, 0, 0, .null, []), (11, .getfield 15, 3, 6, 5, .null, [198]), (14, .iconst 2, 1, 0, 0, .int (nI 2), []),
  (15, .iaload, 1, 0, 0, .null, []), (16, .iload 5, 2, 0, 0, .null, []), (18, .invokestatic 60, 3, 15, 0, .null, [1, 7]), (21, .ifCond .eq (44), 3, 65, 0, .null, []),
  (24, .aload_n 0, 1, 0, 0, .null, []), (25, .getfield 21, 3, 6, 6, .null, [199]), (28, .iload 5, 2, 0, 0, .null, []), (30, .aaload, 1, 0, 0, .null, []),
  (31, .iconst 0, 1, 0, 0, .int (nI 0), []), (32, .invokestatic 134, 3, 85, 0, .null, [0, 658]), (35, .lload_n 2, 1, 0, 0, .null, []), (36, .invokestatic 140, 3, 91, 0, .null, [0, 659]),
  (39, .lstore 6, 2, 0, 0, .null, []), (41, .aload 4, 2, 0, 0, .null, []), (43, .aload_n 0, 1, 0, 0, .null, []), (44, .getfield 33, 3, 6, 10, .null, [203]),
  (47, .iload_n 1, 1, 0, 0, .null, []), (48, .iload 5, 2, 0, 0, .null, []), (50, .if_icmp .ge (7), 3, 57, 0, .null, []), (53, .iconst 1, 1, 0, 0, .int (nI 1), []),
  (54, .goto (4), 3, 58, 0, .null, []), (57, .iconst 0, 1, 0, 0, .int (nI 0), []), (58, .lload 6, 2, 0, 0, .null, []), (60, .iconst 1, 1, 0, 0, .int (nI 1), []),
  (61, .iconst 0, 1, 0, 0, .int (nI 0), []), (62, .invokevirtual 124, 3, 70, 0, .null, [0, 653]), (65, .iinc 5 (1), 3, 0, 0, .null, []), (68, .goto (-65), 3, 3, 0, .null, []),
  (71, .return_, 1, 0, 0, .null, [])]
-- MaskedSum$Sharing.share(J[III)J
def ms_c131 : List (Nat × ms_I) := [(0, .lconst 0, 1, 0, 0, .long (lN 0), []), (1, .lstore 5, 2, 0, 0, .null, []), (3, .iload_n 3, 1, 0, 0, .null, []), (4, .iconst 1, 1, 0, 0, .int (nI 1), []),
  (5, .isub, 1, 0, 0, .null, []), (6, .istore 7, 2, 0, 0, .null, []), (8, .iload 7, 2, 0, 0, .null, []), (10, .iconst 1, 1, 0, 0, .int (nI 1), []),
  (11, .if_icmp .lt (38), 3, 49, 0, .null, []), (14, .aload_n 2, 1, 0, 0, .null, []), (15, .iconst 2, 1, 0, 0, .int (nI 2), []), (16, .iload 7, 2, 0, 0, .null, []),
  (18, .iconst 1, 1, 0, 0, .int (nI 1), []), (19, .isub, 1, 0, 0, .null, []), (20, .imul, 1, 0, 0, .null, []), (21, .invokestatic 9, 3, 85, 0, .null, [0, 496]),
  (24, .lstore 8, 2, 0, 0, .null, []), (26, .lload 5, 2, 0, 0, .null, []), (28, .lload 8, 2, 0, 0, .null, []), (30, .invokestatic 15, 3, 88, 0, .null, [0, 500]),
  (33, .iload 4, 2, 0, 0, .null, []), (35, .iconst 1, 1, 0, 0, .int (nI 1), []), (36, .iadd, 1, 0, 0, .null, []), (37, .i2l, 1, 0, 0, .null, []),
  (38, .invokestatic 19, 3, 90, 0, .null, [0, 503]), (41, .lstore 5, 2, 0, 0, .null, []), (43, .iinc 7 (-1), 3, 0, 0, .null, []), (46, .goto (-38), 3, 8, 0, .null, []),
  (49, .lload 5, 2, 0, 0, .null, []), (51, .lload_n 0, 1, 0, 0, .null, []), (52, .invokestatic 15, 3, 88, 0, .null, [0, 500]), (55, .lreturn, 1, 0, 0, .null, [])]
-- MaskedSum$Sharing.join([[III)J
def ms_c132 : List (Nat × ms_I) := [(0, .lconst 0, 1, 0, 0, .long (lN 0), []), (1, .lstore_n 3, 1, 0, 0, .null, []), (2, .iconst 0, 1, 0, 0, .int (nI 0), []), (3, .istore 5, 2, 0, 0, .null, []),
  (5, .iload 5, 2, 0, 0, .null, []), (7, .bipush 8, 2, 0, 0, .int (nI 8), []), (9, .if_icmp .ge (113), 3, 122, 0, .null, []), (12, .iload_n 2, 1, 0, 0, .null, []),
  (13, .iload 5, 2, 0, 0, .null, []), (15, .invokestatic 22, 3, 15, 0, .null, [1, 8]), (18, .ifCond .eq (98), 3, 116, 0, .null, []), (21, .aload_n 0, 1, 0, 0, .null, []),
  (22, .iload 5, 2, 0, 0, .null, []), (24, .aaload, 1, 0, 0, .null, []), (25, .iload_n 1, 1, 0, 0, .null, []), (26, .invokestatic 9, 3, 85, 0, .null, [0, 496]),
  (29, .lstore 6, 2, 0, 0, .null, []), (31, .lconst 1, 1, 0, 0, .long (lN 1), []), (32, .lstore 8, 2, 0, 0, .null, []), (34, .iconst 0, 1, 0, 0, .int (nI 0), []),
  (35, .istore 10, 2, 0, 0, .null, []), (37, .iload 10, 2, 0, 0, .null, []), (39, .bipush 8, 2, 0, 0, .int (nI 8), []), (41, .if_icmp .ge (57), 3, 98, 0, .null, []),
  (44, .iload 10, 2, 0, 0, .null, []), (46, .iload 5, 2, 0, 0, .null, []), (48, .if_icmp .eq (44), 3, 92, 0, .null, []), (51, .iload_n 2, 1, 0, 0, .null, []),
  (52, .iload 10, 2, 0, 0, .null, []), (54, .invokestatic 22, 3, 15, 0, .null, [1, 8]), (57, .ifCond .eq (35), 3, 92, 0, .null, []), (60, .lload 6, 2, 0, 0, .null, []),
  (62, .iload 10, 2, 0, 0, .null, []), (64, .iconst 1, 1, 0, 0, .int (nI 1), []), (65, .iadd, 1, 0, 0, .null, []), (66, .i2l, 1, 0, 0, .null, []),
  (67, .invokestatic 19, 3, 90, 0, .null, [0, 503]), (70, .lstore 6, 2, 0, 0, .null, []), (72, .lload 8, 2, 0, 0, .null, []), (74, .iload 10, 2, 0, 0, .null, []),
  (76, .iconst 1, 1, 0, 0, .int (nI 1), []), (77, .iadd, 1, 0, 0, .null, []), (78, .i2l, 1, 0, 0, .null, []), (79, .iload 5, 2, 0, 0, .null, []),
  (81, .iconst 1, 1, 0, 0, .int (nI 1), []), (82, .iadd, 1, 0, 0, .null, []), (83, .i2l, 1, 0, 0, .null, []), (84, .invokestatic 26, 3, 89, 0, .null, [0, 644]),
  (87, .invokestatic 19, 3, 90, 0, .null, [0, 503]), (90, .lstore 8, 2, 0, 0, .null, []), (92, .iinc 10 (1), 3, 0, 0, .null, []), (95, .goto (-58), 3, 37, 0, .null, []),
  (98, .lload_n 3, 1, 0, 0, .null, []), (99, .lload 6, 2, 0, 0, .null, []), (101, .lload 8, 2, 0, 0, .null, []), (103, .ldc2_w 29, 3, 647, 0, .long (lN 2305843009213693949), []),
  (106, .invokestatic 31, 3, 91, 0, .null, [0, 648]), (109, .invokestatic 19, 3, 90, 0, .null, [0, 503]), (112, .invokestatic 15, 3, 88, 0, .null, [0, 500]), (115, .lstore_n 3, 1, 0, 0, .null, []),
  (116, .iinc 5 (1), 3, 0, 0, .null, []), (119, .goto (-114), 3, 5, 0, .null, []), (122, .lload_n 3, 1, 0, 0, .null, []), (123, .lreturn, 1, 0, 0, .null, [])]
-- MaskedSumLaw.start(LMaskedSum;II)I
def ms_c133 : List (Nat × ms_I) := [(0, .aload_n 0, 1, 0, 0, .null, []), (1, .iload_n 1, 1, 0, 0, .null, []), (2, .iload_n 2, 1, 0, 0, .null, []), (3, .invokevirtual 7, 3, 1, 0, .null, [0, 303]),
  (6, .goto (6), 3, 12, 0, .null, []), (9, .astore_n 3, 1, 0, 0, .null, []), (10, .iconst 1, 1, 0, 0, .int (nI 1), []), (11, .ireturn, 1, 0, 0, .null, []),
  (12, .iconst 0, 1, 0, 0, .int (nI 0), []), (13, .ireturn, 1, 0, 0, .null, [])]
-- MaskedSumLaw.secret(LMaskedSum;IIII)I
def ms_c134 : List (Nat × ms_I) := [(0, .aload_n 0, 1, 0, 0, .null, []), (1, .iload_n 1, 1, 0, 0, .null, []), (2, .iload_n 2, 1, 0, 0, .null, []), (3, .iload_n 3, 1, 0, 0, .null, []),
  (4, .iload 4, 2, 0, 0, .null, []), (6, .invokevirtual 15, 3, 2, 0, .null, [0, 388]), (9, .goto (11), 3, 20, 0, .null, []), (12, .astore 5, 2, 0, 0, .null, []),
  (14, .iconst 1, 1, 0, 0, .int (nI 1), []), (15, .ireturn, 1, 0, 0, .null, []), (16, .astore 5, 2, 0, 0, .null, []), (18, .iconst 2, 1, 0, 0, .int (nI 2), []),
  (19, .ireturn, 1, 0, 0, .null, []), (20, .iconst 0, 1, 0, 0, .int (nI 0), []), (21, .ireturn, 1, 0, 0, .null, [])]
-- MaskedSumLaw.input(LMaskedSum;III)I
def ms_c135 : List (Nat × ms_I) := [(0, .aload_n 0, 1, 0, 0, .null, []), (1, .iload_n 1, 1, 0, 0, .null, []), (2, .iload_n 2, 1, 0, 0, .null, []), (3, .iload_n 3, 1, 0, 0, .null, []),
  (4, .invokevirtual 21, 3, 3, 0, .null, [0, 422]), (7, .goto (11), 3, 18, 0, .null, []), (10, .astore 4, 2, 0, 0, .null, []), (12, .iconst 1, 1, 0, 0, .int (nI 1), []),
  (13, .ireturn, 1, 0, 0, .null, []), (14, .astore 4, 2, 0, 0, .null, []), (16, .iconst 2, 1, 0, 0, .int (nI 2), []), (17, .ireturn, 1, 0, 0, .null, []),
  (18, .iconst 0, 1, 0, 0, .int (nI 0), []), (19, .ireturn, 1, 0, 0, .null, [])]
-- MaskedSumLaw.step(LMaskedSum;I[J)I
def ms_c136 : List (Nat × ms_I) := [(0, .aload_n 2, 1, 0, 0, .null, []), (1, .iconst 0, 1, 0, 0, .int (nI 0), []), (2, .aload_n 0, 1, 0, 0, .null, []), (3, .iload_n 1, 1, 0, 0, .null, []),
  (4, .invokevirtual 25, 3, 4, 0, .null, [0, 429]), (7, .ifCond .eq (7), 3, 14, 0, .null, []), (10, .lconst 1, 1, 0, 0, .long (lN 1), []), (11, .goto (4), 3, 15, 0, .null, []),
  (14, .lconst 0, 1, 0, 0, .long (lN 0), []), (15, .lastore, 1, 0, 0, .null, []), (16, .goto (9), 3, 25, 0, .null, []), (19, .astore_n 3, 1, 0, 0, .null, []),
  (20, .iconst 1, 1, 0, 0, .int (nI 1), []), (21, .ireturn, 1, 0, 0, .null, []), (22, .astore_n 3, 1, 0, 0, .null, []), (23, .iconst 2, 1, 0, 0, .int (nI 2), []),
  (24, .ireturn, 1, 0, 0, .null, []), (25, .iconst 0, 1, 0, 0, .int (nI 0), []), (26, .ireturn, 1, 0, 0, .null, [])]
-- MaskedSumLaw.close(LMaskedSum;[J)I
def ms_c137 : List (Nat × ms_I) := [(0, .aload_n 1, 1, 0, 0, .null, []), (1, .iconst 0, 1, 0, 0, .int (nI 0), []), (2, .aload_n 0, 1, 0, 0, .null, []), (3, .invokevirtual 29, 3, 5, 0, .null, [0, 596]),
  (6, .i2l, 1, 0, 0, .null, []), (7, .lastore, 1, 0, 0, .null, []), (8, .goto (6), 3, 14, 0, .null, []), (11, .astore_n 2, 1, 0, 0, .null, []),
  (12, .iconst 1, 1, 0, 0, .int (nI 1), []), (13, .ireturn, 1, 0, 0, .null, []), (14, .iconst 0, 1, 0, 0, .int (nI 0), []), (15, .ireturn, 1, 0, 0, .null, [])]
-- MaskedSumLaw.deliver(LMaskedSum;I[J)I
def ms_c138 : List (Nat × ms_I) := [(0, .aload_n 2, 1, 0, 0, .null, []), (1, .iconst 0, 1, 0, 0, .int (nI 0), []), (2, .aload_n 0, 1, 0, 0, .null, []), (3, .iload_n 1, 1, 0, 0, .null, []),
  (4, .invokevirtual 33, 3, 6, 0, .null, [0, 663]), (7, .ifCond .eq (7), 3, 14, 0, .null, []), (10, .lconst 1, 1, 0, 0, .long (lN 1), []), (11, .goto (4), 3, 15, 0, .null, []),
  (14, .lconst 0, 1, 0, 0, .long (lN 0), []), (15, .lastore, 1, 0, 0, .null, []), (16, .goto (6), 3, 22, 0, .null, []), (19, .astore_n 3, 1, 0, 0, .null, []),
  (20, .iconst 1, 1, 0, 0, .int (nI 1), []), (21, .ireturn, 1, 0, 0, .null, []), (22, .iconst 0, 1, 0, 0, .int (nI 0), []), (23, .ireturn, 1, 0, 0, .null, [])]
-- MaskedSumLaw.lose(LMaskedSum;I)I
def ms_c139 : List (Nat × ms_I) := [(0, .aload_n 0, 1, 0, 0, .null, []), (1, .iload_n 1, 1, 0, 0, .null, []), (2, .invokevirtual 36, 3, 7, 0, .null, [0, 704]), (5, .goto (6), 3, 11, 0, .null, []),
  (8, .astore_n 2, 1, 0, 0, .null, []), (9, .iconst 1, 1, 0, 0, .int (nI 1), []), (10, .ireturn, 1, 0, 0, .null, []), (11, .iconst 0, 1, 0, 0, .int (nI 0), []),
  (12, .ireturn, 1, 0, 0, .null, [])]
-- MaskedSumLaw.alter(LMaskedSum;III)I
def ms_c140 : List (Nat × ms_I) := [(0, .aload_n 0, 1, 0, 0, .null, []), (1, .iload_n 1, 1, 0, 0, .null, []), (2, .iload_n 2, 1, 0, 0, .null, []), (3, .iload_n 3, 1, 0, 0, .null, []),
  (4, .invokevirtual 40, 3, 8, 0, .null, [0, 711]), (7, .goto (7), 3, 14, 0, .null, []), (10, .astore 4, 2, 0, 0, .null, []), (12, .iconst 1, 1, 0, 0, .int (nI 1), []),
  (13, .ireturn, 1, 0, 0, .null, []), (14, .iconst 0, 1, 0, 0, .int (nI 0), []), (15, .ireturn, 1, 0, 0, .null, [])]
-- MaskedSumLaw.message(LMaskedSum;II[J)I
def ms_c141 : List (Nat × ms_I) := [(0, .aload_n 3, 1, 0, 0, .null, []), (1, .iconst 0, 1, 0, 0, .int (nI 0), []), (2, .aload_n 0, 1, 0, 0, .null, []), (3, .iload_n 1, 1, 0, 0, .null, []),
  (4, .iload_n 2, 1, 0, 0, .null, []), (5, .invokevirtual 43, 3, 9, 0, .null, [0, 719]), (8, .i2l, 1, 0, 0, .null, []), (9, .lastore, 1, 0, 0, .null, []),
  (10, .goto (7), 3, 17, 0, .null, []), (13, .astore 4, 2, 0, 0, .null, []), (15, .iconst 1, 1, 0, 0, .int (nI 1), []), (16, .ireturn, 1, 0, 0, .null, []),
  (17, .iconst 0, 1, 0, 0, .int (nI 0), []), (18, .ireturn, 1, 0, 0, .null, [])]
-- MaskedSumLaw.total(LMaskedSum;I[J)I
def ms_c142 : List (Nat × ms_I) := [(0, .aload_n 2, 1, 0, 0, .null, []), (1, .iconst 0, 1, 0, 0, .int (nI 0), []), (2, .aload_n 0, 1, 0, 0, .null, []), (3, .iload_n 1, 1, 0, 0, .null, []),
  (4, .invokevirtual 47, 3, 10, 0, .null, [0, 730]), (7, .i2l, 1, 0, 0, .null, []), (8, .lastore, 1, 0, 0, .null, []), (9, .goto (9), 3, 18, 0, .null, []),
  (12, .astore_n 3, 1, 0, 0, .null, []), (13, .iconst 1, 1, 0, 0, .int (nI 1), []), (14, .ireturn, 1, 0, 0, .null, []), (15, .astore_n 3, 1, 0, 0, .null, []),
  (16, .iconst 2, 1, 0, 0, .int (nI 2), []), (17, .ireturn, 1, 0, 0, .null, []), (18, .iconst 0, 1, 0, 0, .int (nI 0), []), (19, .ireturn, 1, 0, 0, .null, [])]
-- MaskedSumLaw.phone(LMaskedSum;II[J)I
def ms_c143 : List (Nat × ms_I) := [(0, .aload_n 3, 1, 0, 0, .null, []), (1, .iconst 0, 1, 0, 0, .int (nI 0), []), (2, .aload_n 0, 1, 0, 0, .null, []), (3, .iload_n 1, 1, 0, 0, .null, []),
  (4, .iload_n 2, 1, 0, 0, .null, []), (5, .invokevirtual 51, 3, 11, 0, .null, [0, 737]), (8, .i2l, 1, 0, 0, .null, []), (9, .lastore, 1, 0, 0, .null, []),
  (10, .goto (7), 3, 17, 0, .null, []), (13, .astore 4, 2, 0, 0, .null, []), (15, .iconst 1, 1, 0, 0, .int (nI 1), []), (16, .ireturn, 1, 0, 0, .null, []),
  (17, .iconst 0, 1, 0, 0, .int (nI 0), []), (18, .ireturn, 1, 0, 0, .null, [])]
-- MaskedSumLaw.stream(LMaskedSum;IIIII[J)I
def ms_c144 : List (Nat × ms_I) := [(0, .aload 6, 2, 0, 0, .null, []), (2, .iconst 0, 1, 0, 0, .int (nI 0), []), (3, .aload_n 0, 1, 0, 0, .null, []), (4, .iload_n 1, 1, 0, 0, .null, []),
  (5, .iload_n 2, 1, 0, 0, .null, []), (6, .iload_n 3, 1, 0, 0, .null, []), (7, .iload 4, 2, 0, 0, .null, []), (9, .iload 5, 2, 0, 0, .null, []),
  (11, .invokevirtual 54, 3, 13, 0, .null, [0, 748]), (14, .i2l, 1, 0, 0, .null, []), (15, .lastore, 1, 0, 0, .null, []), (16, .goto (7), 3, 23, 0, .null, []),
  (19, .astore 7, 2, 0, 0, .null, []), (21, .iconst 1, 1, 0, 0, .int (nI 1), []), (22, .ireturn, 1, 0, 0, .null, []), (23, .iconst 0, 1, 0, 0, .int (nI 0), []),
  (24, .ireturn, 1, 0, 0, .null, [])]
-- MaskedSumLaw.law([I)Z
def ms_c145 : List (Nat × ms_I) := [(0, .new 8, 3, 0, 0, .null, [73]), (3, .dup, 1, 0, 0, .null, []), (4, .invokespecial 58, 3, 0, 0, .null, [0, 75]), (7, .astore_n 1, 1, 0, 0, .null, []),
  (8, .new 59, 3, 8, 0, .null, [753]), (11, .dup, 1, 0, 0, .null, []), (12, .invokespecial 61, 3, 16, 0, .null, [0, 755]), (15, .astore_n 2, 1, 0, 0, .null, []),
  (16, .iconst 1, 1, 0, 0, .int (nI 1), []), (17, .newarray .long, 2, 1, 0, .null, []), (19, .astore_n 3, 1, 0, 0, .null, []), (20, .iconst 0, 1, 0, 0, .int (nI 0), []),
  (21, .istore 4, 2, 0, 0, .null, []), (23, .iload 4, 2, 0, 0, .null, []), (25, .aload_n 0, 1, 0, 0, .null, []), (26, .arraylength, 1, 0, 0, .null, []),
  (27, .bipush 6, 2, 0, 0, .int (nI 6), []), (29, .isub, 1, 0, 0, .null, []), (30, .if_icmp .gt (851), 3, 881, 0, .null, []), (33, .aload_n 0, 1, 0, 0, .null, []),
  (34, .iload 4, 2, 0, 0, .null, []), (36, .iaload, 1, 0, 0, .null, []), (37, .bipush 15, 2, 0, 0, .int (nI 15), []), (39, .iand, 1, 0, 0, .null, []),
  (40, .tableswitch (835) (0) (12) #[68, 116, 188, 248, 311, 355, 418, 454, 514, 582, 638, 706, 731], 68, 875, 0, .null, [108, 156, 228, 288, 351, 395, 458, 494, 554, 622, 678, 746, 771]), (108, .aload_n 1, 1, 0, 0, .null, []), (109, .aload_n 0, 1, 0, 0, .null, []), (110, .iload 4, 2, 0, 0, .null, []),
  (112, .iconst 1, 1, 0, 0, .int (nI 1), []), (113, .iadd, 1, 0, 0, .null, []), (114, .iaload, 1, 0, 0, .null, []), (115, .aload_n 0, 1, 0, 0, .null, []),
  (116, .iload 4, 2, 0, 0, .null, []), (118, .iconst 2, 1, 0, 0, .int (nI 2), []), (119, .iadd, 1, 0, 0, .null, []), (120, .iaload, 1, 0, 0, .null, []),
  (121, .invokestatic 62, 3, 133, 0, .null, [0, 299]), (124, .istore 5, 2, 0, 0, .null, []), (126, .aload_n 2, 1, 0, 0, .null, []), (127, .aload_n 0, 1, 0, 0, .null, []),
  (128, .iload 4, 2, 0, 0, .null, []), (130, .iconst 1, 1, 0, 0, .int (nI 1), []), (131, .iadd, 1, 0, 0, .null, []), (132, .iaload, 1, 0, 0, .null, []),
  (133, .aload_n 0, 1, 0, 0, .null, []), (134, .iload 4, 2, 0, 0, .null, []), (136, .iconst 2, 1, 0, 0, .int (nI 2), []), (137, .iadd, 1, 0, 0, .null, []),
  (138, .iaload, 1, 0, 0, .null, []), (139, .invokevirtual 67, 3, 35, 0, .null, [0, 866]), (142, .aload_n 2, 1, 0, 0, .null, []), (143, .invokevirtual 68, 3, 17, 0, .null, [0, 862]),
  (146, .iload 5, 2, 0, 0, .null, []), (148, .if_icmp .eq (5), 3, 153, 0, .null, []), (151, .iconst 0, 1, 0, 0, .int (nI 0), []), (152, .ireturn, 1, 0, 0, .null, []),
  (153, .goto (722), 3, 875, 0, .null, []), (156, .aload_n 1, 1, 0, 0, .null, []), (157, .aload_n 0, 1, 0, 0, .null, []), (158, .iload 4, 2, 0, 0, .null, []),
  (160, .iconst 1, 1, 0, 0, .int (nI 1), []), (161, .iadd, 1, 0, 0, .null, []), (162, .iaload, 1, 0, 0, .null, []), (163, .aload_n 0, 1, 0, 0, .null, []),
  (164, .iload 4, 2, 0, 0, .null, []), (166, .iconst 2, 1, 0, 0, .int (nI 2), []), (167, .iadd, 1, 0, 0, .null, []), (168, .iaload, 1, 0, 0, .null, []),
  (169, .aload_n 0, 1, 0, 0, .null, []), (170, .iload 4, 2, 0, 0, .null, []), (172, .iconst 3, 1, 0, 0, .int (nI 3), []), (173, .iadd, 1, 0, 0, .null, []),
  (174, .iaload, 1, 0, 0, .null, []), (175, .aload_n 0, 1, 0, 0, .null, []), (176, .iload 4, 2, 0, 0, .null, []), (178, .iconst 4, 1, 0, 0, .int (nI 4), []),
  (179, .iadd, 1, 0, 0, .null, []), (180, .iaload, 1, 0, 0, .null, []), (181, .invokestatic 71, 3, 134, 0, .null, [0, 384]), (184, .istore 5, 2, 0, 0, .null, []),
  (186, .aload_n 2, 1, 0, 0, .null, []), (187, .aload_n 0, 1, 0, 0, .null, []), (188, .iload 4, 2, 0, 0, .null, []), (190, .iconst 1, 1, 0, 0, .int (nI 1), []),
  (191, .iadd, 1, 0, 0, .null, []), (192, .iaload, 1, 0, 0, .null, []), (193, .aload_n 0, 1, 0, 0, .null, []), (194, .iload 4, 2, 0, 0, .null, []),
  (196, .iconst 2, 1, 0, 0, .int (nI 2), []), (197, .iadd, 1, 0, 0, .null, []), (198, .iaload, 1, 0, 0, .null, []), (199, .aload_n 0, 1, 0, 0, .null, []),
  (200, .iload 4, 2, 0, 0, .null, []), (202, .iconst 3, 1, 0, 0, .int (nI 3), []), (203, .iadd, 1, 0, 0, .null, []), (204, .iaload, 1, 0, 0, .null, []),
  (205, .aload_n 0, 1, 0, 0, .null, []), (206, .iload 4, 2, 0, 0, .null, []), (208, .iconst 4, 1, 0, 0, .int (nI 4), []), (209, .iadd, 1, 0, 0, .null, []),
  (210, .iaload, 1, 0, 0, .null, []), (211, .invokevirtual 74, 3, 38, 0, .null, [0, 874]), (214, .aload_n 2, 1, 0, 0, .null, []), (215, .invokevirtual 68, 3, 17, 0, .null, [0, 862]),
  (218, .iload 5, 2, 0, 0, .null, []), (220, .if_icmp .eq (5), 3, 225, 0, .null, []), (223, .iconst 0, 1, 0, 0, .int (nI 0), []), (224, .ireturn, 1, 0, 0, .null, []),
  (225, .goto (650), 3, 875, 0, .null, []), (228, .aload_n 1, 1, 0, 0, .null, []), (229, .aload_n 0, 1, 0, 0, .null, []), (230, .iload 4, 2, 0, 0, .null, []),
  (232, .iconst 1, 1, 0, 0, .int (nI 1), []), (233, .iadd, 1, 0, 0, .null, []), (234, .iaload, 1, 0, 0, .null, []), (235, .aload_n 0, 1, 0, 0, .null, []),
  (236, .iload 4, 2, 0, 0, .null, []), (238, .iconst 2, 1, 0, 0, .int (nI 2), []), (239, .iadd, 1, 0, 0, .null, []), (240, .iaload, 1, 0, 0, .null, []),
  (241, .aload_n 0, 1, 0, 0, .null, []), (242, .iload 4, 2, 0, 0, .null, []), (244, .iconst 3, 1, 0, 0, .int (nI 3), []), (245, .iadd, 1, 0, 0, .null, []),
  (246, .iaload, 1, 0, 0, .null, []), (247, .invokestatic 75, 3, 135, 0, .null, [0, 419]), (250, .istore 5, 2, 0, 0, .null, []), (252, .aload_n 2, 1, 0, 0, .null, []),
  (253, .aload_n 0, 1, 0, 0, .null, []), (254, .iload 4, 2, 0, 0, .null, []), (256, .iconst 1, 1, 0, 0, .int (nI 1), []), (257, .iadd, 1, 0, 0, .null, []),
  (258, .iaload, 1, 0, 0, .null, []), (259, .aload_n 0, 1, 0, 0, .null, []), (260, .iload 4, 2, 0, 0, .null, []), (262, .iconst 2, 1, 0, 0, .int (nI 2), []),
  (263, .iadd, 1, 0, 0, .null, []), (264, .iaload, 1, 0, 0, .null, []), (265, .aload_n 0, 1, 0, 0, .null, []), (266, .iload 4, 2, 0, 0, .null, []),
  (268, .iconst 3, 1, 0, 0, .int (nI 3), []), (269, .iadd, 1, 0, 0, .null, []), (270, .iaload, 1, 0, 0, .null, []), (271, .invokevirtual 78, 3, 39, 0, .null, [0, 892]),
  (274, .aload_n 2, 1, 0, 0, .null, []), (275, .invokevirtual 68, 3, 17, 0, .null, [0, 862]), (278, .iload 5, 2, 0, 0, .null, []), (280, .if_icmp .eq (5), 3, 285, 0, .null, []),
  (283, .iconst 0, 1, 0, 0, .int (nI 0), []), (284, .ireturn, 1, 0, 0, .null, []), (285, .goto (590), 3, 875, 0, .null, []), (288, .aload_n 1, 1, 0, 0, .null, []),
  (289, .aload_n 0, 1, 0, 0, .null, []), (290, .iload 4, 2, 0, 0, .null, []), (292, .iconst 1, 1, 0, 0, .int (nI 1), []), (293, .iadd, 1, 0, 0, .null, []),
  (294, .iaload, 1, 0, 0, .null, []), (295, .aload_n 3, 1, 0, 0, .null, []), (296, .invokestatic 79, 3, 136, 0, .null, [0, 426]), (299, .istore 5, 2, 0, 0, .null, []),
  (301, .aload_n 2, 1, 0, 0, .null, []), (302, .aload_n 0, 1, 0, 0, .null, []), (303, .iload 4, 2, 0, 0, .null, []), (305, .iconst 1, 1, 0, 0, .int (nI 1), []),
  (306, .iadd, 1, 0, 0, .null, []), (307, .iaload, 1, 0, 0, .null, []), (308, .invokevirtual 82, 3, 49, 0, .null, [0, 896]), (311, .istore 6, 2, 0, 0, .null, []),
  (313, .aload_n 2, 1, 0, 0, .null, []), (314, .invokevirtual 68, 3, 17, 0, .null, [0, 862]), (317, .iload 5, 2, 0, 0, .null, []), (319, .if_icmp .eq (5), 3, 324, 0, .null, []),
  (322, .iconst 0, 1, 0, 0, .int (nI 0), []), (323, .ireturn, 1, 0, 0, .null, []), (324, .iload 5, 2, 0, 0, .null, []), (326, .ifCond .ne (22), 3, 348, 0, .null, []),
  (329, .aload_n 3, 1, 0, 0, .null, []), (330, .iconst 0, 1, 0, 0, .int (nI 0), []), (331, .laload, 1, 0, 0, .null, []), (332, .iload 6, 2, 0, 0, .null, []),
  (334, .ifCond .eq (7), 3, 341, 0, .null, []), (337, .lconst 1, 1, 0, 0, .long (lN 1), []), (338, .goto (4), 3, 342, 0, .null, []), (341, .lconst 0, 1, 0, 0, .long (lN 0), []),
  (342, .lcmp, 1, 0, 0, .null, []), (343, .ifCond .eq (5), 3, 348, 0, .null, []), (346, .iconst 0, 1, 0, 0, .int (nI 0), []), (347, .ireturn, 1, 0, 0, .null, []),
  (348, .goto (527), 3, 875, 0, .null, []), (351, .aload_n 1, 1, 0, 0, .null, []), (352, .aload_n 3, 1, 0, 0, .null, []), (353, .invokestatic 83, 3, 137, 0, .null, [0, 593]),
  (356, .istore 5, 2, 0, 0, .null, []), (358, .aload_n 2, 1, 0, 0, .null, []), (359, .invokevirtual 86, 3, 60, 0, .null, [0, 1022]), (362, .istore 6, 2, 0, 0, .null, []),
  (364, .aload_n 2, 1, 0, 0, .null, []), (365, .invokevirtual 68, 3, 17, 0, .null, [0, 862]), (368, .iload 5, 2, 0, 0, .null, []), (370, .if_icmp .eq (5), 3, 375, 0, .null, []),
  (373, .iconst 0, 1, 0, 0, .int (nI 0), []), (374, .ireturn, 1, 0, 0, .null, []), (375, .iload 5, 2, 0, 0, .null, []), (377, .ifCond .ne (15), 3, 392, 0, .null, []),
  (380, .aload_n 3, 1, 0, 0, .null, []), (381, .iconst 0, 1, 0, 0, .int (nI 0), []), (382, .laload, 1, 0, 0, .null, []), (383, .iload 6, 2, 0, 0, .null, []),
  (385, .i2l, 1, 0, 0, .null, []), (386, .lcmp, 1, 0, 0, .null, []), (387, .ifCond .eq (5), 3, 392, 0, .null, []), (390, .iconst 0, 1, 0, 0, .int (nI 0), []),
  (391, .ireturn, 1, 0, 0, .null, []), (392, .goto (483), 3, 875, 0, .null, []), (395, .aload_n 1, 1, 0, 0, .null, []), (396, .aload_n 0, 1, 0, 0, .null, []),
  (397, .iload 4, 2, 0, 0, .null, []), (399, .iconst 1, 1, 0, 0, .int (nI 1), []), (400, .iadd, 1, 0, 0, .null, []), (401, .iaload, 1, 0, 0, .null, []),
  (402, .aload_n 3, 1, 0, 0, .null, []), (403, .invokestatic 87, 3, 138, 0, .null, [0, 660]), (406, .istore 5, 2, 0, 0, .null, []), (408, .aload_n 2, 1, 0, 0, .null, []),
  (409, .aload_n 0, 1, 0, 0, .null, []), (410, .iload 4, 2, 0, 0, .null, []), (412, .iconst 1, 1, 0, 0, .int (nI 1), []), (413, .iadd, 1, 0, 0, .null, []),
  (414, .iaload, 1, 0, 0, .null, []), (415, .invokevirtual 89, 3, 53, 0, .null, [0, 987]), (418, .istore 6, 2, 0, 0, .null, []), (420, .aload_n 2, 1, 0, 0, .null, []),
  (421, .invokevirtual 68, 3, 17, 0, .null, [0, 862]), (424, .iload 5, 2, 0, 0, .null, []), (426, .if_icmp .eq (5), 3, 431, 0, .null, []), (429, .iconst 0, 1, 0, 0, .int (nI 0), []),
  (430, .ireturn, 1, 0, 0, .null, []), (431, .iload 5, 2, 0, 0, .null, []), (433, .ifCond .ne (22), 3, 455, 0, .null, []), (436, .aload_n 3, 1, 0, 0, .null, []),
  (437, .iconst 0, 1, 0, 0, .int (nI 0), []), (438, .laload, 1, 0, 0, .null, []), (439, .iload 6, 2, 0, 0, .null, []), (441, .ifCond .eq (7), 3, 448, 0, .null, []),
  (444, .lconst 1, 1, 0, 0, .long (lN 1), []), (445, .goto (4), 3, 449, 0, .null, []), (448, .lconst 0, 1, 0, 0, .long (lN 0), []), (449, .lcmp, 1, 0, 0, .null, []),
  (450, .ifCond .eq (5), 3, 455, 0, .null, []), (453, .iconst 0, 1, 0, 0, .int (nI 0), []), (454, .ireturn, 1, 0, 0, .null, []), (455, .goto (420), 3, 875, 0, .null, []),
  (458, .aload_n 1, 1, 0, 0, .null, []), (459, .aload_n 0, 1, 0, 0, .null, []), (460, .iload 4, 2, 0, 0, .null, []), (462, .iconst 1, 1, 0, 0, .int (nI 1), []),
  (463, .iadd, 1, 0, 0, .null, []), (464, .iaload, 1, 0, 0, .null, []), (465, .invokestatic 90, 3, 139, 0, .null, [0, 701]), (468, .istore 5, 2, 0, 0, .null, []),
  (470, .aload_n 2, 1, 0, 0, .null, []), (471, .aload_n 0, 1, 0, 0, .null, []), (472, .iload 4, 2, 0, 0, .null, []), (474, .iconst 1, 1, 0, 0, .int (nI 1), []),
  (475, .iadd, 1, 0, 0, .null, []), (476, .iaload, 1, 0, 0, .null, []), (477, .invokevirtual 93, 3, 54, 0, .null, [0, 1010]), (480, .aload_n 2, 1, 0, 0, .null, []),
  (481, .invokevirtual 68, 3, 17, 0, .null, [0, 862]), (484, .iload 5, 2, 0, 0, .null, []), (486, .if_icmp .eq (5), 3, 491, 0, .null, []), (489, .iconst 0, 1, 0, 0, .int (nI 0), []),
  (490, .ireturn, 1, 0, 0, .null, []), (491, .goto (384), 3, 875, 0, .null, []), (494, .aload_n 1, 1, 0, 0, .null, []), (495, .aload_n 0, 1, 0, 0, .null, []),
  (496, .iload 4, 2, 0, 0, .null, []), (498, .iconst 1, 1, 0, 0, .int (nI 1), []), (499, .iadd, 1, 0, 0, .null, []), (500, .iaload, 1, 0, 0, .null, []),
  (501, .aload_n 0, 1, 0, 0, .null, []), (502, .iload 4, 2, 0, 0, .null, []), (504, .iconst 2, 1, 0, 0, .int (nI 2), []), (505, .iadd, 1, 0, 0, .null, []),
  (506, .iaload, 1, 0, 0, .null, []), (507, .aload_n 0, 1, 0, 0, .null, []), (508, .iload 4, 2, 0, 0, .null, []), (510, .iconst 3, 1, 0, 0, .int (nI 3), []),
  (511, .iadd, 1, 0, 0, .null, []), (512, .iaload, 1, 0, 0, .null, []), (513, .invokestatic 94, 3, 140, 0, .null, [0, 708]), (516, .istore 5, 2, 0, 0, .null, []),
  (518, .aload_n 2, 1, 0, 0, .null, []), (519, .aload_n 0, 1, 0, 0, .null, []), (520, .iload 4, 2, 0, 0, .null, []), (522, .iconst 1, 1, 0, 0, .int (nI 1), []),
  (523, .iadd, 1, 0, 0, .null, []), (524, .iaload, 1, 0, 0, .null, []), (525, .aload_n 0, 1, 0, 0, .null, []), (526, .iload 4, 2, 0, 0, .null, []),
  (528, .iconst 2, 1, 0, 0, .int (nI 2), []), (529, .iadd, 1, 0, 0, .null, []), (530, .iaload, 1, 0, 0, .null, []), (531, .aload_n 0, 1, 0, 0, .null, []),
  (532, .iload 4, 2, 0, 0, .null, []), (534, .iconst 3, 1, 0, 0, .int (nI 3), []), (535, .iadd, 1, 0, 0, .null, []), (536, .iaload, 1, 0, 0, .null, []),
  (537, .invokevirtual 96, 3, 55, 0, .null, [0, 1014]), (540, .aload_n 2, 1, 0, 0, .null, []), (541, .invokevirtual 68, 3, 17, 0, .null, [0, 862]), (544, .iload 5, 2, 0, 0, .null, []),
  (546, .if_icmp .eq (5), 3, 551, 0, .null, []), (549, .iconst 0, 1, 0, 0, .int (nI 0), []), (550, .ireturn, 1, 0, 0, .null, []), (551, .goto (324), 3, 875, 0, .null, []),
  (554, .aload_n 1, 1, 0, 0, .null, []), (555, .aload_n 0, 1, 0, 0, .null, []), (556, .iload 4, 2, 0, 0, .null, []), (558, .iconst 1, 1, 0, 0, .int (nI 1), []),
  (559, .iadd, 1, 0, 0, .null, []), (560, .iaload, 1, 0, 0, .null, []), (561, .aload_n 0, 1, 0, 0, .null, []), (562, .iload 4, 2, 0, 0, .null, []),
  (564, .iconst 2, 1, 0, 0, .int (nI 2), []), (565, .iadd, 1, 0, 0, .null, []), (566, .iaload, 1, 0, 0, .null, []), (567, .aload_n 3, 1, 0, 0, .null, []),
  (568, .invokestatic 97, 3, 141, 0, .null, [0, 716]), (571, .istore 5, 2, 0, 0, .null, []), (573, .aload_n 2, 1, 0, 0, .null, []), (574, .aload_n 0, 1, 0, 0, .null, []),
  (575, .iload 4, 2, 0, 0, .null, []), (577, .iconst 1, 1, 0, 0, .int (nI 1), []), (578, .iadd, 1, 0, 0, .null, []), (579, .iaload, 1, 0, 0, .null, []),
  (580, .aload_n 0, 1, 0, 0, .null, []), (581, .iload 4, 2, 0, 0, .null, []), (583, .iconst 2, 1, 0, 0, .int (nI 2), []), (584, .iadd, 1, 0, 0, .null, []),
  (585, .iaload, 1, 0, 0, .null, []), (586, .invokevirtual 100, 3, 56, 0, .null, [0, 1018]), (589, .istore 6, 2, 0, 0, .null, []), (591, .aload_n 2, 1, 0, 0, .null, []),
  (592, .invokevirtual 68, 3, 17, 0, .null, [0, 862]), (595, .iload 5, 2, 0, 0, .null, []), (597, .if_icmp .eq (5), 3, 602, 0, .null, []), (600, .iconst 0, 1, 0, 0, .int (nI 0), []),
  (601, .ireturn, 1, 0, 0, .null, []), (602, .iload 5, 2, 0, 0, .null, []), (604, .ifCond .ne (15), 3, 619, 0, .null, []), (607, .aload_n 3, 1, 0, 0, .null, []),
  (608, .iconst 0, 1, 0, 0, .int (nI 0), []), (609, .laload, 1, 0, 0, .null, []), (610, .iload 6, 2, 0, 0, .null, []), (612, .i2l, 1, 0, 0, .null, []),
  (613, .lcmp, 1, 0, 0, .null, []), (614, .ifCond .eq (5), 3, 619, 0, .null, []), (617, .iconst 0, 1, 0, 0, .int (nI 0), []), (618, .ireturn, 1, 0, 0, .null, []),
  (619, .goto (256), 3, 875, 0, .null, []), (622, .aload_n 1, 1, 0, 0, .null, []), (623, .aload_n 0, 1, 0, 0, .null, []), (624, .iload 4, 2, 0, 0, .null, []),
  (626, .iconst 1, 1, 0, 0, .int (nI 1), []), (627, .iadd, 1, 0, 0, .null, []), (628, .iaload, 1, 0, 0, .null, []), (629, .aload_n 3, 1, 0, 0, .null, []),
  (630, .invokestatic 101, 3, 142, 0, .null, [0, 727]), (633, .istore 5, 2, 0, 0, .null, []), (635, .aload_n 2, 1, 0, 0, .null, []), (636, .aload_n 0, 1, 0, 0, .null, []),
  (637, .iload 4, 2, 0, 0, .null, []), (639, .iconst 1, 1, 0, 0, .int (nI 1), []), (640, .iadd, 1, 0, 0, .null, []), (641, .iaload, 1, 0, 0, .null, []),
  (642, .invokevirtual 103, 3, 61, 0, .null, [0, 1039]), (645, .istore 6, 2, 0, 0, .null, []), (647, .aload_n 2, 1, 0, 0, .null, []), (648, .invokevirtual 68, 3, 17, 0, .null, [0, 862]),
  (651, .iload 5, 2, 0, 0, .null, []), (653, .if_icmp .eq (5), 3, 658, 0, .null, []), (656, .iconst 0, 1, 0, 0, .int (nI 0), []), (657, .ireturn, 1, 0, 0, .null, []),
  (658, .iload 5, 2, 0, 0, .null, []), (660, .ifCond .ne (15), 3, 675, 0, .null, []), (663, .aload_n 3, 1, 0, 0, .null, []), (664, .iconst 0, 1, 0, 0, .int (nI 0), []),
  (665, .laload, 1, 0, 0, .null, []), (666, .iload 6, 2, 0, 0, .null, []), (668, .i2l, 1, 0, 0, .null, []), (669, .lcmp, 1, 0, 0, .null, []),
  (670, .ifCond .eq (5), 3, 675, 0, .null, []), (673, .iconst 0, 1, 0, 0, .int (nI 0), []), (674, .ireturn, 1, 0, 0, .null, []), (675, .goto (200), 3, 875, 0, .null, []),
  (678, .aload_n 1, 1, 0, 0, .null, []), (679, .aload_n 0, 1, 0, 0, .null, []), (680, .iload 4, 2, 0, 0, .null, []), (682, .iconst 1, 1, 0, 0, .int (nI 1), []),
  (683, .iadd, 1, 0, 0, .null, []), (684, .iaload, 1, 0, 0, .null, []), (685, .aload_n 0, 1, 0, 0, .null, []), (686, .iload 4, 2, 0, 0, .null, []),
  (688, .iconst 2, 1, 0, 0, .int (nI 2), []), (689, .iadd, 1, 0, 0, .null, []), (690, .iaload, 1, 0, 0, .null, []), (691, .aload_n 3, 1, 0, 0, .null, []),
  (692, .invokestatic 104, 3, 143, 0, .null, [0, 734]), (695, .istore 5, 2, 0, 0, .null, []), (697, .aload_n 2, 1, 0, 0, .null, []), (698, .aload_n 0, 1, 0, 0, .null, []),
  (699, .iload 4, 2, 0, 0, .null, []), (701, .iconst 1, 1, 0, 0, .int (nI 1), []), (702, .iadd, 1, 0, 0, .null, []), (703, .iaload, 1, 0, 0, .null, []),
  (704, .aload_n 0, 1, 0, 0, .null, []), (705, .iload 4, 2, 0, 0, .null, []), (707, .iconst 2, 1, 0, 0, .int (nI 2), []), (708, .iadd, 1, 0, 0, .null, []),
  (709, .iaload, 1, 0, 0, .null, []), (710, .invokevirtual 106, 3, 62, 0, .null, [0, 1047]), (713, .istore 6, 2, 0, 0, .null, []), (715, .aload_n 2, 1, 0, 0, .null, []),
  (716, .invokevirtual 68, 3, 17, 0, .null, [0, 862]), (719, .iload 5, 2, 0, 0, .null, []), (721, .if_icmp .eq (5), 3, 726, 0, .null, []), (724, .iconst 0, 1, 0, 0, .int (nI 0), []),
  (725, .ireturn, 1, 0, 0, .null, []), (726, .iload 5, 2, 0, 0, .null, []), (728, .ifCond .ne (15), 3, 743, 0, .null, []), (731, .aload_n 3, 1, 0, 0, .null, []),
  (732, .iconst 0, 1, 0, 0, .int (nI 0), []), (733, .laload, 1, 0, 0, .null, []), (734, .iload 6, 2, 0, 0, .null, []), (736, .i2l, 1, 0, 0, .null, []),
  (737, .lcmp, 1, 0, 0, .null, []), (738, .ifCond .eq (5), 3, 743, 0, .null, []), (741, .iconst 0, 1, 0, 0, .int (nI 0), []), (742, .ireturn, 1, 0, 0, .null, []),
  (743, .goto (132), 3, 875, 0, .null, []), (746, .aload_n 1, 1, 0, 0, .null, []), (747, .aload_n 0, 1, 0, 0, .null, []), (748, .iload 4, 2, 0, 0, .null, []),
  (750, .iconst 1, 1, 0, 0, .int (nI 1), []), (751, .iadd, 1, 0, 0, .null, []), (752, .iaload, 1, 0, 0, .null, []), (753, .invokevirtual 107, 3, 12, 0, .null, [0, 291]),
  (756, .aload_n 2, 1, 0, 0, .null, []), (757, .aload_n 0, 1, 0, 0, .null, []), (758, .iload 4, 2, 0, 0, .null, []), (760, .iconst 1, 1, 0, 0, .int (nI 1), []),
  (761, .iadd, 1, 0, 0, .null, []), (762, .iaload, 1, 0, 0, .null, []), (763, .invokevirtual 110, 3, 63, 0, .null, [0, 1051]), (766, .if_icmp .eq (109), 3, 875, 0, .null, []),
  (769, .iconst 0, 1, 0, 0, .int (nI 0), []), (770, .ireturn, 1, 0, 0, .null, []), (771, .aload_n 1, 1, 0, 0, .null, []), (772, .aload_n 0, 1, 0, 0, .null, []),
  (773, .iload 4, 2, 0, 0, .null, []), (775, .iconst 1, 1, 0, 0, .int (nI 1), []), (776, .iadd, 1, 0, 0, .null, []), (777, .iaload, 1, 0, 0, .null, []),
  (778, .aload_n 0, 1, 0, 0, .null, []), (779, .iload 4, 2, 0, 0, .null, []), (781, .iconst 2, 1, 0, 0, .int (nI 2), []), (782, .iadd, 1, 0, 0, .null, []),
  (783, .iaload, 1, 0, 0, .null, []), (784, .aload_n 0, 1, 0, 0, .null, []), (785, .iload 4, 2, 0, 0, .null, []), (787, .iconst 3, 1, 0, 0, .int (nI 3), []),
  (788, .iadd, 1, 0, 0, .null, []), (789, .iaload, 1, 0, 0, .null, []), (790, .aload_n 0, 1, 0, 0, .null, []), (791, .iload 4, 2, 0, 0, .null, []),
  (793, .iconst 4, 1, 0, 0, .int (nI 4), []), (794, .iadd, 1, 0, 0, .null, []), (795, .iaload, 1, 0, 0, .null, []), (796, .aload_n 0, 1, 0, 0, .null, []),
  (797, .iload 4, 2, 0, 0, .null, []), (799, .iconst 5, 1, 0, 0, .int (nI 5), []), (800, .iadd, 1, 0, 0, .null, []), (801, .iaload, 1, 0, 0, .null, []),
  (802, .aload_n 3, 1, 0, 0, .null, []), (803, .invokestatic 111, 3, 144, 0, .null, [0, 745]), (806, .istore 5, 2, 0, 0, .null, []), (808, .aload_n 2, 1, 0, 0, .null, []),
  (809, .aload_n 0, 1, 0, 0, .null, []), (810, .iload 4, 2, 0, 0, .null, []), (812, .iconst 1, 1, 0, 0, .int (nI 1), []), (813, .iadd, 1, 0, 0, .null, []),
  (814, .iaload, 1, 0, 0, .null, []), (815, .aload_n 0, 1, 0, 0, .null, []), (816, .iload 4, 2, 0, 0, .null, []), (818, .iconst 2, 1, 0, 0, .int (nI 2), []),
  (819, .iadd, 1, 0, 0, .null, []), (820, .iaload, 1, 0, 0, .null, []), (821, .aload_n 0, 1, 0, 0, .null, []), (822, .iload 4, 2, 0, 0, .null, []),
  (824, .iconst 3, 1, 0, 0, .int (nI 3), []), (825, .iadd, 1, 0, 0, .null, []), (826, .iaload, 1, 0, 0, .null, []), (827, .aload_n 0, 1, 0, 0, .null, []),
  (828, .iload 4, 2, 0, 0, .null, []), (830, .iconst 4, 1, 0, 0, .int (nI 4), []), (831, .iadd, 1, 0, 0, .null, []), (832, .iaload, 1, 0, 0, .null, []),
  (833, .aload_n 0, 1, 0, 0, .null, []), (834, .iload 4, 2, 0, 0, .null, []), (836, .iconst 5, 1, 0, 0, .int (nI 5), []), (837, .iadd, 1, 0, 0, .null, []),
  (838, .iaload, 1, 0, 0, .null, []), (839, .invokevirtual 114, 3, 64, 0, .null, [0, 1055]), (842, .istore 6, 2, 0, 0, .null, []), (844, .aload_n 2, 1, 0, 0, .null, []),
  (845, .invokevirtual 68, 3, 17, 0, .null, [0, 862]), (848, .iload 5, 2, 0, 0, .null, []), (850, .if_icmp .eq (5), 3, 855, 0, .null, []), (853, .iconst 0, 1, 0, 0, .int (nI 0), []),
  (854, .ireturn, 1, 0, 0, .null, []), (855, .iload 5, 2, 0, 0, .null, []), (857, .ifCond .ne (15), 3, 872, 0, .null, []), (860, .aload_n 3, 1, 0, 0, .null, []),
  (861, .iconst 0, 1, 0, 0, .int (nI 0), []), (862, .laload, 1, 0, 0, .null, []), (863, .iload 6, 2, 0, 0, .null, []), (865, .i2l, 1, 0, 0, .null, []),
  (866, .lcmp, 1, 0, 0, .null, []), (867, .ifCond .eq (5), 3, 872, 0, .null, []), (870, .iconst 0, 1, 0, 0, .int (nI 0), []), (871, .ireturn, 1, 0, 0, .null, []),
  (872, .goto (3), 3, 875, 0, .null, []), (875, .iinc 4 (6), 3, 0, 0, .null, []), (878, .goto (-855), 3, 23, 0, .null, []), (881, .iconst 1, 1, 0, 0, .int (nI 1), []),
  (882, .ireturn, 1, 0, 0, .null, [])]
-- java/lang/Integer.bitCount(I)I
def ms_c146 : List (Nat × ms_I) := [(0, .iload_n 0, 1, 0, 0, .null, []), (1, .iload_n 0, 1, 0, 0, .null, []), (2, .iconst 1, 1, 0, 0, .int (nI 1), []), (3, .iushr, 1, 0, 0, .null, []),
  (4, .ldc_w 265, 3, 607, 0, .int (nI 1431655765), []), (7, .iand, 1, 0, 0, .null, []), (8, .isub, 1, 0, 0, .null, []), (9, .istore_n 0, 1, 0, 0, .null, []),
  (10, .iload_n 0, 1, 0, 0, .null, []), (11, .ldc_w 266, 3, 608, 0, .int (nI 858993459), []), (14, .iand, 1, 0, 0, .null, []), (15, .iload_n 0, 1, 0, 0, .null, []),
  (16, .iconst 2, 1, 0, 0, .int (nI 2), []), (17, .iushr, 1, 0, 0, .null, []), (18, .ldc_w 266, 3, 608, 0, .int (nI 858993459), []), (21, .iand, 1, 0, 0, .null, []),
  (22, .iadd, 1, 0, 0, .null, []), (23, .istore_n 0, 1, 0, 0, .null, []), (24, .iload_n 0, 1, 0, 0, .null, []), (25, .iload_n 0, 1, 0, 0, .null, []),
  (26, .iconst 4, 1, 0, 0, .int (nI 4), []), (27, .iushr, 1, 0, 0, .null, []), (28, .iadd, 1, 0, 0, .null, []), (29, .ldc_w 267, 3, 609, 0, .int (nI 252645135), []),
  (32, .iand, 1, 0, 0, .null, []), (33, .istore_n 0, 1, 0, 0, .null, []), (34, .iload_n 0, 1, 0, 0, .null, []), (35, .iload_n 0, 1, 0, 0, .null, []),
  (36, .bipush 8, 2, 0, 0, .int (nI 8), []), (38, .iushr, 1, 0, 0, .null, []), (39, .iadd, 1, 0, 0, .null, []), (40, .istore_n 0, 1, 0, 0, .null, []),
  (41, .iload_n 0, 1, 0, 0, .null, []), (42, .iload_n 0, 1, 0, 0, .null, []), (43, .bipush 16, 2, 0, 0, .int (nI 16), []), (45, .iushr, 1, 0, 0, .null, []),
  (46, .iadd, 1, 0, 0, .null, []), (47, .istore_n 0, 1, 0, 0, .null, []), (48, .iload_n 0, 1, 0, 0, .null, []), (49, .bipush 63, 2, 0, 0, .int (nI 63), []),
  (51, .iand, 1, 0, 0, .null, []), (52, .ireturn, 1, 0, 0, .null, [])]
-- java/lang/Integer.rotateLeft(II)I
def ms_c147 : List (Nat × ms_I) := [(0, .iload_n 0, 1, 0, 0, .null, []), (1, .iload_n 1, 1, 0, 0, .null, []), (2, .ishl, 1, 0, 0, .null, []), (3, .iload_n 0, 1, 0, 0, .null, []),
  (4, .iload_n 1, 1, 0, 0, .null, []), (5, .ineg, 1, 0, 0, .null, []), (6, .iushr, 1, 0, 0, .null, []), (7, .ior, 1, 0, 0, .null, []),
  (8, .ireturn, 1, 0, 0, .null, [])]
-- java/util/Arrays.fill([II)V
def ms_c148 : List (Nat × ms_I) := [(0, .iconst 0, 1, 0, 0, .int (nI 0), []), (1, .istore_n 2, 1, 0, 0, .null, []), (2, .aload_n 0, 1, 0, 0, .null, []), (3, .arraylength, 1, 0, 0, .null, []),
  (4, .istore_n 3, 1, 0, 0, .null, []), (5, .iload_n 2, 1, 0, 0, .null, []), (6, .iload_n 3, 1, 0, 0, .null, []), (7, .if_icmp .ge (13), 3, 20, 0, .null, []),
  (10, .aload_n 0, 1, 0, 0, .null, []), (11, .iload_n 2, 1, 0, 0, .null, []), (12, .iload_n 1, 1, 0, 0, .null, []), (13, .iastore, 1, 0, 0, .null, []),
  (14, .iinc 2 (1), 3, 0, 0, .null, []), (17, .goto (-12), 3, 5, 0, .null, []), (20, .return_, 1, 0, 0, .null, [])]
-- java/util/Arrays.fill([JJ)V
def ms_c149 : List (Nat × ms_I) := [(0, .iconst 0, 1, 0, 0, .int (nI 0), []), (1, .istore_n 3, 1, 0, 0, .null, []), (2, .aload_n 0, 1, 0, 0, .null, []), (3, .arraylength, 1, 0, 0, .null, []),
  (4, .istore 4, 2, 0, 0, .null, []), (6, .iload_n 3, 1, 0, 0, .null, []), (7, .iload 4, 2, 0, 0, .null, []), (9, .if_icmp .ge (13), 3, 22, 0, .null, []),
  (12, .aload_n 0, 1, 0, 0, .null, []), (13, .iload_n 3, 1, 0, 0, .null, []), (14, .lload_n 1, 1, 0, 0, .null, []), (15, .lastore, 1, 0, 0, .null, []),
  (16, .iinc 3 (1), 3, 0, 0, .null, []), (19, .goto (-13), 3, 6, 0, .null, []), (22, .return_, 1, 0, 0, .null, [])]
def ms_cds : List (List (Nat × ms_I)) := [ms_c0, ms_c1, ms_c2, ms_c3, ms_c4, ms_c5, ms_c6, ms_c7, ms_c8, ms_c9, ms_c10, ms_c11, ms_c12, ms_c13, ms_c14, ms_c15, ms_c16, ms_c17, ms_c18, ms_c19, ms_c20, ms_c21, ms_c22, ms_c23, ms_c24, ms_c25, ms_c26, ms_c27, ms_c28, ms_c29, ms_c30, ms_c31, ms_c32, ms_c33, ms_c34, ms_c35, ms_c36, ms_c37, ms_c38, ms_c39, ms_c40, ms_c41, ms_c42, ms_c43, ms_c44, ms_c45, ms_c46, ms_c47, ms_c48, ms_c49, ms_c50, ms_c51, ms_c52, ms_c53, ms_c54, ms_c55, ms_c56, ms_c57, ms_c58, ms_c59, ms_c60, ms_c61, ms_c62, ms_c63, ms_c64, ms_c65, ms_c66, ms_c67, ms_c68, ms_c69, ms_c70, ms_c71, ms_c72, ms_c73, ms_c74, ms_c75, ms_c76, ms_c77, ms_c78, ms_c79, ms_c80, ms_c81, ms_c82, ms_c83, ms_c84, ms_c85, ms_c86, ms_c87, ms_c88, ms_c89, ms_c90, ms_c91, ms_c92, ms_c93, ms_c94, ms_c95, ms_c96, ms_c97, ms_c98, ms_c99, ms_c100, ms_c101, ms_c102, ms_c103, ms_c104, ms_c105, ms_c106, ms_c107, ms_c108, ms_c109, ms_c110, ms_c111, ms_c112, ms_c113, ms_c114, ms_c115, ms_c116, ms_c117, ms_c118, ms_c119, ms_c120, ms_c121, ms_c122, ms_c123, ms_c124, ms_c125, ms_c126, ms_c127, ms_c128, ms_c129, ms_c130, ms_c131, ms_c132, ms_c133, ms_c134, ms_c135, ms_c136, ms_c137, ms_c138, ms_c139, ms_c140, ms_c141, ms_c142, ms_c143, ms_c144, ms_c145, ms_c146, ms_c147, ms_c148, ms_c149]
def ms_cd (j : Nat) : List (Nat × ms_I) := ms_cds.getD j []
def ms_at (j pc : Nat) : Option ms_I := (ms_cd j).lookup pc
def ms_ws : List Cond := lw_tbl.filter goodWord
def ms_has (i : Nat) (w : Cond) : Bool := decide (lw_tbl[i]? = some w) && goodWord w
theorem ms_has_in {i : Nat} {w : Cond} (h : ms_has i w = true) : w ∈ ms_ws := by
  simp only [ms_has, Bool.and_eq_true, decide_eq_true_eq] at h
  exact List.mem_filter.mpr ⟨List.mem_of_getElem? h.1, h.2⟩
theorem ms_w_ai : Cond.arrayClass .int ∈ ms_ws := ms_has_in (i := 100) (by decide +kernel)
theorem ms_w_al : Cond.arrayClass .long ∈ ms_ws := ms_has_in (i := 124) (by decide +kernel)
theorem ms_w_cn : Cond.native arraycopyName ∈ ms_ws := ms_has_in (i := 485) (by decide +kernel)
theorem ms_w_cs : Cond.static arraycopyName ∈ ms_ws := ms_has_in (i := 484) (by decide +kernel)
theorem ms_w_ci : Cond.initialized "java/lang/System" ∈ ms_ws := ms_has_in (i := 70) (by decide +kernel)
theorem ms_w_oi : Cond.instanceMethod Lib.objectInit ∈ ms_ws := ms_has_in (i := 79) (by decide +kernel)
theorem ms_w_oc : Cond.code Lib.objectInit ⟨#[0xb1]⟩ 1 none ∈ ms_ws := ms_has_in (i := 80) (by decide +kernel)
end
section
/-! THE PURE MACHINE. A method is run on a memory of numbered cells: 'ms_ev' with fuel, 'ms_G' without. The tables that it reads (ms_at and its like) are made by a program, out of JAVAP.txt (part 05). -/
-- a cell: an array (its kind, its length and contents), or an object (the number of its kind, its fields)
abbrev ms_E : Type := (Nat × vp_A) ⊕ (Nat × List Value)
-- a memory: how many cells, how many slots have been laid; has the method that runs written anything; the cells
abbrev ms_M : Type := Nat × Nat × Bool × (Nat → ms_E)
-- a place in a run: pc, locals, operand stack, memory
abbrev ms_N : Type := Nat × List Value × List Value × ms_M
-- an end: it returned, or threw an exception of that kind; the memory
abbrev ms_R : Type := (Option Value ⊕ Nat) × ms_M
def ms_up (M : Nat → ms_E) (k : Nat) (e : ms_E) : Nat → ms_E := fun j => if j = k then e else M j
def ms_wr (σ : ms_M) (k : Nat) (e : ms_E) : ms_M := (σ.1, σ.2.1, true, ms_up σ.2.2.2 k e)
def ms_nw (σ : ms_M) (z : Nat) (e : ms_E) : ms_M := (σ.1 + 1, σ.2.1 + z, true, ms_up σ.2.2.2 σ.1 e)
-- locals: 'null' says that nothing is known
def ms_kill (L : List Value) : Nat → List Value
  | 0 => L
  | i + 1 => match L.getD i .null with
    | .long _ => L.set i .null
    | .double _ => L.set i .null
    | _ => L
def ms_s1 (L : List Value) (i : Nat) (v : Value) : List Value := (ms_kill L i).set i v
def ms_s2 (L : List Value) (i : Nat) (v : Value) : List Value := ((ms_kill L i).set (i + 1) .null).set i v
def ms_in (i : Int32) (n : Nat) : Bool := decide (0 ≤ i.toInt ∧ i.toInt < (n : Int))
def ms_br (c : Jvm.ClassFile.Cond) (x y : Int32) (a b : Nat) : Nat := match c with
  | .eq => if x = y then a else b
  | .ne => if x = y then b else a
  | .lt => if x < y then a else b
  | .ge => if y ≤ x then a else b
  | .gt => if y < x then a else b
  | .le => if x ≤ y then a else b
def ms_lk : List (Int × Int) → List Nat → Nat → Int → Nat
  | (k, _) :: r, t :: ts, d, a => if a = k then t else ms_lk r ts d a
  | _, _, d, _ => d
def ms_fit : FieldType → Value → Bool
  | .int, .int _ => true
  | .long, .long _ => true
  | .boolean, .int z => decide (z = 0 ∨ z = 1)
  | .object _, .ref _ => true
  | .array _, .ref _ => true
  | _, _ => false
def ms_ldi (L S : List Value) (σ : ms_M) (k pc : Nat) : Option ms_N := match L.getD k .null with
  | .int v => some (pc, L, .int v :: S, σ)
  | _ => none
def ms_ldl (L S : List Value) (σ : ms_M) (k pc : Nat) : Option ms_N := match L.getD k .null with
  | .long v => some (pc, L, .long v :: S, σ)
  | _ => none
def ms_lda (L S : List Value) (σ : ms_M) (k pc : Nat) : Option ms_N := match L.getD k .null with
  | .ref v => some (pc, L, .ref v :: S, σ)
  | _ => none
def ms_sti (L S : List Value) (σ : ms_M) (k pc : Nat) : Option ms_N := match S with
  | .int v :: r => if k < L.length then some (pc, ms_s1 L k (.int v), r, σ) else none
  | _ => none
def ms_stl (L S : List Value) (σ : ms_M) (k pc : Nat) : Option ms_N := match S with
  | .long v :: r => if k + 1 < L.length then some (pc, ms_s2 L k (.long v), r, σ) else none
  | _ => none
def ms_sta (L S : List Value) (σ : ms_M) (k pc : Nat) : Option ms_N := match S with
  | .ref v :: r => if k < L.length then some (pc, ms_s1 L k (.ref v), r, σ) else none
  | _ => none
def ms_ii (f : Int32 → Int32 → Int32) (pc : Nat) (L S : List Value) (σ : ms_M) : Option ms_N := match S with
  | .int y :: .int x :: r => some (pc, L, .int (f x y) :: r, σ)
  | _ => none
def ms_id (f : Int32 → Int32 → Int32) (pc : Nat) (L S : List Value) (σ : ms_M) : Option ms_N := match S with
  | .int y :: .int x :: r => if y = 0 then none else some (pc, L, .int (f x y) :: r, σ)
  | _ => none
def ms_ll (f : Int64 → Int64 → Int64) (pc : Nat) (L S : List Value) (σ : ms_M) : Option ms_N := match S with
  | .long y :: .long x :: r => some (pc, L, .long (f x y) :: r, σ)
  | _ => none
def ms_li (f : Int64 → Int32 → Int64) (pc : Nat) (L S : List Value) (σ : ms_M) : Option ms_N := match S with
  | .int y :: .long x :: r => some (pc, L, .long (f x y) :: r, σ)
  | _ => none
-- what 'newarray' and 'anewarray' lay
def ms_arr (k n : Nat) : vp_A := match k with
  | 0 => (n, .inl (fun _ => 0))
  | 1 => (n, .inr (.inl (fun _ => 0)))
  | _ => (n, .inr (.inr (.inr (.inr (fun _ => none)))))
-- the rows of a new int[c1][c2], from cell q on
def ms_rows (M : Nat → ms_E) (q n : Nat) : Nat → Nat → ms_E
  | 0 => M
  | k + 1 => ms_up (ms_rows M q n k) (q + k) (.inl (0, ms_arr 0 n))
def ms_st1 (i : Jvm.ClassFile.Instr) (len : Nat) (x : ms_X) (pc : Nat) (L S : List Value) (σ : ms_M) : Option ms_N :=
  match i with
  | .iconst _ => some (pc + len, L, x.2.2.1 :: S, σ)
  | .bipush _ => some (pc + len, L, x.2.2.1 :: S, σ)
  | .sipush _ => some (pc + len, L, x.2.2.1 :: S, σ)
  | .lconst _ => some (pc + len, L, x.2.2.1 :: S, σ)
  | .ldc _ => some (pc + len, L, x.2.2.1 :: S, σ)
  | .ldc2_w _ => some (pc + len, L, x.2.2.1 :: S, σ)
  | .getstatic _ => some (pc + len, L, x.2.2.1 :: S, σ)
  | .iload k => ms_ldi L S σ k (pc + len)
  | .iload_n k => ms_ldi L S σ k.val (pc + len)
  | .lload k => ms_ldl L S σ k (pc + len)
  | .lload_n k => ms_ldl L S σ k.val (pc + len)
  | .aload k => ms_lda L S σ k (pc + len)
  | .aload_n k => ms_lda L S σ k.val (pc + len)
  | .istore k => ms_sti L S σ k (pc + len)
  | .istore_n k => ms_sti L S σ k.val (pc + len)
  | .lstore k => ms_stl L S σ k (pc + len)
  | .lstore_n k => ms_stl L S σ k.val (pc + len)
  | .astore k => ms_sta L S σ k (pc + len)
  | .astore_n k => ms_sta L S σ k.val (pc + len)
  | .iinc k n => match L.getD k .null with
    | .int v => if k < L.length then some (pc + len, ms_s1 L k (.int (v + Int32.ofInt n)), S, σ) else none
    | _ => none
  | .iadd => ms_ii (fun x y => x + y) (pc + len) L S σ
  | .isub => ms_ii (fun x y => x - y) (pc + len) L S σ
  | .imul => ms_ii (fun x y => x * y) (pc + len) L S σ
  | .iand => ms_ii (fun x y => x &&& y) (pc + len) L S σ
  | .ior => ms_ii (fun x y => x ||| y) (pc + len) L S σ
  | .ixor => ms_ii (fun x y => x ^^^ y) (pc + len) L S σ
  | .ishl => ms_ii (fun x y => x <<< (y &&& 31)) (pc + len) L S σ
  | .ishr => ms_ii (fun x y => x >>> (y &&& 31)) (pc + len) L S σ
  | .iushr => ms_ii (fun x y => (x.toUInt32 >>> (y.toUInt32 &&& Int32.toUInt32 31)).toInt32) (pc + len) L S σ
  | .idiv => ms_id (fun x y => x / y) (pc + len) L S σ
  | .irem => ms_id (fun x y => x - x / y * y) (pc + len) L S σ
  | .ineg => match S with
    | .int x :: r => some (pc + len, L, .int (-x) :: r, σ)
    | _ => none
  | .ladd => ms_ll (fun x y => x + y) (pc + len) L S σ
  | .lsub => ms_ll (fun x y => x - y) (pc + len) L S σ
  | .lmul => ms_ll (fun x y => x * y) (pc + len) L S σ
  | .land => ms_ll (fun x y => x &&& y) (pc + len) L S σ
  | .lor => ms_ll (fun x y => x ||| y) (pc + len) L S σ
  | .lshl => ms_li (fun x y => x <<< (y.toInt64 &&& 63)) (pc + len) L S σ
  | .lshr => ms_li (fun x y => x >>> (y.toInt64 &&& 63)) (pc + len) L S σ
  | .lushr => ms_li (fun x y => (x.toUInt64 >>> (y.toInt64.toUInt64 &&& Int64.toUInt64 63)).toInt64) (pc + len) L S σ
  | .lcmp => match S with
    | .long y :: .long x :: r => some (pc + len, L, .int (lg_cmp x y) :: r, σ)
    | _ => none
  | .i2l => match S with
    | .int x :: r => some (pc + len, L, .long x.toInt64 :: r, σ)
    | _ => none
  | .l2i => match S with
    | .long x :: r => some (pc + len, L, .int x.toInt32 :: r, σ)
    | _ => none
  | .dup => match S with
    | v :: r => if v.category = 1 then some (pc + len, L, v :: v :: r, σ) else none
    | _ => none
  | .dup2 => match S with
    | v :: w :: r => if v.category = 1 ∧ w.category = 1 then some (pc + len, L, v :: w :: v :: w :: r, σ) else none
    | _ => none
  | .pop => match S with
    | v :: r => if v.category = 1 then some (pc + len, L, r, σ) else none
    | _ => none
  | .pop2 => match S with
    | v :: r => if v.category = 2 then some (pc + len, L, r, σ) else none
    | _ => none
  | .ldc_w _ => some (pc + len, L, x.2.2.1 :: S, σ)
  | .goto _ => some (x.1, L, S, σ)
  | .ifCond c _ => match S with
    | .int a :: r => some (ms_br c a 0 x.1 (pc + len), L, r, σ)
    | _ => none
  | .if_icmp c _ => match S with
    | .int b :: .int a :: r => some (ms_br c a b x.1 (pc + len), L, r, σ)
    | _ => none
  | .tableswitch _ lo hi _ => match S with
    | .int a :: r => some (if a.toInt < lo ∨ hi < a.toInt then x.1 else x.2.2.2.getD (a.toInt - lo).toNat 0, L, r, σ)
    | _ => none
  | .lookupswitch _ ps => match S with
    | .int a :: r => some (ms_lk ps.toList x.2.2.2 x.1 a.toInt, L, r, σ)
    | _ => none
  | .getfield _ => match S with
    | .ref a :: r => match σ.2.2.2 a with
      | .inr (ci, fs) => if ci = x.1 then (fs[x.2.1]?).map (fun v => (pc + len, L, v :: r, σ)) else none
      | _ => none
    | _ => none
  | .putfield _ => match S with
    | v :: .ref a :: r => match σ.2.2.2 a with
      | .inr (ci, fs) => if ci = x.1 ∧ x.2.1 < fs.length ∧ ms_fit (ms_ft ci x.2.1) v = true then some (pc + len, L, r, ms_wr σ a (.inr (ci, fs.set x.2.1 v))) else none
      | _ => none
    | _ => none
  | .iaload => match S with
    | .int i :: .ref a :: r => match σ.2.2.2 a with
      | .inl (t, n, .inl f) => if (t = 0 ∨ t = 5) ∧ ms_in i n = true then some (pc + len, L, .int (f i.toNatClampNeg) :: r, σ) else none
      | _ => none
    | _ => none
  | .laload => match S with
    | .int i :: .ref a :: r => match σ.2.2.2 a with
      | .inl (t, n, .inr (.inl f)) => if t = 1 ∧ ms_in i n = true then some (pc + len, L, .long (f i.toNatClampNeg) :: r, σ) else none
      | _ => none
    | _ => none
  | .aaload => match S with
    | .int i :: .ref a :: r => match σ.2.2.2 a with
      | .inl (t, n, .inr (.inr (.inr (.inr f)))) => if 2 ≤ t ∧ ms_in i n = true then (f i.toNatClampNeg).map (fun b => (pc + len, L, .ref b :: r, σ)) else none
      | _ => none
    | _ => none
  | .iastore => match S with
    | .int v :: .int i :: .ref a :: r => match σ.2.2.2 a with
      | .inl (0, n, .inl f) => if ms_in i n = true then some (pc + len, L, r, ms_wr σ a (.inl (0, n, .inl (upd f i.toNatClampNeg v)))) else none
      | _ => none
    | _ => none
  | .lastore => match S with
    | .long v :: .int i :: .ref a :: r => match σ.2.2.2 a with
      | .inl (1, n, .inr (.inl f)) => if ms_in i n = true then some (pc + len, L, r, ms_wr σ a (.inl (1, n, .inr (.inl (vp_updL f i.toNatClampNeg v))))) else none
      | _ => none
    | _ => none
  | .aastore => match S with
    | .ref v :: .int i :: .ref a :: r => match σ.2.2.2 a, σ.2.2.2 v with
      | .inl (k, n, .inr (.inr (.inr (.inr f)))), .inr (ci, _) => if ms_in i n = true ∧ ms_el k = some ci then some (pc + len, L, r, ms_wr σ a (.inl (k, n, .inr (.inr (.inr (.inr (va_up f i.toNatClampNeg (some v)))))))) else none
      | _, _ => none
    | _ => none
  | .arraylength => match S with
    | .ref a :: r => match σ.2.2.2 a with
      | .inl (_, n, _) => some (pc + len, L, .int (nI n) :: r, σ)
      | _ => none
    | _ => none
  | .newarray _ => match S with
    | .int n :: r => if ms_in n 5000 = true then some (pc + len, L, .ref σ.1 :: r, ms_nw σ n.toNatClampNeg (.inl (x.1, ms_arr x.1 n.toNatClampNeg))) else none
    | _ => none
  | .anewarray _ => match S with
    | .int n :: r => if ms_in n 5000 = true then some (pc + len, L, .ref σ.1 :: r, ms_nw σ n.toNatClampNeg (.inl (x.1, ms_arr x.1 n.toNatClampNeg))) else none
    | _ => none
  | .multianewarray _ _ => match S with
    | .int n2 :: .int n1 :: r => if ms_in n1 100 = true ∧ ms_in n2 100 = true ∧ 0 < n1.toNatClampNeg then
        some (pc + len, L, .ref σ.1 :: r, (σ.1 + 1 + n1.toNatClampNeg, σ.2.1 + n1.toNatClampNeg + n1.toNatClampNeg * n2.toNatClampNeg, true,
          ms_up (ms_rows σ.2.2.2 (σ.1 + 1) n2.toNatClampNeg n1.toNatClampNeg) σ.1 (.inl (2, n1.toNatClampNeg, .inr (.inr (.inr (.inr (fun j => some (σ.1 + 1 + j)))))))))
      else none
    | _ => none
  | .new _ => some (pc + len, L, .ref σ.1 :: S, ms_nw σ (ms_df x.1).length (.inr (x.1, ms_df x.1)))
  | .invokespecial _ => match S with
    | .ref _ :: r => if (r.map fun v => v.category).sum ≤ 8 then some (pc + len, L, r, σ) else none
    | _ => none
  | .invokestatic _ => match S with
    | .int n :: .int dp :: .ref b :: .int sp :: .ref a :: r => match σ.2.2.2 a, σ.2.2.2 b with
      | .inl (0, n0, .inl f), .inl (0, n1, .inl g) => if 0 ≤ sp.toInt ∧ 0 ≤ dp.toInt ∧ 0 ≤ n.toInt ∧ sp.toNatClampNeg + n.toNatClampNeg ≤ n0 ∧ dp.toNatClampNeg + n.toNatClampNeg ≤ n1 ∧ (r.map fun v => v.category).sum ≤ 8 then
          some (pc + len, L, r, ms_wr σ b (.inl (0, n1, .inl (va_cpy f g sp.toNatClampNeg dp.toNatClampNeg n.toNatClampNeg)))) else none
      | .inl (1, n0, .inr (.inl f)), .inl (1, n1, .inr (.inl g)) => if 0 ≤ sp.toInt ∧ 0 ≤ dp.toInt ∧ 0 ≤ n.toInt ∧ sp.toNatClampNeg + n.toNatClampNeg ≤ n0 ∧ dp.toNatClampNeg + n.toNatClampNeg ≤ n1 ∧ (r.map fun v => v.category).sum ≤ 8 then
          some (pc + len, L, r, ms_wr σ b (.inl (1, n1, .inr (.inl (va_cpy f g sp.toNatClampNeg dp.toNatClampNeg n.toNatClampNeg))))) else none
      | _, _ => none
    | _ => none
  | _ => none
-- the locals of a method at its entry
def ms_ents : List Value → List Value
  | [] => []
  | .long v :: r => .long v :: .null :: ms_ents r
  | .double v :: r => .double v :: .null :: ms_ents r
  | v :: r => v :: ms_ents r
def ms_ent (c : Nat) (as : List Value) : List Value := ms_ents as ++ List.replicate (ms_mx c - (ms_ents as).length) .null
-- a call can be made: its values are there; little lies under them; the receiver is of the method's kind
def ms_can (c : Nat) (S : List Value) (σ : ms_M) : Bool :=
  decide (ms_na c ≤ S.length) && decide (((S.drop (ms_na c)).map fun v => v.category).sum ≤ 8) && decide ((ms_ents (S.take (ms_na c)).reverse).length ≤ ms_mx c) &&
  match ms_rc c with
  | none => !ms_ini c || match (S.take (ms_na c)).reverse.head? with
    | some (.ref _) => true
    | _ => false
  | some ci => match (S.take (ms_na c)).reverse.head? with
    | some (.ref a) => match σ.2.2.2 a with
      | .inr (cj, _) => decide (cj = ci)
      | _ => false
    | _ => false
-- what a method may return
def ms_rok : Option FieldType → Option Value → Bool
  | none, none => true
  | some (.object _), some (.ref _) => true
  | some (.array _), some (.ref _) => true
  | some .int, some (.int _) => true
  | some .long, some (.long _) => true
  | some .boolean, some (.int z) => decide (z = 0 ∨ z = 1)
  | _, _ => false
-- what an instruction is: 0 as any, 1 a call, 2 a return, 3 a new exception that is thrown
def ms_kd (q : ms_I) : Nat := match q.1 with
  | .ireturn => 2
  | .lreturn => 2
  | .areturn => 2
  | .return_ => 2
  | .invokevirtual _ => 1
  | .invokestatic _ => if q.2.2.2.1 = 0 then 1 else 0
  | .invokespecial _ => if q.2.2.2.1 = 0 then 1 else 0
  | .new _ => if q.2.2.2.1 = 0 then 0 else 3
  | _ => 0
def ms_call (rec : Nat → Nat → List Value → List Value → ms_M → Option ms_R) (j pc c : Nat) (L S : List Value) (σ : ms_M) : Option ms_R :=
  if ms_can c S σ = true then
    match rec c 0 (ms_ent c (S.take (ms_na c)).reverse) [] (σ.1, σ.2.1, false, σ.2.2.2) with
    | some (.inl v, τ) => rec j (pc + 3) L (v.toList ++ S.drop (ms_na c)) (τ.1, τ.2.1, σ.2.2.1 || τ.2.2.1, τ.2.2.2)
    | some (.inr k, τ) => match ms_hd j pc k with
      | some h => rec j h L [.ref (τ.1 - 1)] (τ.1, τ.2.1, true, τ.2.2.2)
      | none => none
    | none => none
  else none
def ms_ret (j : Nat) (S : List Value) (σ : ms_M) : Option ms_R := match S with
  | [] => if ms_rok (ms_rt j) none = true then some (.inl none, σ) else none
  | [v] => if ms_rok (ms_rt j) (some v) = true then some (.inl (some v), σ) else none
  | _ => none
def ms_thr (k : Nat) (S : List Value) (σ : ms_M) : Option ms_R := match S with
  | [] => if σ.2.2.1 = false then some (.inr k, ms_nw σ 6 (.inr (99, []))) else none
  | _ => none
def ms_stp (rec : Nat → Nat → List Value → List Value → ms_M → Option ms_R) (j pc : Nat) (q : ms_I) (L S : List Value) (σ : ms_M) : Option ms_R :=
  match ms_kd q with
  | 0 => match ms_st1 q.1 q.2.1 q.2.2 pc L S σ with
    | some y => rec j y.1 y.2.1 y.2.2.1 y.2.2.2
    | none => none
  | 1 => ms_call rec j pc q.2.2.1 L S σ
  | 2 => ms_ret j S σ
  | _ => ms_thr q.2.2.1 S σ
def ms_ev : Nat → Nat → Nat → List Value → List Value → ms_M → Option ms_R
  | 0, _, _, _, _, _ => none
  | f + 1, j, pc, L, S, σ => match ms_at j pc with
    | none => none
    | some q => ms_stp (ms_ev f) j pc q L S σ
theorem ms_call_mono {g h : Nat → Nat → List Value → List Value → ms_M → Option ms_R} (H : ∀ a b c d e r, g a b c d e = some r → h a b c d e = some r) {j pc c : Nat} {L S : List Value} {σ : ms_M} {r : ms_R} (k : ms_call g j pc c L S σ = some r) : ms_call h j pc c L S σ = some r := by
  unfold ms_call at k ⊢
  split at k
  · rename_i hc
    rw [if_pos hc]
    split at k
    · rename_i v τ e
      rw [H _ _ _ _ _ _ e]
      exact H _ _ _ _ _ _ k
    · rename_i x τ e
      rw [H _ _ _ _ _ _ e]
      dsimp only
      split at k
      · rename_i t e2
        first
          | exact H _ _ _ _ _ _ k
          | (rw [e2]; exact H _ _ _ _ _ _ k)
      · cases k
    · cases k
  · cases k
theorem ms_stp_mono {g h : Nat → Nat → List Value → List Value → ms_M → Option ms_R} (H : ∀ a b c d e r, g a b c d e = some r → h a b c d e = some r) {j pc : Nat} {q : ms_I} {L S : List Value} {σ : ms_M} {r : ms_R} (k : ms_stp g j pc q L S σ = some r) : ms_stp h j pc q L S σ = some r := by
  unfold ms_stp at k ⊢
  split at k
  · split at k
    · exact H _ _ _ _ _ _ k
    · cases k
  · exact ms_call_mono H k
  · exact k
  · exact k
theorem ms_ev_succ (f : Nat) : ∀ j pc L S σ r, ms_ev f j pc L S σ = some r → ms_ev (f + 1) j pc L S σ = some r := by
  induction f with
  | zero => intro j pc L S σ r h; cases h
  | succ f ih =>
    intro j pc L S σ r h
    rw [ms_ev] at h ⊢
    split at h
    · cases h
    · exact ms_stp_mono ih h
theorem ms_ev_le {f g : Nat} (hfg : f ≤ g) {j pc : Nat} {L S : List Value} {σ : ms_M} {r : ms_R} (h : ms_ev f j pc L S σ = some r) : ms_ev g j pc L S σ = some r := by
  induction hfg with
  | refl => exact h
  | step _ ih => exact ms_ev_succ _ _ _ _ _ _ _ ih
/-- the run without fuel -/
noncomputable def ms_G (j pc : Nat) (L S : List Value) (σ : ms_M) : Option ms_R :=
  letI := Classical.propDecidable (∃ r f, ms_ev f j pc L S σ = some r)
  if h : ∃ r f, ms_ev f j pc L S σ = some r then some (Classical.choose h) else none
theorem ms_G_iff {j pc : Nat} {L S : List Value} {σ : ms_M} {r : ms_R} : ms_G j pc L S σ = some r ↔ ∃ f, ms_ev f j pc L S σ = some r := by
  unfold ms_G
  constructor
  · intro h
    split at h
    · rename_i hx
      cases h
      exact Classical.choose_spec hx
    · cases h
  · rintro ⟨f, hf⟩
    have hx : ∃ r f, ms_ev f j pc L S σ = some r := ⟨r, f, hf⟩
    rw [dif_pos hx]
    obtain ⟨g, hg⟩ := Classical.choose_spec hx
    have h1 := ms_ev_le (Nat.le_max_left f g) hf
    have h2 := ms_ev_le (Nat.le_max_right f g) hg
    rw [h1] at h2
    exact h2.symm
theorem ms_G_of {f j pc : Nat} {L S : List Value} {σ : ms_M} {r : ms_R} (h : ms_ev f j pc L S σ = some r) : ms_G j pc L S σ = some r := ms_G_iff.mpr ⟨f, h⟩
theorem ms_call_cont {j pc c : Nat} {L S : List Value} {σ : ms_M} {r : ms_R} (k : ms_call ms_G j pc c L S σ = some r) : ∃ f, ms_call (ms_ev f) j pc c L S σ = some r := by
  unfold ms_call at k
  split at k
  · rename_i hc
    split at k
    · rename_i v τ e
      obtain ⟨f1, h1⟩ := ms_G_iff.mp e
      obtain ⟨f2, h2⟩ := ms_G_iff.mp k
      refine ⟨max f1 f2, ?_⟩
      unfold ms_call
      rw [if_pos hc, ms_ev_le (Nat.le_max_left f1 f2) h1]
      exact ms_ev_le (Nat.le_max_right f1 f2) h2
    · rename_i x τ e
      obtain ⟨f1, h1⟩ := ms_G_iff.mp e
      split at k
      · rename_i t e2
        obtain ⟨f2, h2⟩ := ms_G_iff.mp k
        refine ⟨max f1 f2, ?_⟩
        unfold ms_call
        rw [if_pos hc, ms_ev_le (Nat.le_max_left f1 f2) h1]
        dsimp only
        first
          | exact ms_ev_le (Nat.le_max_right f1 f2) h2
          | (rw [e2]; exact ms_ev_le (Nat.le_max_right f1 f2) h2)
      · cases k
    · cases k
  · cases k
theorem ms_stp_cont {j pc : Nat} {q : ms_I} {L S : List Value} {σ : ms_M} {r : ms_R} (k : ms_stp ms_G j pc q L S σ = some r) : ∃ f, ms_stp (ms_ev f) j pc q L S σ = some r := by
  unfold ms_stp at k ⊢
  split at k
  · split at k
    · exact ms_G_iff.mp k
    · cases k
  · exact ms_call_cont k
  · exact ⟨0, k⟩
  · exact ⟨0, k⟩
/-- one instruction of a run -/
theorem ms_G_at {j pc : Nat} {q : ms_I} (hq : ms_at j pc = some q) (L S : List Value) (σ : ms_M) : ms_G j pc L S σ = ms_stp ms_G j pc q L S σ := by
  apply Option.ext
  intro r
  constructor
  · intro h
    obtain ⟨f, hf⟩ := ms_G_iff.mp h
    cases f with
    | zero => cases hf
    | succ f =>
      rw [ms_ev, hq] at hf
      exact ms_stp_mono (fun a b c d e r h => ms_G_of h) hf
  · intro h
    obtain ⟨f, hf⟩ := ms_stp_cont h
    refine ms_G_of (f := f + 1) ?_
    rw [ms_ev, hq]
    exact hf
end
section
/-! THE PURE MACHINE AND THE REAL ONE: values, locals, cells, memory. Cell number k lies at address ρ k: 0, 1, 2 are cells that were there before (the script, two constant arrays), k + 3 is the k-th new one. -/
def ms_mv (ρ : Nat → Nat) : Value → Value
  | .ref a => .ref (ρ a)
  | v => v
theorem ms_mv_cat (ρ : Nat → Nat) (v : Value) : (ms_mv ρ v).category = v.category := by cases v <;> rfl
theorem ms_mv_sum (ρ : Nat → Nat) (S : List Value) : ((S.map (ms_mv ρ)).map fun v => v.category).sum = (S.map fun v => v.category).sum := by
  rw [List.map_map]
  congr 1
  apply List.map_congr_left
  intro v _
  exact ms_mv_cat ρ v
def ms_rho (B b t1 t2 : Nat) : Nat → Nat
  | 0 => b
  | 1 => t1
  | 2 => t2
  | k + 3 => B + k
-- locals
def ms_lv (ρ : Nat → Nat) (L : List Value) : List (Nat × Value) := (List.range L.length).filterMap fun i => match L.getD i .null with
  | .null => none
  | v => some (i, ms_mv ρ v)
theorem ms_lv_mem {ρ : Nat → Nat} {L : List Value} {i : Nat} {u : Value} : (i, u) ∈ ms_lv ρ L ↔ i < L.length ∧ L.getD i .null ≠ .null ∧ u = ms_mv ρ (L.getD i .null) := by
  unfold ms_lv
  rw [List.mem_filterMap]
  constructor
  · rintro ⟨a, ha, h⟩
    rw [List.mem_range] at ha
    cases hv : L.getD a .null <;> rw [hv] at h <;> simp at h <;> obtain ⟨rfl, rfl⟩ := h <;> rw [hv] <;> exact ⟨ha, by simp, rfl⟩
  · rintro ⟨h1, h2, h3⟩
    refine ⟨i, List.mem_range.mpr h1, ?_⟩
    subst h3
    cases hv : L.getD i .null <;> rw [hv] at h2 <;> simp at h2 ⊢
def ms_Lr (ρ : Nat → Nat) (ls : Array Slot) (L : List Value) : Prop := lv_has ls L.length (ms_lv ρ L)
theorem ms_getD_lt {L : List Value} {i : Nat} (h : L.getD i .null ≠ .null) : i < L.length := by
  rcases Nat.lt_or_ge i L.length with h1 | h1
  · exact h1
  · exact absurd (by rw [List.getD_eq_getElem?_getD, List.getElem?_eq_none h1]; rfl) h
theorem ms_Lr.at {ρ : Nat → Nat} {ls : Array Slot} {L : List Value} (h : ms_Lr ρ ls L) {i : Nat} {v : Value} (hv : L.getD i .null = v) (hn : v ≠ .null) : ls[i]? = some (.val (ms_mv ρ v)) := by
  subst hv
  exact h.2.2 (i, _) (ms_lv_mem.mpr ⟨ms_getD_lt hn, hn, rfl⟩)
theorem ms_kill_len (L : List Value) (i : Nat) : (ms_kill L i).length = L.length := by
  cases i with
  | zero => rfl
  | succ i => simp only [ms_kill]; split <;> simp
theorem ms_s1_len (L : List Value) (i : Nat) (v : Value) : (ms_s1 L i v).length = L.length := by simp [ms_s1, ms_kill_len]
theorem ms_s2_len (L : List Value) (i : Nat) (v : Value) : (ms_s2 L i v).length = L.length := by simp [ms_s2, ms_kill_len]
theorem ms_set_get (L : List Value) (i j : Nat) (v : Value) (hi : i < L.length) : (L.set i v).getD j .null = if j = i then v else L.getD j .null := by
  rw [List.getD_eq_getElem?_getD, List.getD_eq_getElem?_getD]
  by_cases h : j = i
  · subst h
    rw [List.getElem?_set_self hi, if_pos rfl]; rfl
  · rw [List.getElem?_set_ne (Ne.symm h), if_neg h]
theorem ms_set_null (L : List Value) (i j : Nat) : (L.set i .null).getD j .null = if j = i then .null else L.getD j .null := by
  rcases Nat.lt_or_ge i L.length with hi | hi
  · exact ms_set_get L i j .null hi
  · rw [List.set_eq_of_length_le hi]
    by_cases h : j = i
    · subst h
      rw [if_pos rfl, List.getD_eq_getElem?_getD, List.getElem?_eq_none hi]; rfl
    · rw [if_neg h]
theorem ms_kill_get (L : List Value) (i j : Nat) : (ms_kill L i).getD j .null = if j + 1 = i ∧ (L.getD j .null).category = 2 then .null else L.getD j .null := by
  cases i with
  | zero => rw [if_neg (by omega)]; rfl
  | succ i =>
    simp only [ms_kill]
    split
    · rename_i a hv
      rw [ms_set_null]
      by_cases hj : j = i
      · subst hj
        rw [if_pos rfl, if_pos ⟨rfl, by rw [hv]; rfl⟩]
      · rw [if_neg hj, if_neg (by omega)]
    · rename_i a hv
      rw [ms_set_null]
      by_cases hj : j = i
      · subst hj
        rw [if_pos rfl, if_pos ⟨rfl, by rw [hv]; rfl⟩]
      · rw [if_neg hj, if_neg (by omega)]
    · rename_i h1 h2
      rw [if_neg]
      rintro ⟨hj, hc⟩
      have hj : j = i := by omega
      subst hj
      cases hv : L.getD j .null with
      | long a => exact h1 a hv
      | double a => exact h2 a hv
      | _ => rw [hv] at hc; cases hc
theorem ms_s1_get {L : List Value} {i j : Nat} {v : Value} (hi : i < L.length) : (ms_s1 L i v).getD j .null = if j = i then v else if j + 1 = i ∧ (L.getD j .null).category = 2 then .null else L.getD j .null := by
  unfold ms_s1
  rw [ms_set_get _ _ _ _ (by rw [ms_kill_len]; exact hi), ms_kill_get]
theorem ms_s2_get {L : List Value} {i j : Nat} {v : Value} (hi : i < L.length) : (ms_s2 L i v).getD j .null = if j = i then v else if j = i + 1 then .null else if j + 1 = i ∧ (L.getD j .null).category = 2 then .null else L.getD j .null := by
  unfold ms_s2
  rw [ms_set_get _ _ _ _ (by simp [ms_kill_len]; exact hi), ms_set_null, ms_kill_get]
theorem ms_Lr.set1 {ρ : Nat → Nat} {ls' : Array Slot} {L : List Value} {i : Nat} {v : Value} (hi : i < L.length) (h : lv_has ls' L.length ((i, ms_mv ρ v) :: (ms_lv ρ L).filter (fun q => !(q.1 == i) && !(q.1 + 1 == i && q.2.category == 2)))) : ms_Lr ρ ls' (ms_s1 L i v) := by
  refine ⟨by rw [ms_s1_len]; exact h.1, h.2.1, ?_⟩
  rintro ⟨j, u⟩ hm
  obtain ⟨h1, h2, rfl⟩ := ms_lv_mem.mp hm
  rw [ms_s1_get hi] at h2 ⊢
  apply h.2.2
  by_cases hj : j = i
  · subst hj
    rw [if_pos rfl]
    exact List.mem_cons_self
  · rw [if_neg hj] at h2 ⊢
    by_cases hk : j + 1 = i ∧ (L.getD j .null).category = 2
    · rw [if_pos hk] at h2
      exact absurd rfl h2
    · rw [if_neg hk] at h2 ⊢
      refine List.mem_cons_of_mem _ (List.mem_filter.mpr ⟨ms_lv_mem.mpr ⟨ms_getD_lt h2, h2, rfl⟩, ?_⟩)
      simp only [ms_mv_cat]
      simp [hj]
      rw [← List.getD_eq_getElem?_getD]
      by_cases e : j + 1 = i
      · exact Or.inr (fun z => hk ⟨e, z⟩)
      · exact Or.inl e
theorem ms_Lr.set2 {ρ : Nat → Nat} {ls' : Array Slot} {L : List Value} {i : Nat} {v : Value} (hi : i + 1 < L.length) (h : lv_has ls' L.length ((i, ms_mv ρ v) :: (ms_lv ρ L).filter (fun q => !(q.1 == i) && (!(q.1 == i + 1) && !(q.1 + 1 == i && q.2.category == 2))))) : ms_Lr ρ ls' (ms_s2 L i v) := by
  have hi0 : i < L.length := by omega
  refine ⟨by rw [ms_s2_len]; exact h.1, h.2.1, ?_⟩
  rintro ⟨j, u⟩ hm
  obtain ⟨h1, h2, rfl⟩ := ms_lv_mem.mp hm
  rw [ms_s2_get hi0] at h2 ⊢
  apply h.2.2
  by_cases hj : j = i
  · subst hj
    rw [if_pos rfl]
    exact List.mem_cons_self
  · rw [if_neg hj] at h2 ⊢
    by_cases hj2 : j = i + 1
    · rw [if_pos hj2] at h2
      exact absurd rfl h2
    · rw [if_neg hj2] at h2 ⊢
      by_cases hk : j + 1 = i ∧ (L.getD j .null).category = 2
      · rw [if_pos hk] at h2
        exact absurd rfl h2
      · rw [if_neg hk] at h2 ⊢
        refine List.mem_cons_of_mem _ (List.mem_filter.mpr ⟨ms_lv_mem.mpr ⟨ms_getD_lt h2, h2, rfl⟩, ?_⟩)
        simp only [ms_mv_cat]
        simp [hj, hj2]
        rw [← List.getD_eq_getElem?_getD]
        by_cases e : j + 1 = i
        · exact Or.inr (fun z => hk ⟨e, z⟩)
        · exact Or.inl e
-- cells
def ms_ra (ρ : Nat → Nat) (a : vp_A) : vp_A := match a with
  | (n, .inr (.inr (.inr (.inr f)))) => (n, .inr (.inr (.inr (.inr (fun j => (f j).map ρ)))))
  | (n, .inl f) => (n, .inl f)
  | (n, .inr (.inl f)) => (n, .inr (.inl f))
  | (n, .inr (.inr (.inl f))) => (n, .inr (.inr (.inl f)))
  | (n, .inr (.inr (.inr (.inl f)))) => (n, .inr (.inr (.inr (.inl f))))
def ms_tys (dA : Nat → ClassId) : List (ClassId × FieldType) := [(dA 0, .int), (dA 1, .long), (dA 2, .array .int), (dA 3, .object ms_cM), (dA 4, .object ms_cP)]
-- B: where the new cells begin; X: the cells 0, 1, 2
abbrev ms_V : Type := Nat × (Nat → Nat) × va_G × (Nat → ClassId) × (Nat → Nat × (Nat → Int32)) × Heap
abbrev ms_vB (v : ms_V) : Nat := v.1
abbrev ms_vr (v : ms_V) : Nat → Nat := v.2.1
abbrev ms_vD (v : ms_V) : va_G := v.2.2.1
abbrev ms_vA (v : ms_V) : Nat → ClassId := v.2.2.2.1
abbrev ms_vX (v : ms_V) : Nat → Nat × (Nat → Int32) := v.2.2.2.2.1
abbrev ms_vH (v : ms_V) : Heap := v.2.2.2.2.2
def ms_cr (v : ms_V) (k : Nat) (e : ms_E) (H : Heap) : Prop := match e with
  | .inl (t, a) => (t = 5 ∧ k < 3 ∧ a = ((ms_vX v k).1, .inl (ms_vX v k).2)) ∨ (t < 5 ∧ 3 ≤ k ∧ H[ms_vr v k]? = some (vp_cell (ms_vA v t) (ms_ra (ms_vr v) a)))
  | .inr (ci, fs) => ci = 99 ∨ (3 ≤ k ∧ ∃ r, ms_cl[ci]? = some r ∧ t_OB (ms_vr v k) ((ms_vD v).1 ci) r.2.2 ((ms_vD v).2 ci) H (vp_V (fs.map (ms_mv (ms_vr v)))))
theorem ms_cr.kept {v : ms_V} {k : Nat} {e : ms_E} {H H1 : Heap} (h : ms_cr v k e H) (hq : H1[ms_vr v k]? = H[ms_vr v k]?) : ms_cr v k e H1 := by
  rcases e with ⟨t, a⟩ | ⟨ci, fs⟩
  · rcases h with h | ⟨h1, h2, h3⟩
    · exact Or.inl h
    · exact Or.inr ⟨h1, h2, hq.trans h3⟩
  · rcases h with h | ⟨h1, r, h2, h3⟩
    · exact Or.inl h
    · exact Or.inr ⟨h1, r, h2, h3.kept hq⟩
-- the two memories
def ms_Rl (v : ms_V) (σ : ms_M) (H : Heap) : Prop :=
  (3 ≤ σ.1 ∧ H.size + 3 = ms_vB v + σ.1 ∧ (∀ q, q < ms_vB v → H[q]? = (ms_vH v)[q]?)) ∧ ∀ k, ms_cr v k (σ.2.2.2 k) H
def ms_vok (v : ms_V) : Prop := ∃ b t1 t2, ms_vr v = ms_rho (ms_vB v) b t1 t2 ∧ b < ms_vB v ∧ t1 < ms_vB v ∧ t2 < ms_vB v
theorem ms_vok.hi {v : ms_V} (h : ms_vok v) {k : Nat} (hk : 3 ≤ k) : ms_vr v k = ms_vB v + (k - 3) := by
  obtain ⟨b, t1, t2, h, -⟩ := h
  rw [h]
  match k, hk with
  | k + 3, _ => rfl
theorem ms_vok.lo {v : ms_V} (h : ms_vok v) {k : Nat} (hk : k < 3) : ms_vr v k < ms_vB v := by
  obtain ⟨b, t1, t2, h, h1, h2, h3⟩ := h
  rw [h]
  match k, hk with
  | 0, _ => exact h1
  | 1, _ => exact h2
  | 2, _ => exact h3
theorem ms_vok.ne {v : ms_V} (h : ms_vok v) {k a : Nat} (hk : k ≠ a) (ha : 3 ≤ a) : ms_vr v k ≠ ms_vr v a := by
  rw [h.hi ha]
  rcases Nat.lt_or_ge k 3 with h3 | h3
  · have := h.lo h3
    omega
  · rw [h.hi h3]
    omega
/-- one cell is written -/
theorem ms_Rl.put {v : ms_V} (hv : ms_vok v) {σ : ms_M} {H H1 : Heap} (h : ms_Rl v σ H) {a : Nat} (ha : 3 ≤ a) {e : ms_E} (he : ms_cr v a e H1) (z : H1.size = H.size) (oq : ∀ q, q ≠ ms_vr v a → H1[q]? = H[q]?) : ms_Rl v (ms_wr σ a e) H1 := by
  obtain ⟨⟨h1, h2, h3⟩, h4⟩ := h
  refine ⟨⟨h1, by rw [z]; exact h2, fun q hq => ?_⟩, fun k => ?_⟩
  · rw [oq q (by rw [hv.hi ha]; omega)]
    exact h3 q hq
  · show ms_cr v k (ms_up σ.2.2.2 a e k) H1
    unfold ms_up
    by_cases hk : k = a
    · subst hk
      rw [if_pos rfl]
      exact he
    · rw [if_neg hk]
      exact (h4 k).kept (oq _ (hv.ne hk ha))
/-- a cell is made -/
theorem ms_Rl.push {v : ms_V} (hv : ms_vok v) {σ : ms_M} {H H1 : Heap} (h : ms_Rl v σ H) {z : Nat} {e : ms_E} (he : ms_cr v σ.1 e H1) (hz : H1.size = H.size + 1) (oq : ∀ q, q < H.size → H1[q]? = H[q]?) : ms_Rl v (ms_nw σ z e) H1 := by
  obtain ⟨⟨h1, h2, h3⟩, h4⟩ := h
  refine ⟨⟨?_, ?_, fun q hq => ?_⟩, fun k => ?_⟩
  · show 3 ≤ σ.1 + 1
    omega
  · show H1.size + 3 = ms_vB v + (σ.1 + 1)
    omega
  · rw [oq q (by omega)]
    exact h3 q hq
  · show ms_cr v k (ms_up σ.2.2.2 σ.1 e k) H1
    unfold ms_up
    by_cases hk : k = σ.1
    · subst hk
      rw [if_pos rfl]
      exact he
    · rw [if_neg hk]
      have h5 := h4 k
      generalize σ.2.2.2 k = c at h5 ⊢
      rcases c with ⟨t, a⟩ | ⟨ci, fs⟩
      · rcases h5 with h5 | ⟨q1, q2, q3⟩
        · exact Or.inl h5
        · exact Or.inr ⟨q1, q2, (oq _ (Array.getElem?_eq_some_iff.mp q3).1).trans q3⟩
      · rcases h5 with h5 | ⟨q1, r, q2, q3⟩
        · exact Or.inl h5
        · exact Or.inr ⟨q1, r, q2, q3.kept (oq _ (by obtain ⟨cell, g1, -⟩ := q3; exact (Array.getElem?_eq_some_iff.mp g1).1))⟩
theorem ms_Rl.next {v : ms_V} (hv : ms_vok v) {σ : ms_M} {H : Heap} (h : ms_Rl v σ H) : H.size = ms_vr v σ.1 := by
  rw [hv.hi h.1.1]
  have := h.1.2.1
  have := h.1.1
  omega
theorem ms_in_vp {i : Int32} {n : Nat} (h : ms_in i n = true) : vp_in i n := vp_in_iff.mpr (of_decide_eq_true h)
end
section
/-! WHAT AN INSTRUCTION'S ROW OF THE TABLE MUST BE: a check that a program decides. -/
def ms_ck (j pc : Nat) (i : Jvm.ClassFile.Instr) (len : Nat) (x : ms_X) : Bool :=
  match i with
  | .iconst n => decide (len = 1 ∧ x.2.2.1 = .int (Int32.ofInt n))
  | .bipush n => decide (len = 2 ∧ x.2.2.1 = .int (Int8.ofInt n).toInt32)
  | .sipush n => decide (len = 3 ∧ x.2.2.1 = .int (Int16.ofInt n).toInt32)
  | .lconst n => decide (len = 1 ∧ x.2.2.1 = .long (Int64.ofNat n.val))
  | .ldc q => decide (len = 2) && match x.2.2.1 with
    | .int v => ms_has x.1 (.constant (ms_ow j) q v)
    | _ => false
  | .ldc_w q => decide (len = 3) && match x.2.2.1 with
    | .int v => ms_has x.1 (.constant (ms_ow j) q v)
    | _ => false
  | .ldc2_w q => decide (len = 3) && match x.2.2.1 with
    | .long v => ms_has x.1 (.constantLong (ms_ow j) q v)
    | _ => false
  | .getstatic q => decide (len = 3 ∧ (x.1 = 1 ∨ x.1 = 2) ∧ x.2.2.1 = .ref x.1 ∧ ms_nst[x.2.1]? = some (.fieldLinkNest (ms_ow j) q ms_cO (ms_sn x.1) "[I" ms_cO))
  | .iload _ => decide (len = 2)
  | .lload _ => decide (len = 2)
  | .aload _ => decide (len = 2)
  | .istore _ => decide (len = 2)
  | .lstore _ => decide (len = 2)
  | .astore _ => decide (len = 2)
  | .iinc _ _ => decide (len = 3)
  | .goto o => decide (len = 3 ∧ (pc : Int) + o = (x.1 : Int))
  | .ifCond _ o => decide (len = 3 ∧ (pc : Int) + o = (x.1 : Int))
  | .if_icmp _ o => decide (len = 3 ∧ (pc : Int) + o = (x.1 : Int))
  | .tableswitch d lo hi os => decide ((pc : Int) + d = (x.1 : Int) ∧ os.toList.map (fun o => (pc : Int) + o) = x.2.2.2.map (fun (t : Nat) => (t : Int)) ∧ hi - lo + 1 = (os.size : Int))
  | .lookupswitch d ps => decide ((pc : Int) + d = (x.1 : Int) ∧ ps.toList.map (fun q => (pc : Int) + q.2) = x.2.2.2.map (fun (t : Nat) => (t : Int)) ∧ (ps.toList.zip (ps.toList.drop 1)).all (fun (a, next) => a.1 < next.1) = true)
  | .getfield q => decide (len = 3) && match ms_cl[x.1]? with
    | some r => decide (x.2.1 < r.2.2) && ms_has (x.2.2.2.getD 0 0) (.fieldLink (ms_ow j) q (r.2.1 x.2.1).1 (r.2.1 x.2.1).2.1 (r.2.1 x.2.1).2.2.1)
    | none => false
  | .putfield q => decide (len = 3) && match ms_cl[x.1]? with
    | some r => decide (x.2.1 < r.2.2) && ms_has (x.2.2.2.getD 0 0) (.fieldLink (ms_ow j) q (r.2.1 x.2.1).1 (r.2.1 x.2.1).2.1 (r.2.1 x.2.1).2.2.1) && decide ((r.2.1 x.2.1).2.2.2 = false ∨ (ms_ini j = true ∧ (r.2.1 x.2.1).1 = ms_ow j))
    | none => false
  | .newarray t => decide (len = 2 ∧ ((x.1 = 0 ∧ t = .int) ∨ (x.1 = 1 ∧ t = .long)))
  | .anewarray q => decide (len = 3) && ((decide (x.1 = 3) && ms_has (x.2.2.2.getD 0 0) (.classLink (ms_ow j) q ms_cM)) || (decide (x.1 = 4) && ms_has (x.2.2.2.getD 0 0) (.classLink (ms_ow j) q ms_cP)))
  | .multianewarray q n => decide (len = 4 ∧ n = 2 ∧ x.1 = 2) && ms_has (x.2.2.2.getD 0 0) (.classLink (ms_ow j) q "[[I")
  | .new q => decide (len = 3) && match ms_cl[x.1]? with
    | some r => decide (x.2.1 = 0 ∧ (ms_df x.1).length = r.2.2) && ms_has (x.2.2.2.getD 0 0) (.classLink (ms_ow j) q r.1)
    | none => false
  | .invokespecial q => decide (len = 3 ∧ x.2.1 = 2 ∧ 1 ≤ ms_fr j ∧ 20 ≤ ms_lo j) && ms_has (x.2.2.2.getD 0 0) (.methodLink (ms_ow j) q Lib.objectInit)
  | .invokestatic q => decide (len = 3 ∧ x.2.1 = 1 ∧ 1 ≤ ms_fr j ∧ 26 ≤ ms_lo j) && ms_has (x.2.2.2.getD 0 0) (.methodLink (ms_ow j) q arraycopyName)
  | _ => decide (len = 1)
end
section
/-! WHAT IS SAID OF THE KINDS OF OBJECTS: fields, words. By gen.py. -/
theorem ms_u0 : ∀ w ∈ u_ws "MaskedSum" ms_T0 4, w ∈ ms_ws := by
  intro w hw
  obtain ⟨k, hk, rfl⟩ := List.mem_map.mp hw
  rw [List.mem_range] at hk
  match k, hk with
  | 0, _ => exact ms_has_in (i := 282) (by decide +kernel)
  | 1, _ => exact ms_has_in (i := 284) (by decide +kernel)
  | 2, _ => exact ms_has_in (i := 286) (by decide +kernel)
  | 3, _ => exact ms_has_in (i := 288) (by decide +kernel)
theorem ms_p0 : ∀ k, k < 4 → parseFieldDescriptor (ms_T0 k).2.2.1 = some (ms_ft 0 k) := by decide +kernel
theorem ms_nm0 : ∀ a, a < 4 → ∀ b, b < 4 → a ≠ b → (ms_T0 a).2.1 ≠ (ms_T0 b).2.1 := by decide +kernel
theorem ms_d0 (ρ : Nat → Nat) : ∀ j, j < 4 → defaultValue (ms_ft 0 j) = vp_V ((ms_df 0).map (ms_mv ρ)) j := by
  intro j hj
  match j, hj with
  | 0, _ => rfl
  | 1, _ => rfl
  | 2, _ => rfl
  | 3, _ => rfl
theorem ms_i0 : Cond.instantiable "MaskedSum" 4 ∈ ms_ws ∧ Cond.initialized "MaskedSum" ∈ ms_ws := ⟨ms_has_in (i := 74) (by decide +kernel), ms_has_in (i := 54) (by decide +kernel)⟩
theorem ms_u1 : ∀ w ∈ u_ws "MaskedSum$Crypto" ms_T1 2, w ∈ ms_ws := by
  intro w hw
  obtain ⟨k, hk, rfl⟩ := List.mem_map.mp hw
  rw [List.mem_range] at hk
  match k, hk with
  | 0, _ => exact ms_has_in (i := 127) (by decide +kernel)
  | 1, _ => exact ms_has_in (i := 129) (by decide +kernel)
theorem ms_p1 : ∀ k, k < 2 → parseFieldDescriptor (ms_T1 k).2.2.1 = some (ms_ft 1 k) := by decide +kernel
theorem ms_nm1 : ∀ a, a < 2 → ∀ b, b < 2 → a ≠ b → (ms_T1 a).2.1 ≠ (ms_T1 b).2.1 := by decide +kernel
theorem ms_d1 (ρ : Nat → Nat) : ∀ j, j < 2 → defaultValue (ms_ft 1 j) = vp_V ((ms_df 1).map (ms_mv ρ)) j := by
  intro j hj
  match j, hj with
  | 0, _ => rfl
  | 1, _ => rfl
theorem ms_i1 : Cond.instantiable "MaskedSum$Crypto" 2 ∈ ms_ws ∧ Cond.initialized "MaskedSum$Crypto" ∈ ms_ws := ⟨ms_has_in (i := 82) (by decide +kernel), ms_has_in (i := 55) (by decide +kernel)⟩
theorem ms_u2 : ∀ w ∈ u_ws "MaskedSum$ChaCha" ms_T2 2, w ∈ ms_ws := by
  intro w hw
  obtain ⟨k, hk, rfl⟩ := List.mem_map.mp hw
  rw [List.mem_range] at hk
  match k, hk with
  | 0, _ => exact ms_has_in (i := 95) (by decide +kernel)
  | 1, _ => exact ms_has_in (i := 97) (by decide +kernel)
theorem ms_p2 : ∀ k, k < 2 → parseFieldDescriptor (ms_T2 k).2.2.1 = some (ms_ft 2 k) := by decide +kernel
theorem ms_nm2 : ∀ a, a < 2 → ∀ b, b < 2 → a ≠ b → (ms_T2 a).2.1 ≠ (ms_T2 b).2.1 := by decide +kernel
theorem ms_d2 (ρ : Nat → Nat) : ∀ j, j < 2 → defaultValue (ms_ft 2 j) = vp_V ((ms_df 2).map (ms_mv ρ)) j := by
  intro j hj
  match j, hj with
  | 0, _ => rfl
  | 1, _ => rfl
theorem ms_i2 : Cond.instantiable "MaskedSum$ChaCha" 2 ∈ ms_ws ∧ Cond.initialized "MaskedSum$ChaCha" ∈ ms_ws := ⟨ms_has_in (i := 88) (by decide +kernel), ms_has_in (i := 56) (by decide +kernel)⟩
theorem ms_u3 : ∀ w ∈ u_ws "MaskedSum$Poly1305" ms_T3 5, w ∈ ms_ws := by
  intro w hw
  obtain ⟨k, hk, rfl⟩ := List.mem_map.mp hw
  rw [List.mem_range] at hk
  match k, hk with
  | 0, _ => exact ms_has_in (i := 113) (by decide +kernel)
  | 1, _ => exact ms_has_in (i := 115) (by decide +kernel)
  | 2, _ => exact ms_has_in (i := 117) (by decide +kernel)
  | 3, _ => exact ms_has_in (i := 119) (by decide +kernel)
  | 4, _ => exact ms_has_in (i := 121) (by decide +kernel)
theorem ms_p3 : ∀ k, k < 5 → parseFieldDescriptor (ms_T3 k).2.2.1 = some (ms_ft 3 k) := by decide +kernel
theorem ms_nm3 : ∀ a, a < 5 → ∀ b, b < 5 → a ≠ b → (ms_T3 a).2.1 ≠ (ms_T3 b).2.1 := by decide +kernel
theorem ms_d3 (ρ : Nat → Nat) : ∀ j, j < 5 → defaultValue (ms_ft 3 j) = vp_V ((ms_df 3).map (ms_mv ρ)) j := by
  intro j hj
  match j, hj with
  | 0, _ => rfl
  | 1, _ => rfl
  | 2, _ => rfl
  | 3, _ => rfl
  | 4, _ => rfl
theorem ms_i3 : Cond.instantiable "MaskedSum$Poly1305" 5 ∈ ms_ws ∧ Cond.initialized "MaskedSum$Poly1305" ∈ ms_ws := ⟨ms_has_in (i := 102) (by decide +kernel), ms_has_in (i := 57) (by decide +kernel)⟩
theorem ms_u4 : ∀ w ∈ u_ws "MaskedSum$Mail" ms_T4 3, w ∈ ms_ws := by
  intro w hw
  obtain ⟨k, hk, rfl⟩ := List.mem_map.mp hw
  rw [List.mem_range] at hk
  match k, hk with
  | 0, _ => exact ms_has_in (i := 175) (by decide +kernel)
  | 1, _ => exact ms_has_in (i := 177) (by decide +kernel)
  | 2, _ => exact ms_has_in (i := 179) (by decide +kernel)
theorem ms_p4 : ∀ k, k < 3 → parseFieldDescriptor (ms_T4 k).2.2.1 = some (ms_ft 4 k) := by decide +kernel
theorem ms_nm4 : ∀ a, a < 3 → ∀ b, b < 3 → a ≠ b → (ms_T4 a).2.1 ≠ (ms_T4 b).2.1 := by decide +kernel
theorem ms_d4 (ρ : Nat → Nat) : ∀ j, j < 3 → defaultValue (ms_ft 4 j) = vp_V ((ms_df 4).map (ms_mv ρ)) j := by
  intro j hj
  match j, hj with
  | 0, _ => rfl
  | 1, _ => rfl
  | 2, _ => rfl
theorem ms_i4 : Cond.instantiable "MaskedSum$Mail" 3 ∈ ms_ws ∧ Cond.initialized "MaskedSum$Mail" ∈ ms_ws := ⟨ms_has_in (i := 133) (by decide +kernel), ms_has_in (i := 58) (by decide +kernel)⟩
theorem ms_u5 : ∀ w ∈ u_ws "MaskedSum$Message" ms_T5 4, w ∈ ms_ws := by
  intro w hw
  obtain ⟨k, hk, rfl⟩ := List.mem_map.mp hw
  rw [List.mem_range] at hk
  match k, hk with
  | 0, _ => exact ms_has_in (i := 160) (by decide +kernel)
  | 1, _ => exact ms_has_in (i := 162) (by decide +kernel)
  | 2, _ => exact ms_has_in (i := 164) (by decide +kernel)
  | 3, _ => exact ms_has_in (i := 166) (by decide +kernel)
theorem ms_p5 : ∀ k, k < 4 → parseFieldDescriptor (ms_T5 k).2.2.1 = some (ms_ft 5 k) := by decide +kernel
theorem ms_nm5 : ∀ a, a < 4 → ∀ b, b < 4 → a ≠ b → (ms_T5 a).2.1 ≠ (ms_T5 b).2.1 := by decide +kernel
theorem ms_d5 (ρ : Nat → Nat) : ∀ j, j < 4 → defaultValue (ms_ft 5 j) = vp_V ((ms_df 5).map (ms_mv ρ)) j := by
  intro j hj
  match j, hj with
  | 0, _ => rfl
  | 1, _ => rfl
  | 2, _ => rfl
  | 3, _ => rfl
theorem ms_i5 : Cond.instantiable "MaskedSum$Message" 4 ∈ ms_ws ∧ Cond.initialized "MaskedSum$Message" ∈ ms_ws := ⟨ms_has_in (i := 140) (by decide +kernel), ms_has_in (i := 59) (by decide +kernel)⟩
theorem ms_u6 : ∀ w ∈ u_ws "MaskedSum$Server" ms_T6 11, w ∈ ms_ws := by
  intro w hw
  obtain ⟨k, hk, rfl⟩ := List.mem_map.mp hw
  rw [List.mem_range] at hk
  match k, hk with
  | 0, _ => exact ms_has_in (i := 205) (by decide +kernel)
  | 1, _ => exact ms_has_in (i := 207) (by decide +kernel)
  | 2, _ => exact ms_has_in (i := 209) (by decide +kernel)
  | 3, _ => exact ms_has_in (i := 211) (by decide +kernel)
  | 4, _ => exact ms_has_in (i := 213) (by decide +kernel)
  | 5, _ => exact ms_has_in (i := 215) (by decide +kernel)
  | 6, _ => exact ms_has_in (i := 217) (by decide +kernel)
  | 7, _ => exact ms_has_in (i := 219) (by decide +kernel)
  | 8, _ => exact ms_has_in (i := 221) (by decide +kernel)
  | 9, _ => exact ms_has_in (i := 223) (by decide +kernel)
  | 10, _ => exact ms_has_in (i := 225) (by decide +kernel)
theorem ms_p6 : ∀ k, k < 11 → parseFieldDescriptor (ms_T6 k).2.2.1 = some (ms_ft 6 k) := by decide +kernel
theorem ms_nm6 : ∀ a, a < 11 → ∀ b, b < 11 → a ≠ b → (ms_T6 a).2.1 ≠ (ms_T6 b).2.1 := by decide +kernel
theorem ms_d6 (ρ : Nat → Nat) : ∀ j, j < 11 → defaultValue (ms_ft 6 j) = vp_V ((ms_df 6).map (ms_mv ρ)) j := by
  intro j hj
  match j, hj with
  | 0, _ => rfl
  | 1, _ => rfl
  | 2, _ => rfl
  | 3, _ => rfl
  | 4, _ => rfl
  | 5, _ => rfl
  | 6, _ => rfl
  | 7, _ => rfl
  | 8, _ => rfl
  | 9, _ => rfl
  | 10, _ => rfl
theorem ms_i6 : Cond.instantiable "MaskedSum$Server" 11 ∈ ms_ws ∧ Cond.initialized "MaskedSum$Server" ∈ ms_ws := ⟨ms_has_in (i := 183) (by decide +kernel), ms_has_in (i := 60) (by decide +kernel)⟩
theorem ms_u7 : ∀ w ∈ u_ws "MaskedSum$Phone" ms_T7 13, w ∈ ms_ws := by
  intro w hw
  obtain ⟨k, hk, rfl⟩ := List.mem_map.mp hw
  rw [List.mem_range] at hk
  match k, hk with
  | 0, _ => exact ms_has_in (i := 251) (by decide +kernel)
  | 1, _ => exact ms_has_in (i := 253) (by decide +kernel)
  | 2, _ => exact ms_has_in (i := 255) (by decide +kernel)
  | 3, _ => exact ms_has_in (i := 257) (by decide +kernel)
  | 4, _ => exact ms_has_in (i := 259) (by decide +kernel)
  | 5, _ => exact ms_has_in (i := 261) (by decide +kernel)
  | 6, _ => exact ms_has_in (i := 263) (by decide +kernel)
  | 7, _ => exact ms_has_in (i := 265) (by decide +kernel)
  | 8, _ => exact ms_has_in (i := 267) (by decide +kernel)
  | 9, _ => exact ms_has_in (i := 269) (by decide +kernel)
  | 10, _ => exact ms_has_in (i := 271) (by decide +kernel)
  | 11, _ => exact ms_has_in (i := 273) (by decide +kernel)
  | 12, _ => exact ms_has_in (i := 275) (by decide +kernel)
theorem ms_p7 : ∀ k, k < 13 → parseFieldDescriptor (ms_T7 k).2.2.1 = some (ms_ft 7 k) := by decide +kernel
theorem ms_nm7 : ∀ a, a < 13 → ∀ b, b < 13 → a ≠ b → (ms_T7 a).2.1 ≠ (ms_T7 b).2.1 := by decide +kernel
theorem ms_d7 (ρ : Nat → Nat) : ∀ j, j < 13 → defaultValue (ms_ft 7 j) = vp_V ((ms_df 7).map (ms_mv ρ)) j := by
  intro j hj
  match j, hj with
  | 0, _ => rfl
  | 1, _ => rfl
  | 2, _ => rfl
  | 3, _ => rfl
  | 4, _ => rfl
  | 5, _ => rfl
  | 6, _ => rfl
  | 7, _ => rfl
  | 8, _ => rfl
  | 9, _ => rfl
  | 10, _ => rfl
  | 11, _ => rfl
  | 12, _ => rfl
theorem ms_i7 : Cond.instantiable "MaskedSum$Phone" 13 ∈ ms_ws ∧ Cond.initialized "MaskedSum$Phone" ∈ ms_ws := ⟨ms_has_in (i := 230) (by decide +kernel), ms_has_in (i := 61) (by decide +kernel)⟩
theorem ms_u8 : ∀ w ∈ u_ws "MaskedSumModel" ms_T8 34, w ∈ ms_ws := by
  intro w hw
  obtain ⟨k, hk, rfl⟩ := List.mem_map.mp hw
  rw [List.mem_range] at hk
  match k, hk with
  | 0, _ => exact ms_has_in (i := 793) (by decide +kernel)
  | 1, _ => exact ms_has_in (i := 795) (by decide +kernel)
  | 2, _ => exact ms_has_in (i := 797) (by decide +kernel)
  | 3, _ => exact ms_has_in (i := 799) (by decide +kernel)
  | 4, _ => exact ms_has_in (i := 801) (by decide +kernel)
  | 5, _ => exact ms_has_in (i := 803) (by decide +kernel)
  | 6, _ => exact ms_has_in (i := 805) (by decide +kernel)
  | 7, _ => exact ms_has_in (i := 807) (by decide +kernel)
  | 8, _ => exact ms_has_in (i := 809) (by decide +kernel)
  | 9, _ => exact ms_has_in (i := 811) (by decide +kernel)
  | 10, _ => exact ms_has_in (i := 813) (by decide +kernel)
  | 11, _ => exact ms_has_in (i := 815) (by decide +kernel)
  | 12, _ => exact ms_has_in (i := 817) (by decide +kernel)
  | 13, _ => exact ms_has_in (i := 819) (by decide +kernel)
  | 14, _ => exact ms_has_in (i := 821) (by decide +kernel)
  | 15, _ => exact ms_has_in (i := 823) (by decide +kernel)
  | 16, _ => exact ms_has_in (i := 825) (by decide +kernel)
  | 17, _ => exact ms_has_in (i := 827) (by decide +kernel)
  | 18, _ => exact ms_has_in (i := 829) (by decide +kernel)
  | 19, _ => exact ms_has_in (i := 831) (by decide +kernel)
  | 20, _ => exact ms_has_in (i := 833) (by decide +kernel)
  | 21, _ => exact ms_has_in (i := 835) (by decide +kernel)
  | 22, _ => exact ms_has_in (i := 837) (by decide +kernel)
  | 23, _ => exact ms_has_in (i := 839) (by decide +kernel)
  | 24, _ => exact ms_has_in (i := 841) (by decide +kernel)
  | 25, _ => exact ms_has_in (i := 843) (by decide +kernel)
  | 26, _ => exact ms_has_in (i := 845) (by decide +kernel)
  | 27, _ => exact ms_has_in (i := 847) (by decide +kernel)
  | 28, _ => exact ms_has_in (i := 849) (by decide +kernel)
  | 29, _ => exact ms_has_in (i := 851) (by decide +kernel)
  | 30, _ => exact ms_has_in (i := 853) (by decide +kernel)
  | 31, _ => exact ms_has_in (i := 855) (by decide +kernel)
  | 32, _ => exact ms_has_in (i := 857) (by decide +kernel)
  | 33, _ => exact ms_has_in (i := 859) (by decide +kernel)
  | q + 34, h => exact absurd h (by omega)
theorem ms_p8 : ∀ k, k < 34 → parseFieldDescriptor (ms_T8 k).2.2.1 = some (ms_ft 8 k) := by decide +kernel
theorem ms_nm8 : ∀ a, a < 34 → ∀ b, b < 34 → a ≠ b → (ms_T8 a).2.1 ≠ (ms_T8 b).2.1 := by decide +kernel
theorem ms_d8 (ρ : Nat → Nat) : ∀ j, j < 34 → defaultValue (ms_ft 8 j) = vp_V ((ms_df 8).map (ms_mv ρ)) j := by
  intro j hj
  match j, hj with
  | 0, _ => rfl
  | 1, _ => rfl
  | 2, _ => rfl
  | 3, _ => rfl
  | 4, _ => rfl
  | 5, _ => rfl
  | 6, _ => rfl
  | 7, _ => rfl
  | 8, _ => rfl
  | 9, _ => rfl
  | 10, _ => rfl
  | 11, _ => rfl
  | 12, _ => rfl
  | 13, _ => rfl
  | 14, _ => rfl
  | 15, _ => rfl
  | 16, _ => rfl
  | 17, _ => rfl
  | 18, _ => rfl
  | 19, _ => rfl
  | 20, _ => rfl
  | 21, _ => rfl
  | 22, _ => rfl
  | 23, _ => rfl
  | 24, _ => rfl
  | 25, _ => rfl
  | 26, _ => rfl
  | 27, _ => rfl
  | 28, _ => rfl
  | 29, _ => rfl
  | 30, _ => rfl
  | 31, _ => rfl
  | 32, _ => rfl
  | 33, _ => rfl
  | q + 34, h => exact absurd h (by omega)
theorem ms_i8 : Cond.instantiable "MaskedSumModel" 34 ∈ ms_ws ∧ Cond.initialized "MaskedSumModel" ∈ ms_ws := ⟨ms_has_in (i := 754) (by decide +kernel), ms_has_in (i := 62) (by decide +kernel)⟩
theorem ms_clk : ∀ (ci : Nat) (r : vw_C), ms_cl[ci]? = some r → (∀ w ∈ u_ws r.1 r.2.1 r.2.2, w ∈ ms_ws) ∧ (∀ k, k < r.2.2 → parseFieldDescriptor (r.2.1 k).2.2.1 = some (ms_ft ci k)) ∧ (∀ a, a < r.2.2 → ∀ b, b < r.2.2 → a ≠ b → (r.2.1 a).2.1 ≠ (r.2.1 b).2.1) ∧ ci ≠ 99 := by
  intro ci r h
  match ci, h with
  | 0, h => cases h; exact ⟨ms_u0, ms_p0, ms_nm0, by decide⟩
  | 1, h => cases h; exact ⟨ms_u1, ms_p1, ms_nm1, by decide⟩
  | 2, h => cases h; exact ⟨ms_u2, ms_p2, ms_nm2, by decide⟩
  | 3, h => cases h; exact ⟨ms_u3, ms_p3, ms_nm3, by decide⟩
  | 4, h => cases h; exact ⟨ms_u4, ms_p4, ms_nm4, by decide⟩
  | 5, h => cases h; exact ⟨ms_u5, ms_p5, ms_nm5, by decide⟩
  | 6, h => cases h; exact ⟨ms_u6, ms_p6, ms_nm6, by decide⟩
  | 7, h => cases h; exact ⟨ms_u7, ms_p7, ms_nm7, by decide⟩
  | 8, h => cases h; exact ⟨ms_u8, ms_p8, ms_nm8, by decide⟩
  | _ + 9, h => cases h
theorem ms_cln : ∀ (ci : Nat) (r : vw_C), ms_cl[ci]? = some r → Cond.instantiable r.1 r.2.2 ∈ ms_ws ∧ Cond.initialized r.1 ∈ ms_ws ∧ ∀ (ρ : Nat → Nat) (j : Nat), j < r.2.2 → defaultValue (ms_ft ci j) = vp_V ((ms_df ci).map (ms_mv ρ)) j := by
  intro ci r h
  match ci, h with
  | 0, h => cases h; exact ⟨ms_i0.1, ms_i0.2, ms_d0⟩
  | 1, h => cases h; exact ⟨ms_i1.1, ms_i1.2, ms_d1⟩
  | 2, h => cases h; exact ⟨ms_i2.1, ms_i2.2, ms_d2⟩
  | 3, h => cases h; exact ⟨ms_i3.1, ms_i3.2, ms_d3⟩
  | 4, h => cases h; exact ⟨ms_i4.1, ms_i4.2, ms_d4⟩
  | 5, h => cases h; exact ⟨ms_i5.1, ms_i5.2, ms_d5⟩
  | 6, h => cases h; exact ⟨ms_i6.1, ms_i6.2, ms_d6⟩
  | 7, h => cases h; exact ⟨ms_i7.1, ms_i7.2, ms_d7⟩
  | 8, h => cases h; exact ⟨ms_i8.1, ms_i8.2, ms_d8⟩
  | _ + 9, h => cases h
theorem ms_elk {k ci : Nat} (h : ms_el k = some ci) (dA : Nat → ClassId) : ∃ r, ms_cl[ci]? = some r ∧ (ms_tys dA)[k]? = some (dA k, .object r.1) := by
  unfold ms_el at h
  split at h
  · rename_i hk
    subst hk
    cases h
    exact ⟨_, rfl, rfl⟩
  · split at h
    · rename_i hk
      subst hk
      cases h
      exact ⟨_, rfl, rfl⟩
    · cases h
end
section
/-! EVERY INSTRUCTION OF THE PURE MACHINE IS ONE OF THE REAL ONE. -/
-- what the exceptions need: words, two statics of Throwable, which is which
def ms_spw : List Cond := [.castable "java/lang/IllegalArgumentException" "java/lang/IllegalArgumentException", .castable "java/lang/IllegalStateException" "java/lang/IllegalStateException", .declares ⟨"java/lang/RuntimeException", "<init>", "()V"⟩, .declares ⟨"java/lang/Exception", "<init>", "()V"⟩, .declares ⟨"java/lang/Throwable", "<init>", "()V"⟩]
def ms_Zs (v : ms_V) (n d : String) (s : State) : Prop := ∃ (c : ClassId) (k : Class) (i : Nat) (f : Field) (a : Nat) (cell : Cell) (w : Value), s.vm.findClass "java/lang/Throwable" = some c ∧ s.fieldFound? "java/lang/Throwable" n d = some (c, k, i, f) ∧ f.isStatic = true ∧ k.statics = some a ∧ (a < ms_vB v ∧ (ms_vH v)[a]? = some cell) ∧ cell.vm.isStatics = true ∧ cell.cls = c ∧ f.slot < cell.slots.size ∧ k.staticTypes[f.slot]? = some f.type ∧ cell.slots[f.slot]? = some w ∧ (w = .null ∨ ∃ t, w = .ref t)
def ms_Gx2 (v : ms_V) (s : State) : Prop := (∀ w ∈ ms_spw, va_Nw w s) ∧ (ms_Zs v "UNASSIGNED_STACK" "[Ljava/lang/StackTraceElement;" s ∧ ms_Zs v "SUPPRESSED_SENTINEL" "Ljava/util/List;" s) ∧ ∃ c0 c1, s.vm.findClass "java/lang/IllegalArgumentException" = some c0 ∧ s.vm.findClass "java/lang/IllegalStateException" = some c1 ∧ s.vm.assignable c1 c0 = false ∧ s.vm.assignable c0 c1 = false
def ms_Gx (v : ms_V) (s : State) : Prop := ms_vok v ∧ va_K (ms_vD v) ms_cl (ms_tys (ms_vA v)) s ∧ (∀ k, k < 3 → va_X (ms_vr v k) (ms_vX v k).1 (ms_vX v k).2 s (ms_vH v)) ∧ (∀ w ∈ ms_nst, va_Nw w s) ∧ (∀ k, k = 1 ∨ k = 2 → va_Z ms_cO (ms_sn k) "[I" (.ref (ms_vr v k)) (fun q => ms_vB v ≤ q) s (ms_vH v)) ∧ ms_vB v ≤ (ms_vH v).size ∧ (va_AO ms_cM s ∧ va_AO ms_cP s) ∧ (∃ k, s.vm.classes[ms_vA v 2]? = some k ∧ k.kind = .array (ms_vA v 0) (.array .int)) ∧ ms_Gx2 v s
def ms_Cx (v : ms_V) (j : Nat) (p : Program) (s : State) (m : MethodId) (args : Array Value) (meth : Method) (c : Code) : Prop :=
  (p.tables.exec = Jvm.exec ∧ c.code = ms_by j ∧ c.maxLocals = ms_mx j ∧ s.vm.findClass (ms_ow j) = some m.cls) ∧ (∀ w ∈ ms_ws, w.before args s = true) ∧ ms_Gx v s ∧ (meth.sig.returnType = ms_rt j ∧ meth.locks = false ∧ (ms_ini j = true → meth.name = "<init>"))
section MsRows
variable {p : Program} {l : Launch} {e : Env} {R : Room} {s : State} {m : MethodId} {args : Array Value} {below : List Frame} {meth : Method} {c : Code} {H : Heap} {locs : List Loc} {cells slots : Nat} {Q : State → Prop}
variable {v : ms_V} {j pc : Nat} {ls : Array Slot} {L S : List Value} {σ : ms_M} {y : ms_N}
-- how a run goes on behind an instruction
def ms_K (p : Program) (l : Launch) (e : Env) (R : Room) (s : State) (m : MethodId) (args : Array Value) (below : List Frame) (meth : Method) (c : Code) (H : Heap) (locs : List Loc) (cells slots : Nat) (Q : State → Prop) (v : ms_V) (σ : ms_M) (y : ms_N) : Prop :=
  ∀ (H' : Heap) (ls' : Array Slot) (locs' : List Loc), ms_Lr (ms_vr v) ls' y.2.1 → ms_Rl v y.2.2.2 H' → (∀ q ∈ locs', q ∈ locs ∨ ms_vB v ≤ q.base) → (y.2.2.2.2.2.1 = false → H' = H ∧ locs' = locs ∧ y.2.2.2 = σ) →
    W p l e R s m args below meth c H' locs' (cells + (y.2.2.2.1 - σ.1)) (slots + (y.2.2.2.2.1 - σ.2.1)) Q (F0 m y.1 ls' (y.2.2.1.map (ms_mv (ms_vr v))))
theorem ms_K.same {pc' : Nat} {ls' : Array Slot} {L' S' : List Value} (K : ms_K p l e R s m args below meth c H locs cells slots Q v σ (pc', L', S', σ)) (hL : ms_Lr (ms_vr v) ls' L') (hR : ms_Rl v σ H) : W p l e R s m args below meth c H locs cells slots Q (F0 m pc' ls' (S'.map (ms_mv (ms_vr v)))) := by
  have h := K H ls' locs hL hR (fun q h => Or.inl h) (fun _ => ⟨rfl, rfl, rfl⟩)
  simpa only [Nat.sub_self, Nat.add_zero] using h
theorem ms_K.wr {pc' a i : Nat} {E : ms_E} {L' S' : List Value} {H1 : Heap} (K : ms_K p l e R s m args below meth c H locs cells slots Q v σ (pc', L', S', ms_wr σ a E)) (hv : ms_vok v) (ha : 3 ≤ a) (hL : ms_Lr (ms_vr v) ls L') (hR : ms_Rl v σ H) (he : ms_cr v a E H1) (z : H1.size = H.size) (oq : ∀ q, q ≠ ms_vr v a → H1[q]? = H[q]?) :
    W p l e R s m args below meth c H1 (locs ++ [⟨ms_vr v a, i⟩]) cells slots Q (F0 m pc' ls (S'.map (ms_mv (ms_vr v)))) := by
  have h := K H1 ls (locs ++ [⟨ms_vr v a, i⟩]) hL (hR.put hv ha he z oq) (fun q hq => by
    rcases List.mem_append.mp hq with h1 | h1
    · exact Or.inl h1
    · rw [List.mem_singleton] at h1
      subst h1
      right
      show ms_vB v ≤ ms_vr v a
      rw [hv.hi ha]
      omega) (fun h => by cases h)
  have h2 : W p l e R s m args below meth c H1 (locs ++ [⟨ms_vr v a, i⟩]) (cells + (σ.1 - σ.1)) (slots + (σ.2.1 - σ.2.1)) Q (F0 m pc' ls (S'.map (ms_mv (ms_vr v)))) := h
  simpa only [Nat.sub_self, Nat.add_zero] using h2
theorem ms_K.wl {pc' a : Nat} {E : ms_E} {L' S' : List Value} {H1 : Heap} {locs1 : List Loc} (K : ms_K p l e R s m args below meth c H locs cells slots Q v σ (pc', L', S', ms_wr σ a E)) (hv : ms_vok v) (ha : 3 ≤ a) (hL : ms_Lr (ms_vr v) ls L') (hR : ms_Rl v σ H) (he : ms_cr v a E H1) (z : H1.size = H.size) (oq : ∀ q, q ≠ ms_vr v a → H1[q]? = H[q]?) (hl : ∀ q ∈ locs1, q ∈ locs ∨ ms_vB v ≤ q.base) :
    W p l e R s m args below meth c H1 locs1 cells slots Q (F0 m pc' ls (S'.map (ms_mv (ms_vr v)))) := by
  have h := K H1 ls locs1 hL (hR.put hv ha he z oq) hl (fun h => by cases h)
  have h2 : W p l e R s m args below meth c H1 locs1 (cells + (σ.1 - σ.1)) (slots + (σ.2.1 - σ.2.1)) Q (F0 m pc' ls (S'.map (ms_mv (ms_vr v)))) := h
  simpa only [Nat.sub_self, Nat.add_zero] using h2
theorem ms_K.nw {pc' z : Nat} {E : ms_E} {L' S' : List Value} {H1 : Heap} (K : ms_K p l e R s m args below meth c H locs cells slots Q v σ (pc', L', S', ms_nw σ z E)) (hv : ms_vok v) (hL : ms_Lr (ms_vr v) ls L') (hR : ms_Rl v σ H) (he : ms_cr v σ.1 E H1) (hz : H1.size = H.size + 1) (oq : ∀ q, q < H.size → H1[q]? = H[q]?) :
    W p l e R s m args below meth c H1 locs (cells + 1) (slots + z) Q (F0 m pc' ls (S'.map (ms_mv (ms_vr v)))) := by
  have h := K H1 ls locs hL (hR.push hv he hz oq) (fun q hq => Or.inl hq) (fun h => by cases h)
  have h2 : W p l e R s m args below meth c H1 locs (cells + (σ.1 + 1 - σ.1)) (slots + (σ.2.1 + z - σ.2.1)) Q (F0 m pc' ls (S'.map (ms_mv (ms_vr v)))) := h
  rw [Nat.add_sub_cancel_left, Nat.add_sub_cancel_left] at h2
  exact h2
theorem ms_w_ii {f : Int32 → Int32 → Int32} {pc' : Nat} (row : ∀ (x z : Int32) (rest : List Value), W p l e R s m args below meth c H locs cells slots Q (F0 m pc' ls (.int (f x z) :: rest)) → W p l e R s m args below meth c H locs cells slots Q (F0 m pc ls (.int z :: .int x :: rest)))
    (h : ms_ii f pc' L S σ = some y) (K : ms_K p l e R s m args below meth c H locs cells slots Q v σ y) (hL : ms_Lr (ms_vr v) ls L) (hR : ms_Rl v σ H) : W p l e R s m args below meth c H locs cells slots Q (F0 m pc ls (S.map (ms_mv (ms_vr v)))) := by
  unfold ms_ii at h
  split at h
  · cases h
    exact row _ _ _ (K.same hL hR)
  · cases h
theorem ms_w_id {f : Int32 → Int32 → Int32} {pc' : Nat} (row : ∀ (x z : Int32) (rest : List Value), ¬ z = 0 → W p l e R s m args below meth c H locs cells slots Q (F0 m pc' ls (.int (f x z) :: rest)) → W p l e R s m args below meth c H locs cells slots Q (F0 m pc ls (.int z :: .int x :: rest)))
    (h : ms_id f pc' L S σ = some y) (K : ms_K p l e R s m args below meth c H locs cells slots Q v σ y) (hL : ms_Lr (ms_vr v) ls L) (hR : ms_Rl v σ H) : W p l e R s m args below meth c H locs cells slots Q (F0 m pc ls (S.map (ms_mv (ms_vr v)))) := by
  unfold ms_id at h
  split at h
  · split at h
    · cases h
    · rename_i hz
      cases h
      exact row _ _ _ hz (K.same hL hR)
  · cases h
theorem ms_w_ll {f : Int64 → Int64 → Int64} {pc' : Nat} (row : ∀ (x z : Int64) (rest : List Value), W p l e R s m args below meth c H locs cells slots Q (F0 m pc' ls (.long (f x z) :: rest)) → W p l e R s m args below meth c H locs cells slots Q (F0 m pc ls (.long z :: .long x :: rest)))
    (h : ms_ll f pc' L S σ = some y) (K : ms_K p l e R s m args below meth c H locs cells slots Q v σ y) (hL : ms_Lr (ms_vr v) ls L) (hR : ms_Rl v σ H) : W p l e R s m args below meth c H locs cells slots Q (F0 m pc ls (S.map (ms_mv (ms_vr v)))) := by
  unfold ms_ll at h
  split at h
  · cases h
    exact row _ _ _ (K.same hL hR)
  · cases h
theorem ms_w_li {f : Int64 → Int32 → Int64} {pc' : Nat} (row : ∀ (x : Int64) (z : Int32) (rest : List Value), W p l e R s m args below meth c H locs cells slots Q (F0 m pc' ls (.long (f x z) :: rest)) → W p l e R s m args below meth c H locs cells slots Q (F0 m pc ls (.int z :: .long x :: rest)))
    (h : ms_li f pc' L S σ = some y) (K : ms_K p l e R s m args below meth c H locs cells slots Q v σ y) (hL : ms_Lr (ms_vr v) ls L) (hR : ms_Rl v σ H) : W p l e R s m args below meth c H locs cells slots Q (F0 m pc ls (S.map (ms_mv (ms_vr v)))) := by
  unfold ms_li at h
  split at h
  · cases h
    exact row _ _ _ (K.same hL hR)
  · cases h
theorem ms_w_ldi {k pc' : Nat} (row : ∀ (x : Int32) (rest : List Value), ls[k]? = some (.val (.int x)) → W p l e R s m args below meth c H locs cells slots Q (F0 m pc' ls (.int x :: rest)) → W p l e R s m args below meth c H locs cells slots Q (F0 m pc ls rest))
    (h : ms_ldi L S σ k pc' = some y) (K : ms_K p l e R s m args below meth c H locs cells slots Q v σ y) (hL : ms_Lr (ms_vr v) ls L) (hR : ms_Rl v σ H) : W p l e R s m args below meth c H locs cells slots Q (F0 m pc ls (S.map (ms_mv (ms_vr v)))) := by
  unfold ms_ldi at h
  split at h
  · rename_i x hx
    cases h
    exact row x _ (hL.at hx (by simp)) (K.same hL hR)
  · cases h
theorem ms_w_ldl {k pc' : Nat} (row : ∀ (x : Int64) (rest : List Value), ls[k]? = some (.val (.long x)) → W p l e R s m args below meth c H locs cells slots Q (F0 m pc' ls (.long x :: rest)) → W p l e R s m args below meth c H locs cells slots Q (F0 m pc ls rest))
    (h : ms_ldl L S σ k pc' = some y) (K : ms_K p l e R s m args below meth c H locs cells slots Q v σ y) (hL : ms_Lr (ms_vr v) ls L) (hR : ms_Rl v σ H) : W p l e R s m args below meth c H locs cells slots Q (F0 m pc ls (S.map (ms_mv (ms_vr v)))) := by
  unfold ms_ldl at h
  split at h
  · rename_i x hx
    cases h
    exact row x _ (hL.at hx (by simp)) (K.same hL hR)
  · cases h
theorem ms_w_lda {k pc' : Nat} (row : ∀ (x : Nat) (rest : List Value), ls[k]? = some (.val (.ref x)) → W p l e R s m args below meth c H locs cells slots Q (F0 m pc' ls (.ref x :: rest)) → W p l e R s m args below meth c H locs cells slots Q (F0 m pc ls rest))
    (h : ms_lda L S σ k pc' = some y) (K : ms_K p l e R s m args below meth c H locs cells slots Q v σ y) (hL : ms_Lr (ms_vr v) ls L) (hR : ms_Rl v σ H) : W p l e R s m args below meth c H locs cells slots Q (F0 m pc ls (S.map (ms_mv (ms_vr v)))) := by
  unfold ms_lda at h
  split at h
  · rename_i x hx
    cases h
    exact row _ _ (hL.at hx (by simp)) (K.same hL hR)
  · cases h
theorem ms_w_sti {k pc' : Nat} (row : ∀ (x : Int32) (rest : List Value), k < L.length → (∀ ls' : Array Slot, lv_has ls' L.length ((k, Value.int x) :: (ms_lv (ms_vr v) L).filter (fun q => !(q.1 == k) && !(q.1 + 1 == k && q.2.category == 2))) → W p l e R s m args below meth c H locs cells slots Q (F0 m pc' ls' rest)) → W p l e R s m args below meth c H locs cells slots Q (F0 m pc ls (.int x :: rest)))
    (h : ms_sti L S σ k pc' = some y) (K : ms_K p l e R s m args below meth c H locs cells slots Q v σ y) (hR : ms_Rl v σ H) : W p l e R s m args below meth c H locs cells slots Q (F0 m pc ls (S.map (ms_mv (ms_vr v)))) := by
  unfold ms_sti at h
  split at h
  · split at h
    · rename_i x r hk
      cases h
      exact row x _ hk (fun ls' hl => K.same (ms_Lr.set1 (v := .int x) hk hl) hR)
    · cases h
  · cases h
theorem ms_w_sta {k pc' : Nat} (row : ∀ (x : Nat) (rest : List Value), k < L.length → (∀ ls' : Array Slot, lv_has ls' L.length ((k, Value.ref x) :: (ms_lv (ms_vr v) L).filter (fun q => !(q.1 == k) && !(q.1 + 1 == k && q.2.category == 2))) → W p l e R s m args below meth c H locs cells slots Q (F0 m pc' ls' rest)) → W p l e R s m args below meth c H locs cells slots Q (F0 m pc ls (.ref x :: rest)))
    (h : ms_sta L S σ k pc' = some y) (K : ms_K p l e R s m args below meth c H locs cells slots Q v σ y) (hR : ms_Rl v σ H) : W p l e R s m args below meth c H locs cells slots Q (F0 m pc ls (S.map (ms_mv (ms_vr v)))) := by
  unfold ms_sta at h
  split at h
  · split at h
    · rename_i x r hk
      cases h
      exact row _ _ hk (fun ls' hl => K.same (ms_Lr.set1 (v := .ref x) hk hl) hR)
    · cases h
  · cases h
theorem ms_w_stl {k pc' : Nat} (row : ∀ (x : Int64) (rest : List Value), k + 1 < L.length → (∀ ls' : Array Slot, lv_has ls' L.length ((k, Value.long x) :: (ms_lv (ms_vr v) L).filter (fun q => !(q.1 == k) && (!(q.1 == k + 1) && !(q.1 + 1 == k && q.2.category == 2)))) → W p l e R s m args below meth c H locs cells slots Q (F0 m pc' ls' rest)) → W p l e R s m args below meth c H locs cells slots Q (F0 m pc ls (.long x :: rest)))
    (h : ms_stl L S σ k pc' = some y) (K : ms_K p l e R s m args below meth c H locs cells slots Q v σ y) (hR : ms_Rl v σ H) : W p l e R s m args below meth c H locs cells slots Q (F0 m pc ls (S.map (ms_mv (ms_vr v)))) := by
  unfold ms_stl at h
  split at h
  · split at h
    · rename_i x r hk
      cases h
      exact row x _ hk (fun ls' hl => K.same (ms_Lr.set2 (v := .long x) hk hl) hR)
    · cases h
  · cases h
theorem ms_w_br (cd : Jvm.ClassFile.Cond) {x z : Int32} {a b : Nat} {rest : List Value} {off : Int} (hexec : p.tables.exec = Jvm.exec) (hb : c.code = ms_by j) (hd : decode (ms_by j) pc = .ok (.if_icmp cd off, 3)) (ht : (pc : Int) + off = (a : Int)) (hb2 : pc + 3 = b)
    (k : W p l e R s m args below meth c H locs cells slots Q (F0 m (ms_br cd x z a b) ls rest)) : W p l e R s m args below meth c H locs cells slots Q (F0 m pc ls (.int z :: .int x :: rest)) := by
  subst hb2
  cases cd <;> simp only [ms_br] at k
  · exact lv_icmp_eq hexec hb hd ht (fun h => by simpa only [if_pos h] using k) (fun h => by simpa only [if_neg h] using k)
  · exact lv_icmp_ne hexec hb hd ht (fun h => by simpa only [if_neg h] using k) (fun h => by simpa only [if_pos h] using k)
  · exact lv_icmp_lt hexec hb hd ht (fun h => by simpa only [if_pos h] using k) (fun h => by simpa only [if_neg h] using k)
  · exact lv_icmp_ge hexec hb hd ht (fun h => by simpa only [if_pos h] using k) (fun h => by simpa only [if_neg h] using k)
  · exact lv_icmp_gt hexec hb hd ht (fun h => by simpa only [if_pos h] using k) (fun h => by simpa only [if_neg h] using k)
  · exact lv_icmp_le hexec hb hd ht (fun h => by simpa only [if_pos h] using k) (fun h => by simpa only [if_neg h] using k)
theorem ms_w_br0 (cd : Jvm.ClassFile.Cond) {x : Int32} {a b : Nat} {rest : List Value} {off : Int} (hexec : p.tables.exec = Jvm.exec) (hb : c.code = ms_by j) (hd : decode (ms_by j) pc = .ok (.ifCond cd off, 3)) (ht : (pc : Int) + off = (a : Int)) (hb2 : pc + 3 = b)
    (k : W p l e R s m args below meth c H locs cells slots Q (F0 m (ms_br cd x 0 a b) ls rest)) : W p l e R s m args below meth c H locs cells slots Q (F0 m pc ls (.int x :: rest)) := by
  subst hb2
  cases cd <;> simp only [ms_br] at k
  · exact lv_if_eq hexec hb hd ht (fun h => by simpa only [if_pos h] using k) (fun h => by simpa only [if_neg h] using k)
  · exact lv_if_ne hexec hb hd ht (fun h => by simpa only [if_neg h] using k) (fun h => by simpa only [if_pos h] using k)
  · exact lv_if_lt hexec hb hd ht (fun h => by simpa only [if_pos h] using k) (fun h => by simpa only [if_neg h] using k)
  · exact lv_if_ge hexec hb hd ht (fun h => by simpa only [if_pos h] using k) (fun h => by simpa only [if_neg h] using k)
  · exact lv_if_gt hexec hb hd ht (fun h => by simpa only [if_pos h] using k) (fun h => by simpa only [if_neg h] using k)
  · exact lv_if_le hexec hb hd ht (fun h => by simpa only [if_pos h] using k) (fun h => by simpa only [if_neg h] using k)
end MsRows
end
section
/-! THE INSTRUCTIONS THAT READ AND WRITE CELLS. -/
theorem ms_fit_ok {ty : FieldType} {val : Value} (ρ : Nat → Nat) (h : ms_fit ty val = true) : narrow ty (ms_mv ρ val) = ms_mv ρ val ∧ fits ty (ms_mv ρ val) = true := by
  unfold ms_fit at h
  split at h
  · exact ⟨rfl, rfl⟩
  · exact ⟨rfl, rfl⟩
  · rcases of_decide_eq_true h with rfl | rfl
    · exact ⟨show narrow .boolean (.int 0) = .int 0 by decide, show fits .boolean (.int 0) = true by decide⟩
    · exact ⟨show narrow .boolean (.int 1) = .int 1 by decide, show fits .boolean (.int 1) = true by decide⟩
  · exact ⟨rfl, rfl⟩
  · exact ⟨rfl, rfl⟩
  · cases h
section MsMem
variable {p : Program} {l : Launch} {e : Env} {R : Room} {s : State} {m : MethodId} {args : Array Value} {below : List Frame} {meth : Method} {c : Code} {H : Heap} {locs : List Loc} {cells slots : Nat} {Q : State → Prop}
variable {v : ms_V} {j pc : Nat} {ls : Array Slot} {rest : List Value} {σ : ms_M}
theorem ms_obj (hR : ms_Rl v σ H) {a ci : Nat} {fs : List Value} (hM : σ.2.2.2 a = .inr (ci, fs)) {r : vw_C} (hr : ms_cl[ci]? = some r) : 3 ≤ a ∧ t_OB (ms_vr v a) ((ms_vD v).1 ci) r.2.2 ((ms_vD v).2 ci) H (vp_V (fs.map (ms_mv (ms_vr v)))) := by
  have h := hR.2 a
  rw [hM] at h
  rcases h with h | ⟨h1, r', h2, h3⟩
  · exact absurd h (ms_clk ci r hr).2.2.2
  · cases h2.symm.trans hr
    exact ⟨h1, h3⟩
theorem ms_w_getf (C : ms_Cx v j p s m args meth c) (hR : ms_Rl v σ H) {q a ci k : Nat} {fs : List Value} {val : Value} (hd : decode (ms_by j) pc = .ok (.getfield q, 3)) (hM : σ.2.2.2 a = .inr (ci, fs)) {r : vw_C} (hr : ms_cl[ci]? = some r) (hk : k < r.2.2) (hlink : Cond.fieldLink (ms_ow j) q (r.2.1 k).1 (r.2.1 k).2.1 (r.2.1 k).2.2.1 ∈ ms_ws) (hv : fs[k]? = some val)
    (kk : W p l e R s m args below meth c H locs cells slots Q (F0 m (pc + 3) ls (ms_mv (ms_vr v) val :: rest))) : W p l e R s m args below meth c H locs cells slots Q (F0 m pc ls (.ref (ms_vr v a) :: rest)) := by
  obtain ⟨⟨hx, hb, -, hown⟩, hts, ⟨-, hK, -⟩, -⟩ := C
  obtain ⟨C0, T, N⟩ := r
  refine va_get (D := ms_vD v) (cl := ms_cl) (ws := [(ms_vr v a, .inr (ci, fs.map (ms_mv (ms_vr v))))]) (ci := ci) (C := C0) (T := T) (N := N) (Ts := ms_ws) hx hb hts (ms_clk ci _ hr).1 hown hK ?_ 0 rfl hr k hk (hts _ hlink) (fun _ h => h) (v := ms_mv (ms_vr v) val) ?_ hd kk
  · intro i w hw
    have : i = 0 := by
      have := (List.getElem?_eq_some_iff.mp hw).1
      simp at this
      exact this
    subst this
    cases hw
    exact ⟨_, hr, (ms_obj hR hM hr).2⟩
  · rw [List.getElem?_map, hv]
    rfl
theorem ms_w_putf (C : ms_Cx v j p s m args meth c) (hR : ms_Rl v σ H) {q a ci k : Nat} {fs : List Value} {val : Value} (hd : decode (ms_by j) pc = .ok (.putfield q, 3)) (hM : σ.2.2.2 a = .inr (ci, fs)) {r : vw_C} (hr : ms_cl[ci]? = some r) (hk : k < r.2.2) (hlink : Cond.fieldLink (ms_ow j) q (r.2.1 k).1 (r.2.1 k).2.1 (r.2.1 k).2.2.1 ∈ ms_ws)
    (hfin : (r.2.1 k).2.2.2 = false ∨ (ms_ini j = true ∧ (r.2.1 k).1 = ms_ow j)) (hl : k < fs.length) (hfit : ms_fit (ms_ft ci k) val = true)
    (kk : ∀ (H1 : Heap) (i : Nat), ms_cr v a (.inr (ci, fs.set k val)) H1 → H1.size = H.size → (∀ q, q ≠ ms_vr v a → H1[q]? = H[q]?) → W p l e R s m args below meth c H1 (locs ++ [⟨ms_vr v a, i⟩]) cells slots Q (F0 m (pc + 3) ls rest)) : W p l e R s m args below meth c H locs cells slots Q (F0 m pc ls (ms_mv (ms_vr v) val :: .ref (ms_vr v a) :: rest)) := by
  obtain ⟨⟨hx, hb, -, hown⟩, hts, ⟨-, hK, -⟩, -, -, hini⟩ := C
  obtain ⟨ha3, hob⟩ := ms_obj hR hM hr
  obtain ⟨C0, T, N⟩ := r
  obtain ⟨hin, hty, hnm, -⟩ := ms_clk ci _ hr
  obtain ⟨hn9, hf9⟩ := ms_fit_ok (ms_vr v) hfit
  have hap := va_apart (own := ms_ow j) hts hin (ms_ft ci) hty hnm hK hr
  obtain ⟨cell, q1, q2, q3, q4⟩ := hob
  obtain ⟨hS, hfc, kC, hkC, hkind⟩ := hK.1 ci _ hr
  obtain ⟨cf, kf, fi, f, hi, hsl⟩ := hS k hk
  have hst := (u_facts hfc hkC (u_lays hts hin hk) hi).1
  have fin : ∀ H' : Heap, H'[ms_vr v a]? = some (cell.setSlot f.slot (ms_mv (ms_vr v) val)) → ms_cr v a (.inr (ci, fs.set k val)) H' := by
    intro H' e1
    refine Or.inr ⟨ha3, _, hr, ?_⟩
    rw [hsl] at e1
    refine t_OB.to (V := updV (vp_V (fs.map (ms_mv (ms_vr v)))) k (ms_mv (ms_vr v) val)) ⟨_, e1, q2, q3, t_set q4 hap hk _⟩ (fun i _ => ?_)
    rw [List.map_set]
    exact vp_updV_set (by simpa using hl) _ i
  by_cases hF : (T k).2.2.2 = true
  · rcases hfin with h0 | ⟨hj, hdecl⟩
    · exact absurd (h0.symm.trans hF) (by decide)
    · have hlay := hts _ (hin _ (u_in_lay hk))
      unfold u_lay at hlay
      rw [if_pos hF] at hlay
      have hcf : m.cls = cf := by
        obtain ⟨_, _, c', _, _, _, -, -, hf', -, -, -, hown2, -⟩ := Cond.laysFinal_spec hlay
        have e1 : c' = cf := by have := hi.symm.trans hf'; simp at this; exact this.1.symm
        have hdecl' : (T k).1 = ms_ow j := hdecl
        rw [hdecl'] at hown2
        rw [← e1]; exact Option.some.inj (hown.symm.trans hown2)
      have h6 := u_fits hfc hkC hkind (Or.inr hlay) hi (hty k hk) hn9 hf9
      exact W.putFinK hx hb hown (hts _ hlink) hi hst hcf (hini hj) (by rw [q2]; exact h6) q1 q3 (by rw [hsl]; exact k2_hasslot (q4 k hk)) rfl rfl hd fun H' e1 e2 e3 => kk H' _ (fin H' e1) e2 e3
  · have hF' : (T k).2.2.2 = false := by simpa using hF
    have hlay := hts _ (hin _ (u_in_lay hk))
    unfold u_lay at hlay
    rw [if_neg hF] at hlay
    have h6 := u_store hfc hkC hkind hlay hi (hty k hk) hn9 hf9
    exact W.putK hx hb (f := f) ⟨hown, hts _ hlink, ⟨_, _, _, hi⟩, hst⟩ (by rw [q2]; exact h6) q1 q3 (by rw [hsl]; exact k2_hasslot (q4 k hk)) rfl rfl hd fun H' e1 e2 e3 => kk H' _ (fin H' e1) e2 e3
theorem ms_arrT (C : ms_Cx v j p s m args meth c) {t : Nat} (ht : t < 5) : ∃ ty, (ms_tys (ms_vA v))[t]? = some (ms_vA v t, ty) ∧ ArrOfT s (ms_vA v t) ty ∧ va_RA s (ms_vA v t) ty := by
  have hK := C.2.2.1.2.1.2
  match t, ht with
  | 0, _ => exact ⟨.int, rfl, hK 0 _ rfl⟩
  | 1, _ => exact ⟨.long, rfl, hK 1 _ rfl⟩
  | 2, _ => exact ⟨.array .int, rfl, hK 2 _ rfl⟩
  | 3, _ => exact ⟨.object ms_cM, rfl, hK 3 _ rfl⟩
  | 4, _ => exact ⟨.object ms_cP, rfl, hK 4 _ rfl⟩
theorem ms_w_iald (C : ms_Cx v j p s m args meth c) (hR : ms_Rl v σ H) {a t n : Nat} {f : Nat → Int32} {i : Int32} (hd : decode (ms_by j) pc = .ok (.iaload, 1)) (hM : σ.2.2.2 a = .inl (t, n, .inl f)) (ht : t = 0 ∨ t = 5) (hin : ms_in i n = true)
    (kk : W p l e R s m args below meth c H locs cells slots Q (F0 m (pc + 1) ls (.int (f i.toNatClampNeg) :: rest))) : W p l e R s m args below meth c H locs cells slots Q (F0 m pc ls (.int i :: .ref (ms_vr v a) :: rest)) := by
  have hv := ms_in_vp hin
  have hlt : i.toNatClampNeg < n := Nat.not_le.mp fun q => hv (Or.inr q)
  have h := hR.2 a
  rw [hM] at h
  rcases h with ⟨h1, h2, h3⟩ | ⟨h1, h2, h3⟩
  · obtain ⟨⟨hx, hb, -, -⟩, -, ⟨hvk, -, hX, -⟩, -⟩ := C
    cases h3
    obtain ⟨scr, g1, g2, g3, g4, g5⟩ := hX a h2
    refine W.iald hx hb (cell := scr) ?_ g2 g3 (by rw [g4]; exact hv) (g5 _ hlt) rfl rfl hd kk
    rw [hR.1.2.2 _ (hvk.lo h2)]
    exact g1
  · rcases ht with rfl | rfl
    · obtain ⟨-, -, hA, -⟩ := (⟨_, rfl, C.2.2.1.2.1.2 0 _ rfl⟩ : ∃ ty, (ms_tys (ms_vA v))[0]? = some (ms_vA v 0, ty) ∧ ArrOfT s (ms_vA v 0) .int ∧ va_RA s (ms_vA v 0) .int)
      have h3 : H[ms_vr v a]? = some (arrV (ms_vA v 0) n (fun j => .int (f j))) := h3
      exact W.iald (v := .int (f i.toNatClampNeg)) C.1.1 C.1.2.1 h3 (hA n (fun j => .int (f j))) (fun q => by cases q) (by show ¬ (i < 0 ∨ (arrV _ _ _).slots.size ≤ _); rw [arrV_size]; exact hv) (by show (arrV _ _ _).slots[_]? = _; rw [arrV_read _ _ hlt]) rfl rfl hd kk
    · omega
theorem ms_w_lald (C : ms_Cx v j p s m args meth c) (hR : ms_Rl v σ H) {a n : Nat} {f : Nat → Int64} {i : Int32} (hd : decode (ms_by j) pc = .ok (.laload, 1)) (hM : σ.2.2.2 a = .inl (1, n, .inr (.inl f))) (hin : ms_in i n = true)
    (kk : W p l e R s m args below meth c H locs cells slots Q (F0 m (pc + 1) ls (.long (f i.toNatClampNeg) :: rest))) : W p l e R s m args below meth c H locs cells slots Q (F0 m pc ls (.int i :: .ref (ms_vr v a) :: rest)) := by
  have hv := ms_in_vp hin
  have hlt : i.toNatClampNeg < n := Nat.not_le.mp fun q => hv (Or.inr q)
  have h := hR.2 a
  rw [hM] at h
  rcases h with ⟨h1, -⟩ | ⟨h1, h2, h3⟩
  · cases h1
  · have hA := (C.2.2.1.2.1.2 1 _ rfl).1
    have h3 : H[ms_vr v a]? = some (arrV (ms_vA v 1) n (fun j => .long (f j))) := h3
    exact W.lald (v := .long (f i.toNatClampNeg)) C.1.1 C.1.2.1 h3 (hA n (fun j => .long (f j))) (fun q => by cases q) (by show ¬ (i < 0 ∨ (arrV _ _ _).slots.size ≤ _); rw [arrV_size]; exact hv) (by show (arrV _ _ _).slots[_]? = _; rw [arrV_read _ _ hlt]) rfl rfl hd kk
theorem ms_w_aald (C : ms_Cx v j p s m args meth c) (hR : ms_Rl v σ H) {a t n b : Nat} {f : Nat → Option Nat} {i : Int32} (hd : decode (ms_by j) pc = .ok (.aaload, 1)) (hM : σ.2.2.2 a = .inl (t, n, .inr (.inr (.inr (.inr f))))) (ht : 2 ≤ t) (hin : ms_in i n = true) (hf : f i.toNatClampNeg = some b)
    (kk : W p l e R s m args below meth c H locs cells slots Q (F0 m (pc + 1) ls (.ref (ms_vr v b) :: rest))) : W p l e R s m args below meth c H locs cells slots Q (F0 m pc ls (.int i :: .ref (ms_vr v a) :: rest)) := by
  have hv := ms_in_vp hin
  have hlt : i.toNatClampNeg < n := Nat.not_le.mp fun q => hv (Or.inr q)
  have h := hR.2 a
  rw [hM] at h
  rcases h with ⟨-, -, h3⟩ | ⟨h1, h2, h3⟩
  · cases h3
  · have hty : ∃ ty : FieldType, ty.isReference = true ∧ ArrOfT s (ms_vA v t) ty := by
      match t, h1, ht with
      | 2, _, _ => exact ⟨_, rfl, (C.2.2.1.2.1.2 2 _ rfl).1⟩
      | 3, _, _ => exact ⟨_, rfl, (C.2.2.1.2.1.2 3 _ rfl).1⟩
      | 4, _, _ => exact ⟨_, rfl, (C.2.2.1.2.1.2 4 _ rfl).1⟩
    obtain ⟨ty, hr, hA⟩ := hty
    have h3 : H[ms_vr v a]? = some (arrV (ms_vA v t) n (fun j => va_rf ((f j).map (ms_vr v)))) := h3
    refine W.aald (v := .ref (ms_vr v b)) C.1.1 C.1.2.1 h3 (hA n (fun j => va_rf ((f j).map (ms_vr v)))) hr (fun q => by cases q) (by show ¬ (i < 0 ∨ (arrV _ _ _).slots.size ≤ _); rw [arrV_size]; exact hv) ?_ rfl rfl hd kk
    show (arrV _ _ (fun j => va_rf ((f j).map (ms_vr v)))).slots[_]? = _
    rw [arrV_read _ _ hlt, hf]
    rfl
theorem ms_w_alen (C : ms_Cx v j p s m args meth c) (hR : ms_Rl v σ H) {a t n : Nat} {d : (Nat → Int32) ⊕ (Nat → Int64) ⊕ (Nat → UInt32) ⊕ (Nat → UInt64) ⊕ (Nat → Option Nat)} (hd : decode (ms_by j) pc = .ok (.arraylength, 1)) (hM : σ.2.2.2 a = .inl (t, n, d))
    (kk : W p l e R s m args below meth c H locs cells slots Q (F0 m (pc + 1) ls (.int (nI n) :: rest))) : W p l e R s m args below meth c H locs cells slots Q (F0 m pc ls (.ref (ms_vr v a) :: rest)) := by
  have h := hR.2 a
  rw [hM] at h
  rcases h with ⟨h1, h2, h3⟩ | ⟨h1, h2, h3⟩
  · obtain ⟨⟨hx, hb, -, -⟩, -, ⟨hvk, -, hX, -⟩, -⟩ := C
    cases h3
    obtain ⟨scr, g1, g2, g3, g4, g5⟩ := hX a h2
    refine W.alen (n := nI (ms_vX v a).1) hx hb (cell := scr) ?_ g2 (by rw [g4]; rfl) rfl rfl hd kk
    rw [hR.1.2.2 _ (hvk.lo h2)]
    exact g1
  · obtain ⟨ty, -, hA, -⟩ := ms_arrT C h1
    rcases d with f | f | f | f | f
    · exact W.alen (n := nI n) C.1.1 C.1.2.1 h3 (hA n (fun j => .int (f j))) (by show (arrV _ _ _).slots.size.toInt32 = _; rw [arrV_size]; rfl) rfl rfl hd kk
    · exact W.alen (n := nI n) C.1.1 C.1.2.1 h3 (hA n (fun j => .long (f j))) (by show (arrV _ _ _).slots.size.toInt32 = _; rw [arrV_size]; rfl) rfl rfl hd kk
    · exact W.alen (n := nI n) C.1.1 C.1.2.1 h3 (hA n (fun j => .float (f j))) (by show (arrV _ _ _).slots.size.toInt32 = _; rw [arrV_size]; rfl) rfl rfl hd kk
    · exact W.alen (n := nI n) C.1.1 C.1.2.1 h3 (hA n (fun j => .double (f j))) (by show (arrV _ _ _).slots.size.toInt32 = _; rw [arrV_size]; rfl) rfl rfl hd kk
    · exact W.alen (n := nI n) C.1.1 C.1.2.1 h3 (hA n (fun j => va_rf ((f j).map (ms_vr v)))) (by show (arrV _ _ _).slots.size.toInt32 = _; rw [arrV_size]; rfl) rfl rfl hd kk
theorem ms_w_iast (C : ms_Cx v j p s m args meth c) (hR : ms_Rl v σ H) {a n : Nat} {f : Nat → Int32} {i x : Int32} (hd : decode (ms_by j) pc = .ok (.iastore, 1)) (hM : σ.2.2.2 a = .inl (0, n, .inl f)) (hin : ms_in i n = true)
    (kk : ∀ (H1 : Heap) (z : Nat), 3 ≤ a → ms_cr v a (.inl (0, n, .inl (upd f i.toNatClampNeg x))) H1 → H1.size = H.size → (∀ q, q ≠ ms_vr v a → H1[q]? = H[q]?) → W p l e R s m args below meth c H1 (locs ++ [⟨ms_vr v a, z⟩]) cells slots Q (F0 m (pc + 1) ls rest)) : W p l e R s m args below meth c H locs cells slots Q (F0 m pc ls (.int x :: .int i :: .ref (ms_vr v a) :: rest)) := by
  have hv := ms_in_vp hin
  have h := hR.2 a
  rw [hM] at h
  rcases h with ⟨h1, -⟩ | ⟨h1, h2, h3⟩
  · cases h1
  · refine W.iast C.1.1 C.1.2.1 h3 ((C.2.2.1.2.1.2 0 _ rfl).1 n (fun j => .int (f j))) (fun q => by cases q) (by show ¬ (i < 0 ∨ (arrV _ _ _).slots.size ≤ _); rw [arrV_size]; exact hv) rfl rfl hd fun H1 e1 z oq => kk H1 _ h2 (Or.inr ⟨h1, h2, ?_⟩) z oq
    show H1[ms_vr v a]? = some (arrV (ms_vA v 0) n (fun j => .int (upd f i.toNatClampNeg x j)))
    rw [e1]
    show some ((arrV (ms_vA v 0) n (fun j => .int (f j))).setSlot i.toNatClampNeg (.int x)) = _
    rw [arrV_store]
    congr 2
    funext q
    by_cases hq : q = i.toNatClampNeg
    · subst hq
      simp [updV, upd]
    · simp [updV, upd, hq]
theorem ms_w_last (C : ms_Cx v j p s m args meth c) (hR : ms_Rl v σ H) {a n : Nat} {f : Nat → Int64} {i : Int32} {x : Int64} (hd : decode (ms_by j) pc = .ok (.lastore, 1)) (hM : σ.2.2.2 a = .inl (1, n, .inr (.inl f))) (hin : ms_in i n = true)
    (kk : ∀ (H1 : Heap) (z : Nat), 3 ≤ a → ms_cr v a (.inl (1, n, .inr (.inl (vp_updL f i.toNatClampNeg x)))) H1 → H1.size = H.size → (∀ q, q ≠ ms_vr v a → H1[q]? = H[q]?) → W p l e R s m args below meth c H1 (locs ++ [⟨ms_vr v a, z⟩]) cells slots Q (F0 m (pc + 1) ls rest)) : W p l e R s m args below meth c H locs cells slots Q (F0 m pc ls (.long x :: .int i :: .ref (ms_vr v a) :: rest)) := by
  have hv := ms_in_vp hin
  have h := hR.2 a
  rw [hM] at h
  rcases h with ⟨h1, -⟩ | ⟨h1, h2, h3⟩
  · cases h1
  · refine W.last C.1.1 C.1.2.1 h3 ((C.2.2.1.2.1.2 1 _ rfl).1 n (fun j => .long (f j))) (fun q => by cases q) (by show ¬ (i < 0 ∨ (arrV _ _ _).slots.size ≤ _); rw [arrV_size]; exact hv) rfl rfl hd fun H1 e1 z oq => kk H1 _ h2 (Or.inr ⟨h1, h2, ?_⟩) z oq
    show H1[ms_vr v a]? = some (arrV (ms_vA v 1) n (fun j => .long (vp_updL f i.toNatClampNeg x j)))
    rw [e1]
    show some ((arrV (ms_vA v 1) n (fun j => .long (f j))).setSlot i.toNatClampNeg (.long x)) = _
    rw [arrV_store]
    congr 2
    funext q
    by_cases hq : q = i.toNatClampNeg
    · subst hq
      simp [updV, vp_updL]
    · simp [updV, vp_updL, hq]
end MsMem
end
section
/-! NEW CELLS, COPIES, SWITCHES. -/
section MsMem2
variable {p : Program} {l : Launch} {e : Env} {R : Room} {s : State} {m : MethodId} {args : Array Value} {below : List Frame} {meth : Method} {c : Code} {H : Heap} {locs : List Loc} {cells slots : Nat} {Q : State → Prop}
variable {v : ms_V} {j pc : Nat} {ls : Array Slot} {rest : List Value} {σ : ms_M}
theorem ms_w_aast (C : ms_Cx v j p s m args meth c) (hR : ms_Rl v σ H) {a k n b ci : Nat} {f : Nat → Option Nat} {fs : List Value} {i : Int32} (hd : decode (ms_by j) pc = .ok (.aastore, 1)) (hM : σ.2.2.2 a = .inl (k, n, .inr (.inr (.inr (.inr f))))) (hV : σ.2.2.2 b = .inr (ci, fs)) (hel : ms_el k = some ci) (hin : ms_in i n = true)
    (kk : ∀ (H1 : Heap) (z : Nat), 3 ≤ a → ms_cr v a (.inl (k, n, .inr (.inr (.inr (.inr (va_up f i.toNatClampNeg (some b))))))) H1 → H1.size = H.size → (∀ q, q ≠ ms_vr v a → H1[q]? = H[q]?) → W p l e R s m args below meth c H1 (locs ++ [⟨ms_vr v a, z⟩]) cells slots Q (F0 m (pc + 1) ls rest)) : W p l e R s m args below meth c H locs cells slots Q (F0 m pc ls (.ref (ms_vr v b) :: .int i :: .ref (ms_vr v a) :: rest)) := by
  have hv := ms_in_vp hin
  have hlt : i.toNatClampNeg < n := Nat.not_le.mp fun q => hv (Or.inr q)
  have h0 : ¬ i < 0 := fun q => hv (Or.inl q)
  obtain ⟨r, hr, ht⟩ := ms_elk hel (ms_vA v)
  have h := hR.2 a
  rw [hM] at h
  rcases h with ⟨-, -, h3⟩ | ⟨h1, h2, h3⟩
  · cases h3
  · obtain ⟨-, cellV, g1, g2, g3, -⟩ := ms_obj hR hV hr
    have hK := C.2.2.1.2.1
    have hcls := (hK.1 ci r hr).2
    obtain ⟨kA, comp, k1, k2, k3, -⟩ := (hK.2 k _ ht).2
    have hcomp : comp = (ms_vD v).1 ci := Option.some.inj (k3.symm.trans hcls.1)
    subst hcomp
    obtain ⟨kC, hkC, -⟩ := hcls.2
    refine W.aast C.1.1 C.1.2.1 h3 (fun q h => by cases h) (fun h => by cases h) k1 k2 rfl hkC ⟨h0, by show _ < (arrV _ _ _).slots.size; rw [arrV_size]; exact hlt⟩ g1 (fun q h => by rw [g3] at h; cases h) (by rw [g2]; exact hkC) (by rw [g2]; exact va_assign hcls) rfl rfl hd fun H1 e1 z oq => kk H1 _ h2 (Or.inr ⟨h1, h2, ?_⟩) z oq
    show H1[ms_vr v a]? = some (arrV (ms_vA v k) n (fun j => va_rf ((va_up f i.toNatClampNeg (some b) j).map (ms_vr v))))
    rw [e1]
    show some ((arrV (ms_vA v k) n (fun j => va_rf ((f j).map (ms_vr v)))).setSlot i.toNatClampNeg (.ref (ms_vr v b))) = _
    rw [arrV_store]
    congr 2
    funext q
    by_cases hq : q = i.toNatClampNeg
    · subst hq
      simp [updV, va_up, va_rf]
    · simp [updV, va_up, hq]
theorem ms_w_newi (C : ms_Cx v j p s m args meth c) (hR : ms_Rl v σ H) {n : Int32} (hd : decode (ms_by j) pc = .ok (.newarray .int, 2)) (hin : ms_in n 5000 = true) (hc : cells + 1 ≤ R.cells) (hs : slots + n.toNatClampNeg ≤ R.slots)
    (kk : ∀ (H1 : Heap), ms_cr v σ.1 (.inl (0, ms_arr 0 n.toNatClampNeg)) H1 → H1.size = H.size + 1 → (∀ q, q < H.size → H1[q]? = H[q]?) → W p l e R s m args below meth c H1 locs (cells + 1) (slots + n.toNatClampNeg) Q (F0 m (pc + 2) ls (.ref (ms_vr v σ.1) :: rest))) : W p l e R s m args below meth c H locs cells slots Q (F0 m pc ls (.int n :: rest)) := by
  have hv := ms_in_vp hin
  have hlt : n.toNatClampNeg < 5000 := Nat.not_le.mp fun q => hv (Or.inr q)
  have hvk := C.2.2.1.1
  refine va_newaK (atype := .int) C.1.1 C.1.2.1 (C.2.1 _ ms_w_ai) rfl hd rfl (fun q => hv (Or.inl q)) rfl (by show n.toNatClampNeg * 4 ≤ _; omega) hc hs (h := ms_vr v σ.1) (hR.next hvk) fun H1 cA e1 z1 o1 hAr hNm => ?_
  rw [← hR.next hvk] at z1 o1
  refine kk H1 (Or.inr ⟨by decide, hR.1.1, ?_⟩) z1 o1
  have hcA : cA = ms_vA v 0 := Option.some.inj (hNm.symm.trans (C.2.2.1.2.1.2 0 _ rfl).2)
  rw [e1, hcA]
  rfl
theorem ms_w_newl (C : ms_Cx v j p s m args meth c) (hR : ms_Rl v σ H) {n : Int32} (hd : decode (ms_by j) pc = .ok (.newarray .long, 2)) (hin : ms_in n 5000 = true) (hc : cells + 1 ≤ R.cells) (hs : slots + n.toNatClampNeg ≤ R.slots)
    (kk : ∀ (H1 : Heap), ms_cr v σ.1 (.inl (1, ms_arr 1 n.toNatClampNeg)) H1 → H1.size = H.size + 1 → (∀ q, q < H.size → H1[q]? = H[q]?) → W p l e R s m args below meth c H1 locs (cells + 1) (slots + n.toNatClampNeg) Q (F0 m (pc + 2) ls (.ref (ms_vr v σ.1) :: rest))) : W p l e R s m args below meth c H locs cells slots Q (F0 m pc ls (.int n :: rest)) := by
  have hv := ms_in_vp hin
  have hlt : n.toNatClampNeg < 5000 := Nat.not_le.mp fun q => hv (Or.inr q)
  have hvk := C.2.2.1.1
  refine va_newaK (atype := .long) C.1.1 C.1.2.1 (C.2.1 _ ms_w_al) rfl hd rfl (fun q => hv (Or.inl q)) rfl (by show n.toNatClampNeg * 8 ≤ _; omega) hc hs (h := ms_vr v σ.1) (hR.next hvk) fun H1 cA e1 z1 o1 hAr hNm => ?_
  rw [← hR.next hvk] at z1 o1
  refine kk H1 (Or.inr ⟨by decide, hR.1.1, ?_⟩) z1 o1
  have hcA : cA = ms_vA v 1 := Option.some.inj (hNm.symm.trans (C.2.2.1.2.1.2 1 _ rfl).2)
  rw [e1, hcA]
  rfl
theorem ms_w_anew (C : ms_Cx v j p s m args meth c) (hR : ms_Rl v σ H) {n : Int32} {q k : Nat} {C0 : String} (hd : decode (ms_by j) pc = .ok (.anewarray q, 3)) (hk : 3 ≤ k) (hk5 : k < 5) (ht : (ms_tys (ms_vA v))[k]? = some (ms_vA v k, .object C0)) (hcl : Cond.classLink (ms_ow j) q C0 ∈ ms_ws) (hov : va_AO C0 s) (hin : ms_in n 5000 = true) (hc : cells + 1 ≤ R.cells) (hs : slots + n.toNatClampNeg ≤ R.slots)
    (kk : ∀ (H1 : Heap), ms_cr v σ.1 (.inl (k, ms_arr k n.toNatClampNeg)) H1 → H1.size = H.size + 1 → (∀ q, q < H.size → H1[q]? = H[q]?) → W p l e R s m args below meth c H1 locs (cells + 1) (slots + n.toNatClampNeg) Q (F0 m (pc + 3) ls (.ref (ms_vr v σ.1) :: rest))) : W p l e R s m args below meth c H locs cells slots Q (F0 m pc ls (.int n :: rest)) := by
  have hv := ms_in_vp hin
  have hlt : n.toNatClampNeg < 5000 := Nat.not_le.mp fun q => hv (Or.inr q)
  have hvk := C.2.2.1.1
  have hnx := hR.next hvk
  refine W.anew C.1.1 C.1.2.1 C.1.2.2.2 (C.2.1 _ hcl) (va_AO.use hov) rfl hd rfl (fun q => hv (Or.inl q)) (by omega) hc hs fun cA kA comp f1 f2 f3 f4 => ?_
  have hcA : cA = ms_vA v k := by
    obtain ⟨_, _, -, -, -, h4⟩ := (C.2.2.1.2.1.2 k _ ht).2
    exact Option.some.inj (f1.symm.trans h4)
  subst hcA
  have h := kk (H.push ({ cls := ms_vA v k, slots := Array.replicate n.toNatClampNeg .null, vm := .none } : Cell)) (Or.inr ⟨hk5, hR.1.1, ?_⟩) (Array.size_push _) (fun q hq => by rw [Array.getElem?_push, if_neg (Nat.ne_of_lt hq)])
  · rw [← hnx] at h
    exact h
  · rw [← hnx, Array.getElem?_push_size, arrV_new]
    match k, hk, hk5 with
    | 3, _, _ => rfl
    | 4, _, _ => rfl
theorem ms_w_newc (C : ms_Cx v j p s m args meth c) (hR : ms_Rl v σ H) {q ci : Nat} {r : vw_C} (hd : decode (ms_by j) pc = .ok (.new q, 3)) (hr : ms_cl[ci]? = some r) (hlen : (ms_df ci).length = r.2.2) (hcl : Cond.classLink (ms_ow j) q r.1 ∈ ms_ws) (hc : cells + 1 ≤ R.cells) (hs : slots + (ms_df ci).length ≤ R.slots)
    (kk : ∀ (H1 : Heap), ms_cr v σ.1 (.inr (ci, ms_df ci)) H1 → H1.size = H.size + 1 → (∀ q, q < H.size → H1[q]? = H[q]?) → W p l e R s m args below meth c H1 locs (cells + 1) (slots + (ms_df ci).length) Q (F0 m (pc + 3) ls (.ref (ms_vr v σ.1) :: rest))) : W p l e R s m args below meth c H locs cells slots Q (F0 m pc ls rest) := by
  have hvk := C.2.2.1.1
  obtain ⟨C0, T, N⟩ := r
  obtain ⟨hin, hty, -, -⟩ := ms_clk ci _ hr
  obtain ⟨hi1, hi2, hdf⟩ := ms_cln ci _ hr
  have hKn := C.2.2.1.2.1.1 ci _ hr
  have hlen' : (ms_df ci).length = N := hlen
  rw [hlen'] at hs kk
  refine W.newcK C.1.1 C.1.2.1 C.1.2.2.2 (C.2.1 _ hcl) (C.2.1 _ hi1) (C.2.1 _ hi2) rfl hd hc hs hKn.2.1 (h := ms_vr v σ.1) (hR.next hvk) fun H1 kC hkC e1 z1 o1 => ?_
  rw [← hR.next hvk] at z1 o1
  exact kk H1 (Or.inr ⟨hR.1.1, _, hr, (u_born (ms_ft ci) C.2.1 hin hKn hkC e1 hty).to (hdf (ms_vr v))⟩) z1 o1
theorem ms_w_gets (C : ms_Cx v j p s m args meth c) (hR : ms_Rl v σ H) {q k w : Nat} (hd : decode (ms_by j) pc = .ok (.getstatic q, 3)) (hk : k = 1 ∨ k = 2) (hw : ms_nst[w]? = some (.fieldLinkNest (ms_ow j) q ms_cO (ms_sn k) "[I" ms_cO))
    (kk : W p l e R s m args below meth c H locs cells slots Q (F0 m (pc + 3) ls (.ref (ms_vr v k) :: rest))) : W p l e R s m args below meth c H locs cells slots Q (F0 m pc ls rest) := by
  obtain ⟨⟨hx, hb, -, hown⟩, -, ⟨hvk, -, -, hN, hZ, -⟩, -⟩ := C
  obtain ⟨cf, kf, fi, f, a, cell, h1, h2, h3, h4, h5, h6, h7, h8⟩ := hZ k hk
  have hl : (Cond.fieldLinkNest (ms_ow j) q ms_cO (ms_sn k) "[I" ms_cO).before args s = true := va_Nw.use rfl (hN _ (List.mem_of_getElem? hw))
  refine va_WgetsN hx hb hown hl h1 h2 h3 h4 ?_ (fun e => by rw [e] at h6; cases h6) h7 rfl hd kk
  rw [hR.1.2.2 a (Nat.not_le.mp h8)]
  exact h5
theorem ms_w_tsw {x : Int32} {d lo hi : Int} {os : Array Int} {len t0 : Nat} {ts : List Nat} (hexec : p.tables.exec = Jvm.exec) (hb : c.code = ms_by j) (hd : decode (ms_by j) pc = .ok (.tableswitch d lo hi os, len)) (h1 : (pc : Int) + d = (t0 : Int)) (h2 : os.toList.map (fun o => (pc : Int) + o) = ts.map (fun (t : Nat) => (t : Int))) (h3 : hi - lo + 1 = (os.size : Int))
    (k : W p l e R s m args below meth c H locs cells slots Q (F0 m (if x.toInt < lo ∨ hi < x.toInt then t0 else ts.getD (x.toInt - lo).toNat 0) ls rest)) : W p l e R s m args below meth c H locs cells slots Q (F0 m pc ls (.int x :: rest)) := by
  by_cases h : x.toInt < lo ∨ hi < x.toInt
  · rw [if_pos h] at k
    exact lv_tableOut hexec hb hd h h1 k
  · rw [if_neg h] at k
    have ha : (x.toInt - lo).toNat < os.size := by omega
    have e1 : (os.toList.map (fun o => (pc : Int) + o))[(x.toInt - lo).toNat]? = (ts.map (fun (t : Nat) => (t : Int)))[(x.toInt - lo).toNat]? := by rw [h2]
    rw [List.getElem?_map, List.getElem?_map, Array.getElem?_toList, Array.getElem?_eq_getElem ha] at e1
    cases ht : ts[(x.toInt - lo).toNat]? with
    | none => rw [ht] at e1; cases e1
    | some t =>
      rw [ht] at e1
      have e2 : (pc : Int) + os[(x.toInt - lo).toNat] = (t : Int) := Option.some.inj e1
      rw [List.getD_eq_getElem?_getD, ht] at k
      exact lv_tableIn hexec hb hd (fun q => h (Or.inl q)) (fun q => h (Or.inr q)) (Array.getElem?_eq_getElem ha) e2 k
theorem ms_lk_ok (pc : Nat) {d : Int} {t0 : Nat} (h1 : (pc : Int) + d = (t0 : Int)) (a : Int) : ∀ (ps : List (Int × Int)) (ts : List Nat), ps.map (fun q => (pc : Int) + q.2) = ts.map (fun (t : Nat) => (t : Int)) → (pc : Int) + Op.lookupswitch.offset ps d a = (ms_lk ps ts t0 a : Int)
  | [], [], _ => by simp only [Op.lookupswitch.offset, ms_lk]; exact h1
  | [], _ :: _, h => by simp at h
  | _ :: _, [], h => by simp at h
  | (k, o) :: ps, t :: ts, h => by
    simp only [List.map_cons, List.cons.injEq] at h
    simp only [Op.lookupswitch.offset, ms_lk]
    by_cases hk : a = k
    · subst hk
      simp [h.1]
    · have hk' : ¬ k = a := fun q => hk q.symm
      simp [hk, hk']
      exact ms_lk_ok pc h1 a ps ts h.2
theorem ms_w_lsw {x : Int32} {d : Int} {ps : Array (Int × Int)} {len t0 : Nat} {ts : List Nat} (hexec : p.tables.exec = Jvm.exec) (hb : c.code = ms_by j) (hd : decode (ms_by j) pc = .ok (.lookupswitch d ps, len)) (h1 : (pc : Int) + d = (t0 : Int)) (h2 : ps.toList.map (fun q => (pc : Int) + q.2) = ts.map (fun (t : Nat) => (t : Int))) (h3 : (ps.toList.zip (ps.toList.drop 1)).all (fun (a, next) => a.1 < next.1) = true)
    (k : W p l e R s m args below meth c H locs cells slots Q (F0 m (ms_lk ps.toList ts t0 x.toInt) ls rest)) : W p l e R s m args below meth c H locs cells slots Q (F0 m pc ls (.int x :: rest)) :=
  lv_lookup hexec hb hd h3 rfl (ms_lk_ok pc h1 _ _ _ h2) k
theorem ms_nn {z : Int32} (h : 0 ≤ z.toInt) : ¬ z < 0 := by
  rw [Int32.lt_iff_toInt_lt, Int32.toInt_zero]
  omega
theorem ms_w_cpy (C : ms_Cx v j p s m args meth c) (hR : ms_Rl v σ H) {α : Type} (mk : α → Value) {t a b n0 n1 q : Nat} {f g : Nat → α} {ty : FieldType} {sp dp n : Int32} (hd : decode (ms_by j) pc = .ok (.invokestatic q, 3)) (hlink : Cond.methodLink (ms_ow j) q arraycopyName ∈ ms_ws) (hsz : ls.size = ms_mx j)
    (ht : (ms_tys (ms_vA v))[t]? = some (ms_vA v t, ty)) (hprim : refKind ty = false) (hfit : ∀ z, fits ty (mk z) = true) (htk : ∀ (z : α) (U : State) (k : ClassId), U.takes k (mk z)) (ha : H[ms_vr v a]? = some (arrV (ms_vA v t) n0 (fun j => mk (f j)))) (hb : H[ms_vr v b]? = some (arrV (ms_vA v t) n1 (fun j => mk (g j)))) (hb3 : 3 ≤ b)
    (h1 : 0 ≤ sp.toInt) (h2 : 0 ≤ dp.toInt) (h3 : 0 ≤ n.toInt) (h4 : sp.toNatClampNeg + n.toNatClampNeg ≤ n0) (h5 : dp.toNatClampNeg + n.toNatClampNeg ≤ n1) (hfr : 1 ≤ R.frames) (hlo : (rest.map fun v => v.category).sum + (nativeFrameWords "java/lang/System" "arraycopy" 5 + 11) ≤ R.locals)
    (kk : ∀ (H1 : Heap) (locs1 : List Loc), (∀ z ∈ locs1, z ∈ locs ∨ ms_vB v ≤ z.base) → H1[ms_vr v b]? = some (arrV (ms_vA v t) n1 (fun j => mk (va_cpy f g sp.toNatClampNeg dp.toNatClampNeg n.toNatClampNeg j))) → H1.size = H.size → (∀ q, q ≠ ms_vr v b → H1[q]? = H[q]?) → W p l e R s m args below meth c H1 locs1 cells slots Q (F0 m (pc + 3) ls rest)) : W p l e R s m args below meth c H locs cells slots Q (F0 m pc ls (.int n :: .int dp :: .ref (ms_vr v b) :: .int sp :: .ref (ms_vr v a) :: rest)) := by
  have nn : ∀ z : Int32, 0 ≤ z.toInt → z.toInt = (z.toNatClampNeg : Int) := by
    intro z hz
    show z.toInt = ((z.toInt.toNat : Nat) : Int)
    omega
  obtain ⟨⟨hx, hbc, hml, hown⟩, hts, ⟨hvk, hK, -⟩, -⟩ := C
  intro T hT X
  obtain ⟨-, k0, hk0, cm0, hkk0⟩ := (hK.2 t _ ht).1 n0 (fun j => mk (f j))
  obtain ⟨-, k1, hk1, cm1, hkk1⟩ := (hK.2 t _ ht).1 n1 (fun j => mk (g j))
  have e : ∀ i, i < n.toNatClampNeg → (arrV (ms_vA v t) n0 (fun j => mk (f j))).slots.getD (sp.toNatClampNeg + i) .null = mk (f (sp.toNatClampNeg + i)) := fun i hi => by
    rw [Array.getD_eq_getD_getElem?, arrV_read _ _ (by omega)]
    rfl
  obtain ⟨vm', X', step⟩ := X.arraycopy hx hown (hts _ hlink) (hts _ ms_w_cn) (hts _ ms_w_cs) (hts _ ms_w_ci) (src := ms_vr v a) (dst := ms_vr v b) (cs := arrV (ms_vA v t) n0 (fun j => mk (f j))) (cd := arrV (ms_vA v t) n1 (fun j => mk (g j))) (srcPos := sp) (destPos := dp) (n := n) (by rw [hT]; exact ha) (by rw [hT]; exact hb)
    (fun _ h => by cases h) (fun _ h => by cases h) (fun h => by cases h) (fun h => by cases h) hk0 hk1 hkk0 hkk1 (by simp [hprim]) (ms_nn h1) (ms_nn h2) (ms_nn h3)
    (by rw [nn sp h1, nn n h3, arrV_size]; omega)
    (by rw [nn dp h2, nn n h3, arrV_size]; omega)
    (fun vm₁ _ i hi => by rw [e i hi]; exact ⟨hfit _, htk _ _ _⟩)
    (g := F0 m pc ls (.int n :: .int dp :: .ref (ms_vr v b) :: .int sp :: .ref (ms_vr v a) :: rest)) rfl (by rw [hml]; exact hsz) (rest := rest) rfl (by rw [hbc]; exact hd) hfr (by show 2 * 0 + _ + _ ≤ _; omega)
  have e1 : copied (arrV (ms_vA v t) n0 (fun j => mk (f j))) (arrV (ms_vA v t) n1 (fun j => mk (g j))) sp dp n = arrV (ms_vA v t) n1 (fun j => mk (va_cpy f g sp.toNatClampNeg dp.toNatClampNeg n.toNatClampNeg j)) := va_copied mk (ms_vA v t) (ms_vA v t) f g h4
  rw [e1] at X' step
  have hl : ms_vr v b < H.size := (Array.getElem?_eq_some_iff.mp hb).1
  obtain ⟨t2, a1, b1⟩ := kk (H.setIfInBounds (ms_vr v b) (arrV (ms_vA v t) n1 (fun j => mk (va_cpy f g sp.toNatClampNeg dp.toNatClampNeg n.toNatClampNeg j)))) _ (fun z hz => by
      rcases List.mem_append.mp hz with h | h
      · exact Or.inl h
      · obtain ⟨w, -, hw⟩ := List.mem_map.mp h
        right
        rw [← hw]
        show ms_vB v ≤ ms_vr v b
        rw [hvk.hi hb3]
        omega) (by simp [Array.getElem?_setIfInBounds, hl]) (by simp) (fun q hq => by simp [Array.getElem?_setIfInBounds, Ne.symm hq]) _ (by rw [← hT]; rfl) X'
  exact ⟨t2, step t2 a1, b1⟩
end MsMem2
end
section
/-! new int[n1][n2]: the outer array, then row by row: a row is made, and laid into it. -/
def ms_mo (cA : ClassId) (n1 h k : Nat) : Cell := arrV cA n1 (fun j => if j < k then .ref (h + 1 + j) else .null)
def ms_mi (cI : ClassId) (n2 : Nat) : Cell := arrV cI n2 (fun _ => .int 0)
def ms_ms (T : State) (cA cI : ClassId) (n1 n2 : Nat) : Nat → State
  | 0 => T.pushCell (ms_mo cA n1 T.heap.size 0)
  | k + 1 => ((ms_ms T cA cI n1 n2 k).pushCell (ms_mi cI n2)).setCell T.heap.size (ms_mo cA n1 T.heap.size (k + 1))
theorem ms_mo_set (cA : ClassId) (n1 h k : Nat) : (ms_mo cA n1 h k).setSlot k (.ref (h + 1 + k)) = ms_mo cA n1 h (k + 1) := by
  unfold ms_mo
  rw [arrV_store]
  congr 1
  funext j
  by_cases hj : j = k
  · subst hj
    simp [updV]
  · by_cases h1 : j < k
    · simp [updV, hj, h1, Nat.lt_succ_of_lt h1]
    · have h2 : ¬ j < k + 1 := by omega
      simp [updV, hj, h1, h2]
theorem ms_ms_at (T : State) (cA cI : ClassId) (n1 n2 : Nat) : ∀ k, (ms_ms T cA cI n1 n2 k).heap.size = T.heap.size + 1 + k ∧ (ms_ms T cA cI n1 n2 k).heap[T.heap.size]? = some (ms_mo cA n1 T.heap.size k) ∧ (ms_ms T cA cI n1 n2 k).vm = T.vm ∧ (ms_ms T cA cI n1 n2 k).slotsUsed = T.slotsUsed + n1 + k * n2 ∧
    (∀ q, q < T.heap.size → (ms_ms T cA cI n1 n2 k).heap[q]? = T.heap[q]?) ∧ (∀ q, q < k → (ms_ms T cA cI n1 n2 k).heap[T.heap.size + 1 + q]? = some (ms_mi cI n2)) := by
  intro k
  induction k with
  | zero =>
    refine ⟨size_pushCell _ _, State.heap_pushCell_size _ _, rfl, ?_, fun q hq => State.heap_pushCell_of_lt _ _ hq, fun q hq => absurd hq (Nat.not_lt_zero _)⟩
    show T.slotsUsed + (ms_mo cA n1 T.heap.size 0).slots.size = _
    rw [ms_mo, arrV_size]
    omega
  | succ k ih =>
    obtain ⟨h1, h2, h3, h4, h5, h6⟩ := ih
    generalize hU : ms_ms T cA cI n1 n2 k = U at h1 h2 h3 h4 h5 h6
    have e : ms_ms T cA cI n1 n2 (k + 1) = (U.pushCell (ms_mi cI n2)).setCell T.heap.size (ms_mo cA n1 T.heap.size (k + 1)) := by rw [← hU]; rfl
    rw [e]
    have hz : (U.pushCell (ms_mi cI n2)).heap.size = T.heap.size + 1 + (k + 1) := by rw [size_pushCell, h1]; omega
    have hz0 : T.heap.size < (U.pushCell (ms_mi cI n2)).heap.size := by rw [hz]; omega
    refine ⟨by rw [size_setCell]; exact hz, heapAt_setCell_self _ hz0, h3, ?_, fun q hq => ?_, fun q hq => ?_⟩
    · show U.slotsUsed + (ms_mi cI n2).slots.size = _
      rw [ms_mi, arrV_size, h4, Nat.succ_mul]
      omega
    · have hne : T.heap.size ≠ q := by omega
      have hlt : q < U.heap.size := by rw [h1]; omega
      rw [heapAt_setCell_ne _ hne, State.heap_pushCell_of_lt _ _ hlt]
      exact h5 q hq
    · have hne : T.heap.size ≠ T.heap.size + 1 + q := by omega
      rw [heapAt_setCell_ne _ hne]
      by_cases hk : q < k
      · have hlt : T.heap.size + 1 + q < U.heap.size := by rw [h1]; omega
        rw [State.heap_pushCell_of_lt _ _ hlt]
        exact h6 q hk
      · have hqk : q = k := by omega
        subst hqk
        rw [← h1]
        exact State.heap_pushCell_size _ _
theorem ms_ms_top (T : State) (g : JFrame) (cA cI : ClassId) (n1 n2 : Nat) : ∀ k, ms_ms (T.setTop g) cA cI n1 n2 k = (ms_ms T cA cI n1 n2 k).setTop g
  | 0 => rfl
  | k + 1 => by
    show ((ms_ms (T.setTop g) cA cI n1 n2 k).pushCell _).setCell _ _ = _
    rw [ms_ms_top T g cA cI n1 n2 k]
    rfl
section MsMw
variable {E : CtlPost} {e : Env} {d : Bool} {acts : List Action} {s : State}
theorem ms_wp_arr {c comp : ClassId} {k : Class} {type : FieldType} {len : Nat} {init : Value} (hk : s.vm.classes[c]? = some k) (hkind : k.kind = .array comp type) (hlimit : ¬ len > e.platform.arrayLengthLimit) (hheap : ¬ len * componentBytes type > e.platform.maxHeapBytes) (hfit : fits type init = true) (hdef : init.isDefault = true) {Q : Addr → Pre}
    (h1 : s.heap.size < e.platform.maxCells) (h2 : s.slotsUsed + len ≤ e.platform.maxSlots) (hq : Q s.heap.size d acts (s.pushCell (arrV c len (fun _ => init)))) : wp (Jvm.newArray c len init) Q E e d acts s := by
  have hf : ∀ i v, (Array.replicate len init)[i]? = some v → s.fitsSlot c .none i v = true := by
    intro i v hv
    rw [Array.getElem?_replicate] at hv
    split at hv
    · cases hv
      simp [State.fitsSlot, State.slotType?, hk, hkind, hfit]
    · cases hv
  have ha : allocActs (Array.replicate len init) s.heap.size acts = acts := by
    unfold allocActs
    rw [if_pos]
    rw [Array.all_replicate]
    split <;> simp [hdef]
  rw [← arrV_new] at hq
  simp only [Jvm.newArray, Jvm.arrayFits, wp_bind', W.ask, W.ite, hlimit, if_false, wp_pure', W.theClass, hk, hkind, hheap, W.alloc, W.stop, Option.some.injEq, exists_eq_left', Array.size_replicate, ha]
  rw [if_neg (by omega)]
  exact ⟨h1, h2, hf, hq⟩
theorem ms_wp_make {cA cI cc : ClassId} {kA kI : Class} {n1 n2 : Int32} (hkA : s.vm.classes[cA]? = some kA) (hdA : kA.kind = .array cI (.array .int)) (hkI : s.vm.classes[cI]? = some kI) (hdI : kI.kind = .array cc .int) (hn1 : ¬ n1 < 0) (hn2 : ¬ n2 < 0) (hs1 : n1.toNatClampNeg < 100) (hs2 : n2.toNatClampNeg < 100)
    (hlim : 100 ≤ e.platform.arrayLengthLimit) (hby : 1000 ≤ e.platform.maxHeapBytes) (hc : s.heap.size + 1 + n1.toNatClampNeg ≤ e.platform.maxCells) (hs : s.slotsUsed + n1.toNatClampNeg + n1.toNatClampNeg * n2.toNatClampNeg ≤ e.platform.maxSlots)
    {Q : Addr → Pre} (hq : ∀ d' acts', Q s.heap.size d' acts' (ms_ms s cA cI n1.toNatClampNeg n2.toNatClampNeg n1.toNatClampNeg)) : wp (multianewarray.make cA [n1, n2]) Q E e d acts s := by
  have hfind : ([n2].find? (· < 0)) = none := by simp [hn2]
  have hm0 := Nat.zero_le (n1.toNatClampNeg * n2.toNatClampNeg)
  rw [multianewarray.make]
  simp only [wp_bind', W.ite, hn1, if_false, wp_pure', W.theClass, hkA, hdA, Option.some.injEq, exists_eq_left']
  refine ms_wp_arr hkA hdA (by omega) (by show ¬ n1.toNatClampNeg * 4 > _; omega) rfl rfl (by omega) (by omega) ?_
  simp only [hfind]
  rw [ite_self, wp_bind', Std.Legacy.Range.forIn_eq_forIn_range']
  have hsz : ([:n1.toNatClampNeg] : Std.Legacy.Range).size = n1.toNatClampNeg := by simp [Std.Legacy.Range.size]
  rw [hsz]
  show wp (forIn (List.range' 0 n1.toNatClampNeg 1) PUnit.unit _) _ E e d acts _
  have e0 : s.pushCell (arrV cA n1.toNatClampNeg (fun _ => .null)) = ms_ms s cA cI n1.toNatClampNeg n2.toNatClampNeg 0 := by
    show _ = s.pushCell (arrV _ _ _)
    congr 2
  rw [e0]
  refine wp_forIn_inv (fun l u => ∃ k, k ≤ n1.toNatClampNeg ∧ l = List.range' k (n1.toNatClampNeg - k) ∧ u = ms_ms s cA cI n1.toNatClampNeg n2.toNatClampNeg k) _ _ ⟨0, Nat.zero_le _, rfl, rfl⟩ ?_ ?_
  · rintro x l u d' acts' Q' ⟨k, hk, hl, rfl⟩ hn
    have hlt : k < n1.toNatClampNeg := by
      rcases Nat.lt_or_ge k n1.toNatClampNeg with h | h
      · exact h
      · rw [show n1.toNatClampNeg - k = 0 by omega] at hl
        cases hl
    rw [show n1.toNatClampNeg - k = (n1.toNatClampNeg - (k + 1)) + 1 by omega, List.range'_succ] at hl
    obtain ⟨rfl, rfl⟩ := List.cons.inj hl
    obtain ⟨g1, g2, g3, g4, -⟩ := ms_ms_at s cA cI n1.toNatClampNeg n2.toNatClampNeg x
    have hmul : x * n2.toNatClampNeg + n2.toNatClampNeg ≤ n1.toNatClampNeg * n2.toNatClampNeg := by
      have h5 := Nat.mul_le_mul_right n2.toNatClampNeg hlt
      rw [Nat.succ_mul] at h5
      exact h5
    have e1 : ms_ms s cA cI n1.toNatClampNeg n2.toNatClampNeg (x + 1) = ((ms_ms s cA cI n1.toNatClampNeg n2.toNatClampNeg x).pushCell (ms_mi cI n2.toNatClampNeg)).setCell s.heap.size (ms_mo cA n1.toNatClampNeg s.heap.size (x + 1)) := rfl
    generalize ms_ms s cA cI n1.toNatClampNeg n2.toNatClampNeg x = U at g1 g2 g3 g4 e1 hn
    simp only [wp_bind']
    rw [multianewarray.make]
    simp only [wp_bind', W.ite, hn2, if_false, wp_pure', W.theClass, g3, hkI, hdI, Option.some.injEq, exists_eq_left']
    refine ms_wp_arr (by rw [g3]; exact hkI) hdI (by omega) (by show ¬ n2.toNatClampNeg * 4 > _; omega) rfl rfl (by rw [g1]; omega) (by rw [g4]; omega) ?_
    simp only [wp_bind', W.writeLoc, wp_pure']
    have hlt0 : s.heap.size < U.heap.size := by rw [g1]; omega
    refine ⟨ms_mo cA n1.toNatClampNeg s.heap.size x, by rw [State.heap_pushCell_of_lt _ _ hlt0]; exact g2, by simp [ms_mo, arrV], by rw [ms_mo, arrV_size]; exact hlt, ?_, hn _ _ _ ⟨x + 1, hlt, rfl, ?_⟩⟩
    · show (U.pushCell _).fitsSlot cA .none x (.ref _) = true
      simp [State.fitsSlot, State.slotType?, g3, hkA, hdA]
      rfl
    · rw [e1, g1, ms_mo_set]
      rfl
  · rintro u d' acts' ⟨k, hk, hl, rfl⟩
    have hkn : k = n1.toNatClampNeg := by
      rcases Nat.lt_or_ge k n1.toNatClampNeg with h | h
      · rw [show n1.toNatClampNeg - k = (n1.toNatClampNeg - (k + 1)) + 1 by omega, List.range'_succ] at hl
        cases hl
      · omega
    subst hkn
    simp only [wp_pure']
    exact hq _ _
end MsMw
section MsMs
variable {p : Program} {l : Launch} {e : Env} {R : Room} {s : State} {m : MethodId} {args : Array Value} {below : List Frame} {meth : Method} {c : Code} {H : Heap} {locs : List Loc} {cells slots : Nat} {Q : State → Prop}
variable {v : ms_V} {j pc len : Nat} {x : ms_X} {ls : Array Slot} {L S : List Value} {σ : ms_M} {y : ms_N}
theorem ms_ms_stand {T : State} {cA cI : ClassId} {n1 n2 : Nat} (X : Stand p l e R s m args below meth c T locs cells slots) : ∀ k, ∃ locs', (∀ q ∈ locs', q ∈ locs ∨ q.base = T.heap.size) ∧ Stand p l e R s m args below meth c (ms_ms T cA cI n1 n2 k) locs' (cells + 1 + k) (slots + n1 + k * n2)
  | 0 => by
    refine ⟨locs, fun q h => Or.inl h, ?_⟩
    have h := X.pushed (ms_mo cA n1 T.heap.size 0)
    have e1 : (ms_mo cA n1 T.heap.size 0).slots.size = n1 := by rw [ms_mo, arrV_size]
    rw [e1] at h
    rw [Nat.zero_mul]
    exact h
  | k + 1 => by
    obtain ⟨locs1, h1, h2⟩ := ms_ms_stand (cA := cA) (cI := cI) (n1 := n1) (n2 := n2) X k
    obtain ⟨g1, g2, -⟩ := ms_ms_at T cA cI n1 n2 k
    have h3 := h2.pushed (ms_mi cI n2)
    have e1 : (ms_mi cI n2).slots.size = n2 := by rw [ms_mi, arrV_size]
    rw [e1] at h3
    have hlt : T.heap.size < (ms_ms T cA cI n1 n2 k).heap.size := by rw [g1]; omega
    have h4 := h3.stored (a := T.heap.size) (cell := ms_mo cA n1 T.heap.size k) (by rw [State.heap_pushCell_of_lt _ _ hlt]; exact g2) k (.ref (T.heap.size + 1 + k))
    rw [ms_mo_set] at h4
    refine ⟨locs1 ++ [⟨T.heap.size, k⟩], fun q hq => ?_, ?_⟩
    · rcases List.mem_append.mp hq with h | h
      · exact h1 q h
      · rw [List.mem_singleton] at h
        subst h
        exact Or.inr rfl
    · have e2 : slots + n1 + (k + 1) * n2 = slots + n1 + k * n2 + n2 := by rw [Nat.succ_mul]; omega
      rw [e2]
      exact h4
theorem ms_ms_tj (T : State) (cA cI : ClassId) (n1 n2 : Nat) : ∀ k, (ms_ms T cA cI n1 n2 k).topJava? = T.topJava?
  | 0 => rfl
  | k + 1 => (show (ms_ms T cA cI n1 n2 (k + 1)).topJava? = (ms_ms T cA cI n1 n2 k).topJava? from rfl).trans (ms_ms_tj T cA cI n1 n2 k)
theorem ms_wp_cold {E : CtlPost} {d : Bool} {acts : List Action} {u : State} {f : JFrame} {Q : Unit → Pre} {index dims c : Nat} {vm' : Vm} (hs : u.topJava?.isSome) (hg : (Jvm.resolveClass f.method.cls index).Gives e.toSetting u.vm (.ok c) vm') (hr : vm'.classReady f.method.cls index c)
    (hsz : vm'.classes.size ≤ u.vm.classes.size := by no_record) :
    wp (multianewarray.sem index dims) Q E e d acts (u.setTop f) ↔ wp (multianewarray.sem index dims) Q E e d acts ((u.setVm vm').setTop f) := by
  simp only [multianewarray.sem, wp_bind']
  exact W.resolveClassAt_transfer (s := u.setTop f) (State.method?_setTop f hs) hg hr
theorem ms_rows_at (M : Nat → ms_E) (q n : Nat) : ∀ k i, ms_rows M q n k i = if q ≤ i ∧ i < q + k then .inl (0, ms_arr 0 n) else M i
  | 0, i => by rw [if_neg (by omega)]; rfl
  | k + 1, i => by
    show ms_up (ms_rows M q n k) (q + k) _ i = _
    unfold ms_up
    rw [ms_rows_at M q n k i]
    by_cases h : i = q + k
    · rw [if_pos h, if_pos (by omega)]
    · rw [if_neg h]
      by_cases h2 : q ≤ i ∧ i < q + k
      · rw [if_pos h2, if_pos (by omega)]
      · rw [if_neg h2, if_neg (by omega)]
theorem ms_arrV_eq {cA : ClassId} {n : Nat} {f g : Nat → Value} (h : ∀ j, j < n → f j = g j) : arrV cA n f = arrV cA n g := by
  unfold arrV
  congr 2
  funext j
  exact h j.val j.isLt
theorem ms_multi_rl (hvk : ms_vok v) (hR : ms_Rl v σ H) {n1 n2 : Nat} {H1 : Heap} (a1 : H1.size = H.size + 1 + n1) (a2 : H1[H.size]? = some (ms_mo (ms_vA v 2) n1 H.size n1)) (a5 : ∀ q, q < H.size → H1[q]? = H[q]?) (a6 : ∀ q, q < n1 → H1[H.size + 1 + q]? = some (ms_mi (ms_vA v 0) n2)) :
    ms_Rl v (σ.1 + 1 + n1, σ.2.1 + n1 + n1 * n2, true, ms_up (ms_rows σ.2.2.2 (σ.1 + 1) n2 n1) σ.1 (.inl (2, n1, .inr (.inr (.inr (.inr (fun j => some (σ.1 + 1 + j)))))))) H1 := by
  have hnx := hR.next hvk
  obtain ⟨⟨h1, h2, h3⟩, h4⟩ := hR
  have hhi : ∀ k, σ.1 ≤ k → ms_vr v k = H.size + (k - σ.1) := by
    intro k hk
    rw [hvk.hi (Nat.le_trans h1 hk), hnx, hvk.hi h1]
    omega
  refine ⟨⟨by show 3 ≤ σ.1 + 1 + n1; omega, by show H1.size + 3 = ms_vB v + (σ.1 + 1 + n1); omega, fun q hq => ?_⟩, fun k => ?_⟩
  · rw [a5 q (by omega)]
    exact h3 q hq
  · show ms_cr v k (ms_up (ms_rows σ.2.2.2 (σ.1 + 1) n2 n1) σ.1 _ k) H1
    unfold ms_up
    by_cases hk : k = σ.1
    · subst hk
      rw [if_pos rfl]
      refine Or.inr ⟨by decide, h1, ?_⟩
      rw [← hnx, a2]
      show some (arrV (ms_vA v 2) n1 (fun j => if j < n1 then Value.ref (H.size + 1 + j) else .null)) = some (arrV (ms_vA v 2) n1 (fun j => va_rf ((some (σ.1 + 1 + j)).map (ms_vr v))))
      congr 1
      refine ms_arrV_eq fun j hj => ?_
      show (if j < n1 then Value.ref (H.size + 1 + j) else .null) = va_rf ((some (σ.1 + 1 + j)).map (ms_vr v))
      rw [if_pos hj]
      show Value.ref _ = Value.ref (ms_vr v (σ.1 + 1 + j))
      have hjj : H.size + 1 + j = H.size + (σ.1 + 1 + j - σ.1) := by omega
      rw [hhi _ (by omega), ← hjj]
    · rw [if_neg hk, ms_rows_at]
      by_cases hr : σ.1 + 1 ≤ k ∧ k < σ.1 + 1 + n1
      · rw [if_pos hr]
        refine Or.inr ⟨by decide, by omega, ?_⟩
        rw [hhi k (by omega), show H.size + (k - σ.1) = H.size + 1 + (k - σ.1 - 1) by omega, a6 _ (by omega)]
        rfl
      · rw [if_neg hr]
        have h5 := h4 k
        generalize σ.2.2.2 k = cc at h5 ⊢
        rcases cc with ⟨t, a⟩ | ⟨ci, fs⟩
        · rcases h5 with h5 | ⟨q1, q2, q3⟩
          · exact Or.inl h5
          · exact Or.inr ⟨q1, q2, (a5 _ (Array.getElem?_eq_some_iff.mp q3).1).trans q3⟩
        · rcases h5 with h5 | ⟨q1, r, q2, q3⟩
          · exact Or.inl h5
          · exact Or.inr ⟨q1, r, q2, q3.kept (a5 _ (by obtain ⟨cell, g1, -⟩ := q3; exact (Array.getElem?_eq_some_iff.mp g1).1))⟩
theorem ms_wp_sem {E : CtlPost} {d : Bool} {acts : List Action} {u : State} {f : JFrame} {index : Nat} {cA cI cc : ClassId} {kA kI : Class} {n1 n2 : Int32} {rest : List Value} (ht : u.topJava?.isSome) (hr : u.vm.classReady f.method.cls index cA) (hst : f.stack = .int n2 :: .int n1 :: rest)
    (hkA : u.vm.classes[cA]? = some kA) (hdA : kA.kind = .array cI (.array .int)) (hkI : u.vm.classes[cI]? = some kI) (hdI : kI.kind = .array cc .int) (hn1 : ¬ n1 < 0) (hn2 : ¬ n2 < 0) (hs1 : n1.toNatClampNeg < 100) (hs2 : n2.toNatClampNeg < 100)
    (hlim : 100 ≤ e.platform.arrayLengthLimit) (hby : 1000 ≤ e.platform.maxHeapBytes) (hc : u.heap.size + 1 + n1.toNatClampNeg ≤ e.platform.maxCells) (hs : u.slotsUsed + n1.toNatClampNeg + n1.toNatClampNeg * n2.toNatClampNeg ≤ e.platform.maxSlots)
    {Q : Unit → Pre} (hq : ∀ d' acts', Q () d' acts' ((ms_ms u cA cI n1.toNatClampNeg n2.toNatClampNeg n1.toNatClampNeg).setTop { f with stack := .ref u.heap.size :: rest })) : wp (multianewarray.sem index 2) Q E e d acts (u.setTop f) := by
  have e1 : ∀ k, ms_ms (u.setTop { f with stack := rest }) cA cI n1.toNatClampNeg n2.toNatClampNeg k = (ms_ms u cA cI n1.toNatClampNeg n2.toNatClampNeg k).setTop { f with stack := rest } := fun k => ms_ms_top _ _ _ _ _ _ _
  have e2 : (ms_ms u cA cI n1.toNatClampNeg n2.toNatClampNeg n1.toNatClampNeg).topJava?.isSome := by
    rw [show (ms_ms u cA cI n1.toNatClampNeg n2.toNatClampNeg n1.toNatClampNeg).topJava? = u.topJava? from ms_ms_tj _ _ _ _ _ _]
    exact ht
  simp only [multianewarray.sem, wp_bind', W.resolveClassAt_ready (State.method?_setTop f ht) hr, Jvm.popN, W.pop, State.topJava?_setTop' _ ht, Option.some.injEq, exists_eq_left', hst, List.cons.injEq, exists_cons_eq, State.setTop_setTop, wp_pure', List.nil_append, List.cons_append, List.mapM_cons, List.mapM_nil]
  refine ms_wp_make (s := u.setTop { f with stack := rest }) hkA hdA hkI hdI hn1 hn2 hs1 hs2 hlim hby hc hs fun d' acts' => ?_
  rw [e1]
  simp only [wp_bind', W.mark, W.pushRef, State.topJava?_setTop' _ e2, Option.some.injEq, exists_eq_left', State.setTop_setTop]
  exact hq _ _
theorem ms_w_multi (C : ms_Cx v j p s m args meth c) (hR : ms_Rl v σ H) {q : Nat} (hd : decode (ms_by j) pc = .ok (.multianewarray q 2, 4)) (hcl : Cond.classLink (ms_ow j) q "[[I" ∈ ms_ws)
    (h : ms_st1 (.multianewarray q 2) 4 x pc L S σ = some y) (hL : ms_Lr (ms_vr v) ls L) (hc : cells + (y.2.2.2.1 - σ.1) ≤ R.cells) (hs : slots + (y.2.2.2.2.1 - σ.2.1) ≤ R.slots) (K : ms_K p l e R s m args below meth c H locs cells slots Q v σ y) :
    W p l e R s m args below meth c H locs cells slots Q (F0 m pc ls (S.map (ms_mv (ms_vr v)))) := by
  simp only [ms_st1] at h
  split at h
  · rename_i n2 n1 r
    split at h
    · rename_i hh
      obtain ⟨hi1, hi2, hpos⟩ := hh
      cases h
      have hv1 := ms_in_vp hi1
      have hv2 := ms_in_vp hi2
      have hlt1 : n1.toNatClampNeg < 100 := Nat.not_le.mp fun q => hv1 (Or.inr q)
      have hlt2 : n2.toNatClampNeg < 100 := Nat.not_le.mp fun q => hv2 (Or.inr q)
      have hn1 : ¬ n1 < 0 := fun q => hv1 (Or.inl q)
      have hn2 : ¬ n2 < 0 := fun q => hv2 (Or.inl q)
      intro T hT X
      have hvk := C.2.2.1.1
      have hpl : e.platform.magicAccessors = ({} : Platform).magicAccessors := by rw [X.admits.platform]
      obtain ⟨cc', hfcc, hcl'⟩ := Cond.classLink_spec C.1.2.2.2 (C.2.1 _ hcl) e.platform hpl
      obtain ⟨hg₁, hwarm₁, hready₁⟩ := State.classEntry (e := e) X.warmed hcl'
      generalize T.vm.noted m.cls q (.cls cc') = vm₁ at hg₁ hwarm₁ hready₁
      have X₁ := X.noted hwarm₁
      have e2 : cc' = ms_vA v 2 := Option.some.inj (hfcc.symm.trans (C.2.2.1.2.1.2 2 _ rfl).2)
      subst e2
      obtain ⟨kA, hkA, hdA⟩ := C.2.2.1.2.2.2.2.2.2.2.1
      obtain ⟨-, kI, hkI, ccI, hdI⟩ := (C.2.2.1.2.1.2 0 _ rfl).1 0 (fun _ => .null)
      obtain ⟨kA₁, hkA₁, heA⟩ := hwarm₁.alike.2.2 _ _ hkA
      obtain ⟨kI₁, hkI₁, heI⟩ := hwarm₁.alike.2.2 _ _ hkI
      have hdA₁ : kA₁.kind = .array (ms_vA v 0) (.array .int) := by rw [heA]; exact hdA
      have hdI₁ : kI₁.kind = .array ccI .int := by rw [heI]; exact hdI
      obtain ⟨hr1, hr2⟩ := X₁.roomAbove (a := 1 + n1.toNatClampNeg) (b := n1.toNatClampNeg + n1.toNatClampNeg * n2.toNatClampNeg) (by dsimp only at hc; omega) (by dsimp only at hs; omega)
      have hlim : 100 ≤ e.platform.arrayLengthLimit := by rw [Launch.admits_arrayLengthLimit X.admits]; decide
      have hby : 1000 ≤ e.platform.maxHeapBytes := by rw [Launch.admits_maxHeapBytes X.admits]; decide
      obtain ⟨locs1, hl1, X2⟩ := ms_ms_stand (cA := ms_vA v 2) (cI := ms_vA v 0) (n1 := n1.toNatClampNeg) (n2 := n2.toNatClampNeg) X₁ n1.toNatClampNeg
      obtain ⟨a1, a2, a3, a4, a5, a6⟩ := ms_ms_at (T.setVm vm₁) (ms_vA v 2) (ms_vA v 0) n1.toNatClampNeg n2.toNatClampNeg n1.toNatClampNeg
      have hsz : (T.setVm vm₁).heap = H := hT
      rw [hsz] at a1 a2 a5 a6
      have hnx := hR.next hvk
      have hRl : ms_Rl v (σ.1 + 1 + n1.toNatClampNeg, σ.2.1 + n1.toNatClampNeg + n1.toNatClampNeg * n2.toNatClampNeg, true, ms_up (ms_rows σ.2.2.2 (σ.1 + 1) n2.toNatClampNeg n1.toNatClampNeg) σ.1 (.inl (2, n1.toNatClampNeg, .inr (.inr (.inr (.inr (fun j => some (σ.1 + 1 + j)))))))) (ms_ms (T.setVm vm₁) (ms_vA v 2) (ms_vA v 0) n1.toNatClampNeg n2.toNatClampNeg n1.toNatClampNeg).heap :=
        ms_multi_rl hvk hR a1 a2 a5 a6
      have h9 := K _ ls locs1 hL hRl (fun q hq => by
        rcases hl1 q hq with h | h
        · exact Or.inl h
        · right
          rw [h, hsz]
          have := hR.1.2.1
          have := hR.1.1
          omega) (fun h => by cases h) _ rfl (by
        have g1 : cells + 1 + n1.toNatClampNeg = cells + (σ.1 + 1 + n1.toNatClampNeg - σ.1) := by omega
        have g2 : slots + n1.toNatClampNeg + n1.toNatClampNeg * n2.toNatClampNeg = slots + (σ.2.1 + n1.toNatClampNeg + n1.toNatClampNeg * n2.toNatClampNeg - σ.2.1) := by omega
        rw [g1, g2] at X2
        exact X2)
      obtain ⟨t, b1, b2⟩ := h9
      refine ⟨t, ?_, b2⟩
      refine Steps.instr (c := c) X.here ?_
      show match decode c.code pc with
        | .ok (i, len) => _
        | .error _ => _
      rw [C.1.2.1, hd]
      show wpRun (p.tables.exec (.multianewarray q 2)) _ _ e _
      rw [C.1.1]
      show wp (multianewarray.sem q 2) _ _ e false [] (T.setTop _)
      rw [ms_wp_cold (f := F0 m pc ls _) X.here.top hg₁ hready₁]
      refine ms_wp_sem (u := T.setVm vm₁) (f := F0 m pc ls (.int n2 :: .int n1 :: r.map (ms_mv (ms_vr v)))) (rest := r.map (ms_mv (ms_vr v))) X.here.top hready₁ rfl hkA₁ hdA₁ hkI₁ hdI₁ hn1 hn2 hlt1 hlt2 hlim hby (by omega) (by omega) fun d' acts' => ?_
      intro acts
      rw [afterInstr_ok]
      have e9 : (T.setVm vm₁).heap.size = ms_vr v σ.1 := by rw [hsz]; exact hnx
      rw [e9]
      exact b1
    · cases h
  · cases h
end MsMs
end
section
/-! ONE INSTRUCTION. -/
section MsOne
variable {p : Program} {l : Launch} {e : Env} {R : Room} {s : State} {m : MethodId} {args : Array Value} {below : List Frame} {meth : Method} {c : Code} {H : Heap} {locs : List Loc} {cells slots : Nat} {Q : State → Prop}
variable {v : ms_V} {j pc len : Nat} {i : Jvm.ClassFile.Instr} {x : ms_X} {ls : Array Slot} {L S : List Value} {σ : ms_M} {y : ms_N}
set_option maxHeartbeats 4000000 in
set_option maxRecDepth 100000 in
theorem ms_w1 (C : ms_Cx v j p s m args meth c) (hd : decode (ms_by j) pc = .ok (i, len)) (ck : ms_ck j pc i len x = true) (h : ms_st1 i len x pc L S σ = some y) (hL : ms_Lr (ms_vr v) ls L) (hLm : L.length = ms_mx j) (hR : ms_Rl v σ H) (hfr : ms_fr j ≤ R.frames) (hlo : ms_lo j ≤ R.locals)
    (hc : cells + (y.2.2.2.1 - σ.1) ≤ R.cells) (hs : slots + (y.2.2.2.2.1 - σ.2.1) ≤ R.slots) (K : ms_K p l e R s m args below meth c H locs cells slots Q v σ y) : W p l e R s m args below meth c H locs cells slots Q (F0 m pc ls (S.map (ms_mv (ms_vr v)))) := by
  have hx := C.1.1
  have hb := C.1.2.1
  have hvk := C.2.2.1.1
  cases i with
  | iconst n =>
    obtain ⟨rfl, hv⟩ := of_decide_eq_true ck
    cases h
    refine lv_iconst hx hb hd rfl ?_
    have h2 := K.same hL hR
    rw [List.map_cons, hv] at h2
    exact h2
  | bipush n =>
    obtain ⟨rfl, hv⟩ := of_decide_eq_true ck
    cases h
    refine lv_bipush hx hb hd rfl ?_
    have h2 := K.same hL hR
    rw [List.map_cons, hv] at h2
    exact h2
  | sipush n =>
    obtain ⟨rfl, hv⟩ := of_decide_eq_true ck
    cases h
    refine lv_sipush hx hb hd rfl ?_
    have h2 := K.same hL hR
    rw [List.map_cons, hv] at h2
    exact h2
  | lconst n =>
    obtain ⟨rfl, hv⟩ := of_decide_eq_true ck
    cases h
    refine lv_lconst hx hb hd rfl ?_
    have h2 := K.same hL hR
    rw [List.map_cons, hv] at h2
    exact h2
  | ldc q =>
    simp only [ms_ck, Bool.and_eq_true, decide_eq_true_eq] at ck
    obtain ⟨rfl, ck⟩ := ck
    split at ck
    · rename_i z hz
      cases h
      refine lv_ldc hx hb C.1.2.2.2 (C.2.1 _ (ms_has_in ck)) hd ?_
      have h2 := K.same hL hR
      rw [List.map_cons, hz] at h2
      exact h2
    · cases ck
  | ldc_w q =>
    simp only [ms_ck, Bool.and_eq_true, decide_eq_true_eq] at ck
    obtain ⟨rfl, ck⟩ := ck
    split at ck
    · rename_i z hz
      cases h
      refine lv_ldcw hx hb C.1.2.2.2 (C.2.1 _ (ms_has_in ck)) hd ?_
      have h2 := K.same hL hR
      rw [List.map_cons, hz] at h2
      exact h2
    · cases ck
  | ldc2_w q =>
    simp only [ms_ck, Bool.and_eq_true, decide_eq_true_eq] at ck
    obtain ⟨rfl, ck⟩ := ck
    split at ck
    · rename_i z hz
      cases h
      refine lv_ldc2 hx hb C.1.2.2.2 (C.2.1 _ (ms_has_in ck)) hd ?_
      have h2 := K.same hL hR
      rw [List.map_cons, hz] at h2
      exact h2
    · cases ck
  | getstatic q =>
    obtain ⟨rfl, hk, hv, hw⟩ := of_decide_eq_true ck
    cases h
    refine ms_w_gets C hR hd hk hw ?_
    have h2 := K.same hL hR
    rw [List.map_cons, hv] at h2
    exact h2
  | iload k =>
    have ck := of_decide_eq_true ck
    subst ck
    exact ms_w_ldi (fun z rest hz k2 => lv_iload hx hb hd hz k2) h K hL hR
  | iload_n k =>
    have ck := of_decide_eq_true ck
    subst ck
    exact ms_w_ldi (fun z rest hz k2 => lv_iload_n hx hb hd rfl hz k2) h K hL hR
  | lload k =>
    have ck := of_decide_eq_true ck
    subst ck
    exact ms_w_ldl (fun z rest hz k2 => lv_lload hx hb hd hz k2) h K hL hR
  | lload_n k =>
    have ck := of_decide_eq_true ck
    subst ck
    exact ms_w_ldl (fun z rest hz k2 => lv_lload_n hx hb hd rfl hz k2) h K hL hR
  | aload k =>
    have ck := of_decide_eq_true ck
    subst ck
    exact ms_w_lda (fun z rest hz k2 => lv_aload hx hb hd hz k2) h K hL hR
  | aload_n k =>
    have ck := of_decide_eq_true ck
    subst ck
    exact ms_w_lda (fun z rest hz k2 => lv_aload_n hx hb hd rfl hz k2) h K hL hR
  | istore k =>
    have ck := of_decide_eq_true ck
    subst ck
    exact ms_w_sti (fun z rest hz k2 => lv_istore hx hb hd hL hz rfl k2) h K hR
  | istore_n k =>
    have ck := of_decide_eq_true ck
    subst ck
    exact ms_w_sti (fun z rest hz k2 => lv_istore_n hx hb hd rfl hL hz rfl k2) h K hR
  | lstore k =>
    have ck := of_decide_eq_true ck
    subst ck
    exact ms_w_stl (fun z rest hz k2 => lv_lstore hx hb hd hL hz rfl k2) h K hR
  | lstore_n k =>
    have ck := of_decide_eq_true ck
    subst ck
    exact ms_w_stl (fun z rest hz k2 => lv_lstore_n hx hb hd rfl hL hz rfl k2) h K hR
  | astore k =>
    have ck := of_decide_eq_true ck
    subst ck
    exact ms_w_sta (fun z rest hz k2 => lv_astore hx hb hd hL hz rfl k2) h K hR
  | astore_n k =>
    have ck := of_decide_eq_true ck
    subst ck
    exact ms_w_sta (fun z rest hz k2 => lv_astore_n hx hb hd rfl hL hz rfl k2) h K hR
  | iinc k n =>
    have ck := of_decide_eq_true ck
    subst ck
    simp only [ms_st1] at h
    split at h
    · rename_i z hz
      split at h
      · rename_i hk
        cases h
        obtain ⟨o, ho⟩ := List.getElem?_of_mem (ms_lv_mem.mpr ⟨hk, by rw [hz]; simp, rfl⟩ : (k, ms_mv (ms_vr v) (L.getD k .null)) ∈ ms_lv (ms_vr v) L)
        rw [hz] at ho
        exact lv_iinc hx hb hd hL ho rfl hk rfl (fun ls' hl => K.same (ms_Lr.set1 (v := .int (z + Int32.ofInt n)) hk hl) hR)
      · cases h
    · cases h
  | iadd => obtain rfl := of_decide_eq_true ck; exact ms_w_ii (fun a z rest k2 => lv_iadd hx hb hd k2) h K hL hR
  | isub => obtain rfl := of_decide_eq_true ck; exact ms_w_ii (fun a z rest k2 => lv_isub hx hb hd k2) h K hL hR
  | imul => obtain rfl := of_decide_eq_true ck; exact ms_w_ii (fun a z rest k2 => lv_imul hx hb hd k2) h K hL hR
  | iand => obtain rfl := of_decide_eq_true ck; exact ms_w_ii (fun a z rest k2 => lv_iand hx hb hd k2) h K hL hR
  | ior => obtain rfl := of_decide_eq_true ck; exact ms_w_ii (fun a z rest k2 => lv_ior hx hb hd k2) h K hL hR
  | ixor => obtain rfl := of_decide_eq_true ck; exact ms_w_ii (fun a z rest k2 => lv_ixor hx hb hd k2) h K hL hR
  | ishl => obtain rfl := of_decide_eq_true ck; exact ms_w_ii (fun a z rest k2 => lv_ishl hx hb hd k2) h K hL hR
  | ishr => obtain rfl := of_decide_eq_true ck; exact ms_w_ii (fun a z rest k2 => lv_ishr hx hb hd k2) h K hL hR
  | iushr => obtain rfl := of_decide_eq_true ck; exact ms_w_ii (fun a z rest k2 => lv_iushr hx hb hd rfl k2) h K hL hR
  | idiv => obtain rfl := of_decide_eq_true ck; exact ms_w_id (fun a z rest hz k2 => lv_idiv hx hb hd hz k2) h K hL hR
  | irem => obtain rfl := of_decide_eq_true ck; exact ms_w_id (fun a z rest hz k2 => lv_irem hx hb hd hz k2) h K hL hR
  | ineg =>
    obtain rfl := of_decide_eq_true ck
    simp only [ms_st1] at h
    split at h
    · cases h
      exact lv_ineg hx hb hd (K.same hL hR)
    · cases h
  | ladd => obtain rfl := of_decide_eq_true ck; exact ms_w_ll (fun a z rest k2 => lv_ladd hx hb hd k2) h K hL hR
  | lsub => obtain rfl := of_decide_eq_true ck; exact ms_w_ll (fun a z rest k2 => lv_lsub hx hb hd k2) h K hL hR
  | lmul => obtain rfl := of_decide_eq_true ck; exact ms_w_ll (fun a z rest k2 => lv_lmul hx hb hd k2) h K hL hR
  | land => obtain rfl := of_decide_eq_true ck; exact ms_w_ll (fun a z rest k2 => lv_land hx hb hd k2) h K hL hR
  | lor => obtain rfl := of_decide_eq_true ck; exact ms_w_ll (fun a z rest k2 => lv_lor hx hb hd k2) h K hL hR
  | lshl => obtain rfl := of_decide_eq_true ck; exact ms_w_li (fun a z rest k2 => lv_lshl hx hb hd rfl k2) h K hL hR
  | lshr => obtain rfl := of_decide_eq_true ck; exact ms_w_li (fun a z rest k2 => lv_lshr hx hb hd rfl k2) h K hL hR
  | lushr => obtain rfl := of_decide_eq_true ck; exact ms_w_li (fun a z rest k2 => lv_lushr hx hb hd rfl k2) h K hL hR
  | lcmp =>
    obtain rfl := of_decide_eq_true ck
    simp only [ms_st1] at h
    split at h
    · cases h
      exact W.lcmp hx hb hd (K.same hL hR)
    · cases h
  | i2l =>
    obtain rfl := of_decide_eq_true ck
    simp only [ms_st1] at h
    split at h
    · cases h
      exact lv_i2l hx hb hd rfl (K.same hL hR)
    · cases h
  | l2i =>
    obtain rfl := of_decide_eq_true ck
    simp only [ms_st1] at h
    split at h
    · cases h
      exact lv_l2i hx hb hd rfl (K.same hL hR)
    · cases h
  | dup =>
    obtain rfl := of_decide_eq_true ck
    simp only [ms_st1] at h
    split at h
    · split at h
      · rename_i hcat
        cases h
        exact lv_dup hx hb hd (by rw [ms_mv_cat]; exact hcat) (K.same hL hR)
      · cases h
    · cases h
  | dup2 =>
    obtain rfl := of_decide_eq_true ck
    simp only [ms_st1] at h
    split at h
    · split at h
      · rename_i hcat
        cases h
        exact lv_dup2_11 hx hb hd (by rw [ms_mv_cat]; exact hcat.1) (by rw [ms_mv_cat]; exact hcat.2) (K.same hL hR)
      · cases h
    · cases h
  | pop =>
    obtain rfl := of_decide_eq_true ck
    simp only [ms_st1] at h
    split at h
    · split at h
      · rename_i hcat
        cases h
        exact lv_pop hx hb hd (by rw [ms_mv_cat]; exact hcat) (K.same hL hR)
      · cases h
    · cases h
  | pop2 =>
    obtain rfl := of_decide_eq_true ck
    simp only [ms_st1] at h
    split at h
    · split at h
      · rename_i hcat
        cases h
        exact lv_pop2_2 hx hb hd (by rw [ms_mv_cat]; exact hcat) (K.same hL hR)
      · cases h
    · cases h
  | goto o =>
    obtain ⟨rfl, ht⟩ := of_decide_eq_true ck
    cases h
    exact lv_goto hx hb hd ht (K.same hL hR)
  | ifCond cd o =>
    obtain ⟨rfl, ht⟩ := of_decide_eq_true ck
    simp only [ms_st1] at h
    split at h
    · cases h
      exact ms_w_br0 cd hx hb hd ht rfl (K.same hL hR)
    · cases h
  | if_icmp cd o =>
    obtain ⟨rfl, ht⟩ := of_decide_eq_true ck
    simp only [ms_st1] at h
    split at h
    · cases h
      exact ms_w_br cd hx hb hd ht rfl (K.same hL hR)
    · cases h
  | tableswitch d lo hi os =>
    obtain ⟨h1, h2, h3⟩ := of_decide_eq_true ck
    simp only [ms_st1] at h
    split at h
    · cases h
      exact ms_w_tsw hx hb hd h1 h2 h3 (K.same hL hR)
    · cases h
  | lookupswitch d ps =>
    obtain ⟨h1, h2, h3⟩ := of_decide_eq_true ck
    simp only [ms_st1] at h
    split at h
    · cases h
      exact ms_w_lsw hx hb hd h1 h2 h3 (K.same hL hR)
    · cases h
  | getfield q =>
    simp only [ms_ck, Bool.and_eq_true, decide_eq_true_eq] at ck
    obtain ⟨rfl, ck⟩ := ck
    split at ck
    · rename_i r hr
      simp only [Bool.and_eq_true, decide_eq_true_eq] at ck
      simp only [ms_st1] at h
      split at h
      · split at h
        · rename_i ci fs hM
          split at h
          · rename_i hci
            subst hci
            cases hf : fs[x.2.1]? with
            | none => rw [hf] at h; cases h
            | some val =>
              rw [hf] at h
              cases h
              exact ms_w_getf C hR hd hM hr ck.1 (ms_has_in ck.2) hf (K.same hL hR)
          · cases h
        · cases h
      · cases h
    · cases ck
  | putfield q =>
    simp only [ms_ck, Bool.and_eq_true, decide_eq_true_eq] at ck
    obtain ⟨rfl, ck⟩ := ck
    split at ck
    · rename_i r hr
      simp only [Bool.and_eq_true, decide_eq_true_eq] at ck
      simp only [ms_st1] at h
      split at h
      · split at h
        · rename_i ci fs hM
          split at h
          · rename_i hci
            obtain ⟨rfl, hlt, hft⟩ := hci
            cases h
            exact ms_w_putf C hR hd hM hr ck.1.1 (ms_has_in ck.1.2) ck.2 hlt hft (fun H1 z he hz oq => K.wr hvk (ms_obj hR hM hr).1 hL hR he hz oq)
          · cases h
        · cases h
      · cases h
    · cases ck
  | iaload =>
    obtain rfl := of_decide_eq_true ck
    simp only [ms_st1] at h
    split at h
    · split at h
      · rename_i t n f hM
        split at h
        · rename_i ht
          cases h
          exact ms_w_iald C hR hd hM ht.1 ht.2 (K.same hL hR)
        · cases h
      · cases h
    · cases h
  | laload =>
    obtain rfl := of_decide_eq_true ck
    simp only [ms_st1] at h
    split at h
    · split at h
      · rename_i t n f hM
        split at h
        · rename_i ht
          obtain ⟨rfl, ht⟩ := ht
          cases h
          exact ms_w_lald C hR hd hM ht (K.same hL hR)
        · cases h
      · cases h
    · cases h
  | aaload =>
    obtain rfl := of_decide_eq_true ck
    simp only [ms_st1] at h
    split at h
    · rename_i iq a r
      split at h
      · rename_i t n f hM
        split at h
        · rename_i ht
          cases hf : f iq.toNatClampNeg with
          | none => rw [hf] at h; cases h
          | some b =>
            rw [hf] at h
            cases h
            exact ms_w_aald C hR hd hM ht.1 ht.2 hf (K.same hL hR)
        · cases h
      · cases h
    · cases h
  | iastore =>
    obtain rfl := of_decide_eq_true ck
    simp only [ms_st1] at h
    split at h
    · split at h
      · rename_i n f hM
        split at h
        · rename_i ht
          cases h
          exact ms_w_iast C hR hd hM ht (fun H1 z ha he hz oq => K.wr hvk ha hL hR he hz oq)
        · cases h
      · cases h
    · cases h
  | lastore =>
    obtain rfl := of_decide_eq_true ck
    simp only [ms_st1] at h
    split at h
    · split at h
      · rename_i n f hM
        split at h
        · rename_i ht
          cases h
          exact ms_w_last C hR hd hM ht (fun H1 z ha he hz oq => K.wr hvk ha hL hR he hz oq)
        · cases h
      · cases h
    · cases h
  | aastore =>
    obtain rfl := of_decide_eq_true ck
    simp only [ms_st1] at h
    split at h
    · split at h
      · rename_i k n f ci fs hM hV
        split at h
        · rename_i ht
          cases h
          exact ms_w_aast C hR hd hM hV ht.2 ht.1 (fun H1 z ha he hz oq => K.wr hvk ha hL hR he hz oq)
        · cases h
      · cases h
    · cases h
  | arraylength =>
    obtain rfl := of_decide_eq_true ck
    simp only [ms_st1] at h
    split at h
    · split at h
      · rename_i t n d hM
        cases h
        exact ms_w_alen C hR hd hM (K.same hL hR)
      · cases h
    · cases h
  | newarray t =>
    obtain ⟨rfl, ht⟩ := of_decide_eq_true ck
    simp only [ms_st1] at h
    split at h
    · split at h
      · rename_i hn
        cases h
        have hc' : cells + 1 ≤ R.cells := by
          have : σ.1 + 1 - σ.1 = 1 := by omega
          have h0 : cells + (σ.1 + 1 - σ.1) ≤ R.cells := hc
          omega
        rcases ht with ⟨hx1, rfl⟩ | ⟨hx1, rfl⟩
        · rw [hx1] at K
          refine ms_w_newi C hR hd hn hc' ?_ (fun H1 he hz oq => K.nw hvk hL hR he hz oq)
          have h0 : slots + (σ.2.1 + _ - σ.2.1) ≤ R.slots := hs
          rw [Nat.add_sub_cancel_left] at h0
          exact h0
        · rw [hx1] at K
          refine ms_w_newl C hR hd hn hc' ?_ (fun H1 he hz oq => K.nw hvk hL hR he hz oq)
          have h0 : slots + (σ.2.1 + _ - σ.2.1) ≤ R.slots := hs
          rw [Nat.add_sub_cancel_left] at h0
          exact h0
      · cases h
    · cases h
  | anewarray q =>
    simp only [ms_ck, Bool.and_eq_true, Bool.or_eq_true, decide_eq_true_eq] at ck
    obtain ⟨rfl, ht⟩ := ck
    simp only [ms_st1] at h
    split at h
    · split at h
      · rename_i hn
        cases h
        have hc' : cells + 1 ≤ R.cells := by
          have h0 : cells + (σ.1 + 1 - σ.1) ≤ R.cells := hc
          omega
        rcases ht with ⟨hx1, ht⟩ | ⟨hx1, ht⟩
        · rw [hx1] at K
          refine ms_w_anew C hR hd (by decide) (by decide) rfl (ms_has_in ht) C.2.2.1.2.2.2.2.2.2.1.1 hn hc' ?_ (fun H1 he hz oq => K.nw hvk hL hR he hz oq)
          have h0 : slots + (σ.2.1 + _ - σ.2.1) ≤ R.slots := hs
          rw [Nat.add_sub_cancel_left] at h0
          exact h0
        · rw [hx1] at K
          refine ms_w_anew C hR hd (by decide) (by decide) rfl (ms_has_in ht) C.2.2.1.2.2.2.2.2.2.1.2 hn hc' ?_ (fun H1 he hz oq => K.nw hvk hL hR he hz oq)
          have h0 : slots + (σ.2.1 + _ - σ.2.1) ≤ R.slots := hs
          rw [Nat.add_sub_cancel_left] at h0
          exact h0
      · cases h
    · cases h
  | multianewarray q n =>
    simp only [ms_ck, Bool.and_eq_true, decide_eq_true_eq] at ck
    obtain ⟨⟨rfl, rfl, hx1⟩, ht⟩ := ck
    exact ms_w_multi C hR hd (ms_has_in ht) h hL hc hs K
  | new q =>
    simp only [ms_ck, Bool.and_eq_true, decide_eq_true_eq] at ck
    obtain ⟨rfl, ck⟩ := ck
    split at ck
    · rename_i r hr
      simp only [Bool.and_eq_true, decide_eq_true_eq] at ck
      cases h
      refine ms_w_newc C hR hd hr ck.1.2 (ms_has_in ck.2) ?_ ?_ (fun H1 he hz oq => K.nw hvk hL hR he hz oq)
      · have h0 : cells + (σ.1 + 1 - σ.1) ≤ R.cells := hc
        omega
      · have h0 : slots + (σ.2.1 + _ - σ.2.1) ≤ R.slots := hs
        rw [Nat.add_sub_cancel_left] at h0
        exact h0
    · cases ck
  | invokespecial q =>
    simp only [ms_ck, Bool.and_eq_true, decide_eq_true_eq] at ck
    obtain ⟨⟨rfl, hx2, hf1, hl1⟩, ck⟩ := ck
    simp only [ms_st1] at h
    split at h
    · rename_i a r
      split at h
      · rename_i h8
        cases h
        refine W.objInit hx hb C.1.2.2.2 (C.2.1 _ (ms_has_in ck)) (C.2.1 _ ms_w_oi) (C.2.1 _ ms_w_oc) rfl ((hL.1.trans hLm).trans C.1.2.2.1.symm) rfl hd (Nat.le_trans hf1 hfr) ?_ (K.same hL hR)
        rw [ms_mv_sum]
        show 2 * 0 + _ + 12 ≤ _
        omega
      · cases h
    · cases h
  | invokestatic q =>
    simp only [ms_ck, Bool.and_eq_true, decide_eq_true_eq] at ck
    obtain ⟨⟨rfl, hx2, hf1, hl1⟩, ck⟩ := ck
    simp only [ms_st1] at h
    split at h
    · split at h
      · rename_i n0 f n1 g hA hB
        split at h
        · rename_i hcd
          obtain ⟨c1, c2, c3, c4, c5, c6⟩ := hcd
          cases h
          have hA := (show ms_cr v _ _ H from hA ▸ hR.2 _)
          have hB := (show ms_cr v _ _ H from hB ▸ hR.2 _)
          rcases hA with ⟨q1, -⟩ | ⟨-, q2, q3⟩
          · cases q1
          rcases hB with ⟨q1, -⟩ | ⟨-, q4, q5⟩
          · cases q1
          exact ms_w_cpy C hR (fun z => Value.int z) (t := 0) (f := f) (g := g) hd (ms_has_in ck) (hL.1.trans hLm) rfl rfl (fun _ => rfl) (fun _ _ _ => trivial) q3 q5 q4 c1 c2 c3 c4 c5 (Nat.le_trans hf1 hfr) (by rw [ms_mv_sum, show nativeFrameWords "java/lang/System" "arraycopy" 5 = 7 by decide]; omega) (fun H1 locs1 hl he hz oq => K.wl hvk q4 hL hR (Or.inr ⟨by decide, q4, he⟩) hz oq hl)
        · cases h
      · rename_i n0 f n1 g hA hB
        split at h
        · rename_i hcd
          obtain ⟨c1, c2, c3, c4, c5, c6⟩ := hcd
          cases h
          have hA := (show ms_cr v _ _ H from hA ▸ hR.2 _)
          have hB := (show ms_cr v _ _ H from hB ▸ hR.2 _)
          rcases hA with ⟨q1, -⟩ | ⟨-, q2, q3⟩
          · cases q1
          rcases hB with ⟨q1, -⟩ | ⟨-, q4, q5⟩
          · cases q1
          exact ms_w_cpy C hR (fun z => Value.long z) (t := 1) (f := f) (g := g) hd (ms_has_in ck) (hL.1.trans hLm) rfl rfl (fun _ => rfl) (fun _ _ _ => trivial) q3 q5 q4 c1 c2 c3 c4 c5 (Nat.le_trans hf1 hfr) (by rw [ms_mv_sum, show nativeFrameWords "java/lang/System" "arraycopy" 5 = 7 by decide]; omega) (fun H1 locs1 hl he hz oq => K.wl hvk q4 hL hR (Or.inr ⟨by decide, q4, he⟩) hz oq hl)
        · cases h
      · cases h
    · cases h
  | _ => exact absurd h (by simp [ms_st1])
end MsOne
end
section
/-! CALLS: a method's locals at its entry; what a run grows by. -/
theorem ms_ents_len (ρ : Nat → Nat) : ∀ as : List Value, (ms_ents as).length = (lg_sl (as.map (ms_mv ρ))).length
  | [] => rfl
  | x :: r => by
    have ih := ms_ents_len ρ r
    cases x <;> simp [ms_ents, lg_sl, ms_mv, Value.category] at ih ⊢ <;> omega
theorem ms_ents_one (ρ : Nat → Nat) (x : Value) (r : List Value) (i i0 : Nat) (hx : x.category = 1) (ih : ∀ i i0, (ms_ents r).getD i .null ≠ .null → (i + i0, ms_mv ρ ((ms_ents r).getD i .null)) ∈ lv_args i0 (r.map (ms_mv ρ))) (h : (ms_ents (x :: r)).getD i .null ≠ .null) : (i + i0, ms_mv ρ ((ms_ents (x :: r)).getD i .null)) ∈ lv_args i0 ((x :: r).map (ms_mv ρ)) := by
  have e : ms_ents (x :: r) = x :: ms_ents r := by cases x <;> first | rfl | cases hx
  rw [e] at h ⊢
  have hc : ¬ (ms_mv ρ x).category = 2 := by rw [ms_mv_cat, hx]; decide
  simp only [List.map_cons, lv_args, if_neg hc]
  match i with
  | 0 => simp
  | i + 1 =>
    have h' : (ms_ents r).getD i .null ≠ .null := by simpa using h
    refine List.mem_cons_of_mem _ ?_
    rw [List.getD_cons_succ, show i + 1 + i0 = i + (i0 + 1) by omega]
    exact ih i (i0 + 1) h'
theorem ms_ents_mem (ρ : Nat → Nat) : ∀ (as : List Value) (i i0 : Nat), (ms_ents as).getD i .null ≠ .null → (i + i0, ms_mv ρ ((ms_ents as).getD i .null)) ∈ lv_args i0 (as.map (ms_mv ρ))
  | [], i, _, h => absurd (by simp [ms_ents]) h
  | .long x :: r, i, i0, h => by
    match i with
    | 0 => simp [ms_ents, lv_args]
    | 1 => exact absurd (by simp [ms_ents]) h
    | i + 2 =>
      have h' : (ms_ents r).getD i .null ≠ .null := by simpa [ms_ents] using h
      have ih := ms_ents_mem ρ r i (i0 + 2) h'
      simp only [ms_ents, List.getD_cons_succ, List.map_cons, lv_args, ms_mv, Value.category, if_true]
      refine List.mem_cons_of_mem _ ?_
      rw [show i + 2 + i0 = i + (i0 + 2) by omega]
      exact ih
  | .double x :: r, i, i0, h => by
    match i with
    | 0 => simp [ms_ents, lv_args]
    | 1 => exact absurd (by simp [ms_ents]) h
    | i + 2 =>
      have h' : (ms_ents r).getD i .null ≠ .null := by simpa [ms_ents] using h
      have ih := ms_ents_mem ρ r i (i0 + 2) h'
      simp only [ms_ents, List.getD_cons_succ, List.map_cons, lv_args, ms_mv, Value.category, if_true]
      refine List.mem_cons_of_mem _ ?_
      rw [show i + 2 + i0 = i + (i0 + 2) by omega]
      exact ih
  | .int x :: r, i, i0, h => ms_ents_one ρ (.int x) r i i0 rfl (by intro i i0 h; exact ms_ents_mem ρ r i i0 h) h
  | .float x :: r, i, i0, h => ms_ents_one ρ (.float x) r i i0 rfl (by intro i i0 h; exact ms_ents_mem ρ r i i0 h) h
  | .null :: r, i, i0, h => ms_ents_one ρ .null r i i0 rfl (by intro i i0 h; exact ms_ents_mem ρ r i i0 h) h
  | .ref x :: r, i, i0, h => ms_ents_one ρ (.ref x) r i i0 rfl (by intro i i0 h; exact ms_ents_mem ρ r i i0 h) h
  | .retAddr x :: r, i, i0, h => ms_ents_one ρ (.retAddr x) r i i0 rfl (by intro i i0 h; exact ms_ents_mem ρ r i i0 h) h
theorem ms_getD_app (A : List Value) (n i : Nat) : (A ++ List.replicate n Value.null).getD i .null = A.getD i .null := by
  rw [List.getD_eq_getElem?_getD, List.getD_eq_getElem?_getD]
  rcases Nat.lt_or_ge i A.length with h | h
  · rw [List.getElem?_append_left h]
  · rw [List.getElem?_append_right h, List.getElem?_eq_none h, List.getElem?_replicate]
    split <;> rfl
theorem ms_ent_Lr (ρ : Nat → Nat) (k : Nat) (as : List Value) (h : (ms_ents as).length ≤ ms_mx k) : (ms_ent k as).length = ms_mx k ∧ ms_Lr ρ ((lg_sl (as.map (ms_mv ρ)) ++ List.replicate (ms_mx k - (lg_sl (as.map (ms_mv ρ))).length) Slot.unset).toArray) (ms_ent k as) := by
  have hlen : (ms_ent k as).length = ms_mx k := by
    simp only [ms_ent, List.length_append, List.length_replicate]
    omega
  refine ⟨hlen, ?_⟩
  have hl := lv_entry (as.map (ms_mv ρ)) (n := ms_mx k) (by rw [← ms_ents_len]; exact h)
  refine ⟨by rw [hlen]; exact hl.1, hl.2.1, ?_⟩
  rintro ⟨i, u⟩ hm
  obtain ⟨-, h2, rfl⟩ := ms_lv_mem.mp hm
  have e : (ms_ent k as).getD i .null = (ms_ents as).getD i .null := ms_getD_app _ _ _
  rw [e] at h2 ⊢
  exact hl.2.2 _ (ms_ents_mem ρ as i 0 h2)
theorem ms_st1_grow {i : Jvm.ClassFile.Instr} {len : Nat} {x : ms_X} {pc : Nat} {L S : List Value} {σ : ms_M} {y : ms_N} (h : ms_st1 i len x pc L S σ = some y) : σ.1 ≤ y.2.2.2.1 ∧ σ.2.1 ≤ y.2.2.2.2.1 ∧ y.2.1.length = L.length := by
  unfold ms_st1 at h
  split at h
  all_goals (try unfold ms_ldi at h)
  all_goals (try unfold ms_ldl at h)
  all_goals (try unfold ms_lda at h)
  all_goals (try unfold ms_sti at h)
  all_goals (try unfold ms_stl at h)
  all_goals (try unfold ms_sta at h)
  all_goals (try unfold ms_ii at h)
  all_goals (try unfold ms_id at h)
  all_goals (try unfold ms_ll at h)
  all_goals (try unfold ms_li at h)
  all_goals (repeat' split at h)
  all_goals first
    | (cases h; done)
    | (cases h; exact ⟨Nat.le_refl _, Nat.le_refl _, rfl⟩)
    | (cases h; exact ⟨Nat.le_refl _, Nat.le_refl _, ms_s1_len _ _ _⟩)
    | (cases h; exact ⟨Nat.le_refl _, Nat.le_refl _, ms_s2_len _ _ _⟩)
    | (cases h; exact ⟨Nat.le_add_right _ _, Nat.le_add_right _ _, rfl⟩)
    | (cases h; refine ⟨?_, ?_, rfl⟩ <;> (dsimp only; omega))
    | (rw [Option.map_eq_some_iff] at h; obtain ⟨_, -, h⟩ := h; cases h; exact ⟨Nat.le_refl _, Nat.le_refl _, rfl⟩)
theorem ms_ev_grow (f : Nat) : ∀ {j pc : Nat} {L S : List Value} {σ : ms_M} {r : ms_R}, ms_ev f j pc L S σ = some r → σ.1 ≤ r.2.1 ∧ σ.2.1 ≤ r.2.2.1 := by
  induction f with
  | zero => intro j pc L S σ r h; cases h
  | succ f ih =>
    intro j pc L S σ r h
    rw [ms_ev] at h
    split at h
    · cases h
    · rename_i q hq
      unfold ms_stp at h
      split at h
      · split at h
        · rename_i y hy
          have h1 := ms_st1_grow hy
          have h2 := ih h
          exact ⟨Nat.le_trans h1.1 h2.1, Nat.le_trans h1.2.1 h2.2⟩
        · cases h
      · unfold ms_call at h
        split at h
        · split at h
          · rename_i w τ hτ
            have h1 := ih hτ
            have h2 := ih h
            exact ⟨Nat.le_trans h1.1 h2.1, Nat.le_trans h1.2 h2.2⟩
          · rename_i w τ hτ
            have h1 := ih hτ
            split at h
            · have h2 := ih h
              exact ⟨Nat.le_trans h1.1 h2.1, Nat.le_trans h1.2 h2.2⟩
            · cases h
          · cases h
        · cases h
      · unfold ms_ret at h
        repeat' split at h
        all_goals first
          | (cases h; done)
          | (cases h; exact ⟨Nat.le_refl _, Nat.le_refl _⟩)
      · unfold ms_thr at h
        repeat' split at h
        all_goals first
          | (cases h; done)
          | (cases h; exact ⟨Nat.le_add_right _ _, Nat.le_add_right _ _⟩)
end
section
/-! THE CHECK OF EVERY ROW OF THE CODE TABLES. -/
-- what a program decides of a call
def ms_lnk (j q k : Nat) (t : List Nat) : Bool := if t.getD 0 0 = 0 then ms_has (t.getD 1 0) (.methodLink (ms_ow j) q (ms_y k)) else decide (ms_nst[t.getD 1 0]? = some (.methodLinkNest (ms_ow j) q (ms_y k) ms_cO))
def ms_ckc (j : Nat) (i : Jvm.ClassFile.Instr) (len : Nat) (x : ms_X) : Bool :=
  decide (len = 3 ∧ x.1 < 150 ∧ x.1 ≠ ms_law ∧ ms_fr x.1 + 1 ≤ ms_fr j ∧ 8 + (ms_mx x.1 + 11) + ms_lo x.1 ≤ ms_lo j) && match i with
  | .invokestatic q => ms_st x.1 && ms_lnk j q x.1 x.2.2.2
  | .invokevirtual q => (ms_rc x.1).isSome && !ms_st x.1 && decide (x.2.2.2.getD 0 0 = 0) && ms_lnk j q x.1 x.2.2.2
  | .invokespecial q => ms_ini x.1 && !ms_st x.1 && decide ((ms_rc x.1).isNone) && decide (ms_hs x.1 = [] ∧ ms_rt x.1 = none) && ms_lnk j q x.1 x.2.2.2
  | _ => false
def ms_ckr (j : Nat) (i : Jvm.ClassFile.Instr) (len : Nat) : Bool := decide (len = 1) && match i, ms_rt j with
  | .ireturn, some .int => true
  | .ireturn, some .boolean => true
  | .lreturn, some .long => true
  | .areturn, some (.object _) => true
  | .areturn, some (.array _) => true
  | .return_, none => true
  | _, _ => false
def ms_xn (k : Nat) : String := if k = 0 then "java/lang/IllegalArgumentException" else "java/lang/IllegalStateException"
def ms_ckx (j pc : Nat) (i : Jvm.ClassFile.Instr) (len : Nat) (x : ms_X) : Bool := match i with
  | .new q => decide (len = 3 ∧ x.1 < 2 ∧ 6 ≤ ms_fr j ∧ 81 ≤ ms_lo j ∧ ms_ow j = ms_cO ∧ ms_hs j = [] ∧ decode (ms_by j) (pc + 3) = .ok (.dup, 1) ∧ decode (ms_by j) (pc + 4) = .ok (.invokespecial (x.2.2.2.getD 1 0), 3) ∧ decode (ms_by j) (pc + 7) = .ok (.athrow, 1) ∧ x.2.2.2.getD 1 0 = (if x.1 = 0 then 41 else 61)) && ms_has (x.2.2.2.getD 0 0) (.classLink (ms_ow j) q (ms_xn x.1))
  | _ => false
def ms_ckA (j pc : Nat) (q : ms_I) : Bool := decide (decode (ms_by j) pc = .ok (q.1, q.2.1)) && match ms_kd q with
  | 0 => ms_ck j pc q.1 q.2.1 q.2.2
  | 1 => ms_ckc j q.1 q.2.1 q.2.2
  | 2 => ms_ckr j q.1 q.2.1
  | _ => ms_ckx j pc q.1 q.2.1 q.2.2
theorem ms_xini {k : Nat} (h : k < 2) : Cond.initialized (ms_xn k) ∈ ms_ws := by
  match k, h with
  | 0, _ => exact ms_has_in (i := 66) (by decide +kernel)
  | 1, _ => exact ms_has_in (i := 68) (by decide +kernel)
theorem ms_xfit {k : Nat} (h : k < 2) : Bundle.fit (ms_xn k) = true := by
  match k, h with
  | 0, _ => decide +kernel
  | 1, _ => decide +kernel
end
section
/-! WHAT HOLDS AT A CALLER HOLDS AT THE METHOD CALLED. -/
theorem ms_words {args a' : Array Value} {s U : State} (hW : s.WarmedH U.vm) (h : ∀ w ∈ ms_ws, w.before args s = true) : ∀ w ∈ ms_ws, w.before a' U = true :=
  fun w hw => word_at hW (good_of_word (List.mem_filter.mp hw).2) (h w hw)
def ms_isN : Cond → Bool
  | .methodLinkNest .. => true
  | .fieldLinkNest .. => true
  | _ => false
theorem ms_nst_ok : ms_nst.all ms_isN = true := by decide +kernel
theorem ms_Zs.moved {v : ms_V} {n d : String} {s U : State} (hW : s.vm.Alike U.vm) (h : ms_Zs v n d s) : ms_Zs v n d U := by
  obtain ⟨c, k, i, f, a, cell, w, h1, h2, h3, h4, h5, h6, h7, h8, h9, h10⟩ := h
  obtain ⟨k', hi', he⟩ := State.fieldFound?_setVm hW h2
  exact ⟨c, k', i, f, a, cell, w, by rw [hW.findClass]; exact h1, hi', h3, by rw [he]; exact h4, h5, h6, h7, h8, by rw [he]; exact h9, h10⟩
theorem ms_Gx2.moved {v : ms_V} {s U : State} (hW : s.WarmedH U.vm) (h : ms_Gx2 v s) : ms_Gx2 v U := by
  obtain ⟨h1, ⟨h2, h3⟩, c0, c1, h4, h5, h6, h7⟩ := h
  refine ⟨fun w hw => ?_, ⟨h2.moved hW.alike, h3.moved hW.alike⟩, c0, c1, by rw [hW.alike.findClass]; exact h4, by rw [hW.alike.findClass]; exact h5, by rw [hW.alike.assignable]; exact h6, by rw [hW.alike.assignable]; exact h7⟩
  have h9 := h1 w hw
  simp only [ms_spw, List.mem_cons, List.not_mem_nil, or_false] at hw
  rcases hw with rfl | rfl | rfl | rfl | rfl
  · exact va_Nw.warmC hW h9
  · exact va_Nw.warmC hW h9
  · exact va_Nw.warmD hW h9
  · exact va_Nw.warmD hW h9
  · exact va_Nw.warmD hW h9
theorem ms_Gx.moved {v : ms_V} {s U : State} (hW : s.WarmedH U.vm) (h : ms_Gx v s) : ms_Gx v U := by
  obtain ⟨h1, h2, h3, h4, h5, h6, ⟨h7, h8⟩, ⟨k, h9, h10⟩, h11⟩ := h
  refine ⟨h1, h2.moved hW.alike, fun k hk => (h3 k hk).moved hW.alike, fun w hw => ?_, fun k hk => (h5 k hk).moved hW.alike, h6, ⟨h7.moved hW.alike, h8.moved hW.alike⟩, ?_, h11.moved hW⟩
  · have hN := List.all_eq_true.mp ms_nst_ok w hw
    have hw2 := h4 w hw
    cases w with
    | methodLinkNest a i x t => exact va_Nw.warmM hW hw2
    | fieldLinkNest a i b n d t => exact va_Nw.warmF hW hw2
    | _ => cases hN
  · obtain ⟨k', hk', he⟩ := hW.alike.2.2 _ _ h9
    exact ⟨k', hk', by rw [he]; exact h10⟩
-- a method's own word
def ms_cw (k : Nat) : Cond := match ms_hs k with
  | [] => .code (ms_y k) (ms_by k) (ms_mx k) (ms_rt k)
  | h :: r => .codeWith (ms_y k) (ms_by k) (ms_mx k) (ms_rt k) ((h :: r).map fun h => (h.1, h.2.1, h.2.2.1, h.2.2.2.2))
def ms_Hx (k : Nat) (c : Code) : Prop := c.exceptionTable.toList.map (fun h => (h.startPc, h.endPc, h.handlerPc, h.catchType)) = (ms_hs k).map fun h => (h.1, h.2.1, h.2.2.1, h.2.2.2.2)
theorem ms_cw_spec {args : Array Value} {s : State} {k : Nat} (h : (ms_cw k).before args s = true) : ∃ mk methk ck, s.methodNamed? (ms_y k) = some mk ∧ s.vm.method? mk = some methk ∧ methk.code = some ck ∧ ck.code = ms_by k ∧ ck.maxLocals = ms_mx k ∧ ms_Hx k ck ∧ methk.sig.returnType = ms_rt k ∧ methk.locks = false ∧ parseMethodDescriptor (ms_y k).desc = some methk.sig := by
  unfold ms_cw at h
  split at h
  · rename_i hh
    obtain ⟨mk, hn⟩ := Cond.code_named h
    obtain ⟨meth, c, h1, h2, h3, h4, h5, h6, h7, h8⟩ := Cond.code_spec hn h
    refine ⟨mk, meth, c, hn, h1, h2, h3, h4, ?_, h5, h6, h8⟩
    unfold ms_Hx
    have h0 : c.exceptionTable.size = 0 := by simpa [Array.isEmpty] using h7
    have h1 : c.exceptionTable.toList = [] := List.eq_nil_of_length_eq_zero (by simpa using h0)
    rw [h1, hh]
    rfl
  · rename_i hh
    obtain ⟨mk, meth, c, hn, h1, h2, h3, h4, h5, h6, h7, h8⟩ := Cond.codeWith_spec h
    exact ⟨mk, meth, c, hn, h1, h2, h3, h4, by unfold ms_Hx; rw [h5, hh], h6, h7, h8⟩
-- what a program decides of a method: the places of its words
def ms_okm (k : Nat) : Bool :=
  ms_has ((ms_mw k).getD 1 0) (.initialized (ms_ow k)) &&
  decide (ms_ow k ≠ "java/lang/invoke/MethodHandle" ∧ ms_ow k ≠ "java/lang/invoke/VarHandle") && plainFor (ms_y k) &&
  decide (ms_ini k = true → (ms_y k).name = "<init>") &&
  decide ((parseMethodDescriptor (ms_y k).desc).map (fun d => d.parameters.length) = some (if ms_st k = true then ms_na k else ms_na k - 1)) && decide (ms_st k = true ∨ 1 ≤ ms_na k) &&
  (if ms_st k = true then ms_has ((ms_mw k).getD 2 0) (.static (ms_y k)) else ms_has ((ms_mw k).getD 2 0) (.instanceMethod (ms_y k))) &&
  match ms_rc k with
  | some ci => ms_has ((ms_mw k).getD 3 0) (.selects (ms_ow k) (ms_y k) (ms_y k)) && decide ((ms_cl[ci]?).map (fun r => r.1) = some (ms_ow k))
  | none => decide (ms_st k = true ∨ ms_ini k = true)
-- the method called, in the real tables
def ms_Ck (s : State) (k : Nat) (mk : MethodId) (methk : Method) (ck : Code) : Prop :=
  s.methodNamed? (ms_y k) = some mk ∧ s.vm.method? mk = some methk ∧ methk.code = some ck ∧ ck.code = ms_by k ∧ ck.maxLocals = ms_mx k ∧ ms_Hx k ck ∧ methk.sig.returnType = ms_rt k ∧ methk.locks = false ∧ parseMethodDescriptor (ms_y k).desc = some methk.sig ∧ (ms_ini k = true → methk.name = "<init>") ∧ s.plainMethod mk
theorem ms_okm_spec {args : Array Value} {s : State} {k : Nat} (hcw : ms_cw k ∈ ms_ws) (h : ms_okm k = true) (hts : ∀ w ∈ ms_ws, w.before args s = true) : (∃ mk methk ck, ms_Ck s k mk methk ck) ∧ (Cond.initialized (ms_ow k)).before args s = true ∧ (ms_ow k ≠ "java/lang/invoke/MethodHandle" ∧ ms_ow k ≠ "java/lang/invoke/VarHandle") ∧
    (parseMethodDescriptor (ms_y k).desc).map (fun d => d.parameters.length) = some (if ms_st k = true then ms_na k else ms_na k - 1) ∧ (ms_st k = true ∨ 1 ≤ ms_na k) ∧
    (if ms_st k = true then (Cond.static (ms_y k)).before args s = true else (Cond.instanceMethod (ms_y k)).before args s = true) ∧
    (∀ ci, ms_rc k = some ci → (Cond.selects (ms_ow k) (ms_y k) (ms_y k)).before args s = true ∧ (ms_cl[ci]?).map (fun r => r.1) = some (ms_ow k)) := by
  simp only [ms_okm, Bool.and_eq_true, decide_eq_true_eq] at h
  obtain ⟨⟨⟨⟨⟨⟨⟨h2, h3⟩, h4⟩, h5⟩, h6⟩, h7⟩, h8⟩, h9⟩ := h
  obtain ⟨mk, methk, ck, g1, g2, g3, g4, g5, g6, g7, g8, g9⟩ := ms_cw_spec (hts _ hcw)
  refine ⟨⟨mk, methk, ck, g1, g2, g3, g4, g5, g6, g7, g8, g9, fun hi => (name_of_methodNamed g1 g2).1.trans (h5 hi), State.plainMethod.of_named h4 g1 g2⟩, hts _ (ms_has_in h2), h3, h6, h7, ?_, fun ci hc => ?_⟩
  · split at h8
    · rename_i hs
      rw [if_pos hs]
      exact hts _ (ms_has_in h8)
    · rename_i hs
      rw [if_neg hs]
      exact hts _ (ms_has_in h8)
  · rw [hc] at h9
    simp only [Bool.and_eq_true, decide_eq_true_eq] at h9
    exact ⟨hts _ (ms_has_in h9.1), h9.2⟩
end
section
/-! WHAT A PROGRAM DECIDES OF EACH METHOD. By gen.py. -/
set_option maxRecDepth 100000 in
theorem ms_x0 : ms_cw 0 ∈ ms_ws := List.mem_filter.mpr ⟨List.mem_of_getElem? (i := 77) rfl, rfl⟩
theorem ms_o0 : ms_okm 0 = true := by decide +kernel
set_option maxRecDepth 100000 in
theorem ms_x1 : ms_cw 1 ∈ ms_ws := List.mem_filter.mpr ⟨List.mem_of_getElem? (i := 306) rfl, rfl⟩
theorem ms_o1 : ms_okm 1 = true := by decide +kernel
set_option maxRecDepth 100000 in
theorem ms_x2 : ms_cw 2 ∈ ms_ws := List.mem_filter.mpr ⟨List.mem_of_getElem? (i := 391) rfl, rfl⟩
theorem ms_o2 : ms_okm 2 = true := by decide +kernel
set_option maxRecDepth 100000 in
theorem ms_x3 : ms_cw 3 ∈ ms_ws := List.mem_filter.mpr ⟨List.mem_of_getElem? (i := 425) rfl, rfl⟩
theorem ms_o3 : ms_okm 3 = true := by decide +kernel
set_option maxRecDepth 100000 in
theorem ms_x4 : ms_cw 4 ∈ ms_ws := List.mem_filter.mpr ⟨List.mem_of_getElem? (i := 432) rfl, rfl⟩
theorem ms_o4 : ms_okm 4 = true := by decide +kernel
set_option maxRecDepth 100000 in
theorem ms_x5 : ms_cw 5 ∈ ms_ws := List.mem_filter.mpr ⟨List.mem_of_getElem? (i := 599) rfl, rfl⟩
theorem ms_o5 : ms_okm 5 = true := by decide +kernel
set_option maxRecDepth 100000 in
theorem ms_x6 : ms_cw 6 ∈ ms_ws := List.mem_filter.mpr ⟨List.mem_of_getElem? (i := 666) rfl, rfl⟩
theorem ms_o6 : ms_okm 6 = true := by decide +kernel
set_option maxRecDepth 100000 in
theorem ms_x7 : ms_cw 7 ∈ ms_ws := List.mem_filter.mpr ⟨List.mem_of_getElem? (i := 707) rfl, rfl⟩
theorem ms_o7 : ms_okm 7 = true := by decide +kernel
set_option maxRecDepth 100000 in
theorem ms_x8 : ms_cw 8 ∈ ms_ws := List.mem_filter.mpr ⟨List.mem_of_getElem? (i := 714) rfl, rfl⟩
theorem ms_o8 : ms_okm 8 = true := by decide +kernel
set_option maxRecDepth 100000 in
theorem ms_x9 : ms_cw 9 ∈ ms_ws := List.mem_filter.mpr ⟨List.mem_of_getElem? (i := 722) rfl, rfl⟩
theorem ms_o9 : ms_okm 9 = true := by decide +kernel
set_option maxRecDepth 100000 in
theorem ms_x10 : ms_cw 10 ∈ ms_ws := List.mem_filter.mpr ⟨List.mem_of_getElem? (i := 733) rfl, rfl⟩
theorem ms_o10 : ms_okm 10 = true := by decide +kernel
set_option maxRecDepth 100000 in
theorem ms_x11 : ms_cw 11 ∈ ms_ws := List.mem_filter.mpr ⟨List.mem_of_getElem? (i := 740) rfl, rfl⟩
theorem ms_o11 : ms_okm 11 = true := by decide +kernel
set_option maxRecDepth 100000 in
theorem ms_x12 : ms_cw 12 ∈ ms_ws := List.mem_filter.mpr ⟨List.mem_of_getElem? (i := 294) rfl, rfl⟩
theorem ms_o12 : ms_okm 12 = true := by decide +kernel
set_option maxRecDepth 100000 in
theorem ms_x13 : ms_cw 13 ∈ ms_ws := List.mem_filter.mpr ⟨List.mem_of_getElem? (i := 751) rfl, rfl⟩
theorem ms_o13 : ms_okm 13 = true := by decide +kernel
set_option maxRecDepth 100000 in
theorem ms_x14 : ms_cw 14 ∈ ms_ws := List.mem_filter.mpr ⟨List.mem_of_getElem? (i := 436) rfl, rfl⟩
theorem ms_o14 : ms_okm 14 = true := by decide +kernel
set_option maxRecDepth 100000 in
theorem ms_x15 : ms_cw 15 ∈ ms_ws := List.mem_filter.mpr ⟨List.mem_of_getElem? (i := 511) rfl, rfl⟩
theorem ms_o15 : ms_okm 15 = true := by decide +kernel
set_option maxRecDepth 100000 in
theorem ms_x16 : ms_cw 16 ∈ ms_ws := List.mem_filter.mpr ⟨List.mem_of_getElem? (i := 757) rfl, rfl⟩
theorem ms_o16 : ms_okm 16 = true := by decide +kernel
set_option maxRecDepth 100000 in
theorem ms_x17 : ms_cw 17 ∈ ms_ws := List.mem_filter.mpr ⟨List.mem_of_getElem? (i := 865) rfl, rfl⟩
theorem ms_o17 : ms_okm 17 = true := by decide +kernel
set_option maxRecDepth 100000 in
theorem ms_x18 : ms_cw 18 ∈ ms_ws := List.mem_filter.mpr ⟨List.mem_of_getElem? (i := 1046) rfl, rfl⟩
theorem ms_o18 : ms_okm 18 = true := by decide +kernel
set_option maxRecDepth 100000 in
theorem ms_x19 : ms_cw 19 ∈ ms_ws := List.mem_filter.mpr ⟨List.mem_of_getElem? (i := 872) rfl, rfl⟩
theorem ms_o19 : ms_okm 19 = true := by decide +kernel
set_option maxRecDepth 100000 in
theorem ms_x20 : ms_cw 20 ∈ ms_ws := List.mem_filter.mpr ⟨List.mem_of_getElem? (i := 917) rfl, rfl⟩
theorem ms_o20 : ms_okm 20 = true := by decide +kernel
set_option maxRecDepth 100000 in
theorem ms_x21 : ms_cw 21 ∈ ms_ws := List.mem_filter.mpr ⟨List.mem_of_getElem? (i := 914) rfl, rfl⟩
theorem ms_o21 : ms_okm 21 = true := by decide +kernel
set_option maxRecDepth 100000 in
theorem ms_x22 : ms_cw 22 ∈ ms_ws := List.mem_filter.mpr ⟨List.mem_of_getElem? (i := 911) rfl, rfl⟩
theorem ms_o22 : ms_okm 22 = true := by decide +kernel
set_option maxRecDepth 100000 in
theorem ms_x23 : ms_cw 23 ∈ ms_ws := List.mem_filter.mpr ⟨List.mem_of_getElem? (i := 888) rfl, rfl⟩
theorem ms_o23 : ms_okm 23 = true := by decide +kernel
set_option maxRecDepth 100000 in
theorem ms_x24 : ms_cw 24 ∈ ms_ws := List.mem_filter.mpr ⟨List.mem_of_getElem? (i := 955) rfl, rfl⟩
theorem ms_o24 : ms_okm 24 = true := by decide +kernel
set_option maxRecDepth 100000 in
theorem ms_x25 : ms_cw 25 ∈ ms_ws := List.mem_filter.mpr ⟨List.mem_of_getElem? (i := 952) rfl, rfl⟩
theorem ms_o25 : ms_okm 25 = true := by decide +kernel
set_option maxRecDepth 100000 in
theorem ms_x26 : ms_cw 26 ∈ ms_ws := List.mem_filter.mpr ⟨List.mem_of_getElem? (i := 944) rfl, rfl⟩
theorem ms_o26 : ms_okm 26 = true := by decide +kernel
set_option maxRecDepth 100000 in
theorem ms_x27 : ms_cw 27 ∈ ms_ws := List.mem_filter.mpr ⟨List.mem_of_getElem? (i := 940) rfl, rfl⟩
theorem ms_o27 : ms_okm 27 = true := by decide +kernel
set_option maxRecDepth 100000 in
theorem ms_x28 : ms_cw 28 ∈ ms_ws := List.mem_filter.mpr ⟨List.mem_of_getElem? (i := 964) rfl, rfl⟩
theorem ms_o28 : ms_okm 28 = true := by decide +kernel
set_option maxRecDepth 100000 in
theorem ms_x29 : ms_cw 29 ∈ ms_ws := List.mem_filter.mpr ⟨List.mem_of_getElem? (i := 968) rfl, rfl⟩
theorem ms_o29 : ms_okm 29 = true := by decide +kernel
set_option maxRecDepth 100000 in
theorem ms_x30 : ms_cw 30 ∈ ms_ws := List.mem_filter.mpr ⟨List.mem_of_getElem? (i := 973) rfl, rfl⟩
theorem ms_o30 : ms_okm 30 = true := by decide +kernel
set_option maxRecDepth 100000 in
theorem ms_x31 : ms_cw 31 ∈ ms_ws := List.mem_filter.mpr ⟨List.mem_of_getElem? (i := 959) rfl, rfl⟩
theorem ms_o31 : ms_okm 31 = true := by decide +kernel
set_option maxRecDepth 100000 in
theorem ms_x32 : ms_cw 32 ∈ ms_ws := List.mem_filter.mpr ⟨List.mem_of_getElem? (i := 978) rfl, rfl⟩
theorem ms_o32 : ms_okm 32 = true := by decide +kernel
set_option maxRecDepth 100000 in
theorem ms_x33 : ms_cw 33 ∈ ms_ws := List.mem_filter.mpr ⟨List.mem_of_getElem? (i := 932) rfl, rfl⟩
theorem ms_o33 : ms_okm 33 = true := by decide +kernel
set_option maxRecDepth 100000 in
theorem ms_x34 : ms_cw 34 ∈ ms_ws := List.mem_filter.mpr ⟨List.mem_of_getElem? (i := 936) rfl, rfl⟩
theorem ms_o34 : ms_okm 34 = true := by decide +kernel
set_option maxRecDepth 100000 in
theorem ms_x35 : ms_cw 35 ∈ ms_ws := List.mem_filter.mpr ⟨List.mem_of_getElem? (i := 869) rfl, rfl⟩
theorem ms_o35 : ms_okm 35 = true := by decide +kernel
set_option maxRecDepth 100000 in
theorem ms_x36 : ms_cw 36 ∈ ms_ws := List.mem_filter.mpr ⟨List.mem_of_getElem? (i := 881) rfl, rfl⟩
theorem ms_o36 : ms_okm 36 = true := by decide +kernel
set_option maxRecDepth 100000 in
theorem ms_x37 : ms_cw 37 ∈ ms_ws := List.mem_filter.mpr ⟨List.mem_of_getElem? (i := 885) rfl, rfl⟩
theorem ms_o37 : ms_okm 37 = true := by decide +kernel
set_option maxRecDepth 100000 in
theorem ms_x38 : ms_cw 38 ∈ ms_ws := List.mem_filter.mpr ⟨List.mem_of_getElem? (i := 877) rfl, rfl⟩
theorem ms_o38 : ms_okm 38 = true := by decide +kernel
set_option maxRecDepth 100000 in
theorem ms_x39 : ms_cw 39 ∈ ms_ws := List.mem_filter.mpr ⟨List.mem_of_getElem? (i := 895) rfl, rfl⟩
theorem ms_o39 : ms_okm 39 = true := by decide +kernel
set_option maxRecDepth 100000 in
theorem ms_x40 : ms_cw 40 ∈ ms_ws := List.mem_filter.mpr ⟨List.mem_of_getElem? (i := 907) rfl, rfl⟩
theorem ms_o40 : ms_okm 40 = true := by decide +kernel
set_option maxRecDepth 100000 in
theorem ms_x41 : ms_cw 41 ∈ ms_ws := List.mem_filter.mpr ⟨List.mem_of_getElem? (i := 1009) rfl, rfl⟩
theorem ms_o41 : ms_okm 41 = true := by decide +kernel
set_option maxRecDepth 100000 in
theorem ms_x42 : ms_cw 42 ∈ ms_ws := List.mem_filter.mpr ⟨List.mem_of_getElem? (i := 928) rfl, rfl⟩
theorem ms_o42 : ms_okm 42 = true := by decide +kernel
set_option maxRecDepth 100000 in
theorem ms_x43 : ms_cw 43 ∈ ms_ws := List.mem_filter.mpr ⟨List.mem_of_getElem? (i := 1001) rfl, rfl⟩
theorem ms_o43 : ms_okm 43 = true := by decide +kernel
set_option maxRecDepth 100000 in
theorem ms_x44 : ms_cw 44 ∈ ms_ws := List.mem_filter.mpr ⟨List.mem_of_getElem? (i := 921) rfl, rfl⟩
theorem ms_o44 : ms_okm 44 = true := by decide +kernel
set_option maxRecDepth 100000 in
theorem ms_x45 : ms_cw 45 ∈ ms_ws := List.mem_filter.mpr ⟨List.mem_of_getElem? (i := 903) rfl, rfl⟩
theorem ms_o45 : ms_okm 45 = true := by decide +kernel
set_option maxRecDepth 100000 in
theorem ms_x46 : ms_cw 46 ∈ ms_ws := List.mem_filter.mpr ⟨List.mem_of_getElem? (i := 925) rfl, rfl⟩
theorem ms_o46 : ms_okm 46 = true := by decide +kernel
set_option maxRecDepth 100000 in
theorem ms_x47 : ms_cw 47 ∈ ms_ws := List.mem_filter.mpr ⟨List.mem_of_getElem? (i := 982) rfl, rfl⟩
theorem ms_o47 : ms_okm 47 = true := by decide +kernel
set_option maxRecDepth 100000 in
theorem ms_x48 : ms_cw 48 ∈ ms_ws := List.mem_filter.mpr ⟨List.mem_of_getElem? (i := 986) rfl, rfl⟩
theorem ms_o48 : ms_okm 48 = true := by decide +kernel
set_option maxRecDepth 100000 in
theorem ms_x49 : ms_cw 49 ∈ ms_ws := List.mem_filter.mpr ⟨List.mem_of_getElem? (i := 899) rfl, rfl⟩
theorem ms_o49 : ms_okm 49 = true := by decide +kernel
set_option maxRecDepth 100000 in
theorem ms_x50 : ms_cw 50 ∈ ms_ws := List.mem_filter.mpr ⟨List.mem_of_getElem? (i := 998) rfl, rfl⟩
theorem ms_o50 : ms_okm 50 = true := by decide +kernel
set_option maxRecDepth 100000 in
theorem ms_x51 : ms_cw 51 ∈ ms_ws := List.mem_filter.mpr ⟨List.mem_of_getElem? (i := 1005) rfl, rfl⟩
theorem ms_o51 : ms_okm 51 = true := by decide +kernel
set_option maxRecDepth 100000 in
theorem ms_x52 : ms_cw 52 ∈ ms_ws := List.mem_filter.mpr ⟨List.mem_of_getElem? (i := 994) rfl, rfl⟩
theorem ms_o52 : ms_okm 52 = true := by decide +kernel
set_option maxRecDepth 100000 in
theorem ms_x53 : ms_cw 53 ∈ ms_ws := List.mem_filter.mpr ⟨List.mem_of_getElem? (i := 990) rfl, rfl⟩
theorem ms_o53 : ms_okm 53 = true := by decide +kernel
set_option maxRecDepth 100000 in
theorem ms_x54 : ms_cw 54 ∈ ms_ws := List.mem_filter.mpr ⟨List.mem_of_getElem? (i := 1013) rfl, rfl⟩
theorem ms_o54 : ms_okm 54 = true := by decide +kernel
set_option maxRecDepth 100000 in
theorem ms_x55 : ms_cw 55 ∈ ms_ws := List.mem_filter.mpr ⟨List.mem_of_getElem? (i := 1017) rfl, rfl⟩
theorem ms_o55 : ms_okm 55 = true := by decide +kernel
set_option maxRecDepth 100000 in
theorem ms_x56 : ms_cw 56 ∈ ms_ws := List.mem_filter.mpr ⟨List.mem_of_getElem? (i := 1021) rfl, rfl⟩
theorem ms_o56 : ms_okm 56 = true := by decide +kernel
set_option maxRecDepth 100000 in
theorem ms_x57 : ms_cw 57 ∈ ms_ws := List.mem_filter.mpr ⟨List.mem_of_getElem? (i := 1038) rfl, rfl⟩
theorem ms_o57 : ms_okm 57 = true := by decide +kernel
set_option maxRecDepth 100000 in
theorem ms_x58 : ms_cw 58 ∈ ms_ws := List.mem_filter.mpr ⟨List.mem_of_getElem? (i := 1033) rfl, rfl⟩
theorem ms_o58 : ms_okm 58 = true := by decide +kernel
set_option maxRecDepth 100000 in
theorem ms_x59 : ms_cw 59 ∈ ms_ws := List.mem_filter.mpr ⟨List.mem_of_getElem? (i := 1029) rfl, rfl⟩
theorem ms_o59 : ms_okm 59 = true := by decide +kernel
set_option maxRecDepth 100000 in
theorem ms_x60 : ms_cw 60 ∈ ms_ws := List.mem_filter.mpr ⟨List.mem_of_getElem? (i := 1025) rfl, rfl⟩
theorem ms_o60 : ms_okm 60 = true := by decide +kernel
set_option maxRecDepth 100000 in
theorem ms_x61 : ms_cw 61 ∈ ms_ws := List.mem_filter.mpr ⟨List.mem_of_getElem? (i := 1042) rfl, rfl⟩
theorem ms_o61 : ms_okm 61 = true := by decide +kernel
set_option maxRecDepth 100000 in
theorem ms_x62 : ms_cw 62 ∈ ms_ws := List.mem_filter.mpr ⟨List.mem_of_getElem? (i := 1050) rfl, rfl⟩
theorem ms_o62 : ms_okm 62 = true := by decide +kernel
set_option maxRecDepth 100000 in
theorem ms_x63 : ms_cw 63 ∈ ms_ws := List.mem_filter.mpr ⟨List.mem_of_getElem? (i := 1054) rfl, rfl⟩
theorem ms_o63 : ms_okm 63 = true := by decide +kernel
set_option maxRecDepth 100000 in
theorem ms_x64 : ms_cw 64 ∈ ms_ws := List.mem_filter.mpr ⟨List.mem_of_getElem? (i := 1058) rfl, rfl⟩
theorem ms_o64 : ms_okm 64 = true := by decide +kernel
set_option maxRecDepth 100000 in
theorem ms_x65 : ms_cw 65 ∈ ms_ws := List.mem_filter.mpr ⟨List.mem_of_getElem? (i := 91) rfl, rfl⟩
theorem ms_o65 : ms_okm 65 = true := by decide +kernel
set_option maxRecDepth 100000 in
theorem ms_x66 : ms_cw 66 ∈ ms_ws := List.mem_filter.mpr ⟨List.mem_of_getElem? (i := 477) rfl, rfl⟩
theorem ms_o66 : ms_okm 66 = true := by decide +kernel
set_option maxRecDepth 100000 in
theorem ms_x67 : ms_cw 67 ∈ ms_ws := List.mem_filter.mpr ⟨List.mem_of_getElem? (i := 489) rfl, rfl⟩
theorem ms_o67 : ms_okm 67 = true := by decide +kernel
set_option maxRecDepth 100000 in
theorem ms_x68 : ms_cw 68 ∈ ms_ws := List.mem_filter.mpr ⟨List.mem_of_getElem? (i := 85) rfl, rfl⟩
theorem ms_o68 : ms_okm 68 = true := by decide +kernel
set_option maxRecDepth 100000 in
theorem ms_x69 : ms_cw 69 ∈ ms_ws := List.mem_filter.mpr ⟨List.mem_of_getElem? (i := 473) rfl, rfl⟩
theorem ms_o69 : ms_okm 69 = true := by decide +kernel
set_option maxRecDepth 100000 in
theorem ms_x70 : ms_cw 70 ∈ ms_ws := List.mem_filter.mpr ⟨List.mem_of_getElem? (i := 580) rfl, rfl⟩
theorem ms_o70 : ms_okm 70 = true := by decide +kernel
set_option maxRecDepth 100000 in
theorem ms_x71 : ms_cw 71 ∈ ms_ws := List.mem_filter.mpr ⟨List.mem_of_getElem? (i := 520) rfl, rfl⟩
theorem ms_o71 : ms_okm 71 = true := by decide +kernel
set_option maxRecDepth 100000 in
theorem ms_x72 : ms_cw 72 ∈ ms_ws := List.mem_filter.mpr ⟨List.mem_of_getElem? (i := 592) rfl, rfl⟩
theorem ms_o72 : ms_okm 72 = true := by decide +kernel
set_option maxRecDepth 100000 in
theorem ms_x73 : ms_cw 73 ∈ ms_ws := List.mem_filter.mpr ⟨List.mem_of_getElem? (i := 524) rfl, rfl⟩
theorem ms_o73 : ms_okm 73 = true := by decide +kernel
set_option maxRecDepth 100000 in
theorem ms_x74 : ms_cw 74 ∈ ms_ws := List.mem_filter.mpr ⟨List.mem_of_getElem? (i := 136) rfl, rfl⟩
theorem ms_o74 : ms_okm 74 = true := by decide +kernel
set_option maxRecDepth 100000 in
theorem ms_x75 : ms_cw 75 ∈ ms_ws := List.mem_filter.mpr ⟨List.mem_of_getElem? (i := 372) rfl, rfl⟩
theorem ms_o75 : ms_okm 75 = true := by decide +kernel
set_option maxRecDepth 100000 in
theorem ms_x76 : ms_cw 76 ∈ ms_ws := List.mem_filter.mpr ⟨List.mem_of_getElem? (i := 670) rfl, rfl⟩
theorem ms_o76 : ms_okm 76 = true := by decide +kernel
set_option maxRecDepth 100000 in
theorem ms_x77 : ms_cw 77 ∈ ms_ws := List.mem_filter.mpr ⟨List.mem_of_getElem? (i := 678) rfl, rfl⟩
theorem ms_o77 : ms_okm 77 = true := by decide +kernel
set_option maxRecDepth 100000 in
theorem ms_x78 : ms_cw 78 ∈ ms_ws := List.mem_filter.mpr ⟨List.mem_of_getElem? (i := 674) rfl, rfl⟩
theorem ms_o78 : ms_okm 78 = true := by decide +kernel
set_option maxRecDepth 100000 in
theorem ms_x79 : ms_cw 79 ∈ ms_ws := List.mem_filter.mpr ⟨List.mem_of_getElem? (i := 444) rfl, rfl⟩
theorem ms_o79 : ms_okm 79 = true := by decide +kernel
set_option maxRecDepth 100000 in
theorem ms_x80 : ms_cw 80 ∈ ms_ws := List.mem_filter.mpr ⟨List.mem_of_getElem? (i := 622) rfl, rfl⟩
theorem ms_o80 : ms_okm 80 = true := by decide +kernel
set_option maxRecDepth 100000 in
theorem ms_x81 : ms_cw 81 ∈ ms_ws := List.mem_filter.mpr ⟨List.mem_of_getElem? (i := 448) rfl, rfl⟩
theorem ms_o81 : ms_okm 81 = true := by decide +kernel
set_option maxRecDepth 100000 in
theorem ms_x82 : ms_cw 82 ∈ ms_ws := List.mem_filter.mpr ⟨List.mem_of_getElem? (i := 145) rfl, rfl⟩
theorem ms_o82 : ms_okm 82 = true := by decide +kernel
set_option maxRecDepth 100000 in
theorem ms_x83 : ms_cw 83 ∈ ms_ws := List.mem_filter.mpr ⟨List.mem_of_getElem? (i := 726) rfl, rfl⟩
theorem ms_o83 : ms_okm 83 = true := by decide +kernel
set_option maxRecDepth 100000 in
theorem ms_x84 : ms_cw 84 ∈ ms_ws := List.mem_filter.mpr ⟨List.mem_of_getElem? (i := 413) rfl, rfl⟩
theorem ms_o84 : ms_okm 84 = true := by decide +kernel
set_option maxRecDepth 100000 in
theorem ms_x85 : ms_cw 85 ∈ ms_ws := List.mem_filter.mpr ⟨List.mem_of_getElem? (i := 498) rfl, rfl⟩
theorem ms_o85 : ms_okm 85 = true := by decide +kernel
set_option maxRecDepth 100000 in
theorem ms_x86 : ms_cw 86 ∈ ms_ws := List.mem_filter.mpr ⟨List.mem_of_getElem? (i := 465) rfl, rfl⟩
theorem ms_o86 : ms_okm 86 = true := by decide +kernel
set_option maxRecDepth 100000 in
theorem ms_x87 : ms_cw 87 ∈ ms_ws := List.mem_filter.mpr ⟨List.mem_of_getElem? (i := 418) rfl, rfl⟩
theorem ms_o87 : ms_okm 87 = true := by decide +kernel
set_option maxRecDepth 100000 in
theorem ms_x88 : ms_cw 88 ∈ ms_ws := List.mem_filter.mpr ⟨List.mem_of_getElem? (i := 502) rfl, rfl⟩
theorem ms_o88 : ms_okm 88 = true := by decide +kernel
set_option maxRecDepth 100000 in
theorem ms_x89 : ms_cw 89 ∈ ms_ws := List.mem_filter.mpr ⟨List.mem_of_getElem? (i := 646) rfl, rfl⟩
theorem ms_o89 : ms_okm 89 = true := by decide +kernel
set_option maxRecDepth 100000 in
theorem ms_x90 : ms_cw 90 ∈ ms_ws := List.mem_filter.mpr ⟨List.mem_of_getElem? (i := 459) rfl, rfl⟩
theorem ms_o90 : ms_okm 90 = true := by decide +kernel
set_option maxRecDepth 100000 in
theorem ms_x91 : ms_cw 91 ∈ ms_ws := List.mem_filter.mpr ⟨List.mem_of_getElem? (i := 456) rfl, rfl⟩
theorem ms_o91 : ms_okm 91 = true := by decide +kernel
set_option maxRecDepth 100000 in
theorem ms_x92 : ms_cw 92 ∈ ms_ws := List.mem_filter.mpr ⟨List.mem_of_getElem? (i := 233) rfl, rfl⟩
theorem ms_o92 : ms_okm 92 = true := by decide +kernel
set_option maxRecDepth 100000 in
theorem ms_x93 : ms_cw 93 ∈ ms_ws := List.mem_filter.mpr ⟨List.mem_of_getElem? (i := 383) rfl, rfl⟩
theorem ms_o93 : ms_okm 93 = true := by decide +kernel
set_option maxRecDepth 100000 in
theorem ms_x94 : ms_cw 94 ∈ ms_ws := List.mem_filter.mpr ⟨List.mem_of_getElem? (i := 744) rfl, rfl⟩
theorem ms_o94 : ms_okm 94 = true := by decide +kernel
set_option maxRecDepth 100000 in
theorem ms_x95 : ms_cw 95 ∈ ms_ws := List.mem_filter.mpr ⟨List.mem_of_getElem? (i := 683) rfl, rfl⟩
theorem ms_o95 : ms_okm 95 = true := by decide +kernel
set_option maxRecDepth 100000 in
theorem ms_x96 : ms_cw 96 ∈ ms_ws := List.mem_filter.mpr ⟨List.mem_of_getElem? (i := 687) rfl, rfl⟩
theorem ms_o96 : ms_okm 96 = true := by decide +kernel
set_option maxRecDepth 100000 in
theorem ms_x97 : ms_cw 97 ∈ ms_ws := List.mem_filter.mpr ⟨List.mem_of_getElem? (i := 440) rfl, rfl⟩
theorem ms_o97 : ms_okm 97 = true := by decide +kernel
set_option maxRecDepth 100000 in
theorem ms_x98 : ms_cw 98 ∈ ms_ws := List.mem_filter.mpr ⟨List.mem_of_getElem? (i := 452) rfl, rfl⟩
theorem ms_o98 : ms_okm 98 = true := by decide +kernel
set_option maxRecDepth 100000 in
theorem ms_x99 : ms_cw 99 ∈ ms_ws := List.mem_filter.mpr ⟨List.mem_of_getElem? (i := 469) rfl, rfl⟩
theorem ms_o99 : ms_okm 99 = true := by decide +kernel
set_option maxRecDepth 100000 in
theorem ms_x100 : ms_cw 100 ∈ ms_ws := List.mem_filter.mpr ⟨List.mem_of_getElem? (i := 507) rfl, rfl⟩
theorem ms_o100 : ms_okm 100 = true := by decide +kernel
set_option maxRecDepth 100000 in
theorem ms_x101 : ms_cw 101 ∈ ms_ws := List.mem_filter.mpr ⟨List.mem_of_getElem? (i := 575) rfl, rfl⟩
theorem ms_o101 : ms_okm 101 = true := by decide +kernel
set_option maxRecDepth 100000 in
theorem ms_x102 : ms_cw 102 ∈ ms_ws := List.mem_filter.mpr ⟨List.mem_of_getElem? (i := 584) rfl, rfl⟩
theorem ms_o102 : ms_okm 102 = true := by decide +kernel
set_option maxRecDepth 100000 in
theorem ms_x103 : ms_cw 103 ∈ ms_ws := List.mem_filter.mpr ⟨List.mem_of_getElem? (i := 588) rfl, rfl⟩
theorem ms_o103 : ms_okm 103 = true := by decide +kernel
set_option maxRecDepth 100000 in
theorem ms_x104 : ms_cw 104 ∈ ms_ws := List.mem_filter.mpr ⟨List.mem_of_getElem? (i := 515) rfl, rfl⟩
theorem ms_o104 : ms_okm 104 = true := by decide +kernel
set_option maxRecDepth 100000 in
theorem ms_x105 : ms_cw 105 ∈ ms_ws := List.mem_filter.mpr ⟨List.mem_of_getElem? (i := 105) rfl, rfl⟩
theorem ms_o105 : ms_okm 105 = true := by decide +kernel
set_option maxRecDepth 100000 in
theorem ms_x106 : ms_cw 106 ∈ ms_ws := List.mem_filter.mpr ⟨List.mem_of_getElem? (i := 528) rfl, rfl⟩
theorem ms_o106 : ms_okm 106 = true := by decide +kernel
set_option maxRecDepth 100000 in
theorem ms_x107 : ms_cw 107 ∈ ms_ws := List.mem_filter.mpr ⟨List.mem_of_getElem? (i := 543) rfl, rfl⟩
theorem ms_o107 : ms_okm 107 = true := by decide +kernel
set_option maxRecDepth 100000 in
theorem ms_x108 : ms_cw 108 ∈ ms_ws := List.mem_filter.mpr ⟨List.mem_of_getElem? (i := 536) rfl, rfl⟩
theorem ms_o108 : ms_okm 108 = true := by decide +kernel
set_option maxRecDepth 100000 in
theorem ms_x109 : ms_cw 109 ∈ ms_ws := List.mem_filter.mpr ⟨List.mem_of_getElem? (i := 548) rfl, rfl⟩
theorem ms_o109 : ms_okm 109 = true := by decide +kernel
set_option maxRecDepth 100000 in
theorem ms_x110 : ms_cw 110 ∈ ms_ws := List.mem_filter.mpr ⟨List.mem_of_getElem? (i := 553) rfl, rfl⟩
theorem ms_o110 : ms_okm 110 = true := by decide +kernel
set_option maxRecDepth 100000 in
theorem ms_x111 : ms_cw 111 ∈ ms_ws := List.mem_filter.mpr ⟨List.mem_of_getElem? (i := 557) rfl, rfl⟩
theorem ms_o111 : ms_okm 111 = true := by decide +kernel
set_option maxRecDepth 100000 in
theorem ms_x112 : ms_cw 112 ∈ ms_ws := List.mem_filter.mpr ⟨List.mem_of_getElem? (i := 561) rfl, rfl⟩
theorem ms_o112 : ms_okm 112 = true := by decide +kernel
set_option maxRecDepth 100000 in
theorem ms_x113 : ms_cw 113 ∈ ms_ws := List.mem_filter.mpr ⟨List.mem_of_getElem? (i := 565) rfl, rfl⟩
theorem ms_o113 : ms_okm 113 = true := by decide +kernel
set_option maxRecDepth 100000 in
theorem ms_x114 : ms_cw 114 ∈ ms_ws := List.mem_filter.mpr ⟨List.mem_of_getElem? (i := 570) rfl, rfl⟩
theorem ms_o114 : ms_okm 114 = true := by decide +kernel
set_option maxRecDepth 100000 in
theorem ms_x115 : ms_cw 115 ∈ ms_ws := List.mem_filter.mpr ⟨List.mem_of_getElem? (i := 186) rfl, rfl⟩
theorem ms_o115 : ms_okm 115 = true := by decide +kernel
set_option maxRecDepth 100000 in
theorem ms_x116 : ms_cw 116 ∈ ms_ws := List.mem_filter.mpr ⟨List.mem_of_getElem? (i := 376) rfl, rfl⟩
theorem ms_o116 : ms_okm 116 = true := by decide +kernel
set_option maxRecDepth 100000 in
theorem ms_x117 : ms_cw 117 ∈ ms_ws := List.mem_filter.mpr ⟨List.mem_of_getElem? (i := 395) rfl, rfl⟩
theorem ms_o117 : ms_okm 117 = true := by decide +kernel
set_option maxRecDepth 100000 in
theorem ms_x118 : ms_cw 118 ∈ ms_ws := List.mem_filter.mpr ⟨List.mem_of_getElem? (i := 298) rfl, rfl⟩
theorem ms_o118 : ms_okm 118 = true := by decide +kernel
set_option maxRecDepth 100000 in
theorem ms_x119 : ms_cw 119 ∈ ms_ws := List.mem_filter.mpr ⟨List.mem_of_getElem? (i := 692) rfl, rfl⟩
theorem ms_o119 : ms_okm 119 = true := by decide +kernel
set_option maxRecDepth 100000 in
theorem ms_x120 : ms_cw 120 ∈ ms_ws := List.mem_filter.mpr ⟨List.mem_of_getElem? (i := 696) rfl, rfl⟩
theorem ms_o120 : ms_okm 120 = true := by decide +kernel
set_option maxRecDepth 100000 in
theorem ms_x121 : ms_cw 121 ∈ ms_ws := List.mem_filter.mpr ⟨List.mem_of_getElem? (i := 700) rfl, rfl⟩
theorem ms_o121 : ms_okm 121 = true := by decide +kernel
set_option maxRecDepth 100000 in
theorem ms_x122 : ms_cw 122 ∈ ms_ws := List.mem_filter.mpr ⟨List.mem_of_getElem? (i := 603) rfl, rfl⟩
theorem ms_o122 : ms_okm 122 = true := by decide +kernel
set_option maxRecDepth 100000 in
theorem ms_x123 : ms_cw 123 ∈ ms_ws := List.mem_filter.mpr ⟨List.mem_of_getElem? (i := 613) rfl, rfl⟩
theorem ms_o123 : ms_okm 123 = true := by decide +kernel
set_option maxRecDepth 100000 in
theorem ms_x124 : ms_cw 124 ∈ ms_ws := List.mem_filter.mpr ⟨List.mem_of_getElem? (i := 617) rfl, rfl⟩
theorem ms_o124 : ms_okm 124 = true := by decide +kernel
set_option maxRecDepth 100000 in
theorem ms_x125 : ms_cw 125 ∈ ms_ws := List.mem_filter.mpr ⟨List.mem_of_getElem? (i := 626) rfl, rfl⟩
theorem ms_o125 : ms_okm 125 = true := by decide +kernel
set_option maxRecDepth 100000 in
theorem ms_x126 : ms_cw 126 ∈ ms_ws := List.mem_filter.mpr ⟨List.mem_of_getElem? (i := 631) rfl, rfl⟩
theorem ms_o126 : ms_okm 126 = true := by decide +kernel
set_option maxRecDepth 100000 in
theorem ms_x127 : ms_cw 127 ∈ ms_ws := List.mem_filter.mpr ⟨List.mem_of_getElem? (i := 635) rfl, rfl⟩
theorem ms_o127 : ms_okm 127 = true := by decide +kernel
set_option maxRecDepth 100000 in
theorem ms_x128 : ms_cw 128 ∈ ms_ws := List.mem_filter.mpr ⟨List.mem_of_getElem? (i := 639) rfl, rfl⟩
theorem ms_o128 : ms_okm 128 = true := by decide +kernel
set_option maxRecDepth 100000 in
theorem ms_x129 : ms_cw 129 ∈ ms_ws := List.mem_filter.mpr ⟨List.mem_of_getElem? (i := 652) rfl, rfl⟩
theorem ms_o129 : ms_okm 129 = true := by decide +kernel
set_option maxRecDepth 100000 in
theorem ms_x130 : ms_cw 130 ∈ ms_ws := List.mem_filter.mpr ⟨List.mem_of_getElem? (i := 657) rfl, rfl⟩
theorem ms_o130 : ms_okm 130 = true := by decide +kernel
set_option maxRecDepth 100000 in
theorem ms_x131 : ms_cw 131 ∈ ms_ws := List.mem_filter.mpr ⟨List.mem_of_getElem? (i := 495) rfl, rfl⟩
theorem ms_o131 : ms_okm 131 = true := by decide +kernel
set_option maxRecDepth 100000 in
theorem ms_x132 : ms_cw 132 ∈ ms_ws := List.mem_filter.mpr ⟨List.mem_of_getElem? (i := 642) rfl, rfl⟩
theorem ms_o132 : ms_okm 132 = true := by decide +kernel
set_option maxRecDepth 100000 in
theorem ms_x133 : ms_cw 133 ∈ ms_ws := List.mem_filter.mpr ⟨List.mem_of_getElem? (i := 301) rfl, rfl⟩
theorem ms_o133 : ms_okm 133 = true := by decide +kernel
set_option maxRecDepth 100000 in
theorem ms_x134 : ms_cw 134 ∈ ms_ws := List.mem_filter.mpr ⟨List.mem_of_getElem? (i := 386) rfl, rfl⟩
theorem ms_o134 : ms_okm 134 = true := by decide +kernel
set_option maxRecDepth 100000 in
theorem ms_x135 : ms_cw 135 ∈ ms_ws := List.mem_filter.mpr ⟨List.mem_of_getElem? (i := 421) rfl, rfl⟩
theorem ms_o135 : ms_okm 135 = true := by decide +kernel
set_option maxRecDepth 100000 in
theorem ms_x136 : ms_cw 136 ∈ ms_ws := List.mem_filter.mpr ⟨List.mem_of_getElem? (i := 428) rfl, rfl⟩
theorem ms_o136 : ms_okm 136 = true := by decide +kernel
set_option maxRecDepth 100000 in
theorem ms_x137 : ms_cw 137 ∈ ms_ws := List.mem_filter.mpr ⟨List.mem_of_getElem? (i := 595) rfl, rfl⟩
theorem ms_o137 : ms_okm 137 = true := by decide +kernel
set_option maxRecDepth 100000 in
theorem ms_x138 : ms_cw 138 ∈ ms_ws := List.mem_filter.mpr ⟨List.mem_of_getElem? (i := 662) rfl, rfl⟩
theorem ms_o138 : ms_okm 138 = true := by decide +kernel
set_option maxRecDepth 100000 in
theorem ms_x139 : ms_cw 139 ∈ ms_ws := List.mem_filter.mpr ⟨List.mem_of_getElem? (i := 703) rfl, rfl⟩
theorem ms_o139 : ms_okm 139 = true := by decide +kernel
set_option maxRecDepth 100000 in
theorem ms_x140 : ms_cw 140 ∈ ms_ws := List.mem_filter.mpr ⟨List.mem_of_getElem? (i := 710) rfl, rfl⟩
theorem ms_o140 : ms_okm 140 = true := by decide +kernel
set_option maxRecDepth 100000 in
theorem ms_x141 : ms_cw 141 ∈ ms_ws := List.mem_filter.mpr ⟨List.mem_of_getElem? (i := 718) rfl, rfl⟩
theorem ms_o141 : ms_okm 141 = true := by decide +kernel
set_option maxRecDepth 100000 in
theorem ms_x142 : ms_cw 142 ∈ ms_ws := List.mem_filter.mpr ⟨List.mem_of_getElem? (i := 729) rfl, rfl⟩
theorem ms_o142 : ms_okm 142 = true := by decide +kernel
set_option maxRecDepth 100000 in
theorem ms_x143 : ms_cw 143 ∈ ms_ws := List.mem_filter.mpr ⟨List.mem_of_getElem? (i := 736) rfl, rfl⟩
theorem ms_o143 : ms_okm 143 = true := by decide +kernel
set_option maxRecDepth 100000 in
theorem ms_x144 : ms_cw 144 ∈ ms_ws := List.mem_filter.mpr ⟨List.mem_of_getElem? (i := 747) rfl, rfl⟩
theorem ms_o144 : ms_okm 144 = true := by decide +kernel
set_option maxRecDepth 100000 in
theorem ms_x146 : ms_cw 146 ∈ ms_ws := List.mem_filter.mpr ⟨List.mem_of_getElem? (i := 606) rfl, rfl⟩
theorem ms_o146 : ms_okm 146 = true := by decide +kernel
set_option maxRecDepth 100000 in
theorem ms_x147 : ms_cw 147 ∈ ms_ws := List.mem_filter.mpr ⟨List.mem_of_getElem? (i := 492) rfl, rfl⟩
theorem ms_o147 : ms_okm 147 = true := by decide +kernel
set_option maxRecDepth 100000 in
theorem ms_x148 : ms_cw 148 ∈ ms_ws := List.mem_filter.mpr ⟨List.mem_of_getElem? (i := 379) rfl, rfl⟩
theorem ms_o148 : ms_okm 148 = true := by decide +kernel
set_option maxRecDepth 100000 in
theorem ms_x149 : ms_cw 149 ∈ ms_ws := List.mem_filter.mpr ⟨List.mem_of_getElem? (i := 531) rfl, rfl⟩
theorem ms_o149 : ms_okm 149 = true := by decide +kernel
theorem ms_okms : ∀ k, k < 150 → k ≠ ms_law → ms_cw k ∈ ms_ws ∧ ms_okm k = true := by
  intro k h1 h2
  match k, h1, h2 with
  | 0, _, _ => exact ⟨ms_x0, ms_o0⟩
  | 1, _, _ => exact ⟨ms_x1, ms_o1⟩
  | 2, _, _ => exact ⟨ms_x2, ms_o2⟩
  | 3, _, _ => exact ⟨ms_x3, ms_o3⟩
  | 4, _, _ => exact ⟨ms_x4, ms_o4⟩
  | 5, _, _ => exact ⟨ms_x5, ms_o5⟩
  | 6, _, _ => exact ⟨ms_x6, ms_o6⟩
  | 7, _, _ => exact ⟨ms_x7, ms_o7⟩
  | 8, _, _ => exact ⟨ms_x8, ms_o8⟩
  | 9, _, _ => exact ⟨ms_x9, ms_o9⟩
  | 10, _, _ => exact ⟨ms_x10, ms_o10⟩
  | 11, _, _ => exact ⟨ms_x11, ms_o11⟩
  | 12, _, _ => exact ⟨ms_x12, ms_o12⟩
  | 13, _, _ => exact ⟨ms_x13, ms_o13⟩
  | 14, _, _ => exact ⟨ms_x14, ms_o14⟩
  | 15, _, _ => exact ⟨ms_x15, ms_o15⟩
  | 16, _, _ => exact ⟨ms_x16, ms_o16⟩
  | 17, _, _ => exact ⟨ms_x17, ms_o17⟩
  | 18, _, _ => exact ⟨ms_x18, ms_o18⟩
  | 19, _, _ => exact ⟨ms_x19, ms_o19⟩
  | 20, _, _ => exact ⟨ms_x20, ms_o20⟩
  | 21, _, _ => exact ⟨ms_x21, ms_o21⟩
  | 22, _, _ => exact ⟨ms_x22, ms_o22⟩
  | 23, _, _ => exact ⟨ms_x23, ms_o23⟩
  | 24, _, _ => exact ⟨ms_x24, ms_o24⟩
  | 25, _, _ => exact ⟨ms_x25, ms_o25⟩
  | 26, _, _ => exact ⟨ms_x26, ms_o26⟩
  | 27, _, _ => exact ⟨ms_x27, ms_o27⟩
  | 28, _, _ => exact ⟨ms_x28, ms_o28⟩
  | 29, _, _ => exact ⟨ms_x29, ms_o29⟩
  | 30, _, _ => exact ⟨ms_x30, ms_o30⟩
  | 31, _, _ => exact ⟨ms_x31, ms_o31⟩
  | 32, _, _ => exact ⟨ms_x32, ms_o32⟩
  | 33, _, _ => exact ⟨ms_x33, ms_o33⟩
  | 34, _, _ => exact ⟨ms_x34, ms_o34⟩
  | 35, _, _ => exact ⟨ms_x35, ms_o35⟩
  | 36, _, _ => exact ⟨ms_x36, ms_o36⟩
  | 37, _, _ => exact ⟨ms_x37, ms_o37⟩
  | 38, _, _ => exact ⟨ms_x38, ms_o38⟩
  | 39, _, _ => exact ⟨ms_x39, ms_o39⟩
  | 40, _, _ => exact ⟨ms_x40, ms_o40⟩
  | 41, _, _ => exact ⟨ms_x41, ms_o41⟩
  | 42, _, _ => exact ⟨ms_x42, ms_o42⟩
  | 43, _, _ => exact ⟨ms_x43, ms_o43⟩
  | 44, _, _ => exact ⟨ms_x44, ms_o44⟩
  | 45, _, _ => exact ⟨ms_x45, ms_o45⟩
  | 46, _, _ => exact ⟨ms_x46, ms_o46⟩
  | 47, _, _ => exact ⟨ms_x47, ms_o47⟩
  | 48, _, _ => exact ⟨ms_x48, ms_o48⟩
  | 49, _, _ => exact ⟨ms_x49, ms_o49⟩
  | 50, _, _ => exact ⟨ms_x50, ms_o50⟩
  | 51, _, _ => exact ⟨ms_x51, ms_o51⟩
  | 52, _, _ => exact ⟨ms_x52, ms_o52⟩
  | 53, _, _ => exact ⟨ms_x53, ms_o53⟩
  | 54, _, _ => exact ⟨ms_x54, ms_o54⟩
  | 55, _, _ => exact ⟨ms_x55, ms_o55⟩
  | 56, _, _ => exact ⟨ms_x56, ms_o56⟩
  | 57, _, _ => exact ⟨ms_x57, ms_o57⟩
  | 58, _, _ => exact ⟨ms_x58, ms_o58⟩
  | 59, _, _ => exact ⟨ms_x59, ms_o59⟩
  | 60, _, _ => exact ⟨ms_x60, ms_o60⟩
  | 61, _, _ => exact ⟨ms_x61, ms_o61⟩
  | 62, _, _ => exact ⟨ms_x62, ms_o62⟩
  | 63, _, _ => exact ⟨ms_x63, ms_o63⟩
  | 64, _, _ => exact ⟨ms_x64, ms_o64⟩
  | 65, _, _ => exact ⟨ms_x65, ms_o65⟩
  | 66, _, _ => exact ⟨ms_x66, ms_o66⟩
  | 67, _, _ => exact ⟨ms_x67, ms_o67⟩
  | 68, _, _ => exact ⟨ms_x68, ms_o68⟩
  | 69, _, _ => exact ⟨ms_x69, ms_o69⟩
  | 70, _, _ => exact ⟨ms_x70, ms_o70⟩
  | 71, _, _ => exact ⟨ms_x71, ms_o71⟩
  | 72, _, _ => exact ⟨ms_x72, ms_o72⟩
  | 73, _, _ => exact ⟨ms_x73, ms_o73⟩
  | 74, _, _ => exact ⟨ms_x74, ms_o74⟩
  | 75, _, _ => exact ⟨ms_x75, ms_o75⟩
  | 76, _, _ => exact ⟨ms_x76, ms_o76⟩
  | 77, _, _ => exact ⟨ms_x77, ms_o77⟩
  | 78, _, _ => exact ⟨ms_x78, ms_o78⟩
  | 79, _, _ => exact ⟨ms_x79, ms_o79⟩
  | 80, _, _ => exact ⟨ms_x80, ms_o80⟩
  | 81, _, _ => exact ⟨ms_x81, ms_o81⟩
  | 82, _, _ => exact ⟨ms_x82, ms_o82⟩
  | 83, _, _ => exact ⟨ms_x83, ms_o83⟩
  | 84, _, _ => exact ⟨ms_x84, ms_o84⟩
  | 85, _, _ => exact ⟨ms_x85, ms_o85⟩
  | 86, _, _ => exact ⟨ms_x86, ms_o86⟩
  | 87, _, _ => exact ⟨ms_x87, ms_o87⟩
  | 88, _, _ => exact ⟨ms_x88, ms_o88⟩
  | 89, _, _ => exact ⟨ms_x89, ms_o89⟩
  | 90, _, _ => exact ⟨ms_x90, ms_o90⟩
  | 91, _, _ => exact ⟨ms_x91, ms_o91⟩
  | 92, _, _ => exact ⟨ms_x92, ms_o92⟩
  | 93, _, _ => exact ⟨ms_x93, ms_o93⟩
  | 94, _, _ => exact ⟨ms_x94, ms_o94⟩
  | 95, _, _ => exact ⟨ms_x95, ms_o95⟩
  | 96, _, _ => exact ⟨ms_x96, ms_o96⟩
  | 97, _, _ => exact ⟨ms_x97, ms_o97⟩
  | 98, _, _ => exact ⟨ms_x98, ms_o98⟩
  | 99, _, _ => exact ⟨ms_x99, ms_o99⟩
  | 100, _, _ => exact ⟨ms_x100, ms_o100⟩
  | 101, _, _ => exact ⟨ms_x101, ms_o101⟩
  | 102, _, _ => exact ⟨ms_x102, ms_o102⟩
  | 103, _, _ => exact ⟨ms_x103, ms_o103⟩
  | 104, _, _ => exact ⟨ms_x104, ms_o104⟩
  | 105, _, _ => exact ⟨ms_x105, ms_o105⟩
  | 106, _, _ => exact ⟨ms_x106, ms_o106⟩
  | 107, _, _ => exact ⟨ms_x107, ms_o107⟩
  | 108, _, _ => exact ⟨ms_x108, ms_o108⟩
  | 109, _, _ => exact ⟨ms_x109, ms_o109⟩
  | 110, _, _ => exact ⟨ms_x110, ms_o110⟩
  | 111, _, _ => exact ⟨ms_x111, ms_o111⟩
  | 112, _, _ => exact ⟨ms_x112, ms_o112⟩
  | 113, _, _ => exact ⟨ms_x113, ms_o113⟩
  | 114, _, _ => exact ⟨ms_x114, ms_o114⟩
  | 115, _, _ => exact ⟨ms_x115, ms_o115⟩
  | 116, _, _ => exact ⟨ms_x116, ms_o116⟩
  | 117, _, _ => exact ⟨ms_x117, ms_o117⟩
  | 118, _, _ => exact ⟨ms_x118, ms_o118⟩
  | 119, _, _ => exact ⟨ms_x119, ms_o119⟩
  | 120, _, _ => exact ⟨ms_x120, ms_o120⟩
  | 121, _, _ => exact ⟨ms_x121, ms_o121⟩
  | 122, _, _ => exact ⟨ms_x122, ms_o122⟩
  | 123, _, _ => exact ⟨ms_x123, ms_o123⟩
  | 124, _, _ => exact ⟨ms_x124, ms_o124⟩
  | 125, _, _ => exact ⟨ms_x125, ms_o125⟩
  | 126, _, _ => exact ⟨ms_x126, ms_o126⟩
  | 127, _, _ => exact ⟨ms_x127, ms_o127⟩
  | 128, _, _ => exact ⟨ms_x128, ms_o128⟩
  | 129, _, _ => exact ⟨ms_x129, ms_o129⟩
  | 130, _, _ => exact ⟨ms_x130, ms_o130⟩
  | 131, _, _ => exact ⟨ms_x131, ms_o131⟩
  | 132, _, _ => exact ⟨ms_x132, ms_o132⟩
  | 133, _, _ => exact ⟨ms_x133, ms_o133⟩
  | 134, _, _ => exact ⟨ms_x134, ms_o134⟩
  | 135, _, _ => exact ⟨ms_x135, ms_o135⟩
  | 136, _, _ => exact ⟨ms_x136, ms_o136⟩
  | 137, _, _ => exact ⟨ms_x137, ms_o137⟩
  | 138, _, _ => exact ⟨ms_x138, ms_o138⟩
  | 139, _, _ => exact ⟨ms_x139, ms_o139⟩
  | 140, _, _ => exact ⟨ms_x140, ms_o140⟩
  | 141, _, _ => exact ⟨ms_x141, ms_o141⟩
  | 142, _, _ => exact ⟨ms_x142, ms_o142⟩
  | 143, _, _ => exact ⟨ms_x143, ms_o143⟩
  | 144, _, _ => exact ⟨ms_x144, ms_o144⟩
  | 145, _, h => exact absurd rfl h
  | 146, _, _ => exact ⟨ms_x146, ms_o146⟩
  | 147, _, _ => exact ⟨ms_x147, ms_o147⟩
  | 148, _, _ => exact ⟨ms_x148, ms_o148⟩
  | 149, _, _ => exact ⟨ms_x149, ms_o149⟩
  | q + 150, h, _ => exact absurd h (by omega)
end
section
/-! EVERY ROW OF THE CODE TABLES IS AS IT MUST BE. By gen.py. -/
theorem ms_k0 : ∀ e ∈ ms_c0, ms_ckA 0 e.1 e.2 = true := List.all_eq_true.mp (by decide +kernel)
theorem ms_k1 : ∀ e ∈ ms_c1, ms_ckA 1 e.1 e.2 = true := List.all_eq_true.mp (by decide +kernel)
theorem ms_k2 : ∀ e ∈ ms_c2, ms_ckA 2 e.1 e.2 = true := List.all_eq_true.mp (by decide +kernel)
theorem ms_k3 : ∀ e ∈ ms_c3, ms_ckA 3 e.1 e.2 = true := List.all_eq_true.mp (by decide +kernel)
theorem ms_k4 : ∀ e ∈ ms_c4, ms_ckA 4 e.1 e.2 = true := List.all_eq_true.mp (by decide +kernel)
theorem ms_k5 : ∀ e ∈ ms_c5, ms_ckA 5 e.1 e.2 = true := List.all_eq_true.mp (by decide +kernel)
theorem ms_k6 : ∀ e ∈ ms_c6, ms_ckA 6 e.1 e.2 = true := List.all_eq_true.mp (by decide +kernel)
theorem ms_k7 : ∀ e ∈ ms_c7, ms_ckA 7 e.1 e.2 = true := List.all_eq_true.mp (by decide +kernel)
theorem ms_k8 : ∀ e ∈ ms_c8, ms_ckA 8 e.1 e.2 = true := List.all_eq_true.mp (by decide +kernel)
theorem ms_k9 : ∀ e ∈ ms_c9, ms_ckA 9 e.1 e.2 = true := List.all_eq_true.mp (by decide +kernel)
theorem ms_k10 : ∀ e ∈ ms_c10, ms_ckA 10 e.1 e.2 = true := List.all_eq_true.mp (by decide +kernel)
theorem ms_k11 : ∀ e ∈ ms_c11, ms_ckA 11 e.1 e.2 = true := List.all_eq_true.mp (by decide +kernel)
theorem ms_k12 : ∀ e ∈ ms_c12, ms_ckA 12 e.1 e.2 = true := List.all_eq_true.mp (by decide +kernel)
theorem ms_k13 : ∀ e ∈ ms_c13, ms_ckA 13 e.1 e.2 = true := List.all_eq_true.mp (by decide +kernel)
theorem ms_k14 : ∀ e ∈ ms_c14, ms_ckA 14 e.1 e.2 = true := List.all_eq_true.mp (by decide +kernel)
theorem ms_k15 : ∀ e ∈ ms_c15, ms_ckA 15 e.1 e.2 = true := List.all_eq_true.mp (by decide +kernel)
theorem ms_k16_0 : ∀ e ∈ (ms_c16.drop 0).take 50, ms_ckA 16 e.1 e.2 = true := List.all_eq_true.mp (by decide +kernel)
theorem ms_k16_1 : ∀ e ∈ (ms_c16.drop 50).take 50, ms_ckA 16 e.1 e.2 = true := List.all_eq_true.mp (by decide +kernel)
theorem ms_k16_2 : ∀ e ∈ (ms_c16.drop 100).take 50, ms_ckA 16 e.1 e.2 = true := List.all_eq_true.mp (by decide +kernel)
set_option maxRecDepth 100000 in
theorem ms_k16 : ∀ e ∈ ms_c16, ms_ckA 16 e.1 e.2 = true := by
  intro e he
  have hs : ms_c16 = (ms_c16.drop 0).take 50 ++ (ms_c16.drop 50).take 50 ++ (ms_c16.drop 100).take 50 := by rfl
  rw [hs] at he
  simp only [List.mem_append] at he
  rcases he with (h0 | h1) | h2
  · exact ms_k16_0 e h0
  · exact ms_k16_1 e h1
  · exact ms_k16_2 e h2
theorem ms_k17 : ∀ e ∈ ms_c17, ms_ckA 17 e.1 e.2 = true := List.all_eq_true.mp (by decide +kernel)
theorem ms_k18 : ∀ e ∈ ms_c18, ms_ckA 18 e.1 e.2 = true := List.all_eq_true.mp (by decide +kernel)
theorem ms_k19 : ∀ e ∈ ms_c19, ms_ckA 19 e.1 e.2 = true := List.all_eq_true.mp (by decide +kernel)
theorem ms_k20 : ∀ e ∈ ms_c20, ms_ckA 20 e.1 e.2 = true := List.all_eq_true.mp (by decide +kernel)
theorem ms_k21 : ∀ e ∈ ms_c21, ms_ckA 21 e.1 e.2 = true := List.all_eq_true.mp (by decide +kernel)
theorem ms_k22 : ∀ e ∈ ms_c22, ms_ckA 22 e.1 e.2 = true := List.all_eq_true.mp (by decide +kernel)
theorem ms_k23 : ∀ e ∈ ms_c23, ms_ckA 23 e.1 e.2 = true := List.all_eq_true.mp (by decide +kernel)
theorem ms_k24 : ∀ e ∈ ms_c24, ms_ckA 24 e.1 e.2 = true := List.all_eq_true.mp (by decide +kernel)
theorem ms_k25_0 : ∀ e ∈ (ms_c25.drop 0).take 50, ms_ckA 25 e.1 e.2 = true := List.all_eq_true.mp (by decide +kernel)
theorem ms_k25_1 : ∀ e ∈ (ms_c25.drop 50).take 50, ms_ckA 25 e.1 e.2 = true := List.all_eq_true.mp (by decide +kernel)
set_option maxRecDepth 100000 in
theorem ms_k25 : ∀ e ∈ ms_c25, ms_ckA 25 e.1 e.2 = true := by
  intro e he
  have hs : ms_c25 = (ms_c25.drop 0).take 50 ++ (ms_c25.drop 50).take 50 := by rfl
  rw [hs] at he
  simp only [List.mem_append] at he
  rcases he with h0 | h1
  · exact ms_k25_0 e h0
  · exact ms_k25_1 e h1
theorem ms_k26_0 : ∀ e ∈ (ms_c26.drop 0).take 50, ms_ckA 26 e.1 e.2 = true := List.all_eq_true.mp (by decide +kernel)
theorem ms_k26_1 : ∀ e ∈ (ms_c26.drop 50).take 50, ms_ckA 26 e.1 e.2 = true := List.all_eq_true.mp (by decide +kernel)
theorem ms_k26_2 : ∀ e ∈ (ms_c26.drop 100).take 50, ms_ckA 26 e.1 e.2 = true := List.all_eq_true.mp (by decide +kernel)
theorem ms_k26_3 : ∀ e ∈ (ms_c26.drop 150).take 50, ms_ckA 26 e.1 e.2 = true := List.all_eq_true.mp (by decide +kernel)
set_option maxRecDepth 100000 in
theorem ms_k26 : ∀ e ∈ ms_c26, ms_ckA 26 e.1 e.2 = true := by
  intro e he
  have hs : ms_c26 = (ms_c26.drop 0).take 50 ++ (ms_c26.drop 50).take 50 ++ (ms_c26.drop 100).take 50 ++ (ms_c26.drop 150).take 50 := by rfl
  rw [hs] at he
  simp only [List.mem_append] at he
  rcases he with ((h0 | h1) | h2) | h3
  · exact ms_k26_0 e h0
  · exact ms_k26_1 e h1
  · exact ms_k26_2 e h2
  · exact ms_k26_3 e h3
theorem ms_k27 : ∀ e ∈ ms_c27, ms_ckA 27 e.1 e.2 = true := List.all_eq_true.mp (by decide +kernel)
theorem ms_k28 : ∀ e ∈ ms_c28, ms_ckA 28 e.1 e.2 = true := List.all_eq_true.mp (by decide +kernel)
theorem ms_k29_0 : ∀ e ∈ (ms_c29.drop 0).take 50, ms_ckA 29 e.1 e.2 = true := List.all_eq_true.mp (by decide +kernel)
theorem ms_k29_1 : ∀ e ∈ (ms_c29.drop 50).take 50, ms_ckA 29 e.1 e.2 = true := List.all_eq_true.mp (by decide +kernel)
set_option maxRecDepth 100000 in
theorem ms_k29 : ∀ e ∈ ms_c29, ms_ckA 29 e.1 e.2 = true := by
  intro e he
  have hs : ms_c29 = (ms_c29.drop 0).take 50 ++ (ms_c29.drop 50).take 50 := by rfl
  rw [hs] at he
  simp only [List.mem_append] at he
  rcases he with h0 | h1
  · exact ms_k29_0 e h0
  · exact ms_k29_1 e h1
theorem ms_k30 : ∀ e ∈ ms_c30, ms_ckA 30 e.1 e.2 = true := List.all_eq_true.mp (by decide +kernel)
theorem ms_k31_0 : ∀ e ∈ (ms_c31.drop 0).take 50, ms_ckA 31 e.1 e.2 = true := List.all_eq_true.mp (by decide +kernel)
theorem ms_k31_1 : ∀ e ∈ (ms_c31.drop 50).take 50, ms_ckA 31 e.1 e.2 = true := List.all_eq_true.mp (by decide +kernel)
theorem ms_k31_2 : ∀ e ∈ (ms_c31.drop 100).take 50, ms_ckA 31 e.1 e.2 = true := List.all_eq_true.mp (by decide +kernel)
theorem ms_k31_3 : ∀ e ∈ (ms_c31.drop 150).take 50, ms_ckA 31 e.1 e.2 = true := List.all_eq_true.mp (by decide +kernel)
theorem ms_k31_4 : ∀ e ∈ (ms_c31.drop 200).take 50, ms_ckA 31 e.1 e.2 = true := List.all_eq_true.mp (by decide +kernel)
set_option maxRecDepth 100000 in
theorem ms_k31 : ∀ e ∈ ms_c31, ms_ckA 31 e.1 e.2 = true := by
  intro e he
  have hs : ms_c31 = (ms_c31.drop 0).take 50 ++ (ms_c31.drop 50).take 50 ++ (ms_c31.drop 100).take 50 ++ (ms_c31.drop 150).take 50 ++ (ms_c31.drop 200).take 50 := by rfl
  rw [hs] at he
  simp only [List.mem_append] at he
  rcases he with (((h0 | h1) | h2) | h3) | h4
  · exact ms_k31_0 e h0
  · exact ms_k31_1 e h1
  · exact ms_k31_2 e h2
  · exact ms_k31_3 e h3
  · exact ms_k31_4 e h4
theorem ms_k32 : ∀ e ∈ ms_c32, ms_ckA 32 e.1 e.2 = true := List.all_eq_true.mp (by decide +kernel)
theorem ms_k33 : ∀ e ∈ ms_c33, ms_ckA 33 e.1 e.2 = true := List.all_eq_true.mp (by decide +kernel)
theorem ms_k34_0 : ∀ e ∈ (ms_c34.drop 0).take 50, ms_ckA 34 e.1 e.2 = true := List.all_eq_true.mp (by decide +kernel)
theorem ms_k34_1 : ∀ e ∈ (ms_c34.drop 50).take 50, ms_ckA 34 e.1 e.2 = true := List.all_eq_true.mp (by decide +kernel)
set_option maxRecDepth 100000 in
theorem ms_k34 : ∀ e ∈ ms_c34, ms_ckA 34 e.1 e.2 = true := by
  intro e he
  have hs : ms_c34 = (ms_c34.drop 0).take 50 ++ (ms_c34.drop 50).take 50 := by rfl
  rw [hs] at he
  simp only [List.mem_append] at he
  rcases he with h0 | h1
  · exact ms_k34_0 e h0
  · exact ms_k34_1 e h1
theorem ms_k35_0 : ∀ e ∈ (ms_c35.drop 0).take 50, ms_ckA 35 e.1 e.2 = true := List.all_eq_true.mp (by decide +kernel)
theorem ms_k35_1 : ∀ e ∈ (ms_c35.drop 50).take 50, ms_ckA 35 e.1 e.2 = true := List.all_eq_true.mp (by decide +kernel)
set_option maxRecDepth 100000 in
theorem ms_k35 : ∀ e ∈ ms_c35, ms_ckA 35 e.1 e.2 = true := by
  intro e he
  have hs : ms_c35 = (ms_c35.drop 0).take 50 ++ (ms_c35.drop 50).take 50 := by rfl
  rw [hs] at he
  simp only [List.mem_append] at he
  rcases he with h0 | h1
  · exact ms_k35_0 e h0
  · exact ms_k35_1 e h1
theorem ms_k36 : ∀ e ∈ ms_c36, ms_ckA 36 e.1 e.2 = true := List.all_eq_true.mp (by decide +kernel)
theorem ms_k37 : ∀ e ∈ ms_c37, ms_ckA 37 e.1 e.2 = true := List.all_eq_true.mp (by decide +kernel)
theorem ms_k38 : ∀ e ∈ ms_c38, ms_ckA 38 e.1 e.2 = true := List.all_eq_true.mp (by decide +kernel)
theorem ms_k39 : ∀ e ∈ ms_c39, ms_ckA 39 e.1 e.2 = true := List.all_eq_true.mp (by decide +kernel)
theorem ms_k40 : ∀ e ∈ ms_c40, ms_ckA 40 e.1 e.2 = true := List.all_eq_true.mp (by decide +kernel)
theorem ms_k41 : ∀ e ∈ ms_c41, ms_ckA 41 e.1 e.2 = true := List.all_eq_true.mp (by decide +kernel)
theorem ms_k42 : ∀ e ∈ ms_c42, ms_ckA 42 e.1 e.2 = true := List.all_eq_true.mp (by decide +kernel)
theorem ms_k43 : ∀ e ∈ ms_c43, ms_ckA 43 e.1 e.2 = true := List.all_eq_true.mp (by decide +kernel)
theorem ms_k44 : ∀ e ∈ ms_c44, ms_ckA 44 e.1 e.2 = true := List.all_eq_true.mp (by decide +kernel)
theorem ms_k45 : ∀ e ∈ ms_c45, ms_ckA 45 e.1 e.2 = true := List.all_eq_true.mp (by decide +kernel)
theorem ms_k46_0 : ∀ e ∈ (ms_c46.drop 0).take 50, ms_ckA 46 e.1 e.2 = true := List.all_eq_true.mp (by decide +kernel)
theorem ms_k46_1 : ∀ e ∈ (ms_c46.drop 50).take 50, ms_ckA 46 e.1 e.2 = true := List.all_eq_true.mp (by decide +kernel)
theorem ms_k46_2 : ∀ e ∈ (ms_c46.drop 100).take 50, ms_ckA 46 e.1 e.2 = true := List.all_eq_true.mp (by decide +kernel)
theorem ms_k46_3 : ∀ e ∈ (ms_c46.drop 150).take 50, ms_ckA 46 e.1 e.2 = true := List.all_eq_true.mp (by decide +kernel)
set_option maxRecDepth 100000 in
theorem ms_k46 : ∀ e ∈ ms_c46, ms_ckA 46 e.1 e.2 = true := by
  intro e he
  have hs : ms_c46 = (ms_c46.drop 0).take 50 ++ (ms_c46.drop 50).take 50 ++ (ms_c46.drop 100).take 50 ++ (ms_c46.drop 150).take 50 := by rfl
  rw [hs] at he
  simp only [List.mem_append] at he
  rcases he with ((h0 | h1) | h2) | h3
  · exact ms_k46_0 e h0
  · exact ms_k46_1 e h1
  · exact ms_k46_2 e h2
  · exact ms_k46_3 e h3
theorem ms_k47_0 : ∀ e ∈ (ms_c47.drop 0).take 50, ms_ckA 47 e.1 e.2 = true := List.all_eq_true.mp (by decide +kernel)
theorem ms_k47_1 : ∀ e ∈ (ms_c47.drop 50).take 50, ms_ckA 47 e.1 e.2 = true := List.all_eq_true.mp (by decide +kernel)
theorem ms_k47_2 : ∀ e ∈ (ms_c47.drop 100).take 50, ms_ckA 47 e.1 e.2 = true := List.all_eq_true.mp (by decide +kernel)
set_option maxRecDepth 100000 in
theorem ms_k47 : ∀ e ∈ ms_c47, ms_ckA 47 e.1 e.2 = true := by
  intro e he
  have hs : ms_c47 = (ms_c47.drop 0).take 50 ++ (ms_c47.drop 50).take 50 ++ (ms_c47.drop 100).take 50 := by rfl
  rw [hs] at he
  simp only [List.mem_append] at he
  rcases he with (h0 | h1) | h2
  · exact ms_k47_0 e h0
  · exact ms_k47_1 e h1
  · exact ms_k47_2 e h2
theorem ms_k48_0 : ∀ e ∈ (ms_c48.drop 0).take 50, ms_ckA 48 e.1 e.2 = true := List.all_eq_true.mp (by decide +kernel)
theorem ms_k48_1 : ∀ e ∈ (ms_c48.drop 50).take 50, ms_ckA 48 e.1 e.2 = true := List.all_eq_true.mp (by decide +kernel)
theorem ms_k48_2 : ∀ e ∈ (ms_c48.drop 100).take 50, ms_ckA 48 e.1 e.2 = true := List.all_eq_true.mp (by decide +kernel)
theorem ms_k48_3 : ∀ e ∈ (ms_c48.drop 150).take 50, ms_ckA 48 e.1 e.2 = true := List.all_eq_true.mp (by decide +kernel)
theorem ms_k48_4 : ∀ e ∈ (ms_c48.drop 200).take 50, ms_ckA 48 e.1 e.2 = true := List.all_eq_true.mp (by decide +kernel)
theorem ms_k48_5 : ∀ e ∈ (ms_c48.drop 250).take 50, ms_ckA 48 e.1 e.2 = true := List.all_eq_true.mp (by decide +kernel)
set_option maxRecDepth 100000 in
theorem ms_k48 : ∀ e ∈ ms_c48, ms_ckA 48 e.1 e.2 = true := by
  intro e he
  have hs : ms_c48 = (ms_c48.drop 0).take 50 ++ (ms_c48.drop 50).take 50 ++ (ms_c48.drop 100).take 50 ++ (ms_c48.drop 150).take 50 ++ (ms_c48.drop 200).take 50 ++ (ms_c48.drop 250).take 50 := by rfl
  rw [hs] at he
  simp only [List.mem_append] at he
  rcases he with ((((h0 | h1) | h2) | h3) | h4) | h5
  · exact ms_k48_0 e h0
  · exact ms_k48_1 e h1
  · exact ms_k48_2 e h2
  · exact ms_k48_3 e h3
  · exact ms_k48_4 e h4
  · exact ms_k48_5 e h5
theorem ms_k49_0 : ∀ e ∈ (ms_c49.drop 0).take 50, ms_ckA 49 e.1 e.2 = true := List.all_eq_true.mp (by decide +kernel)
theorem ms_k49_1 : ∀ e ∈ (ms_c49.drop 50).take 50, ms_ckA 49 e.1 e.2 = true := List.all_eq_true.mp (by decide +kernel)
set_option maxRecDepth 100000 in
theorem ms_k49 : ∀ e ∈ ms_c49, ms_ckA 49 e.1 e.2 = true := by
  intro e he
  have hs : ms_c49 = (ms_c49.drop 0).take 50 ++ (ms_c49.drop 50).take 50 := by rfl
  rw [hs] at he
  simp only [List.mem_append] at he
  rcases he with h0 | h1
  · exact ms_k49_0 e h0
  · exact ms_k49_1 e h1
theorem ms_k50_0 : ∀ e ∈ (ms_c50.drop 0).take 50, ms_ckA 50 e.1 e.2 = true := List.all_eq_true.mp (by decide +kernel)
theorem ms_k50_1 : ∀ e ∈ (ms_c50.drop 50).take 50, ms_ckA 50 e.1 e.2 = true := List.all_eq_true.mp (by decide +kernel)
theorem ms_k50_2 : ∀ e ∈ (ms_c50.drop 100).take 50, ms_ckA 50 e.1 e.2 = true := List.all_eq_true.mp (by decide +kernel)
theorem ms_k50_3 : ∀ e ∈ (ms_c50.drop 150).take 50, ms_ckA 50 e.1 e.2 = true := List.all_eq_true.mp (by decide +kernel)
set_option maxRecDepth 100000 in
theorem ms_k50 : ∀ e ∈ ms_c50, ms_ckA 50 e.1 e.2 = true := by
  intro e he
  have hs : ms_c50 = (ms_c50.drop 0).take 50 ++ (ms_c50.drop 50).take 50 ++ (ms_c50.drop 100).take 50 ++ (ms_c50.drop 150).take 50 := by rfl
  rw [hs] at he
  simp only [List.mem_append] at he
  rcases he with ((h0 | h1) | h2) | h3
  · exact ms_k50_0 e h0
  · exact ms_k50_1 e h1
  · exact ms_k50_2 e h2
  · exact ms_k50_3 e h3
theorem ms_k51_0 : ∀ e ∈ (ms_c51.drop 0).take 50, ms_ckA 51 e.1 e.2 = true := List.all_eq_true.mp (by decide +kernel)
theorem ms_k51_1 : ∀ e ∈ (ms_c51.drop 50).take 50, ms_ckA 51 e.1 e.2 = true := List.all_eq_true.mp (by decide +kernel)
theorem ms_k51_2 : ∀ e ∈ (ms_c51.drop 100).take 50, ms_ckA 51 e.1 e.2 = true := List.all_eq_true.mp (by decide +kernel)
set_option maxRecDepth 100000 in
theorem ms_k51 : ∀ e ∈ ms_c51, ms_ckA 51 e.1 e.2 = true := by
  intro e he
  have hs : ms_c51 = (ms_c51.drop 0).take 50 ++ (ms_c51.drop 50).take 50 ++ (ms_c51.drop 100).take 50 := by rfl
  rw [hs] at he
  simp only [List.mem_append] at he
  rcases he with (h0 | h1) | h2
  · exact ms_k51_0 e h0
  · exact ms_k51_1 e h1
  · exact ms_k51_2 e h2
theorem ms_k52 : ∀ e ∈ ms_c52, ms_ckA 52 e.1 e.2 = true := List.all_eq_true.mp (by decide +kernel)
theorem ms_k53 : ∀ e ∈ ms_c53, ms_ckA 53 e.1 e.2 = true := List.all_eq_true.mp (by decide +kernel)
theorem ms_k54 : ∀ e ∈ ms_c54, ms_ckA 54 e.1 e.2 = true := List.all_eq_true.mp (by decide +kernel)
theorem ms_k55 : ∀ e ∈ ms_c55, ms_ckA 55 e.1 e.2 = true := List.all_eq_true.mp (by decide +kernel)
theorem ms_k56 : ∀ e ∈ ms_c56, ms_ckA 56 e.1 e.2 = true := List.all_eq_true.mp (by decide +kernel)
theorem ms_k57_0 : ∀ e ∈ (ms_c57.drop 0).take 50, ms_ckA 57 e.1 e.2 = true := List.all_eq_true.mp (by decide +kernel)
theorem ms_k57_1 : ∀ e ∈ (ms_c57.drop 50).take 50, ms_ckA 57 e.1 e.2 = true := List.all_eq_true.mp (by decide +kernel)
theorem ms_k57_2 : ∀ e ∈ (ms_c57.drop 100).take 50, ms_ckA 57 e.1 e.2 = true := List.all_eq_true.mp (by decide +kernel)
set_option maxRecDepth 100000 in
theorem ms_k57 : ∀ e ∈ ms_c57, ms_ckA 57 e.1 e.2 = true := by
  intro e he
  have hs : ms_c57 = (ms_c57.drop 0).take 50 ++ (ms_c57.drop 50).take 50 ++ (ms_c57.drop 100).take 50 := by rfl
  rw [hs] at he
  simp only [List.mem_append] at he
  rcases he with (h0 | h1) | h2
  · exact ms_k57_0 e h0
  · exact ms_k57_1 e h1
  · exact ms_k57_2 e h2
theorem ms_k58_0 : ∀ e ∈ (ms_c58.drop 0).take 50, ms_ckA 58 e.1 e.2 = true := List.all_eq_true.mp (by decide +kernel)
theorem ms_k58_1 : ∀ e ∈ (ms_c58.drop 50).take 50, ms_ckA 58 e.1 e.2 = true := List.all_eq_true.mp (by decide +kernel)
theorem ms_k58_2 : ∀ e ∈ (ms_c58.drop 100).take 50, ms_ckA 58 e.1 e.2 = true := List.all_eq_true.mp (by decide +kernel)
set_option maxRecDepth 100000 in
theorem ms_k58 : ∀ e ∈ ms_c58, ms_ckA 58 e.1 e.2 = true := by
  intro e he
  have hs : ms_c58 = (ms_c58.drop 0).take 50 ++ (ms_c58.drop 50).take 50 ++ (ms_c58.drop 100).take 50 := by rfl
  rw [hs] at he
  simp only [List.mem_append] at he
  rcases he with (h0 | h1) | h2
  · exact ms_k58_0 e h0
  · exact ms_k58_1 e h1
  · exact ms_k58_2 e h2
theorem ms_k59_0 : ∀ e ∈ (ms_c59.drop 0).take 50, ms_ckA 59 e.1 e.2 = true := List.all_eq_true.mp (by decide +kernel)
theorem ms_k59_1 : ∀ e ∈ (ms_c59.drop 50).take 50, ms_ckA 59 e.1 e.2 = true := List.all_eq_true.mp (by decide +kernel)
theorem ms_k59_2 : ∀ e ∈ (ms_c59.drop 100).take 50, ms_ckA 59 e.1 e.2 = true := List.all_eq_true.mp (by decide +kernel)
set_option maxRecDepth 100000 in
theorem ms_k59 : ∀ e ∈ ms_c59, ms_ckA 59 e.1 e.2 = true := by
  intro e he
  have hs : ms_c59 = (ms_c59.drop 0).take 50 ++ (ms_c59.drop 50).take 50 ++ (ms_c59.drop 100).take 50 := by rfl
  rw [hs] at he
  simp only [List.mem_append] at he
  rcases he with (h0 | h1) | h2
  · exact ms_k59_0 e h0
  · exact ms_k59_1 e h1
  · exact ms_k59_2 e h2
theorem ms_k60_0 : ∀ e ∈ (ms_c60.drop 0).take 50, ms_ckA 60 e.1 e.2 = true := List.all_eq_true.mp (by decide +kernel)
theorem ms_k60_1 : ∀ e ∈ (ms_c60.drop 50).take 50, ms_ckA 60 e.1 e.2 = true := List.all_eq_true.mp (by decide +kernel)
theorem ms_k60_2 : ∀ e ∈ (ms_c60.drop 100).take 50, ms_ckA 60 e.1 e.2 = true := List.all_eq_true.mp (by decide +kernel)
set_option maxRecDepth 100000 in
theorem ms_k60 : ∀ e ∈ ms_c60, ms_ckA 60 e.1 e.2 = true := by
  intro e he
  have hs : ms_c60 = (ms_c60.drop 0).take 50 ++ (ms_c60.drop 50).take 50 ++ (ms_c60.drop 100).take 50 := by rfl
  rw [hs] at he
  simp only [List.mem_append] at he
  rcases he with (h0 | h1) | h2
  · exact ms_k60_0 e h0
  · exact ms_k60_1 e h1
  · exact ms_k60_2 e h2
theorem ms_k61 : ∀ e ∈ ms_c61, ms_ckA 61 e.1 e.2 = true := List.all_eq_true.mp (by decide +kernel)
theorem ms_k62 : ∀ e ∈ ms_c62, ms_ckA 62 e.1 e.2 = true := List.all_eq_true.mp (by decide +kernel)
theorem ms_k63 : ∀ e ∈ ms_c63, ms_ckA 63 e.1 e.2 = true := List.all_eq_true.mp (by decide +kernel)
theorem ms_k64 : ∀ e ∈ ms_c64, ms_ckA 64 e.1 e.2 = true := List.all_eq_true.mp (by decide +kernel)
theorem ms_k65 : ∀ e ∈ ms_c65, ms_ckA 65 e.1 e.2 = true := List.all_eq_true.mp (by decide +kernel)
theorem ms_k66_0 : ∀ e ∈ (ms_c66.drop 0).take 50, ms_ckA 66 e.1 e.2 = true := List.all_eq_true.mp (by decide +kernel)
theorem ms_k66_1 : ∀ e ∈ (ms_c66.drop 50).take 50, ms_ckA 66 e.1 e.2 = true := List.all_eq_true.mp (by decide +kernel)
theorem ms_k66_2 : ∀ e ∈ (ms_c66.drop 100).take 50, ms_ckA 66 e.1 e.2 = true := List.all_eq_true.mp (by decide +kernel)
set_option maxRecDepth 100000 in
theorem ms_k66 : ∀ e ∈ ms_c66, ms_ckA 66 e.1 e.2 = true := by
  intro e he
  have hs : ms_c66 = (ms_c66.drop 0).take 50 ++ (ms_c66.drop 50).take 50 ++ (ms_c66.drop 100).take 50 := by rfl
  rw [hs] at he
  simp only [List.mem_append] at he
  rcases he with (h0 | h1) | h2
  · exact ms_k66_0 e h0
  · exact ms_k66_1 e h1
  · exact ms_k66_2 e h2
theorem ms_k67_0 : ∀ e ∈ (ms_c67.drop 0).take 50, ms_ckA 67 e.1 e.2 = true := List.all_eq_true.mp (by decide +kernel)
theorem ms_k67_1 : ∀ e ∈ (ms_c67.drop 50).take 50, ms_ckA 67 e.1 e.2 = true := List.all_eq_true.mp (by decide +kernel)
theorem ms_k67_2 : ∀ e ∈ (ms_c67.drop 100).take 50, ms_ckA 67 e.1 e.2 = true := List.all_eq_true.mp (by decide +kernel)
set_option maxRecDepth 100000 in
theorem ms_k67 : ∀ e ∈ ms_c67, ms_ckA 67 e.1 e.2 = true := by
  intro e he
  have hs : ms_c67 = (ms_c67.drop 0).take 50 ++ (ms_c67.drop 50).take 50 ++ (ms_c67.drop 100).take 50 := by rfl
  rw [hs] at he
  simp only [List.mem_append] at he
  rcases he with (h0 | h1) | h2
  · exact ms_k67_0 e h0
  · exact ms_k67_1 e h1
  · exact ms_k67_2 e h2
theorem ms_k68 : ∀ e ∈ ms_c68, ms_ckA 68 e.1 e.2 = true := List.all_eq_true.mp (by decide +kernel)
theorem ms_k69 : ∀ e ∈ ms_c69, ms_ckA 69 e.1 e.2 = true := List.all_eq_true.mp (by decide +kernel)
theorem ms_k70 : ∀ e ∈ ms_c70, ms_ckA 70 e.1 e.2 = true := List.all_eq_true.mp (by decide +kernel)
theorem ms_k71 : ∀ e ∈ ms_c71, ms_ckA 71 e.1 e.2 = true := List.all_eq_true.mp (by decide +kernel)
theorem ms_k72 : ∀ e ∈ ms_c72, ms_ckA 72 e.1 e.2 = true := List.all_eq_true.mp (by decide +kernel)
theorem ms_k73 : ∀ e ∈ ms_c73, ms_ckA 73 e.1 e.2 = true := List.all_eq_true.mp (by decide +kernel)
theorem ms_k74_0 : ∀ e ∈ (ms_c74.drop 0).take 50, ms_ckA 74 e.1 e.2 = true := List.all_eq_true.mp (by decide +kernel)
theorem ms_k74_1 : ∀ e ∈ (ms_c74.drop 50).take 50, ms_ckA 74 e.1 e.2 = true := List.all_eq_true.mp (by decide +kernel)
set_option maxRecDepth 100000 in
theorem ms_k74 : ∀ e ∈ ms_c74, ms_ckA 74 e.1 e.2 = true := by
  intro e he
  have hs : ms_c74 = (ms_c74.drop 0).take 50 ++ (ms_c74.drop 50).take 50 := by rfl
  rw [hs] at he
  simp only [List.mem_append] at he
  rcases he with h0 | h1
  · exact ms_k74_0 e h0
  · exact ms_k74_1 e h1
theorem ms_k75 : ∀ e ∈ ms_c75, ms_ckA 75 e.1 e.2 = true := List.all_eq_true.mp (by decide +kernel)
theorem ms_k76 : ∀ e ∈ ms_c76, ms_ckA 76 e.1 e.2 = true := List.all_eq_true.mp (by decide +kernel)
theorem ms_k77 : ∀ e ∈ ms_c77, ms_ckA 77 e.1 e.2 = true := List.all_eq_true.mp (by decide +kernel)
theorem ms_k78 : ∀ e ∈ ms_c78, ms_ckA 78 e.1 e.2 = true := List.all_eq_true.mp (by decide +kernel)
theorem ms_k79 : ∀ e ∈ ms_c79, ms_ckA 79 e.1 e.2 = true := List.all_eq_true.mp (by decide +kernel)
theorem ms_k80 : ∀ e ∈ ms_c80, ms_ckA 80 e.1 e.2 = true := List.all_eq_true.mp (by decide +kernel)
theorem ms_k81 : ∀ e ∈ ms_c81, ms_ckA 81 e.1 e.2 = true := List.all_eq_true.mp (by decide +kernel)
theorem ms_k82 : ∀ e ∈ ms_c82, ms_ckA 82 e.1 e.2 = true := List.all_eq_true.mp (by decide +kernel)
theorem ms_k83 : ∀ e ∈ ms_c83, ms_ckA 83 e.1 e.2 = true := List.all_eq_true.mp (by decide +kernel)
theorem ms_k84 : ∀ e ∈ ms_c84, ms_ckA 84 e.1 e.2 = true := List.all_eq_true.mp (by decide +kernel)
theorem ms_k85 : ∀ e ∈ ms_c85, ms_ckA 85 e.1 e.2 = true := List.all_eq_true.mp (by decide +kernel)
theorem ms_k86 : ∀ e ∈ ms_c86, ms_ckA 86 e.1 e.2 = true := List.all_eq_true.mp (by decide +kernel)
theorem ms_k87 : ∀ e ∈ ms_c87, ms_ckA 87 e.1 e.2 = true := List.all_eq_true.mp (by decide +kernel)
theorem ms_k88 : ∀ e ∈ ms_c88, ms_ckA 88 e.1 e.2 = true := List.all_eq_true.mp (by decide +kernel)
theorem ms_k89 : ∀ e ∈ ms_c89, ms_ckA 89 e.1 e.2 = true := List.all_eq_true.mp (by decide +kernel)
theorem ms_k90 : ∀ e ∈ ms_c90, ms_ckA 90 e.1 e.2 = true := List.all_eq_true.mp (by decide +kernel)
theorem ms_k91 : ∀ e ∈ ms_c91, ms_ckA 91 e.1 e.2 = true := List.all_eq_true.mp (by decide +kernel)
theorem ms_k92 : ∀ e ∈ ms_c92, ms_ckA 92 e.1 e.2 = true := List.all_eq_true.mp (by decide +kernel)
theorem ms_k93 : ∀ e ∈ ms_c93, ms_ckA 93 e.1 e.2 = true := List.all_eq_true.mp (by decide +kernel)
theorem ms_k94 : ∀ e ∈ ms_c94, ms_ckA 94 e.1 e.2 = true := List.all_eq_true.mp (by decide +kernel)
theorem ms_k95_0 : ∀ e ∈ (ms_c95.drop 0).take 50, ms_ckA 95 e.1 e.2 = true := List.all_eq_true.mp (by decide +kernel)
theorem ms_k95_1 : ∀ e ∈ (ms_c95.drop 50).take 50, ms_ckA 95 e.1 e.2 = true := List.all_eq_true.mp (by decide +kernel)
set_option maxRecDepth 100000 in
theorem ms_k95 : ∀ e ∈ ms_c95, ms_ckA 95 e.1 e.2 = true := by
  intro e he
  have hs : ms_c95 = (ms_c95.drop 0).take 50 ++ (ms_c95.drop 50).take 50 := by rfl
  rw [hs] at he
  simp only [List.mem_append] at he
  rcases he with h0 | h1
  · exact ms_k95_0 e h0
  · exact ms_k95_1 e h1
theorem ms_k96 : ∀ e ∈ ms_c96, ms_ckA 96 e.1 e.2 = true := List.all_eq_true.mp (by decide +kernel)
theorem ms_k97 : ∀ e ∈ ms_c97, ms_ckA 97 e.1 e.2 = true := List.all_eq_true.mp (by decide +kernel)
theorem ms_k98 : ∀ e ∈ ms_c98, ms_ckA 98 e.1 e.2 = true := List.all_eq_true.mp (by decide +kernel)
theorem ms_k99_0 : ∀ e ∈ (ms_c99.drop 0).take 50, ms_ckA 99 e.1 e.2 = true := List.all_eq_true.mp (by decide +kernel)
theorem ms_k99_1 : ∀ e ∈ (ms_c99.drop 50).take 50, ms_ckA 99 e.1 e.2 = true := List.all_eq_true.mp (by decide +kernel)
set_option maxRecDepth 100000 in
theorem ms_k99 : ∀ e ∈ ms_c99, ms_ckA 99 e.1 e.2 = true := by
  intro e he
  have hs : ms_c99 = (ms_c99.drop 0).take 50 ++ (ms_c99.drop 50).take 50 := by rfl
  rw [hs] at he
  simp only [List.mem_append] at he
  rcases he with h0 | h1
  · exact ms_k99_0 e h0
  · exact ms_k99_1 e h1
theorem ms_k100 : ∀ e ∈ ms_c100, ms_ckA 100 e.1 e.2 = true := List.all_eq_true.mp (by decide +kernel)
theorem ms_k101 : ∀ e ∈ ms_c101, ms_ckA 101 e.1 e.2 = true := List.all_eq_true.mp (by decide +kernel)
theorem ms_k102_0 : ∀ e ∈ (ms_c102.drop 0).take 50, ms_ckA 102 e.1 e.2 = true := List.all_eq_true.mp (by decide +kernel)
theorem ms_k102_1 : ∀ e ∈ (ms_c102.drop 50).take 50, ms_ckA 102 e.1 e.2 = true := List.all_eq_true.mp (by decide +kernel)
set_option maxRecDepth 100000 in
theorem ms_k102 : ∀ e ∈ ms_c102, ms_ckA 102 e.1 e.2 = true := by
  intro e he
  have hs : ms_c102 = (ms_c102.drop 0).take 50 ++ (ms_c102.drop 50).take 50 := by rfl
  rw [hs] at he
  simp only [List.mem_append] at he
  rcases he with h0 | h1
  · exact ms_k102_0 e h0
  · exact ms_k102_1 e h1
theorem ms_k103 : ∀ e ∈ ms_c103, ms_ckA 103 e.1 e.2 = true := List.all_eq_true.mp (by decide +kernel)
theorem ms_k104 : ∀ e ∈ ms_c104, ms_ckA 104 e.1 e.2 = true := List.all_eq_true.mp (by decide +kernel)
theorem ms_k105 : ∀ e ∈ ms_c105, ms_ckA 105 e.1 e.2 = true := List.all_eq_true.mp (by decide +kernel)
theorem ms_k106 : ∀ e ∈ ms_c106, ms_ckA 106 e.1 e.2 = true := List.all_eq_true.mp (by decide +kernel)
theorem ms_k107 : ∀ e ∈ ms_c107, ms_ckA 107 e.1 e.2 = true := List.all_eq_true.mp (by decide +kernel)
theorem ms_k108_0 : ∀ e ∈ (ms_c108.drop 0).take 50, ms_ckA 108 e.1 e.2 = true := List.all_eq_true.mp (by decide +kernel)
theorem ms_k108_1 : ∀ e ∈ (ms_c108.drop 50).take 50, ms_ckA 108 e.1 e.2 = true := List.all_eq_true.mp (by decide +kernel)
set_option maxRecDepth 100000 in
theorem ms_k108 : ∀ e ∈ ms_c108, ms_ckA 108 e.1 e.2 = true := by
  intro e he
  have hs : ms_c108 = (ms_c108.drop 0).take 50 ++ (ms_c108.drop 50).take 50 := by rfl
  rw [hs] at he
  simp only [List.mem_append] at he
  rcases he with h0 | h1
  · exact ms_k108_0 e h0
  · exact ms_k108_1 e h1
theorem ms_k109_0 : ∀ e ∈ (ms_c109.drop 0).take 50, ms_ckA 109 e.1 e.2 = true := List.all_eq_true.mp (by decide +kernel)
theorem ms_k109_1 : ∀ e ∈ (ms_c109.drop 50).take 50, ms_ckA 109 e.1 e.2 = true := List.all_eq_true.mp (by decide +kernel)
set_option maxRecDepth 100000 in
theorem ms_k109 : ∀ e ∈ ms_c109, ms_ckA 109 e.1 e.2 = true := by
  intro e he
  have hs : ms_c109 = (ms_c109.drop 0).take 50 ++ (ms_c109.drop 50).take 50 := by rfl
  rw [hs] at he
  simp only [List.mem_append] at he
  rcases he with h0 | h1
  · exact ms_k109_0 e h0
  · exact ms_k109_1 e h1
theorem ms_k110 : ∀ e ∈ ms_c110, ms_ckA 110 e.1 e.2 = true := List.all_eq_true.mp (by decide +kernel)
theorem ms_k111 : ∀ e ∈ ms_c111, ms_ckA 111 e.1 e.2 = true := List.all_eq_true.mp (by decide +kernel)
theorem ms_k112 : ∀ e ∈ ms_c112, ms_ckA 112 e.1 e.2 = true := List.all_eq_true.mp (by decide +kernel)
theorem ms_k113 : ∀ e ∈ ms_c113, ms_ckA 113 e.1 e.2 = true := List.all_eq_true.mp (by decide +kernel)
theorem ms_k114 : ∀ e ∈ ms_c114, ms_ckA 114 e.1 e.2 = true := List.all_eq_true.mp (by decide +kernel)
theorem ms_k115 : ∀ e ∈ ms_c115, ms_ckA 115 e.1 e.2 = true := List.all_eq_true.mp (by decide +kernel)
theorem ms_k116 : ∀ e ∈ ms_c116, ms_ckA 116 e.1 e.2 = true := List.all_eq_true.mp (by decide +kernel)
theorem ms_k117 : ∀ e ∈ ms_c117, ms_ckA 117 e.1 e.2 = true := List.all_eq_true.mp (by decide +kernel)
theorem ms_k118 : ∀ e ∈ ms_c118, ms_ckA 118 e.1 e.2 = true := List.all_eq_true.mp (by decide +kernel)
theorem ms_k119 : ∀ e ∈ ms_c119, ms_ckA 119 e.1 e.2 = true := List.all_eq_true.mp (by decide +kernel)
theorem ms_k120 : ∀ e ∈ ms_c120, ms_ckA 120 e.1 e.2 = true := List.all_eq_true.mp (by decide +kernel)
theorem ms_k121 : ∀ e ∈ ms_c121, ms_ckA 121 e.1 e.2 = true := List.all_eq_true.mp (by decide +kernel)
theorem ms_k122 : ∀ e ∈ ms_c122, ms_ckA 122 e.1 e.2 = true := List.all_eq_true.mp (by decide +kernel)
theorem ms_k123 : ∀ e ∈ ms_c123, ms_ckA 123 e.1 e.2 = true := List.all_eq_true.mp (by decide +kernel)
theorem ms_k124 : ∀ e ∈ ms_c124, ms_ckA 124 e.1 e.2 = true := List.all_eq_true.mp (by decide +kernel)
theorem ms_k125 : ∀ e ∈ ms_c125, ms_ckA 125 e.1 e.2 = true := List.all_eq_true.mp (by decide +kernel)
theorem ms_k126 : ∀ e ∈ ms_c126, ms_ckA 126 e.1 e.2 = true := List.all_eq_true.mp (by decide +kernel)
theorem ms_k127_0 : ∀ e ∈ (ms_c127.drop 0).take 50, ms_ckA 127 e.1 e.2 = true := List.all_eq_true.mp (by decide +kernel)
theorem ms_k127_1 : ∀ e ∈ (ms_c127.drop 50).take 50, ms_ckA 127 e.1 e.2 = true := List.all_eq_true.mp (by decide +kernel)
set_option maxRecDepth 100000 in
theorem ms_k127 : ∀ e ∈ ms_c127, ms_ckA 127 e.1 e.2 = true := by
  intro e he
  have hs : ms_c127 = (ms_c127.drop 0).take 50 ++ (ms_c127.drop 50).take 50 := by rfl
  rw [hs] at he
  simp only [List.mem_append] at he
  rcases he with h0 | h1
  · exact ms_k127_0 e h0
  · exact ms_k127_1 e h1
theorem ms_k128 : ∀ e ∈ ms_c128, ms_ckA 128 e.1 e.2 = true := List.all_eq_true.mp (by decide +kernel)
theorem ms_k129 : ∀ e ∈ ms_c129, ms_ckA 129 e.1 e.2 = true := List.all_eq_true.mp (by decide +kernel)
theorem ms_k130 : ∀ e ∈ ms_c130, ms_ckA 130 e.1 e.2 = true := List.all_eq_true.mp (by decide +kernel)
theorem ms_k131 : ∀ e ∈ ms_c131, ms_ckA 131 e.1 e.2 = true := List.all_eq_true.mp (by decide +kernel)
theorem ms_k132_0 : ∀ e ∈ (ms_c132.drop 0).take 50, ms_ckA 132 e.1 e.2 = true := List.all_eq_true.mp (by decide +kernel)
theorem ms_k132_1 : ∀ e ∈ (ms_c132.drop 50).take 50, ms_ckA 132 e.1 e.2 = true := List.all_eq_true.mp (by decide +kernel)
set_option maxRecDepth 100000 in
theorem ms_k132 : ∀ e ∈ ms_c132, ms_ckA 132 e.1 e.2 = true := by
  intro e he
  have hs : ms_c132 = (ms_c132.drop 0).take 50 ++ (ms_c132.drop 50).take 50 := by rfl
  rw [hs] at he
  simp only [List.mem_append] at he
  rcases he with h0 | h1
  · exact ms_k132_0 e h0
  · exact ms_k132_1 e h1
theorem ms_k133 : ∀ e ∈ ms_c133, ms_ckA 133 e.1 e.2 = true := List.all_eq_true.mp (by decide +kernel)
theorem ms_k134 : ∀ e ∈ ms_c134, ms_ckA 134 e.1 e.2 = true := List.all_eq_true.mp (by decide +kernel)
theorem ms_k135 : ∀ e ∈ ms_c135, ms_ckA 135 e.1 e.2 = true := List.all_eq_true.mp (by decide +kernel)
theorem ms_k136 : ∀ e ∈ ms_c136, ms_ckA 136 e.1 e.2 = true := List.all_eq_true.mp (by decide +kernel)
theorem ms_k137 : ∀ e ∈ ms_c137, ms_ckA 137 e.1 e.2 = true := List.all_eq_true.mp (by decide +kernel)
theorem ms_k138 : ∀ e ∈ ms_c138, ms_ckA 138 e.1 e.2 = true := List.all_eq_true.mp (by decide +kernel)
theorem ms_k139 : ∀ e ∈ ms_c139, ms_ckA 139 e.1 e.2 = true := List.all_eq_true.mp (by decide +kernel)
theorem ms_k140 : ∀ e ∈ ms_c140, ms_ckA 140 e.1 e.2 = true := List.all_eq_true.mp (by decide +kernel)
theorem ms_k141 : ∀ e ∈ ms_c141, ms_ckA 141 e.1 e.2 = true := List.all_eq_true.mp (by decide +kernel)
theorem ms_k142 : ∀ e ∈ ms_c142, ms_ckA 142 e.1 e.2 = true := List.all_eq_true.mp (by decide +kernel)
theorem ms_k143 : ∀ e ∈ ms_c143, ms_ckA 143 e.1 e.2 = true := List.all_eq_true.mp (by decide +kernel)
theorem ms_k144 : ∀ e ∈ ms_c144, ms_ckA 144 e.1 e.2 = true := List.all_eq_true.mp (by decide +kernel)
theorem ms_k145_0 : ∀ e ∈ (ms_c145.drop 0).take 50, ms_ckA 145 e.1 e.2 = true := List.all_eq_true.mp (by decide +kernel)
theorem ms_k145_1 : ∀ e ∈ (ms_c145.drop 50).take 50, ms_ckA 145 e.1 e.2 = true := List.all_eq_true.mp (by decide +kernel)
theorem ms_k145_2 : ∀ e ∈ (ms_c145.drop 100).take 50, ms_ckA 145 e.1 e.2 = true := List.all_eq_true.mp (by decide +kernel)
theorem ms_k145_3 : ∀ e ∈ (ms_c145.drop 150).take 50, ms_ckA 145 e.1 e.2 = true := List.all_eq_true.mp (by decide +kernel)
theorem ms_k145_4 : ∀ e ∈ (ms_c145.drop 200).take 50, ms_ckA 145 e.1 e.2 = true := List.all_eq_true.mp (by decide +kernel)
theorem ms_k145_5 : ∀ e ∈ (ms_c145.drop 250).take 50, ms_ckA 145 e.1 e.2 = true := List.all_eq_true.mp (by decide +kernel)
theorem ms_k145_6 : ∀ e ∈ (ms_c145.drop 300).take 50, ms_ckA 145 e.1 e.2 = true := List.all_eq_true.mp (by decide +kernel)
theorem ms_k145_7 : ∀ e ∈ (ms_c145.drop 350).take 50, ms_ckA 145 e.1 e.2 = true := List.all_eq_true.mp (by decide +kernel)
theorem ms_k145_8 : ∀ e ∈ (ms_c145.drop 400).take 50, ms_ckA 145 e.1 e.2 = true := List.all_eq_true.mp (by decide +kernel)
theorem ms_k145_9 : ∀ e ∈ (ms_c145.drop 450).take 50, ms_ckA 145 e.1 e.2 = true := List.all_eq_true.mp (by decide +kernel)
theorem ms_k145_10 : ∀ e ∈ (ms_c145.drop 500).take 50, ms_ckA 145 e.1 e.2 = true := List.all_eq_true.mp (by decide +kernel)
set_option maxRecDepth 100000 in
theorem ms_k145 : ∀ e ∈ ms_c145, ms_ckA 145 e.1 e.2 = true := by
  intro e he
  have hs : ms_c145 = (ms_c145.drop 0).take 50 ++ (ms_c145.drop 50).take 50 ++ (ms_c145.drop 100).take 50 ++ (ms_c145.drop 150).take 50 ++ (ms_c145.drop 200).take 50 ++ (ms_c145.drop 250).take 50 ++ (ms_c145.drop 300).take 50 ++ (ms_c145.drop 350).take 50 ++ (ms_c145.drop 400).take 50 ++ (ms_c145.drop 450).take 50 ++ (ms_c145.drop 500).take 50 := by rfl
  rw [hs] at he
  simp only [List.mem_append] at he
  rcases he with (((((((((h0 | h1) | h2) | h3) | h4) | h5) | h6) | h7) | h8) | h9) | h10
  · exact ms_k145_0 e h0
  · exact ms_k145_1 e h1
  · exact ms_k145_2 e h2
  · exact ms_k145_3 e h3
  · exact ms_k145_4 e h4
  · exact ms_k145_5 e h5
  · exact ms_k145_6 e h6
  · exact ms_k145_7 e h7
  · exact ms_k145_8 e h8
  · exact ms_k145_9 e h9
  · exact ms_k145_10 e h10
theorem ms_k146 : ∀ e ∈ ms_c146, ms_ckA 146 e.1 e.2 = true := List.all_eq_true.mp (by decide +kernel)
theorem ms_k147 : ∀ e ∈ ms_c147, ms_ckA 147 e.1 e.2 = true := List.all_eq_true.mp (by decide +kernel)
theorem ms_k148 : ∀ e ∈ ms_c148, ms_ckA 148 e.1 e.2 = true := List.all_eq_true.mp (by decide +kernel)
theorem ms_k149 : ∀ e ∈ ms_c149, ms_ckA 149 e.1 e.2 = true := List.all_eq_true.mp (by decide +kernel)
theorem ms_oks : ∀ k, ∀ e ∈ ms_cd k, ms_ckA k e.1 e.2 = true := by
  intro k
  match k with
  | 0 => exact ms_k0
  | 1 => exact ms_k1
  | 2 => exact ms_k2
  | 3 => exact ms_k3
  | 4 => exact ms_k4
  | 5 => exact ms_k5
  | 6 => exact ms_k6
  | 7 => exact ms_k7
  | 8 => exact ms_k8
  | 9 => exact ms_k9
  | 10 => exact ms_k10
  | 11 => exact ms_k11
  | 12 => exact ms_k12
  | 13 => exact ms_k13
  | 14 => exact ms_k14
  | 15 => exact ms_k15
  | 16 => exact ms_k16
  | 17 => exact ms_k17
  | 18 => exact ms_k18
  | 19 => exact ms_k19
  | 20 => exact ms_k20
  | 21 => exact ms_k21
  | 22 => exact ms_k22
  | 23 => exact ms_k23
  | 24 => exact ms_k24
  | 25 => exact ms_k25
  | 26 => exact ms_k26
  | 27 => exact ms_k27
  | 28 => exact ms_k28
  | 29 => exact ms_k29
  | 30 => exact ms_k30
  | 31 => exact ms_k31
  | 32 => exact ms_k32
  | 33 => exact ms_k33
  | 34 => exact ms_k34
  | 35 => exact ms_k35
  | 36 => exact ms_k36
  | 37 => exact ms_k37
  | 38 => exact ms_k38
  | 39 => exact ms_k39
  | 40 => exact ms_k40
  | 41 => exact ms_k41
  | 42 => exact ms_k42
  | 43 => exact ms_k43
  | 44 => exact ms_k44
  | 45 => exact ms_k45
  | 46 => exact ms_k46
  | 47 => exact ms_k47
  | 48 => exact ms_k48
  | 49 => exact ms_k49
  | 50 => exact ms_k50
  | 51 => exact ms_k51
  | 52 => exact ms_k52
  | 53 => exact ms_k53
  | 54 => exact ms_k54
  | 55 => exact ms_k55
  | 56 => exact ms_k56
  | 57 => exact ms_k57
  | 58 => exact ms_k58
  | 59 => exact ms_k59
  | 60 => exact ms_k60
  | 61 => exact ms_k61
  | 62 => exact ms_k62
  | 63 => exact ms_k63
  | 64 => exact ms_k64
  | 65 => exact ms_k65
  | 66 => exact ms_k66
  | 67 => exact ms_k67
  | 68 => exact ms_k68
  | 69 => exact ms_k69
  | 70 => exact ms_k70
  | 71 => exact ms_k71
  | 72 => exact ms_k72
  | 73 => exact ms_k73
  | 74 => exact ms_k74
  | 75 => exact ms_k75
  | 76 => exact ms_k76
  | 77 => exact ms_k77
  | 78 => exact ms_k78
  | 79 => exact ms_k79
  | 80 => exact ms_k80
  | 81 => exact ms_k81
  | 82 => exact ms_k82
  | 83 => exact ms_k83
  | 84 => exact ms_k84
  | 85 => exact ms_k85
  | 86 => exact ms_k86
  | 87 => exact ms_k87
  | 88 => exact ms_k88
  | 89 => exact ms_k89
  | 90 => exact ms_k90
  | 91 => exact ms_k91
  | 92 => exact ms_k92
  | 93 => exact ms_k93
  | 94 => exact ms_k94
  | 95 => exact ms_k95
  | 96 => exact ms_k96
  | 97 => exact ms_k97
  | 98 => exact ms_k98
  | 99 => exact ms_k99
  | 100 => exact ms_k100
  | 101 => exact ms_k101
  | 102 => exact ms_k102
  | 103 => exact ms_k103
  | 104 => exact ms_k104
  | 105 => exact ms_k105
  | 106 => exact ms_k106
  | 107 => exact ms_k107
  | 108 => exact ms_k108
  | 109 => exact ms_k109
  | 110 => exact ms_k110
  | 111 => exact ms_k111
  | 112 => exact ms_k112
  | 113 => exact ms_k113
  | 114 => exact ms_k114
  | 115 => exact ms_k115
  | 116 => exact ms_k116
  | 117 => exact ms_k117
  | 118 => exact ms_k118
  | 119 => exact ms_k119
  | 120 => exact ms_k120
  | 121 => exact ms_k121
  | 122 => exact ms_k122
  | 123 => exact ms_k123
  | 124 => exact ms_k124
  | 125 => exact ms_k125
  | 126 => exact ms_k126
  | 127 => exact ms_k127
  | 128 => exact ms_k128
  | 129 => exact ms_k129
  | 130 => exact ms_k130
  | 131 => exact ms_k131
  | 132 => exact ms_k132
  | 133 => exact ms_k133
  | 134 => exact ms_k134
  | 135 => exact ms_k135
  | 136 => exact ms_k136
  | 137 => exact ms_k137
  | 138 => exact ms_k138
  | 139 => exact ms_k139
  | 140 => exact ms_k140
  | 141 => exact ms_k141
  | 142 => exact ms_k142
  | 143 => exact ms_k143
  | 144 => exact ms_k144
  | 145 => exact ms_k145
  | 146 => exact ms_k146
  | 147 => exact ms_k147
  | 148 => exact ms_k148
  | 149 => exact ms_k149
  | q + 150 => intro e he; exact absurd he (by simp [ms_cd, ms_cds])
end
section
/-! A RUN OF THE PURE MACHINE IS A RUN OF THE REAL ONE. -/
theorem ms_ok_at {j pc : Nat} {q : ms_I} (h : ms_at j pc = some q) : ms_ckA j pc q = true := by
  unfold ms_at at h
  have key : ∀ (l : List (Nat × ms_I)), l.lookup pc = some q → (pc, q) ∈ l := by
    intro l
    induction l with
    | nil => intro h; cases h
    | cons a l ih =>
      intro h
      obtain ⟨k, z⟩ := a
      rw [List.lookup_cons] at h
      split at h
      · rename_i hk
        have hk : pc = k := by simpa using hk
        subst hk
        cases h
        exact List.mem_cons_self
      · exact List.mem_cons_of_mem _ (ih h)
  exact ms_oks j (pc, q) (key _ h)
-- the end of a method's run
def ms_End (v : ms_V) (r : ms_R) (below : List Frame) (s : State) (cells slots : Nat) (t : State) : Prop :=
  t.status = .running ∧ s.WarmedH t.vm ∧ ms_Rl v r.2 t.heap ∧ (∃ L, (∀ q ∈ L, r.2.2.2.1 = true ∧ ms_vB v ≤ q.base) ∧ s.sameButNew ({ t with vm := s.vm } : State) L cells slots) ∧
  match r.1 with
  | .inl o => Ended t below (.returned (o.map (ms_mv (ms_vr v))))
  | .inr k => Ended t below (.threw (ms_vr v (r.2.1 - 1))) ∧ ∃ cell, t.heap[ms_vr v (r.2.1 - 1)]? = some cell ∧ cell.vm = .none ∧ s.vm.findClass (ms_xn k) = some cell.cls
section MsSound
variable {p : Program} {l : Launch} {e : Env} {R : Room} {s : State} {m : MethodId} {args : Array Value} {below : List Frame} {meth : Method} {c : Code} {H : Heap} {locs : List Loc} {cells slots : Nat} {Q Q' : State → Prop}
variable {v : ms_V} {j pc : Nat} {ls : Array Slot} {L S : List Value} {σ : ms_M} {r : ms_R}
theorem ms_Wm {g : JFrame} (h : ∀ t, Q t → Q' t) (k : W p l e R s m args below meth c H locs cells slots Q g) : W p l e R s m args below meth c H locs cells slots Q' g := fun T hT X => by
  obtain ⟨t, a, b⟩ := k T hT X
  exact ⟨t, a, h t b⟩
theorem ms_w_ret {i : Jvm.ClassFile.Instr} {len : Nat} (C : ms_Cx v j p s m args meth c) (hd : decode (ms_by j) pc = .ok (i, len)) (ck : ms_ckr j i len = true) (h : ms_ret j S σ = some r) (hR : ms_Rl v σ H) (hl : ∀ q ∈ locs, σ.2.2.1 = true ∧ ms_vB v ≤ q.base) :
    W p l e R s m args below meth c H locs cells slots (ms_End v r below s cells slots) (F0 m pc ls (S.map (ms_mv (ms_vr v)))) := by
  obtain ⟨⟨hx, hb, -, -⟩, -, -, hr, hlk, -⟩ := C
  simp only [ms_ckr, Bool.and_eq_true, decide_eq_true_eq] at ck
  obtain ⟨rfl, ck⟩ := ck
  have fin : ∀ (o : Option Value) (t : State), MQ below (fun _ _ oc t => oc = .returned (o.map (ms_mv (ms_vr v))) ∧ t.heap = H) args s cells slots (fun q => σ.2.2.1 = true ∧ ms_vB v ≤ q) t → ms_End v (.inl o, σ) below s cells slots t := by
    rintro o t ⟨oc, hrun, hend, ⟨rfl, hh⟩, L, ⟨-, hW, hsame⟩, hfree⟩
    exact ⟨hrun, hW, by rw [hh]; exact hR, ⟨L, hfree, hsame⟩, hend⟩
  unfold ms_ret at h
  split at h
  · split at h
    · rename_i hok
      cases h
      split at ck
      · rename_i he; rw [he] at hok; cases hok
      · rename_i he; rw [he] at hok; cases hok
      · rename_i he; rw [he] at hok; cases hok
      · rename_i he; rw [he] at hok; cases hok
      · rename_i he; rw [he] at hok; cases hok
      · rename_i he
        exact ms_Wm (fin none) (W.vret hx hb (hr.trans he) (fun t ht hW => ⟨rfl, ht⟩) hl hd hlk)
      · cases ck
    · cases h
  · rename_i val
    split at h
    · rename_i hok
      cases h
      split at ck
      · rename_i he
        rw [he] at hok
        cases val with
        | int z => exact ms_Wm (fin (some (.int z))) (W.iret hx hb (hr.trans he) (fun t ht hW => ⟨rfl, ht⟩) hl hd hlk)
        | _ => cases hok
      · rename_i he
        rw [he] at hok
        cases val with
        | int z =>
          have hz := of_decide_eq_true hok
          refine ms_Wm (fin (some (.int z))) (W.zret hx hb (hr.trans he) ?_ (fun t ht hW => ⟨rfl, ht⟩) hl hd hlk)
          rcases hz with rfl | rfl <;> decide
        | _ => cases hok
      · rename_i he
        rw [he] at hok
        cases val with
        | long z => exact ms_Wm (fin (some (.long z))) (W.lret hx hb (hr.trans he) (fun t ht hW => ⟨rfl, ht⟩) hl hd hlk)
        | _ => cases hok
      · rename_i he
        rw [he] at hok
        cases val with
        | ref z => exact ms_Wm (fin (some (.ref z))) (W.aret hx hb (hr.trans he) (Or.inl ⟨_, rfl⟩) (Or.inr ⟨_, rfl⟩) (fun t ht hW => ⟨rfl, ht⟩) hl hd hlk)
        | _ => cases hok
      · rename_i he
        rw [he] at hok
        cases val with
        | ref z => exact ms_Wm (fin (some (.ref z))) (W.aret hx hb (hr.trans he) (Or.inr ⟨_, rfl⟩) (Or.inr ⟨_, rfl⟩) (fun t ht hW => ⟨rfl, ht⟩) hl hd hlk)
        | _ => cases hok
      · rename_i he
        rw [he] at hok
        cases val <;> cases hok
      · cases ck
    · cases h
  · cases h
end MsSound
end
section
/-! CALLS. -/
theorem ms_st1_w {i : Jvm.ClassFile.Instr} {len : Nat} {x : ms_X} {pc : Nat} {L S : List Value} {σ : ms_M} {y : ms_N} (h : ms_st1 i len x pc L S σ = some y) : y.2.2.2.2.2.1 = false → y.2.2.2 = σ := by
  unfold ms_st1 at h
  split at h
  all_goals (try unfold ms_ldi at h)
  all_goals (try unfold ms_ldl at h)
  all_goals (try unfold ms_lda at h)
  all_goals (try unfold ms_sti at h)
  all_goals (try unfold ms_stl at h)
  all_goals (try unfold ms_sta at h)
  all_goals (try unfold ms_ii at h)
  all_goals (try unfold ms_id at h)
  all_goals (try unfold ms_ll at h)
  all_goals (try unfold ms_li at h)
  all_goals (repeat' split at h)
  all_goals first
    | (cases h; done)
    | (cases h; exact fun _ => rfl)
    | (cases h; exact fun q => by cases q)
    | (rw [Option.map_eq_some_iff] at h; obtain ⟨_, -, h⟩ := h; cases h; exact fun _ => rfl)
theorem ms_ev_w (f : Nat) : ∀ {j pc : Nat} {L S : List Value} {σ : ms_M} {r : ms_R}, ms_ev f j pc L S σ = some r → r.2.2.2.1 = false → r.2 = σ := by
  induction f with
  | zero => intro j pc L S σ r h; cases h
  | succ f ih =>
    intro j pc L S σ r h hw
    rw [ms_ev] at h
    split at h
    · cases h
    · rename_i q hq
      unfold ms_stp at h
      split at h
      · split at h
        · rename_i y hy
          have h2 := ih h hw
          exact h2.trans (ms_st1_w hy (by rw [← h2]; exact hw))
        · cases h
      · unfold ms_call at h
        split at h
        · split at h
          · rename_i w τ hτ
            have h2 := ih h hw
            rw [h2] at hw
            have hw2 : σ.2.2.1 = false ∧ τ.2.2.1 = false := by simpa using hw
            have h1 : τ = _ := ih hτ hw2.2
            rw [h2, h1]
            obtain ⟨a, b, w0, d⟩ := σ
            obtain ⟨h3, -⟩ := hw2
            have h3 : w0 = false := h3
            subst h3
            rfl
          · rename_i w τ hτ
            split at h
            · have h2 := ih h hw
              rw [h2] at hw
              cases hw
            · cases h
          · cases h
        · cases h
      · unfold ms_ret at h
        repeat' split at h
        all_goals first
          | (cases h; done)
          | (cases h; rfl)
      · unfold ms_thr at h
        repeat' split at h
        all_goals first
          | (cases h; done)
          | (cases h; cases hw)
theorem ms_steps_up {tb : Tables} {e : Env} {f : Frame} {below : List Frame} {s t : State} (h : Steps tb e (f :: below) s t) : Steps tb e below s t := by
  obtain ⟨n, h1, h2⟩ := h
  exact ⟨n, h1, fun k hk => (h2 k hk).weaken (mid := [f])⟩
section MsCalls
variable {p : Program} {l : Launch} {e : Env} {R : Room} {s : State} {m : MethodId} {args : Array Value} {below : List Frame} {meth : Method} {c : Code} {T : State} {locs : List Loc} {cells slots : Nat}
variable {v : ms_V} {j : Nat}
theorem ms_goS (X : Stand p l e R s m args below meth c T locs cells slots) (C : ms_Cx v j p s m args meth c) {k q : Nat} {t : List Nat} (hcw : ms_cw k ∈ ms_ws) (hok : ms_okm k = true) (hst : ms_st k = true) (hln : ms_lnk j q k t = true) {g : JFrame} (hg : g.method = m) {As rest : List Value} (hlen : As.length = ms_na k) (hstack : g.stack = As.reverse ++ rest) (hdg : decode c.code g.pc = .ok (.invokestatic q, 3)) :
    ∃ mk methk ck vm₁, ms_Ck s k mk methk ck ∧ Stand p l e R s m args below meth c (T.setVm vm₁) locs cells slots ∧ ∀ target, (∀ acts, Steps p.tables e below (doInvoke e ((T.setVm vm₁).setTop { g with stack := rest }) acts mk As.toArray).1 target) → Steps p.tables e below (T.setTop g) target := by
  obtain ⟨⟨mk, methk, ck, hCk⟩, hini, hy, hpd, -, hs, -⟩ := ms_okm_spec hcw hok C.2.1
  rw [if_pos hst] at hs hpd
  obtain ⟨hn, hm, -, -, -, -, -, -, hsig, -⟩ := id hCk
  rw [hsig] at hpd
  have hpd : methk.sig.parameters.length = ms_na k := Option.some.inj hpd
  have hstatic := Cond.static_spec hn hm hs
  obtain ⟨kP, hkP, -⟩ := className_of_methodNamed hn
  have hinitP : kP.init = .initialized := Cond.initialized_spec (findClass_of_methodNamed hn) hkP hini
  unfold ms_lnk at hln
  split at hln
  · obtain ⟨vm₁, X₁, st⟩ := X.invokestatic C.1.1 C.1.2.2.2 (C.2.1 _ (ms_has_in hln)) hn hm hstatic hkP hinitP hy hg (argsL := As) (rest := rest) (hlen.trans hpd.symm) hstack hdg
    exact ⟨mk, methk, ck, vm₁, hCk, X₁, st⟩
  · have hN := C.2.2.1.2.2.2.1 _ (List.mem_of_getElem? (of_decide_eq_true hln))
    obtain ⟨vm₁, X₁, st⟩ := X.invokestaticNest C.1.1 C.1.2.2.2 (va_Nw.use rfl hN) hn hm hstatic hkP hinitP hy hg (argsL := As) (rest := rest) (hlen.trans hpd.symm) hstack hdg
    exact ⟨mk, methk, ck, vm₁, hCk, X₁, st⟩
theorem ms_goV (X : Stand p l e R s m args below meth c T locs cells slots) (C : ms_Cx v j p s m args meth c) {k q ci : Nat} {t : List Nat} (hcw : ms_cw k ∈ ms_ws) (hok : ms_okm k = true) (hst : ms_st k = false) (hrc : ms_rc k = some ci) (ht : t.getD 0 0 = 0) (hln : ms_lnk j q k t = true) {g : JFrame} (hg : g.method = m) {b : Addr} {cellB : Cell} (hcell : T.heap[b]? = some cellB) (hvm : cellB.vm = .none) (hcls : s.vm.findClass (ms_ow k) = some cellB.cls)
    {As rest : List Value} (hlen : As.length + 1 = ms_na k) (hstack : g.stack = As.reverse ++ .ref b :: rest) (hdg : decode c.code g.pc = .ok (.invokevirtual q, 3)) :
    ∃ mk methk ck vm₁, ms_Ck s k mk methk ck ∧ Stand p l e R s m args below meth c (T.setVm vm₁) locs cells slots ∧ ∀ target, (∀ acts, Steps p.tables e below (doInvoke e ((T.setVm vm₁).setTop { g with stack := rest }) acts mk (.ref b :: As).toArray).1 target) → Steps p.tables e below (T.setTop g) target := by
  obtain ⟨⟨mk, methk, ck, hCk⟩, hini, hy, hpd, -, hs, hsel⟩ := ms_okm_spec hcw hok C.2.1
  have hst' : ¬ ms_st k = true := by rw [hst]; decide
  rw [if_neg hst'] at hs hpd
  obtain ⟨hn, hm, -, -, -, -, -, -, hsig, -⟩ := id hCk
  rw [hsig] at hpd
  have hpd : methk.sig.parameters.length = ms_na k - 1 := Option.some.inj hpd
  obtain ⟨mk', methM, hn', hmM, hstM, habM⟩ := Cond.instanceMethod_spec hs
  cases hn.symm.trans hn'
  cases hm.symm.trans hmM
  obtain ⟨c2, r2, m2, q1, q2, q3, q4, kP, hkP, hkPi⟩ := Cond.selects_spec (hsel ci hrc).1
  cases hcls.symm.trans q1
  cases (State.methodFound?_of_named hn hy).symm.trans q2
  cases hn.symm.trans q3
  have hselP : selectMethod e.platform s.vm cellB.cls mk = .method mk := by rw [Launch.admits_selectMethod X.admits]; exact q4
  unfold ms_lnk at hln
  rw [if_pos ht] at hln
  obtain ⟨vm₁, X₁, st⟩ := X.invokevirtual C.1.1 C.1.2.2.2 (C.2.1 _ (ms_has_in hln)) hn hm hstM hkP hkPi hy (a := b) (cell := cellB) hcell (fun z h => by rw [hvm] at h; cases h) hselP hm habM hkP hkPi hg (argsL := As) (rest := rest) (by omega) hstack hdg
  exact ⟨mk, methk, ck, vm₁, hCk, X₁, st⟩
theorem ms_goI (X : Stand p l e R s m args below meth c T locs cells slots) (C : ms_Cx v j p s m args meth c) {k q : Nat} {t : List Nat} (hcw : ms_cw k ∈ ms_ws) (hok : ms_okm k = true) (hst : ms_st k = false) (hini : ms_ini k = true) (hhs : ms_hs k = []) (hrt : ms_rt k = none) (hln : ms_lnk j q k t = true) {g : JFrame} (hg : g.method = m) {b : Addr}
    {As rest : List Value} (hlen : As.length + 1 = ms_na k) (hstack : g.stack = As.reverse ++ .ref b :: rest) (hdg : decode c.code g.pc = .ok (.invokespecial q, 3)) :
    ∃ mk methk ck vm₁, ms_Ck s k mk methk ck ∧ Stand p l e R s m args below meth c (T.setVm vm₁) locs cells slots ∧ ∀ target, (∀ acts, Steps p.tables e below (doInvoke e ((T.setVm vm₁).setTop { g with stack := rest }) acts mk (.ref b :: As).toArray).1 target) → Steps p.tables e below (T.setTop g) target := by
  obtain ⟨⟨mk, methk, ck, hCk⟩, hin, hy, hpd, -, hs, -⟩ := ms_okm_spec hcw hok C.2.1
  have hst' : ¬ ms_st k = true := by rw [hst]; decide
  rw [if_neg hst'] at hs hpd
  obtain ⟨hn, hm, -, -, -, -, -, -, hsig, hnm, -⟩ := id hCk
  rw [hsig] at hpd
  have hpd : methk.sig.parameters.length = ms_na k - 1 := Option.some.inj hpd
  have hpl : e.platform.magicAccessors = ({} : Platform).magicAccessors := by rw [X.admits.platform]
  have hy1 : (ms_y k).name = "<init>" := (name_of_methodNamed hn hm).1.symm.trans (hnm hini)
  have hcode : (Cond.code (ms_y k) (ms_by k) (ms_mx k) none).before args s = true := by
    have h := C.2.1 _ hcw
    unfold ms_cw at h
    rw [hhs, hrt] at h
    exact h
  have hl : ∀ sig, parseMethodDescriptor (ms_y k).desc = some sig → As.length = sig.parameters.length := fun sig h => by
    cases hsig.symm.trans h
    omega
  subst hg
  unfold ms_lnk at hln
  split at hln
  · obtain ⟨mk', methM, cM, kP, vm₁, hn', -, -, -, -, -, -, -, hW₁, st⟩ := Steps.initColdArgs (e := e) X.here C.1.1 X.warmed hpl C.1.2.2.2 hy1 hy (C.2.1 _ (ms_has_in hln)) hs hcode (f := g) rfl hl hstack hdg
    cases hn.symm.trans hn'
    exact ⟨mk, methk, ck, vm₁, hCk, X.noted hW₁, st⟩
  · have hN := C.2.2.1.2.2.2.1 _ (List.mem_of_getElem? (of_decide_eq_true hln))
    obtain ⟨mk', methM, cM, kP, vm₁, hn', -, -, -, -, -, -, -, hW₁, st⟩ := Steps.initColdArgsNest (e := e) X.here C.1.1 X.warmed hpl C.1.2.2.2 hy1 hy (va_Nw.use (A := args) rfl hN) hs hcode (f := g) rfl hl hstack hdg
    cases hn.symm.trans hn'
    exact ⟨mk, methk, ck, vm₁, hCk, X.noted hW₁, st⟩
end MsCalls
end
section
/-! THE RUN OF A METHOD THAT IS CALLED; THE SOUNDNESS OF ALL RUNS. -/
def ms_Snd (l : Launch) (v : ms_V) (j pc : Nat) (L S : List Value) (σ : ms_M) (r : ms_R) : Prop :=
  ∀ (p : Program) (e : Env) (R : Room) (s : State) (m : MethodId) (args : Array Value) (below : List Frame) (meth : Method) (c : Code) (H : Heap) (locs : List Loc) (cells slots : Nat) (ls : Array Slot),
    ms_Cx v j p s m args meth c → ms_Hx j c → ms_Lr (ms_vr v) ls L → L.length = ms_mx j → ms_Rl v σ H → ms_fr j ≤ R.frames → ms_lo j ≤ R.locals → cells + (r.2.1 - σ.1) ≤ R.cells → slots + (r.2.2.1 - σ.2.1) ≤ R.slots → (∀ q ∈ locs, σ.2.2.1 = true ∧ ms_vB v ≤ q.base) → (σ.2.2.1 = false → cells = 0 ∧ slots = 0 ∧ H = s.heap) →
    W p l e R s m args below meth c H locs cells slots (ms_End v r below s (cells + (r.2.1 - σ.1)) (slots + (r.2.2.1 - σ.2.1))) (F0 m pc ls (S.map (ms_mv (ms_vr v))))
section MsBody
variable {p : Program} {l : Launch} {e : Env} {R : Room} {s : State} {m : MethodId} {args : Array Value} {below : List Frame} {meth : Method} {c : Code} {T : State} {locs : List Loc} {cells slots : Nat}
variable {v : ms_V} {j : Nat}
theorem ms_body (X : Stand p l e R s m args below meth c T locs cells slots) (C : ms_Cx v j p s m args meth c) {k : Nat} {mk : MethodId} {methk : Method} {ck : Code} (hCk : ms_Ck s k mk methk ck) {g : JFrame} (hg : g.method = m) (hsz : g.locals.size = c.maxLocals) (hmr : g.monitorRoom = 0) (hst8 : (g.stack.map fun v => v.category).sum ≤ 8) {ig : Instr} (hdg : decode c.code g.pc = .ok (ig, 3))
    (hfr : ms_fr k + 1 ≤ R.frames) (hlo : 8 + (ms_mx k + 11) + ms_lo k ≤ R.locals) {as : List Value} {σ : ms_M} {rc : ms_R} (hents : (ms_ents as).length ≤ ms_mx k) (hw0 : σ.2.2.1 = false) (hR : ms_Rl v σ T.heap) (hc : cells + (rc.2.1 - σ.1) ≤ R.cells) (hs : slots + (rc.2.2.1 - σ.2.1) ≤ R.slots)
    (ih : ms_Snd l v k 0 (ms_ent k as) [] σ rc) :
    ∃ t, (∀ acts, Steps p.tables e below (doInvoke e (T.setTop g) acts mk (as.map (ms_mv (ms_vr v))).toArray).1 t) ∧ ms_End v rc (.java g :: below) (T.calling g mk (as.map (ms_mv (ms_vr v))).toArray) (rc.2.1 - σ.1) (rc.2.2.1 - σ.2.1) t := by
  obtain ⟨hn, hm, hcode, hbytes, hmax, hHx, hret, hlk, hsig, hnm, hpl⟩ := hCk
  have hnT : T.methodNamed? (ms_y k) = some mk := X.named hn
  have hmT : T.vm.method? mk = some methk := by rw [X.warmed.alike.method?]; exact hm
  have hplT : T.plainMethod mk := by
    intro kk hkk
    obtain ⟨k0, hk0, he⟩ := X.warmed.alike.symm.2.2 _ _ hkk
    have := hpl k0 hk0
    rw [he] at this
    exact this
  obtain ⟨Y, hin⟩ := X.into hg hsz hdg (as.map (ms_mv (ms_vr v))).toArray (R' := { frames := ms_fr k, cells := rc.2.1 - σ.1, slots := rc.2.2.1 - σ.2.1, locals := ms_lo k }) hmT hcode hlk hplT hfr (by rw [hmr, hmax]; show 2 * 0 + _ + _ + ms_lo k ≤ _; omega) hc hs
  have hWm : s.WarmedH (T.calling g mk (as.map (ms_mv (ms_vr v))).toArray).vm := X.warmed
  have C' : ms_Cx v k p (T.calling g mk (as.map (ms_mv (ms_vr v))).toArray) mk (as.map (ms_mv (ms_vr v))).toArray methk ck :=
    ⟨⟨C.1.1, hbytes, hmax, findClass_of_methodNamed hnT⟩, ms_words hWm C.2.1, C.2.2.1.moved hWm, hret, hlk, hnm⟩
  obtain ⟨hel, heL⟩ := ms_ent_Lr (ms_vr v) k as hents
  have hw := ih p e { frames := ms_fr k, cells := rc.2.1 - σ.1, slots := rc.2.2.1 - σ.2.1, locals := ms_lo k } (T.calling g mk (as.map (ms_mv (ms_vr v))).toArray) mk (as.map (ms_mv (ms_vr v))).toArray (.java g :: below) methk ck T.heap [] 0 0 _ C' hHx heL hel hR (Nat.le_refl _) (Nat.le_refl _) (by show 0 + (rc.2.1 - σ.1) ≤ rc.2.1 - σ.1; omega) (by show 0 + (rc.2.2.1 - σ.2.1) ≤ rc.2.2.1 - σ.2.1; omega) (fun q hq => by cases hq) (fun _ => ⟨rfl, rfl, rfl⟩)
  rw [Nat.zero_add, Nat.zero_add] at hw
  obtain ⟨t, hst, hend⟩ := hw ((T.setTop g).pushFrame (.java (entryFrame mk (as.map (ms_mv (ms_vr v))).toArray ck.maxLocals))) rfl Y
  refine ⟨t, fun acts => ?_, hend⟩
  rw [hin acts, hmax, lg_entry_eq]
  rw [hmax, lg_entry_eq] at hst
  exact ms_steps_up hst
end MsBody
end
section
/-! SOUNDNESS: every run of the pure machine is one of the real machine. -/
section MsAll
variable {p : Program} {l : Launch} {e : Env} {R : Room} {s : State} {m : MethodId} {args : Array Value} {below : List Frame} {meth : Method} {c : Code} {H : Heap} {locs : List Loc} {cells slots : Nat} {Q : State → Prop}
variable {v : ms_V} {j pc len : Nat} {i : Jvm.ClassFile.Instr} {x : ms_X} {ls : Array Slot} {L S : List Value} {σ : ms_M}
theorem ms_same_heap {s t : State} {L : List Loc} {k n : Nat} (h : s.sameButNew ({ t with vm := s.vm } : State) L k n) (hL : ∀ q ∈ L, False) (hk : k = 0) : t.heap = s.heap := by
  have hL : L = [] := List.eq_nil_iff_forall_not_mem.mpr fun q hq => hL q hq
  subst hL
  subst hk
  have h2 : ({ t with vm := s.vm } : State) = s.setFrames ({ t with vm := s.vm } : State).frames := State.sameBut_nil.mp h.sameBut
  have h3 := congrArg State.heap h2
  exact h3
theorem ms_w_call (C : ms_Cx v j p s m args meth c) (hd : decode (ms_by j) pc = .ok (i, len)) (ck : ms_ckc j i len x = true) (hcan : ms_can x.1 S σ = true) (hL : ms_Lr (ms_vr v) ls L) (hLm : L.length = ms_mx j) (hR : ms_Rl v σ H) (hfr : ms_fr j ≤ R.frames) (hlo : ms_lo j ≤ R.locals) {rc : ms_R}
    (ihc : ms_Snd l v x.1 0 (ms_ent x.1 (S.take (ms_na x.1)).reverse) [] (σ.1, σ.2.1, false, σ.2.2.2) rc) (hc : cells + (rc.2.1 - σ.1) ≤ R.cells) (hs : slots + (rc.2.2.1 - σ.2.1) ≤ R.slots) (hw : rc.2.2.2.1 = false → rc.2 = (σ.1, σ.2.1, false, σ.2.2.2))
    (kret : ∀ o, rc.1 = .inl o → ∀ (H' : Heap) (locs' : List Loc), ms_Rl v rc.2 H' → (∀ q ∈ locs', q ∈ locs ∨ (rc.2.2.2.1 = true ∧ ms_vB v ≤ q.base)) → (rc.2.2.2.1 = false → H' = H ∧ locs' = locs) →
      W p l e R s m args below meth c H' locs' (cells + (rc.2.1 - σ.1)) (slots + (rc.2.2.1 - σ.2.1)) Q (F0 m (pc + 3) ls ((o.toList ++ S.drop (ms_na x.1)).map (ms_mv (ms_vr v)))))
    (kthr : ∀ k, rc.1 = .inr k → ∀ (T' : State) (locs' : List Loc), ms_Rl v rc.2 T'.heap → (∀ q ∈ locs', q ∈ locs ∨ (rc.2.2.2.1 = true ∧ ms_vB v ≤ q.base)) → Stand p l e R s m args below meth c T' locs' (cells + (rc.2.1 - σ.1)) (slots + (rc.2.2.1 - σ.2.1)) →
      (∃ cell, T'.heap[ms_vr v (rc.2.1 - 1)]? = some cell ∧ cell.vm = .none ∧ s.vm.findClass (ms_xn k) = some cell.cls) →
      ∃ t, Steps p.tables e below ((T'.setTop (F0 m pc ls ((S.drop (ms_na x.1)).map (ms_mv (ms_vr v))))).pushFrame (.throwing (ms_vr v (rc.2.1 - 1)))) t ∧ Q t) :
    W p l e R s m args below meth c H locs cells slots Q (F0 m pc ls (S.map (ms_mv (ms_vr v)))) := by
  intro T hT X
  subst hT
  have hb := C.1.2.1
  have hdT : decode c.code pc = .ok (i, len) := by rw [hb]; exact hd
  simp only [ms_ckc, Bool.and_eq_true, decide_eq_true_eq] at ck
  obtain ⟨⟨rfl, hk1, hk2, hf1, hl1⟩, ck⟩ := ck
  obtain ⟨hcw, hok⟩ := ms_okms x.1 hk1 hk2
  simp only [ms_can, Bool.and_eq_true, decide_eq_true_eq] at hcan
  obtain ⟨⟨⟨hcn, hc8⟩, hce⟩, hrcv⟩ := hcan
  have hsz : (F0 m pc ls ((S.drop (ms_na x.1)).map (ms_mv (ms_vr v)))).locals.size = c.maxLocals := (hL.1.trans hLm).trans C.1.2.2.1.symm
  have hstk : S = (S.take (ms_na x.1)).reverse.reverse ++ S.drop (ms_na x.1) := by rw [List.reverse_reverse, List.take_append_drop]
  have hal : (S.take (ms_na x.1)).reverse.length = ms_na x.1 := by rw [List.length_reverse, List.length_take]; omega
  generalize hAs : (S.take (ms_na x.1)).reverse = As at *
  generalize hRs : S.drop (ms_na x.1) = rest at *
  have key : ∃ mk methk ck vm₁, ms_Ck s x.1 mk methk ck ∧ Stand p l e R s m args below meth c (T.setVm vm₁) locs cells slots ∧ ∀ target, (∀ acts, Steps p.tables e below (doInvoke e ((T.setVm vm₁).setTop (F0 m pc ls (rest.map (ms_mv (ms_vr v))))) acts mk (As.map (ms_mv (ms_vr v))).toArray).1 target) → Steps p.tables e below (T.setTop (F0 m pc ls (S.map (ms_mv (ms_vr v))))) target := by
    cases i with
    | invokestatic q =>
      simp only [Bool.and_eq_true] at ck
      exact ms_goS X C hcw hok ck.1 ck.2 (g := F0 m pc ls (S.map (ms_mv (ms_vr v)))) rfl (As := As.map (ms_mv (ms_vr v))) (rest := rest.map (ms_mv (ms_vr v))) (by rw [List.length_map]; exact hal) (by show S.map _ = _; rw [hstk, List.map_append, List.map_reverse]) hdT
    | invokevirtual q =>
      simp only [Bool.and_eq_true, Bool.not_eq_true', decide_eq_true_eq] at ck
      obtain ⟨⟨⟨hr1, hst⟩, h0⟩, hln⟩ := ck
      obtain ⟨ci, hci⟩ := Option.isSome_iff_exists.mp hr1
      rw [hci] at hrcv
      obtain ⟨-, -, -, -, hna, -, hsel⟩ := ms_okm_spec hcw hok C.2.1
      cases As with
      | nil => simp at hrcv
      | cons a0 As =>
        simp only [List.head?_cons] at hrcv
        split at hrcv
        · rename_i a ha
          cases ha
          split at hrcv
          · rename_i cj fs hM
            have hcj := of_decide_eq_true hrcv
            subst hcj
            have hnm := (hsel cj hci).2
            cases hr : ms_cl[cj]? with
            | none => rw [hr] at hnm; cases hnm
            | some r0 =>
              rw [hr] at hnm
              have hnm : r0.1 = ms_ow x.1 := Option.some.inj hnm
              obtain ⟨-, cellB, g1, g2, g3, -⟩ := ms_obj hR hM hr
              have hfc : s.vm.findClass (ms_ow x.1) = some cellB.cls := by
                rw [g2, ← hnm]
                exact (C.2.2.1.2.1.1 cj r0 hr).2.1
              exact ms_goV X C hcw hok hst hci h0 hln (g := F0 m pc ls (S.map (ms_mv (ms_vr v)))) rfl (b := ms_vr v a) g1 g3 hfc (As := As.map (ms_mv (ms_vr v))) (rest := rest.map (ms_mv (ms_vr v))) (by rw [List.length_map]; exact hal) (by show S.map _ = _; rw [hstk, List.map_append, List.map_reverse]; simp [ms_mv]) hdT
          · cases hrcv
        · cases hrcv
    | invokespecial q =>
      simp only [Bool.and_eq_true, Bool.not_eq_true', decide_eq_true_eq] at ck
      obtain ⟨⟨⟨⟨hini, hst⟩, hnone⟩, hhs, hrt⟩, hln⟩ := ck
      have hnone : ms_rc x.1 = none := Option.isNone_iff_eq_none.mp hnone
      rw [hnone, hini] at hrcv
      simp only [Bool.not_true, Bool.false_or] at hrcv
      cases As with
      | nil => simp at hrcv
      | cons a0 As =>
        simp only [List.head?_cons] at hrcv
        split at hrcv
        · rename_i a ha
          cases ha
          exact ms_goI X C hcw hok hst hini hhs hrt hln (g := F0 m pc ls (S.map (ms_mv (ms_vr v)))) rfl (b := ms_vr v a) (As := As.map (ms_mv (ms_vr v))) (rest := rest.map (ms_mv (ms_vr v))) (by rw [List.length_map]; exact hal) (by show S.map _ = _; rw [hstk, List.map_append, List.map_reverse]; simp [ms_mv]) hdT
        · cases hrcv
    | _ => cases ck
  obtain ⟨mk, methk, ckk, vm₁, hCk, X₁, st1⟩ := key
  obtain ⟨t, hst, hend⟩ := ms_body X₁ C hCk (g := F0 m pc ls (rest.map (ms_mv (ms_vr v)))) rfl hsz rfl (by rw [ms_mv_sum]; exact hc8) hdT (Nat.le_trans hf1 hfr) (Nat.le_trans hl1 hlo) hce rfl (show ms_Rl v (σ.1, σ.2.1, false, σ.2.2.2) T.heap from hR) hc hs ihc
  obtain ⟨hrun, hWt, hRt, ⟨Lw, hLw, hsame⟩, hfin⟩ := hend
  have hloc : ∀ q ∈ locs ++ Lw, q ∈ locs ∨ (rc.2.2.2.1 = true ∧ ms_vB v ≤ q.base) := fun q hq => by
    rcases List.mem_append.mp hq with h1 | h1
    · exact Or.inl h1
    · exact Or.inr (hLw q h1)
  cases hrc : rc.1 with
  | inl o =>
    rw [hrc] at hfin
    obtain ⟨T', X', -, -, ht⟩ := X₁.outOf (g := F0 m pc ls (rest.map (ms_mv (ms_vr v)))) rfl hdT hfin hWt hsame
    have hh : T'.heap = t.heap := by rw [ht]; rfl
    obtain ⟨t2, a2, b2⟩ := kret o hrc T'.heap (locs ++ Lw) (by rw [hh]; exact hRt) hloc (fun h0 => by
      have hLn : ∀ q ∈ Lw, False := fun q hq => by have := (hLw q hq).1; rw [h0] at this; cases this
      have hk : rc.2.1 - σ.1 = 0 := by have := congrArg Prod.fst (hw h0); simp only at this; omega
      refine ⟨?_, ?_⟩
      · rw [hh]
        have h9 := ms_same_heap hsame hLn hk
        exact h9
      · rw [List.eq_nil_iff_forall_not_mem.mpr fun q hq => hLn q hq, List.append_nil]) T' rfl X'
    refine ⟨t2, st1 t2 (fun acts => (hst acts).trans ?_), b2⟩
    rw [ht]
    have e1 : (o.map (ms_mv (ms_vr v))).toList ++ rest.map (ms_mv (ms_vr v)) = (o.toList ++ rest).map (ms_mv (ms_vr v)) := by cases o <;> simp
    have a3 := a2
    rw [← e1] at a3
    exact a3
  | inr k =>
    rw [hrc] at hfin
    obtain ⟨hfin, cell, hx1, hx2, hx3⟩ := hfin
    obtain ⟨T', X', -, -, ht⟩ := X₁.outOfThrown (g := F0 m pc ls (rest.map (ms_mv (ms_vr v)))) rfl hfin hWt hsame
    have hh : T'.heap = t.heap := by rw [ht]; rfl
    have hx3' : s.vm.findClass (ms_xn k) = some cell.cls := by
      have h5 : (T.setVm vm₁).vm.findClass (ms_xn k) = some cell.cls := hx3
      rw [X₁.warmed.alike.findClass] at h5
      exact h5
    obtain ⟨t2, a2, b2⟩ := kthr k hrc T' (locs ++ Lw) (by rw [hh]; exact hRt) hloc X' ⟨cell, by rw [hh]; exact hx1, hx2, hx3'⟩
    refine ⟨t2, st1 t2 (fun acts => (hst acts).trans ?_), b2⟩
    rw [ht]
    exact a2
end MsAll
end
section
/-! A NEW EXCEPTION IS THROWN. -/
theorem ms_zs_words {v : ms_V} {n d : String} {args : Array Value} {s : State} (h : ms_Zs v n d s) (hH : ∀ q, q < ms_vB v → s.heap[q]? = (ms_vH v)[q]?) : (Cond.laysStatic "java/lang/Throwable" n d).before args s = true ∧ (Cond.isRef (.static "java/lang/Throwable" n d)).before args s = true := by
  obtain ⟨c, k, i, f, a, cell, w, h1, h2, h3, h4, ⟨h5, h5'⟩, h6, h7, h8, h9, h10, h11⟩ := h
  have hc : s.heap[a]? = some cell := by rw [hH a h5]; exact h5'
  refine ⟨Cond.laysStatic_of h1 h2 h3 h4 hc h6 h7 h8 h9, ?_⟩
  have ev : (Term.static "java/lang/Throwable" n d).eval args s none [] s = some w := by
    simp [Term.eval, State.fieldNamed?, h2, h3, h4, hc, h6, h10]
  simp only [Cond.before, Cond.holds, Cond.value, ev]
  rcases h11 with rfl | ⟨t, rfl⟩ <;> simp
theorem ms_kept {s t : State} {k n : Nat} (h : s.sameButNew ({ t with vm := s.vm } : State) [] k n) {q : Nat} (hq : q < s.heap.size) : t.heap[q]? = s.heap[q]? := by
  have hs : s.heap[q]? = some s.heap[q] := Array.getElem?_eq_getElem hq
  obtain ⟨c', h1, h2, h3, h4⟩ := h.2.2.2.2.2 q _ hs
  have h1 : t.heap[q]? = some c' := h1
  have hsl : c'.slots = (s.heap[q]).slots := by
    apply Array.ext h3
    intro i i1 i2
    have h5 := h4 i (by simp)
    rw [Array.getElem?_eq_getElem i1, Array.getElem?_eq_getElem i2] at h5
    exact Option.some.inj h5
  rw [h1, hs]
  congr 1
  rw [h2, hsl]
def ms_stw : List Cond := [.laysStatic "java/lang/Throwable" "UNASSIGNED_STACK" "[Ljava/lang/StackTraceElement;", .isRef (.static "java/lang/Throwable" "UNASSIGNED_STACK" "[Ljava/lang/StackTraceElement;"), .laysStatic "java/lang/Throwable" "SUPPRESSED_SENTINEL" "Ljava/util/List;", .isRef (.static "java/lang/Throwable" "SUPPRESSED_SENTINEL" "Ljava/util/List;")]
theorem ms_ownck : ∀ k, k < 2 → (Bundle.ownAtoms0 ms_cO (if k = 0 then 41 else 61) (ms_xn k) ["java/lang/RuntimeException", "java/lang/Exception"]).all (fun w => (decide (w ∈ lw_tbl) && goodWord w) || decide (w ∈ ms_spw) || decide (w ∈ ms_stw)) = true := by decide +kernel
section MsThrow
variable {p : Program} {l : Launch} {e : Env} {R : Room} {s : State} {m : MethodId} {args : Array Value} {below : List Frame} {meth : Method} {c : Code} {H : Heap} {locs : List Loc} {cells slots : Nat}
variable {v : ms_V} {j pc len : Nat} {i : Jvm.ClassFile.Instr} {x : ms_X} {ls : Array Slot} {L S : List Value} {σ : ms_M} {r : ms_R}
theorem ms_own0 (C : ms_Cx v j p s m args meth c) (hH : ∀ q, q < ms_vB v → s.heap[q]? = (ms_vH v)[q]?) {k : Nat} (hk : k < 2) : ∀ w ∈ Bundle.ownAtoms0 ms_cO (if k = 0 then 41 else 61) (ms_xn k) ["java/lang/RuntimeException", "java/lang/Exception"], w.before args s = true := by
  intro w hw
  have h1 := List.all_eq_true.mp (ms_ownck k hk) w hw
  simp only [Bool.or_eq_true, Bool.and_eq_true, decide_eq_true_eq] at h1
  obtain ⟨hsp, ⟨hu, hv⟩, -⟩ := C.2.2.1.2.2.2.2.2.2.2.2
  rcases h1 with (⟨h1, h2⟩ | h1) | h1
  · exact C.2.1 w (List.mem_filter.mpr ⟨h1, h2⟩)
  · have h3 := hsp w h1
    simp only [ms_spw, List.mem_cons, List.not_mem_nil, or_false] at h1
    rcases h1 with rfl | rfl | rfl | rfl | rfl <;> exact va_Nw.use rfl h3
  · obtain ⟨q1, q2⟩ := ms_zs_words (args := args) hu hH
    obtain ⟨q3, q4⟩ := ms_zs_words (args := args) hv hH
    simp only [ms_stw, List.mem_cons, List.not_mem_nil, or_false] at h1
    rcases h1 with rfl | rfl | rfl | rfl
    · exact q1
    · exact q2
    · exact q3
    · exact q4
theorem ms_w_thr (htr : ∀ e, l.admits e → e.platform.stackTraces = false) (C : ms_Cx v j p s m args meth c) (hHx : ms_Hx j c) (hd : decode (ms_by j) pc = .ok (i, len)) (ck : ms_ckx j pc i len x = true) (h : ms_thr x.1 S σ = some r) (hL : ms_Lr (ms_vr v) ls L) (hLm : L.length = ms_mx j) (hR : ms_Rl v σ H) (hfr : ms_fr j ≤ R.frames) (hlo : ms_lo j ≤ R.locals)
    (hc : cells + (r.2.1 - σ.1) ≤ R.cells) (hs : slots + (r.2.2.1 - σ.2.1) ≤ R.slots) (hl : ∀ q ∈ locs, σ.2.2.1 = true ∧ ms_vB v ≤ q.base) (h0 : σ.2.2.1 = false → cells = 0 ∧ slots = 0 ∧ H = s.heap) :
    W p l e R s m args below meth c H locs cells slots (ms_End v r below s (cells + (r.2.1 - σ.1)) (slots + (r.2.2.1 - σ.2.1))) (F0 m pc ls (S.map (ms_mv (ms_vr v)))) := by
  have hvk := C.2.2.1.1
  unfold ms_thr at h
  split at h
  · split at h
    · rename_i hw
      cases h
      obtain ⟨rfl, rfl, rfl⟩ := h0 hw
      have hln : locs = [] := List.eq_nil_iff_forall_not_mem.mpr fun q hq => by have := (hl q hq).1; rw [hw] at this; cases this
      subst hln
      cases i with
      | new q =>
        simp only [ms_ckx, Bool.and_eq_true, decide_eq_true_eq] at ck
        obtain ⟨⟨rfl, hk2, hf6, hl81, how, hhs, hd3, hd4, hd7, hic⟩, hcl⟩ := ck
        have hat := ms_own0 C hR.1.2.2 hk2
        have hown : s.vm.findClass ms_cO = some m.cls := by rw [← how]; exact C.1.2.2.2
        have e1 : σ.1 + 1 - σ.1 = 1 := by omega
        have e2 : σ.2.1 + 6 - σ.2.1 = 6 := by omega
        have hc' : 0 + 1 ≤ R.cells := by have h5 : 0 + (σ.1 + 1 - σ.1) ≤ R.cells := hc; omega
        have hs' : 0 + 6 ≤ R.slots := by have h5 : 0 + (σ.2.1 + 6 - σ.2.1) ≤ R.slots := hs; omega
        refine W.newc C.1.1 C.1.2.1 C.1.2.2.2 (C.2.1 _ (ms_has_in hcl)) (hat (.instantiable (ms_xn x.1) 6) (by simp [Bundle.ownAtoms0])) (C.2.1 _ (ms_xini hk2)) rfl hd hc' hs' fun cC kC hfC hkC hkd hn6 => ?_
        refine W.eq (g2 := F0 m (pc + 3) ls [.ref s.heap.size]) rfl ?_
        refine lv_dup C.1.1 C.1.2.1 hd3 rfl ?_
        intro T hT X
        have hexT : c.exceptionTable.toList = [] := by
          have h5 := hHx
          unfold ms_Hx at h5
          rw [hhs] at h5
          exact List.map_eq_nil_iff.mp h5
        have hT0 : T.heap[s.heap.size]? = some (freshCell cC kC) := by rw [hT]; simp
        obtain ⟨U, hst, hrun, hend, hWm, hsame, ce, hce, hOwn⟩ := X.ctorThrow0 C.1.1 (htr e X.admits) hown (cls := ms_xn x.1) (ms_xfit hk2) (by decide +kernel) hat (fun y hy => by cases hy) hfC hkC hT0 (Nat.le_refl _) (g := F0 m (pc + 4) ls [.ref s.heap.size, .ref s.heap.size]) rfl ((hL.1.trans hLm).trans C.1.2.2.1.symm) rfl rfl (rest := []) rfl (by rw [C.1.2.1, ← hic]; exact hd4) (by rw [C.1.2.1]; exact hd7) (fun y hy => by rw [hexT] at hy; cases hy) (by show 2 + 3 < R.frames; omega) (by show 2 * 0 + (1 + 0) + (13 * (2 + 1) + 41) ≤ R.locals; omega) C.2.2.2.2.1
        refine ⟨U, hst, hrun, hWm, ?_, ⟨[], (fun q hq => by cases hq), ?_⟩, ?_⟩
        · have hsz : U.heap.size = s.heap.size + 1 := by
            have h5 : U.heap.size ≤ s.heap.size + (0 + 1) := hsame.2.2.1
            have h6 := (Array.getElem?_eq_some_iff.mp hce).1
            omega
          exact hR.push hvk (Or.inl rfl) hsz (fun q hq => ms_kept hsame hq)
        · show s.sameButNew _ [] (0 + (σ.1 + 1 - σ.1)) (0 + (σ.2.1 + 6 - σ.2.1))
          rw [e1, e2]
          exact hsame
        · have hn : ms_vr v (σ.1 + 1 - 1) = s.heap.size := by rw [Nat.add_sub_cancel]; exact (hR.next hvk).symm
          show Ended U below (.threw (ms_vr v (σ.1 + 1 - 1))) ∧ ∃ cell, U.heap[ms_vr v (σ.1 + 1 - 1)]? = some cell ∧ cell.vm = .none ∧ s.vm.findClass (ms_xn x.1) = some cell.cls
          rw [hn]
          exact ⟨hend, ce, hce, hOwn.vm, hOwn.cls⟩
      | _ => cases ck
    · cases h
  · cases h
end MsThrow
end
section
/-! AN EXCEPTION IS CAUGHT: the search links what it asks for. -/
section MsCatch
variable {e : Env} {s : State} {f : JFrame} {a : Addr}
theorem ms_go_cold {x : ExceptionTableEntry} {t : List ExceptionTableEntry} {c : ClassId} {vm' : Vm} {Q : Handler → Pre} {E : CtlPost} {d : Bool} {acts : List Action} (hx : covers x f.pc = true) (h0 : x.catchType ≠ 0) (hg : (resolveClass f.method.cls x.catchType).Gives e.toSetting s.vm (.ok c) vm') (hr : vm'.classReady f.method.cls x.catchType c) (hsz : vm'.classes.size ≤ s.vm.classes.size) :
    wp (findHandler.go f a (x :: t)) Q E e d acts s ↔ wp (findHandler.go f a (x :: t)) Q E e d acts (s.setVm vm') := by
  obtain ⟨ha, ht⟩ := hg.op (op := VmOp.resolveClass f.method.cls x.catchType) rfl
  obtain ⟨k, hk, hres⟩ := hr
  obtain ⟨ha', ht'⟩ := resolveClass_memo e (show (s.setVm vm').vm.classes[f.method.cls]? = some k from hk) hres
  simp only [covers] at hx
  have e1 : (VmOp.resolveClass f.method.cls x.catchType).answer e (s.setVm vm').vm = .ok c := ha'
  have e2 : (VmOp.resolveClass f.method.cls x.catchType).tables e (s.setVm vm').vm = vm' := ht'
  simp only [findHandler.go, hx, if_true, beq_iff_eq, h0, if_false, W.ite, wp_bind']
  rw [W.vmOp_same _ (by rw [ht]; exact hsz), W.vmOp_same _ (by rw [e2]; exact Nat.le_refl _), ha, ht, e1, e2]
  exact Iff.rfl
theorem ms_step_catch {r : List Frame} {pc : Nat} {vm' : Vm} (hfind : ∀ (Q : Handler → Pre) (E : CtlPost) (d : Bool) (acts : List Action), wp (findHandler f a) Q E e d acts s ↔ Q (.found pc) d acts (s.setVm vm')) :
    (stepThrowing e s a (.java f :: r)).Is ((s.setVm vm').setFrames (.java { f with pc := pc, stack := [.ref a] } :: r)) [] := by
  simp only [stepThrowing, searchFrame, vmDo]
  generalize hr : Sem.go _ e false [] s = res
  obtain ⟨as, rfl, ha⟩ := Sem.eq_ok_of hr (a := Handler.found pc) (s' := s.setVm vm') (acts' := []) (by simp [hfind _ _ _ _])
  exact ⟨rfl, ha⟩
variable {tb : Tables} {target : State} {g : JFrame} {c : Code} {below : List Frame}
theorem ms_caught (h : At s g.method c below) {pc : Nat} {vm' : Vm} (hfind : ∀ (Q : Handler → Pre) (E : CtlPost) (d : Bool) (acts : List Action), wp (findHandler g a) Q E e d acts ((s.setTop g).pushFrame (.throwing a)) ↔ Q (.found pc) d acts (((s.setTop g).pushFrame (.throwing a)).setVm vm'))
    (hrest : Steps tb e below ((s.setVm vm').setTop { g with pc := pc, stack := [.ref a] }) target) :
    Steps tb e below ((s.setTop g).pushFrame (.throwing a)) target := by
  obtain ⟨hgo, hw⟩ := h.throwing a
  refine Steps.head hgo hw ?_
  rw [stepThread_throwing (frames_entered h.top _), (ms_step_catch (s := (s.setTop g).pushFrame (.throwing a)) hfind).1]
  obtain ⟨g₀, hg⟩ := Option.isSome_iff_exists.mp h.top
  obtain ⟨r, hr⟩ := State.topJava?_eq_some.mp hg
  have e1 : (((s.setTop g).pushFrame (.throwing a)).setVm vm').setFrames (.java { g with pc := pc, stack := [.ref a] } :: s.frames.tail) = (s.setVm vm').setTop { g with pc := pc, stack := [.ref a] } := by
    have hr' : (s.setVm vm').frames = .java g₀ :: r := hr
    have e2 : ∀ F, (s.setFrames F).setVm vm' = (s.setVm vm').setFrames F := fun _ => rfl
    rw [State.setTop_of_frames _ hr', State.pushFrame, State.setTop_of_frames _ hr, State.setFrames_setFrames, hr, e2, State.setFrames_setFrames]
    rfl
  rw [e1]
  exact hrest
end MsCatch
section MsCatch2
variable {p : Program} {l : Launch} {e : Env} {R : Room} {s : State} {m : MethodId} {args : Array Value} {below : List Frame} {meth : Method} {c : Code} {T : State} {locs : List Loc} {cells slots : Nat}
variable {v : ms_V} {j pc : Nat}
-- a handler's kind, by its catch type
def ms_hok (j : Nat) : Bool := (ms_hs j).all fun h => decide (h.2.2.2.1 < 2 ∧ h.2.2.2.2 ≠ 0) && (ms_has (ms_hw h.2.2.2.1) (.classLink (ms_ow j) h.2.2.2.2 (ms_xn h.2.2.2.1)))
theorem ms_xas (C : ms_Cx v j p s m args meth c) {k q : Nat} (hk : k < 2) (hq : q < 2) {ck cq : ClassId} (h1 : s.vm.findClass (ms_xn k) = some ck) (h2 : s.vm.findClass (ms_xn q) = some cq) : s.vm.assignable ck cq = decide (k = q) := by
  obtain ⟨hsp, -, c0, c1, g0, g1, g2, g3⟩ := C.2.2.1.2.2.2.2.2.2.2.2
  have w0 : s.vm.assignable c0 c0 = true := by
    obtain ⟨c3, c4, hc3, hc4, h⟩ := Cond.castable_spec (hsp _ (by simp [ms_spw] : Cond.castable "java/lang/IllegalArgumentException" "java/lang/IllegalArgumentException" ∈ ms_spw))
    cases hc3.symm.trans g0
    cases hc4.symm.trans g0
    exact h
  have w1 : s.vm.assignable c1 c1 = true := by
    obtain ⟨c3, c4, hc3, hc4, h⟩ := Cond.castable_spec (hsp _ (by simp [ms_spw] : Cond.castable "java/lang/IllegalStateException" "java/lang/IllegalStateException" ∈ ms_spw))
    cases hc3.symm.trans g1
    cases hc4.symm.trans g1
    exact h
  match k, q, hk, hq with
  | 0, 0, _, _ => cases h1.symm.trans g0; cases h2.symm.trans g0; exact w0
  | 0, 1, _, _ => cases h1.symm.trans g0; cases h2.symm.trans g1; exact g3
  | 1, 0, _, _ => cases h1.symm.trans g1; cases h2.symm.trans g0; exact g2
  | 1, 1, _, _ => cases h1.symm.trans g1; cases h2.symm.trans g1; exact w1
theorem ms_go (C : ms_Cx v j p s m args meth c) (hpl : e.platform.magicAccessors = ({} : Platform).magicAccessors) {f : JFrame} (hfm : f.method = m) (hpc : f.pc = pc) {k h : Nat} (hk : k < 2) {a : Nat} {cell : Cell} (hvm : cell.vm = .none) (hcls : s.vm.findClass (ms_xn k) = some cell.cls) :
    ∀ (hs : List (Nat × Nat × Nat × Nat × Nat)) (t : List ExceptionTableEntry) (T : State), t.map (fun h => (h.startPc, h.endPc, h.handlerPc, h.catchType)) = hs.map (fun h => (h.1, h.2.1, h.2.2.1, h.2.2.2.2)) → (∀ q ∈ hs, (q.2.2.2.1 < 2 ∧ q.2.2.2.2 ≠ 0) ∧ Cond.classLink (ms_ow j) q.2.2.2.2 (ms_xn q.2.2.2.1) ∈ ms_ws) → s.WarmedH T.vm → T.heap[a]? = some cell →
      (hs.find? (fun h => decide (h.1 ≤ pc) && decide (pc < h.2.1) && h.2.2.2.1 == k)).map (fun h => h.2.2.1) = some h →
      ∃ vm', s.WarmedH vm' ∧ ∀ (Q : Handler → Pre) (E : CtlPost) (d : Bool) (acts : List Action), wp (findHandler.go f a t) Q E e d acts T ↔ Q (.found h) d acts (T.setVm vm')
  | [], _, _, _, _, _, _, hf => by cases hf
  | q :: hs, [], _, ht, _, _, _, _ => by cases ht
  | q :: hs, x :: t, T, ht, hok, hW, hcell, hf => by
    simp only [List.map_cons, List.cons.injEq, Prod.mk.injEq] at ht
    obtain ⟨⟨e1, e2, e3, e4⟩, ht⟩ := ht
    obtain ⟨⟨hq2, hq0⟩, hlink⟩ := hok q List.mem_cons_self
    by_cases hcv : covers x f.pc = true
    · have hcv' : (decide (q.1 ≤ pc) && decide (pc < q.2.1)) = true := by rw [← e1, ← e2, ← hpc]; exact hcv
      obtain ⟨cq, hfq, hcl⟩ := Cond.classLink_spec C.1.2.2.2 (C.2.1 _ hlink) e.platform hpl
      obtain ⟨hg1, hw1, hr1⟩ := State.classEntry (e := e) hW hcl
      generalize T.vm.noted m.cls q.2.2.2.2 (.cls cq) = vm1 at hg1 hw1 hr1
      have hal : T.vm.Alike vm1 := hW.alike.symm.trans hw1.alike
      have hct : x.catchType ≠ 0 := by rw [e4]; exact hq0
      have hstep : ∀ (Q : Handler → Pre) (E : CtlPost) (d : Bool) (acts : List Action), wp (findHandler.go f a (x :: t)) Q E e d acts T ↔ if (T.setVm vm1).vm.assignable cell.cls cq = true then Q (.found x.handlerPc) d acts (T.setVm vm1) else wp (findHandler.go f a t) Q E e d acts (T.setVm vm1) := by
        intro Q E d acts
        rw [ms_go_cold hcv hct (c := cq) (vm' := vm1) (by rw [hfm, e4]; exact hg1) (by rw [hfm, e4]; exact hr1) (by rw [hal.2.1]; exact Nat.le_refl _)]
        exact W.findHandler_go_class (s := T.setVm vm1) hcv hct (by rw [hfm, e4]; exact hr1) hcell (fun z hz => by rw [hvm] at hz; cases hz) (Vm.classAt_of_findClass (vm := vm1) (by rw [hw1.alike.findClass]; exact hcls)) (Vm.classAt_of_findClass (vm := vm1) (by rw [hw1.alike.findClass]; exact hfq))
      have has : (T.setVm vm1).vm.assignable cell.cls cq = decide (k = q.2.2.2.1) := by
        show vm1.assignable cell.cls cq = _
        rw [hw1.alike.assignable]
        exact ms_xas C hk hq2 hcls hfq
      rw [List.find?_cons] at hf
      by_cases hkq : k = q.2.2.2.1
      · have hb : (decide (q.1 ≤ pc) && decide (pc < q.2.1) && q.2.2.2.1 == k) = true := by rw [hcv', ← hkq]; simp
        rw [hb] at hf
        have hh : q.2.2.1 = h := Option.some.inj hf
        refine ⟨vm1, hw1, fun Q E d acts => ?_⟩
        rw [hstep, has, if_pos (decide_eq_true hkq), e3, hh]
      · have hb : (decide (q.1 ≤ pc) && decide (pc < q.2.1) && q.2.2.2.1 == k) = false := by
          rw [hcv']
          simp
          exact fun z => hkq z.symm
        rw [hb] at hf
        obtain ⟨vm2, hw2, hgo⟩ := ms_go C hpl hfm hpc hk hvm hcls hs t (T.setVm vm1) ht (fun z hz => hok z (List.mem_cons_of_mem _ hz)) hw1 hcell hf
        refine ⟨vm2, hw2, fun Q E d acts => ?_⟩
        rw [hstep, has, if_neg (by simp [hkq]), hgo]
        exact Iff.rfl
    · have hcv : covers x f.pc = false := by simpa using hcv
      have hcv' : (decide (q.1 ≤ pc) && decide (pc < q.2.1)) = false := by rw [← e1, ← e2, ← hpc]; exact hcv
      have hb : (decide (q.1 ≤ pc) && decide (pc < q.2.1) && q.2.2.2.1 == k) = false := by rw [hcv']; rfl
      rw [List.find?_cons, hb] at hf
      obtain ⟨vm2, hw2, hgo⟩ := ms_go C hpl hfm hpc hk hvm hcls hs t T ht (fun z hz => hok z (List.mem_cons_of_mem _ hz)) hW hcell hf
      refine ⟨vm2, hw2, fun Q E d acts => ?_⟩
      rw [W.findHandler_go_skip hcv, hgo]
theorem ms_catch (C : ms_Cx v j p s m args meth c) (hHx : ms_Hx j c) (hok : ms_hok j = true) (X : Stand p l e R s m args below meth c T locs cells slots) {ls : Array Slot} {st : List Value} {k h : Nat} (hhd : ms_hd j pc k = some h) (hk : k < 2) {a : Nat} {cell : Cell} (hcell : T.heap[a]? = some cell) (hvm : cell.vm = .none) (hcls : s.vm.findClass (ms_xn k) = some cell.cls) :
    ∃ vm', Stand p l e R s m args below meth c (T.setVm vm') locs cells slots ∧ ∀ target, Steps p.tables e below ((T.setVm vm').setTop (F0 m h ls [.ref a])) target → Steps p.tables e below ((T.setTop (F0 m pc ls st)).pushFrame (.throwing a)) target := by
  have hpl : e.platform.magicAccessors = ({} : Platform).magicAccessors := by rw [X.admits.platform]
  have hv0 : ((T.setTop (F0 m pc ls st)).pushFrame (.throwing a)).vm = T.vm := Stand.throwing_vm T _ a
  have hh0 : ((T.setTop (F0 m pc ls st)).pushFrame (.throwing a)).heap = T.heap := Stand.throwing_heap T _ a
  have hall : ∀ q ∈ ms_hs j, (q.2.2.2.1 < 2 ∧ q.2.2.2.2 ≠ 0) ∧ Cond.classLink (ms_ow j) q.2.2.2.2 (ms_xn q.2.2.2.1) ∈ ms_ws := fun q hq => by
    have h1 := List.all_eq_true.mp hok q hq
    simp only [Bool.and_eq_true, decide_eq_true_eq] at h1
    exact ⟨h1.1, ms_has_in h1.2⟩
  obtain ⟨vm', hw, hgo⟩ := ms_go (f := F0 m pc ls st) (pc := pc) C hpl rfl rfl hk hvm hcls (ms_hs j) c.exceptionTable.toList ((T.setTop (F0 m pc ls st)).pushFrame (.throwing a)) hHx hall (by rw [hv0]; exact X.warmed) (by rw [hh0]; exact hcell) hhd
  refine ⟨vm', X.noted hw, fun target ht => ms_caught (g := F0 m pc ls st) X.here (vm' := vm') (fun Q E d acts => ?_) ht⟩
  rw [W.findHandler_eq (meth := meth) (code := c) (by rw [hv0]; exact X.method') X.code, hgo]
end MsCatch2
end
section
/-! SOUNDNESS, BY THE FUEL. -/
theorem ms_hoks : ∀ j, ms_hok j = true := by
  intro j
  rcases Nat.lt_or_ge j 150 with h | h
  · have key : ∀ j, j < 150 → ms_hok j = true := by decide +kernel
    exact key j h
  · have e : ms_hs j = [] := by
      unfold ms_hs
      rw [List.getD_eq_getElem?_getD, List.getElem?_eq_none (by exact h)]
      rfl
    unfold ms_hok
    rw [e]
    rfl
theorem ms_hd_lt {j pc k h : Nat} (hh : ms_hd j pc k = some h) : k < 2 := by
  unfold ms_hd at hh
  rw [Option.map_eq_some_iff] at hh
  obtain ⟨q, hq, -⟩ := hh
  have h1 := List.find?_some hq
  have h2 := List.mem_of_find?_eq_some hq
  have h3 := List.all_eq_true.mp (ms_hoks j) q h2
  simp only [Bool.and_eq_true, decide_eq_true_eq, beq_iff_eq] at h1 h3
  rw [← h1.2]
  exact h3.1.1
theorem ms_ret_mem {j : Nat} {S : List Value} {σ : ms_M} {r : ms_R} (h : ms_ret j S σ = some r) : r.2 = σ := by
  unfold ms_ret at h
  repeat' split at h
  all_goals first
    | (cases h; done)
    | (cases h; rfl)
set_option maxHeartbeats 1000000 in
theorem ms_sound {l : Launch} {v : ms_V} (htr : ∀ e, l.admits e → e.platform.stackTraces = false) (f : Nat) : ∀ {j pc : Nat} {L S : List Value} {σ : ms_M} {r : ms_R}, ms_ev f j pc L S σ = some r → ms_Snd l v j pc L S σ r := by
  induction f with
  | zero => intro j pc L S σ r h; cases h
  | succ f ih =>
    intro j pc L S σ r h
    rw [ms_ev] at h
    split at h
    · cases h
    · rename_i q hq
      have ck := ms_ok_at hq
      simp only [ms_ckA, Bool.and_eq_true, decide_eq_true_eq] at ck
      obtain ⟨hd, ck⟩ := ck
      unfold ms_stp at h
      generalize ms_kd q = kd at h ck
      intro p e R s m args below meth c H locs cells slots ls C hHx hL hLm hR hfr hlo hc hs hl h0
      match kd with
      | 0 =>
        have h : (match ms_st1 q.1 q.2.1 q.2.2 pc L S σ with
          | some y => ms_ev f j y.1 y.2.1 y.2.2.1 y.2.2.2
          | none => none) = some r := h
        have ck : ms_ck j pc q.1 q.2.1 q.2.2 = true := ck
        split at h
        · rename_i y hy
          obtain ⟨g1, g2, g3⟩ := ms_st1_grow hy
          obtain ⟨g4, g5⟩ := ms_ev_grow f h
          refine ms_w1 C hd ck hy hL hLm hR hfr hlo (by omega) (by omega) ?_
          intro H' ls' locs' hL' hR' hloc hsame
          have hw := ms_st1_w hy
          have k1 := ih h p e R s m args below meth c H' locs' (cells + (y.2.2.2.1 - σ.1)) (slots + (y.2.2.2.2.1 - σ.2.1)) ls' C hHx hL' (g3.trans hLm) hR' hfr hlo (by omega) (by omega) (fun z hz => by
            cases hyw : y.2.2.2.2.2.1 with
            | true =>
              refine ⟨rfl, ?_⟩
              rcases hloc z hz with h5 | h5
              · exact (hl z h5).2
              · exact h5
            | false =>
              obtain ⟨-, h6, h7⟩ := hsame hyw
              rw [h6] at hz
              have h8 := (hl z hz).1
              rw [← h7, hyw] at h8
              cases h8) (fun hyw => by
            obtain ⟨h5, h6, h7⟩ := hsame hyw
            obtain ⟨h8, h9, h10⟩ := h0 (by rw [← h7]; exact hyw)
            rw [h7]
            refine ⟨by omega, by omega, h5.trans h10⟩)
          have e1 : cells + (y.2.2.2.1 - σ.1) + (r.2.1 - y.2.2.2.1) = cells + (r.2.1 - σ.1) := by omega
          have e2 : slots + (y.2.2.2.2.1 - σ.2.1) + (r.2.2.1 - y.2.2.2.2.1) = slots + (r.2.2.1 - σ.2.1) := by omega
          rw [e1, e2] at k1
          exact k1
        · cases h
      | 1 =>
        have h : ms_call (ms_ev f) j pc q.2.2.1 L S σ = some r := h
        have ck : ms_ckc j q.1 q.2.1 q.2.2 = true := ck
        unfold ms_call at h
        split at h
        · rename_i hcan
          split at h
          · rename_i w τ hτ
            obtain ⟨g1, g2⟩ := ms_ev_grow f hτ
            obtain ⟨g4, g5⟩ := ms_ev_grow f h
            dsimp only at g1 g2 g4 g5
            refine ms_w_call C hd ck hcan hL hLm hR hfr hlo (rc := (.inl w, τ)) (ih hτ) (by show cells + (τ.1 - σ.1) ≤ _; omega) (by show slots + (τ.2.1 - σ.2.1) ≤ _; omega) (ms_ev_w f hτ) ?_ (fun k hk => by cases hk)
            intro o ho H' locs' hR' hloc hsame
            cases ho
            have k1 := ih h p e R s m args below meth c H' locs' (cells + (τ.1 - σ.1)) (slots + (τ.2.1 - σ.2.1)) ls C hHx hL hLm hR' hfr hlo (by show cells + (τ.1 - σ.1) + (r.2.1 - τ.1) ≤ _; omega) (by show slots + (τ.2.1 - σ.2.1) + (r.2.2.1 - τ.2.1) ≤ _; omega) (fun z hz => by
              show (σ.2.2.1 || τ.2.2.1) = true ∧ _
              rcases hloc z hz with h5 | ⟨h5, h6⟩
              · exact ⟨by rw [(hl z h5).1]; rfl, (hl z h5).2⟩
              · have h5 : τ.2.2.1 = true := h5
                exact ⟨by rw [h5]; exact Bool.or_true _, h6⟩) (fun hw => by
              have hw : (σ.2.2.1 || τ.2.2.1) = false := hw
              have hw : σ.2.2.1 = false ∧ τ.2.2.1 = false := by simpa using hw
              obtain ⟨h5, h6⟩ := hsame hw.2
              obtain ⟨h8, h9, h10⟩ := h0 hw.1
              have h7 : τ = _ := ms_ev_w f hτ hw.2
              rw [h7]
              refine ⟨by dsimp only; omega, by dsimp only; omega, h5.trans h10⟩)
            have e1 : cells + (τ.1 - σ.1) + (r.2.1 - τ.1) = cells + (r.2.1 - σ.1) := by omega
            have e2 : slots + (τ.2.1 - σ.2.1) + (r.2.2.1 - τ.2.1) = slots + (r.2.2.1 - σ.2.1) := by omega
            dsimp only at k1
            rw [e1, e2] at k1
            exact k1
          · rename_i w τ hτ
            obtain ⟨g1, g2⟩ := ms_ev_grow f hτ
            dsimp only at g1 g2
            split at h
            · rename_i hp hhd
              obtain ⟨g4, g5⟩ := ms_ev_grow f h
              dsimp only at g4 g5
              refine ms_w_call C hd ck hcan hL hLm hR hfr hlo (rc := (.inr w, τ)) (ih hτ) (by show cells + (τ.1 - σ.1) ≤ _; omega) (by show slots + (τ.2.1 - σ.2.1) ≤ _; omega) (ms_ev_w f hτ) (fun k hk => by cases hk) ?_
              intro k hk T' locs' hR' hloc X' hx
              cases hk
              obtain ⟨cell, hx1, hx2, hx3⟩ := hx
              obtain ⟨vm', X2, hst⟩ := ms_catch C hHx (ms_hoks j) X' (ls := ls) (st := (S.drop (ms_na q.2.2.1)).map (ms_mv (ms_vr v))) hhd (ms_hd_lt hhd) hx1 hx2 hx3
              have k1 := ih h p e R s m args below meth c T'.heap locs' (cells + (τ.1 - σ.1)) (slots + (τ.2.1 - σ.2.1)) ls C hHx hL hLm hR' hfr hlo (by show cells + (τ.1 - σ.1) + (r.2.1 - τ.1) ≤ _; omega) (by show slots + (τ.2.1 - σ.2.1) + (r.2.2.1 - τ.2.1) ≤ _; omega) (fun z hz => by
                refine ⟨rfl, ?_⟩
                rcases hloc z hz with h5 | ⟨h5, h6⟩
                · exact (hl z h5).2
                · exact h6) (fun hw => by cases hw)
              have e1 : cells + (τ.1 - σ.1) + (r.2.1 - τ.1) = cells + (r.2.1 - σ.1) := by omega
              have e2 : slots + (τ.2.1 - σ.2.1) + (r.2.2.1 - τ.2.1) = slots + (r.2.2.1 - σ.2.1) := by omega
              dsimp only at k1
              rw [e1, e2] at k1
              obtain ⟨t2, a2, b2⟩ := k1 (T'.setVm vm') rfl X2
              exact ⟨t2, hst t2 a2, b2⟩
            · cases h
          · cases h
        · cases h
      | 2 =>
        have h : ms_ret j S σ = some r := h
        have ck : ms_ckr j q.1 q.2.1 = true := ck
        have hr := ms_ret_mem h
        have k1 := ms_w_ret (l := l) (e := e) (R := R) (below := below) (cells := cells) (slots := slots) (ls := ls) C hd ck h hR hl
        have e1 : cells + (r.2.1 - σ.1) = cells := by rw [hr]; omega
        have e2 : slots + (r.2.2.1 - σ.2.1) = slots := by rw [hr]; omega
        rw [e1, e2]
        exact k1
      | n + 3 =>
        have h : ms_thr q.2.2.1 S σ = some r := h
        have ck : ms_ckx j pc q.1 q.2.1 q.2.2 = true := ck
        exact ms_w_thr htr C hHx hd ck h hL hLm hR hfr hlo hc hs hl h0
end
section
/-! REGIONS: the cells after the constructors, by gen2.py. Cell u of region r lies at ms_ad r u. -/
def ms_rbs : List Nat := [0, 1, 2, 3, 4, 5, 6, 7, 8, 9, 10, 11, 12, 13, 14, 15, 16, 17, 18, 129, 130, 131, 132, 140, 141, 149, 150, 158, 159, 167, 168, 169, 170, 171, 172, 173, 174, 175, 176, 177, 241, 242, 243, 244, 245, 246, 247, 248, 249, 250, 251, 252, 253, 254, 255, 256, 257, 258, 259, 260, 261, 262, 263, 264, 265, 266, 267]
def ms_rss : List Nat := [0, 0, 0, 0, 0, 0, 0, 0, 0, 0, 0, 0, 0, 0, 0, 0, 0, 2, 2, 0, 0, 0, 1, 0, 1, 0, 1, 0, 1, 0, 0, 9, 9, 9, 9, 9, 9, 9, 9, 9, 0, 0, 0, 0, 0, 0, 0, 0, 0, 0, 0, 0, 0, 0, 0, 0, 0, 0, 0, 0, 0, 0, 0, 0, 0, 0, 0]
def ms_rcn : List Nat := [1, 1, 1, 1, 1, 1, 1, 1, 1, 1, 1, 1, 1, 1, 1, 1, 1, 56, 56, 1, 1, 1, 8, 1, 8, 1, 8, 1, 8, 1, 1, 8, 8, 8, 8, 8, 8, 8, 8, 8, 1, 1, 1, 1, 1, 1, 1, 1, 1, 1, 1, 1, 1, 1, 1, 1, 1, 1, 1, 1, 1, 1, 1, 1, 1, 1, 1]
def ms_rks : List Nat := [5, 5, 5, 10, 11, 12, 0, 0, 13, 1, 1, 1, 0, 0, 14, 3, 0, 15, 0, 16, 0, 2, 0, 2, 0, 2, 0, 2, 0, 0, 4, 17, 1, 0, 1, 1, 0, 0, 0, 0, 18, 1, 0, 0, 0, 0, 0, 0, 0, 0, 0, 0, 0, 0, 0, 0, 0, 0, 0, 0, 1, 1, 1, 0, 0, 1, 1]
def ms_rns : List Nat := [0, 4, 3, 0, 0, 0, 16, 16, 0, 5, 5, 5, 4, 4, 0, 56, 56, 0, 0, 0, 3, 8, 4, 8, 64, 8, 4, 8, 17, 4, 8, 0, 3, 4, 8, 8, 3, 33, 65, 4, 0, 24, 32, 8, 8, 8, 8, 24, 256, 512, 4, 4, 32, 512, 32, 136, 4480, 4, 16, 16, 10, 10, 20, 5, 4, 10, 1]
def ms_ad (r u : Nat) : Nat := ms_rbs.getD r 0 + ms_rss.getD r 0 * u
def ms_cn (r : Nat) : Nat := ms_rcn.getD r 0
def ms_kr (r : Nat) : Nat := ms_rks.getD r 99
def ms_wl (p : Nat) : Nat := [4, 64, 4, 17, 33, 65, 1].getD (p % 7) 0
def ms_nr (q r u : Nat) : Nat := if r = 0 then q else if r = 18 then ms_wl u else ms_rns.getD r 0
def ms_er (r : Nat) : Nat := if r = 15 then 17 else if r = 21 then 22 else if r = 23 then 24 else if r = 25 then 26 else if r = 27 then 28 else if r = 30 then 31 else 99
def ms_rgs : List Nat := [0, 1, 2, 3, 4, 5, 6, 7, 8, 9, 10, 11, 12, 13, 14, 15, 16, 17, 18, 17, 18, 17, 18, 17, 18, 17, 18, 17, 18, 17, 18, 17, 18, 17, 18, 17, 18, 17, 18, 17, 18, 17, 18, 17, 18, 17, 18, 17, 18, 17, 18, 17, 18, 17, 18, 17, 18, 17, 18, 17, 18, 17, 18, 17, 18, 17, 18, 17, 18, 17, 18, 17, 18, 17, 18, 17, 18, 17, 18, 17, 18, 17, 18, 17, 18, 17, 18, 17, 18, 17, 18, 17, 18, 17, 18, 17, 18, 17, 18, 17, 18, 17, 18, 17, 18, 17, 18, 17, 18, 17, 18, 17, 18, 17, 18, 17, 18, 17, 18, 17, 18, 17, 18, 17, 18, 17, 18, 17, 18, 19, 20, 21, 22, 22, 22, 22, 22, 22, 22, 22, 23, 24, 24, 24, 24, 24, 24, 24, 24, 25, 26, 26, 26, 26, 26, 26, 26, 26, 27, 28, 28, 28, 28, 28, 28, 28, 28, 29, 30, 31, 32, 33, 34, 35, 36, 37, 38, 39, 31, 32, 33, 34, 35, 36, 37, 38, 39, 31, 32, 33, 34, 35, 36, 37, 38, 39, 31, 32, 33, 34, 35, 36, 37, 38, 39, 31, 32, 33, 34, 35, 36, 37, 38, 39, 31, 32, 33, 34, 35, 36, 37, 38, 39, 31, 32, 33, 34, 35, 36, 37, 38, 39, 31, 32, 33, 34, 35, 36, 37, 38, 39, 40, 41, 42, 43, 44, 45, 46, 47, 48, 49, 50, 51, 52, 53, 54, 55, 56, 57, 58, 59, 60, 61, 62, 63, 64, 65, 66]
def ms_ixs : List Nat := [0, 0, 0, 0, 0, 0, 0, 0, 0, 0, 0, 0, 0, 0, 0, 0, 0, 0, 0, 1, 1, 2, 2, 3, 3, 4, 4, 5, 5, 6, 6, 7, 7, 8, 8, 9, 9, 10, 10, 11, 11, 12, 12, 13, 13, 14, 14, 15, 15, 16, 16, 17, 17, 18, 18, 19, 19, 20, 20, 21, 21, 22, 22, 23, 23, 24, 24, 25, 25, 26, 26, 27, 27, 28, 28, 29, 29, 30, 30, 31, 31, 32, 32, 33, 33, 34, 34, 35, 35, 36, 36, 37, 37, 38, 38, 39, 39, 40, 40, 41, 41, 42, 42, 43, 43, 44, 44, 45, 45, 46, 46, 47, 47, 48, 48, 49, 49, 50, 50, 51, 51, 52, 52, 53, 53, 54, 54, 55, 55, 0, 0, 0, 0, 1, 2, 3, 4, 5, 6, 7, 0, 0, 1, 2, 3, 4, 5, 6, 7, 0, 0, 1, 2, 3, 4, 5, 6, 7, 0, 0, 1, 2, 3, 4, 5, 6, 7, 0, 0, 0, 0, 0, 0, 0, 0, 0, 0, 0, 1, 1, 1, 1, 1, 1, 1, 1, 1, 2, 2, 2, 2, 2, 2, 2, 2, 2, 3, 3, 3, 3, 3, 3, 3, 3, 3, 4, 4, 4, 4, 4, 4, 4, 4, 4, 5, 5, 5, 5, 5, 5, 5, 5, 5, 6, 6, 6, 6, 6, 6, 6, 6, 6, 7, 7, 7, 7, 7, 7, 7, 7, 7, 0, 0, 0, 0, 0, 0, 0, 0, 0, 0, 0, 0, 0, 0, 0, 0, 0, 0, 0, 0, 0, 0, 0, 0, 0, 0, 0]
def ms_sv (s u : Nat) : Nat := if s = 0 then (if u % 7 < 4 then u % 7 else u % 7 - 4) else if s = 1 then u / 7 else if s = 2 then (if u % 7 < 4 then 0 else 1) else u
abbrev ms_i : Type := Nat → Nat → Nat → Int32
abbrev ms_j : Type := Nat → Nat → Nat → Int64
def ms_fv (I : ms_i) (J : ms_j) (r u : Nat) (c : Nat × Nat) : Value := match c.1 with
  | 0 => .int (I r u c.2)
  | 1 => .long (J r u c.2)
  | 2 => .ref (ms_ad c.2 u)
  | _ => .int (nI (ms_sv c.2 u))
def ms_fd (r : Nat) : List (Nat × Nat) := match r with
  | 3 => [(2, 4), (2, 14), (2, 19), (2, 30)]
  | 4 => [(2, 5), (2, 8)]
  | 5 => [(2, 6), (2, 7)]
  | 8 => [(2, 9), (2, 10), (2, 11), (2, 12), (2, 13)]
  | 14 => [(2, 15), (2, 16), (0, 2)]
  | 17 => [(3, 0), (3, 1), (3, 2), (2, 18)]
  | 19 => [(0, 0), (0, 1), (0, 2), (0, 3), (0, 4), (2, 20), (2, 21), (2, 23), (2, 25), (2, 27), (2, 29)]
  | 31 => [(3, 3), (2, 32), (2, 33), (2, 34), (2, 35), (2, 36), (2, 37), (2, 38), (2, 39), (0, 9), (0, 10), (0, 11), (0, 12)]
  | 40 => [(0, 0), (0, 1), (0, 2), (0, 3), (0, 4), (2, 41), (2, 42), (2, 43), (2, 44), (2, 45), (2, 46), (2, 47), (2, 48), (2, 49), (2, 50), (2, 51), (2, 52), (2, 53), (2, 54), (2, 55), (0, 20), (2, 56), (2, 57), (0, 23), (2, 58), (2, 59), (2, 60), (2, 61), (2, 62), (2, 63), (2, 64), (2, 65), (1, 32), (0, 33)]
  | _ => []
def ms_cell (q : Nat) (I : ms_i) (J : ms_j) (r u : Nat) : ms_E := match ms_kr r with
  | 0 => .inl (0, ms_nr q r u, .inl (I r u))
  | 1 => .inl (1, ms_nr q r u, .inr (.inl (J r u)))
  | 2 => .inl (2, ms_nr q r u, .inr (.inr (.inr (.inr (fun i => some (ms_ad (ms_er r) i))))))
  | 3 => .inl (3, ms_nr q r u, .inr (.inr (.inr (.inr (fun i => some (ms_ad (ms_er r) i))))))
  | 4 => .inl (4, ms_nr q r u, .inr (.inr (.inr (.inr (fun i => some (ms_ad (ms_er r) i))))))
  | 5 => .inl (5, ms_nr q r u, .inl (I r u))
  | 99 => .inr (99, [])
  | k => .inr (k - 10, (ms_fd r).map (ms_fv I J r u))
def ms_mem (q : Nat) (I : ms_i) (J : ms_j) (a : Nat) : ms_E := ms_cell q I J (ms_rgs.getD a 99) (ms_ixs.getD a 0)
/-- the state between calls: length of the script and number of exceptions so far; written?; the ints; the longs -/
def ms_Z (q : Nat × Nat) (w : Bool) (I : ms_i) (J : ms_j) : ms_M := (268 + q.2, 10019 + 6 * q.2, w, ms_mem q.1 I J)
def ms_u {α : Type} (I : Nat → Nat → α) (r u : Nat) (f : α) : Nat → Nat → α := fun r' u' => if r' = r ∧ u' = u then f else I r' u'
theorem ms_ad_ok : ∀ r, r < 67 → ∀ u, u < ms_cn r → ms_rgs.getD (ms_ad r u) 99 = r ∧ ms_ixs.getD (ms_ad r u) 0 = u := by decide +kernel
theorem ms_ad_back : ∀ k, k < 268 → ms_ad (ms_rgs.getD k 99) (ms_ixs.getD k 0) = k := by decide +kernel
theorem ms_rg_lt : ∀ k, k < 268 → ms_rgs.getD k 99 < 67 ∧ ms_ixs.getD k 0 < ms_cn (ms_rgs.getD k 99) := by decide +kernel
theorem ms_cn_lt {r u : Nat} (h : u < ms_cn r) : r < 67 := by
  rcases Nat.lt_or_ge r 67 with h1 | h1
  · exact h1
  · exfalso
    rw [ms_cn, List.getD_eq_getElem?_getD, List.getElem?_eq_none (by exact h1)] at h
    exact absurd h (Nat.not_lt_zero _)
theorem ms_rg_hi {k : Nat} (h : 268 ≤ k) : ms_rgs.getD k 99 = 99 := by
  have hl : ms_rgs.length = 268 := by decide +kernel
  rw [List.getD_eq_getElem?_getD, List.getElem?_eq_none (by rw [hl]; exact h)]
  rfl
theorem kr_0 : ms_kr 0 = 5 := rfl
theorem cn_0 : ms_cn 0 = 1 := rfl
theorem kr_1 : ms_kr 1 = 5 := rfl
theorem cn_1 : ms_cn 1 = 1 := rfl
theorem kr_2 : ms_kr 2 = 5 := rfl
theorem cn_2 : ms_cn 2 = 1 := rfl
theorem kr_3 : ms_kr 3 = 10 := rfl
theorem cn_3 : ms_cn 3 = 1 := rfl
theorem kr_4 : ms_kr 4 = 11 := rfl
theorem cn_4 : ms_cn 4 = 1 := rfl
theorem kr_5 : ms_kr 5 = 12 := rfl
theorem cn_5 : ms_cn 5 = 1 := rfl
theorem kr_6 : ms_kr 6 = 0 := rfl
theorem cn_6 : ms_cn 6 = 1 := rfl
theorem kr_7 : ms_kr 7 = 0 := rfl
theorem cn_7 : ms_cn 7 = 1 := rfl
theorem kr_8 : ms_kr 8 = 13 := rfl
theorem cn_8 : ms_cn 8 = 1 := rfl
theorem kr_9 : ms_kr 9 = 1 := rfl
theorem cn_9 : ms_cn 9 = 1 := rfl
theorem kr_10 : ms_kr 10 = 1 := rfl
theorem cn_10 : ms_cn 10 = 1 := rfl
theorem kr_11 : ms_kr 11 = 1 := rfl
theorem cn_11 : ms_cn 11 = 1 := rfl
theorem kr_12 : ms_kr 12 = 0 := rfl
theorem cn_12 : ms_cn 12 = 1 := rfl
theorem kr_13 : ms_kr 13 = 0 := rfl
theorem cn_13 : ms_cn 13 = 1 := rfl
theorem kr_14 : ms_kr 14 = 14 := rfl
theorem cn_14 : ms_cn 14 = 1 := rfl
theorem kr_15 : ms_kr 15 = 3 := rfl
theorem cn_15 : ms_cn 15 = 1 := rfl
theorem kr_16 : ms_kr 16 = 0 := rfl
theorem cn_16 : ms_cn 16 = 1 := rfl
theorem kr_17 : ms_kr 17 = 15 := rfl
theorem cn_17 : ms_cn 17 = 56 := rfl
theorem kr_18 : ms_kr 18 = 0 := rfl
theorem cn_18 : ms_cn 18 = 56 := rfl
theorem kr_19 : ms_kr 19 = 16 := rfl
theorem cn_19 : ms_cn 19 = 1 := rfl
theorem kr_20 : ms_kr 20 = 0 := rfl
theorem cn_20 : ms_cn 20 = 1 := rfl
theorem kr_21 : ms_kr 21 = 2 := rfl
theorem cn_21 : ms_cn 21 = 1 := rfl
theorem kr_22 : ms_kr 22 = 0 := rfl
theorem cn_22 : ms_cn 22 = 8 := rfl
theorem kr_23 : ms_kr 23 = 2 := rfl
theorem cn_23 : ms_cn 23 = 1 := rfl
theorem kr_24 : ms_kr 24 = 0 := rfl
theorem cn_24 : ms_cn 24 = 8 := rfl
theorem kr_25 : ms_kr 25 = 2 := rfl
theorem cn_25 : ms_cn 25 = 1 := rfl
theorem kr_26 : ms_kr 26 = 0 := rfl
theorem cn_26 : ms_cn 26 = 8 := rfl
theorem kr_27 : ms_kr 27 = 2 := rfl
theorem cn_27 : ms_cn 27 = 1 := rfl
theorem kr_28 : ms_kr 28 = 0 := rfl
theorem cn_28 : ms_cn 28 = 8 := rfl
theorem kr_29 : ms_kr 29 = 0 := rfl
theorem cn_29 : ms_cn 29 = 1 := rfl
theorem kr_30 : ms_kr 30 = 4 := rfl
theorem cn_30 : ms_cn 30 = 1 := rfl
theorem kr_31 : ms_kr 31 = 17 := rfl
theorem cn_31 : ms_cn 31 = 8 := rfl
theorem kr_32 : ms_kr 32 = 1 := rfl
theorem cn_32 : ms_cn 32 = 8 := rfl
theorem kr_33 : ms_kr 33 = 0 := rfl
theorem cn_33 : ms_cn 33 = 8 := rfl
theorem kr_34 : ms_kr 34 = 1 := rfl
theorem cn_34 : ms_cn 34 = 8 := rfl
theorem kr_35 : ms_kr 35 = 1 := rfl
theorem cn_35 : ms_cn 35 = 8 := rfl
theorem kr_36 : ms_kr 36 = 0 := rfl
theorem cn_36 : ms_cn 36 = 8 := rfl
theorem kr_37 : ms_kr 37 = 0 := rfl
theorem cn_37 : ms_cn 37 = 8 := rfl
theorem kr_38 : ms_kr 38 = 0 := rfl
theorem cn_38 : ms_cn 38 = 8 := rfl
theorem kr_39 : ms_kr 39 = 0 := rfl
theorem cn_39 : ms_cn 39 = 8 := rfl
theorem kr_40 : ms_kr 40 = 18 := rfl
theorem cn_40 : ms_cn 40 = 1 := rfl
theorem kr_41 : ms_kr 41 = 1 := rfl
theorem cn_41 : ms_cn 41 = 1 := rfl
theorem kr_42 : ms_kr 42 = 0 := rfl
theorem cn_42 : ms_cn 42 = 1 := rfl
theorem kr_43 : ms_kr 43 = 0 := rfl
theorem cn_43 : ms_cn 43 = 1 := rfl
theorem kr_44 : ms_kr 44 = 0 := rfl
theorem cn_44 : ms_cn 44 = 1 := rfl
theorem kr_45 : ms_kr 45 = 0 := rfl
theorem cn_45 : ms_cn 45 = 1 := rfl
theorem kr_46 : ms_kr 46 = 0 := rfl
theorem cn_46 : ms_cn 46 = 1 := rfl
theorem kr_47 : ms_kr 47 = 0 := rfl
theorem cn_47 : ms_cn 47 = 1 := rfl
theorem kr_48 : ms_kr 48 = 0 := rfl
theorem cn_48 : ms_cn 48 = 1 := rfl
theorem kr_49 : ms_kr 49 = 0 := rfl
theorem cn_49 : ms_cn 49 = 1 := rfl
theorem kr_50 : ms_kr 50 = 0 := rfl
theorem cn_50 : ms_cn 50 = 1 := rfl
theorem kr_51 : ms_kr 51 = 0 := rfl
theorem cn_51 : ms_cn 51 = 1 := rfl
theorem kr_52 : ms_kr 52 = 0 := rfl
theorem cn_52 : ms_cn 52 = 1 := rfl
theorem kr_53 : ms_kr 53 = 0 := rfl
theorem cn_53 : ms_cn 53 = 1 := rfl
theorem kr_54 : ms_kr 54 = 0 := rfl
theorem cn_54 : ms_cn 54 = 1 := rfl
theorem kr_55 : ms_kr 55 = 0 := rfl
theorem cn_55 : ms_cn 55 = 1 := rfl
theorem kr_56 : ms_kr 56 = 0 := rfl
theorem cn_56 : ms_cn 56 = 1 := rfl
theorem kr_57 : ms_kr 57 = 0 := rfl
theorem cn_57 : ms_cn 57 = 1 := rfl
theorem kr_58 : ms_kr 58 = 0 := rfl
theorem cn_58 : ms_cn 58 = 1 := rfl
theorem kr_59 : ms_kr 59 = 0 := rfl
theorem cn_59 : ms_cn 59 = 1 := rfl
theorem kr_60 : ms_kr 60 = 1 := rfl
theorem cn_60 : ms_cn 60 = 1 := rfl
theorem kr_61 : ms_kr 61 = 1 := rfl
theorem cn_61 : ms_cn 61 = 1 := rfl
theorem kr_62 : ms_kr 62 = 1 := rfl
theorem cn_62 : ms_cn 62 = 1 := rfl
theorem kr_63 : ms_kr 63 = 0 := rfl
theorem cn_63 : ms_cn 63 = 1 := rfl
theorem kr_64 : ms_kr 64 = 0 := rfl
theorem cn_64 : ms_cn 64 = 1 := rfl
theorem kr_65 : ms_kr 65 = 1 := rfl
theorem cn_65 : ms_cn 65 = 1 := rfl
theorem kr_66 : ms_kr 66 = 1 := rfl
theorem cn_66 : ms_cn 66 = 1 := rfl
theorem nr_1 (q u : Nat) : ms_nr q 1 u = 4 := rfl
theorem nr_2 (q u : Nat) : ms_nr q 2 u = 3 := rfl
theorem nr_6 (q u : Nat) : ms_nr q 6 u = 16 := rfl
theorem nr_7 (q u : Nat) : ms_nr q 7 u = 16 := rfl
theorem nr_9 (q u : Nat) : ms_nr q 9 u = 5 := rfl
theorem nr_10 (q u : Nat) : ms_nr q 10 u = 5 := rfl
theorem nr_11 (q u : Nat) : ms_nr q 11 u = 5 := rfl
theorem nr_12 (q u : Nat) : ms_nr q 12 u = 4 := rfl
theorem nr_13 (q u : Nat) : ms_nr q 13 u = 4 := rfl
theorem nr_15 (q u : Nat) : ms_nr q 15 u = 56 := rfl
theorem nr_16 (q u : Nat) : ms_nr q 16 u = 56 := rfl
theorem nr_20 (q u : Nat) : ms_nr q 20 u = 3 := rfl
theorem nr_21 (q u : Nat) : ms_nr q 21 u = 8 := rfl
theorem nr_22 (q u : Nat) : ms_nr q 22 u = 4 := rfl
theorem nr_23 (q u : Nat) : ms_nr q 23 u = 8 := rfl
theorem nr_24 (q u : Nat) : ms_nr q 24 u = 64 := rfl
theorem nr_25 (q u : Nat) : ms_nr q 25 u = 8 := rfl
theorem nr_26 (q u : Nat) : ms_nr q 26 u = 4 := rfl
theorem nr_27 (q u : Nat) : ms_nr q 27 u = 8 := rfl
theorem nr_28 (q u : Nat) : ms_nr q 28 u = 17 := rfl
theorem nr_29 (q u : Nat) : ms_nr q 29 u = 4 := rfl
theorem nr_30 (q u : Nat) : ms_nr q 30 u = 8 := rfl
theorem nr_32 (q u : Nat) : ms_nr q 32 u = 3 := rfl
theorem nr_33 (q u : Nat) : ms_nr q 33 u = 4 := rfl
theorem nr_34 (q u : Nat) : ms_nr q 34 u = 8 := rfl
theorem nr_35 (q u : Nat) : ms_nr q 35 u = 8 := rfl
theorem nr_36 (q u : Nat) : ms_nr q 36 u = 3 := rfl
theorem nr_37 (q u : Nat) : ms_nr q 37 u = 33 := rfl
theorem nr_38 (q u : Nat) : ms_nr q 38 u = 65 := rfl
theorem nr_39 (q u : Nat) : ms_nr q 39 u = 4 := rfl
theorem nr_41 (q u : Nat) : ms_nr q 41 u = 24 := rfl
theorem nr_42 (q u : Nat) : ms_nr q 42 u = 32 := rfl
theorem nr_43 (q u : Nat) : ms_nr q 43 u = 8 := rfl
theorem nr_44 (q u : Nat) : ms_nr q 44 u = 8 := rfl
theorem nr_45 (q u : Nat) : ms_nr q 45 u = 8 := rfl
theorem nr_46 (q u : Nat) : ms_nr q 46 u = 8 := rfl
theorem nr_47 (q u : Nat) : ms_nr q 47 u = 24 := rfl
theorem nr_48 (q u : Nat) : ms_nr q 48 u = 256 := rfl
theorem nr_49 (q u : Nat) : ms_nr q 49 u = 512 := rfl
theorem nr_50 (q u : Nat) : ms_nr q 50 u = 4 := rfl
theorem nr_51 (q u : Nat) : ms_nr q 51 u = 4 := rfl
theorem nr_52 (q u : Nat) : ms_nr q 52 u = 32 := rfl
theorem nr_53 (q u : Nat) : ms_nr q 53 u = 512 := rfl
theorem nr_54 (q u : Nat) : ms_nr q 54 u = 32 := rfl
theorem nr_55 (q u : Nat) : ms_nr q 55 u = 136 := rfl
theorem nr_56 (q u : Nat) : ms_nr q 56 u = 4480 := rfl
theorem nr_57 (q u : Nat) : ms_nr q 57 u = 4 := rfl
theorem nr_58 (q u : Nat) : ms_nr q 58 u = 16 := rfl
theorem nr_59 (q u : Nat) : ms_nr q 59 u = 16 := rfl
theorem nr_60 (q u : Nat) : ms_nr q 60 u = 10 := rfl
theorem nr_61 (q u : Nat) : ms_nr q 61 u = 10 := rfl
theorem nr_62 (q u : Nat) : ms_nr q 62 u = 20 := rfl
theorem nr_63 (q u : Nat) : ms_nr q 63 u = 5 := rfl
theorem nr_64 (q u : Nat) : ms_nr q 64 u = 4 := rfl
theorem nr_65 (q u : Nat) : ms_nr q 65 u = 10 := rfl
theorem nr_66 (q u : Nat) : ms_nr q 66 u = 1 := rfl
theorem nr_0 (q u : Nat) : ms_nr q 0 u = q := rfl
theorem nr_18 (q u : Nat) : ms_nr q 18 u = ms_wl u := rfl
theorem er_15 : ms_er 15 = 17 := rfl
theorem er_21 : ms_er 21 = 22 := rfl
theorem er_23 : ms_er 23 = 24 := rfl
theorem er_25 : ms_er 25 = 26 := rfl
theorem er_27 : ms_er 27 = 28 := rfl
theorem er_30 : ms_er 30 = 31 := rfl
theorem ms_u_s {α : Type} (I : Nat → Nat → α) (r u : Nat) (f : α) : ms_u I r u f r u = f := if_pos ⟨rfl, rfl⟩
theorem ms_u_r {α : Type} (I : Nat → Nat → α) (r u : Nat) (f : α) {r' u' : Nat} (h : r' ≠ r) : ms_u I r u f r' u' = I r' u' := if_neg fun q => h q.1
theorem ms_u_i {α : Type} (I : Nat → Nat → α) (r u : Nat) (f : α) {u' : Nat} (h : u' ≠ u) : ms_u I r u f r u' = I r u' := if_neg fun q => h q.2
theorem ms_u_u {α : Type} (I : Nat → Nat → α) (r u : Nat) (f g : α) : ms_u (ms_u I r u f) r u g = ms_u I r u g := by
  funext r' u'
  unfold ms_u
  by_cases h : r' = r ∧ u' = u
  · rw [if_pos h, if_pos h]
  · rw [if_neg h, if_neg h, if_neg h]
theorem ms_u_id {α : Type} (I : Nat → Nat → α) (r u : Nat) : ms_u I r u (I r u) = I := by
  funext r' u'
  unfold ms_u
  by_cases h : r' = r ∧ u' = u
  · rw [if_pos h, h.1, h.2]
  · rw [if_neg h]
theorem ms_mem_at {r u : Nat} (h : u < ms_cn r) (q : Nat) (I : ms_i) (J : ms_j) : ms_mem q I J (ms_ad r u) = ms_cell q I J r u := by
  obtain ⟨h1, h2⟩ := ms_ad_ok r (ms_cn_lt h) u h
  rw [ms_mem, h1, h2]
theorem ms_cell_I {q : Nat} {I I' : ms_i} {J J' : ms_j} {r u : Nat} (h : I' r u = I r u) (h2 : J' r u = J r u) : ms_cell q I' J' r u = ms_cell q I J r u := by
  unfold ms_cell
  have e : ms_fv I' J' r u = ms_fv I J r u := by
    funext c
    unfold ms_fv
    rw [h, h2]
  rw [h, h2, e]
theorem ms_up_I {r u : Nat} (hu : u < ms_cn r) (q : Nat) (I : ms_i) (J : ms_j) (f : Nat → Int32) {e : ms_E} (he : ms_cell q (ms_u I r u f) J r u = e) : ms_up (ms_mem q I J) (ms_ad r u) e = ms_mem q (ms_u I r u f) J := by
  funext k
  unfold ms_up
  by_cases hk : k = ms_ad r u
  · rw [if_pos hk, hk, ms_mem_at hu, he]
  · rw [if_neg hk]
    show ms_cell _ _ _ _ _ = ms_cell _ _ _ _ _
    refine (ms_cell_I ?_ rfl).symm
    refine if_neg fun h => hk ?_
    rcases Nat.lt_or_ge k 268 with h1 | h1
    · rw [← ms_ad_back k h1, h.1, h.2]
    · rw [ms_rg_hi h1] at h
      have := ms_cn_lt hu
      omega
theorem ms_up_J {r u : Nat} (hu : u < ms_cn r) (q : Nat) (I : ms_i) (J : ms_j) (f : Nat → Int64) {e : ms_E} (he : ms_cell q I (ms_u J r u f) r u = e) : ms_up (ms_mem q I J) (ms_ad r u) e = ms_mem q I (ms_u J r u f) := by
  funext k
  unfold ms_up
  by_cases hk : k = ms_ad r u
  · rw [if_pos hk, hk, ms_mem_at hu, he]
  · rw [if_neg hk]
    show ms_cell _ _ _ _ _ = ms_cell _ _ _ _ _
    refine (ms_cell_I rfl ?_).symm
    refine if_neg fun h => hk ?_
    rcases Nat.lt_or_ge k 268 with h1 | h1
    · rw [← ms_ad_back k h1, h.1, h.2]
    · rw [ms_rg_hi h1] at h
      have := ms_cn_lt hu
      omega
theorem ms_up_hi {k : Nat} (hk : 268 ≤ k) (q : Nat) (I : ms_i) (J : ms_j) : ms_up (ms_mem q I J) k (.inr (99, [])) = ms_mem q I J := by
  funext i
  unfold ms_up
  by_cases h : i = k
  · rw [if_pos h, h, ms_mem, ms_rg_hi hk]
    rfl
  · rw [if_neg h]
end
section
/-! THE INSTRUCTIONS OVER THE STATE BETWEEN CALLS. -/
-- a run as it stands, where nothing more is said
noncomputable def ms_raw (j pc : Nat) (L S : List Value) (σ : ms_M) : Option ms_R := ms_G j pc L S σ
def mo_0 (q r u i : Nat) : Bool := decide (ms_kr r = 0) && decide (u < ms_cn r) && decide (i < ms_nr q r u) && decide (i < 5000)
def mo_1 (q r u i : Nat) : Bool := decide (ms_kr r = 1) && decide (u < ms_cn r) && decide (i < ms_nr q r u) && decide (i < 5000)
def mo_2 (q r u i : Nat) : Bool := decide (ms_kr r = 2 ∨ ms_kr r = 3 ∨ ms_kr r = 4) && decide (u < ms_cn r) && decide (i < ms_nr q r u) && decide (i < 5000)
def mo_3 (r u : Nat) : Bool := decide (ms_kr r < 6) && decide (u < ms_cn r)
theorem mz_go {j pc : Nat} {q : ms_I} (h : ms_at j pc = some q) (hk : ms_kd q = 0) {L S : List Value} {σ : ms_M} {y : ms_N} (hy : ms_st1 q.1 q.2.1 q.2.2 pc L S σ = some y) : ms_G j pc L S σ = ms_G j y.1 y.2.1 y.2.2.1 y.2.2.2 := by
  rw [ms_G_at h]
  unfold ms_stp
  rw [hk]
  show (match ms_st1 q.1 q.2.1 q.2.2 pc L S σ with
    | some y => ms_G j y.1 y.2.1 y.2.2.1 y.2.2.2
    | none => none) = _
  rw [hy]
theorem mz_cond {α : Type} {b : Bool} {x y : α} (h : b = true → x = y) : x = cond b y x := by
  cases b
  · rfl
  · exact h rfl
theorem mz_in {i n : Nat} (h : i < n) (h2 : i < 5000) : ms_in (nI i) n = true := by
  unfold ms_in
  rw [nI_toInt (by omega)]
  exact decide_eq_true (by omega)
theorem mz_cl {i : Nat} (h : i < 5000) : (nI i).toNatClampNeg = i := nI_clamp (by omega)
theorem mz_mem {q : Nat × Nat} {w : Bool} {I : ms_i} {J : ms_j} {r u : Nat} (h : u < ms_cn r) : (ms_Z q w I J).2.2.2 (ms_ad r u) = ms_cell q.1 I J r u := ms_mem_at h _ _ _
theorem mz_c0 {q : Nat} {I : ms_i} {J : ms_j} {r u : Nat} (h : ms_kr r = 0) : ms_cell q I J r u = .inl (0, ms_nr q r u, .inl (I r u)) := by unfold ms_cell; rw [h]; rfl
theorem mz_c1 {q : Nat} {I : ms_i} {J : ms_j} {r u : Nat} (h : ms_kr r = 1) : ms_cell q I J r u = .inl (1, ms_nr q r u, .inr (.inl (J r u))) := by unfold ms_cell; rw [h]; rfl
theorem mz_c5 {q : Nat} {I : ms_i} {J : ms_j} {r u : Nat} (h : ms_kr r = 5) : ms_cell q I J r u = .inl (5, ms_nr q r u, .inl (I r u)) := by unfold ms_cell; rw [h]; rfl
theorem mz_c2 {q : Nat} {I : ms_i} {J : ms_j} {r u : Nat} (h : ms_kr r = 2 ∨ ms_kr r = 3 ∨ ms_kr r = 4) : ∃ t, 2 ≤ t ∧ ms_cell q I J r u = .inl (t, ms_nr q r u, .inr (.inr (.inr (.inr (fun i => some (ms_ad (ms_er r) i)))))) := by
  unfold ms_cell
  rcases h with h | h | h
  · rw [h]; exact ⟨2, by decide, rfl⟩
  · rw [h]; exact ⟨3, by decide, rfl⟩
  · rw [h]; exact ⟨4, by decide, rfl⟩
section MsZ
variable {j pc : Nat} {x : ms_X} {L S : List Value} {q : Nat × Nat} {w : Bool} {I : ms_i} {J : ms_j} {r u i : Nat}
theorem mz_iald (h : ms_at j pc = some (.iaload, 1, x)) : ms_G j pc L (.int (nI i) :: .ref (ms_ad r u) :: S) (ms_Z q w I J) = cond (mo_0 q.1 r u i) (ms_G j (pc + 1) L (.int (I r u i) :: S) (ms_Z q w I J)) (ms_raw j pc L (.int (nI i) :: .ref (ms_ad r u) :: S) (ms_Z q w I J)) := by
  refine mz_cond fun hb => ?_
  simp only [mo_0, Bool.and_eq_true, decide_eq_true_eq] at hb
  obtain ⟨⟨⟨h1, h2⟩, h3⟩, h4⟩ := hb
  refine mz_go (y := (pc + 1, L, .int (I r u i) :: S, ms_Z q w I J)) h rfl ?_
  simp only [ms_st1, mz_mem h2, mz_c0 h1, mz_in h3 h4, mz_cl h4]
  rfl
theorem mz_iald5 (h : ms_at j pc = some (.iaload, 1, x)) (hi : i < q.1) (h4 : i < 5000) : ms_G j pc L (.int (nI i) :: .ref (ms_ad 0 0) :: S) (ms_Z q w I J) = ms_G j (pc + 1) L (.int (I 0 0 i) :: S) (ms_Z q w I J) := by
  refine mz_go (y := (pc + 1, L, .int (I 0 0 i) :: S, ms_Z q w I J)) h rfl ?_
  have h2 : 0 < ms_cn 0 := by decide
  have h1 : ms_kr 0 = 5 := rfl
  have h3 : i < ms_nr q.1 0 0 := hi
  simp only [ms_st1, mz_mem h2, mz_c5 h1, mz_in h3 h4, mz_cl h4]
  rfl
theorem mz_iast (h : ms_at j pc = some (.iastore, 1, x)) (v : Int32) : ms_G j pc L (.int v :: .int (nI i) :: .ref (ms_ad r u) :: S) (ms_Z q w I J) = cond (mo_0 q.1 r u i) (ms_G j (pc + 1) L S (ms_Z q true (ms_u I r u (upd (I r u) i v)) J)) (ms_raw j pc L (.int v :: .int (nI i) :: .ref (ms_ad r u) :: S) (ms_Z q w I J)) := by
  refine mz_cond fun hb => ?_
  simp only [mo_0, Bool.and_eq_true, decide_eq_true_eq] at hb
  obtain ⟨⟨⟨h1, h2⟩, h3⟩, h4⟩ := hb
  refine mz_go (y := (pc + 1, L, S, ms_Z q true (ms_u I r u (upd (I r u) i v)) J)) h rfl ?_
  simp only [ms_st1, mz_mem h2, mz_c0 h1, mz_in h3 h4, mz_cl h4, if_true]
  unfold ms_wr ms_Z
  dsimp only
  rw [ms_up_I h2 q.1 I J (upd (I r u) i v)]
  rw [mz_c0 h1, ms_u_s]
theorem mz_lald (h : ms_at j pc = some (.laload, 1, x)) : ms_G j pc L (.int (nI i) :: .ref (ms_ad r u) :: S) (ms_Z q w I J) = cond (mo_1 q.1 r u i) (ms_G j (pc + 1) L (.long (J r u i) :: S) (ms_Z q w I J)) (ms_raw j pc L (.int (nI i) :: .ref (ms_ad r u) :: S) (ms_Z q w I J)) := by
  refine mz_cond fun hb => ?_
  simp only [mo_1, Bool.and_eq_true, decide_eq_true_eq] at hb
  obtain ⟨⟨⟨h1, h2⟩, h3⟩, h4⟩ := hb
  refine mz_go (y := (pc + 1, L, .long (J r u i) :: S, ms_Z q w I J)) h rfl ?_
  simp only [ms_st1, mz_mem h2, mz_c1 h1, mz_in h3 h4, mz_cl h4]
  rfl
theorem mz_last (h : ms_at j pc = some (.lastore, 1, x)) (v : Int64) : ms_G j pc L (.long v :: .int (nI i) :: .ref (ms_ad r u) :: S) (ms_Z q w I J) = cond (mo_1 q.1 r u i) (ms_G j (pc + 1) L S (ms_Z q true I (ms_u J r u (vp_updL (J r u) i v)))) (ms_raw j pc L (.long v :: .int (nI i) :: .ref (ms_ad r u) :: S) (ms_Z q w I J)) := by
  refine mz_cond fun hb => ?_
  simp only [mo_1, Bool.and_eq_true, decide_eq_true_eq] at hb
  obtain ⟨⟨⟨h1, h2⟩, h3⟩, h4⟩ := hb
  refine mz_go (y := (pc + 1, L, S, ms_Z q true I (ms_u J r u (vp_updL (J r u) i v)))) h rfl ?_
  simp only [ms_st1, mz_mem h2, mz_c1 h1, mz_in h3 h4, mz_cl h4, if_true]
  unfold ms_wr ms_Z
  dsimp only
  rw [ms_up_J h2 q.1 I J (vp_updL (J r u) i v)]
  rw [mz_c1 h1, ms_u_s]
theorem mz_aald (h : ms_at j pc = some (.aaload, 1, x)) : ms_G j pc L (.int (nI i) :: .ref (ms_ad r u) :: S) (ms_Z q w I J) = cond (mo_2 q.1 r u i) (ms_G j (pc + 1) L (.ref (ms_ad (ms_er r) i) :: S) (ms_Z q w I J)) (ms_raw j pc L (.int (nI i) :: .ref (ms_ad r u) :: S) (ms_Z q w I J)) := by
  refine mz_cond fun hb => ?_
  simp only [mo_2, Bool.and_eq_true, decide_eq_true_eq] at hb
  obtain ⟨⟨⟨h1, h2⟩, h3⟩, h4⟩ := hb
  refine mz_go (y := (pc + 1, L, .ref (ms_ad (ms_er r) i) :: S, ms_Z q w I J)) h rfl ?_
  obtain ⟨t, ht, hc⟩ := mz_c2 (q := q.1) (I := I) (J := J) (u := u) h1
  simp only [ms_st1, mz_mem h2, hc, mz_in h3 h4, mz_cl h4, ht]
  rfl
theorem mz_alen (h : ms_at j pc = some (.arraylength, 1, x)) : ms_G j pc L (.ref (ms_ad r u) :: S) (ms_Z q w I J) = cond (mo_3 r u) (ms_G j (pc + 1) L (.int (nI (ms_nr q.1 r u)) :: S) (ms_Z q w I J)) (ms_raw j pc L (.ref (ms_ad r u) :: S) (ms_Z q w I J)) := by
  refine mz_cond fun hb => ?_
  simp only [mo_3, Bool.and_eq_true, decide_eq_true_eq] at hb
  obtain ⟨h1, h2⟩ := hb
  refine mz_go (y := (pc + 1, L, .int (nI (ms_nr q.1 r u)) :: S, ms_Z q w I J)) h rfl ?_
  have h6 : ms_kr r = 0 ∨ ms_kr r = 1 ∨ (ms_kr r = 2 ∨ ms_kr r = 3 ∨ ms_kr r = 4) ∨ ms_kr r = 5 := by omega
  rcases h6 with h6 | h6 | h6 | h6
  · simp only [ms_st1, mz_mem h2, mz_c0 h6]
  · simp only [ms_st1, mz_mem h2, mz_c1 h6]
  · obtain ⟨t, ht, hc⟩ := mz_c2 (q := q.1) (I := I) (J := J) (u := u) h6
    simp only [ms_st1, mz_mem h2, hc]
  · simp only [ms_st1, mz_mem h2, mz_c5 h6]
/-- a field is read -/
theorem mz_getf {idx ci k : Nat} {xs : Value} {ys : List Nat} (h : ms_at j pc = some (.getfield idx, 3, ci, k, xs, ys)) (hu : u < ms_cn r) (hk : ms_kr r = ci + 10) (hk2 : ms_kr r ≠ 99) {c : Nat × Nat} (hf : (ms_fd r)[k]? = some c) : ms_G j pc L (.ref (ms_ad r u) :: S) (ms_Z q w I J) = ms_G j (pc + 3) L (ms_fv I J r u c :: S) (ms_Z q w I J) := by
  refine mz_go (y := (pc + 3, L, ms_fv I J r u c :: S, ms_Z q w I J)) h rfl ?_
  have hc : ms_cell q.1 I J r u = .inr (ci, (ms_fd r).map (ms_fv I J r u)) := by
    unfold ms_cell
    rw [hk]
    rw [hk] at hk2
    split
    all_goals first
      | omega
      | (rename_i h; simp at h; omega)
      | rfl
  simp only [ms_st1, mz_mem hu, hc, if_true, List.getElem?_map, hf, Option.map_some]
end MsZ
theorem ms_fd_ok : ∀ r, r < 67 → ∀ i, i < 34 → ∀ c, (ms_fd r)[i]? = some c → c.1 < 2 → c.2 = i := by
  intro r hr i hi c hc h2
  have key : ∀ r, r < 67 → ∀ i, i < 34 → ((ms_fd r)[i]?.map fun c => decide (c.1 < 2 → c.2 = i)).getD true = true := by decide +kernel
  have h := key r hr i hi
  rw [hc] at h
  exact of_decide_eq_true h h2
theorem ms_fd_len : ∀ r, r < 67 → (ms_fd r).length ≤ 34 := by decide +kernel
theorem mz_set {I : ms_i} {J : ms_j} {r u k : Nat} (hr : r < 67) (hf : (ms_fd r)[k]? = some (0, k)) (v : Int32) : ((ms_fd r).map (ms_fv I J r u)).set k (.int v) = (ms_fd r).map (ms_fv (ms_u I r u (upd (I r u) k v)) J r u) := by
  apply List.ext_getElem?
  intro i
  rw [List.getElem?_set]
  have hl : k < (ms_fd r).length := (List.getElem?_eq_some_iff.mp hf).1
  by_cases hi : k = i
  · subst hi
    rw [if_pos rfl, if_pos (by simpa using hl), List.getElem?_map, hf]
    simp [ms_fv, ms_u_s, upd]
  · rw [if_neg hi, List.getElem?_map, List.getElem?_map]
    cases hc : (ms_fd r)[i]? with
    | none => rfl
    | some c =>
      have hil : i < 34 := Nat.lt_of_lt_of_le (List.getElem?_eq_some_iff.mp hc).1 (ms_fd_len r hr)
      have h9 := ms_fd_ok r hr i hil c hc
      show some _ = some _
      congr 1
      obtain ⟨c1, c2⟩ := c
      unfold ms_fv
      match c1 with
      | 0 =>
        have e : c2 = i := h9 (by show 0 < 2; decide)
        subst e
        simp only [ms_u_s]
        have : ¬ c2 = k := fun z => hi z.symm
        simp [upd, this]
      | 1 => rfl
      | 2 => rfl
      | _ + 3 => rfl
theorem mz_setJ {I : ms_i} {J : ms_j} {r u k : Nat} (hr : r < 67) (hf : (ms_fd r)[k]? = some (1, k)) (v : Int64) : ((ms_fd r).map (ms_fv I J r u)).set k (.long v) = (ms_fd r).map (ms_fv I (ms_u J r u (vp_updL (J r u) k v)) r u) := by
  apply List.ext_getElem?
  intro i
  rw [List.getElem?_set]
  have hl : k < (ms_fd r).length := (List.getElem?_eq_some_iff.mp hf).1
  by_cases hi : k = i
  · subst hi
    rw [if_pos rfl, if_pos (by simpa using hl), List.getElem?_map, hf]
    simp [ms_fv, ms_u_s, vp_updL]
  · rw [if_neg hi, List.getElem?_map, List.getElem?_map]
    cases hc : (ms_fd r)[i]? with
    | none => rfl
    | some c =>
      have hil : i < 34 := Nat.lt_of_lt_of_le (List.getElem?_eq_some_iff.mp hc).1 (ms_fd_len r hr)
      have h9 := ms_fd_ok r hr i hil c hc
      show some _ = some _
      congr 1
      obtain ⟨c1, c2⟩ := c
      unfold ms_fv
      match c1 with
      | 0 => rfl
      | 1 =>
        have e : c2 = i := h9 (by show 1 < 2; decide)
        subst e
        simp only [ms_u_s]
        have : ¬ c2 = k := fun z => hi z.symm
        simp [vp_updL, this]
      | 2 => rfl
      | _ + 3 => rfl
theorem mz_co {q : Nat} {I : ms_i} {J : ms_j} {r u ci : Nat} (hk : ms_kr r = ci + 10) (hk2 : ms_kr r ≠ 99) : ms_cell q I J r u = .inr (ci, (ms_fd r).map (ms_fv I J r u)) := by
  unfold ms_cell
  rw [hk]
  rw [hk] at hk2
  split
  all_goals first
    | omega
    | (rename_i h; simp at h; omega)
    | rfl
def ms_b (b : Bool) : Int32 := if b then nI 1 else nI 0
theorem ms_b_01 (b : Bool) : ms_b b = 0 ∨ ms_b b = 1 := by
  cases b
  · exact Or.inl rfl
  · exact Or.inr rfl
noncomputable def mo_clT (j pc k : Nat) (L : List Value) (τ : ms_M) : Option ms_R := match ms_hd j pc k with
  | some h => ms_G j h L [.ref (τ.1 - 1)] (τ.1, τ.2.1, true, τ.2.2.2)
  | none => none
/-- what a call comes back with -/
noncomputable def mo_cl (j pc pc' : Nat) (R : Option ms_R) (w : Bool) (L S : List Value) : Option ms_R := match R with
  | some (.inl v, τ) => ms_G j pc' L (v.toList ++ S) (τ.1, τ.2.1, w || τ.2.2.1, τ.2.2.2)
  | some (.inr k, τ) => mo_clT j pc k L τ
  | none => none
theorem mz_clv (j pc pc' : Nat) (v : Value) (q : Nat × Nat) (w w' : Bool) (I : ms_i) (J : ms_j) (L S : List Value) : mo_cl j pc pc' (some (.inl (some v), ms_Z q w' I J)) w L S = ms_G j pc' L (v :: S) (ms_Z q (w || w') I J) := rfl
theorem mz_cln (j pc pc' : Nat) (q : Nat × Nat) (w w' : Bool) (I : ms_i) (J : ms_j) (L S : List Value) : mo_cl j pc pc' (some (.inl none, ms_Z q w' I J)) w L S = ms_G j pc' L S (ms_Z q (w || w') I J) := rfl
theorem mz_clt {j pc k h : Nat} (hh : ms_hd j pc k = some h) (pc' : Nat) (q : Nat × Nat) (w w' : Bool) (I : ms_i) (J : ms_j) (L S : List Value) : mo_cl j pc pc' (some (.inr k, ms_Z q w' I J)) w L S = ms_G j h L [.ref (267 + q.2)] (ms_Z q true I J) := by
  show mo_clT j pc k L (ms_Z q w' I J) = _
  unfold mo_clT
  rw [hh]
  show ms_G j h L [.ref (268 + q.2 - 1)] _ = _
  rw [show 268 + q.2 - 1 = 267 + q.2 by omega]
  rfl
theorem mz_call {j pc c : Nat} {ins : Instr} {xs : Value} {ys : List Nat} (h : ms_at j pc = some (ins, 3, c, 0, xs, ys)) (hk : ms_kd (ins, 3, c, 0, xs, ys) = 1) {L S : List Value} {σ : ms_M} (hcan : ms_can c S σ = true) : ms_G j pc L S σ = mo_cl j pc (pc + 3) (ms_G c 0 (ms_ent c (S.take (ms_na c)).reverse) [] (σ.1, σ.2.1, false, σ.2.2.2)) σ.2.2.1 L (S.drop (ms_na c)) := by
  rw [ms_G_at h]
  unfold ms_stp
  rw [hk]
  show ms_call ms_G j pc c L S σ = _
  unfold ms_call mo_cl mo_clT
  rw [if_pos hcan]
  rfl
theorem mz_can0 {c : Nat} {S : List Value} {σ : ms_M} (h1 : Nat.ble (ms_na c) S.length = true) (h2 : Nat.ble ((S.drop (ms_na c)).map fun v => v.category).sum 8 = true) (h3 : Nat.ble (ms_ents (S.take (ms_na c)).reverse).length (ms_mx c) = true) (h4 : ms_rc c = none) (h5 : ms_ini c = false) : ms_can c S σ = true := by
  simp only [ms_can, h4, h5, Bool.and_eq_true, decide_eq_true_eq, Bool.not_false, Bool.true_or, and_true]
  exact ⟨⟨Nat.le_of_ble_eq_true h1, Nat.le_of_ble_eq_true h2⟩, Nat.le_of_ble_eq_true h3⟩
theorem mz_can1 {c ci r u : Nat} {S : List Value} {q : Nat × Nat} {w : Bool} {I : ms_i} {J : ms_j} (h1 : Nat.ble (ms_na c) S.length = true) (h2 : Nat.ble ((S.drop (ms_na c)).map fun v => v.category).sum 8 = true) (h3 : Nat.ble (ms_ents (S.take (ms_na c)).reverse).length (ms_mx c) = true) (h4 : ms_rc c = some ci) (h5 : (S.take (ms_na c)).reverse.head? = some (.ref (ms_ad r u))) (hu : u < ms_cn r) (hk : ms_kr r = ci + 10) (hk2 : ms_kr r ≠ 99) : ms_can c S (ms_Z q w I J) = true := by
  simp only [ms_can, h4, h5, Bool.and_eq_true, decide_eq_true_eq, mz_mem hu, mz_co hk hk2]
  exact ⟨⟨⟨Nat.le_of_ble_eq_true h1, Nat.le_of_ble_eq_true h2⟩, Nat.le_of_ble_eq_true h3⟩, trivial⟩
section MsZ2
variable {j pc : Nat} {x : ms_X} {L S : List Value} {q : Nat × Nat} {w : Bool} {I : ms_i} {J : ms_j} {r u i : Nat}
theorem mz_putf {idx ci k : Nat} {xs : Value} {ys : List Nat} (h : ms_at j pc = some (.putfield idx, 3, ci, k, xs, ys)) (hu : u < ms_cn r) (hk : ms_kr r = ci + 10) (hk2 : ms_kr r ≠ 99) (hf : (ms_fd r)[k]? = some (0, k)) {v : Int32} (hfit : ms_fit (ms_ft ci k) (.int v) = true) : ms_G j pc L (.int v :: .ref (ms_ad r u) :: S) (ms_Z q w I J) = ms_G j (pc + 3) L S (ms_Z q true (ms_u I r u (upd (I r u) k v)) J) := by
  refine mz_go (y := (pc + 3, L, S, ms_Z q true (ms_u I r u (upd (I r u) k v)) J)) h rfl ?_
  have hl : k < ((ms_fd r).map (ms_fv I J r u)).length := by
    rw [List.length_map]
    exact (List.getElem?_eq_some_iff.mp hf).1
  simp only [ms_st1, mz_mem hu, mz_co hk hk2, hfit, hl, and_self, if_true, mz_set (ms_cn_lt hu) hf]
  unfold ms_wr ms_Z
  dsimp only
  rw [ms_up_I hu q.1 I J (upd (I r u) k v)]
  rw [mz_co hk hk2]
theorem mz_putl {idx ci k : Nat} {xs : Value} {ys : List Nat} (h : ms_at j pc = some (.putfield idx, 3, ci, k, xs, ys)) (hu : u < ms_cn r) (hk : ms_kr r = ci + 10) (hk2 : ms_kr r ≠ 99) (hf : (ms_fd r)[k]? = some (1, k)) {v : Int64} (hfit : ms_fit (ms_ft ci k) (.long v) = true) : ms_G j pc L (.long v :: .ref (ms_ad r u) :: S) (ms_Z q w I J) = ms_G j (pc + 3) L S (ms_Z q true I (ms_u J r u (vp_updL (J r u) k v))) := by
  refine mz_go (y := (pc + 3, L, S, ms_Z q true I (ms_u J r u (vp_updL (J r u) k v)))) h rfl ?_
  have hl : k < ((ms_fd r).map (ms_fv I J r u)).length := by
    rw [List.length_map]
    exact (List.getElem?_eq_some_iff.mp hf).1
  simp only [ms_st1, mz_mem hu, mz_co hk hk2, hfit, hl, and_self, if_true, mz_setJ (ms_cn_lt hu) hf]
  unfold ms_wr ms_Z
  dsimp only
  rw [ms_up_J hu q.1 I J (vp_updL (J r u) k v)]
  rw [mz_co hk hk2]
theorem mz_thr {idx k : Nat} {xs : Value} {ys : List Nat} (h : ms_at j pc = some (.new idx, 3, k, 1, xs, ys)) : ms_G j pc L [] (ms_Z q false I J) = some (.inr k, ms_Z (q.1, q.2 + 1) true I J) := by
  rw [ms_G_at h]
  show ms_thr k [] (ms_Z q false I J) = _
  show some _ = some _
  congr 2
  unfold ms_nw ms_Z
  dsimp only
  rw [ms_up_hi (by omega)]
  rfl
def mo_c (q r u r' u' sp dp n : Nat) : Bool := decide (ms_kr r = 0) && decide (ms_kr r' = 0) && decide (u < ms_cn r) && decide (u' < ms_cn r') && decide (sp + n ≤ ms_nr q r u) && decide (dp + n ≤ ms_nr q r' u') && decide (sp + n < 5000) && decide (dp + n < 5000)
def mo_d (q r u r' u' sp dp n : Nat) : Bool := decide (ms_kr r = 1) && decide (ms_kr r' = 1) && decide (u < ms_cn r) && decide (u' < ms_cn r') && decide (sp + n ≤ ms_nr q r u) && decide (dp + n ≤ ms_nr q r' u') && decide (sp + n < 5000) && decide (dp + n < 5000)
theorem mz_acp {idx : Nat} {xs : Value} {ys : List Nat} (h : ms_at j pc = some (.invokestatic idx, 3, 0, 1, xs, ys)) (h8 : (S.map fun v => v.category).sum ≤ 8) {r' u' sp dp n : Nat} : ms_G j pc L (.int (nI n) :: .int (nI dp) :: .ref (ms_ad r' u') :: .int (nI sp) :: .ref (ms_ad r u) :: S) (ms_Z q w I J) = cond (mo_c q.1 r u r' u' sp dp n) (ms_G j (pc + 3) L S (ms_Z q true (ms_u I r' u' (va_cpy (I r u) (I r' u') sp dp n)) J)) (ms_raw j pc L (.int (nI n) :: .int (nI dp) :: .ref (ms_ad r' u') :: .int (nI sp) :: .ref (ms_ad r u) :: S) (ms_Z q w I J)) := by
  refine mz_cond fun hb => ?_
  simp only [mo_c, Bool.and_eq_true, decide_eq_true_eq] at hb
  obtain ⟨⟨⟨⟨⟨⟨⟨h1, h1'⟩, h2⟩, h2'⟩, h3⟩, h3'⟩, h4⟩, h4'⟩ := hb
  refine mz_go (y := (pc + 3, L, S, ms_Z q true (ms_u I r' u' (va_cpy (I r u) (I r' u') sp dp n)) J)) h rfl ?_
  have e1 : (nI sp).toNatClampNeg = sp := nI_clamp (by omega)
  have e2 : (nI dp).toNatClampNeg = dp := nI_clamp (by omega)
  have e3 : (nI n).toNatClampNeg = n := nI_clamp (by omega)
  have f1 : 0 ≤ (nI sp).toInt := by rw [nI_toInt (by omega)]; omega
  have f2 : 0 ≤ (nI dp).toInt := by rw [nI_toInt (by omega)]; omega
  have f3 : 0 ≤ (nI n).toInt := by rw [nI_toInt (by omega)]; omega
  simp only [ms_st1, mz_mem h2, mz_mem h2', mz_c0 h1, mz_c0 h1', e1, e2, e3, f1, f2, f3, h3, h3', h8, and_self, if_true]
  unfold ms_wr ms_Z
  dsimp only
  rw [ms_up_I h2' q.1 I J (va_cpy (I r u) (I r' u') sp dp n)]
  rw [mz_c0 h1', ms_u_s]
theorem mz_acpl {idx : Nat} {xs : Value} {ys : List Nat} (h : ms_at j pc = some (.invokestatic idx, 3, 0, 1, xs, ys)) (h8 : (S.map fun v => v.category).sum ≤ 8) {r' u' sp dp n : Nat} : ms_G j pc L (.int (nI n) :: .int (nI dp) :: .ref (ms_ad r' u') :: .int (nI sp) :: .ref (ms_ad r u) :: S) (ms_Z q w I J) = cond (mo_d q.1 r u r' u' sp dp n) (ms_G j (pc + 3) L S (ms_Z q true I (ms_u J r' u' (va_cpy (J r u) (J r' u') sp dp n)))) (ms_raw j pc L (.int (nI n) :: .int (nI dp) :: .ref (ms_ad r' u') :: .int (nI sp) :: .ref (ms_ad r u) :: S) (ms_Z q w I J)) := by
  refine mz_cond fun hb => ?_
  simp only [mo_d, Bool.and_eq_true, decide_eq_true_eq] at hb
  obtain ⟨⟨⟨⟨⟨⟨⟨h1, h1'⟩, h2⟩, h2'⟩, h3⟩, h3'⟩, h4⟩, h4'⟩ := hb
  refine mz_go (y := (pc + 3, L, S, ms_Z q true I (ms_u J r' u' (va_cpy (J r u) (J r' u') sp dp n)))) h rfl ?_
  have e1 : (nI sp).toNatClampNeg = sp := nI_clamp (by omega)
  have e2 : (nI dp).toNatClampNeg = dp := nI_clamp (by omega)
  have e3 : (nI n).toNatClampNeg = n := nI_clamp (by omega)
  have f1 : 0 ≤ (nI sp).toInt := by rw [nI_toInt (by omega)]; omega
  have f2 : 0 ≤ (nI dp).toInt := by rw [nI_toInt (by omega)]; omega
  have f3 : 0 ≤ (nI n).toInt := by rw [nI_toInt (by omega)]; omega
  simp only [ms_st1, mz_mem h2, mz_mem h2', mz_c1 h1, mz_c1 h1', e1, e2, e3, f1, f2, f3, h3, h3', h8, and_self, if_true]
  unfold ms_wr ms_Z
  dsimp only
  rw [ms_up_J h2' q.1 I J (va_cpy (J r u) (J r' u') sp dp n)]
  rw [mz_c1 h1', ms_u_s]
end MsZ2
section MsZ3
variable {j pc t y off' : Nat} {off : Int} {xs : Value} {ys : List Nat} {L S : List Value} {σ : ms_M} {x z : Int32}
theorem mz_bra {q : ms_I} (h : ms_at j pc = some q) (hk : ms_kd q = 0) {c : Prop} {dc : Decidable c} {a b : Nat} {L' S' : List Value} {σ' : ms_M} (hy : ms_st1 q.1 q.2.1 q.2.2 pc L S σ = some (if c then a else b, L', S', σ')) : ms_G j pc L S σ = if c then ms_G j a L' S' σ' else ms_G j b L' S' σ' := by
  rw [mz_go h hk hy]
  by_cases hc : c
  · rw [if_pos hc, if_pos hc]
  · rw [if_neg hc, if_neg hc]
theorem mz_sw {q : ms_I} (h : ms_at j pc = some q) (hk : ms_kd q = 0) {d lo hi : Int} {os : Array Int} (hq : q.1 = .tableswitch d lo hi os) (hx : x.toInt < lo ∨ hi < x.toInt) : ms_G j pc L (.int x :: S) σ = ms_G j q.2.2.1 L S σ := by
  have hy : ms_st1 q.1 q.2.1 q.2.2 pc L (.int x :: S) σ = some (q.2.2.1, L, S, σ) := by
    rw [hq]
    simp only [ms_st1]
    rw [if_pos hx]
  exact mz_go h hk hy
end MsZ3
end
section
/-! ONE LEMMA AN INSTRUCTION, by gen3.py. -/
section MsI
variable {l0 l1 l2 l3 l4 l5 l6 l7 l8 l9 l10 l11 l12 l13 l14 l15 l16 l17 : Value} {L S : List Value} {σ : ms_M} {q : Nat × Nat} {w B : Bool} {I : ms_i} {J : ms_j} {r u r' u' i sp dp n a b a0 a1 a2 a3 a4 a5 a6 a7 g0 g1 g2 g3 g4 g5 g6 g7 : Nat}
variable {x y x0 x1 x2 x3 x4 x5 x6 x7 e0 e1 e2 e3 e4 e5 e6 e7 : Int32} {X Y X0 X1 X2 X3 X4 X5 X6 X7 f0 f1 f2 f3 f4 f5 f6 f7 : Int64}
-- MaskedSumModel.plus(JJ)J
theorem mi_20_0 : ms_G 20 0 [.long X, l1, l2, l3, l4, l5] S σ = ms_G 20 1 [.long X, l1, l2, l3, l4, l5] (.long X :: S) σ := (ms_G_at rfl _ _ _).trans rfl
theorem mi_20_1 : ms_G 20 1 [l0, l1, .long X, l3, l4, l5] S σ = ms_G 20 2 [l0, l1, .long X, l3, l4, l5] (.long X :: S) σ := (ms_G_at rfl _ _ _).trans rfl
theorem mi_20_2 : ms_G 20 2 L (.long Y :: .long X :: S) σ = ms_G 20 3 L (.long (X + Y) :: S) σ := (ms_G_at rfl _ _ _).trans rfl
theorem mi_20_3 : ms_G 20 3 [l0, l1, l2, .null, l4, l5] (.long X :: S) σ = ms_G 20 5 [l0, l1, l2, .null, .long X, .null] S σ := (ms_G_at rfl _ _ _).trans rfl
theorem mi_20_5 : ms_G 20 5 [l0, l1, l2, l3, .long X, l5] S σ = ms_G 20 7 [l0, l1, l2, l3, .long X, l5] (.long X :: S) σ := (ms_G_at rfl _ _ _).trans rfl
theorem mi_20_7 : ms_G 20 7 L S σ = ms_G 20 10 L (.long (lN 2305843009213693951) :: S) σ := (ms_G_at rfl _ _ _).trans rfl
theorem mi_20_10 : ms_G 20 10 L (.long Y :: .long X :: S) σ = ms_G 20 11 L (.int (lg_cmp X Y) :: S) σ := (ms_G_at rfl _ _ _).trans rfl
theorem mi_20_11 : ms_G 20 11 L (.int x :: S) σ = if x < nI 0 then ms_G 20 23 L S σ else ms_G 20 14 L S σ := mz_bra rfl rfl rfl
theorem mi_20_14 : ms_G 20 14 [l0, l1, l2, l3, .long X, l5] S σ = ms_G 20 16 [l0, l1, l2, l3, .long X, l5] (.long X :: S) σ := (ms_G_at rfl _ _ _).trans rfl
theorem mi_20_16 : ms_G 20 16 L S σ = ms_G 20 19 L (.long (lN 2305843009213693951) :: S) σ := (ms_G_at rfl _ _ _).trans rfl
theorem mi_20_19 : ms_G 20 19 L (.long Y :: .long X :: S) σ = ms_G 20 20 L (.long (X - Y) :: S) σ := (ms_G_at rfl _ _ _).trans rfl
theorem mi_20_20 : ms_G 20 20 L S σ = ms_G 20 25 L S σ := (ms_G_at rfl _ _ _).trans rfl
theorem mi_20_23 : ms_G 20 23 [l0, l1, l2, l3, .long X, l5] S σ = ms_G 20 25 [l0, l1, l2, l3, .long X, l5] (.long X :: S) σ := (ms_G_at rfl _ _ _).trans rfl
theorem mi_20_25 : ms_G 20 25 L [.long X] σ = some (.inl (some (.long X)), σ) := (ms_G_at rfl _ _ _).trans rfl
-- MaskedSumModel.times(JJ)J
theorem mi_21_0 : ms_G 21 0 L S σ = ms_G 21 1 L (.long (lN 0) :: S) σ := (ms_G_at rfl _ _ _).trans rfl
theorem mi_21_1 : ms_G 21 1 [l0, l1, l2, .null, l4, l5, l6] (.long X :: S) σ = ms_G 21 3 [l0, l1, l2, .null, .long X, .null, l6] S σ := (ms_G_at rfl _ _ _).trans rfl
theorem mi_21_3 : ms_G 21 3 L S σ = ms_G 21 5 L (.int (nI 60) :: S) σ := (ms_G_at rfl _ _ _).trans rfl
theorem mi_21_5 : ms_G 21 5 [l0, l1, l2, l3, l4, .null, l6] (.int x :: S) σ = ms_G 21 7 [l0, l1, l2, l3, l4, .null, .int x] S σ := (ms_G_at rfl _ _ _).trans rfl
theorem mi_21_7 : ms_G 21 7 [l0, l1, l2, l3, l4, l5, .int x] S σ = ms_G 21 9 [l0, l1, l2, l3, l4, l5, .int x] (.int x :: S) σ := (ms_G_at rfl _ _ _).trans rfl
theorem mi_21_9 : ms_G 21 9 L (.int x :: S) σ = if x < nI 0 then ms_G 21 46 L S σ else ms_G 21 12 L S σ := mz_bra rfl rfl rfl
theorem mi_21_12 : ms_G 21 12 [l0, l1, l2, l3, .long X, l5, l6] S σ = ms_G 21 14 [l0, l1, l2, l3, .long X, l5, l6] (.long X :: S) σ := (ms_G_at rfl _ _ _).trans rfl
theorem mi_21_14 : ms_G 21 14 [l0, l1, l2, l3, .long X, l5, l6] S σ = ms_G 21 16 [l0, l1, l2, l3, .long X, l5, l6] (.long X :: S) σ := (ms_G_at rfl _ _ _).trans rfl
theorem mi_21_16 : ms_G 21 16 L [.long X1, .long X0] (ms_Z q w I J) = mo_cl 21 16 19 (ms_G 20 0 [.long X0, .null, .long X1, .null, .null, .null] [] (ms_Z q false I J)) w L [] := (mz_call rfl rfl (mz_can0 rfl rfl rfl rfl rfl)).trans rfl
theorem mi_21_19 : ms_G 21 19 [l0, l1, l2, .null, l4, l5, l6] (.long X :: S) σ = ms_G 21 21 [l0, l1, l2, .null, .long X, .null, l6] S σ := (ms_G_at rfl _ _ _).trans rfl
theorem mi_21_21 : ms_G 21 21 [l0, l1, .long X, l3, l4, l5, l6] S σ = ms_G 21 22 [l0, l1, .long X, l3, l4, l5, l6] (.long X :: S) σ := (ms_G_at rfl _ _ _).trans rfl
theorem mi_21_22 : ms_G 21 22 [l0, l1, l2, l3, l4, l5, .int x] S σ = ms_G 21 24 [l0, l1, l2, l3, l4, l5, .int x] (.int x :: S) σ := (ms_G_at rfl _ _ _).trans rfl
theorem mi_21_24 : ms_G 21 24 L (.int y :: .long X :: S) σ = ms_G 21 25 L (.long (X >>> (y.toInt64 &&& 63)) :: S) σ := (ms_G_at rfl _ _ _).trans rfl
theorem mi_21_25 : ms_G 21 25 L S σ = ms_G 21 26 L (.long (lN 1) :: S) σ := (ms_G_at rfl _ _ _).trans rfl
theorem mi_21_26 : ms_G 21 26 L (.long Y :: .long X :: S) σ = ms_G 21 27 L (.long (X &&& Y) :: S) σ := (ms_G_at rfl _ _ _).trans rfl
theorem mi_21_27 : ms_G 21 27 L S σ = ms_G 21 28 L (.long (lN 1) :: S) σ := (ms_G_at rfl _ _ _).trans rfl
theorem mi_21_28 : ms_G 21 28 L (.long Y :: .long X :: S) σ = ms_G 21 29 L (.int (lg_cmp X Y) :: S) σ := (ms_G_at rfl _ _ _).trans rfl
theorem mi_21_29 : ms_G 21 29 L (.int x :: S) σ = if x = nI 0 then ms_G 21 32 L S σ else ms_G 21 40 L S σ := mz_bra rfl rfl rfl
theorem mi_21_32 : ms_G 21 32 [l0, l1, l2, l3, .long X, l5, l6] S σ = ms_G 21 34 [l0, l1, l2, l3, .long X, l5, l6] (.long X :: S) σ := (ms_G_at rfl _ _ _).trans rfl
theorem mi_21_34 : ms_G 21 34 [.long X, l1, l2, l3, l4, l5, l6] S σ = ms_G 21 35 [.long X, l1, l2, l3, l4, l5, l6] (.long X :: S) σ := (ms_G_at rfl _ _ _).trans rfl
theorem mi_21_35 : ms_G 21 35 L [.long X1, .long X0] (ms_Z q w I J) = mo_cl 21 35 38 (ms_G 20 0 [.long X0, .null, .long X1, .null, .null, .null] [] (ms_Z q false I J)) w L [] := (mz_call rfl rfl (mz_can0 rfl rfl rfl rfl rfl)).trans rfl
theorem mi_21_38 : ms_G 21 38 [l0, l1, l2, .null, l4, l5, l6] (.long X :: S) σ = ms_G 21 40 [l0, l1, l2, .null, .long X, .null, l6] S σ := (ms_G_at rfl _ _ _).trans rfl
theorem mi_21_40 : ms_G 21 40 [l0, l1, l2, l3, l4, .null, .int x] S σ = ms_G 21 43 [l0, l1, l2, l3, l4, .null, .int (x + Int32.ofInt (-1))] S σ := (ms_G_at rfl _ _ _).trans rfl
theorem mi_21_43 : ms_G 21 43 L S σ = ms_G 21 7 L S σ := (ms_G_at rfl _ _ _).trans rfl
theorem mi_21_46 : ms_G 21 46 [l0, l1, l2, l3, .long X, l5, l6] S σ = ms_G 21 48 [l0, l1, l2, l3, .long X, l5, l6] (.long X :: S) σ := (ms_G_at rfl _ _ _).trans rfl
theorem mi_21_48 : ms_G 21 48 L [.long X] σ = some (.inl (some (.long X)), σ) := (ms_G_at rfl _ _ _).trans rfl
-- MaskedSumModel.turn(II)I
theorem mi_24_0 : ms_G 24 0 [.int x, l1] S σ = ms_G 24 1 [.int x, l1] (.int x :: S) σ := (ms_G_at rfl _ _ _).trans rfl
theorem mi_24_1 : ms_G 24 1 [l0, .int x] S σ = ms_G 24 2 [l0, .int x] (.int x :: S) σ := (ms_G_at rfl _ _ _).trans rfl
theorem mi_24_2 : ms_G 24 2 L (.int y :: .int x :: S) σ = ms_G 24 3 L (.int (x <<< (y &&& 31)) :: S) σ := (ms_G_at rfl _ _ _).trans rfl
theorem mi_24_3 : ms_G 24 3 [.int x, l1] S σ = ms_G 24 4 [.int x, l1] (.int x :: S) σ := (ms_G_at rfl _ _ _).trans rfl
theorem mi_24_4 : ms_G 24 4 L S σ = ms_G 24 6 L (.int (nI 32) :: S) σ := (ms_G_at rfl _ _ _).trans rfl
theorem mi_24_6 : ms_G 24 6 [l0, .int x] S σ = ms_G 24 7 [l0, .int x] (.int x :: S) σ := (ms_G_at rfl _ _ _).trans rfl
theorem mi_24_7 : ms_G 24 7 L (.int y :: .int x :: S) σ = ms_G 24 8 L (.int (x - y) :: S) σ := (ms_G_at rfl _ _ _).trans rfl
theorem mi_24_8 : ms_G 24 8 L (.int y :: .int x :: S) σ = ms_G 24 9 L (.int ((x.toUInt32 >>> (y.toUInt32 &&& Int32.toUInt32 31)).toInt32) :: S) σ := (ms_G_at rfl _ _ _).trans rfl
theorem mi_24_9 : ms_G 24 9 L (.int y :: .int x :: S) σ = ms_G 24 10 L (.int (x ||| y) :: S) σ := (ms_G_at rfl _ _ _).trans rfl
theorem mi_24_10 : ms_G 24 10 L [.int x] σ = some (.inl (some (.int x)), σ) := (ms_G_at rfl _ _ _).trans rfl
-- MaskedSumModel.quarter(IIII)V
theorem mi_25_0 : ms_G 25 0 L S σ = ms_G 25 1 L (.int (nI 0) :: S) σ := (ms_G_at rfl _ _ _).trans rfl
theorem mi_25_1 : ms_G 25 1 [l0, l1, l2, l3, .int y, l5] (.int x :: S) σ = ms_G 25 3 [l0, l1, l2, l3, .int y, .int x] S σ := (ms_G_at rfl _ _ _).trans rfl
theorem mi_25_3 : ms_G 25 3 [l0, l1, l2, l3, l4, .int x] S σ = ms_G 25 5 [l0, l1, l2, l3, l4, .int x] (.int x :: S) σ := (ms_G_at rfl _ _ _).trans rfl
theorem mi_25_5 : ms_G 25 5 L S σ = ms_G 25 6 L (.int (nI 2) :: S) σ := (ms_G_at rfl _ _ _).trans rfl
theorem mi_25_6 : ms_G 25 6 L (.int y :: .int x :: S) σ = if y ≤ x then ms_G 25 116 L S σ else ms_G 25 9 L S σ := mz_bra rfl rfl rfl
theorem mi_25_9 : ms_G 25 9 [.ref a, l1, l2, l3, l4, l5] S σ = ms_G 25 10 [.ref a, l1, l2, l3, l4, l5] (.ref a :: S) σ := (ms_G_at rfl _ _ _).trans rfl
theorem mi_25_10 : ms_G 25 10 L (.ref (ms_ad 40 0) :: S) (ms_Z q w I J) = ms_G 25 13 L (.ref (ms_ad 59 0) :: S) (ms_Z q w I J) := mz_getf (c := (2, 59)) rfl (by decide) rfl (by decide) rfl
theorem mi_25_13 : ms_G 25 13 [l0, .int x, l2, l3, l4, l5] S σ = ms_G 25 14 [l0, .int x, l2, l3, l4, l5] (.int x :: S) σ := (ms_G_at rfl _ _ _).trans rfl
theorem mi_25_14 : ms_G 25 14 L (.int x :: .ref b :: S) σ = ms_G 25 15 L (.int x :: .ref b :: .int x :: .ref b :: S) σ := (ms_G_at rfl _ _ _).trans rfl
theorem mi_25_15 : ms_G 25 15 L (.int (nI i) :: .ref (ms_ad r u) :: S) (ms_Z q w I J) = cond (mo_0 q.1 r u i) (ms_G 25 16 L (.int (I r u i) :: S) (ms_Z q w I J)) (ms_raw 25 15 L (.int (nI i) :: .ref (ms_ad r u) :: S) (ms_Z q w I J)) := mz_iald rfl
theorem mi_25_16 : ms_G 25 16 [.ref a, l1, l2, l3, l4, l5] S σ = ms_G 25 17 [.ref a, l1, l2, l3, l4, l5] (.ref a :: S) σ := (ms_G_at rfl _ _ _).trans rfl
theorem mi_25_17 : ms_G 25 17 L (.ref (ms_ad 40 0) :: S) (ms_Z q w I J) = ms_G 25 20 L (.ref (ms_ad 59 0) :: S) (ms_Z q w I J) := mz_getf (c := (2, 59)) rfl (by decide) rfl (by decide) rfl
theorem mi_25_20 : ms_G 25 20 [l0, l1, .int x, l3, l4, l5] S σ = ms_G 25 21 [l0, l1, .int x, l3, l4, l5] (.int x :: S) σ := (ms_G_at rfl _ _ _).trans rfl
theorem mi_25_21 : ms_G 25 21 L (.int (nI i) :: .ref (ms_ad r u) :: S) (ms_Z q w I J) = cond (mo_0 q.1 r u i) (ms_G 25 22 L (.int (I r u i) :: S) (ms_Z q w I J)) (ms_raw 25 21 L (.int (nI i) :: .ref (ms_ad r u) :: S) (ms_Z q w I J)) := mz_iald rfl
theorem mi_25_22 : ms_G 25 22 L (.int y :: .int x :: S) σ = ms_G 25 23 L (.int (x + y) :: S) σ := (ms_G_at rfl _ _ _).trans rfl
theorem mi_25_23 : ms_G 25 23 L (.int x :: .int (nI i) :: .ref (ms_ad r u) :: S) (ms_Z q w I J) = cond (mo_0 q.1 r u i) (ms_G 25 24 L S (ms_Z q true (ms_u I r u (upd (I r u) i x)) J)) (ms_raw 25 23 L (.int x :: .int (nI i) :: .ref (ms_ad r u) :: S) (ms_Z q w I J)) := mz_iast rfl x
theorem mi_25_24 : ms_G 25 24 [.ref a, l1, l2, l3, l4, l5] S σ = ms_G 25 25 [.ref a, l1, l2, l3, l4, l5] (.ref a :: S) σ := (ms_G_at rfl _ _ _).trans rfl
theorem mi_25_25 : ms_G 25 25 L (.ref (ms_ad 40 0) :: S) (ms_Z q w I J) = ms_G 25 28 L (.ref (ms_ad 59 0) :: S) (ms_Z q w I J) := mz_getf (c := (2, 59)) rfl (by decide) rfl (by decide) rfl
theorem mi_25_28 : ms_G 25 28 [l0, l1, l2, l3, .int x, l5] S σ = ms_G 25 30 [l0, l1, l2, l3, .int x, l5] (.int x :: S) σ := (ms_G_at rfl _ _ _).trans rfl
theorem mi_25_30 : ms_G 25 30 [.ref a, l1, l2, l3, l4, l5] S σ = ms_G 25 31 [.ref a, l1, l2, l3, l4, l5] (.ref a :: S) σ := (ms_G_at rfl _ _ _).trans rfl
theorem mi_25_31 : ms_G 25 31 L (.ref (ms_ad 40 0) :: S) (ms_Z q w I J) = ms_G 25 34 L (.ref (ms_ad 59 0) :: S) (ms_Z q w I J) := mz_getf (c := (2, 59)) rfl (by decide) rfl (by decide) rfl
theorem mi_25_34 : ms_G 25 34 [l0, l1, l2, l3, .int x, l5] S σ = ms_G 25 36 [l0, l1, l2, l3, .int x, l5] (.int x :: S) σ := (ms_G_at rfl _ _ _).trans rfl
theorem mi_25_36 : ms_G 25 36 L (.int (nI i) :: .ref (ms_ad r u) :: S) (ms_Z q w I J) = cond (mo_0 q.1 r u i) (ms_G 25 37 L (.int (I r u i) :: S) (ms_Z q w I J)) (ms_raw 25 36 L (.int (nI i) :: .ref (ms_ad r u) :: S) (ms_Z q w I J)) := mz_iald rfl
theorem mi_25_37 : ms_G 25 37 [.ref a, l1, l2, l3, l4, l5] S σ = ms_G 25 38 [.ref a, l1, l2, l3, l4, l5] (.ref a :: S) σ := (ms_G_at rfl _ _ _).trans rfl
theorem mi_25_38 : ms_G 25 38 L (.ref (ms_ad 40 0) :: S) (ms_Z q w I J) = ms_G 25 41 L (.ref (ms_ad 59 0) :: S) (ms_Z q w I J) := mz_getf (c := (2, 59)) rfl (by decide) rfl (by decide) rfl
theorem mi_25_41 : ms_G 25 41 [l0, .int x, l2, l3, l4, l5] S σ = ms_G 25 42 [l0, .int x, l2, l3, l4, l5] (.int x :: S) σ := (ms_G_at rfl _ _ _).trans rfl
theorem mi_25_42 : ms_G 25 42 L (.int (nI i) :: .ref (ms_ad r u) :: S) (ms_Z q w I J) = cond (mo_0 q.1 r u i) (ms_G 25 43 L (.int (I r u i) :: S) (ms_Z q w I J)) (ms_raw 25 42 L (.int (nI i) :: .ref (ms_ad r u) :: S) (ms_Z q w I J)) := mz_iald rfl
theorem mi_25_43 : ms_G 25 43 L (.int y :: .int x :: S) σ = ms_G 25 44 L (.int (x ^^^ y) :: S) σ := (ms_G_at rfl _ _ _).trans rfl
theorem mi_25_44 : ms_G 25 44 [l0, l1, l2, l3, l4, .int x] S σ = ms_G 25 46 [l0, l1, l2, l3, l4, .int x] (.int x :: S) σ := (ms_G_at rfl _ _ _).trans rfl
theorem mi_25_46 : ms_G 25 46 L (.int x :: S) σ = if x = nI 0 then ms_G 25 49 L S σ else ms_G 25 54 L S σ := mz_bra rfl rfl rfl
theorem mi_25_49 : ms_G 25 49 L S σ = ms_G 25 51 L (.int (nI 16) :: S) σ := (ms_G_at rfl _ _ _).trans rfl
theorem mi_25_51 : ms_G 25 51 L S σ = ms_G 25 56 L S σ := (ms_G_at rfl _ _ _).trans rfl
theorem mi_25_54 : ms_G 25 54 L S σ = ms_G 25 56 L (.int (nI 8) :: S) σ := (ms_G_at rfl _ _ _).trans rfl
theorem mi_25_56 : ms_G 25 56 L (.int x1 :: .int x0 :: [.int e0, .ref g1]) (ms_Z q w I J) = mo_cl 25 56 59 (ms_G 24 0 [.int x0, .int x1] [] (ms_Z q false I J)) w L [.int e0, .ref g1] := (mz_call rfl rfl (mz_can0 rfl rfl rfl rfl rfl)).trans rfl
theorem mi_25_59 : ms_G 25 59 L (.int x :: .int (nI i) :: .ref (ms_ad r u) :: S) (ms_Z q w I J) = cond (mo_0 q.1 r u i) (ms_G 25 60 L S (ms_Z q true (ms_u I r u (upd (I r u) i x)) J)) (ms_raw 25 59 L (.int x :: .int (nI i) :: .ref (ms_ad r u) :: S) (ms_Z q w I J)) := mz_iast rfl x
theorem mi_25_60 : ms_G 25 60 [.ref a, l1, l2, l3, l4, l5] S σ = ms_G 25 61 [.ref a, l1, l2, l3, l4, l5] (.ref a :: S) σ := (ms_G_at rfl _ _ _).trans rfl
theorem mi_25_61 : ms_G 25 61 L (.ref (ms_ad 40 0) :: S) (ms_Z q w I J) = ms_G 25 64 L (.ref (ms_ad 59 0) :: S) (ms_Z q w I J) := mz_getf (c := (2, 59)) rfl (by decide) rfl (by decide) rfl
theorem mi_25_64 : ms_G 25 64 [l0, l1, l2, .int x, l4, l5] S σ = ms_G 25 65 [l0, l1, l2, .int x, l4, l5] (.int x :: S) σ := (ms_G_at rfl _ _ _).trans rfl
theorem mi_25_65 : ms_G 25 65 L (.int x :: .ref b :: S) σ = ms_G 25 66 L (.int x :: .ref b :: .int x :: .ref b :: S) σ := (ms_G_at rfl _ _ _).trans rfl
theorem mi_25_66 : ms_G 25 66 L (.int (nI i) :: .ref (ms_ad r u) :: S) (ms_Z q w I J) = cond (mo_0 q.1 r u i) (ms_G 25 67 L (.int (I r u i) :: S) (ms_Z q w I J)) (ms_raw 25 66 L (.int (nI i) :: .ref (ms_ad r u) :: S) (ms_Z q w I J)) := mz_iald rfl
theorem mi_25_67 : ms_G 25 67 [.ref a, l1, l2, l3, l4, l5] S σ = ms_G 25 68 [.ref a, l1, l2, l3, l4, l5] (.ref a :: S) σ := (ms_G_at rfl _ _ _).trans rfl
theorem mi_25_68 : ms_G 25 68 L (.ref (ms_ad 40 0) :: S) (ms_Z q w I J) = ms_G 25 71 L (.ref (ms_ad 59 0) :: S) (ms_Z q w I J) := mz_getf (c := (2, 59)) rfl (by decide) rfl (by decide) rfl
theorem mi_25_71 : ms_G 25 71 [l0, l1, l2, l3, .int x, l5] S σ = ms_G 25 73 [l0, l1, l2, l3, .int x, l5] (.int x :: S) σ := (ms_G_at rfl _ _ _).trans rfl
theorem mi_25_73 : ms_G 25 73 L (.int (nI i) :: .ref (ms_ad r u) :: S) (ms_Z q w I J) = cond (mo_0 q.1 r u i) (ms_G 25 74 L (.int (I r u i) :: S) (ms_Z q w I J)) (ms_raw 25 73 L (.int (nI i) :: .ref (ms_ad r u) :: S) (ms_Z q w I J)) := mz_iald rfl
theorem mi_25_74 : ms_G 25 74 L (.int y :: .int x :: S) σ = ms_G 25 75 L (.int (x + y) :: S) σ := (ms_G_at rfl _ _ _).trans rfl
theorem mi_25_75 : ms_G 25 75 L (.int x :: .int (nI i) :: .ref (ms_ad r u) :: S) (ms_Z q w I J) = cond (mo_0 q.1 r u i) (ms_G 25 76 L S (ms_Z q true (ms_u I r u (upd (I r u) i x)) J)) (ms_raw 25 75 L (.int x :: .int (nI i) :: .ref (ms_ad r u) :: S) (ms_Z q w I J)) := mz_iast rfl x
theorem mi_25_76 : ms_G 25 76 [.ref a, l1, l2, l3, l4, l5] S σ = ms_G 25 77 [.ref a, l1, l2, l3, l4, l5] (.ref a :: S) σ := (ms_G_at rfl _ _ _).trans rfl
theorem mi_25_77 : ms_G 25 77 L (.ref (ms_ad 40 0) :: S) (ms_Z q w I J) = ms_G 25 80 L (.ref (ms_ad 59 0) :: S) (ms_Z q w I J) := mz_getf (c := (2, 59)) rfl (by decide) rfl (by decide) rfl
theorem mi_25_80 : ms_G 25 80 [l0, l1, .int x, l3, l4, l5] S σ = ms_G 25 81 [l0, l1, .int x, l3, l4, l5] (.int x :: S) σ := (ms_G_at rfl _ _ _).trans rfl
theorem mi_25_81 : ms_G 25 81 [.ref a, l1, l2, l3, l4, l5] S σ = ms_G 25 82 [.ref a, l1, l2, l3, l4, l5] (.ref a :: S) σ := (ms_G_at rfl _ _ _).trans rfl
theorem mi_25_82 : ms_G 25 82 L (.ref (ms_ad 40 0) :: S) (ms_Z q w I J) = ms_G 25 85 L (.ref (ms_ad 59 0) :: S) (ms_Z q w I J) := mz_getf (c := (2, 59)) rfl (by decide) rfl (by decide) rfl
theorem mi_25_85 : ms_G 25 85 [l0, l1, .int x, l3, l4, l5] S σ = ms_G 25 86 [l0, l1, .int x, l3, l4, l5] (.int x :: S) σ := (ms_G_at rfl _ _ _).trans rfl
theorem mi_25_86 : ms_G 25 86 L (.int (nI i) :: .ref (ms_ad r u) :: S) (ms_Z q w I J) = cond (mo_0 q.1 r u i) (ms_G 25 87 L (.int (I r u i) :: S) (ms_Z q w I J)) (ms_raw 25 86 L (.int (nI i) :: .ref (ms_ad r u) :: S) (ms_Z q w I J)) := mz_iald rfl
theorem mi_25_87 : ms_G 25 87 [.ref a, l1, l2, l3, l4, l5] S σ = ms_G 25 88 [.ref a, l1, l2, l3, l4, l5] (.ref a :: S) σ := (ms_G_at rfl _ _ _).trans rfl
theorem mi_25_88 : ms_G 25 88 L (.ref (ms_ad 40 0) :: S) (ms_Z q w I J) = ms_G 25 91 L (.ref (ms_ad 59 0) :: S) (ms_Z q w I J) := mz_getf (c := (2, 59)) rfl (by decide) rfl (by decide) rfl
theorem mi_25_91 : ms_G 25 91 [l0, l1, l2, .int x, l4, l5] S σ = ms_G 25 92 [l0, l1, l2, .int x, l4, l5] (.int x :: S) σ := (ms_G_at rfl _ _ _).trans rfl
theorem mi_25_92 : ms_G 25 92 L (.int (nI i) :: .ref (ms_ad r u) :: S) (ms_Z q w I J) = cond (mo_0 q.1 r u i) (ms_G 25 93 L (.int (I r u i) :: S) (ms_Z q w I J)) (ms_raw 25 92 L (.int (nI i) :: .ref (ms_ad r u) :: S) (ms_Z q w I J)) := mz_iald rfl
theorem mi_25_93 : ms_G 25 93 L (.int y :: .int x :: S) σ = ms_G 25 94 L (.int (x ^^^ y) :: S) σ := (ms_G_at rfl _ _ _).trans rfl
theorem mi_25_94 : ms_G 25 94 [l0, l1, l2, l3, l4, .int x] S σ = ms_G 25 96 [l0, l1, l2, l3, l4, .int x] (.int x :: S) σ := (ms_G_at rfl _ _ _).trans rfl
theorem mi_25_96 : ms_G 25 96 L (.int x :: S) σ = if x = nI 0 then ms_G 25 99 L S σ else ms_G 25 104 L S σ := mz_bra rfl rfl rfl
theorem mi_25_99 : ms_G 25 99 L S σ = ms_G 25 101 L (.int (nI 12) :: S) σ := (ms_G_at rfl _ _ _).trans rfl
theorem mi_25_101 : ms_G 25 101 L S σ = ms_G 25 106 L S σ := (ms_G_at rfl _ _ _).trans rfl
theorem mi_25_104 : ms_G 25 104 L S σ = ms_G 25 106 L (.int (nI 7) :: S) σ := (ms_G_at rfl _ _ _).trans rfl
theorem mi_25_106 : ms_G 25 106 L (.int x1 :: .int x0 :: [.int e0, .ref g1]) (ms_Z q w I J) = mo_cl 25 106 109 (ms_G 24 0 [.int x0, .int x1] [] (ms_Z q false I J)) w L [.int e0, .ref g1] := (mz_call rfl rfl (mz_can0 rfl rfl rfl rfl rfl)).trans rfl
theorem mi_25_109 : ms_G 25 109 L (.int x :: .int (nI i) :: .ref (ms_ad r u) :: S) (ms_Z q w I J) = cond (mo_0 q.1 r u i) (ms_G 25 110 L S (ms_Z q true (ms_u I r u (upd (I r u) i x)) J)) (ms_raw 25 109 L (.int x :: .int (nI i) :: .ref (ms_ad r u) :: S) (ms_Z q w I J)) := mz_iast rfl x
theorem mi_25_110 : ms_G 25 110 [l0, l1, l2, l3, .int y, .int x] S σ = ms_G 25 113 [l0, l1, l2, l3, .int y, .int (x + nI 1)] S σ := (ms_G_at rfl _ _ _).trans rfl
theorem mi_25_113 : ms_G 25 113 L S σ = ms_G 25 3 L S σ := (ms_G_at rfl _ _ _).trans rfl
theorem mi_25_116 : ms_G 25 116 L [] σ = some (.inl none, σ) := (ms_G_at rfl _ _ _).trans rfl
-- MaskedSum$Numbers.times(JJ)J
theorem mi_90_0 : ms_G 90 0 [.long X, l1, l2, l3, l4, l5, l6, l7, l8, l9, l10, l11, l12, l13, l14, l15] S σ = ms_G 90 1 [.long X, l1, l2, l3, l4, l5, l6, l7, l8, l9, l10, l11, l12, l13, l14, l15] (.long X :: S) σ := (ms_G_at rfl _ _ _).trans rfl
theorem mi_90_1 : ms_G 90 1 L S σ = ms_G 90 3 L (.int (nI 31) :: S) σ := (ms_G_at rfl _ _ _).trans rfl
theorem mi_90_3 : ms_G 90 3 L (.int y :: .long X :: S) σ = ms_G 90 4 L (.long ((X.toUInt64 >>> (y.toInt64.toUInt64 &&& Int64.toUInt64 63)).toInt64) :: S) σ := (ms_G_at rfl _ _ _).trans rfl
theorem mi_90_4 : ms_G 90 4 [l0, l1, l2, .null, l4, l5, l6, l7, l8, l9, l10, l11, l12, l13, l14, l15] (.long X :: S) σ = ms_G 90 6 [l0, l1, l2, .null, .long X, .null, l6, l7, l8, l9, l10, l11, l12, l13, l14, l15] S σ := (ms_G_at rfl _ _ _).trans rfl
theorem mi_90_6 : ms_G 90 6 [.long X, l1, l2, l3, l4, l5, l6, l7, l8, l9, l10, l11, l12, l13, l14, l15] S σ = ms_G 90 7 [.long X, l1, l2, l3, l4, l5, l6, l7, l8, l9, l10, l11, l12, l13, l14, l15] (.long X :: S) σ := (ms_G_at rfl _ _ _).trans rfl
theorem mi_90_7 : ms_G 90 7 L S σ = ms_G 90 10 L (.long (lN 2147483647) :: S) σ := (ms_G_at rfl _ _ _).trans rfl
theorem mi_90_10 : ms_G 90 10 L (.long Y :: .long X :: S) σ = ms_G 90 11 L (.long (X &&& Y) :: S) σ := (ms_G_at rfl _ _ _).trans rfl
theorem mi_90_11 : ms_G 90 11 [l0, l1, l2, l3, l4, .null, l6, l7, l8, l9, l10, l11, l12, l13, l14, l15] (.long X :: S) σ = ms_G 90 13 [l0, l1, l2, l3, l4, .null, .long X, .null, l8, l9, l10, l11, l12, l13, l14, l15] S σ := (ms_G_at rfl _ _ _).trans rfl
theorem mi_90_13 : ms_G 90 13 [l0, l1, .long X, l3, l4, l5, l6, l7, l8, l9, l10, l11, l12, l13, l14, l15] S σ = ms_G 90 14 [l0, l1, .long X, l3, l4, l5, l6, l7, l8, l9, l10, l11, l12, l13, l14, l15] (.long X :: S) σ := (ms_G_at rfl _ _ _).trans rfl
theorem mi_90_14 : ms_G 90 14 L S σ = ms_G 90 16 L (.int (nI 31) :: S) σ := (ms_G_at rfl _ _ _).trans rfl
theorem mi_90_16 : ms_G 90 16 L (.int y :: .long X :: S) σ = ms_G 90 17 L (.long ((X.toUInt64 >>> (y.toInt64.toUInt64 &&& Int64.toUInt64 63)).toInt64) :: S) σ := (ms_G_at rfl _ _ _).trans rfl
theorem mi_90_17 : ms_G 90 17 [l0, l1, l2, l3, l4, l5, l6, .null, l8, l9, l10, l11, l12, l13, l14, l15] (.long X :: S) σ = ms_G 90 19 [l0, l1, l2, l3, l4, l5, l6, .null, .long X, .null, l10, l11, l12, l13, l14, l15] S σ := (ms_G_at rfl _ _ _).trans rfl
theorem mi_90_19 : ms_G 90 19 [l0, l1, .long X, l3, l4, l5, l6, l7, l8, l9, l10, l11, l12, l13, l14, l15] S σ = ms_G 90 20 [l0, l1, .long X, l3, l4, l5, l6, l7, l8, l9, l10, l11, l12, l13, l14, l15] (.long X :: S) σ := (ms_G_at rfl _ _ _).trans rfl
theorem mi_90_20 : ms_G 90 20 L S σ = ms_G 90 23 L (.long (lN 2147483647) :: S) σ := (ms_G_at rfl _ _ _).trans rfl
theorem mi_90_23 : ms_G 90 23 L (.long Y :: .long X :: S) σ = ms_G 90 24 L (.long (X &&& Y) :: S) σ := (ms_G_at rfl _ _ _).trans rfl
theorem mi_90_24 : ms_G 90 24 [l0, l1, l2, l3, l4, l5, l6, l7, l8, .null, l10, l11, l12, l13, l14, l15] (.long X :: S) σ = ms_G 90 26 [l0, l1, l2, l3, l4, l5, l6, l7, l8, .null, .long X, .null, l12, l13, l14, l15] S σ := (ms_G_at rfl _ _ _).trans rfl
theorem mi_90_26 : ms_G 90 26 [l0, l1, l2, l3, .long X, l5, l6, l7, l8, l9, l10, l11, l12, l13, l14, l15] S σ = ms_G 90 28 [l0, l1, l2, l3, .long X, l5, l6, l7, l8, l9, l10, l11, l12, l13, l14, l15] (.long X :: S) σ := (ms_G_at rfl _ _ _).trans rfl
theorem mi_90_28 : ms_G 90 28 [l0, l1, l2, l3, l4, l5, l6, l7, l8, l9, .long X, l11, l12, l13, l14, l15] S σ = ms_G 90 30 [l0, l1, l2, l3, l4, l5, l6, l7, l8, l9, .long X, l11, l12, l13, l14, l15] (.long X :: S) σ := (ms_G_at rfl _ _ _).trans rfl
theorem mi_90_30 : ms_G 90 30 L (.long Y :: .long X :: S) σ = ms_G 90 31 L (.long (X * Y) :: S) σ := (ms_G_at rfl _ _ _).trans rfl
theorem mi_90_31 : ms_G 90 31 [l0, l1, l2, l3, l4, l5, .long X, l7, l8, l9, l10, l11, l12, l13, l14, l15] S σ = ms_G 90 33 [l0, l1, l2, l3, l4, l5, .long X, l7, l8, l9, l10, l11, l12, l13, l14, l15] (.long X :: S) σ := (ms_G_at rfl _ _ _).trans rfl
theorem mi_90_33 : ms_G 90 33 [l0, l1, l2, l3, l4, l5, l6, l7, .long X, l9, l10, l11, l12, l13, l14, l15] S σ = ms_G 90 35 [l0, l1, l2, l3, l4, l5, l6, l7, .long X, l9, l10, l11, l12, l13, l14, l15] (.long X :: S) σ := (ms_G_at rfl _ _ _).trans rfl
theorem mi_90_35 : ms_G 90 35 L (.long Y :: .long X :: S) σ = ms_G 90 36 L (.long (X * Y) :: S) σ := (ms_G_at rfl _ _ _).trans rfl
theorem mi_90_36 : ms_G 90 36 L (.long Y :: .long X :: S) σ = ms_G 90 37 L (.long (X + Y) :: S) σ := (ms_G_at rfl _ _ _).trans rfl
theorem mi_90_37 : ms_G 90 37 [l0, l1, l2, l3, l4, l5, l6, l7, l8, l9, l10, .null, l12, l13, l14, l15] (.long X :: S) σ = ms_G 90 39 [l0, l1, l2, l3, l4, l5, l6, l7, l8, l9, l10, .null, .long X, .null, l14, l15] S σ := (ms_G_at rfl _ _ _).trans rfl
theorem mi_90_39 : ms_G 90 39 [l0, l1, l2, l3, l4, l5, l6, l7, l8, l9, l10, l11, .long X, l13, l14, l15] S σ = ms_G 90 41 [l0, l1, l2, l3, l4, l5, l6, l7, l8, l9, l10, l11, .long X, l13, l14, l15] (.long X :: S) σ := (ms_G_at rfl _ _ _).trans rfl
theorem mi_90_41 : ms_G 90 41 L S σ = ms_G 90 43 L (.int (nI 30) :: S) σ := (ms_G_at rfl _ _ _).trans rfl
theorem mi_90_43 : ms_G 90 43 L (.int y :: .long X :: S) σ = ms_G 90 44 L (.long ((X.toUInt64 >>> (y.toInt64.toUInt64 &&& Int64.toUInt64 63)).toInt64) :: S) σ := (ms_G_at rfl _ _ _).trans rfl
theorem mi_90_44 : ms_G 90 44 [l0, l1, l2, l3, l4, l5, l6, l7, l8, l9, l10, l11, .long X, l13, l14, l15] S σ = ms_G 90 46 [l0, l1, l2, l3, l4, l5, l6, l7, l8, l9, l10, l11, .long X, l13, l14, l15] (.long X :: S) σ := (ms_G_at rfl _ _ _).trans rfl
theorem mi_90_46 : ms_G 90 46 L S σ = ms_G 90 49 L (.long (lN 1073741823) :: S) σ := (ms_G_at rfl _ _ _).trans rfl
theorem mi_90_49 : ms_G 90 49 L (.long Y :: .long X :: S) σ = ms_G 90 50 L (.long (X &&& Y) :: S) σ := (ms_G_at rfl _ _ _).trans rfl
theorem mi_90_50 : ms_G 90 50 L S σ = ms_G 90 52 L (.int (nI 31) :: S) σ := (ms_G_at rfl _ _ _).trans rfl
theorem mi_90_52 : ms_G 90 52 L (.int y :: .long X :: S) σ = ms_G 90 53 L (.long (X <<< (y.toInt64 &&& 63)) :: S) σ := (ms_G_at rfl _ _ _).trans rfl
theorem mi_90_53 : ms_G 90 53 L (.long Y :: .long X :: S) σ = ms_G 90 54 L (.long (X + Y) :: S) σ := (ms_G_at rfl _ _ _).trans rfl
theorem mi_90_54 : ms_G 90 54 [l0, l1, l2, l3, l4, l5, l6, l7, l8, l9, l10, l11, l12, .null, l14, l15] (.long X :: S) σ = ms_G 90 56 [l0, l1, l2, l3, l4, l5, l6, l7, l8, l9, l10, l11, l12, .null, .long X, .null] S σ := (ms_G_at rfl _ _ _).trans rfl
theorem mi_90_56 : ms_G 90 56 L S σ = ms_G 90 59 L (.long (lN 2) :: S) σ := (ms_G_at rfl _ _ _).trans rfl
theorem mi_90_59 : ms_G 90 59 [l0, l1, l2, l3, .long X, l5, l6, l7, l8, l9, l10, l11, l12, l13, l14, l15] S σ = ms_G 90 61 [l0, l1, l2, l3, .long X, l5, l6, l7, l8, l9, l10, l11, l12, l13, l14, l15] (.long X :: S) σ := (ms_G_at rfl _ _ _).trans rfl
theorem mi_90_61 : ms_G 90 61 L (.long Y :: .long X :: S) σ = ms_G 90 62 L (.long (X * Y) :: S) σ := (ms_G_at rfl _ _ _).trans rfl
theorem mi_90_62 : ms_G 90 62 [l0, l1, l2, l3, l4, l5, l6, l7, .long X, l9, l10, l11, l12, l13, l14, l15] S σ = ms_G 90 64 [l0, l1, l2, l3, l4, l5, l6, l7, .long X, l9, l10, l11, l12, l13, l14, l15] (.long X :: S) σ := (ms_G_at rfl _ _ _).trans rfl
theorem mi_90_64 : ms_G 90 64 L (.long Y :: .long X :: S) σ = ms_G 90 65 L (.long (X * Y) :: S) σ := (ms_G_at rfl _ _ _).trans rfl
theorem mi_90_65 : ms_G 90 65 [l0, l1, l2, l3, l4, l5, l6, l7, l8, l9, l10, l11, l12, l13, .long X, l15] S σ = ms_G 90 67 [l0, l1, l2, l3, l4, l5, l6, l7, l8, l9, l10, l11, l12, l13, .long X, l15] (.long X :: S) σ := (ms_G_at rfl _ _ _).trans rfl
theorem mi_90_67 : ms_G 90 67 L (.long Y :: .long X :: S) σ = ms_G 90 68 L (.long (X + Y) :: S) σ := (ms_G_at rfl _ _ _).trans rfl
theorem mi_90_68 : ms_G 90 68 [l0, l1, l2, l3, l4, l5, .long X, l7, l8, l9, l10, l11, l12, l13, l14, l15] S σ = ms_G 90 70 [l0, l1, l2, l3, l4, l5, .long X, l7, l8, l9, l10, l11, l12, l13, l14, l15] (.long X :: S) σ := (ms_G_at rfl _ _ _).trans rfl
theorem mi_90_70 : ms_G 90 70 [l0, l1, l2, l3, l4, l5, l6, l7, l8, l9, .long X, l11, l12, l13, l14, l15] S σ = ms_G 90 72 [l0, l1, l2, l3, l4, l5, l6, l7, l8, l9, .long X, l11, l12, l13, l14, l15] (.long X :: S) σ := (ms_G_at rfl _ _ _).trans rfl
theorem mi_90_72 : ms_G 90 72 L (.long Y :: .long X :: S) σ = ms_G 90 73 L (.long (X * Y) :: S) σ := (ms_G_at rfl _ _ _).trans rfl
theorem mi_90_73 : ms_G 90 73 L (.long Y :: .long X :: S) σ = ms_G 90 74 L (.long (X + Y) :: S) σ := (ms_G_at rfl _ _ _).trans rfl
theorem mi_90_74 : ms_G 90 74 L [.long X0] (ms_Z q w I J) = mo_cl 90 74 77 (ms_G 87 0 [.long X0, .null, .null, .null] [] (ms_Z q false I J)) w L [] := (mz_call rfl rfl (mz_can0 rfl rfl rfl rfl rfl)).trans rfl
theorem mi_90_77 : ms_G 90 77 L [.long X] σ = some (.inl (some (.long X)), σ) := (ms_G_at rfl _ _ _).trans rfl
-- MaskedSum$Numbers.power(JJ)J
theorem mi_91_0 : ms_G 91 0 L S σ = ms_G 91 1 L (.long (lN 1) :: S) σ := (ms_G_at rfl _ _ _).trans rfl
theorem mi_91_1 : ms_G 91 1 [l0, l1, l2, .null, l4, l5, l6, l7, l8] (.long X :: S) σ = ms_G 91 3 [l0, l1, l2, .null, .long X, .null, l6, l7, l8] S σ := (ms_G_at rfl _ _ _).trans rfl
theorem mi_91_3 : ms_G 91 3 [.long X, l1, l2, l3, l4, l5, l6, l7, l8] S σ = ms_G 91 4 [.long X, l1, l2, l3, l4, l5, l6, l7, l8] (.long X :: S) σ := (ms_G_at rfl _ _ _).trans rfl
theorem mi_91_4 : ms_G 91 4 [l0, l1, l2, l3, l4, .null, l6, l7, l8] (.long X :: S) σ = ms_G 91 6 [l0, l1, l2, l3, l4, .null, .long X, .null, l8] S σ := (ms_G_at rfl _ _ _).trans rfl
theorem mi_91_6 : ms_G 91 6 L S σ = ms_G 91 7 L (.int (nI 0) :: S) σ := (ms_G_at rfl _ _ _).trans rfl
theorem mi_91_7 : ms_G 91 7 [l0, l1, l2, l3, l4, l5, l6, .null, l8] (.int x :: S) σ = ms_G 91 9 [l0, l1, l2, l3, l4, l5, l6, .null, .int x] S σ := (ms_G_at rfl _ _ _).trans rfl
theorem mi_91_9 : ms_G 91 9 [l0, l1, l2, l3, l4, l5, l6, l7, .int x] S σ = ms_G 91 11 [l0, l1, l2, l3, l4, l5, l6, l7, .int x] (.int x :: S) σ := (ms_G_at rfl _ _ _).trans rfl
theorem mi_91_11 : ms_G 91 11 L S σ = ms_G 91 13 L (.int (nI 61) :: S) σ := (ms_G_at rfl _ _ _).trans rfl
theorem mi_91_13 : ms_G 91 13 L (.int y :: .int x :: S) σ = if y ≤ x then ms_G 91 51 L S σ else ms_G 91 16 L S σ := mz_bra rfl rfl rfl
theorem mi_91_16 : ms_G 91 16 [l0, l1, .long X, l3, l4, l5, l6, l7, l8] S σ = ms_G 91 17 [l0, l1, .long X, l3, l4, l5, l6, l7, l8] (.long X :: S) σ := (ms_G_at rfl _ _ _).trans rfl
theorem mi_91_17 : ms_G 91 17 [l0, l1, l2, l3, l4, l5, l6, l7, .int x] S σ = ms_G 91 19 [l0, l1, l2, l3, l4, l5, l6, l7, .int x] (.int x :: S) σ := (ms_G_at rfl _ _ _).trans rfl
theorem mi_91_19 : ms_G 91 19 L (.int y :: .long X :: S) σ = ms_G 91 20 L (.long ((X.toUInt64 >>> (y.toInt64.toUInt64 &&& Int64.toUInt64 63)).toInt64) :: S) σ := (ms_G_at rfl _ _ _).trans rfl
theorem mi_91_20 : ms_G 91 20 L S σ = ms_G 91 21 L (.long (lN 1) :: S) σ := (ms_G_at rfl _ _ _).trans rfl
theorem mi_91_21 : ms_G 91 21 L (.long Y :: .long X :: S) σ = ms_G 91 22 L (.long (X &&& Y) :: S) σ := (ms_G_at rfl _ _ _).trans rfl
theorem mi_91_22 : ms_G 91 22 L S σ = ms_G 91 23 L (.long (lN 0) :: S) σ := (ms_G_at rfl _ _ _).trans rfl
theorem mi_91_23 : ms_G 91 23 L (.long Y :: .long X :: S) σ = ms_G 91 24 L (.int (lg_cmp X Y) :: S) σ := (ms_G_at rfl _ _ _).trans rfl
theorem mi_91_24 : ms_G 91 24 L (.int x :: S) σ = if x = nI 0 then ms_G 91 36 L S σ else ms_G 91 27 L S σ := mz_bra rfl rfl rfl
theorem mi_91_27 : ms_G 91 27 [l0, l1, l2, l3, .long X, l5, l6, l7, l8] S σ = ms_G 91 29 [l0, l1, l2, l3, .long X, l5, l6, l7, l8] (.long X :: S) σ := (ms_G_at rfl _ _ _).trans rfl
theorem mi_91_29 : ms_G 91 29 [l0, l1, l2, l3, l4, l5, .long X, l7, l8] S σ = ms_G 91 31 [l0, l1, l2, l3, l4, l5, .long X, l7, l8] (.long X :: S) σ := (ms_G_at rfl _ _ _).trans rfl
theorem mi_91_31 : ms_G 91 31 L [.long X1, .long X0] (ms_Z q w I J) = mo_cl 91 31 34 (ms_G 90 0 [.long X0, .null, .long X1, .null, .null, .null, .null, .null, .null, .null, .null, .null, .null, .null, .null, .null] [] (ms_Z q false I J)) w L [] := (mz_call rfl rfl (mz_can0 rfl rfl rfl rfl rfl)).trans rfl
theorem mi_91_34 : ms_G 91 34 [l0, l1, l2, .null, l4, l5, l6, l7, l8] (.long X :: S) σ = ms_G 91 36 [l0, l1, l2, .null, .long X, .null, l6, l7, l8] S σ := (ms_G_at rfl _ _ _).trans rfl
theorem mi_91_36 : ms_G 91 36 [l0, l1, l2, l3, l4, l5, .long X, l7, l8] S σ = ms_G 91 38 [l0, l1, l2, l3, l4, l5, .long X, l7, l8] (.long X :: S) σ := (ms_G_at rfl _ _ _).trans rfl
theorem mi_91_38 : ms_G 91 38 [l0, l1, l2, l3, l4, l5, .long X, l7, l8] S σ = ms_G 91 40 [l0, l1, l2, l3, l4, l5, .long X, l7, l8] (.long X :: S) σ := (ms_G_at rfl _ _ _).trans rfl
theorem mi_91_40 : ms_G 91 40 L [.long X1, .long X0] (ms_Z q w I J) = mo_cl 91 40 43 (ms_G 90 0 [.long X0, .null, .long X1, .null, .null, .null, .null, .null, .null, .null, .null, .null, .null, .null, .null, .null] [] (ms_Z q false I J)) w L [] := (mz_call rfl rfl (mz_can0 rfl rfl rfl rfl rfl)).trans rfl
theorem mi_91_43 : ms_G 91 43 [l0, l1, l2, l3, l4, .null, l6, l7, l8] (.long X :: S) σ = ms_G 91 45 [l0, l1, l2, l3, l4, .null, .long X, .null, l8] S σ := (ms_G_at rfl _ _ _).trans rfl
theorem mi_91_45 : ms_G 91 45 [l0, l1, l2, l3, l4, l5, l6, .null, .int x] S σ = ms_G 91 48 [l0, l1, l2, l3, l4, l5, l6, .null, .int (x + nI 1)] S σ := (ms_G_at rfl _ _ _).trans rfl
theorem mi_91_48 : ms_G 91 48 L S σ = ms_G 91 9 L S σ := (ms_G_at rfl _ _ _).trans rfl
theorem mi_91_51 : ms_G 91 51 [l0, l1, l2, l3, .long X, l5, l6, l7, l8] S σ = ms_G 91 53 [l0, l1, l2, l3, .long X, l5, l6, l7, l8] (.long X :: S) σ := (ms_G_at rfl _ _ _).trans rfl
theorem mi_91_53 : ms_G 91 53 L [.long X] σ = some (.inl (some (.long X)), σ) := (ms_G_at rfl _ _ _).trans rfl
-- MaskedSum$ChaCha.quarterRound(IIII)V
theorem mi_67_0 : ms_G 67 0 [.ref a, l1, l2, l3, l4] S σ = ms_G 67 1 [.ref a, l1, l2, l3, l4] (.ref a :: S) σ := (ms_G_at rfl _ _ _).trans rfl
theorem mi_67_1 : ms_G 67 1 L (.ref (ms_ad 5 0) :: S) (ms_Z q w I J) = ms_G 67 4 L (.ref (ms_ad 7 0) :: S) (ms_Z q w I J) := mz_getf (c := (2, 7)) rfl (by decide) rfl (by decide) rfl
theorem mi_67_4 : ms_G 67 4 [l0, .int x, l2, l3, l4] S σ = ms_G 67 5 [l0, .int x, l2, l3, l4] (.int x :: S) σ := (ms_G_at rfl _ _ _).trans rfl
theorem mi_67_5 : ms_G 67 5 L (.int x :: .ref b :: S) σ = ms_G 67 6 L (.int x :: .ref b :: .int x :: .ref b :: S) σ := (ms_G_at rfl _ _ _).trans rfl
theorem mi_67_6 : ms_G 67 6 L (.int (nI i) :: .ref (ms_ad r u) :: S) (ms_Z q w I J) = cond (mo_0 q.1 r u i) (ms_G 67 7 L (.int (I r u i) :: S) (ms_Z q w I J)) (ms_raw 67 6 L (.int (nI i) :: .ref (ms_ad r u) :: S) (ms_Z q w I J)) := mz_iald rfl
theorem mi_67_7 : ms_G 67 7 [.ref a, l1, l2, l3, l4] S σ = ms_G 67 8 [.ref a, l1, l2, l3, l4] (.ref a :: S) σ := (ms_G_at rfl _ _ _).trans rfl
theorem mi_67_8 : ms_G 67 8 L (.ref (ms_ad 5 0) :: S) (ms_Z q w I J) = ms_G 67 11 L (.ref (ms_ad 7 0) :: S) (ms_Z q w I J) := mz_getf (c := (2, 7)) rfl (by decide) rfl (by decide) rfl
theorem mi_67_11 : ms_G 67 11 [l0, l1, .int x, l3, l4] S σ = ms_G 67 12 [l0, l1, .int x, l3, l4] (.int x :: S) σ := (ms_G_at rfl _ _ _).trans rfl
theorem mi_67_12 : ms_G 67 12 L (.int (nI i) :: .ref (ms_ad r u) :: S) (ms_Z q w I J) = cond (mo_0 q.1 r u i) (ms_G 67 13 L (.int (I r u i) :: S) (ms_Z q w I J)) (ms_raw 67 12 L (.int (nI i) :: .ref (ms_ad r u) :: S) (ms_Z q w I J)) := mz_iald rfl
theorem mi_67_13 : ms_G 67 13 L (.int y :: .int x :: S) σ = ms_G 67 14 L (.int (x + y) :: S) σ := (ms_G_at rfl _ _ _).trans rfl
theorem mi_67_14 : ms_G 67 14 L (.int x :: .int (nI i) :: .ref (ms_ad r u) :: S) (ms_Z q w I J) = cond (mo_0 q.1 r u i) (ms_G 67 15 L S (ms_Z q true (ms_u I r u (upd (I r u) i x)) J)) (ms_raw 67 14 L (.int x :: .int (nI i) :: .ref (ms_ad r u) :: S) (ms_Z q w I J)) := mz_iast rfl x
theorem mi_67_15 : ms_G 67 15 [.ref a, l1, l2, l3, l4] S σ = ms_G 67 16 [.ref a, l1, l2, l3, l4] (.ref a :: S) σ := (ms_G_at rfl _ _ _).trans rfl
theorem mi_67_16 : ms_G 67 16 L (.ref (ms_ad 5 0) :: S) (ms_Z q w I J) = ms_G 67 19 L (.ref (ms_ad 7 0) :: S) (ms_Z q w I J) := mz_getf (c := (2, 7)) rfl (by decide) rfl (by decide) rfl
theorem mi_67_19 : ms_G 67 19 [l0, l1, l2, l3, .int x] S σ = ms_G 67 21 [l0, l1, l2, l3, .int x] (.int x :: S) σ := (ms_G_at rfl _ _ _).trans rfl
theorem mi_67_21 : ms_G 67 21 [.ref a, l1, l2, l3, l4] S σ = ms_G 67 22 [.ref a, l1, l2, l3, l4] (.ref a :: S) σ := (ms_G_at rfl _ _ _).trans rfl
theorem mi_67_22 : ms_G 67 22 L (.ref (ms_ad 5 0) :: S) (ms_Z q w I J) = ms_G 67 25 L (.ref (ms_ad 7 0) :: S) (ms_Z q w I J) := mz_getf (c := (2, 7)) rfl (by decide) rfl (by decide) rfl
theorem mi_67_25 : ms_G 67 25 [l0, l1, l2, l3, .int x] S σ = ms_G 67 27 [l0, l1, l2, l3, .int x] (.int x :: S) σ := (ms_G_at rfl _ _ _).trans rfl
theorem mi_67_27 : ms_G 67 27 L (.int (nI i) :: .ref (ms_ad r u) :: S) (ms_Z q w I J) = cond (mo_0 q.1 r u i) (ms_G 67 28 L (.int (I r u i) :: S) (ms_Z q w I J)) (ms_raw 67 27 L (.int (nI i) :: .ref (ms_ad r u) :: S) (ms_Z q w I J)) := mz_iald rfl
theorem mi_67_28 : ms_G 67 28 [.ref a, l1, l2, l3, l4] S σ = ms_G 67 29 [.ref a, l1, l2, l3, l4] (.ref a :: S) σ := (ms_G_at rfl _ _ _).trans rfl
theorem mi_67_29 : ms_G 67 29 L (.ref (ms_ad 5 0) :: S) (ms_Z q w I J) = ms_G 67 32 L (.ref (ms_ad 7 0) :: S) (ms_Z q w I J) := mz_getf (c := (2, 7)) rfl (by decide) rfl (by decide) rfl
theorem mi_67_32 : ms_G 67 32 [l0, .int x, l2, l3, l4] S σ = ms_G 67 33 [l0, .int x, l2, l3, l4] (.int x :: S) σ := (ms_G_at rfl _ _ _).trans rfl
theorem mi_67_33 : ms_G 67 33 L (.int (nI i) :: .ref (ms_ad r u) :: S) (ms_Z q w I J) = cond (mo_0 q.1 r u i) (ms_G 67 34 L (.int (I r u i) :: S) (ms_Z q w I J)) (ms_raw 67 33 L (.int (nI i) :: .ref (ms_ad r u) :: S) (ms_Z q w I J)) := mz_iald rfl
theorem mi_67_34 : ms_G 67 34 L (.int y :: .int x :: S) σ = ms_G 67 35 L (.int (x ^^^ y) :: S) σ := (ms_G_at rfl _ _ _).trans rfl
theorem mi_67_35 : ms_G 67 35 L S σ = ms_G 67 37 L (.int (nI 16) :: S) σ := (ms_G_at rfl _ _ _).trans rfl
theorem mi_67_37 : ms_G 67 37 L (.int x1 :: .int x0 :: [.int e0, .ref g1]) (ms_Z q w I J) = mo_cl 67 37 40 (ms_G 147 0 [.int x0, .int x1] [] (ms_Z q false I J)) w L [.int e0, .ref g1] := (mz_call rfl rfl (mz_can0 rfl rfl rfl rfl rfl)).trans rfl
theorem mi_67_40 : ms_G 67 40 L (.int x :: .int (nI i) :: .ref (ms_ad r u) :: S) (ms_Z q w I J) = cond (mo_0 q.1 r u i) (ms_G 67 41 L S (ms_Z q true (ms_u I r u (upd (I r u) i x)) J)) (ms_raw 67 40 L (.int x :: .int (nI i) :: .ref (ms_ad r u) :: S) (ms_Z q w I J)) := mz_iast rfl x
theorem mi_67_41 : ms_G 67 41 [.ref a, l1, l2, l3, l4] S σ = ms_G 67 42 [.ref a, l1, l2, l3, l4] (.ref a :: S) σ := (ms_G_at rfl _ _ _).trans rfl
theorem mi_67_42 : ms_G 67 42 L (.ref (ms_ad 5 0) :: S) (ms_Z q w I J) = ms_G 67 45 L (.ref (ms_ad 7 0) :: S) (ms_Z q w I J) := mz_getf (c := (2, 7)) rfl (by decide) rfl (by decide) rfl
theorem mi_67_45 : ms_G 67 45 [l0, l1, l2, .int x, l4] S σ = ms_G 67 46 [l0, l1, l2, .int x, l4] (.int x :: S) σ := (ms_G_at rfl _ _ _).trans rfl
theorem mi_67_46 : ms_G 67 46 L (.int x :: .ref b :: S) σ = ms_G 67 47 L (.int x :: .ref b :: .int x :: .ref b :: S) σ := (ms_G_at rfl _ _ _).trans rfl
theorem mi_67_47 : ms_G 67 47 L (.int (nI i) :: .ref (ms_ad r u) :: S) (ms_Z q w I J) = cond (mo_0 q.1 r u i) (ms_G 67 48 L (.int (I r u i) :: S) (ms_Z q w I J)) (ms_raw 67 47 L (.int (nI i) :: .ref (ms_ad r u) :: S) (ms_Z q w I J)) := mz_iald rfl
theorem mi_67_48 : ms_G 67 48 [.ref a, l1, l2, l3, l4] S σ = ms_G 67 49 [.ref a, l1, l2, l3, l4] (.ref a :: S) σ := (ms_G_at rfl _ _ _).trans rfl
theorem mi_67_49 : ms_G 67 49 L (.ref (ms_ad 5 0) :: S) (ms_Z q w I J) = ms_G 67 52 L (.ref (ms_ad 7 0) :: S) (ms_Z q w I J) := mz_getf (c := (2, 7)) rfl (by decide) rfl (by decide) rfl
theorem mi_67_52 : ms_G 67 52 [l0, l1, l2, l3, .int x] S σ = ms_G 67 54 [l0, l1, l2, l3, .int x] (.int x :: S) σ := (ms_G_at rfl _ _ _).trans rfl
theorem mi_67_54 : ms_G 67 54 L (.int (nI i) :: .ref (ms_ad r u) :: S) (ms_Z q w I J) = cond (mo_0 q.1 r u i) (ms_G 67 55 L (.int (I r u i) :: S) (ms_Z q w I J)) (ms_raw 67 54 L (.int (nI i) :: .ref (ms_ad r u) :: S) (ms_Z q w I J)) := mz_iald rfl
theorem mi_67_55 : ms_G 67 55 L (.int y :: .int x :: S) σ = ms_G 67 56 L (.int (x + y) :: S) σ := (ms_G_at rfl _ _ _).trans rfl
theorem mi_67_56 : ms_G 67 56 L (.int x :: .int (nI i) :: .ref (ms_ad r u) :: S) (ms_Z q w I J) = cond (mo_0 q.1 r u i) (ms_G 67 57 L S (ms_Z q true (ms_u I r u (upd (I r u) i x)) J)) (ms_raw 67 56 L (.int x :: .int (nI i) :: .ref (ms_ad r u) :: S) (ms_Z q w I J)) := mz_iast rfl x
theorem mi_67_57 : ms_G 67 57 [.ref a, l1, l2, l3, l4] S σ = ms_G 67 58 [.ref a, l1, l2, l3, l4] (.ref a :: S) σ := (ms_G_at rfl _ _ _).trans rfl
theorem mi_67_58 : ms_G 67 58 L (.ref (ms_ad 5 0) :: S) (ms_Z q w I J) = ms_G 67 61 L (.ref (ms_ad 7 0) :: S) (ms_Z q w I J) := mz_getf (c := (2, 7)) rfl (by decide) rfl (by decide) rfl
theorem mi_67_61 : ms_G 67 61 [l0, l1, .int x, l3, l4] S σ = ms_G 67 62 [l0, l1, .int x, l3, l4] (.int x :: S) σ := (ms_G_at rfl _ _ _).trans rfl
theorem mi_67_62 : ms_G 67 62 [.ref a, l1, l2, l3, l4] S σ = ms_G 67 63 [.ref a, l1, l2, l3, l4] (.ref a :: S) σ := (ms_G_at rfl _ _ _).trans rfl
theorem mi_67_63 : ms_G 67 63 L (.ref (ms_ad 5 0) :: S) (ms_Z q w I J) = ms_G 67 66 L (.ref (ms_ad 7 0) :: S) (ms_Z q w I J) := mz_getf (c := (2, 7)) rfl (by decide) rfl (by decide) rfl
theorem mi_67_66 : ms_G 67 66 [l0, l1, .int x, l3, l4] S σ = ms_G 67 67 [l0, l1, .int x, l3, l4] (.int x :: S) σ := (ms_G_at rfl _ _ _).trans rfl
theorem mi_67_67 : ms_G 67 67 L (.int (nI i) :: .ref (ms_ad r u) :: S) (ms_Z q w I J) = cond (mo_0 q.1 r u i) (ms_G 67 68 L (.int (I r u i) :: S) (ms_Z q w I J)) (ms_raw 67 67 L (.int (nI i) :: .ref (ms_ad r u) :: S) (ms_Z q w I J)) := mz_iald rfl
theorem mi_67_68 : ms_G 67 68 [.ref a, l1, l2, l3, l4] S σ = ms_G 67 69 [.ref a, l1, l2, l3, l4] (.ref a :: S) σ := (ms_G_at rfl _ _ _).trans rfl
theorem mi_67_69 : ms_G 67 69 L (.ref (ms_ad 5 0) :: S) (ms_Z q w I J) = ms_G 67 72 L (.ref (ms_ad 7 0) :: S) (ms_Z q w I J) := mz_getf (c := (2, 7)) rfl (by decide) rfl (by decide) rfl
theorem mi_67_72 : ms_G 67 72 [l0, l1, l2, .int x, l4] S σ = ms_G 67 73 [l0, l1, l2, .int x, l4] (.int x :: S) σ := (ms_G_at rfl _ _ _).trans rfl
theorem mi_67_73 : ms_G 67 73 L (.int (nI i) :: .ref (ms_ad r u) :: S) (ms_Z q w I J) = cond (mo_0 q.1 r u i) (ms_G 67 74 L (.int (I r u i) :: S) (ms_Z q w I J)) (ms_raw 67 73 L (.int (nI i) :: .ref (ms_ad r u) :: S) (ms_Z q w I J)) := mz_iald rfl
theorem mi_67_74 : ms_G 67 74 L (.int y :: .int x :: S) σ = ms_G 67 75 L (.int (x ^^^ y) :: S) σ := (ms_G_at rfl _ _ _).trans rfl
theorem mi_67_75 : ms_G 67 75 L S σ = ms_G 67 77 L (.int (nI 12) :: S) σ := (ms_G_at rfl _ _ _).trans rfl
theorem mi_67_77 : ms_G 67 77 L (.int x1 :: .int x0 :: [.int e0, .ref g1]) (ms_Z q w I J) = mo_cl 67 77 80 (ms_G 147 0 [.int x0, .int x1] [] (ms_Z q false I J)) w L [.int e0, .ref g1] := (mz_call rfl rfl (mz_can0 rfl rfl rfl rfl rfl)).trans rfl
theorem mi_67_80 : ms_G 67 80 L (.int x :: .int (nI i) :: .ref (ms_ad r u) :: S) (ms_Z q w I J) = cond (mo_0 q.1 r u i) (ms_G 67 81 L S (ms_Z q true (ms_u I r u (upd (I r u) i x)) J)) (ms_raw 67 80 L (.int x :: .int (nI i) :: .ref (ms_ad r u) :: S) (ms_Z q w I J)) := mz_iast rfl x
theorem mi_67_81 : ms_G 67 81 [.ref a, l1, l2, l3, l4] S σ = ms_G 67 82 [.ref a, l1, l2, l3, l4] (.ref a :: S) σ := (ms_G_at rfl _ _ _).trans rfl
theorem mi_67_82 : ms_G 67 82 L (.ref (ms_ad 5 0) :: S) (ms_Z q w I J) = ms_G 67 85 L (.ref (ms_ad 7 0) :: S) (ms_Z q w I J) := mz_getf (c := (2, 7)) rfl (by decide) rfl (by decide) rfl
theorem mi_67_85 : ms_G 67 85 [l0, .int x, l2, l3, l4] S σ = ms_G 67 86 [l0, .int x, l2, l3, l4] (.int x :: S) σ := (ms_G_at rfl _ _ _).trans rfl
theorem mi_67_86 : ms_G 67 86 L (.int x :: .ref b :: S) σ = ms_G 67 87 L (.int x :: .ref b :: .int x :: .ref b :: S) σ := (ms_G_at rfl _ _ _).trans rfl
theorem mi_67_87 : ms_G 67 87 L (.int (nI i) :: .ref (ms_ad r u) :: S) (ms_Z q w I J) = cond (mo_0 q.1 r u i) (ms_G 67 88 L (.int (I r u i) :: S) (ms_Z q w I J)) (ms_raw 67 87 L (.int (nI i) :: .ref (ms_ad r u) :: S) (ms_Z q w I J)) := mz_iald rfl
theorem mi_67_88 : ms_G 67 88 [.ref a, l1, l2, l3, l4] S σ = ms_G 67 89 [.ref a, l1, l2, l3, l4] (.ref a :: S) σ := (ms_G_at rfl _ _ _).trans rfl
theorem mi_67_89 : ms_G 67 89 L (.ref (ms_ad 5 0) :: S) (ms_Z q w I J) = ms_G 67 92 L (.ref (ms_ad 7 0) :: S) (ms_Z q w I J) := mz_getf (c := (2, 7)) rfl (by decide) rfl (by decide) rfl
theorem mi_67_92 : ms_G 67 92 [l0, l1, .int x, l3, l4] S σ = ms_G 67 93 [l0, l1, .int x, l3, l4] (.int x :: S) σ := (ms_G_at rfl _ _ _).trans rfl
theorem mi_67_93 : ms_G 67 93 L (.int (nI i) :: .ref (ms_ad r u) :: S) (ms_Z q w I J) = cond (mo_0 q.1 r u i) (ms_G 67 94 L (.int (I r u i) :: S) (ms_Z q w I J)) (ms_raw 67 93 L (.int (nI i) :: .ref (ms_ad r u) :: S) (ms_Z q w I J)) := mz_iald rfl
theorem mi_67_94 : ms_G 67 94 L (.int y :: .int x :: S) σ = ms_G 67 95 L (.int (x + y) :: S) σ := (ms_G_at rfl _ _ _).trans rfl
theorem mi_67_95 : ms_G 67 95 L (.int x :: .int (nI i) :: .ref (ms_ad r u) :: S) (ms_Z q w I J) = cond (mo_0 q.1 r u i) (ms_G 67 96 L S (ms_Z q true (ms_u I r u (upd (I r u) i x)) J)) (ms_raw 67 95 L (.int x :: .int (nI i) :: .ref (ms_ad r u) :: S) (ms_Z q w I J)) := mz_iast rfl x
theorem mi_67_96 : ms_G 67 96 [.ref a, l1, l2, l3, l4] S σ = ms_G 67 97 [.ref a, l1, l2, l3, l4] (.ref a :: S) σ := (ms_G_at rfl _ _ _).trans rfl
theorem mi_67_97 : ms_G 67 97 L (.ref (ms_ad 5 0) :: S) (ms_Z q w I J) = ms_G 67 100 L (.ref (ms_ad 7 0) :: S) (ms_Z q w I J) := mz_getf (c := (2, 7)) rfl (by decide) rfl (by decide) rfl
theorem mi_67_100 : ms_G 67 100 [l0, l1, l2, l3, .int x] S σ = ms_G 67 102 [l0, l1, l2, l3, .int x] (.int x :: S) σ := (ms_G_at rfl _ _ _).trans rfl
theorem mi_67_102 : ms_G 67 102 [.ref a, l1, l2, l3, l4] S σ = ms_G 67 103 [.ref a, l1, l2, l3, l4] (.ref a :: S) σ := (ms_G_at rfl _ _ _).trans rfl
theorem mi_67_103 : ms_G 67 103 L (.ref (ms_ad 5 0) :: S) (ms_Z q w I J) = ms_G 67 106 L (.ref (ms_ad 7 0) :: S) (ms_Z q w I J) := mz_getf (c := (2, 7)) rfl (by decide) rfl (by decide) rfl
theorem mi_67_106 : ms_G 67 106 [l0, l1, l2, l3, .int x] S σ = ms_G 67 108 [l0, l1, l2, l3, .int x] (.int x :: S) σ := (ms_G_at rfl _ _ _).trans rfl
theorem mi_67_108 : ms_G 67 108 L (.int (nI i) :: .ref (ms_ad r u) :: S) (ms_Z q w I J) = cond (mo_0 q.1 r u i) (ms_G 67 109 L (.int (I r u i) :: S) (ms_Z q w I J)) (ms_raw 67 108 L (.int (nI i) :: .ref (ms_ad r u) :: S) (ms_Z q w I J)) := mz_iald rfl
theorem mi_67_109 : ms_G 67 109 [.ref a, l1, l2, l3, l4] S σ = ms_G 67 110 [.ref a, l1, l2, l3, l4] (.ref a :: S) σ := (ms_G_at rfl _ _ _).trans rfl
theorem mi_67_110 : ms_G 67 110 L (.ref (ms_ad 5 0) :: S) (ms_Z q w I J) = ms_G 67 113 L (.ref (ms_ad 7 0) :: S) (ms_Z q w I J) := mz_getf (c := (2, 7)) rfl (by decide) rfl (by decide) rfl
theorem mi_67_113 : ms_G 67 113 [l0, .int x, l2, l3, l4] S σ = ms_G 67 114 [l0, .int x, l2, l3, l4] (.int x :: S) σ := (ms_G_at rfl _ _ _).trans rfl
theorem mi_67_114 : ms_G 67 114 L (.int (nI i) :: .ref (ms_ad r u) :: S) (ms_Z q w I J) = cond (mo_0 q.1 r u i) (ms_G 67 115 L (.int (I r u i) :: S) (ms_Z q w I J)) (ms_raw 67 114 L (.int (nI i) :: .ref (ms_ad r u) :: S) (ms_Z q w I J)) := mz_iald rfl
theorem mi_67_115 : ms_G 67 115 L (.int y :: .int x :: S) σ = ms_G 67 116 L (.int (x ^^^ y) :: S) σ := (ms_G_at rfl _ _ _).trans rfl
theorem mi_67_116 : ms_G 67 116 L S σ = ms_G 67 118 L (.int (nI 8) :: S) σ := (ms_G_at rfl _ _ _).trans rfl
theorem mi_67_118 : ms_G 67 118 L (.int x1 :: .int x0 :: [.int e0, .ref g1]) (ms_Z q w I J) = mo_cl 67 118 121 (ms_G 147 0 [.int x0, .int x1] [] (ms_Z q false I J)) w L [.int e0, .ref g1] := (mz_call rfl rfl (mz_can0 rfl rfl rfl rfl rfl)).trans rfl
theorem mi_67_121 : ms_G 67 121 L (.int x :: .int (nI i) :: .ref (ms_ad r u) :: S) (ms_Z q w I J) = cond (mo_0 q.1 r u i) (ms_G 67 122 L S (ms_Z q true (ms_u I r u (upd (I r u) i x)) J)) (ms_raw 67 121 L (.int x :: .int (nI i) :: .ref (ms_ad r u) :: S) (ms_Z q w I J)) := mz_iast rfl x
theorem mi_67_122 : ms_G 67 122 [.ref a, l1, l2, l3, l4] S σ = ms_G 67 123 [.ref a, l1, l2, l3, l4] (.ref a :: S) σ := (ms_G_at rfl _ _ _).trans rfl
theorem mi_67_123 : ms_G 67 123 L (.ref (ms_ad 5 0) :: S) (ms_Z q w I J) = ms_G 67 126 L (.ref (ms_ad 7 0) :: S) (ms_Z q w I J) := mz_getf (c := (2, 7)) rfl (by decide) rfl (by decide) rfl
theorem mi_67_126 : ms_G 67 126 [l0, l1, l2, .int x, l4] S σ = ms_G 67 127 [l0, l1, l2, .int x, l4] (.int x :: S) σ := (ms_G_at rfl _ _ _).trans rfl
theorem mi_67_127 : ms_G 67 127 L (.int x :: .ref b :: S) σ = ms_G 67 128 L (.int x :: .ref b :: .int x :: .ref b :: S) σ := (ms_G_at rfl _ _ _).trans rfl
theorem mi_67_128 : ms_G 67 128 L (.int (nI i) :: .ref (ms_ad r u) :: S) (ms_Z q w I J) = cond (mo_0 q.1 r u i) (ms_G 67 129 L (.int (I r u i) :: S) (ms_Z q w I J)) (ms_raw 67 128 L (.int (nI i) :: .ref (ms_ad r u) :: S) (ms_Z q w I J)) := mz_iald rfl
theorem mi_67_129 : ms_G 67 129 [.ref a, l1, l2, l3, l4] S σ = ms_G 67 130 [.ref a, l1, l2, l3, l4] (.ref a :: S) σ := (ms_G_at rfl _ _ _).trans rfl
theorem mi_67_130 : ms_G 67 130 L (.ref (ms_ad 5 0) :: S) (ms_Z q w I J) = ms_G 67 133 L (.ref (ms_ad 7 0) :: S) (ms_Z q w I J) := mz_getf (c := (2, 7)) rfl (by decide) rfl (by decide) rfl
theorem mi_67_133 : ms_G 67 133 [l0, l1, l2, l3, .int x] S σ = ms_G 67 135 [l0, l1, l2, l3, .int x] (.int x :: S) σ := (ms_G_at rfl _ _ _).trans rfl
theorem mi_67_135 : ms_G 67 135 L (.int (nI i) :: .ref (ms_ad r u) :: S) (ms_Z q w I J) = cond (mo_0 q.1 r u i) (ms_G 67 136 L (.int (I r u i) :: S) (ms_Z q w I J)) (ms_raw 67 135 L (.int (nI i) :: .ref (ms_ad r u) :: S) (ms_Z q w I J)) := mz_iald rfl
theorem mi_67_136 : ms_G 67 136 L (.int y :: .int x :: S) σ = ms_G 67 137 L (.int (x + y) :: S) σ := (ms_G_at rfl _ _ _).trans rfl
theorem mi_67_137 : ms_G 67 137 L (.int x :: .int (nI i) :: .ref (ms_ad r u) :: S) (ms_Z q w I J) = cond (mo_0 q.1 r u i) (ms_G 67 138 L S (ms_Z q true (ms_u I r u (upd (I r u) i x)) J)) (ms_raw 67 137 L (.int x :: .int (nI i) :: .ref (ms_ad r u) :: S) (ms_Z q w I J)) := mz_iast rfl x
theorem mi_67_138 : ms_G 67 138 [.ref a, l1, l2, l3, l4] S σ = ms_G 67 139 [.ref a, l1, l2, l3, l4] (.ref a :: S) σ := (ms_G_at rfl _ _ _).trans rfl
theorem mi_67_139 : ms_G 67 139 L (.ref (ms_ad 5 0) :: S) (ms_Z q w I J) = ms_G 67 142 L (.ref (ms_ad 7 0) :: S) (ms_Z q w I J) := mz_getf (c := (2, 7)) rfl (by decide) rfl (by decide) rfl
theorem mi_67_142 : ms_G 67 142 [l0, l1, .int x, l3, l4] S σ = ms_G 67 143 [l0, l1, .int x, l3, l4] (.int x :: S) σ := (ms_G_at rfl _ _ _).trans rfl
theorem mi_67_143 : ms_G 67 143 [.ref a, l1, l2, l3, l4] S σ = ms_G 67 144 [.ref a, l1, l2, l3, l4] (.ref a :: S) σ := (ms_G_at rfl _ _ _).trans rfl
theorem mi_67_144 : ms_G 67 144 L (.ref (ms_ad 5 0) :: S) (ms_Z q w I J) = ms_G 67 147 L (.ref (ms_ad 7 0) :: S) (ms_Z q w I J) := mz_getf (c := (2, 7)) rfl (by decide) rfl (by decide) rfl
theorem mi_67_147 : ms_G 67 147 [l0, l1, .int x, l3, l4] S σ = ms_G 67 148 [l0, l1, .int x, l3, l4] (.int x :: S) σ := (ms_G_at rfl _ _ _).trans rfl
theorem mi_67_148 : ms_G 67 148 L (.int (nI i) :: .ref (ms_ad r u) :: S) (ms_Z q w I J) = cond (mo_0 q.1 r u i) (ms_G 67 149 L (.int (I r u i) :: S) (ms_Z q w I J)) (ms_raw 67 148 L (.int (nI i) :: .ref (ms_ad r u) :: S) (ms_Z q w I J)) := mz_iald rfl
theorem mi_67_149 : ms_G 67 149 [.ref a, l1, l2, l3, l4] S σ = ms_G 67 150 [.ref a, l1, l2, l3, l4] (.ref a :: S) σ := (ms_G_at rfl _ _ _).trans rfl
theorem mi_67_150 : ms_G 67 150 L (.ref (ms_ad 5 0) :: S) (ms_Z q w I J) = ms_G 67 153 L (.ref (ms_ad 7 0) :: S) (ms_Z q w I J) := mz_getf (c := (2, 7)) rfl (by decide) rfl (by decide) rfl
theorem mi_67_153 : ms_G 67 153 [l0, l1, l2, .int x, l4] S σ = ms_G 67 154 [l0, l1, l2, .int x, l4] (.int x :: S) σ := (ms_G_at rfl _ _ _).trans rfl
theorem mi_67_154 : ms_G 67 154 L (.int (nI i) :: .ref (ms_ad r u) :: S) (ms_Z q w I J) = cond (mo_0 q.1 r u i) (ms_G 67 155 L (.int (I r u i) :: S) (ms_Z q w I J)) (ms_raw 67 154 L (.int (nI i) :: .ref (ms_ad r u) :: S) (ms_Z q w I J)) := mz_iald rfl
theorem mi_67_155 : ms_G 67 155 L (.int y :: .int x :: S) σ = ms_G 67 156 L (.int (x ^^^ y) :: S) σ := (ms_G_at rfl _ _ _).trans rfl
theorem mi_67_156 : ms_G 67 156 L S σ = ms_G 67 158 L (.int (nI 7) :: S) σ := (ms_G_at rfl _ _ _).trans rfl
theorem mi_67_158 : ms_G 67 158 L (.int x1 :: .int x0 :: [.int e0, .ref g1]) (ms_Z q w I J) = mo_cl 67 158 161 (ms_G 147 0 [.int x0, .int x1] [] (ms_Z q false I J)) w L [.int e0, .ref g1] := (mz_call rfl rfl (mz_can0 rfl rfl rfl rfl rfl)).trans rfl
theorem mi_67_161 : ms_G 67 161 L (.int x :: .int (nI i) :: .ref (ms_ad r u) :: S) (ms_Z q w I J) = cond (mo_0 q.1 r u i) (ms_G 67 162 L S (ms_Z q true (ms_u I r u (upd (I r u) i x)) J)) (ms_raw 67 161 L (.int x :: .int (nI i) :: .ref (ms_ad r u) :: S) (ms_Z q w I J)) := mz_iast rfl x
theorem mi_67_162 : ms_G 67 162 L [] σ = some (.inl none, σ) := (ms_G_at rfl _ _ _).trans rfl
-- MaskedSum$Phone.sendNext(LMaskedSum$Mail;LMaskedSum$Crypto;I)Z
theorem mi_97_0 : ms_G 97 0 [.ref a, l1, l2, l3, l4] S σ = ms_G 97 1 [.ref a, l1, l2, l3, l4] (.ref a :: S) σ := (ms_G_at rfl _ _ _).trans rfl
theorem mi_97_1 (hu : u < 8) : ms_G 97 1 L (.ref (ms_ad 31 u) :: S) (ms_Z q w I J) = ms_G 97 4 L (.int (I 31 u 9) :: S) (ms_Z q w I J) := mz_getf (c := (0, 9)) rfl hu rfl (by decide) rfl
theorem mi_97_4 : ms_G 97 4 [.ref a, l1, l2, l3, l4] S σ = ms_G 97 5 [.ref a, l1, l2, l3, l4] (.ref a :: S) σ := (ms_G_at rfl _ _ _).trans rfl
theorem mi_97_5 (hu : u < 8) : ms_G 97 5 L (.ref (ms_ad 31 u) :: S) (ms_Z q w I J) = ms_G 97 8 L (.int (I 31 u 10) :: S) (ms_Z q w I J) := mz_getf (c := (0, 10)) rfl hu rfl (by decide) rfl
theorem mi_97_8 : ms_G 97 8 L (.int y :: .int x :: S) σ = if x = y then ms_G 97 11 L S σ else ms_G 97 19 L S σ := mz_bra rfl rfl rfl
theorem mi_97_11 : ms_G 97 11 [.ref a, l1, l2, l3, l4] S σ = ms_G 97 12 [.ref a, l1, l2, l3, l4] (.ref a :: S) σ := (ms_G_at rfl _ _ _).trans rfl
theorem mi_97_12 (hu : u < 8) : ms_G 97 12 L (.ref (ms_ad 31 u) :: S) (ms_Z q w I J) = ms_G 97 15 L (.int (I 31 u 9) :: S) (ms_Z q w I J) := mz_getf (c := (0, 9)) rfl hu rfl (by decide) rfl
theorem mi_97_15 : ms_G 97 15 L S σ = ms_G 97 16 L (.int (nI 4) :: S) σ := (ms_G_at rfl _ _ _).trans rfl
theorem mi_97_16 : ms_G 97 16 L (.int y :: .int x :: S) σ = if x < y then ms_G 97 21 L S σ else ms_G 97 19 L S σ := mz_bra rfl rfl rfl
theorem mi_97_19 : ms_G 97 19 L S σ = ms_G 97 20 L (.int (nI 0) :: S) σ := (ms_G_at rfl _ _ _).trans rfl
theorem mi_97_20 : ms_G 97 20 L [.int (nI 0)] σ = some (.inl (some (.int (nI 0))), σ) := (ms_G_at rfl _ _ _).trans rfl
theorem mi_97_20_1 : ms_G 97 20 L [.int (nI 1)] σ = some (.inl (some (.int (nI 1))), σ) := (ms_G_at rfl _ _ _).trans rfl
theorem mi_97_20_b (B : Bool) : ms_G 97 20 L [.int (ms_b B)] σ = some (.inl (some (.int (ms_b B))), σ) := by cases B <;> exact (ms_G_at rfl _ _ _).trans rfl
theorem mi_97_21 : ms_G 97 21 [l0, .ref a, l2, l3, l4] S σ = ms_G 97 22 [l0, .ref a, l2, l3, l4] (.ref a :: S) σ := (ms_G_at rfl _ _ _).trans rfl
theorem mi_97_22 : ms_G 97 22 [.ref a, l1, l2, l3, l4] S σ = ms_G 97 23 [.ref a, l1, l2, l3, l4] (.ref a :: S) σ := (ms_G_at rfl _ _ _).trans rfl
theorem mi_97_23 (hu : u < 8) : ms_G 97 23 L (.ref (ms_ad 31 u) :: S) (ms_Z q w I J) = ms_G 97 26 L (.int (nI (ms_sv 3 u)) :: S) (ms_Z q w I J) := mz_getf (c := (3, 3)) rfl hu rfl (by decide) rfl
theorem mi_97_26 : ms_G 97 26 [.ref a, l1, l2, l3, l4] S σ = ms_G 97 27 [.ref a, l1, l2, l3, l4] (.ref a :: S) σ := (ms_G_at rfl _ _ _).trans rfl
theorem mi_97_27 (hu : u < 8) : ms_G 97 27 L (.ref (ms_ad 31 u) :: S) (ms_Z q w I J) = ms_G 97 30 L (.int (I 31 u 9) :: S) (ms_Z q w I J) := mz_getf (c := (0, 9)) rfl hu rfl (by decide) rfl
theorem mi_97_30 : ms_G 97 30 L [.int x1, .int x0, .ref (ms_ad 14 0)] (ms_Z q w I J) = mo_cl 97 30 33 (ms_G 79 0 [.ref (ms_ad 14 0), .int x0, .int x1] [] (ms_Z q false I J)) w L [] := (mz_call rfl rfl (mz_can1 rfl rfl rfl rfl rfl (by decide) rfl (by decide))).trans rfl
theorem mi_97_33 : ms_G 97 33 [l0, l1, l2, .int y, l4] (.ref a :: S) σ = ms_G 97 35 [l0, l1, l2, .int y, .ref a] S σ := (ms_G_at rfl _ _ _).trans rfl
theorem mi_97_35 : ms_G 97 35 [.ref a, l1, l2, l3, l4] S σ = ms_G 97 36 [.ref a, l1, l2, l3, l4] (.ref a :: S) σ := (ms_G_at rfl _ _ _).trans rfl
theorem mi_97_36 (hu : u < 8) : ms_G 97 36 L (.ref (ms_ad 31 u) :: S) (ms_Z q w I J) = ms_G 97 39 L (.int (I 31 u 9) :: S) (ms_Z q w I J) := mz_getf (c := (0, 9)) rfl hu rfl (by decide) rfl
theorem mi_97_39_c0 : ms_G 97 39 L (.int (nI 0) :: S) σ = ms_G 97 64 L S σ := (ms_G_at rfl _ _ _).trans rfl
theorem mi_97_39_c1 : ms_G 97 39 L (.int (nI 1) :: S) σ = ms_G 97 73 L S σ := (ms_G_at rfl _ _ _).trans rfl
theorem mi_97_39_c2 : ms_G 97 39 L (.int (nI 2) :: S) σ = ms_G 97 89 L S σ := (ms_G_at rfl _ _ _).trans rfl
theorem mi_97_39_d (hx : x.toInt < 0 ∨ 2 < x.toInt) : ms_G 97 39 L (.int x :: S) σ = ms_G 97 99 L S σ := mz_sw rfl rfl rfl hx
theorem mi_97_64 : ms_G 97 64 [.ref a, l1, l2, l3, l4] S σ = ms_G 97 65 [.ref a, l1, l2, l3, l4] (.ref a :: S) σ := (ms_G_at rfl _ _ _).trans rfl
theorem mi_97_65 : ms_G 97 65 [l0, l1, l2, l3, .ref a] S σ = ms_G 97 67 [l0, l1, l2, l3, .ref a] (.ref a :: S) σ := (ms_G_at rfl _ _ _).trans rfl
theorem mi_97_67 (hu : u < 8) : ms_G 97 67 L [.ref a0, .ref (ms_ad 31 u)] (ms_Z q w I J) = mo_cl 97 67 70 (ms_G 98 0 [.ref (ms_ad 31 u), .ref a0] [] (ms_Z q false I J)) w L [] := (mz_call rfl rfl (mz_can1 rfl rfl rfl rfl rfl hu rfl (by decide))).trans rfl
theorem mi_97_70 : ms_G 97 70 L S σ = ms_G 97 106 L S σ := (ms_G_at rfl _ _ _).trans rfl
theorem mi_97_73 : ms_G 97 73 [.ref a, l1, l2, l3, l4] S σ = ms_G 97 74 [.ref a, l1, l2, l3, l4] (.ref a :: S) σ := (ms_G_at rfl _ _ _).trans rfl
theorem mi_97_74 : ms_G 97 74 [l0, l1, .ref a, l3, l4] S σ = ms_G 97 75 [l0, l1, .ref a, l3, l4] (.ref a :: S) σ := (ms_G_at rfl _ _ _).trans rfl
theorem mi_97_75 : ms_G 97 75 [l0, l1, l2, .int x, l4] S σ = ms_G 97 76 [l0, l1, l2, .int x, l4] (.int x :: S) σ := (ms_G_at rfl _ _ _).trans rfl
theorem mi_97_76 (hu : u < 8) : ms_G 97 76 L [.int x1, .ref a0, .ref (ms_ad 31 u)] (ms_Z q w I J) = mo_cl 97 76 79 (ms_G 99 0 [.ref (ms_ad 31 u), .ref a0, .int x1, .null, .null] [] (ms_Z q false I J)) w L [] := (mz_call rfl rfl (mz_can1 rfl rfl rfl rfl rfl hu rfl (by decide))).trans rfl
theorem mi_97_79 : ms_G 97 79 [.ref a, l1, l2, l3, l4] S σ = ms_G 97 80 [.ref a, l1, l2, l3, l4] (.ref a :: S) σ := (ms_G_at rfl _ _ _).trans rfl
theorem mi_97_80 : ms_G 97 80 [l0, l1, l2, l3, .ref a] S σ = ms_G 97 82 [l0, l1, l2, l3, .ref a] (.ref a :: S) σ := (ms_G_at rfl _ _ _).trans rfl
theorem mi_97_82 : ms_G 97 82 [l0, l1, .ref a, l3, l4] S σ = ms_G 97 83 [l0, l1, .ref a, l3, l4] (.ref a :: S) σ := (ms_G_at rfl _ _ _).trans rfl
theorem mi_97_83 (hu : u < 8) : ms_G 97 83 L [.ref a1, .ref a0, .ref (ms_ad 31 u)] (ms_Z q w I J) = mo_cl 97 83 86 (ms_G 100 0 [.ref (ms_ad 31 u), .ref a0, .ref a1, .null, .null] [] (ms_Z q false I J)) w L [] := (mz_call rfl rfl (mz_can1 rfl rfl rfl rfl rfl hu rfl (by decide))).trans rfl
theorem mi_97_86 : ms_G 97 86 L S σ = ms_G 97 106 L S σ := (ms_G_at rfl _ _ _).trans rfl
theorem mi_97_89 : ms_G 97 89 [.ref a, l1, l2, l3, l4] S σ = ms_G 97 90 [.ref a, l1, l2, l3, l4] (.ref a :: S) σ := (ms_G_at rfl _ _ _).trans rfl
theorem mi_97_90 : ms_G 97 90 [l0, l1, l2, l3, .ref a] S σ = ms_G 97 92 [l0, l1, l2, l3, .ref a] (.ref a :: S) σ := (ms_G_at rfl _ _ _).trans rfl
theorem mi_97_92 : ms_G 97 92 [l0, l1, .ref a, l3, l4] S σ = ms_G 97 93 [l0, l1, .ref a, l3, l4] (.ref a :: S) σ := (ms_G_at rfl _ _ _).trans rfl
theorem mi_97_93 (hu : u < 8) : ms_G 97 93 L [.ref a1, .ref a0, .ref (ms_ad 31 u)] (ms_Z q w I J) = mo_cl 97 93 96 (ms_G 101 0 [.ref (ms_ad 31 u), .ref a0, .ref a1, .null] [] (ms_Z q false I J)) w L [] := (mz_call rfl rfl (mz_can1 rfl rfl rfl rfl rfl hu rfl (by decide))).trans rfl
theorem mi_97_96 : ms_G 97 96 L S σ = ms_G 97 106 L S σ := (ms_G_at rfl _ _ _).trans rfl
theorem mi_97_99 : ms_G 97 99 [.ref a, l1, l2, l3, l4] S σ = ms_G 97 100 [.ref a, l1, l2, l3, l4] (.ref a :: S) σ := (ms_G_at rfl _ _ _).trans rfl
theorem mi_97_100 : ms_G 97 100 [l0, l1, l2, l3, .ref a] S σ = ms_G 97 102 [l0, l1, l2, l3, .ref a] (.ref a :: S) σ := (ms_G_at rfl _ _ _).trans rfl
theorem mi_97_102 : ms_G 97 102 [l0, l1, .ref a, l3, l4] S σ = ms_G 97 103 [l0, l1, .ref a, l3, l4] (.ref a :: S) σ := (ms_G_at rfl _ _ _).trans rfl
theorem mi_97_103 (hu : u < 8) : ms_G 97 103 L [.ref a1, .ref a0, .ref (ms_ad 31 u)] (ms_Z q w I J) = mo_cl 97 103 106 (ms_G 102 0 [.ref (ms_ad 31 u), .ref a0, .ref a1, .null] [] (ms_Z q false I J)) w L [] := (mz_call rfl rfl (mz_can1 rfl rfl rfl rfl rfl hu rfl (by decide))).trans rfl
theorem mi_97_106 : ms_G 97 106 [.ref a, l1, l2, l3, l4] S σ = ms_G 97 107 [.ref a, l1, l2, l3, l4] (.ref a :: S) σ := (ms_G_at rfl _ _ _).trans rfl
theorem mi_97_107 : ms_G 97 107 L (.ref a :: S) σ = ms_G 97 108 L (.ref a :: .ref a :: S) σ := (ms_G_at rfl _ _ _).trans rfl
theorem mi_97_108 (hu : u < 8) : ms_G 97 108 L (.ref (ms_ad 31 u) :: S) (ms_Z q w I J) = ms_G 97 111 L (.int (I 31 u 9) :: S) (ms_Z q w I J) := mz_getf (c := (0, 9)) rfl hu rfl (by decide) rfl
theorem mi_97_111 : ms_G 97 111 L S σ = ms_G 97 112 L (.int (nI 1) :: S) σ := (ms_G_at rfl _ _ _).trans rfl
theorem mi_97_112 : ms_G 97 112 L (.int y :: .int x :: S) σ = ms_G 97 113 L (.int (x + y) :: S) σ := (ms_G_at rfl _ _ _).trans rfl
theorem mi_97_113 (hu : u < 8) : ms_G 97 113 L (.int x :: .ref (ms_ad 31 u) :: S) (ms_Z q w I J) = ms_G 97 116 L S (ms_Z q true (ms_u I 31 u (upd (I 31 u) 9 x)) J) := mz_putf rfl hu rfl (by decide) rfl rfl
theorem mi_97_116 : ms_G 97 116 L S σ = ms_G 97 117 L (.int (nI 1) :: S) σ := (ms_G_at rfl _ _ _).trans rfl
theorem mi_97_117 : ms_G 97 117 L [.int (nI 0)] σ = some (.inl (some (.int (nI 0))), σ) := (ms_G_at rfl _ _ _).trans rfl
theorem mi_97_117_1 : ms_G 97 117 L [.int (nI 1)] σ = some (.inl (some (.int (nI 1))), σ) := (ms_G_at rfl _ _ _).trans rfl
theorem mi_97_117_b (B : Bool) : ms_G 97 117 L [.int (ms_b B)] σ = some (.inl (some (.int (ms_b B))), σ) := by cases B <;> exact (ms_G_at rfl _ _ _).trans rfl
-- MaskedSumLaw.start(LMaskedSum;II)I
theorem mi_133_0 : ms_G 133 0 [.ref a, l1, l2, l3] S σ = ms_G 133 1 [.ref a, l1, l2, l3] (.ref a :: S) σ := (ms_G_at rfl _ _ _).trans rfl
theorem mi_133_1 : ms_G 133 1 [l0, .int x, l2, l3] S σ = ms_G 133 2 [l0, .int x, l2, l3] (.int x :: S) σ := (ms_G_at rfl _ _ _).trans rfl
theorem mi_133_2 : ms_G 133 2 [l0, l1, .int x, l3] S σ = ms_G 133 3 [l0, l1, .int x, l3] (.int x :: S) σ := (ms_G_at rfl _ _ _).trans rfl
theorem mi_133_3 : ms_G 133 3 L [.int x1, .int x0, .ref (ms_ad 3 0)] (ms_Z q w I J) = mo_cl 133 3 6 (ms_G 1 0 [.ref (ms_ad 3 0), .int x0, .int x1, .null] [] (ms_Z q false I J)) w L [] := (mz_call rfl rfl (mz_can1 rfl rfl rfl rfl rfl (by decide) rfl (by decide))).trans rfl
theorem mi_133_3_t0 {w' : Bool} : mo_cl 133 3 6 (some (.inr 0, ms_Z q w' I J)) w L S = ms_G 133 9 L [.ref (267 + q.2)] (ms_Z q true I J) := mz_clt rfl 6 q w w' I J L S
theorem mi_133_6 : ms_G 133 6 L S σ = ms_G 133 12 L S σ := (ms_G_at rfl _ _ _).trans rfl
theorem mi_133_9 : ms_G 133 9 [l0, l1, .int y, l3] (.ref a :: S) σ = ms_G 133 10 [l0, l1, .int y, .ref a] S σ := (ms_G_at rfl _ _ _).trans rfl
theorem mi_133_10 : ms_G 133 10 L S σ = ms_G 133 11 L (.int (nI 1) :: S) σ := (ms_G_at rfl _ _ _).trans rfl
theorem mi_133_11 : ms_G 133 11 L [.int x] σ = some (.inl (some (.int x)), σ) := (ms_G_at rfl _ _ _).trans rfl
theorem mi_133_12 : ms_G 133 12 L S σ = ms_G 133 13 L (.int (nI 0) :: S) σ := (ms_G_at rfl _ _ _).trans rfl
theorem mi_133_13 : ms_G 133 13 L [.int x] σ = some (.inl (some (.int x)), σ) := (ms_G_at rfl _ _ _).trans rfl
end MsI
end
