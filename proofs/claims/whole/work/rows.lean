section
-- ===== PART A: goes FIRST, ahead of the names: the tables' words, and 'selects' of the private methods out of them =====
/-- a private method of a class that the tables say can be made, by its rows of tables_1 -/
def lw_okq (q : MethodName × Nat) : Prop := (q.1.cls ≠ "java/lang/invoke/MethodHandle" ∧ q.1.cls ≠ "java/lang/invoke/VarHandle") ∧ Cond.instantiable q.1.cls q.2 ∈ tables_1 ∧ Cond.privateMethod q.1 ∈ tables_1 ∧ Cond.instanceMethod q.1 ∈ tables_1
theorem lw_p0 : lw_okq (⟨"ChainBoard$Processor", "nextByte", "()I"⟩, 13) := ⟨⟨by decide +kernel, by decide +kernel⟩, List.mem_of_getElem? (i := 170) (by decide +kernel), List.mem_of_getElem? (i := 327) (by decide +kernel), List.mem_of_getElem? (i := 328) (by decide +kernel)⟩
theorem lw_p1 : lw_okq (⟨"ChainBoard$Processor", "lowQuarter", "(I)I"⟩, 13) := ⟨⟨by decide +kernel, by decide +kernel⟩, List.mem_of_getElem? (i := 170) (by decide +kernel), List.mem_of_getElem? (i := 333) (by decide +kernel), List.mem_of_getElem? (i := 334) (by decide +kernel)⟩
theorem lw_p2 : lw_okq (⟨"ChainBoard$Processor", "relative", "(I)I"⟩, 13) := ⟨⟨by decide +kernel, by decide +kernel⟩, List.mem_of_getElem? (i := 170) (by decide +kernel), List.mem_of_getElem? (i := 337) (by decide +kernel), List.mem_of_getElem? (i := 338) (by decide +kernel)⟩
theorem lw_p3 : lw_okq (⟨"ChainBoard$Processor", "goOn", "(Z)I"⟩, 13) := ⟨⟨by decide +kernel, by decide +kernel⟩, List.mem_of_getElem? (i := 170) (by decide +kernel), List.mem_of_getElem? (i := 345) (by decide +kernel), List.mem_of_getElem? (i := 346) (by decide +kernel)⟩
theorem lw_p4 : lw_okq (⟨"ChainBoard$Processor", "condition", "(I)Z"⟩, 13) := ⟨⟨by decide +kernel, by decide +kernel⟩, List.mem_of_getElem? (i := 170) (by decide +kernel), List.mem_of_getElem? (i := 349) (by decide +kernel), List.mem_of_getElem? (i := 350) (by decide +kernel)⟩
theorem lw_p5 : lw_okq (⟨"ChainBoard$Processor", "wordLoadOrSum", "(I)I"⟩, 13) := ⟨⟨by decide +kernel, by decide +kernel⟩, List.mem_of_getElem? (i := 170) (by decide +kernel), List.mem_of_getElem? (i := 353) (by decide +kernel), List.mem_of_getElem? (i := 354) (by decide +kernel)⟩
theorem lw_p6 : lw_okq (⟨"ChainBoard$Processor", "nextWord", "()I"⟩, 13) := ⟨⟨by decide +kernel, by decide +kernel⟩, List.mem_of_getElem? (i := 170) (by decide +kernel), List.mem_of_getElem? (i := 357) (by decide +kernel), List.mem_of_getElem? (i := 358) (by decide +kernel)⟩
theorem lw_p7 : lw_okq (⟨"ChainBoard$Processor", "putWide", "(II)V"⟩, 13) := ⟨⟨by decide +kernel, by decide +kernel⟩, List.mem_of_getElem? (i := 170) (by decide +kernel), List.mem_of_getElem? (i := 361) (by decide +kernel), List.mem_of_getElem? (i := 362) (by decide +kernel)⟩
theorem lw_p8 : lw_okq (⟨"ChainBoard$Processor", "wide", "(I)I"⟩, 13) := ⟨⟨by decide +kernel, by decide +kernel⟩, List.mem_of_getElem? (i := 170) (by decide +kernel), List.mem_of_getElem? (i := 367) (by decide +kernel), List.mem_of_getElem? (i := 368) (by decide +kernel)⟩
theorem lw_p9 : lw_okq (⟨"ChainBoard$Processor", "changeFlags", "(II)V"⟩, 13) := ⟨⟨by decide +kernel, by decide +kernel⟩, List.mem_of_getElem? (i := 170) (by decide +kernel), List.mem_of_getElem? (i := 379) (by decide +kernel), List.mem_of_getElem? (i := 380) (by decide +kernel)⟩
theorem lw_p10 : lw_okq (⟨"ChainBoard$Processor", "transfer", "(I)I"⟩, 13) := ⟨⟨by decide +kernel, by decide +kernel⟩, List.mem_of_getElem? (i := 170) (by decide +kernel), List.mem_of_getElem? (i := 383) (by decide +kernel), List.mem_of_getElem? (i := 384) (by decide +kernel)⟩
theorem lw_p11 : lw_okq (⟨"ChainBoard$Processor", "read", "(I)I"⟩, 13) := ⟨⟨by decide +kernel, by decide +kernel⟩, List.mem_of_getElem? (i := 170) (by decide +kernel), List.mem_of_getElem? (i := 398) (by decide +kernel), List.mem_of_getElem? (i := 399) (by decide +kernel)⟩
theorem lw_p12 : lw_okq (⟨"ChainBoard$Processor", "step", "(II)I"⟩, 13) := ⟨⟨by decide +kernel, by decide +kernel⟩, List.mem_of_getElem? (i := 170) (by decide +kernel), List.mem_of_getElem? (i := 408) (by decide +kernel), List.mem_of_getElem? (i := 409) (by decide +kernel)⟩
theorem lw_p13 : lw_okq (⟨"ChainBoard$Processor", "write", "(II)V"⟩, 13) := ⟨⟨by decide +kernel, by decide +kernel⟩, List.mem_of_getElem? (i := 170) (by decide +kernel), List.mem_of_getElem? (i := 412) (by decide +kernel), List.mem_of_getElem? (i := 413) (by decide +kernel)⟩
theorem lw_p14 : lw_okq (⟨"ChainBoard$Processor", "onA", "(I)I"⟩, 13) := ⟨⟨by decide +kernel, by decide +kernel⟩, List.mem_of_getElem? (i := 170) (by decide +kernel), List.mem_of_getElem? (i := 419) (by decide +kernel), List.mem_of_getElem? (i := 420) (by decide +kernel)⟩
theorem lw_p15 : lw_okq (⟨"ChainBoard$Processor", "moveOrHalt", "(I)I"⟩, 13) := ⟨⟨by decide +kernel, by decide +kernel⟩, List.mem_of_getElem? (i := 170) (by decide +kernel), List.mem_of_getElem? (i := 435) (by decide +kernel), List.mem_of_getElem? (i := 436) (by decide +kernel)⟩
def lw_privs_1 : List (MethodName × Nat) := [(⟨"ChainBoard$Processor", "nextByte", "()I"⟩, 13), (⟨"ChainBoard$Processor", "lowQuarter", "(I)I"⟩, 13), (⟨"ChainBoard$Processor", "relative", "(I)I"⟩, 13), (⟨"ChainBoard$Processor", "goOn", "(Z)I"⟩, 13), (⟨"ChainBoard$Processor", "condition", "(I)Z"⟩, 13), (⟨"ChainBoard$Processor", "wordLoadOrSum", "(I)I"⟩, 13), (⟨"ChainBoard$Processor", "nextWord", "()I"⟩, 13), (⟨"ChainBoard$Processor", "putWide", "(II)V"⟩, 13), (⟨"ChainBoard$Processor", "wide", "(I)I"⟩, 13), (⟨"ChainBoard$Processor", "changeFlags", "(II)V"⟩, 13), (⟨"ChainBoard$Processor", "transfer", "(I)I"⟩, 13), (⟨"ChainBoard$Processor", "read", "(I)I"⟩, 13), (⟨"ChainBoard$Processor", "step", "(II)I"⟩, 13), (⟨"ChainBoard$Processor", "write", "(II)V"⟩, 13), (⟨"ChainBoard$Processor", "onA", "(I)I"⟩, 13), (⟨"ChainBoard$Processor", "moveOrHalt", "(I)I"⟩, 13)]
theorem lw_r1 : ∀ q ∈ lw_privs_1, lw_okq q := List.forall_mem_cons.mpr ⟨lw_p0, List.forall_mem_cons.mpr ⟨lw_p1, List.forall_mem_cons.mpr ⟨lw_p2, List.forall_mem_cons.mpr ⟨lw_p3, List.forall_mem_cons.mpr ⟨lw_p4, List.forall_mem_cons.mpr ⟨lw_p5, List.forall_mem_cons.mpr ⟨lw_p6, List.forall_mem_cons.mpr ⟨lw_p7, List.forall_mem_cons.mpr ⟨lw_p8, List.forall_mem_cons.mpr ⟨lw_p9, List.forall_mem_cons.mpr ⟨lw_p10, List.forall_mem_cons.mpr ⟨lw_p11, List.forall_mem_cons.mpr ⟨lw_p12, List.forall_mem_cons.mpr ⟨lw_p13, List.forall_mem_cons.mpr ⟨lw_p14, List.forall_mem_cons.mpr ⟨lw_p15, fun _ h => absurd h List.not_mem_nil⟩⟩⟩⟩⟩⟩⟩⟩⟩⟩⟩⟩⟩⟩⟩⟩
theorem lw_p16 : lw_okq (⟨"ChainBoard$Processor", "operate", "(II)V"⟩, 13) := ⟨⟨by decide +kernel, by decide +kernel⟩, List.mem_of_getElem? (i := 170) (by decide +kernel), List.mem_of_getElem? (i := 439) (by decide +kernel), List.mem_of_getElem? (i := 440) (by decide +kernel)⟩
theorem lw_p17 : lw_okq (⟨"ChainBoard$Processor", "highAlone", "(I)I"⟩, 13) := ⟨⟨by decide +kernel, by decide +kernel⟩, List.mem_of_getElem? (i := 170) (by decide +kernel), List.mem_of_getElem? (i := 448) (by decide +kernel), List.mem_of_getElem? (i := 449) (by decide +kernel)⟩
theorem lw_p18 : lw_okq (⟨"ChainBoard$Processor", "bits", "(I)I"⟩, 13) := ⟨⟨by decide +kernel, by decide +kernel⟩, List.mem_of_getElem? (i := 170) (by decide +kernel), List.mem_of_getElem? (i := 452) (by decide +kernel), List.mem_of_getElem? (i := 453) (by decide +kernel)⟩
theorem lw_p19 : lw_okq (⟨"ChainBoard$Processor", "callIf", "(Z)I"⟩, 13) := ⟨⟨by decide +kernel, by decide +kernel⟩, List.mem_of_getElem? (i := 170) (by decide +kernel), List.mem_of_getElem? (i := 456) (by decide +kernel), List.mem_of_getElem? (i := 457) (by decide +kernel)⟩
theorem lw_p20 : lw_okq (⟨"ChainBoard$Processor", "push", "(I)V"⟩, 13) := ⟨⟨by decide +kernel, by decide +kernel⟩, List.mem_of_getElem? (i := 170) (by decide +kernel), List.mem_of_getElem? (i := 460) (by decide +kernel), List.mem_of_getElem? (i := 461) (by decide +kernel)⟩
theorem lw_p21 : lw_okq (⟨"ChainBoard$Chain", "toChannel", "(LChainBoard$Channel;I)V"⟩, 5) := ⟨⟨by decide +kernel, by decide +kernel⟩, List.mem_of_getElem? (i := 33) (by decide +kernel), List.mem_of_getElem? (i := 468) (by decide +kernel), List.mem_of_getElem? (i := 469) (by decide +kernel)⟩
theorem lw_p22 : lw_okq (⟨"ChainBoard$Channel", "takeConstant", "(I)V"⟩, 11) := ⟨⟨by decide +kernel, by decide +kernel⟩, List.mem_of_getElem? (i := 39) (by decide +kernel), List.mem_of_getElem? (i := 476) (by decide +kernel), List.mem_of_getElem? (i := 477) (by decide +kernel)⟩
theorem lw_p23 : lw_okq (⟨"ChainBoard$Channel", "takeControl", "(I)V"⟩, 11) := ⟨⟨by decide +kernel, by decide +kernel⟩, List.mem_of_getElem? (i := 39) (by decide +kernel), List.mem_of_getElem? (i := 480) (by decide +kernel), List.mem_of_getElem? (i := 481) (by decide +kernel)⟩
theorem lw_p24 : lw_okq (⟨"ChainBoard$Port", "takeCommand", "(I)V"⟩, 16) := ⟨⟨by decide +kernel, by decide +kernel⟩, List.mem_of_getElem? (i := 104) (by decide +kernel), List.mem_of_getElem? (i := 492) (by decide +kernel), List.mem_of_getElem? (i := 493) (by decide +kernel)⟩
theorem lw_p25 : lw_okq (⟨"ChainBoard$Port", "look", "()V"⟩, 16) := ⟨⟨by decide +kernel, by decide +kernel⟩, List.mem_of_getElem? (i := 104) (by decide +kernel), List.mem_of_getElem? (i := 496) (by decide +kernel), List.mem_of_getElem? (i := 497) (by decide +kernel)⟩
theorem lw_p26 : lw_okq (⟨"ChainBoard$Port", "holds", "()Z"⟩, 16) := ⟨⟨by decide +kernel, by decide +kernel⟩, List.mem_of_getElem? (i := 104) (by decide +kernel), List.mem_of_getElem? (i := 500) (by decide +kernel), List.mem_of_getElem? (i := 501) (by decide +kernel)⟩
theorem lw_p27 : lw_okq (⟨"ChainBoard$Processor", "extended", "(I)I"⟩, 13) := ⟨⟨by decide +kernel, by decide +kernel⟩, List.mem_of_getElem? (i := 170) (by decide +kernel), List.mem_of_getElem? (i := 518) (by decide +kernel), List.mem_of_getElem? (i := 519) (by decide +kernel)⟩
theorem lw_p28 : lw_okq (⟨"ChainBoard$Processor", "wordsWithCarry", "(I)I"⟩, 13) := ⟨⟨by decide +kernel, by decide +kernel⟩, List.mem_of_getElem? (i := 170) (by decide +kernel), List.mem_of_getElem? (i := 522) (by decide +kernel), List.mem_of_getElem? (i := 523) (by decide +kernel)⟩
theorem lw_p29 : lw_okq (⟨"ChainBoard$Processor", "copyByte", "()Z"⟩, 13) := ⟨⟨by decide +kernel, by decide +kernel⟩, List.mem_of_getElem? (i := 170) (by decide +kernel), List.mem_of_getElem? (i := 529) (by decide +kernel), List.mem_of_getElem? (i := 530) (by decide +kernel)⟩
theorem lw_p30 : lw_okq (⟨"ChainBoard$Processor", "pop", "()I"⟩, 13) := ⟨⟨by decide +kernel, by decide +kernel⟩, List.mem_of_getElem? (i := 170) (by decide +kernel), List.mem_of_getElem? (i := 533) (by decide +kernel), List.mem_of_getElem? (i := 534) (by decide +kernel)⟩
theorem lw_p31 : lw_okq (⟨"ChainBoard$Processor", "highColumns", "(I)I"⟩, 13) := ⟨⟨by decide +kernel, by decide +kernel⟩, List.mem_of_getElem? (i := 170) (by decide +kernel), List.mem_of_getElem? (i := 541) (by decide +kernel), List.mem_of_getElem? (i := 542) (by decide +kernel)⟩
def lw_privs_2 : List (MethodName × Nat) := [(⟨"ChainBoard$Processor", "operate", "(II)V"⟩, 13), (⟨"ChainBoard$Processor", "highAlone", "(I)I"⟩, 13), (⟨"ChainBoard$Processor", "bits", "(I)I"⟩, 13), (⟨"ChainBoard$Processor", "callIf", "(Z)I"⟩, 13), (⟨"ChainBoard$Processor", "push", "(I)V"⟩, 13), (⟨"ChainBoard$Chain", "toChannel", "(LChainBoard$Channel;I)V"⟩, 5), (⟨"ChainBoard$Channel", "takeConstant", "(I)V"⟩, 11), (⟨"ChainBoard$Channel", "takeControl", "(I)V"⟩, 11), (⟨"ChainBoard$Port", "takeCommand", "(I)V"⟩, 16), (⟨"ChainBoard$Port", "look", "()V"⟩, 16), (⟨"ChainBoard$Port", "holds", "()Z"⟩, 16), (⟨"ChainBoard$Processor", "extended", "(I)I"⟩, 13), (⟨"ChainBoard$Processor", "wordsWithCarry", "(I)I"⟩, 13), (⟨"ChainBoard$Processor", "copyByte", "()Z"⟩, 13), (⟨"ChainBoard$Processor", "pop", "()I"⟩, 13), (⟨"ChainBoard$Processor", "highColumns", "(I)I"⟩, 13)]
theorem lw_r2 : ∀ q ∈ lw_privs_2, lw_okq q := List.forall_mem_cons.mpr ⟨lw_p16, List.forall_mem_cons.mpr ⟨lw_p17, List.forall_mem_cons.mpr ⟨lw_p18, List.forall_mem_cons.mpr ⟨lw_p19, List.forall_mem_cons.mpr ⟨lw_p20, List.forall_mem_cons.mpr ⟨lw_p21, List.forall_mem_cons.mpr ⟨lw_p22, List.forall_mem_cons.mpr ⟨lw_p23, List.forall_mem_cons.mpr ⟨lw_p24, List.forall_mem_cons.mpr ⟨lw_p25, List.forall_mem_cons.mpr ⟨lw_p26, List.forall_mem_cons.mpr ⟨lw_p27, List.forall_mem_cons.mpr ⟨lw_p28, List.forall_mem_cons.mpr ⟨lw_p29, List.forall_mem_cons.mpr ⟨lw_p30, List.forall_mem_cons.mpr ⟨lw_p31, fun _ h => absurd h List.not_mem_nil⟩⟩⟩⟩⟩⟩⟩⟩⟩⟩⟩⟩⟩⟩⟩⟩
theorem lw_p32 : lw_okq (⟨"ChainBoard$Processor", "returnIf", "(I)I"⟩, 13) := ⟨⟨by decide +kernel, by decide +kernel⟩, List.mem_of_getElem? (i := 170) (by decide +kernel), List.mem_of_getElem? (i := 545) (by decide +kernel), List.mem_of_getElem? (i := 546) (by decide +kernel)⟩
theorem lw_p33 : lw_okq (⟨"ChainBoard$Processor", "popOrLeap", "(I)I"⟩, 13) := ⟨⟨by decide +kernel, by decide +kernel⟩, List.mem_of_getElem? (i := 170) (by decide +kernel), List.mem_of_getElem? (i := 549) (by decide +kernel), List.mem_of_getElem? (i := 550) (by decide +kernel)⟩
theorem lw_p34 : lw_okq (⟨"ChainBoard$Processor", "goIf", "(I)I"⟩, 13) := ⟨⟨by decide +kernel, by decide +kernel⟩, List.mem_of_getElem? (i := 170) (by decide +kernel), List.mem_of_getElem? (i := 553) (by decide +kernel), List.mem_of_getElem? (i := 554) (by decide +kernel)⟩
theorem lw_p35 : lw_okq (⟨"ChainBoard$Processor", "spend", "(I)V"⟩, 13) := ⟨⟨by decide +kernel, by decide +kernel⟩, List.mem_of_getElem? (i := 170) (by decide +kernel), List.mem_of_getElem? (i := 557) (by decide +kernel), List.mem_of_getElem? (i := 558) (by decide +kernel)⟩
theorem lw_p36 : lw_okq (⟨"ChainBoard$Channel", "fall", "()Z"⟩, 11) := ⟨⟨by decide +kernel, by decide +kernel⟩, List.mem_of_getElem? (i := 39) (by decide +kernel), List.mem_of_getElem? (i := 569) (by decide +kernel), List.mem_of_getElem? (i := 570) (by decide +kernel)⟩
theorem lw_p37 : lw_okq (⟨"ChainBoardModel", "af", "(I)I"⟩, 36) := ⟨⟨by decide +kernel, by decide +kernel⟩, List.mem_of_getElem? (i := 637) (by decide +kernel), List.mem_of_getElem? (i := 770) (by decide +kernel), List.mem_of_getElem? (i := 771) (by decide +kernel)⟩
theorem lw_p38 : lw_okq (⟨"ChainBoardModel", "pair", "(I)I"⟩, 36) := ⟨⟨by decide +kernel, by decide +kernel⟩, List.mem_of_getElem? (i := 637) (by decide +kernel), List.mem_of_getElem? (i := 774) (by decide +kernel), List.mem_of_getElem? (i := 775) (by decide +kernel)⟩
theorem lw_p39 : lw_okq (⟨"ChainBoardModel", "putAf", "(II)V"⟩, 36) := ⟨⟨by decide +kernel, by decide +kernel⟩, List.mem_of_getElem? (i := 637) (by decide +kernel), List.mem_of_getElem? (i := 782) (by decide +kernel), List.mem_of_getElem? (i := 783) (by decide +kernel)⟩
theorem lw_p40 : lw_okq (⟨"ChainBoardModel", "putPair", "(II)V"⟩, 36) := ⟨⟨by decide +kernel, by decide +kernel⟩, List.mem_of_getElem? (i := 637) (by decide +kernel), List.mem_of_getElem? (i := 786) (by decide +kernel), List.mem_of_getElem? (i := 787) (by decide +kernel)⟩
theorem lw_p41 : lw_okq (⟨"ChainBoardModel", "byteAt", "(I)I"⟩, 36) := ⟨⟨by decide +kernel, by decide +kernel⟩, List.mem_of_getElem? (i := 637) (by decide +kernel), List.mem_of_getElem? (i := 794) (by decide +kernel), List.mem_of_getElem? (i := 795) (by decide +kernel)⟩
theorem lw_p42 : lw_okq (⟨"ChainBoardModel", "carryOut", "()I"⟩, 36) := ⟨⟨by decide +kernel, by decide +kernel⟩, List.mem_of_getElem? (i := 637) (by decide +kernel), List.mem_of_getElem? (i := 798) (by decide +kernel), List.mem_of_getElem? (i := 799) (by decide +kernel)⟩
theorem lw_p43 : lw_okq (⟨"ChainBoardModel", "next", "()I"⟩, 36) := ⟨⟨by decide +kernel, by decide +kernel⟩, List.mem_of_getElem? (i := 637) (by decide +kernel), List.mem_of_getElem? (i := 802) (by decide +kernel), List.mem_of_getElem? (i := 803) (by decide +kernel)⟩
theorem lw_p44 : lw_okq (⟨"ChainBoardModel", "low", "(II)I"⟩, 36) := ⟨⟨by decide +kernel, by decide +kernel⟩, List.mem_of_getElem? (i := 637) (by decide +kernel), List.mem_of_getElem? (i := 806) (by decide +kernel), List.mem_of_getElem? (i := 807) (by decide +kernel)⟩
theorem lw_p45 : lw_okq (⟨"ChainBoardModel", "jumps", "(I)I"⟩, 36) := ⟨⟨by decide +kernel, by decide +kernel⟩, List.mem_of_getElem? (i := 637) (by decide +kernel), List.mem_of_getElem? (i := 810) (by decide +kernel), List.mem_of_getElem? (i := 811) (by decide +kernel)⟩
theorem lw_p46 : lw_okq (⟨"ChainBoardModel", "condition", "(I)Z"⟩, 36) := ⟨⟨by decide +kernel, by decide +kernel⟩, List.mem_of_getElem? (i := 637) (by decide +kernel), List.mem_of_getElem? (i := 814) (by decide +kernel), List.mem_of_getElem? (i := 815) (by decide +kernel)⟩
theorem lw_p47 : lw_okq (⟨"ChainBoardModel", "flag", "(I)Z"⟩, 36) := ⟨⟨by decide +kernel, by decide +kernel⟩, List.mem_of_getElem? (i := 637) (by decide +kernel), List.mem_of_getElem? (i := 818) (by decide +kernel), List.mem_of_getElem? (i := 819) (by decide +kernel)⟩
def lw_privs_3 : List (MethodName × Nat) := [(⟨"ChainBoard$Processor", "returnIf", "(I)I"⟩, 13), (⟨"ChainBoard$Processor", "popOrLeap", "(I)I"⟩, 13), (⟨"ChainBoard$Processor", "goIf", "(I)I"⟩, 13), (⟨"ChainBoard$Processor", "spend", "(I)V"⟩, 13), (⟨"ChainBoard$Channel", "fall", "()Z"⟩, 11), (⟨"ChainBoardModel", "af", "(I)I"⟩, 36), (⟨"ChainBoardModel", "pair", "(I)I"⟩, 36), (⟨"ChainBoardModel", "putAf", "(II)V"⟩, 36), (⟨"ChainBoardModel", "putPair", "(II)V"⟩, 36), (⟨"ChainBoardModel", "byteAt", "(I)I"⟩, 36), (⟨"ChainBoardModel", "carryOut", "()I"⟩, 36), (⟨"ChainBoardModel", "next", "()I"⟩, 36), (⟨"ChainBoardModel", "low", "(II)I"⟩, 36), (⟨"ChainBoardModel", "jumps", "(I)I"⟩, 36), (⟨"ChainBoardModel", "condition", "(I)Z"⟩, 36), (⟨"ChainBoardModel", "flag", "(I)Z"⟩, 36)]
theorem lw_r3 : ∀ q ∈ lw_privs_3, lw_okq q := List.forall_mem_cons.mpr ⟨lw_p32, List.forall_mem_cons.mpr ⟨lw_p33, List.forall_mem_cons.mpr ⟨lw_p34, List.forall_mem_cons.mpr ⟨lw_p35, List.forall_mem_cons.mpr ⟨lw_p36, List.forall_mem_cons.mpr ⟨lw_p37, List.forall_mem_cons.mpr ⟨lw_p38, List.forall_mem_cons.mpr ⟨lw_p39, List.forall_mem_cons.mpr ⟨lw_p40, List.forall_mem_cons.mpr ⟨lw_p41, List.forall_mem_cons.mpr ⟨lw_p42, List.forall_mem_cons.mpr ⟨lw_p43, List.forall_mem_cons.mpr ⟨lw_p44, List.forall_mem_cons.mpr ⟨lw_p45, List.forall_mem_cons.mpr ⟨lw_p46, List.forall_mem_cons.mpr ⟨lw_p47, fun _ h => absurd h List.not_mem_nil⟩⟩⟩⟩⟩⟩⟩⟩⟩⟩⟩⟩⟩⟩⟩⟩
theorem lw_p48 : lw_okq (⟨"ChainBoardModel", "nextWord", "()I"⟩, 36) := ⟨⟨by decide +kernel, by decide +kernel⟩, List.mem_of_getElem? (i := 637) (by decide +kernel), List.mem_of_getElem? (i := 822) (by decide +kernel), List.mem_of_getElem? (i := 823) (by decide +kernel)⟩
theorem lw_p49 : lw_okq (⟨"ChainBoardModel", "putWide", "(II)V"⟩, 36) := ⟨⟨by decide +kernel, by decide +kernel⟩, List.mem_of_getElem? (i := 637) (by decide +kernel), List.mem_of_getElem? (i := 826) (by decide +kernel), List.mem_of_getElem? (i := 827) (by decide +kernel)⟩
theorem lw_p50 : lw_okq (⟨"ChainBoardModel", "wide", "(I)I"⟩, 36) := ⟨⟨by decide +kernel, by decide +kernel⟩, List.mem_of_getElem? (i := 637) (by decide +kernel), List.mem_of_getElem? (i := 830) (by decide +kernel), List.mem_of_getElem? (i := 831) (by decide +kernel)⟩
theorem lw_p51 : lw_okq (⟨"ChainBoardModel", "wideSum", "(I)V"⟩, 36) := ⟨⟨by decide +kernel, by decide +kernel⟩, List.mem_of_getElem? (i := 637) (by decide +kernel), List.mem_of_getElem? (i := 834) (by decide +kernel), List.mem_of_getElem? (i := 835) (by decide +kernel)⟩
theorem lw_p52 : lw_okq (⟨"ChainBoardModel", "add", "(IIZI)I"⟩, 36) := ⟨⟨by decide +kernel, by decide +kernel⟩, List.mem_of_getElem? (i := 637) (by decide +kernel), List.mem_of_getElem? (i := 838) (by decide +kernel), List.mem_of_getElem? (i := 839) (by decide +kernel)⟩
theorem lw_p53 : lw_okq (⟨"ChainBoardModel", "setFlag", "(IZ)V"⟩, 36) := ⟨⟨by decide +kernel, by decide +kernel⟩, List.mem_of_getElem? (i := 637) (by decide +kernel), List.mem_of_getElem? (i := 842) (by decide +kernel), List.mem_of_getElem? (i := 843) (by decide +kernel)⟩
theorem lw_p54 : lw_okq (⟨"ChainBoardModel", "stores", "(I)I"⟩, 36) := ⟨⟨by decide +kernel, by decide +kernel⟩, List.mem_of_getElem? (i := 637) (by decide +kernel), List.mem_of_getElem? (i := 846) (by decide +kernel), List.mem_of_getElem? (i := 847) (by decide +kernel)⟩
theorem lw_p55 : lw_okq (⟨"ChainBoardModel", "putByte", "(II)V"⟩, 36) := ⟨⟨by decide +kernel, by decide +kernel⟩, List.mem_of_getElem? (i := 637) (by decide +kernel), List.mem_of_getElem? (i := 850) (by decide +kernel), List.mem_of_getElem? (i := 851) (by decide +kernel)⟩
theorem lw_p56 : lw_okq (⟨"ChainBoardModel", "putWord", "(II)V"⟩, 36) := ⟨⟨by decide +kernel, by decide +kernel⟩, List.mem_of_getElem? (i := 637) (by decide +kernel), List.mem_of_getElem? (i := 854) (by decide +kernel), List.mem_of_getElem? (i := 855) (by decide +kernel)⟩
theorem lw_p57 : lw_okq (⟨"ChainBoardModel", "wordAt", "(I)I"⟩, 36) := ⟨⟨by decide +kernel, by decide +kernel⟩, List.mem_of_getElem? (i := 637) (by decide +kernel), List.mem_of_getElem? (i := 858) (by decide +kernel), List.mem_of_getElem? (i := 859) (by decide +kernel)⟩
theorem lw_p58 : lw_okq (⟨"ChainBoardModel", "get", "(I)I"⟩, 36) := ⟨⟨by decide +kernel, by decide +kernel⟩, List.mem_of_getElem? (i := 637) (by decide +kernel), List.mem_of_getElem? (i := 862) (by decide +kernel), List.mem_of_getElem? (i := 863) (by decide +kernel)⟩
theorem lw_p59 : lw_okq (⟨"ChainBoardModel", "step", "(IZ)I"⟩, 36) := ⟨⟨by decide +kernel, by decide +kernel⟩, List.mem_of_getElem? (i := 637) (by decide +kernel), List.mem_of_getElem? (i := 866) (by decide +kernel), List.mem_of_getElem? (i := 867) (by decide +kernel)⟩
theorem lw_p60 : lw_okq (⟨"ChainBoardModel", "subtract", "(IIZI)I"⟩, 36) := ⟨⟨by decide +kernel, by decide +kernel⟩, List.mem_of_getElem? (i := 637) (by decide +kernel), List.mem_of_getElem? (i := 870) (by decide +kernel), List.mem_of_getElem? (i := 871) (by decide +kernel)⟩
theorem lw_p61 : lw_okq (⟨"ChainBoardModel", "sumFlags", "(IIZ)V"⟩, 36) := ⟨⟨by decide +kernel, by decide +kernel⟩, List.mem_of_getElem? (i := 637) (by decide +kernel), List.mem_of_getElem? (i := 874) (by decide +kernel), List.mem_of_getElem? (i := 875) (by decide +kernel)⟩
theorem lw_p62 : lw_okq (⟨"ChainBoardModel", "put", "(II)V"⟩, 36) := ⟨⟨by decide +kernel, by decide +kernel⟩, List.mem_of_getElem? (i := 637) (by decide +kernel), List.mem_of_getElem? (i := 878) (by decide +kernel), List.mem_of_getElem? (i := 879) (by decide +kernel)⟩
theorem lw_p63 : lw_okq (⟨"ChainBoardModel", "single", "(I)I"⟩, 36) := ⟨⟨by decide +kernel, by decide +kernel⟩, List.mem_of_getElem? (i := 637) (by decide +kernel), List.mem_of_getElem? (i := 882) (by decide +kernel), List.mem_of_getElem? (i := 883) (by decide +kernel)⟩
def lw_privs_4 : List (MethodName × Nat) := [(⟨"ChainBoardModel", "nextWord", "()I"⟩, 36), (⟨"ChainBoardModel", "putWide", "(II)V"⟩, 36), (⟨"ChainBoardModel", "wide", "(I)I"⟩, 36), (⟨"ChainBoardModel", "wideSum", "(I)V"⟩, 36), (⟨"ChainBoardModel", "add", "(IIZI)I"⟩, 36), (⟨"ChainBoardModel", "setFlag", "(IZ)V"⟩, 36), (⟨"ChainBoardModel", "stores", "(I)I"⟩, 36), (⟨"ChainBoardModel", "putByte", "(II)V"⟩, 36), (⟨"ChainBoardModel", "putWord", "(II)V"⟩, 36), (⟨"ChainBoardModel", "wordAt", "(I)I"⟩, 36), (⟨"ChainBoardModel", "get", "(I)I"⟩, 36), (⟨"ChainBoardModel", "step", "(IZ)I"⟩, 36), (⟨"ChainBoardModel", "subtract", "(IIZI)I"⟩, 36), (⟨"ChainBoardModel", "sumFlags", "(IIZ)V"⟩, 36), (⟨"ChainBoardModel", "put", "(II)V"⟩, 36), (⟨"ChainBoardModel", "single", "(I)I"⟩, 36)]
theorem lw_r4 : ∀ q ∈ lw_privs_4, lw_okq q := List.forall_mem_cons.mpr ⟨lw_p48, List.forall_mem_cons.mpr ⟨lw_p49, List.forall_mem_cons.mpr ⟨lw_p50, List.forall_mem_cons.mpr ⟨lw_p51, List.forall_mem_cons.mpr ⟨lw_p52, List.forall_mem_cons.mpr ⟨lw_p53, List.forall_mem_cons.mpr ⟨lw_p54, List.forall_mem_cons.mpr ⟨lw_p55, List.forall_mem_cons.mpr ⟨lw_p56, List.forall_mem_cons.mpr ⟨lw_p57, List.forall_mem_cons.mpr ⟨lw_p58, List.forall_mem_cons.mpr ⟨lw_p59, List.forall_mem_cons.mpr ⟨lw_p60, List.forall_mem_cons.mpr ⟨lw_p61, List.forall_mem_cons.mpr ⟨lw_p62, List.forall_mem_cons.mpr ⟨lw_p63, fun _ h => absurd h List.not_mem_nil⟩⟩⟩⟩⟩⟩⟩⟩⟩⟩⟩⟩⟩⟩⟩⟩
theorem lw_p64 : lw_okq (⟨"ChainBoardModel", "move", "(II)I"⟩, 36) := ⟨⟨by decide +kernel, by decide +kernel⟩, List.mem_of_getElem? (i := 637) (by decide +kernel), List.mem_of_getElem? (i := 886) (by decide +kernel), List.mem_of_getElem? (i := 887) (by decide +kernel)⟩
theorem lw_p65 : lw_okq (⟨"ChainBoardModel", "high", "(II)I"⟩, 36) := ⟨⟨by decide +kernel, by decide +kernel⟩, List.mem_of_getElem? (i := 637) (by decide +kernel), List.mem_of_getElem? (i := 890) (by decide +kernel), List.mem_of_getElem? (i := 891) (by decide +kernel)⟩
theorem lw_p66 : lw_okq (⟨"ChainBoardModel", "pop", "()I"⟩, 36) := ⟨⟨by decide +kernel, by decide +kernel⟩, List.mem_of_getElem? (i := 637) (by decide +kernel), List.mem_of_getElem? (i := 894) (by decide +kernel), List.mem_of_getElem? (i := 895) (by decide +kernel)⟩
theorem lw_p67 : lw_okq (⟨"ChainBoardModel", "pops", "(I)I"⟩, 36) := ⟨⟨by decide +kernel, by decide +kernel⟩, List.mem_of_getElem? (i := 637) (by decide +kernel), List.mem_of_getElem? (i := 898) (by decide +kernel), List.mem_of_getElem? (i := 899) (by decide +kernel)⟩
theorem lw_p68 : lw_okq (⟨"ChainBoardModel", "push", "(I)V"⟩, 36) := ⟨⟨by decide +kernel, by decide +kernel⟩, List.mem_of_getElem? (i := 637) (by decide +kernel), List.mem_of_getElem? (i := 902) (by decide +kernel), List.mem_of_getElem? (i := 903) (by decide +kernel)⟩
theorem lw_p69 : lw_okq (⟨"ChainBoardModel", "others", "(I)I"⟩, 36) := ⟨⟨by decide +kernel, by decide +kernel⟩, List.mem_of_getElem? (i := 637) (by decide +kernel), List.mem_of_getElem? (i := 906) (by decide +kernel), List.mem_of_getElem? (i := 907) (by decide +kernel)⟩
theorem lw_p70 : lw_okq (⟨"ChainBoardModel", "bits", "()I"⟩, 36) := ⟨⟨by decide +kernel, by decide +kernel⟩, List.mem_of_getElem? (i := 637) (by decide +kernel), List.mem_of_getElem? (i := 910) (by decide +kernel), List.mem_of_getElem? (i := 911) (by decide +kernel)⟩
theorem lw_p71 : lw_okq (⟨"ChainBoardModel", "shown", "(I)V"⟩, 36) := ⟨⟨by decide +kernel, by decide +kernel⟩, List.mem_of_getElem? (i := 637) (by decide +kernel), List.mem_of_getElem? (i := 914) (by decide +kernel), List.mem_of_getElem? (i := 915) (by decide +kernel)⟩
theorem lw_p72 : lw_okq (⟨"ChainBoardModel", "outTo", "(II)V"⟩, 36) := ⟨⟨by decide +kernel, by decide +kernel⟩, List.mem_of_getElem? (i := 637) (by decide +kernel), List.mem_of_getElem? (i := 921) (by decide +kernel), List.mem_of_getElem? (i := 922) (by decide +kernel)⟩
theorem lw_p73 : lw_okq (⟨"ChainBoardModel", "control", "(II)V"⟩, 36) := ⟨⟨by decide +kernel, by decide +kernel⟩, List.mem_of_getElem? (i := 637) (by decide +kernel), List.mem_of_getElem? (i := 925) (by decide +kernel), List.mem_of_getElem? (i := 926) (by decide +kernel)⟩
theorem lw_p74 : lw_okq (⟨"ChainBoardModel", "portControl", "(II)V"⟩, 36) := ⟨⟨by decide +kernel, by decide +kernel⟩, List.mem_of_getElem? (i := 637) (by decide +kernel), List.mem_of_getElem? (i := 929) (by decide +kernel), List.mem_of_getElem? (i := 930) (by decide +kernel)⟩
theorem lw_p75 : lw_okq (⟨"ChainBoardModel", "watch", "(I)V"⟩, 36) := ⟨⟨by decide +kernel, by decide +kernel⟩, List.mem_of_getElem? (i := 637) (by decide +kernel), List.mem_of_getElem? (i := 933) (by decide +kernel), List.mem_of_getElem? (i := 934) (by decide +kernel)⟩
theorem lw_p76 : lw_okq (⟨"ChainBoardModel", "request", "(I)V"⟩, 36) := ⟨⟨by decide +kernel, by decide +kernel⟩, List.mem_of_getElem? (i := 637) (by decide +kernel), List.mem_of_getElem? (i := 937) (by decide +kernel), List.mem_of_getElem? (i := 938) (by decide +kernel)⟩
theorem lw_p77 : lw_okq (⟨"ChainBoardModel", "inFrom", "(I)I"⟩, 36) := ⟨⟨by decide +kernel, by decide +kernel⟩, List.mem_of_getElem? (i := 637) (by decide +kernel), List.mem_of_getElem? (i := 941) (by decide +kernel), List.mem_of_getElem? (i := 942) (by decide +kernel)⟩
theorem lw_p78 : lw_okq (⟨"ChainBoardModel", "pushes", "(I)I"⟩, 36) := ⟨⟨by decide +kernel, by decide +kernel⟩, List.mem_of_getElem? (i := 637) (by decide +kernel), List.mem_of_getElem? (i := 945) (by decide +kernel), List.mem_of_getElem? (i := 946) (by decide +kernel)⟩
theorem lw_p79 : lw_okq (⟨"ChainBoardModel", "extended", "()I"⟩, 36) := ⟨⟨by decide +kernel, by decide +kernel⟩, List.mem_of_getElem? (i := 637) (by decide +kernel), List.mem_of_getElem? (i := 949) (by decide +kernel), List.mem_of_getElem? (i := 950) (by decide +kernel)⟩
def lw_privs_5 : List (MethodName × Nat) := [(⟨"ChainBoardModel", "move", "(II)I"⟩, 36), (⟨"ChainBoardModel", "high", "(II)I"⟩, 36), (⟨"ChainBoardModel", "pop", "()I"⟩, 36), (⟨"ChainBoardModel", "pops", "(I)I"⟩, 36), (⟨"ChainBoardModel", "push", "(I)V"⟩, 36), (⟨"ChainBoardModel", "others", "(I)I"⟩, 36), (⟨"ChainBoardModel", "bits", "()I"⟩, 36), (⟨"ChainBoardModel", "shown", "(I)V"⟩, 36), (⟨"ChainBoardModel", "outTo", "(II)V"⟩, 36), (⟨"ChainBoardModel", "control", "(II)V"⟩, 36), (⟨"ChainBoardModel", "portControl", "(II)V"⟩, 36), (⟨"ChainBoardModel", "watch", "(I)V"⟩, 36), (⟨"ChainBoardModel", "request", "(I)V"⟩, 36), (⟨"ChainBoardModel", "inFrom", "(I)I"⟩, 36), (⟨"ChainBoardModel", "pushes", "(I)I"⟩, 36), (⟨"ChainBoardModel", "extended", "()I"⟩, 36)]
theorem lw_r5 : ∀ q ∈ lw_privs_5, lw_okq q := List.forall_mem_cons.mpr ⟨lw_p64, List.forall_mem_cons.mpr ⟨lw_p65, List.forall_mem_cons.mpr ⟨lw_p66, List.forall_mem_cons.mpr ⟨lw_p67, List.forall_mem_cons.mpr ⟨lw_p68, List.forall_mem_cons.mpr ⟨lw_p69, List.forall_mem_cons.mpr ⟨lw_p70, List.forall_mem_cons.mpr ⟨lw_p71, List.forall_mem_cons.mpr ⟨lw_p72, List.forall_mem_cons.mpr ⟨lw_p73, List.forall_mem_cons.mpr ⟨lw_p74, List.forall_mem_cons.mpr ⟨lw_p75, List.forall_mem_cons.mpr ⟨lw_p76, List.forall_mem_cons.mpr ⟨lw_p77, List.forall_mem_cons.mpr ⟨lw_p78, List.forall_mem_cons.mpr ⟨lw_p79, fun _ h => absurd h List.not_mem_nil⟩⟩⟩⟩⟩⟩⟩⟩⟩⟩⟩⟩⟩⟩⟩⟩
theorem lw_p80 : lw_okq (⟨"ChainBoardModel", "operate", "(II)V"⟩, 36) := ⟨⟨by decide +kernel, by decide +kernel⟩, List.mem_of_getElem? (i := 637) (by decide +kernel), List.mem_of_getElem? (i := 953) (by decide +kernel), List.mem_of_getElem? (i := 954) (by decide +kernel)⟩
theorem lw_p81 : lw_okq (⟨"ChainBoardModel", "logicFlags", "(IZZ)V"⟩, 36) := ⟨⟨by decide +kernel, by decide +kernel⟩, List.mem_of_getElem? (i := 637) (by decide +kernel), List.mem_of_getElem? (i := 957) (by decide +kernel), List.mem_of_getElem? (i := 958) (by decide +kernel)⟩
theorem lw_p82 : lw_okq (⟨"ChainBoardModel", "copies", "(Z)I"⟩, 36) := ⟨⟨by decide +kernel, by decide +kernel⟩, List.mem_of_getElem? (i := 637) (by decide +kernel), List.mem_of_getElem? (i := 961) (by decide +kernel), List.mem_of_getElem? (i := 962) (by decide +kernel)⟩
theorem lw_p83 : lw_okq (⟨"ChainBoardModel", "leave", "()V"⟩, 36) := ⟨⟨by decide +kernel, by decide +kernel⟩, List.mem_of_getElem? (i := 637) (by decide +kernel), List.mem_of_getElem? (i := 965) (by decide +kernel), List.mem_of_getElem? (i := 966) (by decide +kernel)⟩
theorem lw_p84 : lw_okq (⟨"ChainBoardModel", "pass", "(I)V"⟩, 36) := ⟨⟨by decide +kernel, by decide +kernel⟩, List.mem_of_getElem? (i := 637) (by decide +kernel), List.mem_of_getElem? (i := 969) (by decide +kernel), List.mem_of_getElem? (i := 970) (by decide +kernel)⟩
theorem lw_p85 : lw_okq (⟨"ChainBoardModel", "fall", "(I)V"⟩, 36) := ⟨⟨by decide +kernel, by decide +kernel⟩, List.mem_of_getElem? (i := 637) (by decide +kernel), List.mem_of_getElem? (i := 973) (by decide +kernel), List.mem_of_getElem? (i := 974) (by decide +kernel)⟩
theorem lw_p86 : lw_okq (⟨"ChainBoardModel", "acknowledge", "()V"⟩, 36) := ⟨⟨by decide +kernel, by decide +kernel⟩, List.mem_of_getElem? (i := 637) (by decide +kernel), List.mem_of_getElem? (i := 977) (by decide +kernel), List.mem_of_getElem? (i := 978) (by decide +kernel)⟩
theorem lw_p87 : lw_okq (⟨"ChainBoardModel", "vectorOf", "(I)I"⟩, 36) := ⟨⟨by decide +kernel, by decide +kernel⟩, List.mem_of_getElem? (i := 637) (by decide +kernel), List.mem_of_getElem? (i := 981) (by decide +kernel), List.mem_of_getElem? (i := 982) (by decide +kernel)⟩
def lw_privs_6 : List (MethodName × Nat) := [(⟨"ChainBoardModel", "operate", "(II)V"⟩, 36), (⟨"ChainBoardModel", "logicFlags", "(IZZ)V"⟩, 36), (⟨"ChainBoardModel", "copies", "(Z)I"⟩, 36), (⟨"ChainBoardModel", "leave", "()V"⟩, 36), (⟨"ChainBoardModel", "pass", "(I)V"⟩, 36), (⟨"ChainBoardModel", "fall", "(I)V"⟩, 36), (⟨"ChainBoardModel", "acknowledge", "()V"⟩, 36), (⟨"ChainBoardModel", "vectorOf", "(I)I"⟩, 36)]
theorem lw_r6 : ∀ q ∈ lw_privs_6, lw_okq q := List.forall_mem_cons.mpr ⟨lw_p80, List.forall_mem_cons.mpr ⟨lw_p81, List.forall_mem_cons.mpr ⟨lw_p82, List.forall_mem_cons.mpr ⟨lw_p83, List.forall_mem_cons.mpr ⟨lw_p84, List.forall_mem_cons.mpr ⟨lw_p85, List.forall_mem_cons.mpr ⟨lw_p86, List.forall_mem_cons.mpr ⟨lw_p87, fun _ h => absurd h List.not_mem_nil⟩⟩⟩⟩⟩⟩⟩⟩
def lw_privs : List (MethodName × Nat) := lw_privs_1 ++ (lw_privs_2 ++ (lw_privs_3 ++ (lw_privs_4 ++ (lw_privs_5 ++ (lw_privs_6)))))
def lw_tbl : List Cond := k2_sels lw_privs ++ tables_1
theorem lw_privs_ok : ∀ q ∈ lw_privs, lw_okq q := by
  show ∀ q ∈ lw_privs_1 ++ (lw_privs_2 ++ (lw_privs_3 ++ (lw_privs_4 ++ (lw_privs_5 ++ (lw_privs_6))))), lw_okq q
  exact List.forall_mem_append.mpr ⟨lw_r1, List.forall_mem_append.mpr ⟨lw_r2, List.forall_mem_append.mpr ⟨lw_r3, List.forall_mem_append.mpr ⟨lw_r4, List.forall_mem_append.mpr ⟨lw_r5, lw_r6⟩⟩⟩⟩⟩
-- ===== end of PART A; then your names; then what follows =====
end
section
/-! names: classes, fields, methods. Written by wip/gen/main.py out of the listing and the Statement. -/
def RX1 : String := "ChainBoard"
def RX2 : String := "ChainBoard$Bank"
def RX3 : String := "ChainBoard$Chain"
def RX4 : String := "ChainBoard$Channel"
def RX5 : String := "ChainBoard$Device"
def RX6 : String := "ChainBoard$Flags"
def RX7 : String := "ChainBoard$Memory"
def RX8 : String := "ChainBoard$Port"
def RX9 : String := "ChainBoard$Processor"
def RX10 : String := "ChainBoard$Registers"
def RX12 : String := "ChainBoardModel"
def RX13 : String := "java/lang/Integer"
def TX2 : u_T := fun k => match k with
  | _ => ("ChainBoard$Bank", "bytes", "[I", true)
def tyX2 : Nat → FieldType := fun k => match k with
  | _ => .array .int
theorem nmX2 : ∀ a, a < 1 → ∀ b, b < 1 → a ≠ b → (TX2 a).2.1 ≠ (TX2 b).2.1 := by decide +kernel
theorem tyX2_ok : ∀ k, k < 1 → parseFieldDescriptor (TX2 k).2.2.1 = some (tyX2 k) := by decide +kernel
def TX3 : u_T := fun k => match k with
  | 0 => ("ChainBoard$Chain", "order", "[LChainBoard$Device;", true)
  | 1 => ("ChainBoard$Chain", "channel0", "LChainBoard$Channel;", true)
  | 2 => ("ChainBoard$Chain", "channel1", "LChainBoard$Channel;", true)
  | 3 => ("ChainBoard$Chain", "portA", "LChainBoard$Port;", true)
  | _ => ("ChainBoard$Chain", "portB", "LChainBoard$Port;", true)
def tyX3 : Nat → FieldType := fun k => match k with
  | 0 => .array (.object "ChainBoard$Device")
  | 1 => .object "ChainBoard$Channel"
  | 2 => .object "ChainBoard$Channel"
  | 3 => .object "ChainBoard$Port"
  | _ => .object "ChainBoard$Port"
theorem nmX3 : ∀ a, a < 5 → ∀ b, b < 5 → a ≠ b → (TX3 a).2.1 ≠ (TX3 b).2.1 := by decide +kernel
theorem tyX3_ok : ∀ k, k < 5 → parseFieldDescriptor (TX3 k).2.2.1 = some (tyX3 k) := by decide +kernel
def TX4 : u_T := fun k => match k with
  | 0 => ("ChainBoard$Device", "mayRequest", "Z", false)
  | 1 => ("ChainBoard$Device", "requesting", "Z", false)
  | 2 => ("ChainBoard$Device", "inService", "Z", false)
  | 3 => ("ChainBoard$Device", "vector", "I", false)
  | 4 => ("ChainBoard$Channel", "count", "I", false)
  | 5 => ("ChainBoard$Channel", "constant", "I", false)
  | 6 => ("ChainBoard$Channel", "prescaler", "I", false)
  | 7 => ("ChainBoard$Channel", "running", "Z", false)
  | 8 => ("ChainBoard$Channel", "countsTriggers", "Z", false)
  | 9 => ("ChainBoard$Channel", "slow", "Z", false)
  | _ => ("ChainBoard$Channel", "constantDue", "Z", false)
def tyX4 : Nat → FieldType := fun k => match k with
  | 0 => .boolean
  | 1 => .boolean
  | 2 => .boolean
  | 3 => .int
  | 4 => .int
  | 5 => .int
  | 6 => .int
  | 7 => .boolean
  | 8 => .boolean
  | 9 => .boolean
  | _ => .boolean
theorem nmX4 : ∀ a, a < 11 → ∀ b, b < 11 → a ≠ b → (TX4 a).2.1 ≠ (TX4 b).2.1 := by decide +kernel
theorem tyX4_ok : ∀ k, k < 11 → parseFieldDescriptor (TX4 k).2.2.1 = some (tyX4 k) := by decide +kernel
def TX7 : u_T := fun k => match k with
  | _ => ("ChainBoard$Memory", "cells", "[I", true)
def tyX7 : Nat → FieldType := fun k => match k with
  | _ => .array .int
theorem nmX7 : ∀ a, a < 1 → ∀ b, b < 1 → a ≠ b → (TX7 a).2.1 ≠ (TX7 b).2.1 := by decide +kernel
theorem tyX7_ok : ∀ k, k < 1 → parseFieldDescriptor (TX7 k).2.2.1 = some (tyX7 k) := by decide +kernel
def TX8 : u_T := fun k => match k with
  | 0 => ("ChainBoard$Device", "mayRequest", "Z", false)
  | 1 => ("ChainBoard$Device", "requesting", "Z", false)
  | 2 => ("ChainBoard$Device", "inService", "Z", false)
  | 3 => ("ChainBoard$Device", "vector", "I", false)
  | 4 => ("ChainBoard$Port", "mode", "I", false)
  | 5 => ("ChainBoard$Port", "ready", "Z", false)
  | 6 => ("ChainBoard$Port", "latch", "I", false)
  | 7 => ("ChainBoard$Port", "received", "I", false)
  | 8 => ("ChainBoard$Port", "levels", "I", false)
  | 9 => ("ChainBoard$Port", "directions", "I", false)
  | 10 => ("ChainBoard$Port", "mask", "I", false)
  | 11 => ("ChainBoard$Port", "all", "Z", false)
  | 12 => ("ChainBoard$Port", "high", "Z", false)
  | 13 => ("ChainBoard$Port", "directionsDue", "Z", false)
  | 14 => ("ChainBoard$Port", "maskDue", "Z", false)
  | _ => ("ChainBoard$Port", "held", "Z", false)
def tyX8 : Nat → FieldType := fun k => match k with
  | 0 => .boolean
  | 1 => .boolean
  | 2 => .boolean
  | 3 => .int
  | 4 => .int
  | 5 => .boolean
  | 6 => .int
  | 7 => .int
  | 8 => .int
  | 9 => .int
  | 10 => .int
  | 11 => .boolean
  | 12 => .boolean
  | 13 => .boolean
  | 14 => .boolean
  | _ => .boolean
theorem nmX8 : ∀ a, a < 16 → ∀ b, b < 16 → a ≠ b → (TX8 a).2.1 ≠ (TX8 b).2.1 := by decide +kernel
theorem tyX8_ok : ∀ k, k < 16 → parseFieldDescriptor (TX8 k).2.2.1 = some (tyX8 k) := by decide +kernel
def TX9 : u_T := fun k => match k with
  | 0 => ("ChainBoard$Processor", "registers", "LChainBoard$Registers;", true)
  | 1 => ("ChainBoard$Processor", "memory", "LChainBoard$Memory;", true)
  | 2 => ("ChainBoard$Processor", "chain", "LChainBoard$Chain;", true)
  | 3 => ("ChainBoard$Processor", "now", "LChainBoard$Bank;", true)
  | 4 => ("ChainBoard$Processor", "\x72", "[I", true)
  | 5 => ("ChainBoard$Processor", "enabled", "Z", false)
  | 6 => ("ChainBoard$Processor", "mode", "I", false)
  | 7 => ("ChainBoard$Processor", "halted", "Z", false)
  | 8 => ("ChainBoard$Processor", "stopped", "Z", false)
  | 9 => ("ChainBoard$Processor", "attentionWaits", "Z", false)
  | 10 => ("ChainBoard$Processor", "clocks", "I", false)
  | 11 => ("ChainBoard$Processor", "instructions", "I", false)
  | _ => ("ChainBoard$Processor", "acknowledgements", "I", false)
def tyX9 : Nat → FieldType := fun k => match k with
  | 0 => .object "ChainBoard$Registers"
  | 1 => .object "ChainBoard$Memory"
  | 2 => .object "ChainBoard$Chain"
  | 3 => .object "ChainBoard$Bank"
  | 4 => .array .int
  | 5 => .boolean
  | 6 => .int
  | 7 => .boolean
  | 8 => .boolean
  | 9 => .boolean
  | 10 => .int
  | 11 => .int
  | _ => .int
theorem nmX9 : ∀ a, a < 13 → ∀ b, b < 13 → a ≠ b → (TX9 a).2.1 ≠ (TX9 b).2.1 := by decide +kernel
theorem tyX9_ok : ∀ k, k < 13 → parseFieldDescriptor (TX9 k).2.2.1 = some (tyX9 k) := by decide +kernel
def TX10 : u_T := fun k => match k with
  | 0 => ("ChainBoard$Registers", "now", "LChainBoard$Bank;", true)
  | 1 => ("ChainBoard$Registers", "second", "LChainBoard$Bank;", true)
  | 2 => ("ChainBoard$Registers", "sp", "I", false)
  | 3 => ("ChainBoard$Registers", "pc", "I", false)
  | _ => ("ChainBoard$Registers", "page", "I", false)
def tyX10 : Nat → FieldType := fun k => match k with
  | 0 => .object "ChainBoard$Bank"
  | 1 => .object "ChainBoard$Bank"
  | 2 => .int
  | 3 => .int
  | _ => .int
theorem nmX10 : ∀ a, a < 5 → ∀ b, b < 5 → a ≠ b → (TX10 a).2.1 ≠ (TX10 b).2.1 := by decide +kernel
theorem tyX10_ok : ∀ k, k < 5 → parseFieldDescriptor (TX10 k).2.2.1 = some (tyX10 k) := by decide +kernel
def TX1 : u_T := fun k => match k with
  | 0 => ("ChainBoard", "memory", "LChainBoard$Memory;", true)
  | 1 => ("ChainBoard", "chain", "LChainBoard$Chain;", true)
  | _ => ("ChainBoard", "processor", "LChainBoard$Processor;", true)
def tyX1 : Nat → FieldType := fun k => match k with
  | 0 => .object "ChainBoard$Memory"
  | 1 => .object "ChainBoard$Chain"
  | _ => .object "ChainBoard$Processor"
theorem nmX1 : ∀ a, a < 3 → ∀ b, b < 3 → a ≠ b → (TX1 a).2.1 ≠ (TX1 b).2.1 := by decide +kernel
theorem tyX1_ok : ∀ k, k < 3 → parseFieldDescriptor (TX1 k).2.2.1 = some (tyX1 k) := by decide +kernel
def TX12 : u_T := fun k => match k with
  | 0 => ("ChainBoardModel", "memory", "[I", true)
  | 1 => ("ChainBoardModel", "\x72", "[I", true)
  | 2 => ("ChainBoardModel", "sp", "I", false)
  | 3 => ("ChainBoardModel", "pc", "I", false)
  | 4 => ("ChainBoardModel", "i", "I", false)
  | 5 => ("ChainBoardModel", "enabled", "Z", false)
  | 6 => ("ChainBoardModel", "mode", "I", false)
  | 7 => ("ChainBoardModel", "state", "I", false)
  | 8 => ("ChainBoardModel", "clocks", "I", false)
  | 9 => ("ChainBoardModel", "half", "Z", false)
  | 10 => ("ChainBoardModel", "into", "Z", false)
  | 11 => ("ChainBoardModel", "out", "Z", false)
  | 12 => ("ChainBoardModel", "requests", "[Z", true)
  | 13 => ("ChainBoardModel", "serves", "[Z", true)
  | 14 => ("ChainBoardModel", "may", "[Z", true)
  | 15 => ("ChainBoardModel", "base", "I", false)
  | 16 => ("ChainBoardModel", "constant", "[I", true)
  | 17 => ("ChainBoardModel", "count", "[I", true)
  | 18 => ("ChainBoardModel", "scaler", "[I", true)
  | 19 => ("ChainBoardModel", "runs", "[Z", true)
  | 20 => ("ChainBoardModel", "byTriggers", "[Z", true)
  | 21 => ("ChainBoardModel", "divides", "[I", true)
  | 22 => ("ChainBoardModel", "due", "[Z", true)
  | 23 => ("ChainBoardModel", "portMode", "[I", true)
  | 24 => ("ChainBoardModel", "vector", "[I", true)
  | 25 => ("ChainBoardModel", "awaits", "[I", true)
  | 26 => ("ChainBoardModel", "directions", "[I", true)
  | 27 => ("ChainBoardModel", "mask", "[I", true)
  | 28 => ("ChainBoardModel", "all", "[Z", true)
  | 29 => ("ChainBoardModel", "high", "[Z", true)
  | 30 => ("ChainBoardModel", "ready", "[Z", true)
  | 31 => ("ChainBoardModel", "latch", "[I", true)
  | 32 => ("ChainBoardModel", "received", "[I", true)
  | 33 => ("ChainBoardModel", "line", "[I", true)
  | 34 => ("ChainBoardModel", "held", "[Z", true)
  | _ => ("ChainBoardModel", "counted", "[I", true)
def tyX12 : Nat → FieldType := fun k => match k with
  | 0 => .array .int
  | 1 => .array .int
  | 2 => .int
  | 3 => .int
  | 4 => .int
  | 5 => .boolean
  | 6 => .int
  | 7 => .int
  | 8 => .int
  | 9 => .boolean
  | 10 => .boolean
  | 11 => .boolean
  | 12 => .array .boolean
  | 13 => .array .boolean
  | 14 => .array .boolean
  | 15 => .int
  | 16 => .array .int
  | 17 => .array .int
  | 18 => .array .int
  | 19 => .array .boolean
  | 20 => .array .boolean
  | 21 => .array .int
  | 22 => .array .boolean
  | 23 => .array .int
  | 24 => .array .int
  | 25 => .array .int
  | 26 => .array .int
  | 27 => .array .int
  | 28 => .array .boolean
  | 29 => .array .boolean
  | 30 => .array .boolean
  | 31 => .array .int
  | 32 => .array .int
  | 33 => .array .int
  | 34 => .array .boolean
  | _ => .array .int
theorem nmX12 : ∀ a, a < 36 → ∀ b, b < 36 → a ≠ b → (TX12 a).2.1 ≠ (TX12 b).2.1 := by decide +kernel
theorem tyX12_ok : ∀ k, k < 36 → parseFieldDescriptor (TX12 k).2.2.1 = some (tyX12 k) := by decide +kernel
abbrev vwCl : List vw_C := [(RX2, TX2, 1), (RX3, TX3, 5), (RX4, TX4, 11), (RX7, TX7, 1), (RX8, TX8, 16), (RX9, TX9, 13), (RX10, TX10, 5), (RX1, TX1, 3), (RX12, TX12, 36)]
abbrev cX1_init : ByteArray := prog_1_method_1_code
def yX1_init : MethodName := ⟨RX1, "<init>", "()V"⟩
abbrev cX1_poke : ByteArray := prog_1_method_2_code
def yX1_poke : MethodName := ⟨RX1, "poke", "(II)Z"⟩
abbrev cX1_poke4 : ByteArray := prog_1_method_3_code
def yX1_poke4 : MethodName := ⟨RX1, "poke4", "(II)Z"⟩
abbrev cX1_peek : ByteArray := prog_1_method_4_code
def yX1_peek : MethodName := ⟨RX1, "peek", "(I)I"⟩
abbrev cX1_register : ByteArray := prog_1_method_5_code
def yX1_register : MethodName := ⟨RX1, "register", "(I)I"⟩
abbrev cX1_set : ByteArray := prog_1_method_6_code
def yX1_set : MethodName := ⟨RX1, "set", "(II)Z"⟩
abbrev cX1_run : ByteArray := prog_1_method_7_code
def yX1_run : MethodName := ⟨RX1, "run", "(I)I"⟩
abbrev cX1_state : ByteArray := prog_1_method_8_code
def yX1_state : MethodName := ⟨RX1, "state", "()I"⟩
abbrev cX1_trigger : ByteArray := prog_1_method_9_code
def yX1_trigger : MethodName := ⟨RX1, "trigger", "(I)Z"⟩
abbrev cX1_strobe : ByteArray := prog_1_method_10_code
def yX1_strobe : MethodName := ⟨RX1, "strobe", "(II)Z"⟩
abbrev cX1_lines : ByteArray := prog_1_method_11_code
def yX1_lines : MethodName := ⟨RX1, "lines", "(II)Z"⟩
abbrev cX1_device : ByteArray := prog_1_method_12_code
def yX1_device : MethodName := ⟨RX1, "device", "(II)I"⟩
abbrev cX1_passed : ByteArray := prog_1_method_13_code
def yX1_passed : MethodName := ⟨RX1, "passed", "(I)I"⟩
abbrev cX2_init : ByteArray := prog_2_method_1_code
def yX2_init : MethodName := ⟨RX2, "<init>", "()V"⟩
abbrev cX2_pair : ByteArray := prog_2_method_2_code
def yX2_pair : MethodName := ⟨RX2, "pair", "(I)I"⟩
abbrev cX2_putPair : ByteArray := prog_2_method_3_code
def yX2_putPair : MethodName := ⟨RX2, "putPair", "(II)V"⟩
abbrev cX3_init : ByteArray := prog_3_method_1_code
def yX3_init : MethodName := ⟨RX3, "<init>", "()V"⟩
abbrev cX3_portOf : ByteArray := prog_3_method_2_code
def yX3_portOf : MethodName := ⟨RX3, "portOf", "(I)LChainBoard$Port;"⟩
abbrev cX3_takeClocks : ByteArray := prog_3_method_3_code
def yX3_takeClocks : MethodName := ⟨RX3, "takeClocks", "(I)V"⟩
abbrev cX3_pulse : ByteArray := prog_3_method_4_code
def yX3_pulse : MethodName := ⟨RX3, "pulse", "(I)V"⟩
abbrev cX3_input : ByteArray := prog_3_method_5_code
def yX3_input : MethodName := ⟨RX3, "input", "(I)I"⟩
abbrev cX3_output : ByteArray := prog_3_method_6_code
def yX3_output : MethodName := ⟨RX3, "output", "(II)V"⟩
abbrev cX3_toChannel : ByteArray := prog_3_method_7_code
def yX3_toChannel : MethodName := ⟨RX3, "toChannel", "(LChainBoard$Channel;I)V"⟩
abbrev cX3_firstToAttend : ByteArray := prog_3_method_8_code
def yX3_firstToAttend : MethodName := ⟨RX3, "firstToAttend", "()LChainBoard$Device;"⟩
abbrev cX3_endService : ByteArray := prog_3_method_9_code
def yX3_endService : MethodName := ⟨RX3, "endService", "()V"⟩
abbrev cX4_init : ByteArray := prog_4_method_1_code
def yX4_init : MethodName := ⟨RX4, "<init>", "(I)V"⟩
abbrev cX4_detail : ByteArray := prog_4_method_2_code
def yX4_detail : MethodName := ⟨RX4, "detail", "(I)I"⟩
abbrev cX4_takeByte : ByteArray := prog_4_method_3_code
def yX4_takeByte : MethodName := ⟨RX4, "takeByte", "(I)Z"⟩
abbrev cX4_takeConstant : ByteArray := prog_4_method_4_code
def yX4_takeConstant : MethodName := ⟨RX4, "takeConstant", "(I)V"⟩
abbrev cX4_takeControl : ByteArray := prog_4_method_5_code
def yX4_takeControl : MethodName := ⟨RX4, "takeControl", "(I)V"⟩
abbrev cX4_takeClocks : ByteArray := prog_4_method_6_code
def yX4_takeClocks : MethodName := ⟨RX4, "takeClocks", "(I)I"⟩
abbrev cX4_takeTrigger : ByteArray := prog_4_method_7_code
def yX4_takeTrigger : MethodName := ⟨RX4, "takeTrigger", "()Z"⟩
abbrev cX4_fall : ByteArray := prog_4_method_8_code
def yX4_fall : MethodName := ⟨RX4, "fall", "()Z"⟩
abbrev cX5_init : ByteArray := prog_5_method_1_code
def yX5_init : MethodName := ⟨RX5, "<init>", "()V"⟩
abbrev cX5_request : ByteArray := prog_5_method_3_code
def yX5_request : MethodName := ⟨RX5, "request", "()V"⟩
abbrev cX6_add : ByteArray := prog_6_method_2_code
def yX6_add : MethodName := ⟨RX6, "add", "(III)I"⟩
abbrev cX6_subtract : ByteArray := prog_6_method_3_code
def yX6_subtract : MethodName := ⟨RX6, "subtract", "(III)I"⟩
abbrev cX6_addWords : ByteArray := prog_6_method_4_code
def yX6_addWords : MethodName := ⟨RX6, "addWords", "(III)I"⟩
abbrev cX6_subtractWords : ByteArray := prog_6_method_5_code
def yX6_subtractWords : MethodName := ⟨RX6, "subtractWords", "(III)I"⟩
abbrev cX6_operate : ByteArray := prog_6_method_6_code
def yX6_operate : MethodName := ⟨RX6, "operate", "(IIII)I"⟩
abbrev cX6_shift : ByteArray := prog_6_method_7_code
def yX6_shift : MethodName := ⟨RX6, "shift", "(III)I"⟩
abbrev cX6_withParity : ByteArray := prog_6_method_8_code
def yX6_withParity : MethodName := ⟨RX6, "withParity", "(I)I"⟩
abbrev cX6_signAndZero : ByteArray := prog_6_method_9_code
def yX6_signAndZero : MethodName := ⟨RX6, "signAndZero", "(I)I"⟩
abbrev cX6_wordSignAndZero : ByteArray := prog_6_method_10_code
def yX6_wordSignAndZero : MethodName := ⟨RX6, "wordSignAndZero", "(I)I"⟩
abbrev cX7_init : ByteArray := prog_7_method_1_code
def yX7_init : MethodName := ⟨RX7, "<init>", "()V"⟩
abbrev cX7_byteAt : ByteArray := prog_7_method_2_code
def yX7_byteAt : MethodName := ⟨RX7, "byteAt", "(I)I"⟩
abbrev cX7_putByte : ByteArray := prog_7_method_3_code
def yX7_putByte : MethodName := ⟨RX7, "putByte", "(II)V"⟩
abbrev cX7_wordAt : ByteArray := prog_7_method_4_code
def yX7_wordAt : MethodName := ⟨RX7, "wordAt", "(I)I"⟩
abbrev cX7_putWord : ByteArray := prog_7_method_5_code
def yX7_putWord : MethodName := ⟨RX7, "putWord", "(II)V"⟩
abbrev cX8_init : ByteArray := prog_8_method_1_code
def yX8_init : MethodName := ⟨RX8, "<init>", "()V"⟩
abbrev cX8_detail : ByteArray := prog_8_method_2_code
def yX8_detail : MethodName := ⟨RX8, "detail", "(I)I"⟩
abbrev cX8_takeData : ByteArray := prog_8_method_3_code
def yX8_takeData : MethodName := ⟨RX8, "takeData", "(I)V"⟩
abbrev cX8_giveData : ByteArray := prog_8_method_4_code
def yX8_giveData : MethodName := ⟨RX8, "giveData", "()I"⟩
abbrev cX8_takeControl : ByteArray := prog_8_method_5_code
def yX8_takeControl : MethodName := ⟨RX8, "takeControl", "(I)V"⟩
abbrev cX8_takeCommand : ByteArray := prog_8_method_6_code
def yX8_takeCommand : MethodName := ⟨RX8, "takeCommand", "(I)V"⟩
abbrev cX8_takeLevels : ByteArray := prog_8_method_7_code
def yX8_takeLevels : MethodName := ⟨RX8, "takeLevels", "(I)V"⟩
abbrev cX8_takeStrobe : ByteArray := prog_8_method_8_code
def yX8_takeStrobe : MethodName := ⟨RX8, "takeStrobe", "(I)Z"⟩
abbrev cX8_look : ByteArray := prog_8_method_9_code
def yX8_look : MethodName := ⟨RX8, "look", "()V"⟩
abbrev cX8_holds : ByteArray := prog_8_method_10_code
def yX8_holds : MethodName := ⟨RX8, "holds", "()Z"⟩
abbrev cX9_init : ByteArray := prog_9_method_1_code
def yX9_init : MethodName := ⟨RX9, "<init>", "(LChainBoard$Memory;LChainBoard$Chain;)V"⟩
abbrev cX9_carryOut : ByteArray := prog_9_method_2_code
def yX9_carryOut : MethodName := ⟨RX9, "carryOut", "()I"⟩
abbrev cX9_attend : ByteArray := prog_9_method_3_code
def yX9_attend : MethodName := ⟨RX9, "attend", "()I"⟩
abbrev cX9_spend : ByteArray := prog_9_method_4_code
def yX9_spend : MethodName := ⟨RX9, "spend", "(I)V"⟩
abbrev cX9_lowQuarter : ByteArray := prog_9_method_5_code
def yX9_lowQuarter : MethodName := ⟨RX9, "lowQuarter", "(I)I"⟩
abbrev cX9_relative : ByteArray := prog_9_method_6_code
def yX9_relative : MethodName := ⟨RX9, "relative", "(I)I"⟩
abbrev cX9_goOn : ByteArray := prog_9_method_7_code
def yX9_goOn : MethodName := ⟨RX9, "goOn", "(Z)I"⟩
abbrev cX9_wordLoadOrSum : ByteArray := prog_9_method_8_code
def yX9_wordLoadOrSum : MethodName := ⟨RX9, "wordLoadOrSum", "(I)I"⟩
abbrev cX9_transfer : ByteArray := prog_9_method_9_code
def yX9_transfer : MethodName := ⟨RX9, "transfer", "(I)I"⟩
abbrev cX9_step : ByteArray := prog_9_method_10_code
def yX9_step : MethodName := ⟨RX9, "step", "(II)I"⟩
abbrev cX9_onA : ByteArray := prog_9_method_11_code
def yX9_onA : MethodName := ⟨RX9, "onA", "(I)I"⟩
abbrev cX9_moveOrHalt : ByteArray := prog_9_method_12_code
def yX9_moveOrHalt : MethodName := ⟨RX9, "moveOrHalt", "(I)I"⟩
abbrev cX9_operate : ByteArray := prog_9_method_13_code
def yX9_operate : MethodName := ⟨RX9, "operate", "(II)V"⟩
abbrev cX9_highAlone : ByteArray := prog_9_method_14_code
def yX9_highAlone : MethodName := ⟨RX9, "highAlone", "(I)I"⟩
abbrev cX9_highColumns : ByteArray := prog_9_method_15_code
def yX9_highColumns : MethodName := ⟨RX9, "highColumns", "(I)I"⟩
abbrev cX9_goIf : ByteArray := prog_9_method_16_code
def yX9_goIf : MethodName := ⟨RX9, "goIf", "(I)I"⟩
abbrev cX9_returnIf : ByteArray := prog_9_method_17_code
def yX9_returnIf : MethodName := ⟨RX9, "returnIf", "(I)I"⟩
abbrev cX9_callIf : ByteArray := prog_9_method_18_code
def yX9_callIf : MethodName := ⟨RX9, "callIf", "(Z)I"⟩
abbrev cX9_popOrLeap : ByteArray := prog_9_method_19_code
def yX9_popOrLeap : MethodName := ⟨RX9, "popOrLeap", "(I)I"⟩
abbrev cX9_bits : ByteArray := prog_9_method_20_code
def yX9_bits : MethodName := ⟨RX9, "bits", "(I)I"⟩
abbrev cX9_extended : ByteArray := prog_9_method_21_code
def yX9_extended : MethodName := ⟨RX9, "extended", "(I)I"⟩
abbrev cX9_wordsWithCarry : ByteArray := prog_9_method_22_code
def yX9_wordsWithCarry : MethodName := ⟨RX9, "wordsWithCarry", "(I)I"⟩
abbrev cX9_copyByte : ByteArray := prog_9_method_23_code
def yX9_copyByte : MethodName := ⟨RX9, "copyByte", "()Z"⟩
abbrev cX9_condition : ByteArray := prog_9_method_24_code
def yX9_condition : MethodName := ⟨RX9, "condition", "(I)Z"⟩
abbrev cX9_changeFlags : ByteArray := prog_9_method_25_code
def yX9_changeFlags : MethodName := ⟨RX9, "changeFlags", "(II)V"⟩
abbrev cX9_read : ByteArray := prog_9_method_26_code
def yX9_read : MethodName := ⟨RX9, "read", "(I)I"⟩
abbrev cX9_write : ByteArray := prog_9_method_27_code
def yX9_write : MethodName := ⟨RX9, "write", "(II)V"⟩
abbrev cX9_wide : ByteArray := prog_9_method_28_code
def yX9_wide : MethodName := ⟨RX9, "wide", "(I)I"⟩
abbrev cX9_putWide : ByteArray := prog_9_method_29_code
def yX9_putWide : MethodName := ⟨RX9, "putWide", "(II)V"⟩
abbrev cX9_nextByte : ByteArray := prog_9_method_30_code
def yX9_nextByte : MethodName := ⟨RX9, "nextByte", "()I"⟩
abbrev cX9_nextWord : ByteArray := prog_9_method_31_code
def yX9_nextWord : MethodName := ⟨RX9, "nextWord", "()I"⟩
abbrev cX9_push : ByteArray := prog_9_method_32_code
def yX9_push : MethodName := ⟨RX9, "push", "(I)V"⟩
abbrev cX9_pop : ByteArray := prog_9_method_33_code
def yX9_pop : MethodName := ⟨RX9, "pop", "()I"⟩
abbrev cX10_init : ByteArray := prog_10_method_1_code
def yX10_init : MethodName := ⟨RX10, "<init>", "()V"⟩
abbrev cX10_exchange : ByteArray := prog_10_method_2_code
def yX10_exchange : MethodName := ⟨RX10, "exchange", "(I)V"⟩
abbrev cX10_numbered : ByteArray := prog_10_method_3_code
def yX10_numbered : MethodName := ⟨RX10, "numbered", "(I)I"⟩
abbrev cX10_putNumbered : ByteArray := prog_10_method_4_code
def yX10_putNumbered : MethodName := ⟨RX10, "putNumbered", "(II)Z"⟩
abbrev cX10_facePair : ByteArray := prog_10_method_5_code
def yX10_facePair : MethodName := ⟨RX10, "facePair", "(I)I"⟩
abbrev cX12_init : ByteArray := prog_12_method_1_code
def yX12_init : MethodName := ⟨RX12, "<init>", "()V"⟩
abbrev cX12_byteAt : ByteArray := prog_12_method_2_code
def yX12_byteAt : MethodName := ⟨RX12, "byteAt", "(I)I"⟩
abbrev cX12_putByte : ByteArray := prog_12_method_3_code
def yX12_putByte : MethodName := ⟨RX12, "putByte", "(II)V"⟩
abbrev cX12_wordAt : ByteArray := prog_12_method_4_code
def yX12_wordAt : MethodName := ⟨RX12, "wordAt", "(I)I"⟩
abbrev cX12_putWord : ByteArray := prog_12_method_5_code
def yX12_putWord : MethodName := ⟨RX12, "putWord", "(II)V"⟩
abbrev cX12_next : ByteArray := prog_12_method_6_code
def yX12_next : MethodName := ⟨RX12, "next", "()I"⟩
abbrev cX12_nextWord : ByteArray := prog_12_method_7_code
def yX12_nextWord : MethodName := ⟨RX12, "nextWord", "()I"⟩
abbrev cX12_pair : ByteArray := prog_12_method_8_code
def yX12_pair : MethodName := ⟨RX12, "pair", "(I)I"⟩
abbrev cX12_putPair : ByteArray := prog_12_method_9_code
def yX12_putPair : MethodName := ⟨RX12, "putPair", "(II)V"⟩
abbrev cX12_af : ByteArray := prog_12_method_10_code
def yX12_af : MethodName := ⟨RX12, "af", "(I)I"⟩
abbrev cX12_putAf : ByteArray := prog_12_method_11_code
def yX12_putAf : MethodName := ⟨RX12, "putAf", "(II)V"⟩
abbrev cX12_get : ByteArray := prog_12_method_12_code
def yX12_get : MethodName := ⟨RX12, "get", "(I)I"⟩
abbrev cX12_put : ByteArray := prog_12_method_13_code
def yX12_put : MethodName := ⟨RX12, "put", "(II)V"⟩
abbrev cX12_wide : ByteArray := prog_12_method_14_code
def yX12_wide : MethodName := ⟨RX12, "wide", "(I)I"⟩
abbrev cX12_putWide : ByteArray := prog_12_method_15_code
def yX12_putWide : MethodName := ⟨RX12, "putWide", "(II)V"⟩
abbrev cX12_push : ByteArray := prog_12_method_16_code
def yX12_push : MethodName := ⟨RX12, "push", "(I)V"⟩
abbrev cX12_pop : ByteArray := prog_12_method_17_code
def yX12_pop : MethodName := ⟨RX12, "pop", "()I"⟩
abbrev cX12_flag : ByteArray := prog_12_method_18_code
def yX12_flag : MethodName := ⟨RX12, "flag", "(I)Z"⟩
abbrev cX12_setFlag : ByteArray := prog_12_method_19_code
def yX12_setFlag : MethodName := ⟨RX12, "setFlag", "(IZ)V"⟩
abbrev cX12_condition : ByteArray := prog_12_method_20_code
def yX12_condition : MethodName := ⟨RX12, "condition", "(I)Z"⟩
abbrev cX12_add : ByteArray := prog_12_method_21_code
def yX12_add : MethodName := ⟨RX12, "add", "(IIZI)I"⟩
abbrev cX12_subtract : ByteArray := prog_12_method_22_code
def yX12_subtract : MethodName := ⟨RX12, "subtract", "(IIZI)I"⟩
abbrev cX12_sumFlags : ByteArray := prog_12_method_23_code
def yX12_sumFlags : MethodName := ⟨RX12, "sumFlags", "(IIZ)V"⟩
abbrev cX12_even : ByteArray := prog_12_method_24_code
def yX12_even : MethodName := ⟨RX12, "even", "(I)Z"⟩
abbrev cX12_logicFlags : ByteArray := prog_12_method_25_code
def yX12_logicFlags : MethodName := ⟨RX12, "logicFlags", "(IZZ)V"⟩
abbrev cX12_shown : ByteArray := prog_12_method_26_code
def yX12_shown : MethodName := ⟨RX12, "shown", "(I)V"⟩
abbrev cX12_operate : ByteArray := prog_12_method_27_code
def yX12_operate : MethodName := ⟨RX12, "operate", "(II)V"⟩
abbrev cX12_step : ByteArray := prog_12_method_28_code
def yX12_step : MethodName := ⟨RX12, "step", "(IZ)I"⟩
abbrev cX12_move : ByteArray := prog_12_method_29_code
def yX12_move : MethodName := ⟨RX12, "move", "(II)I"⟩
abbrev cX12_wideSum : ByteArray := prog_12_method_30_code
def yX12_wideSum : MethodName := ⟨RX12, "wideSum", "(I)V"⟩
abbrev cX12_carryOut : ByteArray := prog_12_method_31_code
def yX12_carryOut : MethodName := ⟨RX12, "carryOut", "()I"⟩
abbrev cX12_low : ByteArray := prog_12_method_32_code
def yX12_low : MethodName := ⟨RX12, "low", "(II)I"⟩
abbrev cX12_jumps : ByteArray := prog_12_method_33_code
def yX12_jumps : MethodName := ⟨RX12, "jumps", "(I)I"⟩
abbrev cX12_stores : ByteArray := prog_12_method_34_code
def yX12_stores : MethodName := ⟨RX12, "stores", "(I)I"⟩
abbrev cX12_single : ByteArray := prog_12_method_35_code
def yX12_single : MethodName := ⟨RX12, "single", "(I)I"⟩
abbrev cX12_high : ByteArray := prog_12_method_36_code
def yX12_high : MethodName := ⟨RX12, "high", "(II)I"⟩
abbrev cX12_pops : ByteArray := prog_12_method_37_code
def yX12_pops : MethodName := ⟨RX12, "pops", "(I)I"⟩
abbrev cX12_pushes : ByteArray := prog_12_method_38_code
def yX12_pushes : MethodName := ⟨RX12, "pushes", "(I)I"⟩
abbrev cX12_others : ByteArray := prog_12_method_39_code
def yX12_others : MethodName := ⟨RX12, "others", "(I)I"⟩
abbrev cX12_bits : ByteArray := prog_12_method_40_code
def yX12_bits : MethodName := ⟨RX12, "bits", "()I"⟩
abbrev cX12_extended : ByteArray := prog_12_method_41_code
def yX12_extended : MethodName := ⟨RX12, "extended", "()I"⟩
abbrev cX12_copies : ByteArray := prog_12_method_42_code
def yX12_copies : MethodName := ⟨RX12, "copies", "(Z)I"⟩
abbrev cX12_leave : ByteArray := prog_12_method_43_code
def yX12_leave : MethodName := ⟨RX12, "leave", "()V"⟩
abbrev cX12_request : ByteArray := prog_12_method_44_code
def yX12_request : MethodName := ⟨RX12, "request", "(I)V"⟩
abbrev cX12_acknowledge : ByteArray := prog_12_method_45_code
def yX12_acknowledge : MethodName := ⟨RX12, "acknowledge", "()V"⟩
abbrev cX12_vectorOf : ByteArray := prog_12_method_46_code
def yX12_vectorOf : MethodName := ⟨RX12, "vectorOf", "(I)I"⟩
abbrev cX12_pass : ByteArray := prog_12_method_47_code
def yX12_pass : MethodName := ⟨RX12, "pass", "(I)V"⟩
abbrev cX12_fall : ByteArray := prog_12_method_48_code
def yX12_fall : MethodName := ⟨RX12, "fall", "(I)V"⟩
abbrev cX12_control : ByteArray := prog_12_method_49_code
def yX12_control : MethodName := ⟨RX12, "control", "(II)V"⟩
abbrev cX12_portControl : ByteArray := prog_12_method_50_code
def yX12_portControl : MethodName := ⟨RX12, "portControl", "(II)V"⟩
abbrev cX12_watch : ByteArray := prog_12_method_51_code
def yX12_watch : MethodName := ⟨RX12, "watch", "(I)V"⟩
abbrev cX12_outTo : ByteArray := prog_12_method_52_code
def yX12_outTo : MethodName := ⟨RX12, "outTo", "(II)V"⟩
abbrev cX12_inFrom : ByteArray := prog_12_method_53_code
def yX12_inFrom : MethodName := ⟨RX12, "inFrom", "(I)I"⟩
abbrev cX12_poke : ByteArray := prog_12_method_54_code
def yX12_poke : MethodName := ⟨RX12, "poke", "(II)Z"⟩
abbrev cX12_poke4 : ByteArray := prog_12_method_55_code
def yX12_poke4 : MethodName := ⟨RX12, "poke4", "(II)Z"⟩
abbrev cX12_peek : ByteArray := prog_12_method_56_code
def yX12_peek : MethodName := ⟨RX12, "peek", "(I)I"⟩
abbrev cX12_register : ByteArray := prog_12_method_57_code
def yX12_register : MethodName := ⟨RX12, "register", "(I)I"⟩
abbrev cX12_set : ByteArray := prog_12_method_58_code
def yX12_set : MethodName := ⟨RX12, "set", "(II)Z"⟩
abbrev cX12_run : ByteArray := prog_12_method_59_code
def yX12_run : MethodName := ⟨RX12, "run", "(I)I"⟩
abbrev cX12_state : ByteArray := prog_12_method_60_code
def yX12_state : MethodName := ⟨RX12, "state", "()I"⟩
abbrev cX12_trigger : ByteArray := prog_12_method_61_code
def yX12_trigger : MethodName := ⟨RX12, "trigger", "(I)Z"⟩
abbrev cX12_strobe : ByteArray := prog_12_method_62_code
def yX12_strobe : MethodName := ⟨RX12, "strobe", "(II)Z"⟩
abbrev cX12_lines : ByteArray := prog_12_method_63_code
def yX12_lines : MethodName := ⟨RX12, "lines", "(II)Z"⟩
abbrev cX12_device : ByteArray := prog_12_method_64_code
def yX12_device : MethodName := ⟨RX12, "device", "(II)I"⟩
abbrev cX12_passed : ByteArray := prog_12_method_65_code
def yX12_passed : MethodName := ⟨RX12, "passed", "(I)I"⟩
abbrev cX13_bitCount : ByteArray := prog_13_method_49_code
def yX13_bitCount : MethodName := ⟨RX13, "bitCount", "(I)I"⟩
end
section
/-! My own layer over the kit: one judgement cb_V (the machine at a pc, with named locals, a stack and a world), a row an instruction; contracts cb_C; pure words for the decompiled methods. Written by wip/gen/mklayer.py. -/
abbrev cb_S : Type := Nat → Nat → Int32
def cb_up (σ : cb_S) (j k : Nat) (v : Int32) : cb_S := fun i => if i = j then upd (σ j) k v else σ i
def cb_let {α β : Type} (x : α) (f : α → β) : β := f x
theorem cb_let_o {α β : Type} {x : α} {f : α → β} {r : β} (h : cb_let x f = r) : ∃ y, x = y ∧ f y = r := ⟨x, rfl, h⟩
def cb_bo {α β : Type} (x : Option α) (f : α → Option β) : Option β := match x with
  | none => none
  | some a => f a
theorem cb_bo_o {α β : Type} {x : Option α} {f : α → Option β} {r : β} (h : cb_bo x f = some r) : ∃ a, x = some a ∧ f a = some r := by
  cases x with
  | none => cases h
  | some a => exact ⟨a, rfl, h⟩
def cb_b2 {α γ β : Type} (x : Option (α × γ)) (f : α → γ → Option β) : Option β := match x with
  | none => none
  | some a => f a.1 a.2
theorem cb_b2_o {α γ β : Type} {x : Option (α × γ)} {f : α → γ → Option β} {r : β} (h : cb_b2 x f = some r) : ∃ a c, x = some (a, c) ∧ f a c = some r := by
  cases x with
  | none => cases h
  | some a => exact ⟨a.1, a.2, rfl, h⟩
def cb_gd {β : Type} (c : Prop) [Decidable c] (x : Option β) : Option β := if c then x else none
theorem cb_gd_o {β : Type} {c : Prop} [Decidable c] {x : Option β} {r : β} (h : cb_gd c x = some r) : c ∧ x = some r := by
  unfold cb_gd at h
  by_cases hc : c
  · rw [if_pos hc] at h; exact ⟨hc, h⟩
  · rw [if_neg hc] at h; cases h
theorem cb_it {α : Type} {c : Prop} [Decidable c] {a b r : α} (h : c) (e : (if c then a else b) = r) : a = r := by rw [if_pos h] at e; exact e
theorem cb_if {α : Type} {c : Prop} [Decidable c] {a b r : α} (h : ¬ c) (e : (if c then a else b) = r) : b = r := by rw [if_neg h] at e; exact e
theorem cb_cut {B : Prop} (A : Prop) (h : A → B) (a : A) : B := h a
def cb_01 (x : Int32) : Prop := x = 0 ∨ x = 1
theorem cb_01_0 : cb_01 0 := Or.inl rfl
theorem cb_01_1 : cb_01 1 := Or.inr rfl
theorem cb_01_i {c : Prop} [Decidable c] {x y : Int32} (h : cb_01 x) (k : cb_01 y) : cb_01 (if c then x else y) := by
  by_cases hc : c
  · rw [if_pos hc]; exact h
  · rw [if_neg hc]; exact k
theorem cb_01_n {x : Int32} (h : cb_01 x) : narrow .boolean (.int x) = .int x := by
  rcases h with rfl | rfl <;> decide +kernel
theorem cb_01_f {x : Int32} (h : cb_01 x) : fits .boolean (.int x) = true := by
  rcases h with rfl | rfl <;> decide +kernel
theorem cb_01_v {x : Int32} (h : cb_01 x) : vp_nar .boolean x = x := by
  rcases h with rfl | rfl <;> decide +kernel
/-- the machine's fixed things: p l e R s m args below meth c, D, what may be written, cells and slots so far, the end -/
abbrev cb_X : Type := Program × Launch × Env × Room × State × MethodId × Array Value × List Frame × Method × Code × va_G × (Nat → Prop) × Nat × Nat × (State → Prop)
def cb_V (X : cb_X) (w : va_W) (pc : Nat) (lv : List (Nat × Value)) (st : List Value) : Prop := match X with
  | (p, l, e, R, s, m, args, below, meth, c, D, A, k, n, Q) => ∀ (H : Heap) (locs : List Loc) (ls : Array Slot), va_P D vwCl w H → va_D A w → va_S A s.heap H locs → lv_has ls c.maxLocals lv → W p l e R s m args below meth c H locs k n Q (F0 m pc ls st)
/-- words of a system: of the tables, of nest mates, of its arrays -/
abbrev cb_E : Type := List Cond × List Cond × List (ClassId × FieldType)
/-- words that keep: of the tables; of nest mates -/
def cb_good (E : cb_E) : Prop := (∀ w ∈ E.1, ((w.onTables && w.keeps) = true ∨ ∃ ty, w = .arrayClass ty)) ∧ ∀ x ∈ E.2.1, x.onTables = true ∧ ∀ s U : State, s.WarmedH U.vm → va_Nw x s → va_Nw x U
/-- what stands all along -/
def cb_ok (X : cb_X) (cc : ByteArray) (own : String) (E : cb_E) (fr lo nL : Nat) : Prop := match X with
  | (p, _, _, R, s, m, args, _, _, c, D, _, k, n, _) => p.tables.exec = Jvm.exec ∧ c.code = cc ∧ c.maxLocals = nL ∧ s.vm.findClass own = some m.cls ∧ (∀ w ∈ E.1, w.before args s = true) ∧ (∀ w ∈ E.2.1, va_Nw w s) ∧ va_K D vwCl E.2.2 s ∧ fr ≤ R.frames ∧ lo ≤ R.locals ∧ k ≤ R.cells ∧ n ≤ R.slots ∧ cb_good E
section CBR
variable {X : cb_X} {w : va_W} {pc : Nat} {lv : List (Nat × Value)} {st : List Value} {cc : ByteArray} {own : String} {E : cb_E} {fr lo nL : Nat}
theorem cb_lv (is : List Nat) {lv' : List (Nat × Value)} (hs : lv_pick lv is = lv') (kk : cb_V X w pc lv' st) : cb_V X w pc lv st := by
  obtain ⟨p, l, e, R, s, m, args, below, meth, c, D, A, kX, nX, Q⟩ := X
  exact fun H locs ls hP hD hS hl => kk H locs ls hP hD hS (lv_sub hl is hs)
theorem cb_top {x y : Int32} (he : x = y) (kk : cb_V X w pc lv (.int y :: st)) : cb_V X w pc lv (.int x :: st) := by
  subst he; exact kk
theorem cb_tt {c : Prop} [Decidable c] {x y : Int32} (h : c) (kk : cb_V X w pc lv (.int (if c then x else y) :: st)) : cb_V X w pc lv (.int x :: st) := by
  rw [if_pos h] at kk; exact kk
theorem cb_tf {c : Prop} [Decidable c] {x y : Int32} (h : ¬ c) (kk : cb_V X w pc lv (.int (if c then x else y) :: st)) : cb_V X w pc lv (.int y :: st) := by
  rw [if_neg h] at kk; exact kk
/-- the new list of locals -/
abbrev cb_set (i : Nat) (v : Value) (lv : List (Nat × Value)) : List (Nat × Value) := (i, v) :: lv.filter (fun q => !(q.1 == i) && !(q.1 + 1 == i && q.2.category == 2))
theorem cb_iconst {n : Int} {v : Int32} (nx : Nat) (h : cb_ok X cc own E fr lo nL) (hd : decode cc pc = .ok (.iconst n, 1)) (hn : pc + 1 = nx) (hv : Int32.ofInt n = v) (kk : cb_V X w nx lv (.int v :: st)) : cb_V X w pc lv (st) := by
  subst hn
  obtain ⟨p, l, e, R, s, m, args, below, meth, c, D, A, kX, nX, Q⟩ := X
  exact fun H locs ls hP hD hS hl => lv_iconst h.1 h.2.1 hd hv (kk H locs ls hP hD hS hl)
theorem cb_bipush {n : Int} {v : Int32} (nx : Nat) (h : cb_ok X cc own E fr lo nL) (hd : decode cc pc = .ok (.bipush n, 2)) (hn : pc + 2 = nx) (hv : (Int8.ofInt n).toInt32 = v) (kk : cb_V X w nx lv (.int v :: st)) : cb_V X w pc lv (st) := by
  subst hn
  obtain ⟨p, l, e, R, s, m, args, below, meth, c, D, A, kX, nX, Q⟩ := X
  exact fun H locs ls hP hD hS hl => lv_bipush h.1 h.2.1 hd hv (kk H locs ls hP hD hS hl)
theorem cb_sipush {n : Int} {v : Int32} (nx : Nat) (h : cb_ok X cc own E fr lo nL) (hd : decode cc pc = .ok (.sipush n, 3)) (hn : pc + 3 = nx) (hv : (Int16.ofInt n).toInt32 = v) (kk : cb_V X w nx lv (.int v :: st)) : cb_V X w pc lv (st) := by
  subst hn
  obtain ⟨p, l, e, R, s, m, args, below, meth, c, D, A, kX, nX, Q⟩ := X
  exact fun H locs ls hP hD hS hl => lv_sipush h.1 h.2.1 hd hv (kk H locs ls hP hD hS hl)
theorem cb_null (nx : Nat) (h : cb_ok X cc own E fr lo nL) (hd : decode cc pc = .ok (.aconst_null, 1)) (hn : pc + 1 = nx) (kk : cb_V X w nx lv (.null :: st)) : cb_V X w pc lv (st) := by
  subst hn
  obtain ⟨p, l, e, R, s, m, args, below, meth, c, D, A, kX, nX, Q⟩ := X
  exact fun H locs ls hP hD hS hl => lv_null h.1 h.2.1 hd (kk H locs ls hP hD hS hl)
theorem cb_ldc {index : Nat} {v : Int32} (nx : Nat) (h : cb_ok X cc own E fr lo nL) (hd : decode cc pc = .ok (.ldc index, 2)) (hn : pc + 2 = nx) (hc : Cond.constant own index v ∈ E.1) (kk : cb_V X w nx lv (.int v :: st)) : cb_V X w pc lv (st) := by
  subst hn
  obtain ⟨p, l, e, R, s, m, args, below, meth, c, D, A, kX, nX, Q⟩ := X
  exact fun H locs ls hP hD hS hl => lv_ldc h.1 h.2.1 h.2.2.2.1 (h.2.2.2.2.1 _ hc) hd (kk H locs ls hP hD hS hl)
theorem cb_ldcw {index : Nat} {v : Int32} (nx : Nat) (h : cb_ok X cc own E fr lo nL) (hd : decode cc pc = .ok (.ldc_w index, 3)) (hn : pc + 3 = nx) (hc : Cond.constant own index v ∈ E.1) (kk : cb_V X w nx lv (.int v :: st)) : cb_V X w pc lv (st) := by
  subst hn
  obtain ⟨p, l, e, R, s, m, args, below, meth, c, D, A, kX, nX, Q⟩ := X
  exact fun H locs ls hP hD hS hl => lv_ldcw h.1 h.2.1 h.2.2.2.1 (h.2.2.2.2.1 _ hc) hd (kk H locs ls hP hD hS hl)
theorem cb_iload_n {i : Nat} {k : Fin 4} {x : Int32} (nx : Nat) (j : Nat) (h : cb_ok X cc own E fr lo nL) (hd : decode cc pc = .ok (.iload_n k, 1)) (hn : pc + 1 = nx) (hi : (k : Nat) = i) (hj : lv[j]? = some (i, .int x)) (kk : cb_V X w nx lv (.int x :: st)) : cb_V X w pc lv (st) := by
  subst hn
  obtain ⟨p, l, e, R, s, m, args, below, meth, c, D, A, kX, nX, Q⟩ := X
  exact fun H locs ls hP hD hS hl => lv_iload_n h.1 h.2.1 hd hi (lv_at hl j hj) (kk H locs ls hP hD hS hl)
theorem cb_iload {i : Nat} {x : Int32} (nx : Nat) (j : Nat) (h : cb_ok X cc own E fr lo nL) (hd : decode cc pc = .ok (.iload i, 2)) (hn : pc + 2 = nx) (hj : lv[j]? = some (i, .int x)) (kk : cb_V X w nx lv (.int x :: st)) : cb_V X w pc lv (st) := by
  subst hn
  obtain ⟨p, l, e, R, s, m, args, below, meth, c, D, A, kX, nX, Q⟩ := X
  exact fun H locs ls hP hD hS hl => lv_iload h.1 h.2.1 hd (lv_at hl j hj) (kk H locs ls hP hD hS hl)
theorem cb_aload_n {i : Nat} {k : Fin 4} {x : Nat} (nx : Nat) (j : Nat) (h : cb_ok X cc own E fr lo nL) (hd : decode cc pc = .ok (.aload_n k, 1)) (hn : pc + 1 = nx) (hi : (k : Nat) = i) (hj : lv[j]? = some (i, .ref x)) (kk : cb_V X w nx lv (.ref x :: st)) : cb_V X w pc lv (st) := by
  subst hn
  obtain ⟨p, l, e, R, s, m, args, below, meth, c, D, A, kX, nX, Q⟩ := X
  exact fun H locs ls hP hD hS hl => lv_aload_n h.1 h.2.1 hd hi (lv_at hl j hj) (kk H locs ls hP hD hS hl)
theorem cb_aloadN_n {i : Nat} {k : Fin 4} (nx : Nat) (j : Nat) (h : cb_ok X cc own E fr lo nL) (hd : decode cc pc = .ok (.aload_n k, 1)) (hn : pc + 1 = nx) (hi : (k : Nat) = i) (hj : lv[j]? = some (i, .null)) (kk : cb_V X w nx lv (.null :: st)) : cb_V X w pc lv (st) := by
  subst hn
  obtain ⟨p, l, e, R, s, m, args, below, meth, c, D, A, kX, nX, Q⟩ := X
  exact fun H locs ls hP hD hS hl => lv_aload_nN h.1 h.2.1 hd hi (lv_at hl j hj) (kk H locs ls hP hD hS hl)
theorem cb_aload {i : Nat} {x : Nat} (nx : Nat) (j : Nat) (h : cb_ok X cc own E fr lo nL) (hd : decode cc pc = .ok (.aload i, 2)) (hn : pc + 2 = nx) (hj : lv[j]? = some (i, .ref x)) (kk : cb_V X w nx lv (.ref x :: st)) : cb_V X w pc lv (st) := by
  subst hn
  obtain ⟨p, l, e, R, s, m, args, below, meth, c, D, A, kX, nX, Q⟩ := X
  exact fun H locs ls hP hD hS hl => lv_aload h.1 h.2.1 hd (lv_at hl j hj) (kk H locs ls hP hD hS hl)
theorem cb_istore_n {i : Nat} {k : Fin 4} {x y : Int32} {lv' : List (Nat × Value)} (nx : Nat) (h : cb_ok X cc own E fr lo nL) (hd : decode cc pc = .ok (.istore_n k, 1)) (hn : pc + 1 = nx) (hi : (k : Nat) = i) (he : x = y) (hL : i < nL) (hl : cb_set i (.int y) lv = lv') (kk : cb_V X w nx lv' st) : cb_V X w pc lv (.int x :: st) := by
  subst hn; subst he
  obtain ⟨p, l, e, R, s, m, args, below, meth, c, D, A, kX, nX, Q⟩ := X
  have hL : i < c.maxLocals := by rw [h.2.2.1]; exact hL
  exact fun H locs ls hP hD hS hl0 => lv_istore_n h.1 h.2.1 hd hi hl0 hL hl (fun ls' h' => kk H locs ls' hP hD hS h')
theorem cb_istore {i : Nat} {x y : Int32} {lv' : List (Nat × Value)} (nx : Nat) (h : cb_ok X cc own E fr lo nL) (hd : decode cc pc = .ok (.istore i, 2)) (hn : pc + 2 = nx) (he : x = y) (hL : i < nL) (hl : cb_set i (.int y) lv = lv') (kk : cb_V X w nx lv' st) : cb_V X w pc lv (.int x :: st) := by
  subst hn; subst he
  obtain ⟨p, l, e, R, s, m, args, below, meth, c, D, A, kX, nX, Q⟩ := X
  have hL : i < c.maxLocals := by rw [h.2.2.1]; exact hL
  exact fun H locs ls hP hD hS hl0 => lv_istore h.1 h.2.1 hd hl0 hL hl (fun ls' h' => kk H locs ls' hP hD hS h')
theorem cb_astore_n {i : Nat} {k : Fin 4} {x : Nat} {lv' : List (Nat × Value)} (nx : Nat) (h : cb_ok X cc own E fr lo nL) (hd : decode cc pc = .ok (.astore_n k, 1)) (hn : pc + 1 = nx) (hi : (k : Nat) = i) (hL : i < nL) (hl : cb_set i (.ref x) lv = lv') (kk : cb_V X w nx lv' st) : cb_V X w pc lv (.ref x :: st) := by
  subst hn
  obtain ⟨p, l, e, R, s, m, args, below, meth, c, D, A, kX, nX, Q⟩ := X
  have hL : i < c.maxLocals := by rw [h.2.2.1]; exact hL
  exact fun H locs ls hP hD hS hl0 => lv_astore_n h.1 h.2.1 hd hi hl0 hL hl (fun ls' h' => kk H locs ls' hP hD hS h')
theorem cb_astoreN_n {i : Nat} {k : Fin 4} {lv' : List (Nat × Value)} (nx : Nat) (h : cb_ok X cc own E fr lo nL) (hd : decode cc pc = .ok (.astore_n k, 1)) (hn : pc + 1 = nx) (hi : (k : Nat) = i) (hL : i < nL) (hl : cb_set i (.null) lv = lv') (kk : cb_V X w nx lv' st) : cb_V X w pc lv (.null :: st) := by
  subst hn
  obtain ⟨p, l, e, R, s, m, args, below, meth, c, D, A, kX, nX, Q⟩ := X
  have hL : i < c.maxLocals := by rw [h.2.2.1]; exact hL
  exact fun H locs ls hP hD hS hl0 => lv_astore_nN h.1 h.2.1 hd hi hl0 hL hl (fun ls' h' => kk H locs ls' hP hD hS h')
theorem cb_iinc {i : Nat} {n : Int} {x v : Int32} (j : Nat) {lv' : List (Nat × Value)} (nx : Nat) (h : cb_ok X cc own E fr lo nL) (hd : decode cc pc = .ok (.iinc i n, 3)) (hn : pc + 3 = nx) (hj : lv[j]? = some (i, .int x)) (hv : x + Int32.ofInt n = v) (hL : i < nL) (hl : cb_set i (.int v) lv = lv') (kk : cb_V X w nx lv' st) : cb_V X w pc lv (st) := by
  subst hn
  obtain ⟨p, l, e, R, s, m, args, below, meth, c, D, A, kX, nX, Q⟩ := X
  have hL : i < c.maxLocals := by rw [h.2.2.1]; exact hL
  exact fun H locs ls hP hD hS hl0 => lv_iinc h.1 h.2.1 hd hl0 hj hv hL hl (fun ls' h' => kk H locs ls' hP hD hS h')
theorem cb_iadd {x y : Int32} (nx : Nat) (h : cb_ok X cc own E fr lo nL) (hd : decode cc pc = .ok (.iadd, 1)) (hn : pc + 1 = nx) (kk : cb_V X w nx lv (.int (x + y) :: st)) : cb_V X w pc lv (.int y :: .int x :: st) := by
  subst hn
  obtain ⟨p, l, e, R, s, m, args, below, meth, c, D, A, kX, nX, Q⟩ := X
  exact fun H locs ls hP hD hS hl => lv_iadd h.1 h.2.1 hd (kk H locs ls hP hD hS hl)
theorem cb_isub {x y : Int32} (nx : Nat) (h : cb_ok X cc own E fr lo nL) (hd : decode cc pc = .ok (.isub, 1)) (hn : pc + 1 = nx) (kk : cb_V X w nx lv (.int (x - y) :: st)) : cb_V X w pc lv (.int y :: .int x :: st) := by
  subst hn
  obtain ⟨p, l, e, R, s, m, args, below, meth, c, D, A, kX, nX, Q⟩ := X
  exact fun H locs ls hP hD hS hl => lv_isub h.1 h.2.1 hd (kk H locs ls hP hD hS hl)
theorem cb_imul {x y : Int32} (nx : Nat) (h : cb_ok X cc own E fr lo nL) (hd : decode cc pc = .ok (.imul, 1)) (hn : pc + 1 = nx) (kk : cb_V X w nx lv (.int (x * y) :: st)) : cb_V X w pc lv (.int y :: .int x :: st) := by
  subst hn
  obtain ⟨p, l, e, R, s, m, args, below, meth, c, D, A, kX, nX, Q⟩ := X
  exact fun H locs ls hP hD hS hl => lv_imul h.1 h.2.1 hd (kk H locs ls hP hD hS hl)
theorem cb_iand {x y : Int32} (nx : Nat) (h : cb_ok X cc own E fr lo nL) (hd : decode cc pc = .ok (.iand, 1)) (hn : pc + 1 = nx) (kk : cb_V X w nx lv (.int (x &&& y) :: st)) : cb_V X w pc lv (.int y :: .int x :: st) := by
  subst hn
  obtain ⟨p, l, e, R, s, m, args, below, meth, c, D, A, kX, nX, Q⟩ := X
  exact fun H locs ls hP hD hS hl => lv_iand h.1 h.2.1 hd (kk H locs ls hP hD hS hl)
theorem cb_ior {x y : Int32} (nx : Nat) (h : cb_ok X cc own E fr lo nL) (hd : decode cc pc = .ok (.ior, 1)) (hn : pc + 1 = nx) (kk : cb_V X w nx lv (.int (x ||| y) :: st)) : cb_V X w pc lv (.int y :: .int x :: st) := by
  subst hn
  obtain ⟨p, l, e, R, s, m, args, below, meth, c, D, A, kX, nX, Q⟩ := X
  exact fun H locs ls hP hD hS hl => lv_ior h.1 h.2.1 hd (kk H locs ls hP hD hS hl)
theorem cb_ixor {x y : Int32} (nx : Nat) (h : cb_ok X cc own E fr lo nL) (hd : decode cc pc = .ok (.ixor, 1)) (hn : pc + 1 = nx) (kk : cb_V X w nx lv (.int (x ^^^ y) :: st)) : cb_V X w pc lv (.int y :: .int x :: st) := by
  subst hn
  obtain ⟨p, l, e, R, s, m, args, below, meth, c, D, A, kX, nX, Q⟩ := X
  exact fun H locs ls hP hD hS hl => lv_ixor h.1 h.2.1 hd (kk H locs ls hP hD hS hl)
theorem cb_ishl {x y : Int32} (nx : Nat) (h : cb_ok X cc own E fr lo nL) (hd : decode cc pc = .ok (.ishl, 1)) (hn : pc + 1 = nx) (kk : cb_V X w nx lv (.int (x <<< (y &&& 31)) :: st)) : cb_V X w pc lv (.int y :: .int x :: st) := by
  subst hn
  obtain ⟨p, l, e, R, s, m, args, below, meth, c, D, A, kX, nX, Q⟩ := X
  exact fun H locs ls hP hD hS hl => lv_ishl h.1 h.2.1 hd (kk H locs ls hP hD hS hl)
theorem cb_ishr {x y : Int32} (nx : Nat) (h : cb_ok X cc own E fr lo nL) (hd : decode cc pc = .ok (.ishr, 1)) (hn : pc + 1 = nx) (kk : cb_V X w nx lv (.int (x >>> (y &&& 31)) :: st)) : cb_V X w pc lv (.int y :: .int x :: st) := by
  subst hn
  obtain ⟨p, l, e, R, s, m, args, below, meth, c, D, A, kX, nX, Q⟩ := X
  exact fun H locs ls hP hD hS hl => lv_ishr h.1 h.2.1 hd (kk H locs ls hP hD hS hl)
theorem cb_idiv {x y : Int32} (nx : Nat) (h : cb_ok X cc own E fr lo nL) (hd : decode cc pc = .ok (.idiv, 1)) (hn : pc + 1 = nx) (hy : ¬ y = 0) (kk : cb_V X w nx lv (.int (x / y) :: st)) : cb_V X w pc lv (.int y :: .int x :: st) := by
  subst hn
  obtain ⟨p, l, e, R, s, m, args, below, meth, c, D, A, kX, nX, Q⟩ := X
  exact fun H locs ls hP hD hS hl => lv_idiv h.1 h.2.1 hd hy (kk H locs ls hP hD hS hl)
theorem cb_irem {x y : Int32} (nx : Nat) (h : cb_ok X cc own E fr lo nL) (hd : decode cc pc = .ok (.irem, 1)) (hn : pc + 1 = nx) (hy : ¬ y = 0) (kk : cb_V X w nx lv (.int (x - x / y * y) :: st)) : cb_V X w pc lv (.int y :: .int x :: st) := by
  subst hn
  obtain ⟨p, l, e, R, s, m, args, below, meth, c, D, A, kX, nX, Q⟩ := X
  exact fun H locs ls hP hD hS hl => lv_irem h.1 h.2.1 hd hy (kk H locs ls hP hD hS hl)
theorem cb_iushr {x y : Int32} (nx : Nat) (h : cb_ok X cc own E fr lo nL) (hd : decode cc pc = .ok (.iushr, 1)) (hn : pc + 1 = nx) (kk : cb_V X w nx lv (.int ((x.toUInt32 >>> (y.toUInt32 &&& Int32.toUInt32 31)).toInt32) :: st)) : cb_V X w pc lv (.int y :: .int x :: st) := by
  subst hn
  obtain ⟨p, l, e, R, s, m, args, below, meth, c, D, A, kX, nX, Q⟩ := X
  exact fun H locs ls hP hD hS hl => lv_iushr h.1 h.2.1 hd rfl (kk H locs ls hP hD hS hl)
theorem cb_i2b {x : Int32} (nx : Nat) (h : cb_ok X cc own E fr lo nL) (hd : decode cc pc = .ok (.i2b, 1)) (hn : pc + 1 = nx) (kk : cb_V X w nx lv (.int (x.toInt8.toInt32) :: st)) : cb_V X w pc lv (.int x :: st) := by
  subst hn
  obtain ⟨p, l, e, R, s, m, args, below, meth, c, D, A, kX, nX, Q⟩ := X
  exact fun H locs ls hP hD hS hl => lv_i2b h.1 h.2.1 hd rfl (kk H locs ls hP hD hS hl)
theorem cb_dup {v : Value} (nx : Nat) (h : cb_ok X cc own E fr lo nL) (hd : decode cc pc = .ok (.dup, 1)) (hn : pc + 1 = nx) (hv : v.category = 1) (kk : cb_V X w nx lv (v :: v :: st)) : cb_V X w pc lv (v :: st) := by
  subst hn
  obtain ⟨p, l, e, R, s, m, args, below, meth, c, D, A, kX, nX, Q⟩ := X
  exact fun H locs ls hP hD hS hl => lv_dup h.1 h.2.1 hd hv (kk H locs ls hP hD hS hl)
theorem cb_pop {v : Value} (nx : Nat) (h : cb_ok X cc own E fr lo nL) (hd : decode cc pc = .ok (.pop, 1)) (hn : pc + 1 = nx) (hv : v.category = 1) (kk : cb_V X w nx lv (st)) : cb_V X w pc lv (v :: st) := by
  subst hn
  obtain ⟨p, l, e, R, s, m, args, below, meth, c, D, A, kX, nX, Q⟩ := X
  exact fun H locs ls hP hD hS hl => lv_pop h.1 h.2.1 hd hv (kk H locs ls hP hD hS hl)
theorem cb_dup2 {v u : Value} (nx : Nat) (h : cb_ok X cc own E fr lo nL) (hd : decode cc pc = .ok (.dup2, 1)) (hn : pc + 1 = nx) (hv : v.category = 1) (hu : u.category = 1) (kk : cb_V X w nx lv (v :: u :: v :: u :: st)) : cb_V X w pc lv (v :: u :: st) := by
  subst hn
  obtain ⟨p, l, e, R, s, m, args, below, meth, c, D, A, kX, nX, Q⟩ := X
  exact fun H locs ls hP hD hS hl => lv_dup2_11 h.1 h.2.1 hd hv hu (kk H locs ls hP hD hS hl)
theorem cb_dup_x1 {v u : Value} (nx : Nat) (h : cb_ok X cc own E fr lo nL) (hd : decode cc pc = .ok (.dup_x1, 1)) (hn : pc + 1 = nx) (hv : v.category = 1) (hu : u.category = 1) (kk : cb_V X w nx lv (v :: u :: v :: st)) : cb_V X w pc lv (v :: u :: st) := by
  subst hn
  obtain ⟨p, l, e, R, s, m, args, below, meth, c, D, A, kX, nX, Q⟩ := X
  exact fun H locs ls hP hD hS hl => lv_dup_x1 h.1 h.2.1 hd hv hu (kk H locs ls hP hD hS hl)
theorem cb_goto {off : Int} (tg : Nat) (h : cb_ok X cc own E fr lo nL) (hd : decode cc pc = .ok (.goto off, 3)) (ht : (pc : Int) + off = (tg : Int)) (kk : cb_V X w tg lv st) : cb_V X w pc lv st := by
  obtain ⟨p, l, e, R, s, m, args, below, meth, c, D, A, kX, nX, Q⟩ := X
  exact fun H locs ls hP hD hS hl => lv_goto h.1 h.2.1 hd ht (kk H locs ls hP hD hS hl)
theorem cb_if_eq {x : Int32} {off : Int} (tg nx : Nat) (h : cb_ok X cc own E fr lo nL) (hd : decode cc pc = .ok (.ifCond .eq off, 3)) (ht : (pc : Int) + off = (tg : Int)) (hn : pc + 3 = nx) (kt : x = 0 → cb_V X w tg lv st) (kf : ¬ x = 0 → cb_V X w nx lv st) : cb_V X w pc lv (.int x :: st) := by
  subst hn
  obtain ⟨p, l, e, R, s, m, args, below, meth, c, D, A, kX, nX, Q⟩ := X
  exact fun H locs ls hP hD hS hl => lv_if_eq h.1 h.2.1 hd ht (fun q => kt q H locs ls hP hD hS hl) (fun q => kf q H locs ls hP hD hS hl)
theorem cb_if_lt {x : Int32} {off : Int} (tg nx : Nat) (h : cb_ok X cc own E fr lo nL) (hd : decode cc pc = .ok (.ifCond .lt off, 3)) (ht : (pc : Int) + off = (tg : Int)) (hn : pc + 3 = nx) (kt : x < 0 → cb_V X w tg lv st) (kf : ¬ x < 0 → cb_V X w nx lv st) : cb_V X w pc lv (.int x :: st) := by
  subst hn
  obtain ⟨p, l, e, R, s, m, args, below, meth, c, D, A, kX, nX, Q⟩ := X
  exact fun H locs ls hP hD hS hl => lv_if_lt h.1 h.2.1 hd ht (fun q => kt q H locs ls hP hD hS hl) (fun q => kf q H locs ls hP hD hS hl)
theorem cb_if_ge {x : Int32} {off : Int} (tg nx : Nat) (h : cb_ok X cc own E fr lo nL) (hd : decode cc pc = .ok (.ifCond .ge off, 3)) (ht : (pc : Int) + off = (tg : Int)) (hn : pc + 3 = nx) (kt : 0 ≤ x → cb_V X w tg lv st) (kf : ¬ 0 ≤ x → cb_V X w nx lv st) : cb_V X w pc lv (.int x :: st) := by
  subst hn
  obtain ⟨p, l, e, R, s, m, args, below, meth, c, D, A, kX, nX, Q⟩ := X
  exact fun H locs ls hP hD hS hl => lv_if_ge h.1 h.2.1 hd ht (fun q => kt q H locs ls hP hD hS hl) (fun q => kf q H locs ls hP hD hS hl)
theorem cb_if_gt {x : Int32} {off : Int} (tg nx : Nat) (h : cb_ok X cc own E fr lo nL) (hd : decode cc pc = .ok (.ifCond .gt off, 3)) (ht : (pc : Int) + off = (tg : Int)) (hn : pc + 3 = nx) (kt : 0 < x → cb_V X w tg lv st) (kf : ¬ 0 < x → cb_V X w nx lv st) : cb_V X w pc lv (.int x :: st) := by
  subst hn
  obtain ⟨p, l, e, R, s, m, args, below, meth, c, D, A, kX, nX, Q⟩ := X
  exact fun H locs ls hP hD hS hl => lv_if_gt h.1 h.2.1 hd ht (fun q => kt q H locs ls hP hD hS hl) (fun q => kf q H locs ls hP hD hS hl)
theorem cb_if_le {x : Int32} {off : Int} (tg nx : Nat) (h : cb_ok X cc own E fr lo nL) (hd : decode cc pc = .ok (.ifCond .le off, 3)) (ht : (pc : Int) + off = (tg : Int)) (hn : pc + 3 = nx) (kt : x ≤ 0 → cb_V X w tg lv st) (kf : ¬ x ≤ 0 → cb_V X w nx lv st) : cb_V X w pc lv (.int x :: st) := by
  subst hn
  obtain ⟨p, l, e, R, s, m, args, below, meth, c, D, A, kX, nX, Q⟩ := X
  exact fun H locs ls hP hD hS hl => lv_if_le h.1 h.2.1 hd ht (fun q => kt q H locs ls hP hD hS hl) (fun q => kf q H locs ls hP hD hS hl)
theorem cb_if_ne {x : Int32} {off : Int} (tg nx : Nat) (h : cb_ok X cc own E fr lo nL) (hd : decode cc pc = .ok (.ifCond .ne off, 3)) (ht : (pc : Int) + off = (tg : Int)) (hn : pc + 3 = nx) (kt : ¬ x = 0 → cb_V X w tg lv st) (kf : x = 0 → cb_V X w nx lv st) : cb_V X w pc lv (.int x :: st) := by
  subst hn
  obtain ⟨p, l, e, R, s, m, args, below, meth, c, D, A, kX, nX, Q⟩ := X
  exact fun H locs ls hP hD hS hl => lv_if_ne h.1 h.2.1 hd ht (fun q => kt q H locs ls hP hD hS hl) (fun q => kf q H locs ls hP hD hS hl)
theorem cb_icmp_eq {x y : Int32} {off : Int} (tg nx : Nat) (h : cb_ok X cc own E fr lo nL) (hd : decode cc pc = .ok (.if_icmp .eq off, 3)) (ht : (pc : Int) + off = (tg : Int)) (hn : pc + 3 = nx) (kt : x = y → cb_V X w tg lv st) (kf : ¬ x = y → cb_V X w nx lv st) : cb_V X w pc lv (.int y :: .int x :: st) := by
  subst hn
  obtain ⟨p, l, e, R, s, m, args, below, meth, c, D, A, kX, nX, Q⟩ := X
  exact fun H locs ls hP hD hS hl => lv_icmp_eq h.1 h.2.1 hd ht (fun q => kt q H locs ls hP hD hS hl) (fun q => kf q H locs ls hP hD hS hl)
theorem cb_icmp_lt {x y : Int32} {off : Int} (tg nx : Nat) (h : cb_ok X cc own E fr lo nL) (hd : decode cc pc = .ok (.if_icmp .lt off, 3)) (ht : (pc : Int) + off = (tg : Int)) (hn : pc + 3 = nx) (kt : x < y → cb_V X w tg lv st) (kf : ¬ x < y → cb_V X w nx lv st) : cb_V X w pc lv (.int y :: .int x :: st) := by
  subst hn
  obtain ⟨p, l, e, R, s, m, args, below, meth, c, D, A, kX, nX, Q⟩ := X
  exact fun H locs ls hP hD hS hl => lv_icmp_lt h.1 h.2.1 hd ht (fun q => kt q H locs ls hP hD hS hl) (fun q => kf q H locs ls hP hD hS hl)
theorem cb_icmp_ge {x y : Int32} {off : Int} (tg nx : Nat) (h : cb_ok X cc own E fr lo nL) (hd : decode cc pc = .ok (.if_icmp .ge off, 3)) (ht : (pc : Int) + off = (tg : Int)) (hn : pc + 3 = nx) (kt : y ≤ x → cb_V X w tg lv st) (kf : ¬ y ≤ x → cb_V X w nx lv st) : cb_V X w pc lv (.int y :: .int x :: st) := by
  subst hn
  obtain ⟨p, l, e, R, s, m, args, below, meth, c, D, A, kX, nX, Q⟩ := X
  exact fun H locs ls hP hD hS hl => lv_icmp_ge h.1 h.2.1 hd ht (fun q => kt q H locs ls hP hD hS hl) (fun q => kf q H locs ls hP hD hS hl)
theorem cb_icmp_gt {x y : Int32} {off : Int} (tg nx : Nat) (h : cb_ok X cc own E fr lo nL) (hd : decode cc pc = .ok (.if_icmp .gt off, 3)) (ht : (pc : Int) + off = (tg : Int)) (hn : pc + 3 = nx) (kt : y < x → cb_V X w tg lv st) (kf : ¬ y < x → cb_V X w nx lv st) : cb_V X w pc lv (.int y :: .int x :: st) := by
  subst hn
  obtain ⟨p, l, e, R, s, m, args, below, meth, c, D, A, kX, nX, Q⟩ := X
  exact fun H locs ls hP hD hS hl => lv_icmp_gt h.1 h.2.1 hd ht (fun q => kt q H locs ls hP hD hS hl) (fun q => kf q H locs ls hP hD hS hl)
theorem cb_icmp_le {x y : Int32} {off : Int} (tg nx : Nat) (h : cb_ok X cc own E fr lo nL) (hd : decode cc pc = .ok (.if_icmp .le off, 3)) (ht : (pc : Int) + off = (tg : Int)) (hn : pc + 3 = nx) (kt : x ≤ y → cb_V X w tg lv st) (kf : ¬ x ≤ y → cb_V X w nx lv st) : cb_V X w pc lv (.int y :: .int x :: st) := by
  subst hn
  obtain ⟨p, l, e, R, s, m, args, below, meth, c, D, A, kX, nX, Q⟩ := X
  exact fun H locs ls hP hD hS hl => lv_icmp_le h.1 h.2.1 hd ht (fun q => kt q H locs ls hP hD hS hl) (fun q => kf q H locs ls hP hD hS hl)
theorem cb_icmp_ne {x y : Int32} {off : Int} (tg nx : Nat) (h : cb_ok X cc own E fr lo nL) (hd : decode cc pc = .ok (.if_icmp .ne off, 3)) (ht : (pc : Int) + off = (tg : Int)) (hn : pc + 3 = nx) (kt : ¬ x = y → cb_V X w tg lv st) (kf : x = y → cb_V X w nx lv st) : cb_V X w pc lv (.int y :: .int x :: st) := by
  subst hn
  obtain ⟨p, l, e, R, s, m, args, below, meth, c, D, A, kX, nX, Q⟩ := X
  exact fun H locs ls hP hD hS hl => lv_icmp_ne h.1 h.2.1 hd ht (fun q => kt q H locs ls hP hD hS hl) (fun q => kf q H locs ls hP hD hS hl)
theorem cb_ifnonnull {x : Nat} {off : Int} (tg : Nat) (h : cb_ok X cc own E fr lo nL) (hd : decode cc pc = .ok (.ifnonnull off, 3)) (ht : (pc : Int) + off = (tg : Int)) (kk : cb_V X w tg lv st) : cb_V X w pc lv (.ref x :: st) := by
  obtain ⟨p, l, e, R, s, m, args, below, meth, c, D, A, kX, nX, Q⟩ := X
  exact fun H locs ls hP hD hS hl => lv_ifnonnull h.1 h.2.1 hd ht (kk H locs ls hP hD hS hl)
theorem cb_ifnonnullN {off : Int} (nx : Nat) (h : cb_ok X cc own E fr lo nL) (hd : decode cc pc = .ok (.ifnonnull off, 3)) (hn : pc + 3 = nx) (kk : cb_V X w nx lv st) : cb_V X w pc lv (.null :: st) := by
  subst hn
  obtain ⟨p, l, e, R, s, m, args, below, meth, c, D, A, kX, nX, Q⟩ := X
  exact fun H locs ls hP hD hS hl => lv_ifnonnullN h.1 h.2.1 hd (kk H locs ls hP hD hS hl)
theorem cb_ifnull {x : Nat} {off : Int} (nx : Nat) (h : cb_ok X cc own E fr lo nL) (hd : decode cc pc = .ok (.ifnull off, 3)) (hn : pc + 3 = nx) (kk : cb_V X w nx lv st) : cb_V X w pc lv (.ref x :: st) := by
  subst hn
  obtain ⟨p, l, e, R, s, m, args, below, meth, c, D, A, kX, nX, Q⟩ := X
  exact fun H locs ls hP hD hS hl => lv_ifnull h.1 h.2.1 hd (kk H locs ls hP hD hS hl)
theorem cb_ifnullN {off : Int} (tg : Nat) (h : cb_ok X cc own E fr lo nL) (hd : decode cc pc = .ok (.ifnull off, 3)) (ht : (pc : Int) + off = (tg : Int)) (kk : cb_V X w tg lv st) : cb_V X w pc lv (.null :: st) := by
  obtain ⟨p, l, e, R, s, m, args, below, meth, c, D, A, kX, nX, Q⟩ := X
  exact fun H locs ls hP hD hS hl => lv_ifnullN h.1 h.2.1 hd ht (kk H locs ls hP hD hS hl)
theorem cb_look {dflt : Int} {ps : Array (Int × Int)} {len : Nat} {x : Int32} {off : Int} (tg : Nat) (h : cb_ok X cc own E fr lo nL) (hd : decode cc pc = .ok (.lookupswitch dflt ps, len)) (hp : (ps.toList.zip (ps.toList.drop 1)).all (fun (a, next) => a.1 < next.1) = true) (ho : Op.lookupswitch.offset ps.toList dflt x.toInt = off) (ht : (pc : Int) + off = (tg : Int)) (kk : cb_V X w tg lv st) : cb_V X w pc lv (.int x :: st) := by
  obtain ⟨p, l, e, R, s, m, args, below, meth, c, D, A, kX, nX, Q⟩ := X
  exact fun H locs ls hP hD hS hl => lv_lookup h.1 h.2.1 hd hp ho ht (kk H locs ls hP hD hS hl)
theorem cb_tabO {dflt lo0 hi : Int} {offs : Array Int} {len : Nat} {x : Int32} (tg : Nat) (h : cb_ok X cc own E fr lo nL) (hd : decode cc pc = .ok (.tableswitch dflt lo0 hi offs, len)) (hx : x.toInt < lo0 ∨ hi < x.toInt) (ht : (pc : Int) + dflt = (tg : Int)) (kk : cb_V X w tg lv st) : cb_V X w pc lv (.int x :: st) := by
  obtain ⟨p, l, e, R, s, m, args, below, meth, c, D, A, kX, nX, Q⟩ := X
  exact fun H locs ls hP hD hS hl => lv_tableOut h.1 h.2.1 hd hx ht (kk H locs ls hP hD hS hl)
theorem cb_tabI {dflt lo0 hi : Int} {offs : Array Int} {len : Nat} {x y : Int32} {off : Int} (tg : Nat) (h : cb_ok X cc own E fr lo nL) (hd : decode cc pc = .ok (.tableswitch dflt lo0 hi offs, len)) (he : x = y) (h1 : ¬ y.toInt < lo0) (h2 : ¬ hi < y.toInt) (ho : offs[(y.toInt - lo0).toNat]? = some off) (ht : (pc : Int) + off = (tg : Int)) (kk : cb_V X w tg lv st) : cb_V X w pc lv (.int x :: st) := by
  subst he
  obtain ⟨p, l, e, R, s, m, args, below, meth, c, D, A, kX, nX, Q⟩ := X
  exact fun H locs ls hP hD hS hl => lv_tableIn h.1 h.2.1 hd h1 h2 ho ht (kk H locs ls hP hD hS hl)
theorem cb_iald {a : Nat} {cA : ClassId} {len : Nat} {f : Nat → Int32} {i : Int32} (nx q t : Nat) (h : cb_ok X cc own E fr lo nL) (hd : decode cc pc = .ok (.iaload, 1)) (hn : pc + 1 = nx) (hq : w[q]? = some (a, .inl (cA, len, .inl f))) (ht : E.2.2[t]? = some (cA, .int)) (hi : vp_in i len) (kk : cb_V X w nx lv (.int (f i.toNatClampNeg) :: st)) : cb_V X w pc lv (.int i :: .ref a :: st) := by
  subst hn
  obtain ⟨p, l, e, R, s, m, args, below, meth, c, D, A, kX, nX, Q⟩ := X
  exact fun H locs ls hP hD hS hl => va_iald h.1 h.2.1 h.2.2.2.2.2.2.1 hP q t hq ht hi hd (kk H locs ls hP hD hS hl)
theorem cb_zald {a : Nat} {cA : ClassId} {len : Nat} {f : Nat → Int32} {i : Int32} (nx q t : Nat) (h : cb_ok X cc own E fr lo nL) (hd : decode cc pc = .ok (.baload, 1)) (hn : pc + 1 = nx) (hq : w[q]? = some (a, .inl (cA, len, .inl f))) (ht : E.2.2[t]? = some (cA, .boolean)) (hi : vp_in i len) (kk : cb_V X w nx lv (.int (f i.toNatClampNeg) :: st)) : cb_V X w pc lv (.int i :: .ref a :: st) := by
  subst hn
  obtain ⟨p, l, e, R, s, m, args, below, meth, c, D, A, kX, nX, Q⟩ := X
  exact fun H locs ls hP hD hS hl => va_zald h.1 h.2.1 h.2.2.2.2.2.2.1 hP q t hq ht hi hd (kk H locs ls hP hD hS hl)
theorem cb_iast {a : Nat} {cA : ClassId} {len : Nat} {f : Nat → Int32} {i x : Int32} {w' : va_W} (nx q t : Nat) (h : cb_ok X cc own E fr lo nL) (hd : decode cc pc = .ok (.iastore, 1)) (hn : pc + 1 = nx) (hq : w[q]? = some (a, .inl (cA, len, .inl f))) (ht : E.2.2[t]? = some (cA, .int)) (hi : vp_in i len) (hw : w.set q (a, .inl (cA, len, .inl (upd f i.toNatClampNeg x))) = w') (kk : cb_V X w' nx lv st) : cb_V X w pc lv (.int x :: .int i :: .ref a :: st) := by
  subst hn; subst hw
  obtain ⟨p, l, e, R, s, m, args, below, meth, c, D, A, kX, nX, Q⟩ := X
  exact fun H locs ls hP hD hS hl => va_iast h.1 h.2.1 h.2.2.2.2.2.2.1 hP hD hS q t hq ht hi hd (fun H1 locs1 hP hD hS => kk H1 locs1 ls hP hD hS hl)
theorem cb_zast {a : Nat} {cA : ClassId} {len : Nat} {f : Nat → Int32} {i x : Int32} {w' : va_W} (nx q t : Nat) (h : cb_ok X cc own E fr lo nL) (hd : decode cc pc = .ok (.bastore, 1)) (hn : pc + 1 = nx) (hq : w[q]? = some (a, .inl (cA, len, .inl f))) (ht : E.2.2[t]? = some (cA, .boolean)) (hi : vp_in i len) (hx : cb_01 x) (hw : w.set q (a, .inl (cA, len, .inl (upd f i.toNatClampNeg x))) = w') (kk : cb_V X w' nx lv st) : cb_V X w pc lv (.int x :: .int i :: .ref a :: st) := by
  subst hn; subst hw
  rw [← cb_01_v hx] at kk
  obtain ⟨p, l, e, R, s, m, args, below, meth, c, D, A, kX, nX, Q⟩ := X
  exact fun H locs ls hP hD hS hl => va_zast h.1 h.2.1 h.2.2.2.2.2.2.1 hP hD hS q t hq ht hi hd (fun H1 locs1 hP hD hS => kk H1 locs1 ls hP hD hS hl)
theorem cb_aald {a : Nat} {cA : ClassId} {C : String} {len b : Nat} {f : Nat → Option Nat} {i : Int32} (nx q t : Nat) (h : cb_ok X cc own E fr lo nL) (hd : decode cc pc = .ok (.aaload, 1)) (hn : pc + 1 = nx) (hq : w[q]? = some (a, .inl (cA, len, .inr (.inr (.inr (.inr f)))))) (ht : E.2.2[t]? = some (cA, .object C)) (hi : vp_in i len) (hf : f i.toNatClampNeg = some b) (kk : cb_V X w nx lv (.ref b :: st)) : cb_V X w pc lv (.int i :: .ref a :: st) := by
  subst hn
  obtain ⟨p, l, e, R, s, m, args, below, meth, c, D, A, kX, nX, Q⟩ := X
  exact fun H locs ls hP hD hS hl => va_aldq h.1 h.2.1 h.2.2.2.2.2.2.1 hP q t hq ht hi hd (by rw [hf]; exact kk H locs ls hP hD hS hl)
theorem cb_alen {a : Nat} {cA : ClassId} {x : vp_A} {ty : FieldType} {v : Int32} (nx q t : Nat) (h : cb_ok X cc own E fr lo nL) (hd : decode cc pc = .ok (.arraylength, 1)) (hn : pc + 1 = nx) (hq : w[q]? = some (a, .inl (cA, x))) (ht : E.2.2[t]? = some (cA, ty)) (hv : Int32.ofNat x.1 = v) (kk : cb_V X w nx lv (.int v :: st)) : cb_V X w pc lv (.ref a :: st) := by
  subst hn
  obtain ⟨p, l, e, R, s, m, args, below, meth, c, D, A, kX, nX, Q⟩ := X
  exact fun H locs ls hP hD hS hl => va_alen h.1 h.2.1 h.2.2.2.2.2.2.1 hP q t hq ht hv hd (kk H locs ls hP hD hS hl)
/-- fields: by a plain link and by a nest mate's -/
theorem cb_get {ref C : String} {T : u_T} {N ci index a : Nat} {fs : List Value} {v : Value} (nx q k : Nat) (h : cb_ok X cc own E fr lo nL) (hd : decode cc pc = .ok (.getfield index, 3)) (hn : pc + 3 = nx) (hin : ∀ w ∈ u_ws C T N, w ∈ E.1) (hq : w[q]? = some (a, .inr (ci, fs))) (hc : vwCl[ci]? = some (C, T, N)) (hk : k < N) (hl : Cond.fieldLink own index ref (T k).2.1 (T k).2.2.1 ∈ E.1) (hs : ref = (T k).1 ∨ Cond.sameField ref (T k).1 (T k).2.1 (T k).2.2.1 ∈ E.1) (hv : fs[k]? = some v) (kk : cb_V X w nx lv (v :: st)) : cb_V X w pc lv (.ref a :: st) := by
  subst hn
  obtain ⟨p, l, e, R, s, m, args, below, meth, c, D, A, kX, nX, Q⟩ := X
  refine fun H locs ls hP hD hS hl0 => va_get h.1 h.2.1 h.2.2.2.2.1 hin h.2.2.2.1 h.2.2.2.2.2.2.1 hP q hq hc k hk (h.2.2.2.2.1 _ hl) ?_ hv hd (kk H locs ls hP hD hS hl0)
  rcases hs with rfl | hs
  · exact fun x hx => hx
  · exact fun x hx => u_same (h.2.2.2.2.1 _ hs) x hx
theorem cb_getN {ref C host : String} {T : u_T} {N ci index a : Nat} {fs : List Value} {v : Value} (nx q k : Nat) (h : cb_ok X cc own E fr lo nL) (hd : decode cc pc = .ok (.getfield index, 3)) (hn : pc + 3 = nx) (hin : ∀ w ∈ u_ws C T N, w ∈ E.1) (hq : w[q]? = some (a, .inr (ci, fs))) (hc : vwCl[ci]? = some (C, T, N)) (hk : k < N) (hl : Cond.fieldLinkNest own index ref (T k).2.1 (T k).2.2.1 host ∈ E.2.1) (hs : ref = (T k).1 ∨ Cond.sameField ref (T k).1 (T k).2.1 (T k).2.2.1 ∈ E.1) (hv : fs[k]? = some v) (kk : cb_V X w nx lv (v :: st)) : cb_V X w pc lv (.ref a :: st) := by
  subst hn
  obtain ⟨p, l, e, R, s, m, args, below, meth, c, D, A, kX, nX, Q⟩ := X
  refine fun H locs ls hP hD hS hl0 => va_getN h.1 h.2.1 h.2.2.2.2.1 hin h.2.2.2.1 h.2.2.2.2.2.2.1 hP q hq hc k hk (va_Nw.use rfl (h.2.2.2.2.2.1 _ hl)) ?_ hv hd (kk H locs ls hP hD hS hl0)
  rcases hs with rfl | hs
  · exact fun x hx => hx
  · exact fun x hx => u_same (h.2.2.2.2.1 _ hs) x hx
theorem cb_put {ref C : String} {T : u_T} {N ci index a : Nat} {fs : List Value} {v : Value} {ty0 : Nat → FieldType} {ty : FieldType} {w' : va_W} (nx q k : Nat) (h : cb_ok X cc own E fr lo nL) (hd : decode cc pc = .ok (.putfield index, 3)) (hn : pc + 3 = nx) (hin : ∀ w ∈ u_ws C T N, w ∈ E.1) (hty : ∀ k, k < N → parseFieldDescriptor (T k).2.2.1 = some (ty0 k)) (hnm : ∀ a, a < N → ∀ b, b < N → a ≠ b → (T a).2.1 ≠ (T b).2.1) (hq : w[q]? = some (a, .inr (ci, fs))) (hc : vwCl[ci]? = some (C, T, N)) (hk : k < N) (hl : Cond.fieldLink own index ref (T k).2.1 (T k).2.2.1 ∈ E.1) (hs : ref = (T k).1 ∨ Cond.sameField ref (T k).1 (T k).2.1 (T k).2.2.1 ∈ E.1) (hfin : (T k).2.2.2 = false) (hdd : parseFieldDescriptor (T k).2.2.1 = some ty) (hnn : narrow ty v = v) (hfit : fits ty v = true) (hlen : k < fs.length) (hw : w.set q (a, .inr (ci, fs.set k v)) = w') (kk : cb_V X w' nx lv st) : cb_V X w pc lv (v :: .ref a :: st) := by
  subst hn; subst hw
  obtain ⟨p, l, e, R, s, m, args, below, meth, c, D, A, kX, nX, Q⟩ := X
  refine fun H locs ls hP hD hS hl0 => va_put h.1 h.2.1 h.2.2.2.2.1 hin ty0 hty hnm h.2.2.2.1 h.2.2.2.2.2.2.1 hP hD hS q hq hc k hk (h.2.2.2.2.1 _ hl) ?_ hfin hdd hnn hfit hlen hd (fun H1 locs1 hP hD hS => kk H1 locs1 ls hP hD hS hl0)
  rcases hs with rfl | hs
  · exact fun x hx => hx
  · exact fun x hx => u_same (h.2.2.2.2.1 _ hs) x hx
theorem cb_putN {ref C host : String} {T : u_T} {N ci index a : Nat} {fs : List Value} {v : Value} {ty0 : Nat → FieldType} {ty : FieldType} {w' : va_W} (nx q k : Nat) (h : cb_ok X cc own E fr lo nL) (hd : decode cc pc = .ok (.putfield index, 3)) (hn : pc + 3 = nx) (hin : ∀ w ∈ u_ws C T N, w ∈ E.1) (hty : ∀ k, k < N → parseFieldDescriptor (T k).2.2.1 = some (ty0 k)) (hnm : ∀ a, a < N → ∀ b, b < N → a ≠ b → (T a).2.1 ≠ (T b).2.1) (hq : w[q]? = some (a, .inr (ci, fs))) (hc : vwCl[ci]? = some (C, T, N)) (hk : k < N) (hl : Cond.fieldLinkNest own index ref (T k).2.1 (T k).2.2.1 host ∈ E.2.1) (hs : ref = (T k).1 ∨ Cond.sameField ref (T k).1 (T k).2.1 (T k).2.2.1 ∈ E.1) (hfin : (T k).2.2.2 = false) (hdd : parseFieldDescriptor (T k).2.2.1 = some ty) (hnn : narrow ty v = v) (hfit : fits ty v = true) (hlen : k < fs.length) (hw : w.set q (a, .inr (ci, fs.set k v)) = w') (kk : cb_V X w' nx lv st) : cb_V X w pc lv (v :: .ref a :: st) := by
  subst hn; subst hw
  obtain ⟨p, l, e, R, s, m, args, below, meth, c, D, A, kX, nX, Q⟩ := X
  refine fun H locs ls hP hD hS hl0 => va_putN h.1 h.2.1 h.2.2.2.2.1 hin ty0 hty hnm h.2.2.2.1 h.2.2.2.2.2.2.1 hP hD hS q hq hc k hk (va_Nw.use rfl (h.2.2.2.2.2.1 _ hl)) ?_ hfin hdd hnn hfit hlen hd (fun H1 locs1 hP hD hS => kk H1 locs1 ls hP hD hS hl0)
  rcases hs with rfl | hs
  · exact fun x hx => hx
  · exact fun x hx => u_same (h.2.2.2.2.1 _ hs) x hx
end CBR
/-! Contracts over cb_V, and calls. -/
def cb_Q (D : va_G) (as : List Nat) (ret : Option Value) (w' : va_W) : Array Value → State → Outcome → State → Prop := fun _ st oc t => oc = .returned ret ∧ va_P D vwCl w' t.heap ∧ va_F (fun q => q ∈ as) st t
def cb_B (D : va_G) (E : cb_E) (as : List Nat) (w : va_W) (U : State) : Prop := va_P D vwCl w U.heap ∧ va_K D vwCl E.2.2 U ∧ (∀ x ∈ E.2.1, va_Nw x U) ∧ va_D (fun q => q ∈ as) w
/-- a contract: from the world w with the arguments av it answers ret and leaves the world w'; nothing is made, nothing else written -/
def cb_C (l : Launch) (y : MethodName) (bytes : ByteArray) (maxL : Nat) (rt : Option FieldType) (rm : Room) (D : va_G) (E : cb_E) (as : List Nat) (av : List Value) (w : va_W) (ret : Option Value) (w' : va_W) : Prop := Met l y (Cond.code y bytes maxL rt :: E.1) rm (va_Pc av (cb_B D E as w)) (cb_Q D as ret w') 0 0 (fun q => q ∈ as)
/-- the end that a contract asks for -/
def cb_end (X : cb_X) (rt : Option FieldType) (as : List Nat) (ret : Option Value) (w' : va_W) : Prop := match X with
  | (_, _, _, _, s, _, args, below, meth, _, D, A, k, n, Q) => Q = MQ below (cb_Q D as ret w') args s k n A ∧ A = (fun q => q ∈ as) ∧ meth.sig.returnType = rt ∧ meth.locks = false
theorem cb_mk {l : Launch} {y : MethodName} {cc : ByteArray} {maxL : Nat} {rt : Option FieldType} {rm : Room} {D : va_G} {E : cb_E} {as : List Nat} {av : List Value} {w w' : va_W} {ret : Option Value} (lv : List (Nat × Value)) (hy : plainName y.cls = true) (hav : (lg_sl av).length ≤ maxL) (hlv : lv_args 0 av = lv)
    (body : ∀ X : cb_X, cb_ok X cc y.cls E rm.frames rm.locals maxL → cb_end X rt as ret w' → cb_V X w 0 lv []) (hg : cb_good E) : cb_C l y cc maxL rt rm D E as av w ret w' := by
  refine Met.ofW hy rfl ?_
  intro p e s m args below meth c s₁ B hml hv
  obtain ⟨rfl, hP, hK, hN, hD⟩ := hv
  have hts := atoms_spec B.pre
  have hl := lv_entry av (n := maxL) hav
  rw [lg_entry_eq]
  have hown : s.vm.findClass y.cls = some m.cls := findClass_of_methodNamed B.named
  have K := body (p, l, e, (headSpec (Cond.code y cc maxL rt :: E.1) rm).room, s, m, av.toArray, below, meth, c, D, (fun q => q ∈ as), 0, 0, MQ below (cb_Q D as ret w') av.toArray s 0 0 (fun q => q ∈ as))
    ⟨B.exec, B.bytes, hml, hown, fun w h => hts w (List.mem_cons_of_mem _ h), hN, hK, Nat.le_refl _, Nat.le_refl _, Nat.zero_le _, Nat.zero_le _, hg⟩ ⟨rfl, rfl, B.returns, B.notSynchronized⟩
  exact K s.heap [] _ hP hD va_S.rf (by rw [hml, ← hlv]; exact hl)
theorem cb_D_congr {A : Nat → Prop} {w1 w2 : va_W} (h : va_D A w1) (e : w2.map Prod.fst = w1.map Prod.fst) : va_D A w2 := by
  have g : ∀ (i : Nat) (p : Nat × va_E), w2[i]? = some p → ∃ p', w1[i]? = some p' ∧ p'.1 = p.1 := by
    intro i p hp
    have h1 : (w2.map Prod.fst)[i]? = some p.1 := by rw [List.getElem?_map, hp]; rfl
    rw [e, List.getElem?_map] at h1
    cases hw : w1[i]? with
    | none => rw [hw] at h1; cases h1
    | some p' => rw [hw] at h1; exact ⟨p', rfl, Option.some.inj h1⟩
  refine ⟨fun i j p q hp hq hpq => ?_, fun k q hq => ?_⟩
  · obtain ⟨p', h1, e1⟩ := g i p hp
    obtain ⟨q', h2, e2⟩ := g j q hq
    exact h.1 i j p' q' h1 h2 (by rw [e1, e2]; exact hpq)
  · obtain ⟨q', h1, e1⟩ := g k q hq
    rw [← e1]; exact h.2 k q' h1
theorem cb_mem_fst {w : va_W} {q : Nat} (h : q ∈ w.map Prod.fst) : ∃ (k : Nat) (e : va_E), w[k]? = some (q, e) := by
  obtain ⟨x, hx, rfl⟩ := List.mem_map.mp h
  obtain ⟨k, hk⟩ := List.getElem?_of_mem hx
  exact ⟨k, x.2, hk⟩
section CBC
variable {X : cb_X} {w : va_W} {pc : Nat} {lv : List (Nat × Value)} {st : List Value} {cc : ByteArray} {own : String} {E : cb_E} {fr lo nL : Nat}
/-- the launch and the numbers of a machine -/
abbrev cb_l (X : cb_X) : Launch := X.2.1
abbrev cb_D (X : cb_X) : va_G := X.2.2.2.2.2.2.2.2.2.2.1
theorem cb_after {p : Program} {l : Launch} {e : Env} {R : Room} {s : State} {m : MethodId} {args : Array Value} {below : List Frame} {meth : Method} {c : Code} {H : Heap} {locs : List Loc} {k n : Nat} {Q : State → Prop} {ls : Array Slot} {st0 : List Value} {D : va_G} {as : List Nat} {ret : Option Value} {w1 w1' r w' : va_W} {a0 : Array Value} {A : Nat → Prop}
    (hr : va_Run p l e R s m args below meth c H locs k n 0 0 (F0 m pc ls st0) st (cb_Q D as ret w1' a0) (fun q => q ∈ as)) (hw : w1 ++ r = w) (hw' : w1' ++ r = w') (ha : w1.map Prod.fst = as) (ha' : w1'.map Prod.fst = as) (hP : va_P D vwCl w H) (hD : va_D A w) (hS : va_S A s.heap H locs)
    (kk : ∀ (H1 : Heap) (locs1 : List Loc), va_P D vwCl w' H1 → va_D A w' → va_S A s.heap H1 locs1 → W p l e R s m args below meth c H1 locs1 k n Q (F0 m (pc + 3) ls (ret.toList ++ st))) : W p l e R s m args below meth c H locs k n Q (F0 m pc ls st0) := by
  subst hw; subst hw'
  have hasA : ∀ q, q ∈ as → A q := fun q hq => by
    rw [← ha] at hq
    obtain ⟨i, e, hi⟩ := cb_mem_fst hq
    exact hD.2 i (q, e) (by rw [List.getElem?_append_left (List.getElem?_eq_some_iff.mp hi).1]; exact hi)
  have hapart : ∀ (i : Nat) (x : Nat × va_E), r[i]? = some x → ¬ x.1 ∈ as := fun i x hx hq => by
    rw [← ha] at hq
    obtain ⟨j, e, hj⟩ := cb_mem_fst hq
    have hjl := (List.getElem?_eq_some_iff.mp hj).1
    have h1 : (w1 ++ r)[j]? = some (x.1, e) := by rw [List.getElem?_append_left hjl]; exact hj
    have h2 : (w1 ++ r)[w1.length + i]? = some x := by rw [List.getElem?_append_right (Nat.le_add_right _ _), Nat.add_sub_cancel_left]; exact hx
    have := hD.1 j (w1.length + i) (x.1, e) x h1 h2 rfl
    omega
  intro T hT X
  obtain ⟨v, st₀, t, T', L, h0, X', hL, e1, e2, ⟨hv, hP1, hz, hk⟩, stp⟩ := hr T hT X
  cases hv
  rw [h0] at hz hk
  have hPr : va_P D vwCl r T'.heap := fun i x hx => by
    have h2 : (w1 ++ r)[w1.length + i]? = some x := by rw [List.getElem?_append_right (Nat.le_add_right _ _), Nat.add_sub_cancel_left]; exact hx
    have hat := hP _ x h2
    exact hat.kept (by rw [e1]; exact hk x.1 hat.lt (hapart i x hx))
  have hS1 : va_S A s.heap T'.heap (locs ++ L) := ⟨Nat.le_trans hS.1 (by rw [e1]; exact hz), fun q h1 h2 => by rw [e1, hk q (Nat.lt_of_lt_of_le h1 hS.1) (fun z => h2 (hasA q z))]; exact hS.2.1 q h1 h2, fun q hq => by
    rcases List.mem_append.mp hq with h | h
    · exact hS.2.2 q h
    · exact hasA _ (hL q h)⟩
  obtain ⟨t2, a1, b1⟩ := kk T'.heap (locs ++ L) (va_P.app (by rw [e1]; exact hP1) hPr) (cb_D_congr hD (by rw [List.map_append, List.map_append, ha, ha'])) hS1 T' rfl X'
  exact ⟨t2, stp t2 a1, b1⟩
/-- the words of a call -/
def cb_lk (E : cb_E) (own : String) (index : Nat) (y : MethodName) (bytes : ByteArray) (maxL : Nat) (rt : Option FieldType) (n : Nat) : Prop := Cond.methodLink own index y ∈ E.1 ∧ Cond.code y bytes maxL rt ∈ E.1 ∧ Cond.initialized y.cls ∈ E.1 ∧ (y.cls ≠ "java/lang/invoke/MethodHandle" ∧ y.cls ≠ "java/lang/invoke/VarHandle") ∧ (parseMethodDescriptor y.desc).map (fun d => d.parameters.length) = some n
theorem cb_goodIn {y : MethodName} {bytes : ByteArray} {maxL : Nat} {rt : Option FieldType} (hg : cb_good E) (hc : Cond.code y bytes maxL rt ∈ E.1) : GoodIn E.1 (Cond.code y bytes maxL rt :: E.1) := by
  intro x hx
  rcases List.mem_cons.mp hx with rfl | hx
  · exact ⟨hc, hg.1 _ hc⟩
  · exact ⟨hx, hg.1 _ hx⟩
theorem cb_blind {D : va_G} {as : List Nat} {av : List Value} (hg : cb_good E) : FrameBlind (va_Pc av (cb_B D E as w)) := by
  intro a U g mk q
  obtain ⟨q0, qP, qK, qN, qD⟩ := q
  exact ⟨q0, qP, va_K.moved (u := U) (U := U.calling g mk a) (Vm.Alike.refl U.vm) qK, fun x hx => va_Nw.same (hg.2 x hx).1 (u := U) (U := U.calling g mk a) rfl (qN x hx), qD⟩
theorem cb_pre {p : Program} {s : State} {H : Heap} {D : va_G} {as : List Nat} {av : List Value} {A : Nat → Prop} {w1 r : va_W} (hg : cb_good E) (hP : va_P D vwCl w H) (hD : va_D A w) (hK : va_K D vwCl E.2.2 s) (hN : ∀ x ∈ E.2.1, va_Nw x s) (hw : w1 ++ r = w) (ha : w1.map Prod.fst = as) : ∀ U : State, U.heap = H → s.WarmedH U.vm → va_Pc av (cb_B D E as w1) av.toArray U := by
  intro U hU hW
  subst hw
  refine ⟨rfl, ?_, va_K.moved hW.alike hK, fun x hx => (hg.2 x hx).2 s U hW (hN x hx), ?_⟩
  · rw [hU]
    exact fun i x hx => hP i x (by rw [List.getElem?_append_left (List.getElem?_eq_some_iff.mp hx).1]; exact hx)
  · refine ⟨fun i j x y hx hy hxy => hD.1 i j x y (by rw [List.getElem?_append_left (List.getElem?_eq_some_iff.mp hx).1]; exact hx) (by rw [List.getElem?_append_left (List.getElem?_eq_some_iff.mp hy).1]; exact hy) hxy, fun i x hx => ?_⟩
    show x.1 ∈ as
    rw [← ha]
    exact List.mem_map.mpr ⟨x, List.mem_of_getElem? hx, rfl⟩
/-- invokevirtual by a plain link -/
theorem cb_callV {y : MethodName} {bytes : ByteArray} {maxL n index ci b : Nat} {rt : Option FieldType} {rm : Room} {as : List Nat} {As st0 : List Value} {w1 w1' r w' : va_W} {ret : Option Value} {fs : List Value} {cq : vw_C} (nx q : Nat) (h : cb_ok X cc own E fr lo nL) (hd : decode cc pc = .ok (.invokevirtual index, 3)) (hn : pc + 3 = nx)
    (hM : cb_C (cb_l X) y bytes maxL rt rm (cb_D X) E as (.ref b :: As) w1 ret w1') (hx : cb_lk E own index y bytes maxL rt n) (hi : Cond.instanceMethod y ∈ E.1 ∧ Cond.selects cq.1 y y ∈ E.1) (hq : w[q]? = some (b, .inr (ci, fs))) (hc : vwCl[ci]? = some cq) (hw : w1 ++ r = w) (hw' : w1' ++ r = w') (ha : w1.map Prod.fst = as) (ha' : w1'.map Prod.fst = as)
    (hr : rm.cells = 0 ∧ rm.slots = 0 ∧ rm.frames + 1 ≤ fr ∧ 8 + (maxL + 11) + rm.locals ≤ lo) (hs : st0 = As.reverse ++ .ref b :: st) (hsz : As.length = n) (hst : (st.map fun v => v.category).sum ≤ 8) (kk : cb_V X w' nx lv (ret.toList ++ st)) : cb_V X w pc lv st0 := by
  subst hn; subst hs
  obtain ⟨p, l, e, R, s, m, args, below, meth, c, D, A, kX, nX, Q⟩ := X
  obtain ⟨hx0, hb, hml, hown, hts, hN, hK, hfr, hlo, hce, hsl, hg⟩ := h
  intro H locs ls hP hD hS hl
  refine cb_after (va_runV (As := As) (rest := st) (n := As.length) (bytes := bytes) (maxL := maxL) (ret := rt) (C := cq.1) ⟨hx0, hb, hml, hown, hts⟩ hM
    ⟨⟨hr.1, hr.2.1, Nat.le_trans hr.2.2.1 hfr, Nat.le_trans hr.2.2.2 hlo, pay_in hts (cb_goodIn hg hx.2.1), List.mem_cons_self, hts _ hx.2.1, hts _ hx.2.2.1, hx.2.2.2.1, fun sig hsig => by have h2 := hx.2.2.2.2; rw [hsig] at h2; rw [hsz]; exact (Option.some.inj h2).symm, hts _ hx.1⟩, hts _ hi.1, hts _ hi.2⟩
    ⟨cb_blind hg, va_recv hK hP hc hq, cb_pre (p := p) hg hP hD hK hN hw ha⟩ rfl rfl (hml ▸ hl.1) rfl (lv_room hst) hd ⟨hce, hsl⟩) hw hw' ha ha' hP hD hS (fun H1 locs1 hP1 hD1 hS1 => kk H1 locs1 ls hP1 hD1 hS1 hl)
/-- invokevirtual whose named method is another one's: inherited, overridden or abstract -/
theorem cb_callU {x y : MethodName} {owner : String} {bytes : ByteArray} {maxL n index ci b : Nat} {rt : Option FieldType} {rm : Room} {as : List Nat} {As st0 : List Value} {w1 w1' r w' : va_W} {ret : Option Value} {fs : List Value} {cq : vw_C} (nx q : Nat) (h : cb_ok X cc own E fr lo nL) (hd : decode cc pc = .ok (.invokevirtual index, 3)) (hn : pc + 3 = nx)
    (hM : cb_C (cb_l X) y bytes maxL rt rm (cb_D X) E as (.ref b :: As) w1 ret w1') (hx : Cond.methodLink own index x ∈ E.1 ∧ Cond.sameMethod x.cls owner x.name x.desc ∈ E.1 ∧ Cond.selects cq.1 x y ∈ E.1 ∧ Cond.instanceMethod y ∈ E.1 ∧ Cond.code y bytes maxL rt ∈ E.1 ∧ Cond.initialized y.cls ∈ E.1 ∧ Cond.declares ⟨owner, x.name, x.desc⟩ ∈ E.2.1 ∧ (owner ≠ "java/lang/invoke/MethodHandle" ∧ owner ≠ "java/lang/invoke/VarHandle") ∧ (parseMethodDescriptor x.desc).map (fun d => d.parameters.length) = some n) (hq : w[q]? = some (b, .inr (ci, fs))) (hc : vwCl[ci]? = some cq) (hw : w1 ++ r = w) (hw' : w1' ++ r = w') (ha : w1.map Prod.fst = as) (ha' : w1'.map Prod.fst = as)
    (hr : rm.cells = 0 ∧ rm.slots = 0 ∧ rm.frames + 1 ≤ fr ∧ 8 + (maxL + 11) + rm.locals ≤ lo) (hs : st0 = As.reverse ++ .ref b :: st) (hsz : As.length = n) (hst : (st.map fun v => v.category).sum ≤ 8) (kk : cb_V X w' nx lv (ret.toList ++ st)) : cb_V X w pc lv st0 := by
  subst hn; subst hs
  obtain ⟨p, l, e, R, s, m, args, below, meth, c, D, A, kX, nX, Q⟩ := X
  obtain ⟨hx0, hb, hml, hown, hts, hN, hK, hfr, hlo, hce, hsl, hg⟩ := h
  obtain ⟨x1, x2, x3, x4, x5, x6, x7, x8, x9⟩ := hx
  intro H locs ls hP hD hS hl
  refine cb_after (va_runU (x := x) (owner := owner) (As := As) (rest := st) (n := As.length) (bytes := bytes) (maxL := maxL) (ret := rt) (C := cq.1) ⟨hx0, hb, hml, hown, hts⟩ hM
    ⟨⟨hr.1, hr.2.1, Nat.le_trans hr.2.2.1 hfr, Nat.le_trans hr.2.2.2 hlo, pay_in hts (cb_goodIn hg x5), List.mem_cons_self⟩, hts _ x5, hts _ x6, x8, fun sig hsig => by rw [hsig] at x9; rw [hsz]; exact (Option.some.inj x9).symm, hts _ x1, hts _ x2, va_Decl.abs (hN _ x7), hts _ x3, hts _ x4⟩
    ⟨cb_blind hg, va_recv hK hP hc hq, cb_pre (p := p) hg hP hD hK hN hw ha⟩ rfl rfl (hml ▸ hl.1) rfl (lv_room hst) hd ⟨hce, hsl⟩) hw hw' ha ha' hP hD hS (fun H1 locs1 hP1 hD1 hS1 => kk H1 locs1 ls hP1 hD1 hS1 hl)
/-- invokestatic by a plain link -/
theorem cb_callS {y : MethodName} {bytes : ByteArray} {maxL n index : Nat} {rt : Option FieldType} {rm : Room} {as : List Nat} {As st0 : List Value} {w1 w1' r w' : va_W} {ret : Option Value} (nx : Nat) (h : cb_ok X cc own E fr lo nL) (hd : decode cc pc = .ok (.invokestatic index, 3)) (hn : pc + 3 = nx)
    (hM : cb_C (cb_l X) y bytes maxL rt rm (cb_D X) E as As w1 ret w1') (hx : cb_lk E own index y bytes maxL rt n) (hi : Cond.static y ∈ E.1) (hw : w1 ++ r = w) (hw' : w1' ++ r = w') (ha : w1.map Prod.fst = as) (ha' : w1'.map Prod.fst = as)
    (hr : rm.cells = 0 ∧ rm.slots = 0 ∧ rm.frames + 1 ≤ fr ∧ 8 + (maxL + 11) + rm.locals ≤ lo) (hs : st0 = As.reverse ++ st) (hsz : As.length = n) (hst : (st.map fun v => v.category).sum ≤ 8) (kk : cb_V X w' nx lv (ret.toList ++ st)) : cb_V X w pc lv st0 := by
  subst hn; subst hs
  obtain ⟨p, l, e, R, s, m, args, below, meth, c, D, A, kX, nX, Q⟩ := X
  obtain ⟨hx0, hb, hml, hown, hts, hN, hK, hfr, hlo, hce, hsl, hg⟩ := h
  intro H locs ls hP hD hS hl
  refine cb_after (va_runS (As := As) (rest := st) (n := As.length) (bytes := bytes) (maxL := maxL) (ret := rt) ⟨hx0, hb, hml, hown, hts⟩ hM
    ⟨⟨hr.1, hr.2.1, Nat.le_trans hr.2.2.1 hfr, Nat.le_trans hr.2.2.2 hlo, pay_in hts (cb_goodIn hg hx.2.1), List.mem_cons_self, hts _ hx.2.1, hts _ hx.2.2.1, hx.2.2.2.1, fun sig hsig => by have h2 := hx.2.2.2.2; rw [hsig] at h2; rw [hsz]; exact (Option.some.inj h2).symm, hts _ hx.1⟩, hts _ hi⟩
    ⟨cb_blind hg, cb_pre (p := p) hg hP hD hK hN hw ha⟩ rfl rfl (hml ▸ hl.1) rfl (lv_room hst) hd ⟨hce, hsl⟩) hw hw' ha ha' hP hD hS (fun H1 locs1 hP1 hD1 hS1 => kk H1 locs1 ls hP1 hD1 hS1 hl)
/-- the ends -/
theorem cb_retI {x r : Int32} {as : List Nat} {Wf : cb_S → va_W} {σ σ' : cb_S} (h : cb_ok X cc own E fr lo nL) (hd : decode cc pc = .ok (.ireturn, 1)) (he : cb_end X (some .int) as (some (.int r)) (Wf σ')) (hf : some (x, σ) = some (r, σ')) : cb_V X (Wf σ) pc lv [.int x] := by
  cases hf
  obtain ⟨p, l, e, R, s, m, args, below, meth, c, D, A, kX, nX, Q⟩ := X
  obtain ⟨rfl, rfl, hr, hk⟩ := he
  exact fun H locs ls hP hD hS hl => W.iret h.1 h.2.1 hr (fun t ht hW => ⟨rfl, by rw [ht]; exact hP, hS.F ht⟩) hS.2.2 hd (hlocks := hk)
theorem cb_retJ {x r : Int32} {as : List Nat} (h : cb_ok X cc own E fr lo nL) (hd : decode cc pc = .ok (.ireturn, 1)) (he : cb_end X (some .int) as (some (.int r)) w) (hf : some x = some r) : cb_V X w pc lv [.int x] := by
  cases hf
  obtain ⟨p, l, e, R, s, m, args, below, meth, c, D, A, kX, nX, Q⟩ := X
  obtain ⟨rfl, rfl, hr, hk⟩ := he
  exact fun H locs ls hP hD hS hl => W.iret h.1 h.2.1 hr (fun t ht hW => ⟨rfl, by rw [ht]; exact hP, hS.F ht⟩) hS.2.2 hd (hlocks := hk)
theorem cb_retZ {x r : Int32} {as : List Nat} {Wf : cb_S → va_W} {σ σ' : cb_S} (h : cb_ok X cc own E fr lo nL) (hd : decode cc pc = .ok (.ireturn, 1)) (he : cb_end X (some .boolean) as (some (.int r)) (Wf σ')) (hz : cb_01 x) (hf : some (x, σ) = some (r, σ')) : cb_V X (Wf σ) pc lv [.int x] := by
  cases hf
  obtain ⟨p, l, e, R, s, m, args, below, meth, c, D, A, kX, nX, Q⟩ := X
  obtain ⟨rfl, rfl, hr, hk⟩ := he
  exact fun H locs ls hP hD hS hl => W.zret h.1 h.2.1 hr (cb_01_n hz) (fun t ht hW => ⟨rfl, by rw [ht]; exact hP, hS.F ht⟩) hS.2.2 hd (hlocks := hk)
theorem cb_retB {x r : Int32} {as : List Nat} (h : cb_ok X cc own E fr lo nL) (hd : decode cc pc = .ok (.ireturn, 1)) (he : cb_end X (some .boolean) as (some (.int r)) w) (hz : cb_01 x) (hf : some x = some r) : cb_V X w pc lv [.int x] := by
  cases hf
  obtain ⟨p, l, e, R, s, m, args, below, meth, c, D, A, kX, nX, Q⟩ := X
  obtain ⟨rfl, rfl, hr, hk⟩ := he
  exact fun H locs ls hP hD hS hl => W.zret h.1 h.2.1 hr (cb_01_n hz) (fun t ht hW => ⟨rfl, by rw [ht]; exact hP, hS.F ht⟩) hS.2.2 hd (hlocks := hk)
theorem cb_retV {as : List Nat} {Wf : cb_S → va_W} {σ σ' : cb_S} (h : cb_ok X cc own E fr lo nL) (hd : decode cc pc = .ok (.return_, 1)) (he : cb_end X none as none (Wf σ')) (hf : some σ = some σ') : cb_V X (Wf σ) pc lv [] := by
  cases hf
  obtain ⟨p, l, e, R, s, m, args, below, meth, c, D, A, kX, nX, Q⟩ := X
  obtain ⟨rfl, rfl, hr, hk⟩ := he
  exact fun H locs ls hP hD hS hl => W.vret h.1 h.2.1 hr (fun t ht hW => ⟨rfl, by rw [ht]; exact hP, hS.F ht⟩) hS.2.2 hd (hlocks := hk)
/-- a reference or null, by the number of its cell -/
def cb_rv (a : Nat → Nat) (o : Option Nat) : Value := match o with
  | none => .null
  | some j => .ref (a j)
theorem cb_retA {as : List Nat} {a : Nat → Nat} {n : String} {o o' : Option Nat} (h : cb_ok X cc own E fr lo nL) (hd : decode cc pc = .ok (.areturn, 1)) (he : cb_end X (some (.object n)) as (some (cb_rv a o')) w) (hf : some o = some o') : cb_V X w pc lv [cb_rv a o] := by
  cases hf
  obtain ⟨p, l, e, R, s, m, args, below, meth, c, D, A, kX, nX, Q⟩ := X
  obtain ⟨rfl, rfl, hr, hk⟩ := he
  exact fun H locs ls hP hD hS hl => W.aret h.1 h.2.1 hr (Or.inl ⟨_, rfl⟩) (by cases o with | none => exact Or.inl rfl | some j => exact Or.inr ⟨_, rfl⟩) (fun t ht hW => ⟨rfl, by rw [ht]; exact hP, hS.F ht⟩) hS.2.2 hd (hlocks := hk)
end CBC
/-! Small words that the decompiled rows use. -/
def cb_in (i : Int32) (n : Nat) : Bool := !(decide (i < 0)) && decide (i.toNatClampNeg < n)
theorem cb_in_v {i : Int32} {n : Nat} (h : cb_in i n = true) : vp_in i n := by
  unfold cb_in at h
  simp only [Bool.and_eq_true, Bool.not_eq_true', decide_eq_false_iff_not, decide_eq_true_eq] at h
  intro q
  rcases q with q | q
  · exact h.1 q
  · exact absurd h.2 (Nat.not_lt.mpr q)
theorem cb_01_e {x y : Int32} (e : x = y) (h : cb_01 x) : cb_01 y := e ▸ h
def cb_on {β : Type} (o : Option Nat) (A : Option β) (B : Nat → Option β) : Option β := match o with
  | none => A
  | some j => B j
theorem cb_on_n {β : Type} {A : Option β} {B : Nat → Option β} {r : β} (h : cb_on none A B = some r) : A = some r := h
theorem cb_on_s {β : Type} {j : Nat} {A : Option β} {B : Nat → Option β} {r : β} (h : cb_on (some j) A B = some r) : B j = some r := h
theorem cb_nul {X : cb_X} {w : va_W} {pc : Nat} {lv : List (Nat × Value)} {st : List Value} {a : Nat → Nat} (kk : cb_V X w pc lv (.null :: st)) : cb_V X w pc lv (((some (cb_rv a none)).toList) ++ st) := kk
theorem cb_rfv {X : cb_X} {w : va_W} {pc : Nat} {lv : List (Nat × Value)} {st : List Value} {a : Nat → Nat} {j : Nat} (kk : cb_V X w pc lv (.ref (a j) :: st)) : cb_V X w pc lv (((some (cb_rv a (some j))).toList) ++ st) := kk
theorem cb_lko {x y : Int32} {ps : List (Int × Int)} {d o : Int} (e : x = y) (h : Op.lookupswitch.offset ps d y.toInt = o) : Op.lookupswitch.offset ps d x.toInt = o := by rw [e]; exact h
def cb_isBank (j : Nat) : Prop := j = 11 ∨ j = 13
def cb_isChannel (j : Nat) : Prop := j = 6 ∨ j = 7
def cb_isPort (j : Nat) : Prop := j = 8 ∨ j = 9
def cb_isDevice (j : Nat) : Prop := j = 6 ∨ j = 7 ∨ j = 8 ∨ j = 9
theorem bank_11 : cb_isBank 11 := Or.inl rfl
theorem bank_13 : cb_isBank 13 := Or.inr rfl
theorem channel_6 : cb_isChannel 6 := Or.inl rfl
theorem channel_7 : cb_isChannel 7 := Or.inr rfl
theorem port_8 : cb_isPort 8 := Or.inl rfl
theorem port_9 : cb_isPort 9 := Or.inr rfl
theorem device_6 : cb_isDevice 6 := Or.inl rfl
theorem device_7 : cb_isDevice 7 := Or.inr (Or.inl rfl)
theorem device_8 : cb_isDevice 8 := Or.inr (Or.inr (Or.inl rfl))
theorem device_9 : cb_isDevice 9 := Or.inr (Or.inr (Or.inr rfl))
theorem cb_Channel_Device {j : Nat} (h : cb_isChannel j) : cb_isDevice j := by
  rcases h with rfl | rfl
  · exact device_6
  · exact device_7
theorem cb_Port_Device {j : Nat} (h : cb_isPort j) : cb_isDevice j := by
  rcases h with rfl | rfl
  · exact device_8
  · exact device_9
theorem cb_dev {i : Int32} (h : vp_in i 4) : cb_isDevice (6 + i.toNatClampNeg) := by
  have h1 : i.toNatClampNeg < 4 := Nat.not_le.mp fun q => h (Or.inr q)
  unfold cb_isDevice
  omega
/-! words of the tables by their places -/
def cb_T : List Cond := lw_tbl.filter goodWord
def cb_isN : Cond → Bool
  | .fieldLinkNest .. => true
  | .methodLinkNest .. => true
  | .declares .. => true
  | _ => false
def cb_N : List Cond := tables_1.filter cb_isN
theorem cb_m1 {w : Cond} {i : Nat} (h : tables_1_1[i]? = some w) : w ∈ tables_1 := List.mem_append_left _ (List.mem_of_getElem? h)
theorem cb_t1 {w : Cond} (i : Nat) (h : tables_1_1[i]? = some w) (g : goodWord w = true) : w ∈ cb_T := List.mem_filter.mpr ⟨List.mem_append_right _ (cb_m1 h), g⟩
theorem cb_n1 {w : Cond} (i : Nat) (h : tables_1_1[i]? = some w) (g : cb_isN w = true) : w ∈ cb_N := List.mem_filter.mpr ⟨cb_m1 h, g⟩
theorem cb_m2 {w : Cond} {i : Nat} (h : tables_1_2[i]? = some w) : w ∈ tables_1 := List.mem_append_right _ (List.mem_append_left _ (List.mem_of_getElem? h))
theorem cb_t2 {w : Cond} (i : Nat) (h : tables_1_2[i]? = some w) (g : goodWord w = true) : w ∈ cb_T := List.mem_filter.mpr ⟨List.mem_append_right _ (cb_m2 h), g⟩
theorem cb_n2 {w : Cond} (i : Nat) (h : tables_1_2[i]? = some w) (g : cb_isN w = true) : w ∈ cb_N := List.mem_filter.mpr ⟨cb_m2 h, g⟩
theorem cb_m3 {w : Cond} {i : Nat} (h : tables_1_3[i]? = some w) : w ∈ tables_1 := List.mem_append_right _ (List.mem_append_right _ (List.mem_append_left _ (List.mem_of_getElem? h)))
theorem cb_t3 {w : Cond} (i : Nat) (h : tables_1_3[i]? = some w) (g : goodWord w = true) : w ∈ cb_T := List.mem_filter.mpr ⟨List.mem_append_right _ (cb_m3 h), g⟩
theorem cb_n3 {w : Cond} (i : Nat) (h : tables_1_3[i]? = some w) (g : cb_isN w = true) : w ∈ cb_N := List.mem_filter.mpr ⟨cb_m3 h, g⟩
theorem cb_m4 {w : Cond} {i : Nat} (h : tables_1_4[i]? = some w) : w ∈ tables_1 := List.mem_append_right _ (List.mem_append_right _ (List.mem_append_right _ (List.mem_append_left _ (List.mem_of_getElem? h))))
theorem cb_t4 {w : Cond} (i : Nat) (h : tables_1_4[i]? = some w) (g : goodWord w = true) : w ∈ cb_T := List.mem_filter.mpr ⟨List.mem_append_right _ (cb_m4 h), g⟩
theorem cb_n4 {w : Cond} (i : Nat) (h : tables_1_4[i]? = some w) (g : cb_isN w = true) : w ∈ cb_N := List.mem_filter.mpr ⟨cb_m4 h, g⟩
theorem cb_m5 {w : Cond} {i : Nat} (h : tables_1_5[i]? = some w) : w ∈ tables_1 := List.mem_append_right _ (List.mem_append_right _ (List.mem_append_right _ (List.mem_append_right _ (List.mem_of_getElem? h))))
theorem cb_t5 {w : Cond} (i : Nat) (h : tables_1_5[i]? = some w) (g : goodWord w = true) : w ∈ cb_T := List.mem_filter.mpr ⟨List.mem_append_right _ (cb_m5 h), g⟩
theorem cb_n5 {w : Cond} (i : Nat) (h : tables_1_5[i]? = some w) (g : cb_isN w = true) : w ∈ cb_N := List.mem_filter.mpr ⟨cb_m5 h, g⟩
theorem cb_tp1 {y : MethodName} {n : Nat} (i : Nat) (h : lw_privs_1[i]? = some (y, n)) : Cond.selects y.cls y y ∈ cb_T := List.mem_filter.mpr ⟨List.mem_append_left _ (List.mem_map.mpr ⟨(y, n), List.mem_append_left _ (List.mem_of_getElem? h), rfl⟩), rfl⟩
theorem cb_tp2 {y : MethodName} {n : Nat} (i : Nat) (h : lw_privs_2[i]? = some (y, n)) : Cond.selects y.cls y y ∈ cb_T := List.mem_filter.mpr ⟨List.mem_append_left _ (List.mem_map.mpr ⟨(y, n), List.mem_append_right _ (List.mem_append_left _ (List.mem_of_getElem? h)), rfl⟩), rfl⟩
theorem cb_tp3 {y : MethodName} {n : Nat} (i : Nat) (h : lw_privs_3[i]? = some (y, n)) : Cond.selects y.cls y y ∈ cb_T := List.mem_filter.mpr ⟨List.mem_append_left _ (List.mem_map.mpr ⟨(y, n), List.mem_append_right _ (List.mem_append_right _ (List.mem_append_left _ (List.mem_of_getElem? h))), rfl⟩), rfl⟩
theorem cb_tp4 {y : MethodName} {n : Nat} (i : Nat) (h : lw_privs_4[i]? = some (y, n)) : Cond.selects y.cls y y ∈ cb_T := List.mem_filter.mpr ⟨List.mem_append_left _ (List.mem_map.mpr ⟨(y, n), List.mem_append_right _ (List.mem_append_right _ (List.mem_append_right _ (List.mem_append_left _ (List.mem_of_getElem? h)))), rfl⟩), rfl⟩
theorem cb_tp5 {y : MethodName} {n : Nat} (i : Nat) (h : lw_privs_5[i]? = some (y, n)) : Cond.selects y.cls y y ∈ cb_T := List.mem_filter.mpr ⟨List.mem_append_left _ (List.mem_map.mpr ⟨(y, n), List.mem_append_right _ (List.mem_append_right _ (List.mem_append_right _ (List.mem_append_right _ (List.mem_append_left _ (List.mem_of_getElem? h))))), rfl⟩), rfl⟩
theorem cb_tp6 {y : MethodName} {n : Nat} (i : Nat) (h : lw_privs_6[i]? = some (y, n)) : Cond.selects y.cls y y ∈ cb_T := List.mem_filter.mpr ⟨List.mem_append_left _ (List.mem_map.mpr ⟨(y, n), List.mem_append_right _ (List.mem_append_right _ (List.mem_append_right _ (List.mem_append_right _ (List.mem_append_right _ (List.mem_of_getElem? h))))), rfl⟩), rfl⟩
theorem cb_T_good : ∀ w ∈ cb_T, ((w.onTables && w.keeps) = true ∨ ∃ ty, w = .arrayClass ty) := fun w h => good_of_word (List.mem_filter.mp h).2
theorem cb_N_ok : ∀ x ∈ cb_N, x.onTables = true ∧ ∀ s U : State, s.WarmedH U.vm → va_Nw x s → va_Nw x U := by
  intro x hx
  have h := (List.mem_filter.mp hx).2
  cases x <;> first | (exact absurd (show false = true from h) (by decide)) | (exact ⟨rfl, fun s U hW hz => va_Nw.warmF hW hz⟩) | (exact ⟨rfl, fun s U hW hz => va_Nw.warmM hW hz⟩) | (exact ⟨rfl, fun s U hW hz => va_Nw.warmD hW hz⟩)
end
section
theorem kb_6 : (Int8.ofInt 6).toInt32 = (6 : Int32) := by decide +kernel
theorem kb_7 : (Int8.ofInt 7).toInt32 = (7 : Int32) := by decide +kernel
theorem kb_8 : (Int8.ofInt 8).toInt32 = (8 : Int32) := by decide +kernel
theorem kb_9 : (Int8.ofInt 9).toInt32 = (9 : Int32) := by decide +kernel
theorem kb_10 : (Int8.ofInt 10).toInt32 = (10 : Int32) := by decide +kernel
theorem kb_11 : (Int8.ofInt 11).toInt32 = (11 : Int32) := by decide +kernel
theorem kb_12 : (Int8.ofInt 12).toInt32 = (12 : Int32) := by decide +kernel
theorem kb_13 : (Int8.ofInt 13).toInt32 = (13 : Int32) := by decide +kernel
theorem kb_14 : (Int8.ofInt 14).toInt32 = (14 : Int32) := by decide +kernel
theorem kb_15 : (Int8.ofInt 15).toInt32 = (15 : Int32) := by decide +kernel
theorem kb_16 : (Int8.ofInt 16).toInt32 = (16 : Int32) := by decide +kernel
theorem kb_17 : (Int8.ofInt 17).toInt32 = (17 : Int32) := by decide +kernel
theorem kb_18 : (Int8.ofInt 18).toInt32 = (18 : Int32) := by decide +kernel
theorem kb_19 : (Int8.ofInt 19).toInt32 = (19 : Int32) := by decide +kernel
theorem kb_21 : (Int8.ofInt 21).toInt32 = (21 : Int32) := by decide +kernel
theorem kb_22 : (Int8.ofInt 22).toInt32 = (22 : Int32) := by decide +kernel
theorem kb_24 : (Int8.ofInt 24).toInt32 = (24 : Int32) := by decide +kernel
theorem kb_32 : (Int8.ofInt 32).toInt32 = (32 : Int32) := by decide +kernel
theorem kb_56 : (Int8.ofInt 56).toInt32 = (56 : Int32) := by decide +kernel
theorem kb_63 : (Int8.ofInt 63).toInt32 = (63 : Int32) := by decide +kernel
theorem kb_64 : (Int8.ofInt 64).toInt32 = (64 : Int32) := by decide +kernel
theorem kb_68 : (Int8.ofInt 68).toInt32 = (68 : Int32) := by decide +kernel
theorem kc_m1 : Int32.ofInt (-1) = ((-1) : Int32) := by decide +kernel
theorem kc_0 : Int32.ofInt 0 = (0 : Int32) := by decide +kernel
theorem kc_1 : Int32.ofInt 1 = (1 : Int32) := by decide +kernel
theorem kc_2 : Int32.ofInt 2 = (2 : Int32) := by decide +kernel
theorem kc_3 : Int32.ofInt 3 = (3 : Int32) := by decide +kernel
theorem kc_4 : Int32.ofInt 4 = (4 : Int32) := by decide +kernel
theorem kc_5 : Int32.ofInt 5 = (5 : Int32) := by decide +kernel
theorem ks_128 : (Int16.ofInt 128).toInt32 = (128 : Int32) := by decide +kernel
theorem ks_214 : (Int16.ofInt 214).toInt32 = (214 : Int32) := by decide +kernel
theorem ks_215 : (Int16.ofInt 215).toInt32 = (215 : Int32) := by decide +kernel
theorem ks_248 : (Int16.ofInt 248).toInt32 = (248 : Int32) := by decide +kernel
theorem ks_255 : (Int16.ofInt 255).toInt32 = (255 : Int32) := by decide +kernel
theorem ks_256 : (Int16.ofInt 256).toInt32 = (256 : Int32) := by decide +kernel
theorem ks_1020 : (Int16.ofInt 1020).toInt32 = (1020 : Int32) := by decide +kernel
theorem ks_1023 : (Int16.ofInt 1023).toInt32 = (1023 : Int32) := by decide +kernel
theorem ks_1024 : (Int16.ofInt 1024).toInt32 = (1024 : Int32) := by decide +kernel
theorem ks_5000 : (Int16.ofInt 5000).toInt32 = (5000 : Int32) := by decide +kernel
theorem tk_0 : (0 : Int32).toNatClampNeg = 0 := by decide +kernel
theorem tk_1 : (1 : Int32).toNatClampNeg = 1 := by decide +kernel
theorem tk_2 : (2 : Int32).toNatClampNeg = 2 := by decide +kernel
theorem tk_3 : (3 : Int32).toNatClampNeg = 3 := by decide +kernel
theorem tk_6 : (6 : Int32).toNatClampNeg = 6 := by decide +kernel
theorem tk_7 : (7 : Int32).toNatClampNeg = 7 := by decide +kernel
theorem vi_0_4 : vp_in (0 : Int32) 4 := cb_in_v (by decide +kernel)
theorem vi_0_8 : vp_in (0 : Int32) 8 := cb_in_v (by decide +kernel)
theorem vi_1_4 : vp_in (1 : Int32) 4 := cb_in_v (by decide +kernel)
theorem vi_2_4 : vp_in (2 : Int32) 4 := cb_in_v (by decide +kernel)
theorem vi_3_4 : vp_in (3 : Int32) 4 := cb_in_v (by decide +kernel)
theorem vi_6_8 : vp_in (6 : Int32) 8 := cb_in_v (by decide +kernel)
theorem vi_7_8 : vp_in (7 : Int32) 8 := cb_in_v (by decide +kernel)
theorem vm_7 (x : Int32) : vp_in (x &&& (7 : Int32)) 8 := pk_andIn x 3 (by decide +kernel) (by decide)
theorem vm_1023 (x : Int32) : vp_in (x &&& (1023 : Int32)) 1024 := pk_andIn x 10 (by decide +kernel) (by decide)
theorem cb_no2_0 {p0 p1 : Prop} (q : ¬ (p0 ∨ p1)) : ¬ p0 := fun h => q (Or.inl h)
theorem cb_no2_1 {p0 p1 : Prop} (q : ¬ (p0 ∨ p1)) : ¬ p1 := fun h => q (Or.inr (h))
theorem cb_no4_0 {p0 p1 p2 p3 : Prop} (q : ¬ (p0 ∨ p1 ∨ p2 ∨ p3)) : ¬ p0 := fun h => q (Or.inl h)
theorem cb_no4_1 {p0 p1 p2 p3 : Prop} (q : ¬ (p0 ∨ p1 ∨ p2 ∨ p3)) : ¬ p1 := fun h => q (Or.inr (Or.inl h))
theorem cb_no4_2 {p0 p1 p2 p3 : Prop} (q : ¬ (p0 ∨ p1 ∨ p2 ∨ p3)) : ¬ p2 := fun h => q (Or.inr (Or.inr (Or.inl h)))
theorem cb_no4_3 {p0 p1 p2 p3 : Prop} (q : ¬ (p0 ∨ p1 ∨ p2 ∨ p3)) : ¬ p3 := fun h => q (Or.inr (Or.inr (Or.inr (h))))
theorem cb_no8_0 {p0 p1 p2 p3 p4 p5 p6 p7 : Prop} (q : ¬ (p0 ∨ p1 ∨ p2 ∨ p3 ∨ p4 ∨ p5 ∨ p6 ∨ p7)) : ¬ p0 := fun h => q (Or.inl h)
theorem cb_no8_1 {p0 p1 p2 p3 p4 p5 p6 p7 : Prop} (q : ¬ (p0 ∨ p1 ∨ p2 ∨ p3 ∨ p4 ∨ p5 ∨ p6 ∨ p7)) : ¬ p1 := fun h => q (Or.inr (Or.inl h))
theorem cb_no8_2 {p0 p1 p2 p3 p4 p5 p6 p7 : Prop} (q : ¬ (p0 ∨ p1 ∨ p2 ∨ p3 ∨ p4 ∨ p5 ∨ p6 ∨ p7)) : ¬ p2 := fun h => q (Or.inr (Or.inr (Or.inl h)))
theorem cb_no8_3 {p0 p1 p2 p3 p4 p5 p6 p7 : Prop} (q : ¬ (p0 ∨ p1 ∨ p2 ∨ p3 ∨ p4 ∨ p5 ∨ p6 ∨ p7)) : ¬ p3 := fun h => q (Or.inr (Or.inr (Or.inr (Or.inl h))))
theorem cb_no8_4 {p0 p1 p2 p3 p4 p5 p6 p7 : Prop} (q : ¬ (p0 ∨ p1 ∨ p2 ∨ p3 ∨ p4 ∨ p5 ∨ p6 ∨ p7)) : ¬ p4 := fun h => q (Or.inr (Or.inr (Or.inr (Or.inr (Or.inl h)))))
theorem cb_no8_5 {p0 p1 p2 p3 p4 p5 p6 p7 : Prop} (q : ¬ (p0 ∨ p1 ∨ p2 ∨ p3 ∨ p4 ∨ p5 ∨ p6 ∨ p7)) : ¬ p5 := fun h => q (Or.inr (Or.inr (Or.inr (Or.inr (Or.inr (Or.inl h))))))
theorem cb_no8_6 {p0 p1 p2 p3 p4 p5 p6 p7 : Prop} (q : ¬ (p0 ∨ p1 ∨ p2 ∨ p3 ∨ p4 ∨ p5 ∨ p6 ∨ p7)) : ¬ p6 := fun h => q (Or.inr (Or.inr (Or.inr (Or.inr (Or.inr (Or.inr (Or.inl h)))))))
theorem cb_no8_7 {p0 p1 p2 p3 p4 p5 p6 p7 : Prop} (q : ¬ (p0 ∨ p1 ∨ p2 ∨ p3 ∨ p4 ∨ p5 ∨ p6 ∨ p7)) : ¬ p7 := fun h => q (Or.inr (Or.inr (Or.inr (Or.inr (Or.inr (Or.inr (Or.inr (h))))))))
theorem kb_66 : (Int8.ofInt 66).toInt32 = (66 : Int32) := by decide +kernel
theorem kb_71 : (Int8.ofInt 71).toInt32 = (71 : Int32) := by decide +kernel
theorem kb_77 : (Int8.ofInt 77).toInt32 = (77 : Int32) := by decide +kernel
theorem kb_86 : (Int8.ofInt 86).toInt32 = (86 : Int32) := by decide +kernel
theorem kb_94 : (Int8.ofInt 94).toInt32 = (94 : Int32) := by decide +kernel
theorem kb_118 : (Int8.ofInt 118).toInt32 = (118 : Int32) := by decide +kernel
theorem kb_127 : (Int8.ofInt 127).toInt32 = (127 : Int32) := by decide +kernel
theorem ks_160 : (Int16.ofInt 160).toInt32 = (160 : Int32) := by decide +kernel
theorem ks_176 : (Int16.ofInt 176).toInt32 = (176 : Int32) := by decide +kernel
theorem ks_192 : (Int16.ofInt 192).toInt32 = (192 : Int32) := by decide +kernel
theorem ks_199 : (Int16.ofInt 199).toInt32 = (199 : Int32) := by decide +kernel
theorem ks_251 : (Int16.ofInt 251).toInt32 = (251 : Int32) := by decide +kernel
theorem tk_4 : (4 : Int32).toNatClampNeg = 4 := by decide +kernel
theorem tk_5 : (5 : Int32).toNatClampNeg = 5 := by decide +kernel
theorem vi_0_3 : vp_in (0 : Int32) 3 := cb_in_v (by decide +kernel)
theorem vi_0_16 : vp_in (0 : Int32) 16 := cb_in_v (by decide +kernel)
theorem vi_1_2 : vp_in (1 : Int32) 2 := cb_in_v (by decide +kernel)
theorem vi_1_3 : vp_in (1 : Int32) 3 := cb_in_v (by decide +kernel)
theorem vi_1_16 : vp_in (1 : Int32) 16 := cb_in_v (by decide +kernel)
theorem vi_2_3 : vp_in (2 : Int32) 3 := cb_in_v (by decide +kernel)
theorem vi_2_16 : vp_in (2 : Int32) 16 := cb_in_v (by decide +kernel)
theorem vi_3_16 : vp_in (3 : Int32) 16 := cb_in_v (by decide +kernel)
theorem vi_4_16 : vp_in (4 : Int32) 16 := cb_in_v (by decide +kernel)
theorem vi_5_16 : vp_in (5 : Int32) 16 := cb_in_v (by decide +kernel)
theorem vi_6_16 : vp_in (6 : Int32) 16 := cb_in_v (by decide +kernel)
theorem vi_7_16 : vp_in (7 : Int32) 16 := cb_in_v (by decide +kernel)
end
section
theorem dX7_putByte_0 : decode cX7_putByte 0 = .ok (.aload_n 0, 1) := by decide +kernel
theorem dX7_putByte_1 : decode cX7_putByte 1 = .ok (.getfield 9, 3) := by decide +kernel
theorem dX7_putByte_4 : decode cX7_putByte 4 = .ok (.iload_n 1, 1) := by decide +kernel
theorem dX7_putByte_5 : decode cX7_putByte 5 = .ok (.sipush 1023, 3) := by decide +kernel
theorem dX7_putByte_8 : decode cX7_putByte 8 = .ok (.iand, 1) := by decide +kernel
theorem dX7_putByte_9 : decode cX7_putByte 9 = .ok (.iload_n 2, 1) := by decide +kernel
theorem dX7_putByte_10 : decode cX7_putByte 10 = .ok (.sipush 255, 3) := by decide +kernel
theorem dX7_putByte_13 : decode cX7_putByte 13 = .ok (.iand, 1) := by decide +kernel
theorem dX7_putByte_14 : decode cX7_putByte 14 = .ok (.iastore, 1) := by decide +kernel
theorem dX7_putByte_15 : decode cX7_putByte 15 = .ok (.return_, 1) := by decide +kernel
theorem dX1_poke_0 : decode cX1_poke 0 = .ok (.iload_n 1, 1) := by decide +kernel
theorem dX1_poke_1 : decode cX1_poke 1 = .ok (.ifCond .lt 10, 3) := by decide +kernel
theorem dX1_poke_4 : decode cX1_poke 4 = .ok (.iload_n 1, 1) := by decide +kernel
theorem dX1_poke_5 : decode cX1_poke 5 = .ok (.sipush 1024, 3) := by decide +kernel
theorem dX1_poke_8 : decode cX1_poke 8 = .ok (.if_icmp .lt 5, 3) := by decide +kernel
theorem dX1_poke_11 : decode cX1_poke 11 = .ok (.iconst 0, 1) := by decide +kernel
theorem dX1_poke_12 : decode cX1_poke 12 = .ok (.ireturn, 1) := by decide +kernel
theorem dX1_poke_13 : decode cX1_poke 13 = .ok (.aload_n 0, 1) := by decide +kernel
theorem dX1_poke_14 : decode cX1_poke 14 = .ok (.getfield 10, 3) := by decide +kernel
theorem dX1_poke_17 : decode cX1_poke 17 = .ok (.iload_n 1, 1) := by decide +kernel
theorem dX1_poke_18 : decode cX1_poke 18 = .ok (.iload_n 2, 1) := by decide +kernel
theorem dX1_poke_19 : decode cX1_poke 19 = .ok (.invokevirtual 32, 3) := by decide +kernel
theorem dX1_poke_22 : decode cX1_poke 22 = .ok (.iconst 1, 1) := by decide +kernel
theorem dX1_poke_23 : decode cX1_poke 23 = .ok (.ireturn, 1) := by decide +kernel
theorem dX1_poke4_0 : decode cX1_poke4 0 = .ok (.iload_n 1, 1) := by decide +kernel
theorem dX1_poke4_1 : decode cX1_poke4 1 = .ok (.ifCond .lt 10, 3) := by decide +kernel
theorem dX1_poke4_4 : decode cX1_poke4 4 = .ok (.iload_n 1, 1) := by decide +kernel
theorem dX1_poke4_5 : decode cX1_poke4 5 = .ok (.sipush 1020, 3) := by decide +kernel
theorem dX1_poke4_8 : decode cX1_poke4 8 = .ok (.if_icmp .le 5, 3) := by decide +kernel
theorem dX1_poke4_11 : decode cX1_poke4 11 = .ok (.iconst 0, 1) := by decide +kernel
theorem dX1_poke4_12 : decode cX1_poke4 12 = .ok (.ireturn, 1) := by decide +kernel
theorem dX1_poke4_13 : decode cX1_poke4 13 = .ok (.iconst 0, 1) := by decide +kernel
theorem dX1_poke4_14 : decode cX1_poke4 14 = .ok (.istore_n 3, 1) := by decide +kernel
theorem dX1_poke4_15 : decode cX1_poke4 15 = .ok (.iload_n 3, 1) := by decide +kernel
theorem dX1_poke4_16 : decode cX1_poke4 16 = .ok (.iconst 4, 1) := by decide +kernel
theorem dX1_poke4_17 : decode cX1_poke4 17 = .ok (.if_icmp .ge 28, 3) := by decide +kernel
theorem dX1_poke4_20 : decode cX1_poke4 20 = .ok (.aload_n 0, 1) := by decide +kernel
theorem dX1_poke4_21 : decode cX1_poke4 21 = .ok (.getfield 10, 3) := by decide +kernel
theorem dX1_poke4_24 : decode cX1_poke4 24 = .ok (.iload_n 1, 1) := by decide +kernel
theorem dX1_poke4_25 : decode cX1_poke4 25 = .ok (.iload_n 3, 1) := by decide +kernel
theorem dX1_poke4_26 : decode cX1_poke4 26 = .ok (.iadd, 1) := by decide +kernel
theorem dX1_poke4_27 : decode cX1_poke4 27 = .ok (.iload_n 2, 1) := by decide +kernel
theorem dX1_poke4_28 : decode cX1_poke4 28 = .ok (.bipush 24, 2) := by decide +kernel
theorem dX1_poke4_30 : decode cX1_poke4 30 = .ok (.bipush 8, 2) := by decide +kernel
theorem dX1_poke4_32 : decode cX1_poke4 32 = .ok (.iload_n 3, 1) := by decide +kernel
theorem dX1_poke4_33 : decode cX1_poke4 33 = .ok (.imul, 1) := by decide +kernel
theorem dX1_poke4_34 : decode cX1_poke4 34 = .ok (.isub, 1) := by decide +kernel
theorem dX1_poke4_35 : decode cX1_poke4 35 = .ok (.ishr, 1) := by decide +kernel
theorem dX1_poke4_36 : decode cX1_poke4 36 = .ok (.invokevirtual 32, 3) := by decide +kernel
theorem dX1_poke4_39 : decode cX1_poke4 39 = .ok (.iinc 3 1, 3) := by decide +kernel
theorem dX1_poke4_42 : decode cX1_poke4 42 = .ok (.goto (-27), 3) := by decide +kernel
theorem dX1_poke4_45 : decode cX1_poke4 45 = .ok (.iconst 1, 1) := by decide +kernel
theorem dX1_poke4_46 : decode cX1_poke4 46 = .ok (.ireturn, 1) := by decide +kernel
theorem dX7_byteAt_0 : decode cX7_byteAt 0 = .ok (.aload_n 0, 1) := by decide +kernel
theorem dX7_byteAt_1 : decode cX7_byteAt 1 = .ok (.getfield 9, 3) := by decide +kernel
theorem dX7_byteAt_4 : decode cX7_byteAt 4 = .ok (.iload_n 1, 1) := by decide +kernel
theorem dX7_byteAt_5 : decode cX7_byteAt 5 = .ok (.sipush 1023, 3) := by decide +kernel
theorem dX7_byteAt_8 : decode cX7_byteAt 8 = .ok (.iand, 1) := by decide +kernel
theorem dX7_byteAt_9 : decode cX7_byteAt 9 = .ok (.iaload, 1) := by decide +kernel
theorem dX7_byteAt_10 : decode cX7_byteAt 10 = .ok (.ireturn, 1) := by decide +kernel
theorem dX1_peek_0 : decode cX1_peek 0 = .ok (.iload_n 1, 1) := by decide +kernel
theorem dX1_peek_1 : decode cX1_peek 1 = .ok (.ifCond .lt 10, 3) := by decide +kernel
theorem dX1_peek_4 : decode cX1_peek 4 = .ok (.iload_n 1, 1) := by decide +kernel
theorem dX1_peek_5 : decode cX1_peek 5 = .ok (.sipush 1024, 3) := by decide +kernel
theorem dX1_peek_8 : decode cX1_peek 8 = .ok (.if_icmp .lt 5, 3) := by decide +kernel
theorem dX1_peek_11 : decode cX1_peek 11 = .ok (.iconst (-1), 1) := by decide +kernel
theorem dX1_peek_12 : decode cX1_peek 12 = .ok (.ireturn, 1) := by decide +kernel
theorem dX1_peek_13 : decode cX1_peek 13 = .ok (.aload_n 0, 1) := by decide +kernel
theorem dX1_peek_14 : decode cX1_peek 14 = .ok (.getfield 10, 3) := by decide +kernel
theorem dX1_peek_17 : decode cX1_peek 17 = .ok (.iload_n 1, 1) := by decide +kernel
theorem dX1_peek_18 : decode cX1_peek 18 = .ok (.invokevirtual 36, 3) := by decide +kernel
theorem dX1_peek_21 : decode cX1_peek 21 = .ok (.ireturn, 1) := by decide +kernel
theorem dX10_facePair_0 : decode cX10_facePair 0 = .ok (.iload_n 0, 1) := by decide +kernel
theorem dX10_facePair_1 : decode cX10_facePair 1 = .ok (.iconst 3, 1) := by decide +kernel
theorem dX10_facePair_2 : decode cX10_facePair 2 = .ok (.iadd, 1) := by decide +kernel
theorem dX10_facePair_3 : decode cX10_facePair 3 = .ok (.iconst 3, 1) := by decide +kernel
theorem dX10_facePair_4 : decode cX10_facePair 4 = .ok (.iand, 1) := by decide +kernel
theorem dX10_facePair_5 : decode cX10_facePair 5 = .ok (.ireturn, 1) := by decide +kernel
theorem dX2_pair_0 : decode cX2_pair 0 = .ok (.iload_n 1, 1) := by decide +kernel
theorem dX2_pair_1 : decode cX2_pair 1 = .ok (.iconst 3, 1) := by decide +kernel
theorem dX2_pair_2 : decode cX2_pair 2 = .ok (.if_icmp .ne 22, 3) := by decide +kernel
theorem dX2_pair_5 : decode cX2_pair 5 = .ok (.aload_n 0, 1) := by decide +kernel
theorem dX2_pair_6 : decode cX2_pair 6 = .ok (.getfield 7, 3) := by decide +kernel
theorem dX2_pair_9 : decode cX2_pair 9 = .ok (.bipush 7, 2) := by decide +kernel
theorem dX2_pair_11 : decode cX2_pair 11 = .ok (.iaload, 1) := by decide +kernel
theorem dX2_pair_12 : decode cX2_pair 12 = .ok (.bipush 8, 2) := by decide +kernel
theorem dX2_pair_14 : decode cX2_pair 14 = .ok (.ishl, 1) := by decide +kernel
theorem dX2_pair_15 : decode cX2_pair 15 = .ok (.aload_n 0, 1) := by decide +kernel
theorem dX2_pair_16 : decode cX2_pair 16 = .ok (.getfield 7, 3) := by decide +kernel
theorem dX2_pair_19 : decode cX2_pair 19 = .ok (.bipush 6, 2) := by decide +kernel
theorem dX2_pair_21 : decode cX2_pair 21 = .ok (.iaload, 1) := by decide +kernel
theorem dX2_pair_22 : decode cX2_pair 22 = .ok (.ior, 1) := by decide +kernel
theorem dX2_pair_23 : decode cX2_pair 23 = .ok (.ireturn, 1) := by decide +kernel
theorem dX2_pair_24 : decode cX2_pair 24 = .ok (.iconst 2, 1) := by decide +kernel
theorem dX2_pair_25 : decode cX2_pair 25 = .ok (.iload_n 1, 1) := by decide +kernel
theorem dX2_pair_26 : decode cX2_pair 26 = .ok (.iconst 3, 1) := by decide +kernel
theorem dX2_pair_27 : decode cX2_pair 27 = .ok (.iand, 1) := by decide +kernel
theorem dX2_pair_28 : decode cX2_pair 28 = .ok (.imul, 1) := by decide +kernel
theorem dX2_pair_29 : decode cX2_pair 29 = .ok (.istore_n 2, 1) := by decide +kernel
theorem dX2_pair_30 : decode cX2_pair 30 = .ok (.aload_n 0, 1) := by decide +kernel
theorem dX2_pair_31 : decode cX2_pair 31 = .ok (.getfield 7, 3) := by decide +kernel
theorem dX2_pair_34 : decode cX2_pair 34 = .ok (.iload_n 2, 1) := by decide +kernel
theorem dX2_pair_35 : decode cX2_pair 35 = .ok (.iaload, 1) := by decide +kernel
theorem dX2_pair_36 : decode cX2_pair 36 = .ok (.bipush 8, 2) := by decide +kernel
theorem dX2_pair_38 : decode cX2_pair 38 = .ok (.ishl, 1) := by decide +kernel
theorem dX2_pair_39 : decode cX2_pair 39 = .ok (.aload_n 0, 1) := by decide +kernel
theorem dX2_pair_40 : decode cX2_pair 40 = .ok (.getfield 7, 3) := by decide +kernel
theorem dX2_pair_43 : decode cX2_pair 43 = .ok (.iload_n 2, 1) := by decide +kernel
theorem dX2_pair_44 : decode cX2_pair 44 = .ok (.iconst 1, 1) := by decide +kernel
theorem dX2_pair_45 : decode cX2_pair 45 = .ok (.iadd, 1) := by decide +kernel
theorem dX2_pair_46 : decode cX2_pair 46 = .ok (.iaload, 1) := by decide +kernel
theorem dX2_pair_47 : decode cX2_pair 47 = .ok (.ior, 1) := by decide +kernel
theorem dX2_pair_48 : decode cX2_pair 48 = .ok (.ireturn, 1) := by decide +kernel
theorem dX10_numbered_0 : decode cX10_numbered 0 = .ok (.iload_n 1, 1) := by decide +kernel
theorem dX10_numbered_1 : decode cX10_numbered 1 = .ok (.tableswitch 98 0 10 #[59, 59, 59, 59, 71, 71, 71, 71, 83, 88, 93], 59) := by decide +kernel
theorem dX10_numbered_60 : decode cX10_numbered 60 = .ok (.aload_n 0, 1) := by decide +kernel
theorem dX10_numbered_61 : decode cX10_numbered 61 = .ok (.getfield 12, 3) := by decide +kernel
theorem dX10_numbered_64 : decode cX10_numbered 64 = .ok (.iload_n 1, 1) := by decide +kernel
theorem dX10_numbered_65 : decode cX10_numbered 65 = .ok (.invokestatic 40, 3) := by decide +kernel
theorem dX10_numbered_68 : decode cX10_numbered 68 = .ok (.invokevirtual 32, 3) := by decide +kernel
theorem dX10_numbered_71 : decode cX10_numbered 71 = .ok (.ireturn, 1) := by decide +kernel
theorem dX10_numbered_72 : decode cX10_numbered 72 = .ok (.aload_n 0, 1) := by decide +kernel
theorem dX10_numbered_73 : decode cX10_numbered 73 = .ok (.getfield 18, 3) := by decide +kernel
theorem dX10_numbered_76 : decode cX10_numbered 76 = .ok (.iload_n 1, 1) := by decide +kernel
theorem dX10_numbered_77 : decode cX10_numbered 77 = .ok (.invokestatic 40, 3) := by decide +kernel
theorem dX10_numbered_80 : decode cX10_numbered 80 = .ok (.invokevirtual 32, 3) := by decide +kernel
theorem dX10_numbered_83 : decode cX10_numbered 83 = .ok (.ireturn, 1) := by decide +kernel
theorem dX10_numbered_84 : decode cX10_numbered 84 = .ok (.aload_n 0, 1) := by decide +kernel
theorem dX10_numbered_85 : decode cX10_numbered 85 = .ok (.getfield 22, 3) := by decide +kernel
theorem dX10_numbered_88 : decode cX10_numbered 88 = .ok (.ireturn, 1) := by decide +kernel
theorem dX10_numbered_89 : decode cX10_numbered 89 = .ok (.aload_n 0, 1) := by decide +kernel
theorem dX10_numbered_90 : decode cX10_numbered 90 = .ok (.getfield 26, 3) := by decide +kernel
theorem dX10_numbered_93 : decode cX10_numbered 93 = .ok (.ireturn, 1) := by decide +kernel
theorem dX10_numbered_94 : decode cX10_numbered 94 = .ok (.aload_n 0, 1) := by decide +kernel
theorem dX10_numbered_95 : decode cX10_numbered 95 = .ok (.getfield 29, 3) := by decide +kernel
theorem dX10_numbered_98 : decode cX10_numbered 98 = .ok (.ireturn, 1) := by decide +kernel
theorem dX10_numbered_99 : decode cX10_numbered 99 = .ok (.iconst (-1), 1) := by decide +kernel
theorem dX10_numbered_100 : decode cX10_numbered 100 = .ok (.ireturn, 1) := by decide +kernel
theorem dX1_register_0 : decode cX1_register 0 = .ok (.iload_n 1, 1) := by decide +kernel
theorem dX1_register_1 : decode cX1_register 1 = .ok (.lookupswitch 51 #[(11, 27), (12, 43)], 27) := by decide +kernel
theorem dX1_register_28 : decode cX1_register 28 = .ok (.aload_n 0, 1) := by decide +kernel
theorem dX1_register_29 : decode cX1_register 29 = .ok (.getfield 28, 3) := by decide +kernel
theorem dX1_register_32 : decode cX1_register 32 = .ok (.getfield 40, 3) := by decide +kernel
theorem dX1_register_35 : decode cX1_register 35 = .ok (.ifCond .eq 7, 3) := by decide +kernel
theorem dX1_register_38 : decode cX1_register 38 = .ok (.iconst 1, 1) := by decide +kernel
theorem dX1_register_39 : decode cX1_register 39 = .ok (.goto 4, 3) := by decide +kernel
theorem dX1_register_42 : decode cX1_register 42 = .ok (.iconst 0, 1) := by decide +kernel
theorem dX1_register_43 : decode cX1_register 43 = .ok (.ireturn, 1) := by decide +kernel
theorem dX1_register_44 : decode cX1_register 44 = .ok (.aload_n 0, 1) := by decide +kernel
theorem dX1_register_45 : decode cX1_register 45 = .ok (.getfield 28, 3) := by decide +kernel
theorem dX1_register_48 : decode cX1_register 48 = .ok (.getfield 44, 3) := by decide +kernel
theorem dX1_register_51 : decode cX1_register 51 = .ok (.ireturn, 1) := by decide +kernel
theorem dX1_register_52 : decode cX1_register 52 = .ok (.aload_n 0, 1) := by decide +kernel
theorem dX1_register_53 : decode cX1_register 53 = .ok (.getfield 28, 3) := by decide +kernel
theorem dX1_register_56 : decode cX1_register 56 = .ok (.getfield 48, 3) := by decide +kernel
theorem dX1_register_59 : decode cX1_register 59 = .ok (.iload_n 1, 1) := by decide +kernel
theorem dX1_register_60 : decode cX1_register 60 = .ok (.invokevirtual 52, 3) := by decide +kernel
theorem dX1_register_63 : decode cX1_register 63 = .ok (.ireturn, 1) := by decide +kernel
theorem dX2_putPair_0 : decode cX2_putPair 0 = .ok (.iload_n 2, 1) := by decide +kernel
theorem dX2_putPair_1 : decode cX2_putPair 1 = .ok (.bipush 8, 2) := by decide +kernel
theorem dX2_putPair_3 : decode cX2_putPair 3 = .ok (.ishr, 1) := by decide +kernel
theorem dX2_putPair_4 : decode cX2_putPair 4 = .ok (.sipush 255, 3) := by decide +kernel
theorem dX2_putPair_7 : decode cX2_putPair 7 = .ok (.iand, 1) := by decide +kernel
theorem dX2_putPair_8 : decode cX2_putPair 8 = .ok (.istore_n 3, 1) := by decide +kernel
theorem dX2_putPair_9 : decode cX2_putPair 9 = .ok (.iload_n 2, 1) := by decide +kernel
theorem dX2_putPair_10 : decode cX2_putPair 10 = .ok (.sipush 255, 3) := by decide +kernel
theorem dX2_putPair_13 : decode cX2_putPair 13 = .ok (.iand, 1) := by decide +kernel
theorem dX2_putPair_14 : decode cX2_putPair 14 = .ok (.istore 4, 2) := by decide +kernel
theorem dX2_putPair_16 : decode cX2_putPair 16 = .ok (.iload_n 1, 1) := by decide +kernel
theorem dX2_putPair_17 : decode cX2_putPair 17 = .ok (.iconst 3, 1) := by decide +kernel
theorem dX2_putPair_18 : decode cX2_putPair 18 = .ok (.if_icmp .ne 25, 3) := by decide +kernel
theorem dX2_putPair_21 : decode cX2_putPair 21 = .ok (.aload_n 0, 1) := by decide +kernel
theorem dX2_putPair_22 : decode cX2_putPair 22 = .ok (.getfield 7, 3) := by decide +kernel
theorem dX2_putPair_25 : decode cX2_putPair 25 = .ok (.bipush 7, 2) := by decide +kernel
theorem dX2_putPair_27 : decode cX2_putPair 27 = .ok (.iload_n 3, 1) := by decide +kernel
theorem dX2_putPair_28 : decode cX2_putPair 28 = .ok (.iastore, 1) := by decide +kernel
theorem dX2_putPair_29 : decode cX2_putPair 29 = .ok (.aload_n 0, 1) := by decide +kernel
theorem dX2_putPair_30 : decode cX2_putPair 30 = .ok (.getfield 7, 3) := by decide +kernel
theorem dX2_putPair_33 : decode cX2_putPair 33 = .ok (.bipush 6, 2) := by decide +kernel
theorem dX2_putPair_35 : decode cX2_putPair 35 = .ok (.iload 4, 2) := by decide +kernel
theorem dX2_putPair_37 : decode cX2_putPair 37 = .ok (.sipush 215, 3) := by decide +kernel
theorem dX2_putPair_40 : decode cX2_putPair 40 = .ok (.iand, 1) := by decide +kernel
theorem dX2_putPair_41 : decode cX2_putPair 41 = .ok (.iastore, 1) := by decide +kernel
theorem dX2_putPair_42 : decode cX2_putPair 42 = .ok (.return_, 1) := by decide +kernel
theorem dX2_putPair_43 : decode cX2_putPair 43 = .ok (.iconst 2, 1) := by decide +kernel
theorem dX2_putPair_44 : decode cX2_putPair 44 = .ok (.iload_n 1, 1) := by decide +kernel
theorem dX2_putPair_45 : decode cX2_putPair 45 = .ok (.iconst 3, 1) := by decide +kernel
theorem dX2_putPair_46 : decode cX2_putPair 46 = .ok (.iand, 1) := by decide +kernel
theorem dX2_putPair_47 : decode cX2_putPair 47 = .ok (.imul, 1) := by decide +kernel
theorem dX2_putPair_48 : decode cX2_putPair 48 = .ok (.istore 5, 2) := by decide +kernel
theorem dX2_putPair_50 : decode cX2_putPair 50 = .ok (.aload_n 0, 1) := by decide +kernel
theorem dX2_putPair_51 : decode cX2_putPair 51 = .ok (.getfield 7, 3) := by decide +kernel
theorem dX2_putPair_54 : decode cX2_putPair 54 = .ok (.iload 5, 2) := by decide +kernel
theorem dX2_putPair_56 : decode cX2_putPair 56 = .ok (.iload_n 3, 1) := by decide +kernel
theorem dX2_putPair_57 : decode cX2_putPair 57 = .ok (.iastore, 1) := by decide +kernel
theorem dX2_putPair_58 : decode cX2_putPair 58 = .ok (.aload_n 0, 1) := by decide +kernel
theorem dX2_putPair_59 : decode cX2_putPair 59 = .ok (.getfield 7, 3) := by decide +kernel
theorem dX2_putPair_62 : decode cX2_putPair 62 = .ok (.iload 5, 2) := by decide +kernel
theorem dX2_putPair_64 : decode cX2_putPair 64 = .ok (.iconst 1, 1) := by decide +kernel
theorem dX2_putPair_65 : decode cX2_putPair 65 = .ok (.iadd, 1) := by decide +kernel
theorem dX2_putPair_66 : decode cX2_putPair 66 = .ok (.iload 4, 2) := by decide +kernel
theorem dX2_putPair_68 : decode cX2_putPair 68 = .ok (.iastore, 1) := by decide +kernel
theorem dX2_putPair_69 : decode cX2_putPair 69 = .ok (.return_, 1) := by decide +kernel
theorem dX10_putNumbered_0 : decode cX10_putNumbered 0 = .ok (.iload_n 1, 1) := by decide +kernel
theorem dX10_putNumbered_1 : decode cX10_putNumbered 1 = .ok (.tableswitch 118 0 10 #[59, 59, 59, 59, 73, 73, 73, 73, 87, 97, 107], 59) := by decide +kernel
theorem dX10_putNumbered_60 : decode cX10_putNumbered 60 = .ok (.aload_n 0, 1) := by decide +kernel
theorem dX10_putNumbered_61 : decode cX10_putNumbered 61 = .ok (.getfield 12, 3) := by decide +kernel
theorem dX10_putNumbered_64 : decode cX10_putNumbered 64 = .ok (.iload_n 1, 1) := by decide +kernel
theorem dX10_putNumbered_65 : decode cX10_putNumbered 65 = .ok (.invokestatic 40, 3) := by decide +kernel
theorem dX10_putNumbered_68 : decode cX10_putNumbered 68 = .ok (.iload_n 2, 1) := by decide +kernel
theorem dX10_putNumbered_69 : decode cX10_putNumbered 69 = .ok (.invokevirtual 36, 3) := by decide +kernel
theorem dX10_putNumbered_72 : decode cX10_putNumbered 72 = .ok (.iconst 1, 1) := by decide +kernel
theorem dX10_putNumbered_73 : decode cX10_putNumbered 73 = .ok (.ireturn, 1) := by decide +kernel
theorem dX10_putNumbered_74 : decode cX10_putNumbered 74 = .ok (.aload_n 0, 1) := by decide +kernel
theorem dX10_putNumbered_75 : decode cX10_putNumbered 75 = .ok (.getfield 18, 3) := by decide +kernel
theorem dX10_putNumbered_78 : decode cX10_putNumbered 78 = .ok (.iload_n 1, 1) := by decide +kernel
theorem dX10_putNumbered_79 : decode cX10_putNumbered 79 = .ok (.invokestatic 40, 3) := by decide +kernel
theorem dX10_putNumbered_82 : decode cX10_putNumbered 82 = .ok (.iload_n 2, 1) := by decide +kernel
theorem dX10_putNumbered_83 : decode cX10_putNumbered 83 = .ok (.invokevirtual 36, 3) := by decide +kernel
theorem dX10_putNumbered_86 : decode cX10_putNumbered 86 = .ok (.iconst 1, 1) := by decide +kernel
theorem dX10_putNumbered_87 : decode cX10_putNumbered 87 = .ok (.ireturn, 1) := by decide +kernel
theorem dX10_putNumbered_88 : decode cX10_putNumbered 88 = .ok (.aload_n 0, 1) := by decide +kernel
theorem dX10_putNumbered_89 : decode cX10_putNumbered 89 = .ok (.iload_n 2, 1) := by decide +kernel
theorem dX10_putNumbered_90 : decode cX10_putNumbered 90 = .ok (.ldc 21, 2) := by decide +kernel
theorem dX10_putNumbered_92 : decode cX10_putNumbered 92 = .ok (.iand, 1) := by decide +kernel
theorem dX10_putNumbered_93 : decode cX10_putNumbered 93 = .ok (.putfield 22, 3) := by decide +kernel
theorem dX10_putNumbered_96 : decode cX10_putNumbered 96 = .ok (.iconst 1, 1) := by decide +kernel
theorem dX10_putNumbered_97 : decode cX10_putNumbered 97 = .ok (.ireturn, 1) := by decide +kernel
theorem dX10_putNumbered_98 : decode cX10_putNumbered 98 = .ok (.aload_n 0, 1) := by decide +kernel
theorem dX10_putNumbered_99 : decode cX10_putNumbered 99 = .ok (.iload_n 2, 1) := by decide +kernel
theorem dX10_putNumbered_100 : decode cX10_putNumbered 100 = .ok (.ldc 21, 2) := by decide +kernel
theorem dX10_putNumbered_102 : decode cX10_putNumbered 102 = .ok (.iand, 1) := by decide +kernel
theorem dX10_putNumbered_103 : decode cX10_putNumbered 103 = .ok (.putfield 26, 3) := by decide +kernel
theorem dX10_putNumbered_106 : decode cX10_putNumbered 106 = .ok (.iconst 1, 1) := by decide +kernel
theorem dX10_putNumbered_107 : decode cX10_putNumbered 107 = .ok (.ireturn, 1) := by decide +kernel
theorem dX10_putNumbered_108 : decode cX10_putNumbered 108 = .ok (.aload_n 0, 1) := by decide +kernel
theorem dX10_putNumbered_109 : decode cX10_putNumbered 109 = .ok (.iload_n 2, 1) := by decide +kernel
theorem dX10_putNumbered_110 : decode cX10_putNumbered 110 = .ok (.sipush 255, 3) := by decide +kernel
theorem dX10_putNumbered_113 : decode cX10_putNumbered 113 = .ok (.iand, 1) := by decide +kernel
theorem dX10_putNumbered_114 : decode cX10_putNumbered 114 = .ok (.putfield 29, 3) := by decide +kernel
theorem dX10_putNumbered_117 : decode cX10_putNumbered 117 = .ok (.iconst 1, 1) := by decide +kernel
theorem dX10_putNumbered_118 : decode cX10_putNumbered 118 = .ok (.ireturn, 1) := by decide +kernel
theorem dX10_putNumbered_119 : decode cX10_putNumbered 119 = .ok (.iconst 0, 1) := by decide +kernel
theorem dX10_putNumbered_120 : decode cX10_putNumbered 120 = .ok (.ireturn, 1) := by decide +kernel
theorem dX1_set_0 : decode cX1_set 0 = .ok (.aload_n 0, 1) := by decide +kernel
theorem dX1_set_1 : decode cX1_set 1 = .ok (.getfield 28, 3) := by decide +kernel
theorem dX1_set_4 : decode cX1_set 4 = .ok (.getfield 48, 3) := by decide +kernel
theorem dX1_set_7 : decode cX1_set 7 = .ok (.iload_n 1, 1) := by decide +kernel
theorem dX1_set_8 : decode cX1_set 8 = .ok (.iload_n 2, 1) := by decide +kernel
theorem dX1_set_9 : decode cX1_set 9 = .ok (.invokevirtual 57, 3) := by decide +kernel
theorem dX1_set_12 : decode cX1_set 12 = .ok (.ireturn, 1) := by decide +kernel
theorem dX9_nextByte_0 : decode cX9_nextByte 0 = .ok (.aload_n 0, 1) := by decide +kernel
theorem dX9_nextByte_1 : decode cX9_nextByte 1 = .ok (.getfield 42, 3) := by decide +kernel
theorem dX9_nextByte_4 : decode cX9_nextByte 4 = .ok (.aload_n 0, 1) := by decide +kernel
theorem dX9_nextByte_5 : decode cX9_nextByte 5 = .ok (.getfield 10, 3) := by decide +kernel
theorem dX9_nextByte_8 : decode cX9_nextByte 8 = .ok (.getfield 64, 3) := by decide +kernel
theorem dX9_nextByte_11 : decode cX9_nextByte 11 = .ok (.invokevirtual 190, 3) := by decide +kernel
theorem dX9_nextByte_14 : decode cX9_nextByte 14 = .ok (.istore_n 1, 1) := by decide +kernel
theorem dX9_nextByte_15 : decode cX9_nextByte 15 = .ok (.aload_n 0, 1) := by decide +kernel
theorem dX9_nextByte_16 : decode cX9_nextByte 16 = .ok (.getfield 10, 3) := by decide +kernel
theorem dX9_nextByte_19 : decode cX9_nextByte 19 = .ok (.aload_n 0, 1) := by decide +kernel
theorem dX9_nextByte_20 : decode cX9_nextByte 20 = .ok (.getfield 10, 3) := by decide +kernel
theorem dX9_nextByte_23 : decode cX9_nextByte 23 = .ok (.getfield 64, 3) := by decide +kernel
theorem dX9_nextByte_26 : decode cX9_nextByte 26 = .ok (.iconst 1, 1) := by decide +kernel
theorem dX9_nextByte_27 : decode cX9_nextByte 27 = .ok (.iadd, 1) := by decide +kernel
theorem dX9_nextByte_28 : decode cX9_nextByte 28 = .ok (.ldc 171, 2) := by decide +kernel
theorem dX9_nextByte_30 : decode cX9_nextByte 30 = .ok (.iand, 1) := by decide +kernel
theorem dX9_nextByte_31 : decode cX9_nextByte 31 = .ok (.putfield 64, 3) := by decide +kernel
theorem dX9_nextByte_34 : decode cX9_nextByte 34 = .ok (.iload_n 1, 1) := by decide +kernel
theorem dX9_nextByte_35 : decode cX9_nextByte 35 = .ok (.ireturn, 1) := by decide +kernel
theorem dX10_exchange_0 : decode cX10_exchange 0 = .ok (.aload_n 0, 1) := by decide +kernel
theorem dX10_exchange_1 : decode cX10_exchange 1 = .ok (.getfield 12, 3) := by decide +kernel
theorem dX10_exchange_4 : decode cX10_exchange 4 = .ok (.iload_n 1, 1) := by decide +kernel
theorem dX10_exchange_5 : decode cX10_exchange 5 = .ok (.invokevirtual 32, 3) := by decide +kernel
theorem dX10_exchange_8 : decode cX10_exchange 8 = .ok (.istore_n 2, 1) := by decide +kernel
theorem dX10_exchange_9 : decode cX10_exchange 9 = .ok (.aload_n 0, 1) := by decide +kernel
theorem dX10_exchange_10 : decode cX10_exchange 10 = .ok (.getfield 12, 3) := by decide +kernel
theorem dX10_exchange_13 : decode cX10_exchange 13 = .ok (.iload_n 1, 1) := by decide +kernel
theorem dX10_exchange_14 : decode cX10_exchange 14 = .ok (.aload_n 0, 1) := by decide +kernel
theorem dX10_exchange_15 : decode cX10_exchange 15 = .ok (.getfield 18, 3) := by decide +kernel
theorem dX10_exchange_18 : decode cX10_exchange 18 = .ok (.iload_n 1, 1) := by decide +kernel
theorem dX10_exchange_19 : decode cX10_exchange 19 = .ok (.invokevirtual 32, 3) := by decide +kernel
theorem dX10_exchange_22 : decode cX10_exchange 22 = .ok (.invokevirtual 36, 3) := by decide +kernel
theorem dX10_exchange_25 : decode cX10_exchange 25 = .ok (.aload_n 0, 1) := by decide +kernel
theorem dX10_exchange_26 : decode cX10_exchange 26 = .ok (.getfield 18, 3) := by decide +kernel
theorem dX10_exchange_29 : decode cX10_exchange 29 = .ok (.iload_n 1, 1) := by decide +kernel
theorem dX10_exchange_30 : decode cX10_exchange 30 = .ok (.iload_n 2, 1) := by decide +kernel
theorem dX10_exchange_31 : decode cX10_exchange 31 = .ok (.invokevirtual 36, 3) := by decide +kernel
theorem dX10_exchange_34 : decode cX10_exchange 34 = .ok (.return_, 1) := by decide +kernel
theorem dX9_goOn_0 : decode cX9_goOn 0 = .ok (.aload_n 0, 1) := by decide +kernel
theorem dX9_goOn_1 : decode cX9_goOn 1 = .ok (.invokevirtual 67, 3) := by decide +kernel
theorem dX9_goOn_4 : decode cX9_goOn 4 = .ok (.i2b, 1) := by decide +kernel
theorem dX9_goOn_5 : decode cX9_goOn 5 = .ok (.istore_n 2, 1) := by decide +kernel
theorem dX9_goOn_6 : decode cX9_goOn 6 = .ok (.iload_n 1, 1) := by decide +kernel
theorem dX9_goOn_7 : decode cX9_goOn 7 = .ok (.ifCond .ne 6, 3) := by decide +kernel
theorem dX9_goOn_10 : decode cX9_goOn 10 = .ok (.bipush 7, 2) := by decide +kernel
theorem dX9_goOn_12 : decode cX9_goOn 12 = .ok (.ireturn, 1) := by decide +kernel
theorem dX9_goOn_13 : decode cX9_goOn 13 = .ok (.aload_n 0, 1) := by decide +kernel
theorem dX9_goOn_14 : decode cX9_goOn 14 = .ok (.getfield 10, 3) := by decide +kernel
theorem dX9_goOn_17 : decode cX9_goOn 17 = .ok (.aload_n 0, 1) := by decide +kernel
theorem dX9_goOn_18 : decode cX9_goOn 18 = .ok (.getfield 10, 3) := by decide +kernel
theorem dX9_goOn_21 : decode cX9_goOn 21 = .ok (.getfield 64, 3) := by decide +kernel
theorem dX9_goOn_24 : decode cX9_goOn 24 = .ok (.iload_n 2, 1) := by decide +kernel
theorem dX9_goOn_25 : decode cX9_goOn 25 = .ok (.iadd, 1) := by decide +kernel
theorem dX9_goOn_26 : decode cX9_goOn 26 = .ok (.ldc 171, 2) := by decide +kernel
theorem dX9_goOn_28 : decode cX9_goOn 28 = .ok (.iand, 1) := by decide +kernel
theorem dX9_goOn_29 : decode cX9_goOn 29 = .ok (.putfield 64, 3) := by decide +kernel
theorem dX9_goOn_32 : decode cX9_goOn 32 = .ok (.bipush 12, 2) := by decide +kernel
theorem dX9_goOn_34 : decode cX9_goOn 34 = .ok (.ireturn, 1) := by decide +kernel
theorem dX9_condition_0 : decode cX9_condition 0 = .ok (.iload_n 1, 1) := by decide +kernel
theorem dX9_condition_1 : decode cX9_condition 1 = .ok (.iconst 1, 1) := by decide +kernel
theorem dX9_condition_2 : decode cX9_condition 2 = .ok (.ishr, 1) := by decide +kernel
theorem dX9_condition_3 : decode cX9_condition 3 = .ok (.tableswitch 41 0 2 #[25, 31, 36], 25) := by decide +kernel
theorem dX9_condition_28 : decode cX9_condition 28 = .ok (.bipush 64, 2) := by decide +kernel
theorem dX9_condition_30 : decode cX9_condition 30 = .ok (.istore_n 2, 1) := by decide +kernel
theorem dX9_condition_31 : decode cX9_condition 31 = .ok (.goto 17, 3) := by decide +kernel
theorem dX9_condition_34 : decode cX9_condition 34 = .ok (.iconst 1, 1) := by decide +kernel
theorem dX9_condition_35 : decode cX9_condition 35 = .ok (.istore_n 2, 1) := by decide +kernel
theorem dX9_condition_36 : decode cX9_condition 36 = .ok (.goto 12, 3) := by decide +kernel
theorem dX9_condition_39 : decode cX9_condition 39 = .ok (.iconst 4, 1) := by decide +kernel
theorem dX9_condition_40 : decode cX9_condition 40 = .ok (.istore_n 2, 1) := by decide +kernel
theorem dX9_condition_41 : decode cX9_condition 41 = .ok (.goto 7, 3) := by decide +kernel
theorem dX9_condition_44 : decode cX9_condition 44 = .ok (.sipush 128, 3) := by decide +kernel
theorem dX9_condition_47 : decode cX9_condition 47 = .ok (.istore_n 2, 1) := by decide +kernel
theorem dX9_condition_48 : decode cX9_condition 48 = .ok (.aload_n 0, 1) := by decide +kernel
theorem dX9_condition_49 : decode cX9_condition 49 = .ok (.getfield 61, 3) := by decide +kernel
theorem dX9_condition_52 : decode cX9_condition 52 = .ok (.bipush 6, 2) := by decide +kernel
theorem dX9_condition_54 : decode cX9_condition 54 = .ok (.iaload, 1) := by decide +kernel
theorem dX9_condition_55 : decode cX9_condition 55 = .ok (.iload_n 2, 1) := by decide +kernel
theorem dX9_condition_56 : decode cX9_condition 56 = .ok (.iand, 1) := by decide +kernel
theorem dX9_condition_57 : decode cX9_condition 57 = .ok (.ifCond .eq 7, 3) := by decide +kernel
theorem dX9_condition_60 : decode cX9_condition 60 = .ok (.iconst 1, 1) := by decide +kernel
theorem dX9_condition_61 : decode cX9_condition 61 = .ok (.goto 4, 3) := by decide +kernel
theorem dX9_condition_64 : decode cX9_condition 64 = .ok (.iconst 0, 1) := by decide +kernel
theorem dX9_condition_65 : decode cX9_condition 65 = .ok (.istore_n 3, 1) := by decide +kernel
theorem dX9_condition_66 : decode cX9_condition 66 = .ok (.iload_n 3, 1) := by decide +kernel
theorem dX9_condition_67 : decode cX9_condition 67 = .ok (.iload_n 1, 1) := by decide +kernel
theorem dX9_condition_68 : decode cX9_condition 68 = .ok (.iconst 1, 1) := by decide +kernel
theorem dX9_condition_69 : decode cX9_condition 69 = .ok (.iand, 1) := by decide +kernel
theorem dX9_condition_70 : decode cX9_condition 70 = .ok (.ifCond .eq 7, 3) := by decide +kernel
theorem dX9_condition_73 : decode cX9_condition 73 = .ok (.iconst 1, 1) := by decide +kernel
theorem dX9_condition_74 : decode cX9_condition 74 = .ok (.goto 4, 3) := by decide +kernel
theorem dX9_condition_77 : decode cX9_condition 77 = .ok (.iconst 0, 1) := by decide +kernel
theorem dX9_condition_78 : decode cX9_condition 78 = .ok (.if_icmp .ne 7, 3) := by decide +kernel
theorem dX9_condition_81 : decode cX9_condition 81 = .ok (.iconst 1, 1) := by decide +kernel
theorem dX9_condition_82 : decode cX9_condition 82 = .ok (.goto 4, 3) := by decide +kernel
theorem dX9_condition_85 : decode cX9_condition 85 = .ok (.iconst 0, 1) := by decide +kernel
theorem dX9_condition_86 : decode cX9_condition 86 = .ok (.ireturn, 1) := by decide +kernel
theorem dX9_relative_0 : decode cX9_relative 0 = .ok (.iload_n 1, 1) := by decide +kernel
theorem dX9_relative_1 : decode cX9_relative 1 = .ok (.tableswitch 88 0 3 #[31, 33, 43, 82], 31) := by decide +kernel
theorem dX9_relative_32 : decode cX9_relative 32 = .ok (.iconst 4, 1) := by decide +kernel
theorem dX9_relative_33 : decode cX9_relative 33 = .ok (.ireturn, 1) := by decide +kernel
theorem dX9_relative_34 : decode cX9_relative 34 = .ok (.aload_n 0, 1) := by decide +kernel
theorem dX9_relative_35 : decode cX9_relative 35 = .ok (.getfield 10, 3) := by decide +kernel
theorem dX9_relative_38 : decode cX9_relative 38 = .ok (.iconst 3, 1) := by decide +kernel
theorem dX9_relative_39 : decode cX9_relative 39 = .ok (.invokevirtual 160, 3) := by decide +kernel
theorem dX9_relative_42 : decode cX9_relative 42 = .ok (.iconst 4, 1) := by decide +kernel
theorem dX9_relative_43 : decode cX9_relative 43 = .ok (.ireturn, 1) := by decide +kernel
theorem dX9_relative_44 : decode cX9_relative 44 = .ok (.aload_n 0, 1) := by decide +kernel
theorem dX9_relative_45 : decode cX9_relative 45 = .ok (.getfield 61, 3) := by decide +kernel
theorem dX9_relative_48 : decode cX9_relative 48 = .ok (.iconst 0, 1) := by decide +kernel
theorem dX9_relative_49 : decode cX9_relative 49 = .ok (.aload_n 0, 1) := by decide +kernel
theorem dX9_relative_50 : decode cX9_relative 50 = .ok (.getfield 61, 3) := by decide +kernel
theorem dX9_relative_53 : decode cX9_relative 53 = .ok (.iconst 0, 1) := by decide +kernel
theorem dX9_relative_54 : decode cX9_relative 54 = .ok (.iaload, 1) := by decide +kernel
theorem dX9_relative_55 : decode cX9_relative 55 = .ok (.iconst 1, 1) := by decide +kernel
theorem dX9_relative_56 : decode cX9_relative 56 = .ok (.isub, 1) := by decide +kernel
theorem dX9_relative_57 : decode cX9_relative 57 = .ok (.sipush 255, 3) := by decide +kernel
theorem dX9_relative_60 : decode cX9_relative 60 = .ok (.iand, 1) := by decide +kernel
theorem dX9_relative_61 : decode cX9_relative 61 = .ok (.iastore, 1) := by decide +kernel
theorem dX9_relative_62 : decode cX9_relative 62 = .ok (.aload_n 0, 1) := by decide +kernel
theorem dX9_relative_63 : decode cX9_relative 63 = .ok (.aload_n 0, 1) := by decide +kernel
theorem dX9_relative_64 : decode cX9_relative 64 = .ok (.getfield 61, 3) := by decide +kernel
theorem dX9_relative_67 : decode cX9_relative 67 = .ok (.iconst 0, 1) := by decide +kernel
theorem dX9_relative_68 : decode cX9_relative 68 = .ok (.iaload, 1) := by decide +kernel
theorem dX9_relative_69 : decode cX9_relative 69 = .ok (.ifCond .eq 7, 3) := by decide +kernel
theorem dX9_relative_72 : decode cX9_relative 72 = .ok (.iconst 1, 1) := by decide +kernel
theorem dX9_relative_73 : decode cX9_relative 73 = .ok (.goto 4, 3) := by decide +kernel
theorem dX9_relative_76 : decode cX9_relative 76 = .ok (.iconst 0, 1) := by decide +kernel
theorem dX9_relative_77 : decode cX9_relative 77 = .ok (.invokevirtual 163, 3) := by decide +kernel
theorem dX9_relative_80 : decode cX9_relative 80 = .ok (.iconst 1, 1) := by decide +kernel
theorem dX9_relative_81 : decode cX9_relative 81 = .ok (.iadd, 1) := by decide +kernel
theorem dX9_relative_82 : decode cX9_relative 82 = .ok (.ireturn, 1) := by decide +kernel
theorem dX9_relative_83 : decode cX9_relative 83 = .ok (.aload_n 0, 1) := by decide +kernel
theorem dX9_relative_84 : decode cX9_relative 84 = .ok (.iconst 1, 1) := by decide +kernel
theorem dX9_relative_85 : decode cX9_relative 85 = .ok (.invokevirtual 163, 3) := by decide +kernel
theorem dX9_relative_88 : decode cX9_relative 88 = .ok (.ireturn, 1) := by decide +kernel
theorem dX9_relative_89 : decode cX9_relative 89 = .ok (.aload_n 0, 1) := by decide +kernel
theorem dX9_relative_90 : decode cX9_relative 90 = .ok (.aload_n 0, 1) := by decide +kernel
theorem dX9_relative_91 : decode cX9_relative 91 = .ok (.iload_n 1, 1) := by decide +kernel
theorem dX9_relative_92 : decode cX9_relative 92 = .ok (.iconst 3, 1) := by decide +kernel
theorem dX9_relative_93 : decode cX9_relative 93 = .ok (.iand, 1) := by decide +kernel
theorem dX9_relative_94 : decode cX9_relative 94 = .ok (.invokevirtual 167, 3) := by decide +kernel
theorem dX9_relative_97 : decode cX9_relative 97 = .ok (.invokevirtual 163, 3) := by decide +kernel
theorem dX9_relative_100 : decode cX9_relative 100 = .ok (.ireturn, 1) := by decide +kernel
theorem dX9_nextWord_0 : decode cX9_nextWord 0 = .ok (.aload_n 0, 1) := by decide +kernel
theorem dX9_nextWord_1 : decode cX9_nextWord 1 = .ok (.invokevirtual 67, 3) := by decide +kernel
theorem dX9_nextWord_4 : decode cX9_nextWord 4 = .ok (.istore_n 1, 1) := by decide +kernel
theorem dX9_nextWord_5 : decode cX9_nextWord 5 = .ok (.iload_n 1, 1) := by decide +kernel
theorem dX9_nextWord_6 : decode cX9_nextWord 6 = .ok (.aload_n 0, 1) := by decide +kernel
theorem dX9_nextWord_7 : decode cX9_nextWord 7 = .ok (.invokevirtual 67, 3) := by decide +kernel
theorem dX9_nextWord_10 : decode cX9_nextWord 10 = .ok (.bipush 8, 2) := by decide +kernel
theorem dX9_nextWord_12 : decode cX9_nextWord 12 = .ok (.ishl, 1) := by decide +kernel
theorem dX9_nextWord_13 : decode cX9_nextWord 13 = .ok (.ior, 1) := by decide +kernel
theorem dX9_nextWord_14 : decode cX9_nextWord 14 = .ok (.ireturn, 1) := by decide +kernel
theorem dX9_putWide_0 : decode cX9_putWide 0 = .ok (.iload_n 1, 1) := by decide +kernel
theorem dX9_putWide_1 : decode cX9_putWide 1 = .ok (.iconst 3, 1) := by decide +kernel
theorem dX9_putWide_2 : decode cX9_putWide 2 = .ok (.if_icmp .ne 17, 3) := by decide +kernel
theorem dX9_putWide_5 : decode cX9_putWide 5 = .ok (.aload_n 0, 1) := by decide +kernel
theorem dX9_putWide_6 : decode cX9_putWide 6 = .ok (.getfield 10, 3) := by decide +kernel
theorem dX9_putWide_9 : decode cX9_putWide 9 = .ok (.iload_n 2, 1) := by decide +kernel
theorem dX9_putWide_10 : decode cX9_putWide 10 = .ok (.ldc 171, 2) := by decide +kernel
theorem dX9_putWide_12 : decode cX9_putWide 12 = .ok (.iand, 1) := by decide +kernel
theorem dX9_putWide_13 : decode cX9_putWide 13 = .ok (.putfield 214, 3) := by decide +kernel
theorem dX9_putWide_16 : decode cX9_putWide 16 = .ok (.goto 12, 3) := by decide +kernel
theorem dX9_putWide_19 : decode cX9_putWide 19 = .ok (.aload_n 0, 1) := by decide +kernel
theorem dX9_putWide_20 : decode cX9_putWide 20 = .ok (.getfield 54, 3) := by decide +kernel
theorem dX9_putWide_23 : decode cX9_putWide 23 = .ok (.iload_n 1, 1) := by decide +kernel
theorem dX9_putWide_24 : decode cX9_putWide 24 = .ok (.iload_n 2, 1) := by decide +kernel
theorem dX9_putWide_25 : decode cX9_putWide 25 = .ok (.invokevirtual 181, 3) := by decide +kernel
theorem dX9_putWide_28 : decode cX9_putWide 28 = .ok (.return_, 1) := by decide +kernel
theorem dX9_wide_0 : decode cX9_wide 0 = .ok (.iload_n 1, 1) := by decide +kernel
theorem dX9_wide_1 : decode cX9_wide 1 = .ok (.iconst 3, 1) := by decide +kernel
theorem dX9_wide_2 : decode cX9_wide 2 = .ok (.if_icmp .ne 13, 3) := by decide +kernel
theorem dX9_wide_5 : decode cX9_wide 5 = .ok (.aload_n 0, 1) := by decide +kernel
theorem dX9_wide_6 : decode cX9_wide 6 = .ok (.getfield 10, 3) := by decide +kernel
theorem dX9_wide_9 : decode cX9_wide 9 = .ok (.getfield 214, 3) := by decide +kernel
theorem dX9_wide_12 : decode cX9_wide 12 = .ok (.goto 11, 3) := by decide +kernel
theorem dX9_wide_15 : decode cX9_wide 15 = .ok (.aload_n 0, 1) := by decide +kernel
theorem dX9_wide_16 : decode cX9_wide 16 = .ok (.getfield 54, 3) := by decide +kernel
theorem dX9_wide_19 : decode cX9_wide 19 = .ok (.iload_n 1, 1) := by decide +kernel
theorem dX9_wide_20 : decode cX9_wide 20 = .ok (.invokevirtual 175, 3) := by decide +kernel
theorem dX9_wide_23 : decode cX9_wide 23 = .ok (.ireturn, 1) := by decide +kernel
theorem dX6_wordSignAndZero_0 : decode cX6_wordSignAndZero 0 = .ok (.iload_n 0, 1) := by decide +kernel
theorem dX6_wordSignAndZero_1 : decode cX6_wordSignAndZero 1 = .ok (.bipush 8, 2) := by decide +kernel
theorem dX6_wordSignAndZero_3 : decode cX6_wordSignAndZero 3 = .ok (.ishr, 1) := by decide +kernel
theorem dX6_wordSignAndZero_4 : decode cX6_wordSignAndZero 4 = .ok (.sipush 128, 3) := by decide +kernel
theorem dX6_wordSignAndZero_7 : decode cX6_wordSignAndZero 7 = .ok (.iand, 1) := by decide +kernel
theorem dX6_wordSignAndZero_8 : decode cX6_wordSignAndZero 8 = .ok (.iload_n 0, 1) := by decide +kernel
theorem dX6_wordSignAndZero_9 : decode cX6_wordSignAndZero 9 = .ok (.ifCond .ne 8, 3) := by decide +kernel
theorem dX6_wordSignAndZero_12 : decode cX6_wordSignAndZero 12 = .ok (.bipush 64, 2) := by decide +kernel
theorem dX6_wordSignAndZero_14 : decode cX6_wordSignAndZero 14 = .ok (.goto 4, 3) := by decide +kernel
theorem dX6_wordSignAndZero_17 : decode cX6_wordSignAndZero 17 = .ok (.iconst 0, 1) := by decide +kernel
theorem dX6_wordSignAndZero_18 : decode cX6_wordSignAndZero 18 = .ok (.ior, 1) := by decide +kernel
theorem dX6_wordSignAndZero_19 : decode cX6_wordSignAndZero 19 = .ok (.ireturn, 1) := by decide +kernel
theorem dX6_addWords_0 : decode cX6_addWords 0 = .ok (.iload_n 0, 1) := by decide +kernel
theorem dX6_addWords_1 : decode cX6_addWords 1 = .ok (.iload_n 1, 1) := by decide +kernel
theorem dX6_addWords_2 : decode cX6_addWords 2 = .ok (.iadd, 1) := by decide +kernel
theorem dX6_addWords_3 : decode cX6_addWords 3 = .ok (.iload_n 2, 1) := by decide +kernel
theorem dX6_addWords_4 : decode cX6_addWords 4 = .ok (.iadd, 1) := by decide +kernel
theorem dX6_addWords_5 : decode cX6_addWords 5 = .ok (.istore_n 3, 1) := by decide +kernel
theorem dX6_addWords_6 : decode cX6_addWords 6 = .ok (.iload_n 3, 1) := by decide +kernel
theorem dX6_addWords_7 : decode cX6_addWords 7 = .ok (.ldc 13, 2) := by decide +kernel
theorem dX6_addWords_9 : decode cX6_addWords 9 = .ok (.iand, 1) := by decide +kernel
theorem dX6_addWords_10 : decode cX6_addWords 10 = .ok (.istore 4, 2) := by decide +kernel
theorem dX6_addWords_12 : decode cX6_addWords 12 = .ok (.iload_n 0, 1) := by decide +kernel
theorem dX6_addWords_13 : decode cX6_addWords 13 = .ok (.iload_n 1, 1) := by decide +kernel
theorem dX6_addWords_14 : decode cX6_addWords 14 = .ok (.ixor, 1) := by decide +kernel
theorem dX6_addWords_15 : decode cX6_addWords 15 = .ok (.iload_n 3, 1) := by decide +kernel
theorem dX6_addWords_16 : decode cX6_addWords 16 = .ok (.ixor, 1) := by decide +kernel
theorem dX6_addWords_17 : decode cX6_addWords 17 = .ok (.bipush 8, 2) := by decide +kernel
theorem dX6_addWords_19 : decode cX6_addWords 19 = .ok (.ishr, 1) := by decide +kernel
theorem dX6_addWords_20 : decode cX6_addWords 20 = .ok (.bipush 16, 2) := by decide +kernel
theorem dX6_addWords_22 : decode cX6_addWords 22 = .ok (.iand, 1) := by decide +kernel
theorem dX6_addWords_23 : decode cX6_addWords 23 = .ok (.istore 5, 2) := by decide +kernel
theorem dX6_addWords_25 : decode cX6_addWords 25 = .ok (.iload_n 0, 1) := by decide +kernel
theorem dX6_addWords_26 : decode cX6_addWords 26 = .ok (.iload_n 3, 1) := by decide +kernel
theorem dX6_addWords_27 : decode cX6_addWords 27 = .ok (.ixor, 1) := by decide +kernel
theorem dX6_addWords_28 : decode cX6_addWords 28 = .ok (.iload_n 1, 1) := by decide +kernel
theorem dX6_addWords_29 : decode cX6_addWords 29 = .ok (.iload_n 3, 1) := by decide +kernel
theorem dX6_addWords_30 : decode cX6_addWords 30 = .ok (.ixor, 1) := by decide +kernel
theorem dX6_addWords_31 : decode cX6_addWords 31 = .ok (.iand, 1) := by decide +kernel
theorem dX6_addWords_32 : decode cX6_addWords 32 = .ok (.ldc 14, 2) := by decide +kernel
theorem dX6_addWords_34 : decode cX6_addWords 34 = .ok (.iand, 1) := by decide +kernel
theorem dX6_addWords_35 : decode cX6_addWords 35 = .ok (.bipush 13, 2) := by decide +kernel
theorem dX6_addWords_37 : decode cX6_addWords 37 = .ok (.ishr, 1) := by decide +kernel
theorem dX6_addWords_38 : decode cX6_addWords 38 = .ok (.istore 6, 2) := by decide +kernel
theorem dX6_addWords_40 : decode cX6_addWords 40 = .ok (.iload 4, 2) := by decide +kernel
theorem dX6_addWords_42 : decode cX6_addWords 42 = .ok (.bipush 8, 2) := by decide +kernel
theorem dX6_addWords_44 : decode cX6_addWords 44 = .ok (.ishl, 1) := by decide +kernel
theorem dX6_addWords_45 : decode cX6_addWords 45 = .ok (.iload 4, 2) := by decide +kernel
theorem dX6_addWords_47 : decode cX6_addWords 47 = .ok (.invokestatic 15, 3) := by decide +kernel
theorem dX6_addWords_50 : decode cX6_addWords 50 = .ok (.ior, 1) := by decide +kernel
theorem dX6_addWords_51 : decode cX6_addWords 51 = .ok (.iload 5, 2) := by decide +kernel
theorem dX6_addWords_53 : decode cX6_addWords 53 = .ok (.ior, 1) := by decide +kernel
theorem dX6_addWords_54 : decode cX6_addWords 54 = .ok (.iload 6, 2) := by decide +kernel
theorem dX6_addWords_56 : decode cX6_addWords 56 = .ok (.ior, 1) := by decide +kernel
theorem dX6_addWords_57 : decode cX6_addWords 57 = .ok (.iload_n 3, 1) := by decide +kernel
theorem dX6_addWords_58 : decode cX6_addWords 58 = .ok (.bipush 16, 2) := by decide +kernel
theorem dX6_addWords_60 : decode cX6_addWords 60 = .ok (.ishr, 1) := by decide +kernel
theorem dX6_addWords_61 : decode cX6_addWords 61 = .ok (.ior, 1) := by decide +kernel
theorem dX6_addWords_62 : decode cX6_addWords 62 = .ok (.ireturn, 1) := by decide +kernel
theorem dX9_changeFlags_0 : decode cX9_changeFlags 0 = .ok (.aload_n 0, 1) := by decide +kernel
theorem dX9_changeFlags_1 : decode cX9_changeFlags 1 = .ok (.getfield 61, 3) := by decide +kernel
theorem dX9_changeFlags_4 : decode cX9_changeFlags 4 = .ok (.bipush 6, 2) := by decide +kernel
theorem dX9_changeFlags_6 : decode cX9_changeFlags 6 = .ok (.aload_n 0, 1) := by decide +kernel
theorem dX9_changeFlags_7 : decode cX9_changeFlags 7 = .ok (.getfield 61, 3) := by decide +kernel
theorem dX9_changeFlags_10 : decode cX9_changeFlags 10 = .ok (.bipush 6, 2) := by decide +kernel
theorem dX9_changeFlags_12 : decode cX9_changeFlags 12 = .ok (.iaload, 1) := by decide +kernel
theorem dX9_changeFlags_13 : decode cX9_changeFlags 13 = .ok (.iload_n 1, 1) := by decide +kernel
theorem dX9_changeFlags_14 : decode cX9_changeFlags 14 = .ok (.iconst (-1), 1) := by decide +kernel
theorem dX9_changeFlags_15 : decode cX9_changeFlags 15 = .ok (.ixor, 1) := by decide +kernel
theorem dX9_changeFlags_16 : decode cX9_changeFlags 16 = .ok (.iand, 1) := by decide +kernel
theorem dX9_changeFlags_17 : decode cX9_changeFlags 17 = .ok (.iload_n 2, 1) := by decide +kernel
theorem dX9_changeFlags_18 : decode cX9_changeFlags 18 = .ok (.iload_n 1, 1) := by decide +kernel
theorem dX9_changeFlags_19 : decode cX9_changeFlags 19 = .ok (.iand, 1) := by decide +kernel
theorem dX9_changeFlags_20 : decode cX9_changeFlags 20 = .ok (.ior, 1) := by decide +kernel
theorem dX9_changeFlags_21 : decode cX9_changeFlags 21 = .ok (.iastore, 1) := by decide +kernel
theorem dX9_changeFlags_22 : decode cX9_changeFlags 22 = .ok (.return_, 1) := by decide +kernel
theorem dX9_wordLoadOrSum_0 : decode cX9_wordLoadOrSum 0 = .ok (.iload_n 1, 1) := by decide +kernel
theorem dX9_wordLoadOrSum_1 : decode cX9_wordLoadOrSum 1 = .ok (.bipush 8, 2) := by decide +kernel
theorem dX9_wordLoadOrSum_3 : decode cX9_wordLoadOrSum 3 = .ok (.iand, 1) := by decide +kernel
theorem dX9_wordLoadOrSum_4 : decode cX9_wordLoadOrSum 4 = .ok (.ifCond .ne 17, 3) := by decide +kernel
theorem dX9_wordLoadOrSum_7 : decode cX9_wordLoadOrSum 7 = .ok (.aload_n 0, 1) := by decide +kernel
theorem dX9_wordLoadOrSum_8 : decode cX9_wordLoadOrSum 8 = .ok (.iload_n 1, 1) := by decide +kernel
theorem dX9_wordLoadOrSum_9 : decode cX9_wordLoadOrSum 9 = .ok (.iconst 4, 1) := by decide +kernel
theorem dX9_wordLoadOrSum_10 : decode cX9_wordLoadOrSum 10 = .ok (.ishr, 1) := by decide +kernel
theorem dX9_wordLoadOrSum_11 : decode cX9_wordLoadOrSum 11 = .ok (.aload_n 0, 1) := by decide +kernel
theorem dX9_wordLoadOrSum_12 : decode cX9_wordLoadOrSum 12 = .ok (.invokevirtual 172, 3) := by decide +kernel
theorem dX9_wordLoadOrSum_15 : decode cX9_wordLoadOrSum 15 = .ok (.invokevirtual 138, 3) := by decide +kernel
theorem dX9_wordLoadOrSum_18 : decode cX9_wordLoadOrSum 18 = .ok (.bipush 10, 2) := by decide +kernel
theorem dX9_wordLoadOrSum_20 : decode cX9_wordLoadOrSum 20 = .ok (.ireturn, 1) := by decide +kernel
theorem dX9_wordLoadOrSum_21 : decode cX9_wordLoadOrSum 21 = .ok (.aload_n 0, 1) := by decide +kernel
theorem dX9_wordLoadOrSum_22 : decode cX9_wordLoadOrSum 22 = .ok (.getfield 54, 3) := by decide +kernel
theorem dX9_wordLoadOrSum_25 : decode cX9_wordLoadOrSum 25 = .ok (.iconst 2, 1) := by decide +kernel
theorem dX9_wordLoadOrSum_26 : decode cX9_wordLoadOrSum 26 = .ok (.invokevirtual 175, 3) := by decide +kernel
theorem dX9_wordLoadOrSum_29 : decode cX9_wordLoadOrSum 29 = .ok (.aload_n 0, 1) := by decide +kernel
theorem dX9_wordLoadOrSum_30 : decode cX9_wordLoadOrSum 30 = .ok (.iload_n 1, 1) := by decide +kernel
theorem dX9_wordLoadOrSum_31 : decode cX9_wordLoadOrSum 31 = .ok (.iconst 4, 1) := by decide +kernel
theorem dX9_wordLoadOrSum_32 : decode cX9_wordLoadOrSum 32 = .ok (.ishr, 1) := by decide +kernel
theorem dX9_wordLoadOrSum_33 : decode cX9_wordLoadOrSum 33 = .ok (.invokevirtual 135, 3) := by decide +kernel
theorem dX9_wordLoadOrSum_36 : decode cX9_wordLoadOrSum 36 = .ok (.iconst 0, 1) := by decide +kernel
theorem dX9_wordLoadOrSum_37 : decode cX9_wordLoadOrSum 37 = .ok (.invokestatic 178, 3) := by decide +kernel
theorem dX9_wordLoadOrSum_40 : decode cX9_wordLoadOrSum 40 = .ok (.istore_n 2, 1) := by decide +kernel
theorem dX9_wordLoadOrSum_41 : decode cX9_wordLoadOrSum 41 = .ok (.aload_n 0, 1) := by decide +kernel
theorem dX9_wordLoadOrSum_42 : decode cX9_wordLoadOrSum 42 = .ok (.getfield 54, 3) := by decide +kernel
theorem dX9_wordLoadOrSum_45 : decode cX9_wordLoadOrSum 45 = .ok (.iconst 2, 1) := by decide +kernel
theorem dX9_wordLoadOrSum_46 : decode cX9_wordLoadOrSum 46 = .ok (.iload_n 2, 1) := by decide +kernel
theorem dX9_wordLoadOrSum_47 : decode cX9_wordLoadOrSum 47 = .ok (.bipush 8, 2) := by decide +kernel
theorem dX9_wordLoadOrSum_49 : decode cX9_wordLoadOrSum 49 = .ok (.ishr, 1) := by decide +kernel
theorem dX9_wordLoadOrSum_50 : decode cX9_wordLoadOrSum 50 = .ok (.invokevirtual 181, 3) := by decide +kernel
theorem dX9_wordLoadOrSum_53 : decode cX9_wordLoadOrSum 53 = .ok (.aload_n 0, 1) := by decide +kernel
theorem dX9_wordLoadOrSum_54 : decode cX9_wordLoadOrSum 54 = .ok (.bipush 19, 2) := by decide +kernel
theorem dX9_wordLoadOrSum_56 : decode cX9_wordLoadOrSum 56 = .ok (.iload_n 2, 1) := by decide +kernel
theorem dX9_wordLoadOrSum_57 : decode cX9_wordLoadOrSum 57 = .ok (.invokevirtual 184, 3) := by decide +kernel
theorem dX9_wordLoadOrSum_60 : decode cX9_wordLoadOrSum 60 = .ok (.bipush 11, 2) := by decide +kernel
theorem dX9_wordLoadOrSum_62 : decode cX9_wordLoadOrSum 62 = .ok (.ireturn, 1) := by decide +kernel
theorem dX7_putWord_0 : decode cX7_putWord 0 = .ok (.aload_n 0, 1) := by decide +kernel
theorem dX7_putWord_1 : decode cX7_putWord 1 = .ok (.iload_n 1, 1) := by decide +kernel
theorem dX7_putWord_2 : decode cX7_putWord 2 = .ok (.iload_n 2, 1) := by decide +kernel
theorem dX7_putWord_3 : decode cX7_putWord 3 = .ok (.invokevirtual 17, 3) := by decide +kernel
theorem dX7_putWord_6 : decode cX7_putWord 6 = .ok (.aload_n 0, 1) := by decide +kernel
theorem dX7_putWord_7 : decode cX7_putWord 7 = .ok (.iload_n 1, 1) := by decide +kernel
theorem dX7_putWord_8 : decode cX7_putWord 8 = .ok (.iconst 1, 1) := by decide +kernel
theorem dX7_putWord_9 : decode cX7_putWord 9 = .ok (.iadd, 1) := by decide +kernel
theorem dX7_putWord_10 : decode cX7_putWord 10 = .ok (.iload_n 2, 1) := by decide +kernel
theorem dX7_putWord_11 : decode cX7_putWord 11 = .ok (.bipush 8, 2) := by decide +kernel
theorem dX7_putWord_13 : decode cX7_putWord 13 = .ok (.ishr, 1) := by decide +kernel
theorem dX7_putWord_14 : decode cX7_putWord 14 = .ok (.invokevirtual 17, 3) := by decide +kernel
theorem dX7_putWord_17 : decode cX7_putWord 17 = .ok (.return_, 1) := by decide +kernel
theorem dX7_wordAt_0 : decode cX7_wordAt 0 = .ok (.aload_n 0, 1) := by decide +kernel
theorem dX7_wordAt_1 : decode cX7_wordAt 1 = .ok (.iload_n 1, 1) := by decide +kernel
theorem dX7_wordAt_2 : decode cX7_wordAt 2 = .ok (.invokevirtual 13, 3) := by decide +kernel
theorem dX7_wordAt_5 : decode cX7_wordAt 5 = .ok (.aload_n 0, 1) := by decide +kernel
theorem dX7_wordAt_6 : decode cX7_wordAt 6 = .ok (.iload_n 1, 1) := by decide +kernel
theorem dX7_wordAt_7 : decode cX7_wordAt 7 = .ok (.iconst 1, 1) := by decide +kernel
theorem dX7_wordAt_8 : decode cX7_wordAt 8 = .ok (.iadd, 1) := by decide +kernel
theorem dX7_wordAt_9 : decode cX7_wordAt 9 = .ok (.invokevirtual 13, 3) := by decide +kernel
theorem dX7_wordAt_12 : decode cX7_wordAt 12 = .ok (.bipush 8, 2) := by decide +kernel
theorem dX7_wordAt_14 : decode cX7_wordAt 14 = .ok (.ishl, 1) := by decide +kernel
theorem dX7_wordAt_15 : decode cX7_wordAt 15 = .ok (.ior, 1) := by decide +kernel
theorem dX7_wordAt_16 : decode cX7_wordAt 16 = .ok (.ireturn, 1) := by decide +kernel
theorem dX9_transfer_0 : decode cX9_transfer 0 = .ok (.iload_n 1, 1) := by decide +kernel
theorem dX9_transfer_1 : decode cX9_transfer 1 = .ok (.tableswitch 162 0 6 #[43, 70, 43, 70, 97, 119, 141], 43) := by decide +kernel
theorem dX9_transfer_44 : decode cX9_transfer 44 = .ok (.aload_n 0, 1) := by decide +kernel
theorem dX9_transfer_45 : decode cX9_transfer 45 = .ok (.getfield 42, 3) := by decide +kernel
theorem dX9_transfer_48 : decode cX9_transfer 48 = .ok (.aload_n 0, 1) := by decide +kernel
theorem dX9_transfer_49 : decode cX9_transfer 49 = .ok (.getfield 54, 3) := by decide +kernel
theorem dX9_transfer_52 : decode cX9_transfer 52 = .ok (.iload_n 1, 1) := by decide +kernel
theorem dX9_transfer_53 : decode cX9_transfer 53 = .ok (.iconst 1, 1) := by decide +kernel
theorem dX9_transfer_54 : decode cX9_transfer 54 = .ok (.ishr, 1) := by decide +kernel
theorem dX9_transfer_55 : decode cX9_transfer 55 = .ok (.invokevirtual 175, 3) := by decide +kernel
theorem dX9_transfer_58 : decode cX9_transfer 58 = .ok (.aload_n 0, 1) := by decide +kernel
theorem dX9_transfer_59 : decode cX9_transfer 59 = .ok (.getfield 61, 3) := by decide +kernel
theorem dX9_transfer_62 : decode cX9_transfer 62 = .ok (.bipush 7, 2) := by decide +kernel
theorem dX9_transfer_64 : decode cX9_transfer 64 = .ok (.iaload, 1) := by decide +kernel
theorem dX9_transfer_65 : decode cX9_transfer 65 = .ok (.invokevirtual 187, 3) := by decide +kernel
theorem dX9_transfer_68 : decode cX9_transfer 68 = .ok (.bipush 7, 2) := by decide +kernel
theorem dX9_transfer_70 : decode cX9_transfer 70 = .ok (.ireturn, 1) := by decide +kernel
theorem dX9_transfer_71 : decode cX9_transfer 71 = .ok (.aload_n 0, 1) := by decide +kernel
theorem dX9_transfer_72 : decode cX9_transfer 72 = .ok (.getfield 61, 3) := by decide +kernel
theorem dX9_transfer_75 : decode cX9_transfer 75 = .ok (.bipush 7, 2) := by decide +kernel
theorem dX9_transfer_77 : decode cX9_transfer 77 = .ok (.aload_n 0, 1) := by decide +kernel
theorem dX9_transfer_78 : decode cX9_transfer 78 = .ok (.getfield 42, 3) := by decide +kernel
theorem dX9_transfer_81 : decode cX9_transfer 81 = .ok (.aload_n 0, 1) := by decide +kernel
theorem dX9_transfer_82 : decode cX9_transfer 82 = .ok (.getfield 54, 3) := by decide +kernel
theorem dX9_transfer_85 : decode cX9_transfer 85 = .ok (.iload_n 1, 1) := by decide +kernel
theorem dX9_transfer_86 : decode cX9_transfer 86 = .ok (.iconst 1, 1) := by decide +kernel
theorem dX9_transfer_87 : decode cX9_transfer 87 = .ok (.ishr, 1) := by decide +kernel
theorem dX9_transfer_88 : decode cX9_transfer 88 = .ok (.invokevirtual 175, 3) := by decide +kernel
theorem dX9_transfer_91 : decode cX9_transfer 91 = .ok (.invokevirtual 190, 3) := by decide +kernel
theorem dX9_transfer_94 : decode cX9_transfer 94 = .ok (.iastore, 1) := by decide +kernel
theorem dX9_transfer_95 : decode cX9_transfer 95 = .ok (.bipush 7, 2) := by decide +kernel
theorem dX9_transfer_97 : decode cX9_transfer 97 = .ok (.ireturn, 1) := by decide +kernel
theorem dX9_transfer_98 : decode cX9_transfer 98 = .ok (.aload_n 0, 1) := by decide +kernel
theorem dX9_transfer_99 : decode cX9_transfer 99 = .ok (.getfield 42, 3) := by decide +kernel
theorem dX9_transfer_102 : decode cX9_transfer 102 = .ok (.aload_n 0, 1) := by decide +kernel
theorem dX9_transfer_103 : decode cX9_transfer 103 = .ok (.invokevirtual 172, 3) := by decide +kernel
theorem dX9_transfer_106 : decode cX9_transfer 106 = .ok (.aload_n 0, 1) := by decide +kernel
theorem dX9_transfer_107 : decode cX9_transfer 107 = .ok (.getfield 54, 3) := by decide +kernel
theorem dX9_transfer_110 : decode cX9_transfer 110 = .ok (.iconst 2, 1) := by decide +kernel
theorem dX9_transfer_111 : decode cX9_transfer 111 = .ok (.invokevirtual 175, 3) := by decide +kernel
theorem dX9_transfer_114 : decode cX9_transfer 114 = .ok (.invokevirtual 193, 3) := by decide +kernel
theorem dX9_transfer_117 : decode cX9_transfer 117 = .ok (.bipush 16, 2) := by decide +kernel
theorem dX9_transfer_119 : decode cX9_transfer 119 = .ok (.ireturn, 1) := by decide +kernel
theorem dX9_transfer_120 : decode cX9_transfer 120 = .ok (.aload_n 0, 1) := by decide +kernel
theorem dX9_transfer_121 : decode cX9_transfer 121 = .ok (.getfield 54, 3) := by decide +kernel
theorem dX9_transfer_124 : decode cX9_transfer 124 = .ok (.iconst 2, 1) := by decide +kernel
theorem dX9_transfer_125 : decode cX9_transfer 125 = .ok (.aload_n 0, 1) := by decide +kernel
theorem dX9_transfer_126 : decode cX9_transfer 126 = .ok (.getfield 42, 3) := by decide +kernel
theorem dX9_transfer_129 : decode cX9_transfer 129 = .ok (.aload_n 0, 1) := by decide +kernel
theorem dX9_transfer_130 : decode cX9_transfer 130 = .ok (.invokevirtual 172, 3) := by decide +kernel
theorem dX9_transfer_133 : decode cX9_transfer 133 = .ok (.invokevirtual 118, 3) := by decide +kernel
theorem dX9_transfer_136 : decode cX9_transfer 136 = .ok (.invokevirtual 181, 3) := by decide +kernel
theorem dX9_transfer_139 : decode cX9_transfer 139 = .ok (.bipush 16, 2) := by decide +kernel
theorem dX9_transfer_141 : decode cX9_transfer 141 = .ok (.ireturn, 1) := by decide +kernel
theorem dX9_transfer_142 : decode cX9_transfer 142 = .ok (.aload_n 0, 1) := by decide +kernel
theorem dX9_transfer_143 : decode cX9_transfer 143 = .ok (.getfield 42, 3) := by decide +kernel
theorem dX9_transfer_146 : decode cX9_transfer 146 = .ok (.aload_n 0, 1) := by decide +kernel
theorem dX9_transfer_147 : decode cX9_transfer 147 = .ok (.invokevirtual 172, 3) := by decide +kernel
theorem dX9_transfer_150 : decode cX9_transfer 150 = .ok (.aload_n 0, 1) := by decide +kernel
theorem dX9_transfer_151 : decode cX9_transfer 151 = .ok (.getfield 61, 3) := by decide +kernel
theorem dX9_transfer_154 : decode cX9_transfer 154 = .ok (.bipush 7, 2) := by decide +kernel
theorem dX9_transfer_156 : decode cX9_transfer 156 = .ok (.iaload, 1) := by decide +kernel
theorem dX9_transfer_157 : decode cX9_transfer 157 = .ok (.invokevirtual 187, 3) := by decide +kernel
theorem dX9_transfer_160 : decode cX9_transfer 160 = .ok (.bipush 13, 2) := by decide +kernel
theorem dX9_transfer_162 : decode cX9_transfer 162 = .ok (.ireturn, 1) := by decide +kernel
theorem dX9_transfer_163 : decode cX9_transfer 163 = .ok (.aload_n 0, 1) := by decide +kernel
theorem dX9_transfer_164 : decode cX9_transfer 164 = .ok (.getfield 61, 3) := by decide +kernel
theorem dX9_transfer_167 : decode cX9_transfer 167 = .ok (.bipush 7, 2) := by decide +kernel
theorem dX9_transfer_169 : decode cX9_transfer 169 = .ok (.aload_n 0, 1) := by decide +kernel
theorem dX9_transfer_170 : decode cX9_transfer 170 = .ok (.getfield 42, 3) := by decide +kernel
theorem dX9_transfer_173 : decode cX9_transfer 173 = .ok (.aload_n 0, 1) := by decide +kernel
theorem dX9_transfer_174 : decode cX9_transfer 174 = .ok (.invokevirtual 172, 3) := by decide +kernel
theorem dX9_transfer_177 : decode cX9_transfer 177 = .ok (.invokevirtual 190, 3) := by decide +kernel
theorem dX9_transfer_180 : decode cX9_transfer 180 = .ok (.iastore, 1) := by decide +kernel
theorem dX9_transfer_181 : decode cX9_transfer 181 = .ok (.bipush 13, 2) := by decide +kernel
theorem dX9_transfer_183 : decode cX9_transfer 183 = .ok (.ireturn, 1) := by decide +kernel
theorem dX9_read_0 : decode cX9_read 0 = .ok (.iload_n 1, 1) := by decide +kernel
theorem dX9_read_1 : decode cX9_read 1 = .ok (.bipush 6, 2) := by decide +kernel
theorem dX9_read_3 : decode cX9_read 3 = .ok (.if_icmp .ne 19, 3) := by decide +kernel
theorem dX9_read_6 : decode cX9_read 6 = .ok (.aload_n 0, 1) := by decide +kernel
theorem dX9_read_7 : decode cX9_read 7 = .ok (.getfield 42, 3) := by decide +kernel
theorem dX9_read_10 : decode cX9_read 10 = .ok (.aload_n 0, 1) := by decide +kernel
theorem dX9_read_11 : decode cX9_read 11 = .ok (.getfield 54, 3) := by decide +kernel
theorem dX9_read_14 : decode cX9_read 14 = .ok (.iconst 2, 1) := by decide +kernel
theorem dX9_read_15 : decode cX9_read 15 = .ok (.invokevirtual 175, 3) := by decide +kernel
theorem dX9_read_18 : decode cX9_read 18 = .ok (.invokevirtual 190, 3) := by decide +kernel
theorem dX9_read_21 : decode cX9_read 21 = .ok (.ireturn, 1) := by decide +kernel
theorem dX9_read_22 : decode cX9_read 22 = .ok (.aload_n 0, 1) := by decide +kernel
theorem dX9_read_23 : decode cX9_read 23 = .ok (.getfield 61, 3) := by decide +kernel
theorem dX9_read_26 : decode cX9_read 26 = .ok (.iload_n 1, 1) := by decide +kernel
theorem dX9_read_27 : decode cX9_read 27 = .ok (.bipush 7, 2) := by decide +kernel
theorem dX9_read_29 : decode cX9_read 29 = .ok (.iand, 1) := by decide +kernel
theorem dX9_read_30 : decode cX9_read 30 = .ok (.iaload, 1) := by decide +kernel
theorem dX9_read_31 : decode cX9_read 31 = .ok (.ireturn, 1) := by decide +kernel
theorem dX6_signAndZero_0 : decode cX6_signAndZero 0 = .ok (.iload_n 0, 1) := by decide +kernel
theorem dX6_signAndZero_1 : decode cX6_signAndZero 1 = .ok (.sipush 128, 3) := by decide +kernel
theorem dX6_signAndZero_4 : decode cX6_signAndZero 4 = .ok (.iand, 1) := by decide +kernel
theorem dX6_signAndZero_5 : decode cX6_signAndZero 5 = .ok (.iload_n 0, 1) := by decide +kernel
theorem dX6_signAndZero_6 : decode cX6_signAndZero 6 = .ok (.ifCond .ne 8, 3) := by decide +kernel
theorem dX6_signAndZero_9 : decode cX6_signAndZero 9 = .ok (.bipush 64, 2) := by decide +kernel
theorem dX6_signAndZero_11 : decode cX6_signAndZero 11 = .ok (.goto 4, 3) := by decide +kernel
theorem dX6_signAndZero_14 : decode cX6_signAndZero 14 = .ok (.iconst 0, 1) := by decide +kernel
theorem dX6_signAndZero_15 : decode cX6_signAndZero 15 = .ok (.ior, 1) := by decide +kernel
theorem dX6_signAndZero_16 : decode cX6_signAndZero 16 = .ok (.ireturn, 1) := by decide +kernel
theorem dX6_add_0 : decode cX6_add 0 = .ok (.iload_n 0, 1) := by decide +kernel
theorem dX6_add_1 : decode cX6_add 1 = .ok (.iload_n 1, 1) := by decide +kernel
theorem dX6_add_2 : decode cX6_add 2 = .ok (.iadd, 1) := by decide +kernel
theorem dX6_add_3 : decode cX6_add 3 = .ok (.iload_n 2, 1) := by decide +kernel
theorem dX6_add_4 : decode cX6_add 4 = .ok (.iadd, 1) := by decide +kernel
theorem dX6_add_5 : decode cX6_add 5 = .ok (.istore_n 3, 1) := by decide +kernel
theorem dX6_add_6 : decode cX6_add 6 = .ok (.iload_n 3, 1) := by decide +kernel
theorem dX6_add_7 : decode cX6_add 7 = .ok (.sipush 255, 3) := by decide +kernel
theorem dX6_add_10 : decode cX6_add 10 = .ok (.iand, 1) := by decide +kernel
theorem dX6_add_11 : decode cX6_add 11 = .ok (.istore 4, 2) := by decide +kernel
theorem dX6_add_13 : decode cX6_add 13 = .ok (.iload_n 0, 1) := by decide +kernel
theorem dX6_add_14 : decode cX6_add 14 = .ok (.iload_n 1, 1) := by decide +kernel
theorem dX6_add_15 : decode cX6_add 15 = .ok (.ixor, 1) := by decide +kernel
theorem dX6_add_16 : decode cX6_add 16 = .ok (.iload_n 3, 1) := by decide +kernel
theorem dX6_add_17 : decode cX6_add 17 = .ok (.ixor, 1) := by decide +kernel
theorem dX6_add_18 : decode cX6_add 18 = .ok (.bipush 16, 2) := by decide +kernel
theorem dX6_add_20 : decode cX6_add 20 = .ok (.iand, 1) := by decide +kernel
theorem dX6_add_21 : decode cX6_add 21 = .ok (.istore 5, 2) := by decide +kernel
theorem dX6_add_23 : decode cX6_add 23 = .ok (.iload_n 0, 1) := by decide +kernel
theorem dX6_add_24 : decode cX6_add 24 = .ok (.iload_n 3, 1) := by decide +kernel
theorem dX6_add_25 : decode cX6_add 25 = .ok (.ixor, 1) := by decide +kernel
theorem dX6_add_26 : decode cX6_add 26 = .ok (.iload_n 1, 1) := by decide +kernel
theorem dX6_add_27 : decode cX6_add 27 = .ok (.iload_n 3, 1) := by decide +kernel
theorem dX6_add_28 : decode cX6_add 28 = .ok (.ixor, 1) := by decide +kernel
theorem dX6_add_29 : decode cX6_add 29 = .ok (.iand, 1) := by decide +kernel
theorem dX6_add_30 : decode cX6_add 30 = .ok (.sipush 128, 3) := by decide +kernel
theorem dX6_add_33 : decode cX6_add 33 = .ok (.iand, 1) := by decide +kernel
theorem dX6_add_34 : decode cX6_add 34 = .ok (.iconst 5, 1) := by decide +kernel
theorem dX6_add_35 : decode cX6_add 35 = .ok (.ishr, 1) := by decide +kernel
theorem dX6_add_36 : decode cX6_add 36 = .ok (.istore 6, 2) := by decide +kernel
theorem dX6_add_38 : decode cX6_add 38 = .ok (.iload 4, 2) := by decide +kernel
theorem dX6_add_40 : decode cX6_add 40 = .ok (.bipush 8, 2) := by decide +kernel
theorem dX6_add_42 : decode cX6_add 42 = .ok (.ishl, 1) := by decide +kernel
theorem dX6_add_43 : decode cX6_add 43 = .ok (.iload 4, 2) := by decide +kernel
theorem dX6_add_45 : decode cX6_add 45 = .ok (.invokestatic 9, 3) := by decide +kernel
theorem dX6_add_48 : decode cX6_add 48 = .ok (.ior, 1) := by decide +kernel
theorem dX6_add_49 : decode cX6_add 49 = .ok (.iload 5, 2) := by decide +kernel
theorem dX6_add_51 : decode cX6_add 51 = .ok (.ior, 1) := by decide +kernel
theorem dX6_add_52 : decode cX6_add 52 = .ok (.iload 6, 2) := by decide +kernel
theorem dX6_add_54 : decode cX6_add 54 = .ok (.ior, 1) := by decide +kernel
theorem dX6_add_55 : decode cX6_add 55 = .ok (.iload_n 3, 1) := by decide +kernel
theorem dX6_add_56 : decode cX6_add 56 = .ok (.bipush 8, 2) := by decide +kernel
theorem dX6_add_58 : decode cX6_add 58 = .ok (.ishr, 1) := by decide +kernel
theorem dX6_add_59 : decode cX6_add 59 = .ok (.ior, 1) := by decide +kernel
theorem dX6_add_60 : decode cX6_add 60 = .ok (.ireturn, 1) := by decide +kernel
theorem dX9_write_0 : decode cX9_write 0 = .ok (.iload_n 1, 1) := by decide +kernel
theorem dX9_write_1 : decode cX9_write 1 = .ok (.bipush 6, 2) := by decide +kernel
theorem dX9_write_3 : decode cX9_write 3 = .ok (.if_icmp .ne 22, 3) := by decide +kernel
theorem dX9_write_6 : decode cX9_write 6 = .ok (.aload_n 0, 1) := by decide +kernel
theorem dX9_write_7 : decode cX9_write 7 = .ok (.getfield 42, 3) := by decide +kernel
theorem dX9_write_10 : decode cX9_write 10 = .ok (.aload_n 0, 1) := by decide +kernel
theorem dX9_write_11 : decode cX9_write 11 = .ok (.getfield 54, 3) := by decide +kernel
theorem dX9_write_14 : decode cX9_write 14 = .ok (.iconst 2, 1) := by decide +kernel
theorem dX9_write_15 : decode cX9_write 15 = .ok (.invokevirtual 175, 3) := by decide +kernel
theorem dX9_write_18 : decode cX9_write 18 = .ok (.iload_n 2, 1) := by decide +kernel
theorem dX9_write_19 : decode cX9_write 19 = .ok (.invokevirtual 187, 3) := by decide +kernel
theorem dX9_write_22 : decode cX9_write 22 = .ok (.goto 13, 3) := by decide +kernel
theorem dX9_write_25 : decode cX9_write 25 = .ok (.aload_n 0, 1) := by decide +kernel
theorem dX9_write_26 : decode cX9_write 26 = .ok (.getfield 61, 3) := by decide +kernel
theorem dX9_write_29 : decode cX9_write 29 = .ok (.iload_n 1, 1) := by decide +kernel
theorem dX9_write_30 : decode cX9_write 30 = .ok (.bipush 7, 2) := by decide +kernel
theorem dX9_write_32 : decode cX9_write 32 = .ok (.iand, 1) := by decide +kernel
theorem dX9_write_33 : decode cX9_write 33 = .ok (.iload_n 2, 1) := by decide +kernel
theorem dX9_write_34 : decode cX9_write 34 = .ok (.iastore, 1) := by decide +kernel
theorem dX9_write_35 : decode cX9_write 35 = .ok (.return_, 1) := by decide +kernel
theorem dX9_step_0 : decode cX9_step 0 = .ok (.aload_n 0, 1) := by decide +kernel
theorem dX9_step_1 : decode cX9_step 1 = .ok (.iload_n 1, 1) := by decide +kernel
theorem dX9_step_2 : decode cX9_step 2 = .ok (.iload_n 2, 1) := by decide +kernel
theorem dX9_step_3 : decode cX9_step 3 = .ok (.bipush 8, 2) := by decide +kernel
theorem dX9_step_5 : decode cX9_step 5 = .ok (.ishr, 1) := by decide +kernel
theorem dX9_step_6 : decode cX9_step 6 = .ok (.invokevirtual 154, 3) := by decide +kernel
theorem dX9_step_9 : decode cX9_step 9 = .ok (.aload_n 0, 1) := by decide +kernel
theorem dX9_step_10 : decode cX9_step 10 = .ok (.sipush 214, 3) := by decide +kernel
theorem dX9_step_13 : decode cX9_step 13 = .ok (.iload_n 2, 1) := by decide +kernel
theorem dX9_step_14 : decode cX9_step 14 = .ok (.invokevirtual 184, 3) := by decide +kernel
theorem dX9_step_17 : decode cX9_step 17 = .ok (.iload_n 1, 1) := by decide +kernel
theorem dX9_step_18 : decode cX9_step 18 = .ok (.bipush 6, 2) := by decide +kernel
theorem dX9_step_20 : decode cX9_step 20 = .ok (.if_icmp .ne 8, 3) := by decide +kernel
theorem dX9_step_23 : decode cX9_step 23 = .ok (.bipush 11, 2) := by decide +kernel
theorem dX9_step_25 : decode cX9_step 25 = .ok (.goto 4, 3) := by decide +kernel
theorem dX9_step_28 : decode cX9_step 28 = .ok (.iconst 4, 1) := by decide +kernel
theorem dX9_step_29 : decode cX9_step 29 = .ok (.ireturn, 1) := by decide +kernel
theorem dX6_subtract_0 : decode cX6_subtract 0 = .ok (.iload_n 0, 1) := by decide +kernel
theorem dX6_subtract_1 : decode cX6_subtract 1 = .ok (.iload_n 1, 1) := by decide +kernel
theorem dX6_subtract_2 : decode cX6_subtract 2 = .ok (.isub, 1) := by decide +kernel
theorem dX6_subtract_3 : decode cX6_subtract 3 = .ok (.iload_n 2, 1) := by decide +kernel
theorem dX6_subtract_4 : decode cX6_subtract 4 = .ok (.isub, 1) := by decide +kernel
theorem dX6_subtract_5 : decode cX6_subtract 5 = .ok (.istore_n 3, 1) := by decide +kernel
theorem dX6_subtract_6 : decode cX6_subtract 6 = .ok (.iload_n 3, 1) := by decide +kernel
theorem dX6_subtract_7 : decode cX6_subtract 7 = .ok (.sipush 255, 3) := by decide +kernel
theorem dX6_subtract_10 : decode cX6_subtract 10 = .ok (.iand, 1) := by decide +kernel
theorem dX6_subtract_11 : decode cX6_subtract 11 = .ok (.istore 4, 2) := by decide +kernel
theorem dX6_subtract_13 : decode cX6_subtract 13 = .ok (.iload_n 0, 1) := by decide +kernel
theorem dX6_subtract_14 : decode cX6_subtract 14 = .ok (.iload_n 1, 1) := by decide +kernel
theorem dX6_subtract_15 : decode cX6_subtract 15 = .ok (.ixor, 1) := by decide +kernel
theorem dX6_subtract_16 : decode cX6_subtract 16 = .ok (.iload_n 3, 1) := by decide +kernel
theorem dX6_subtract_17 : decode cX6_subtract 17 = .ok (.ixor, 1) := by decide +kernel
theorem dX6_subtract_18 : decode cX6_subtract 18 = .ok (.bipush 16, 2) := by decide +kernel
theorem dX6_subtract_20 : decode cX6_subtract 20 = .ok (.iand, 1) := by decide +kernel
theorem dX6_subtract_21 : decode cX6_subtract 21 = .ok (.istore 5, 2) := by decide +kernel
theorem dX6_subtract_23 : decode cX6_subtract 23 = .ok (.iload_n 0, 1) := by decide +kernel
theorem dX6_subtract_24 : decode cX6_subtract 24 = .ok (.iload_n 1, 1) := by decide +kernel
theorem dX6_subtract_25 : decode cX6_subtract 25 = .ok (.ixor, 1) := by decide +kernel
theorem dX6_subtract_26 : decode cX6_subtract 26 = .ok (.iload_n 0, 1) := by decide +kernel
theorem dX6_subtract_27 : decode cX6_subtract 27 = .ok (.iload_n 3, 1) := by decide +kernel
theorem dX6_subtract_28 : decode cX6_subtract 28 = .ok (.ixor, 1) := by decide +kernel
theorem dX6_subtract_29 : decode cX6_subtract 29 = .ok (.iand, 1) := by decide +kernel
theorem dX6_subtract_30 : decode cX6_subtract 30 = .ok (.sipush 128, 3) := by decide +kernel
theorem dX6_subtract_33 : decode cX6_subtract 33 = .ok (.iand, 1) := by decide +kernel
theorem dX6_subtract_34 : decode cX6_subtract 34 = .ok (.iconst 5, 1) := by decide +kernel
theorem dX6_subtract_35 : decode cX6_subtract 35 = .ok (.ishr, 1) := by decide +kernel
theorem dX6_subtract_36 : decode cX6_subtract 36 = .ok (.istore 6, 2) := by decide +kernel
theorem dX6_subtract_38 : decode cX6_subtract 38 = .ok (.iload 4, 2) := by decide +kernel
theorem dX6_subtract_40 : decode cX6_subtract 40 = .ok (.bipush 8, 2) := by decide +kernel
theorem dX6_subtract_42 : decode cX6_subtract 42 = .ok (.ishl, 1) := by decide +kernel
theorem dX6_subtract_43 : decode cX6_subtract 43 = .ok (.iload 4, 2) := by decide +kernel
theorem dX6_subtract_45 : decode cX6_subtract 45 = .ok (.invokestatic 9, 3) := by decide +kernel
theorem dX6_subtract_48 : decode cX6_subtract 48 = .ok (.ior, 1) := by decide +kernel
theorem dX6_subtract_49 : decode cX6_subtract 49 = .ok (.iload 5, 2) := by decide +kernel
theorem dX6_subtract_51 : decode cX6_subtract 51 = .ok (.ior, 1) := by decide +kernel
theorem dX6_subtract_52 : decode cX6_subtract 52 = .ok (.iload 6, 2) := by decide +kernel
theorem dX6_subtract_54 : decode cX6_subtract 54 = .ok (.ior, 1) := by decide +kernel
theorem dX6_subtract_55 : decode cX6_subtract 55 = .ok (.iconst 2, 1) := by decide +kernel
theorem dX6_subtract_56 : decode cX6_subtract 56 = .ok (.ior, 1) := by decide +kernel
theorem dX6_subtract_57 : decode cX6_subtract 57 = .ok (.iload_n 3, 1) := by decide +kernel
theorem dX6_subtract_58 : decode cX6_subtract 58 = .ok (.bipush 8, 2) := by decide +kernel
theorem dX6_subtract_60 : decode cX6_subtract 60 = .ok (.ishr, 1) := by decide +kernel
theorem dX6_subtract_61 : decode cX6_subtract 61 = .ok (.iconst 1, 1) := by decide +kernel
theorem dX6_subtract_62 : decode cX6_subtract 62 = .ok (.iand, 1) := by decide +kernel
theorem dX6_subtract_63 : decode cX6_subtract 63 = .ok (.ior, 1) := by decide +kernel
theorem dX6_subtract_64 : decode cX6_subtract 64 = .ok (.ireturn, 1) := by decide +kernel
theorem dX13_bitCount_0 : decode cX13_bitCount 0 = .ok (.iload_n 0, 1) := by decide +kernel
theorem dX13_bitCount_1 : decode cX13_bitCount 1 = .ok (.iload_n 0, 1) := by decide +kernel
theorem dX13_bitCount_2 : decode cX13_bitCount 2 = .ok (.iconst 1, 1) := by decide +kernel
theorem dX13_bitCount_3 : decode cX13_bitCount 3 = .ok (.iushr, 1) := by decide +kernel
theorem dX13_bitCount_4 : decode cX13_bitCount 4 = .ok (.ldc_w 265, 3) := by decide +kernel
theorem dX13_bitCount_7 : decode cX13_bitCount 7 = .ok (.iand, 1) := by decide +kernel
theorem dX13_bitCount_8 : decode cX13_bitCount 8 = .ok (.isub, 1) := by decide +kernel
theorem dX13_bitCount_9 : decode cX13_bitCount 9 = .ok (.istore_n 0, 1) := by decide +kernel
theorem dX13_bitCount_10 : decode cX13_bitCount 10 = .ok (.iload_n 0, 1) := by decide +kernel
theorem dX13_bitCount_11 : decode cX13_bitCount 11 = .ok (.ldc_w 266, 3) := by decide +kernel
theorem dX13_bitCount_14 : decode cX13_bitCount 14 = .ok (.iand, 1) := by decide +kernel
theorem dX13_bitCount_15 : decode cX13_bitCount 15 = .ok (.iload_n 0, 1) := by decide +kernel
theorem dX13_bitCount_16 : decode cX13_bitCount 16 = .ok (.iconst 2, 1) := by decide +kernel
theorem dX13_bitCount_17 : decode cX13_bitCount 17 = .ok (.iushr, 1) := by decide +kernel
theorem dX13_bitCount_18 : decode cX13_bitCount 18 = .ok (.ldc_w 266, 3) := by decide +kernel
theorem dX13_bitCount_21 : decode cX13_bitCount 21 = .ok (.iand, 1) := by decide +kernel
theorem dX13_bitCount_22 : decode cX13_bitCount 22 = .ok (.iadd, 1) := by decide +kernel
theorem dX13_bitCount_23 : decode cX13_bitCount 23 = .ok (.istore_n 0, 1) := by decide +kernel
theorem dX13_bitCount_24 : decode cX13_bitCount 24 = .ok (.iload_n 0, 1) := by decide +kernel
theorem dX13_bitCount_25 : decode cX13_bitCount 25 = .ok (.iload_n 0, 1) := by decide +kernel
theorem dX13_bitCount_26 : decode cX13_bitCount 26 = .ok (.iconst 4, 1) := by decide +kernel
theorem dX13_bitCount_27 : decode cX13_bitCount 27 = .ok (.iushr, 1) := by decide +kernel
theorem dX13_bitCount_28 : decode cX13_bitCount 28 = .ok (.iadd, 1) := by decide +kernel
theorem dX13_bitCount_29 : decode cX13_bitCount 29 = .ok (.ldc_w 267, 3) := by decide +kernel
theorem dX13_bitCount_32 : decode cX13_bitCount 32 = .ok (.iand, 1) := by decide +kernel
theorem dX13_bitCount_33 : decode cX13_bitCount 33 = .ok (.istore_n 0, 1) := by decide +kernel
theorem dX13_bitCount_34 : decode cX13_bitCount 34 = .ok (.iload_n 0, 1) := by decide +kernel
theorem dX13_bitCount_35 : decode cX13_bitCount 35 = .ok (.iload_n 0, 1) := by decide +kernel
theorem dX13_bitCount_36 : decode cX13_bitCount 36 = .ok (.bipush 8, 2) := by decide +kernel
theorem dX13_bitCount_38 : decode cX13_bitCount 38 = .ok (.iushr, 1) := by decide +kernel
theorem dX13_bitCount_39 : decode cX13_bitCount 39 = .ok (.iadd, 1) := by decide +kernel
theorem dX13_bitCount_40 : decode cX13_bitCount 40 = .ok (.istore_n 0, 1) := by decide +kernel
theorem dX13_bitCount_41 : decode cX13_bitCount 41 = .ok (.iload_n 0, 1) := by decide +kernel
theorem dX13_bitCount_42 : decode cX13_bitCount 42 = .ok (.iload_n 0, 1) := by decide +kernel
theorem dX13_bitCount_43 : decode cX13_bitCount 43 = .ok (.bipush 16, 2) := by decide +kernel
theorem dX13_bitCount_45 : decode cX13_bitCount 45 = .ok (.iushr, 1) := by decide +kernel
theorem dX13_bitCount_46 : decode cX13_bitCount 46 = .ok (.iadd, 1) := by decide +kernel
theorem dX13_bitCount_47 : decode cX13_bitCount 47 = .ok (.istore_n 0, 1) := by decide +kernel
theorem dX13_bitCount_48 : decode cX13_bitCount 48 = .ok (.iload_n 0, 1) := by decide +kernel
theorem dX13_bitCount_49 : decode cX13_bitCount 49 = .ok (.bipush 63, 2) := by decide +kernel
theorem dX13_bitCount_51 : decode cX13_bitCount 51 = .ok (.iand, 1) := by decide +kernel
theorem dX13_bitCount_52 : decode cX13_bitCount 52 = .ok (.ireturn, 1) := by decide +kernel
theorem dX6_withParity_0 : decode cX6_withParity 0 = .ok (.iload_n 0, 1) := by decide +kernel
theorem dX6_withParity_1 : decode cX6_withParity 1 = .ok (.invokestatic 28, 3) := by decide +kernel
theorem dX6_withParity_4 : decode cX6_withParity 4 = .ok (.iconst 1, 1) := by decide +kernel
theorem dX6_withParity_5 : decode cX6_withParity 5 = .ok (.iand, 1) := by decide +kernel
theorem dX6_withParity_6 : decode cX6_withParity 6 = .ok (.ifCond .ne 7, 3) := by decide +kernel
theorem dX6_withParity_9 : decode cX6_withParity 9 = .ok (.iconst 4, 1) := by decide +kernel
theorem dX6_withParity_10 : decode cX6_withParity 10 = .ok (.goto 4, 3) := by decide +kernel
theorem dX6_withParity_13 : decode cX6_withParity 13 = .ok (.iconst 0, 1) := by decide +kernel
theorem dX6_withParity_14 : decode cX6_withParity 14 = .ok (.istore_n 1, 1) := by decide +kernel
theorem dX6_withParity_15 : decode cX6_withParity 15 = .ok (.iload_n 0, 1) := by decide +kernel
theorem dX6_withParity_16 : decode cX6_withParity 16 = .ok (.bipush 8, 2) := by decide +kernel
theorem dX6_withParity_18 : decode cX6_withParity 18 = .ok (.ishl, 1) := by decide +kernel
theorem dX6_withParity_19 : decode cX6_withParity 19 = .ok (.iload_n 0, 1) := by decide +kernel
theorem dX6_withParity_20 : decode cX6_withParity 20 = .ok (.invokestatic 9, 3) := by decide +kernel
theorem dX6_withParity_23 : decode cX6_withParity 23 = .ok (.ior, 1) := by decide +kernel
theorem dX6_withParity_24 : decode cX6_withParity 24 = .ok (.iload_n 1, 1) := by decide +kernel
theorem dX6_withParity_25 : decode cX6_withParity 25 = .ok (.ior, 1) := by decide +kernel
theorem dX6_withParity_26 : decode cX6_withParity 26 = .ok (.ireturn, 1) := by decide +kernel
theorem dX6_shift_0 : decode cX6_shift 0 = .ok (.iload_n 0, 1) := by decide +kernel
theorem dX6_shift_1 : decode cX6_shift 1 = .ok (.iconst 1, 1) := by decide +kernel
theorem dX6_shift_2 : decode cX6_shift 2 = .ok (.iand, 1) := by decide +kernel
theorem dX6_shift_3 : decode cX6_shift 3 = .ok (.ifCond .ne 7, 3) := by decide +kernel
theorem dX6_shift_6 : decode cX6_shift 6 = .ok (.iconst 1, 1) := by decide +kernel
theorem dX6_shift_7 : decode cX6_shift 7 = .ok (.goto 4, 3) := by decide +kernel
theorem dX6_shift_10 : decode cX6_shift 10 = .ok (.iconst 0, 1) := by decide +kernel
theorem dX6_shift_11 : decode cX6_shift 11 = .ok (.istore_n 3, 1) := by decide +kernel
theorem dX6_shift_12 : decode cX6_shift 12 = .ok (.iload_n 3, 1) := by decide +kernel
theorem dX6_shift_13 : decode cX6_shift 13 = .ok (.ifCond .eq 10, 3) := by decide +kernel
theorem dX6_shift_16 : decode cX6_shift 16 = .ok (.iload_n 1, 1) := by decide +kernel
theorem dX6_shift_17 : decode cX6_shift 17 = .ok (.bipush 7, 2) := by decide +kernel
theorem dX6_shift_19 : decode cX6_shift 19 = .ok (.ishr, 1) := by decide +kernel
theorem dX6_shift_20 : decode cX6_shift 20 = .ok (.goto 6, 3) := by decide +kernel
theorem dX6_shift_23 : decode cX6_shift 23 = .ok (.iload_n 1, 1) := by decide +kernel
theorem dX6_shift_24 : decode cX6_shift 24 = .ok (.iconst 1, 1) := by decide +kernel
theorem dX6_shift_25 : decode cX6_shift 25 = .ok (.iand, 1) := by decide +kernel
theorem dX6_shift_26 : decode cX6_shift 26 = .ok (.istore 4, 2) := by decide +kernel
theorem dX6_shift_28 : decode cX6_shift 28 = .ok (.iload_n 0, 1) := by decide +kernel
theorem dX6_shift_29 : decode cX6_shift 29 = .ok (.tableswitch 61 0 5 #[39, 39, 46, 46, 61, 52], 39) := by decide +kernel
theorem dX6_shift_68 : decode cX6_shift 68 = .ok (.iload 4, 2) := by decide +kernel
theorem dX6_shift_70 : decode cX6_shift 70 = .ok (.istore 5, 2) := by decide +kernel
theorem dX6_shift_72 : decode cX6_shift 72 = .ok (.goto 21, 3) := by decide +kernel
theorem dX6_shift_75 : decode cX6_shift 75 = .ok (.iload_n 2, 1) := by decide +kernel
theorem dX6_shift_76 : decode cX6_shift 76 = .ok (.istore 5, 2) := by decide +kernel
theorem dX6_shift_78 : decode cX6_shift 78 = .ok (.goto 15, 3) := by decide +kernel
theorem dX6_shift_81 : decode cX6_shift 81 = .ok (.iload_n 1, 1) := by decide +kernel
theorem dX6_shift_82 : decode cX6_shift 82 = .ok (.bipush 7, 2) := by decide +kernel
theorem dX6_shift_84 : decode cX6_shift 84 = .ok (.ishr, 1) := by decide +kernel
theorem dX6_shift_85 : decode cX6_shift 85 = .ok (.istore 5, 2) := by decide +kernel
theorem dX6_shift_87 : decode cX6_shift 87 = .ok (.goto 6, 3) := by decide +kernel
theorem dX6_shift_90 : decode cX6_shift 90 = .ok (.iconst 0, 1) := by decide +kernel
theorem dX6_shift_91 : decode cX6_shift 91 = .ok (.istore 5, 2) := by decide +kernel
end
