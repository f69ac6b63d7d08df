section
-- ===== PART A: goes FIRST, ahead of the names: the tables' words, and 'selects' of the private methods out of them =====
/-- a private method of a class that the tables say can be made, by its rows of tables_1 -/
def lw_okq (q : MethodName × Nat) : Prop := (q.1.cls ≠ "java/lang/invoke/MethodHandle" ∧ q.1.cls ≠ "java/lang/invoke/VarHandle") ∧ Cond.instantiable q.1.cls q.2 ∈ tables_1 ∧ Cond.privateMethod q.1 ∈ tables_1 ∧ Cond.instanceMethod q.1 ∈ tables_1
theorem lw_p0 : lw_okq (⟨"JoinKeeper$Grammar", "restart", "()V"⟩, 10) := ⟨⟨by decide +kernel, by decide +kernel⟩, List.mem_of_getElem? (i := 54) (by decide +kernel), List.mem_of_getElem? (i := 240) (by decide +kernel), List.mem_of_getElem? (i := 241) (by decide +kernel)⟩
theorem lw_p1 : lw_okq (⟨"JoinKeeper$Grammar", "take", "(C)Z"⟩, 10) := ⟨⟨by decide +kernel, by decide +kernel⟩, List.mem_of_getElem? (i := 54) (by decide +kernel), List.mem_of_getElem? (i := 252) (by decide +kernel), List.mem_of_getElem? (i := 253) (by decide +kernel)⟩
theorem lw_p2 : lw_okq (⟨"JoinKeeper$Grammar", "takeChainStart", "(C)Z"⟩, 10) := ⟨⟨by decide +kernel, by decide +kernel⟩, List.mem_of_getElem? (i := 54) (by decide +kernel), List.mem_of_getElem? (i := 256) (by decide +kernel), List.mem_of_getElem? (i := 257) (by decide +kernel)⟩
theorem lw_p3 : lw_okq (⟨"JoinKeeper$Grammar", "takeChainRest", "(C)Z"⟩, 10) := ⟨⟨by decide +kernel, by decide +kernel⟩, List.mem_of_getElem? (i := 54) (by decide +kernel), List.mem_of_getElem? (i := 263) (by decide +kernel), List.mem_of_getElem? (i := 264) (by decide +kernel)⟩
theorem lw_p4 : lw_okq (⟨"JoinKeeper$Grammar", "takeFactor", "(C)Z"⟩, 10) := ⟨⟨by decide +kernel, by decide +kernel⟩, List.mem_of_getElem? (i := 54) (by decide +kernel), List.mem_of_getElem? (i := 267) (by decide +kernel), List.mem_of_getElem? (i := 268) (by decide +kernel)⟩
theorem lw_p5 : lw_okq (⟨"JoinKeeper$Grammar", "takeOpening", "(C)Z"⟩, 10) := ⟨⟨by decide +kernel, by decide +kernel⟩, List.mem_of_getElem? (i := 54) (by decide +kernel), List.mem_of_getElem? (i := 271) (by decide +kernel), List.mem_of_getElem? (i := 272) (by decide +kernel)⟩
theorem lw_p6 : lw_okq (⟨"JoinKeeper$Grammar", "isChainColumn", "(C)Z"⟩, 10) := ⟨⟨by decide +kernel, by decide +kernel⟩, List.mem_of_getElem? (i := 54) (by decide +kernel), List.mem_of_getElem? (i := 278) (by decide +kernel), List.mem_of_getElem? (i := 279) (by decide +kernel)⟩
theorem lw_p7 : lw_okq (⟨"JoinKeeper$Grammar", "endFactor", "()V"⟩, 10) := ⟨⟨by decide +kernel, by decide +kernel⟩, List.mem_of_getElem? (i := 54) (by decide +kernel), List.mem_of_getElem? (i := 285) (by decide +kernel), List.mem_of_getElem? (i := 286) (by decide +kernel)⟩
theorem lw_p8 : lw_okq (⟨"JoinKeeper$Grammar", "takeAfterFactor", "(C)Z"⟩, 10) := ⟨⟨by decide +kernel, by decide +kernel⟩, List.mem_of_getElem? (i := 54) (by decide +kernel), List.mem_of_getElem? (i := 289) (by decide +kernel), List.mem_of_getElem? (i := 290) (by decide +kernel)⟩
theorem lw_p9 : lw_okq (⟨"JoinKeeper$Grammar", "takeTail", "(C)Z"⟩, 10) := ⟨⟨by decide +kernel, by decide +kernel⟩, List.mem_of_getElem? (i := 54) (by decide +kernel), List.mem_of_getElem? (i := 293) (by decide +kernel), List.mem_of_getElem? (i := 294) (by decide +kernel)⟩
theorem lw_p10 : lw_okq (⟨"JoinKeeper$Grammar", "takeConditionColumn", "(C)Z"⟩, 10) := ⟨⟨by decide +kernel, by decide +kernel⟩, List.mem_of_getElem? (i := 54) (by decide +kernel), List.mem_of_getElem? (i := 297) (by decide +kernel), List.mem_of_getElem? (i := 298) (by decide +kernel)⟩
theorem lw_p11 : lw_okq (⟨"JoinKeeper$Grammar", "takeConditionKind", "(C)Z"⟩, 10) := ⟨⟨by decide +kernel, by decide +kernel⟩, List.mem_of_getElem? (i := 54) (by decide +kernel), List.mem_of_getElem? (i := 301) (by decide +kernel), List.mem_of_getElem? (i := 302) (by decide +kernel)⟩
theorem lw_p12 : lw_okq (⟨"JoinKeeper$Grammar", "takeConditionDigit", "(C)Z"⟩, 10) := ⟨⟨by decide +kernel, by decide +kernel⟩, List.mem_of_getElem? (i := 54) (by decide +kernel), List.mem_of_getElem? (i := 305) (by decide +kernel), List.mem_of_getElem? (i := 306) (by decide +kernel)⟩
theorem lw_p13 : lw_okq (⟨"JoinKeeper$Grammar", "takeGroupColumn", "(C)Z"⟩, 10) := ⟨⟨by decide +kernel, by decide +kernel⟩, List.mem_of_getElem? (i := 54) (by decide +kernel), List.mem_of_getElem? (i := 312) (by decide +kernel), List.mem_of_getElem? (i := 313) (by decide +kernel)⟩
theorem lw_p14 : lw_okq (⟨"JoinKeeper$Grammar", "isWhole", "()Z"⟩, 10) := ⟨⟨by decide +kernel, by decide +kernel⟩, List.mem_of_getElem? (i := 54) (by decide +kernel), List.mem_of_getElem? (i := 316) (by decide +kernel), List.mem_of_getElem? (i := 317) (by decide +kernel)⟩
theorem lw_p15 : lw_okq (⟨"JoinKeeper$Evaluator", "readSum", "(LJoinKeeper$Text;I)Z"⟩, 5) := ⟨⟨by decide +kernel, by decide +kernel⟩, List.mem_of_getElem? (i := 91) (by decide +kernel), List.mem_of_getElem? (i := 328) (by decide +kernel), List.mem_of_getElem? (i := 329) (by decide +kernel)⟩
def lw_privs_1 : List (MethodName × Nat) := [(⟨"JoinKeeper$Grammar", "restart", "()V"⟩, 10), (⟨"JoinKeeper$Grammar", "take", "(C)Z"⟩, 10), (⟨"JoinKeeper$Grammar", "takeChainStart", "(C)Z"⟩, 10), (⟨"JoinKeeper$Grammar", "takeChainRest", "(C)Z"⟩, 10), (⟨"JoinKeeper$Grammar", "takeFactor", "(C)Z"⟩, 10), (⟨"JoinKeeper$Grammar", "takeOpening", "(C)Z"⟩, 10), (⟨"JoinKeeper$Grammar", "isChainColumn", "(C)Z"⟩, 10), (⟨"JoinKeeper$Grammar", "endFactor", "()V"⟩, 10), (⟨"JoinKeeper$Grammar", "takeAfterFactor", "(C)Z"⟩, 10), (⟨"JoinKeeper$Grammar", "takeTail", "(C)Z"⟩, 10), (⟨"JoinKeeper$Grammar", "takeConditionColumn", "(C)Z"⟩, 10), (⟨"JoinKeeper$Grammar", "takeConditionKind", "(C)Z"⟩, 10), (⟨"JoinKeeper$Grammar", "takeConditionDigit", "(C)Z"⟩, 10), (⟨"JoinKeeper$Grammar", "takeGroupColumn", "(C)Z"⟩, 10), (⟨"JoinKeeper$Grammar", "isWhole", "()Z"⟩, 10), (⟨"JoinKeeper$Evaluator", "readSum", "(LJoinKeeper$Text;I)Z"⟩, 5)]
theorem lw_r1 : ∀ q ∈ lw_privs_1, lw_okq q := List.forall_mem_cons.mpr ⟨lw_p0, List.forall_mem_cons.mpr ⟨lw_p1, List.forall_mem_cons.mpr ⟨lw_p2, List.forall_mem_cons.mpr ⟨lw_p3, List.forall_mem_cons.mpr ⟨lw_p4, List.forall_mem_cons.mpr ⟨lw_p5, List.forall_mem_cons.mpr ⟨lw_p6, List.forall_mem_cons.mpr ⟨lw_p7, List.forall_mem_cons.mpr ⟨lw_p8, List.forall_mem_cons.mpr ⟨lw_p9, List.forall_mem_cons.mpr ⟨lw_p10, List.forall_mem_cons.mpr ⟨lw_p11, List.forall_mem_cons.mpr ⟨lw_p12, List.forall_mem_cons.mpr ⟨lw_p13, List.forall_mem_cons.mpr ⟨lw_p14, List.forall_mem_cons.mpr ⟨lw_p15, fun _ h => absurd h List.not_mem_nil⟩⟩⟩⟩⟩⟩⟩⟩⟩⟩⟩⟩⟩⟩⟩⟩
theorem lw_p16 : lw_okq (⟨"JoinKeeper$Evaluator", "readProduct", "(LJoinKeeper$Text;I)Z"⟩, 5) := ⟨⟨by decide +kernel, by decide +kernel⟩, List.mem_of_getElem? (i := 91) (by decide +kernel), List.mem_of_getElem? (i := 337) (by decide +kernel), List.mem_of_getElem? (i := 338) (by decide +kernel)⟩
theorem lw_p17 : lw_okq (⟨"JoinKeeper$Evaluator", "readFactor", "(LJoinKeeper$Text;I)Z"⟩, 5) := ⟨⟨by decide +kernel, by decide +kernel⟩, List.mem_of_getElem? (i := 91) (by decide +kernel), List.mem_of_getElem? (i := 341) (by decide +kernel), List.mem_of_getElem? (i := 342) (by decide +kernel)⟩
theorem lw_p18 : lw_okq (⟨"JoinKeeper$Evaluator", "readRestOfBrackets", "(LJoinKeeper$Text;I)Z"⟩, 5) := ⟨⟨by decide +kernel, by decide +kernel⟩, List.mem_of_getElem? (i := 91) (by decide +kernel), List.mem_of_getElem? (i := 346) (by decide +kernel), List.mem_of_getElem? (i := 347) (by decide +kernel)⟩
theorem lw_p19 : lw_okq (⟨"JoinKeeper$Evaluator", "readRestOfNegative", "(LJoinKeeper$Text;I)Z"⟩, 5) := ⟨⟨by decide +kernel, by decide +kernel⟩, List.mem_of_getElem? (i := 91) (by decide +kernel), List.mem_of_getElem? (i := 357) (by decide +kernel), List.mem_of_getElem? (i := 358) (by decide +kernel)⟩
theorem lw_p20 : lw_okq (⟨"JoinKeeper$Polynomial", "hasLargeTerms", "()Z"⟩, 1) := ⟨⟨by decide +kernel, by decide +kernel⟩, List.mem_of_getElem? (i := 98) (by decide +kernel), List.mem_of_getElem? (i := 382) (by decide +kernel), List.mem_of_getElem? (i := 383) (by decide +kernel)⟩
theorem lw_p21 : lw_okq (⟨"JoinKeeper", "isAskable", "(I)Z"⟩, 5) := ⟨⟨by decide +kernel, by decide +kernel⟩, List.mem_of_getElem? (i := 12) (by decide +kernel), List.mem_of_getElem? (i := 436) (by decide +kernel), List.mem_of_getElem? (i := 437) (by decide +kernel)⟩
theorem lw_p22 : lw_okq (⟨"JoinKeeper$Question", "sumOfPowers", "(LJoinKeeper$Rows;II)J"⟩, 9) := ⟨⟨by decide +kernel, by decide +kernel⟩, List.mem_of_getElem? (i := 125) (by decide +kernel), List.mem_of_getElem? (i := 465) (by decide +kernel), List.mem_of_getElem? (i := 466) (by decide +kernel)⟩
theorem lw_p23 : lw_okq (⟨"JoinKeeper$Question", "share", "(IIII)J"⟩, 9) := ⟨⟨by decide +kernel, by decide +kernel⟩, List.mem_of_getElem? (i := 125) (by decide +kernel), List.mem_of_getElem? (i := 469) (by decide +kernel), List.mem_of_getElem? (i := 470) (by decide +kernel)⟩
theorem lw_p24 : lw_okq (⟨"JoinKeeperModel", "read", "()I"⟩, 27) := ⟨⟨by decide +kernel, by decide +kernel⟩, List.mem_of_getElem? (i := 516) (by decide +kernel), List.mem_of_getElem? (i := 633) (by decide +kernel), List.mem_of_getElem? (i := 634) (by decide +kernel)⟩
theorem lw_p25 : lw_okq (⟨"JoinKeeperModel", "readChain", "()I"⟩, 27) := ⟨⟨by decide +kernel, by decide +kernel⟩, List.mem_of_getElem? (i := 516) (by decide +kernel), List.mem_of_getElem? (i := 637) (by decide +kernel), List.mem_of_getElem? (i := 638) (by decide +kernel)⟩
theorem lw_p26 : lw_okq (⟨"JoinKeeperModel", "at", "(I)I"⟩, 27) := ⟨⟨by decide +kernel, by decide +kernel⟩, List.mem_of_getElem? (i := 516) (by decide +kernel), List.mem_of_getElem? (i := 641) (by decide +kernel), List.mem_of_getElem? (i := 642) (by decide +kernel)⟩
theorem lw_p27 : lw_okq (⟨"JoinKeeperModel", "readExpression", "(I)I"⟩, 27) := ⟨⟨by decide +kernel, by decide +kernel⟩, List.mem_of_getElem? (i := 516) (by decide +kernel), List.mem_of_getElem? (i := 645) (by decide +kernel), List.mem_of_getElem? (i := 646) (by decide +kernel)⟩
theorem lw_p28 : lw_okq (⟨"JoinKeeperModel", "begin", "(I)V"⟩, 27) := ⟨⟨by decide +kernel, by decide +kernel⟩, List.mem_of_getElem? (i := 516) (by decide +kernel), List.mem_of_getElem? (i := 649) (by decide +kernel), List.mem_of_getElem? (i := 650) (by decide +kernel)⟩
theorem lw_p29 : lw_okq (⟨"JoinKeeperModel", "has", "(I)Z"⟩, 27) := ⟨⟨by decide +kernel, by decide +kernel⟩, List.mem_of_getElem? (i := 516) (by decide +kernel), List.mem_of_getElem? (i := 653) (by decide +kernel), List.mem_of_getElem? (i := 654) (by decide +kernel)⟩
theorem lw_p30 : lw_okq (⟨"JoinKeeperModel", "simple", "(I)V"⟩, 27) := ⟨⟨by decide +kernel, by decide +kernel⟩, List.mem_of_getElem? (i := 516) (by decide +kernel), List.mem_of_getElem? (i := 660) (by decide +kernel), List.mem_of_getElem? (i := 661) (by decide +kernel)⟩
theorem lw_p31 : lw_okq (⟨"JoinKeeperModel", "endFactor", "(I)V"⟩, 27) := ⟨⟨by decide +kernel, by decide +kernel⟩, List.mem_of_getElem? (i := 516) (by decide +kernel), List.mem_of_getElem? (i := 664) (by decide +kernel), List.mem_of_getElem? (i := 665) (by decide +kernel)⟩
def lw_privs_2 : List (MethodName × Nat) := [(⟨"JoinKeeper$Evaluator", "readProduct", "(LJoinKeeper$Text;I)Z"⟩, 5), (⟨"JoinKeeper$Evaluator", "readFactor", "(LJoinKeeper$Text;I)Z"⟩, 5), (⟨"JoinKeeper$Evaluator", "readRestOfBrackets", "(LJoinKeeper$Text;I)Z"⟩, 5), (⟨"JoinKeeper$Evaluator", "readRestOfNegative", "(LJoinKeeper$Text;I)Z"⟩, 5), (⟨"JoinKeeper$Polynomial", "hasLargeTerms", "()Z"⟩, 1), (⟨"JoinKeeper", "isAskable", "(I)Z"⟩, 5), (⟨"JoinKeeper$Question", "sumOfPowers", "(LJoinKeeper$Rows;II)J"⟩, 9), (⟨"JoinKeeper$Question", "share", "(IIII)J"⟩, 9), (⟨"JoinKeeperModel", "read", "()I"⟩, 27), (⟨"JoinKeeperModel", "readChain", "()I"⟩, 27), (⟨"JoinKeeperModel", "at", "(I)I"⟩, 27), (⟨"JoinKeeperModel", "readExpression", "(I)I"⟩, 27), (⟨"JoinKeeperModel", "begin", "(I)V"⟩, 27), (⟨"JoinKeeperModel", "has", "(I)Z"⟩, 27), (⟨"JoinKeeperModel", "simple", "(I)V"⟩, 27), (⟨"JoinKeeperModel", "endFactor", "(I)V"⟩, 27)]
theorem lw_r2 : ∀ q ∈ lw_privs_2, lw_okq q := List.forall_mem_cons.mpr ⟨lw_p16, List.forall_mem_cons.mpr ⟨lw_p17, List.forall_mem_cons.mpr ⟨lw_p18, List.forall_mem_cons.mpr ⟨lw_p19, List.forall_mem_cons.mpr ⟨lw_p20, List.forall_mem_cons.mpr ⟨lw_p21, List.forall_mem_cons.mpr ⟨lw_p22, List.forall_mem_cons.mpr ⟨lw_p23, List.forall_mem_cons.mpr ⟨lw_p24, List.forall_mem_cons.mpr ⟨lw_p25, List.forall_mem_cons.mpr ⟨lw_p26, List.forall_mem_cons.mpr ⟨lw_p27, List.forall_mem_cons.mpr ⟨lw_p28, List.forall_mem_cons.mpr ⟨lw_p29, List.forall_mem_cons.mpr ⟨lw_p30, List.forall_mem_cons.mpr ⟨lw_p31, fun _ h => absurd h List.not_mem_nil⟩⟩⟩⟩⟩⟩⟩⟩⟩⟩⟩⟩⟩⟩⟩⟩
theorem lw_p32 : lw_okq (⟨"JoinKeeperModel", "multiply", "(I)V"⟩, 27) := ⟨⟨by decide +kernel, by decide +kernel⟩, List.mem_of_getElem? (i := 516) (by decide +kernel), List.mem_of_getElem? (i := 668) (by decide +kernel), List.mem_of_getElem? (i := 669) (by decide +kernel)⟩
theorem lw_p33 : lw_okq (⟨"JoinKeeperModel", "look", "(ZI)V"⟩, 27) := ⟨⟨by decide +kernel, by decide +kernel⟩, List.mem_of_getElem? (i := 516) (by decide +kernel), List.mem_of_getElem? (i := 675) (by decide +kernel), List.mem_of_getElem? (i := 676) (by decide +kernel)⟩
theorem lw_p34 : lw_okq (⟨"JoinKeeperModel", "endTerm", "(I)V"⟩, 27) := ⟨⟨by decide +kernel, by decide +kernel⟩, List.mem_of_getElem? (i := 516) (by decide +kernel), List.mem_of_getElem? (i := 679) (by decide +kernel), List.mem_of_getElem? (i := 680) (by decide +kernel)⟩
theorem lw_p35 : lw_okq (⟨"JoinKeeperModel", "readConditions", "(I)I"⟩, 27) := ⟨⟨by decide +kernel, by decide +kernel⟩, List.mem_of_getElem? (i := 516) (by decide +kernel), List.mem_of_getElem? (i := 683) (by decide +kernel), List.mem_of_getElem? (i := 684) (by decide +kernel)⟩
theorem lw_p36 : lw_okq (⟨"JoinKeeperModel", "shorter", "(I)I"⟩, 27) := ⟨⟨by decide +kernel, by decide +kernel⟩, List.mem_of_getElem? (i := 516) (by decide +kernel), List.mem_of_getElem? (i := 687) (by decide +kernel), List.mem_of_getElem? (i := 688) (by decide +kernel)⟩
theorem lw_p37 : lw_okq (⟨"JoinKeeperModel", "collect", "(IIZ)J"⟩, 27) := ⟨⟨by decide +kernel, by decide +kernel⟩, List.mem_of_getElem? (i := 516) (by decide +kernel), List.mem_of_getElem? (i := 704) (by decide +kernel), List.mem_of_getElem? (i := 705) (by decide +kernel)⟩
theorem lw_p38 : lw_okq (⟨"JoinKeeperModel", "meets", "(II)Z"⟩, 27) := ⟨⟨by decide +kernel, by decide +kernel⟩, List.mem_of_getElem? (i := 516) (by decide +kernel), List.mem_of_getElem? (i := 711) (by decide +kernel), List.mem_of_getElem? (i := 712) (by decide +kernel)⟩
theorem lw_p39 : lw_okq (⟨"JoinKeeperModel", "weight", "(II)J"⟩, 27) := ⟨⟨by decide +kernel, by decide +kernel⟩, List.mem_of_getElem? (i := 516) (by decide +kernel), List.mem_of_getElem? (i := 715) (by decide +kernel), List.mem_of_getElem? (i := 716) (by decide +kernel)⟩
theorem lw_p40 : lw_okq (⟨"JoinKeeperModel", "value", "(II)J"⟩, 27) := ⟨⟨by decide +kernel, by decide +kernel⟩, List.mem_of_getElem? (i := 516) (by decide +kernel), List.mem_of_getElem? (i := 719) (by decide +kernel), List.mem_of_getElem? (i := 720) (by decide +kernel)⟩
def lw_privs_3 : List (MethodName × Nat) := [(⟨"JoinKeeperModel", "multiply", "(I)V"⟩, 27), (⟨"JoinKeeperModel", "look", "(ZI)V"⟩, 27), (⟨"JoinKeeperModel", "endTerm", "(I)V"⟩, 27), (⟨"JoinKeeperModel", "readConditions", "(I)I"⟩, 27), (⟨"JoinKeeperModel", "shorter", "(I)I"⟩, 27), (⟨"JoinKeeperModel", "collect", "(IIZ)J"⟩, 27), (⟨"JoinKeeperModel", "meets", "(II)Z"⟩, 27), (⟨"JoinKeeperModel", "weight", "(II)J"⟩, 27), (⟨"JoinKeeperModel", "value", "(II)J"⟩, 27)]
theorem lw_r3 : ∀ q ∈ lw_privs_3, lw_okq q := List.forall_mem_cons.mpr ⟨lw_p32, List.forall_mem_cons.mpr ⟨lw_p33, List.forall_mem_cons.mpr ⟨lw_p34, List.forall_mem_cons.mpr ⟨lw_p35, List.forall_mem_cons.mpr ⟨lw_p36, List.forall_mem_cons.mpr ⟨lw_p37, List.forall_mem_cons.mpr ⟨lw_p38, List.forall_mem_cons.mpr ⟨lw_p39, List.forall_mem_cons.mpr ⟨lw_p40, fun _ h => absurd h List.not_mem_nil⟩⟩⟩⟩⟩⟩⟩⟩⟩
def lw_privs : List (MethodName × Nat) := lw_privs_1 ++ (lw_privs_2 ++ (lw_privs_3))
def lw_tbl : List Cond := k2_sels lw_privs ++ tables_1
theorem lw_privs_ok : ∀ q ∈ lw_privs, lw_okq q := by
  show ∀ q ∈ lw_privs_1 ++ (lw_privs_2 ++ (lw_privs_3)), lw_okq q
  exact List.forall_mem_append.mpr ⟨lw_r1, List.forall_mem_append.mpr ⟨lw_r2, lw_r3⟩⟩
end
section
/-! Names, field tables, words: printed by wip/whole/gen_names.py out of the task. -/
def xBIG : List Cond := lw_tbl.filter goodWord
theorem xgood : ∀ w ∈ xBIG, (w.onTables && w.keeps) = true ∨ ∃ ty, w = .arrayClass ty := fun _ h => good_of_word (List.mem_filter.mp h).2
theorem xmem {i : Nat} {w : Cond} (h : lw_tbl[i]? = some w) (g : goodWord w = true) : w ∈ xBIG := List.mem_filter.mpr ⟨List.mem_of_getElem? h, g⟩
def R_K : String := "JoinKeeper"
def F_K : u_T := fun k => match k with
  | 0 => ("JoinKeeper", "rows", "LJoinKeeper$Rows;", true)
  | 1 => ("JoinKeeper", "text", "LJoinKeeper$Text;", true)
  | 2 => ("JoinKeeper", "grammar", "LJoinKeeper$Grammar;", true)
  | 3 => ("JoinKeeper", "evaluator", "LJoinKeeper$Evaluator;", true)
  | _ => ("JoinKeeper", "questions", "[LJoinKeeper$Question;", true)
def ft_K : Nat → FieldType := fun k => match k with
  | 0 => .object "JoinKeeper$Rows"
  | 1 => .object "JoinKeeper$Text"
  | 2 => .object "JoinKeeper$Grammar"
  | 3 => .object "JoinKeeper$Evaluator"
  | _ => .array (.object "JoinKeeper$Question")
theorem nm_K : ∀ a, a < 5 → ∀ b, b < 5 → a ≠ b → (F_K a).2.1 ≠ (F_K b).2.1 := by decide +kernel
theorem ty_K : ∀ k, k < 5 → parseFieldDescriptor (F_K k).2.2.1 = some (ft_K k) := by decide +kernel
theorem in_K : ∀ w ∈ u_ws R_K F_K 5, w ∈ xBIG := by
  have h : ∀ w ∈ u_ws R_K F_K 5, w ∈ tables_1 ∧ goodWord w = true := by decide +kernel
  exact fun w hw => List.mem_filter.mpr ⟨List.mem_append_right _ (h w hw).1, (h w hw).2⟩
def R_R : String := "JoinKeeper$Rows"
def F_R : u_T := fun k => match k with
  | 0 => ("JoinKeeper$Rows", "counts", "[I", true)
  | 1 => ("JoinKeeper$Rows", "changedPlaces", "[I", true)
  | 2 => ("JoinKeeper$Rows", "changedBy", "[I", true)
  | _ => ("JoinKeeper$Rows", "changes", "I", false)
def ft_R : Nat → FieldType := fun k => match k with
  | 0 => .array .int
  | 1 => .array .int
  | 2 => .array .int
  | _ => .int
theorem nm_R : ∀ a, a < 4 → ∀ b, b < 4 → a ≠ b → (F_R a).2.1 ≠ (F_R b).2.1 := by decide +kernel
theorem ty_R : ∀ k, k < 4 → parseFieldDescriptor (F_R k).2.2.1 = some (ft_R k) := by decide +kernel
theorem in_R : ∀ w ∈ u_ws R_R F_R 4, w ∈ xBIG := by
  have h : ∀ w ∈ u_ws R_R F_R 4, w ∈ tables_1 ∧ goodWord w = true := by decide +kernel
  exact fun w hw => List.mem_filter.mpr ⟨List.mem_append_right _ (h w hw).1, (h w hw).2⟩
def R_T : String := "JoinKeeper$Text"
def F_T : u_T := fun k => match k with
  | 0 => ("JoinKeeper$Text", "signs", "[C", true)
  | _ => ("JoinKeeper$Text", "length", "I", false)
def ft_T : Nat → FieldType := fun k => match k with
  | 0 => .array .char
  | _ => .int
theorem nm_T : ∀ a, a < 2 → ∀ b, b < 2 → a ≠ b → (F_T a).2.1 ≠ (F_T b).2.1 := by decide +kernel
theorem ty_T : ∀ k, k < 2 → parseFieldDescriptor (F_T k).2.2.1 = some (ft_T k) := by decide +kernel
theorem in_T : ∀ w ∈ u_ws R_T F_T 2, w ∈ xBIG := by
  have h : ∀ w ∈ u_ws R_T F_T 2, w ∈ tables_1 ∧ goodWord w = true := by decide +kernel
  exact fun w hw => List.mem_filter.mpr ⟨List.mem_append_right _ (h w hw).1, (h w hw).2⟩
def R_G : String := "JoinKeeper$Grammar"
def F_G : u_T := fun k => match k with
  | 0 => ("JoinKeeper$Grammar", "step", "I", false)
  | 1 => ("JoinKeeper$Grammar", "firstRelation", "I", false)
  | 2 => ("JoinKeeper$Grammar", "lastRelation", "I", false)
  | 3 => ("JoinKeeper$Grammar", "open", "I", false)
  | 4 => ("JoinKeeper$Grammar", "openBits", "I", false)
  | 5 => ("JoinKeeper$Grammar", "conditionColumn", "I", false)
  | 6 => ("JoinKeeper$Grammar", "conditionKind", "C", false)
  | 7 => ("JoinKeeper$Grammar", "conditions", "I", false)
  | 8 => ("JoinKeeper$Grammar", "allowed", "[I", true)
  | _ => ("JoinKeeper$Grammar", "groupColumn", "I", false)
def ft_G : Nat → FieldType := fun k => match k with
  | 0 => .int
  | 1 => .int
  | 2 => .int
  | 3 => .int
  | 4 => .int
  | 5 => .int
  | 6 => .char
  | 7 => .int
  | 8 => .array .int
  | _ => .int
theorem nm_G : ∀ a, a < 10 → ∀ b, b < 10 → a ≠ b → (F_G a).2.1 ≠ (F_G b).2.1 := by decide +kernel
theorem ty_G : ∀ k, k < 10 → parseFieldDescriptor (F_G k).2.2.1 = some (ft_G k) := by decide +kernel
theorem in_G : ∀ w ∈ u_ws R_G F_G 10, w ∈ xBIG := by
  have h : ∀ w ∈ u_ws R_G F_G 10, w ∈ tables_1 ∧ goodWord w = true := by decide +kernel
  exact fun w hw => List.mem_filter.mpr ⟨List.mem_append_right _ (h w hw).1, (h w hw).2⟩
def R_E : String := "JoinKeeper$Evaluator"
def F_E : u_T := fun k => match k with
  | 0 => ("JoinKeeper$Evaluator", "sums", "[LJoinKeeper$Polynomial;", true)
  | 1 => ("JoinKeeper$Evaluator", "products", "[LJoinKeeper$Polynomial;", true)
  | 2 => ("JoinKeeper$Evaluator", "factors", "[LJoinKeeper$Polynomial;", true)
  | 3 => ("JoinKeeper$Evaluator", "spare", "LJoinKeeper$Polynomial;", true)
  | _ => ("JoinKeeper$Evaluator", "place", "I", false)
def ft_E : Nat → FieldType := fun k => match k with
  | 0 => .array (.object "JoinKeeper$Polynomial")
  | 1 => .array (.object "JoinKeeper$Polynomial")
  | 2 => .array (.object "JoinKeeper$Polynomial")
  | 3 => .object "JoinKeeper$Polynomial"
  | _ => .int
theorem nm_E : ∀ a, a < 5 → ∀ b, b < 5 → a ≠ b → (F_E a).2.1 ≠ (F_E b).2.1 := by decide +kernel
theorem ty_E : ∀ k, k < 5 → parseFieldDescriptor (F_E k).2.2.1 = some (ft_E k) := by decide +kernel
theorem in_E : ∀ w ∈ u_ws R_E F_E 5, w ∈ xBIG := by
  have h : ∀ w ∈ u_ws R_E F_E 5, w ∈ tables_1 ∧ goodWord w = true := by decide +kernel
  exact fun w hw => List.mem_filter.mpr ⟨List.mem_append_right _ (h w hw).1, (h w hw).2⟩
def R_P : String := "JoinKeeper$Polynomial"
def F_P : u_T := fun k => match k with
  | _ => ("JoinKeeper$Polynomial", "coefficients", "[I", true)
def ft_P : Nat → FieldType := fun k => match k with
  | _ => .array .int
theorem nm_P : ∀ a, a < 1 → ∀ b, b < 1 → a ≠ b → (F_P a).2.1 ≠ (F_P b).2.1 := by decide +kernel
theorem ty_P : ∀ k, k < 1 → parseFieldDescriptor (F_P k).2.2.1 = some (ft_P k) := by decide +kernel
theorem in_P : ∀ w ∈ u_ws R_P F_P 1, w ∈ xBIG := by
  have h : ∀ w ∈ u_ws R_P F_P 1, w ∈ tables_1 ∧ goodWord w = true := by decide +kernel
  exact fun w hw => List.mem_filter.mpr ⟨List.mem_append_right _ (h w hw).1, (h w hw).2⟩
def R_Q : String := "JoinKeeper$Question"
def F_Q : u_T := fun k => match k with
  | 0 => ("JoinKeeper$Question", "there", "Z", false)
  | 1 => ("JoinKeeper$Question", "firstRelation", "I", false)
  | 2 => ("JoinKeeper$Question", "lastRelation", "I", false)
  | 3 => ("JoinKeeper$Question", "groupColumn", "I", false)
  | 4 => ("JoinKeeper$Question", "conditions", "I", false)
  | 5 => ("JoinKeeper$Question", "allowed", "[I", true)
  | 6 => ("JoinKeeper$Question", "polynomial", "LJoinKeeper$Polynomial;", true)
  | 7 => ("JoinKeeper$Question", "oneColumn", "[J", true)
  | _ => ("JoinKeeper$Question", "otherColumn", "[J", true)
def ft_Q : Nat → FieldType := fun k => match k with
  | 0 => .boolean
  | 1 => .int
  | 2 => .int
  | 3 => .int
  | 4 => .int
  | 5 => .array .int
  | 6 => .object "JoinKeeper$Polynomial"
  | 7 => .array .long
  | _ => .array .long
theorem nm_Q : ∀ a, a < 9 → ∀ b, b < 9 → a ≠ b → (F_Q a).2.1 ≠ (F_Q b).2.1 := by decide +kernel
theorem ty_Q : ∀ k, k < 9 → parseFieldDescriptor (F_Q k).2.2.1 = some (ft_Q k) := by decide +kernel
theorem in_Q : ∀ w ∈ u_ws R_Q F_Q 9, w ∈ xBIG := by
  have h : ∀ w ∈ u_ws R_Q F_Q 9, w ∈ tables_1 ∧ goodWord w = true := by decide +kernel
  exact fun w hw => List.mem_filter.mpr ⟨List.mem_append_right _ (h w hw).1, (h w hw).2⟩
def R_M : String := "JoinKeeperModel"
def F_M : u_T := fun k => match k with
  | 0 => ("JoinKeeperModel", "counts", "[I", true)
  | 1 => ("JoinKeeperModel", "row", "[I", true)
  | 2 => ("JoinKeeperModel", "by", "[I", true)
  | 3 => ("JoinKeeperModel", "changes", "I", false)
  | 4 => ("JoinKeeperModel", "text", "[I", true)
  | 5 => ("JoinKeeperModel", "length", "I", false)
  | 6 => ("JoinKeeperModel", "chain", "I", false)
  | 7 => ("JoinKeeperModel", "column", "[I", true)
  | 8 => ("JoinKeeperModel", "relation", "[I", true)
  | 9 => ("JoinKeeperModel", "digit", "[I", true)
  | 10 => ("JoinKeeperModel", "conditions", "I", false)
  | 11 => ("JoinKeeperModel", "grouping", "I", false)
  | 12 => ("JoinKeeperModel", "there", "[Z", true)
  | 13 => ("JoinKeeperModel", "terms", "[I", true)
  | 14 => ("JoinKeeperModel", "chainOf", "[I", true)
  | 15 => ("JoinKeeperModel", "groupOf", "[I", true)
  | 16 => ("JoinKeeperModel", "conditionsOf", "[I", true)
  | 17 => ("JoinKeeperModel", "conditionOf", "[I", true)
  | 18 => ("JoinKeeperModel", "poly", "[I", true)
  | 19 => ("JoinKeeperModel", "sum", "[I", true)
  | 20 => ("JoinKeeperModel", "term", "[I", true)
  | 21 => ("JoinKeeperModel", "began", "[Z", true)
  | 22 => ("JoinKeeperModel", "sign", "[I", true)
  | 23 => ("JoinKeeperModel", "minus", "[I", true)
  | 24 => ("JoinKeeperModel", "factor", "[I", true)
  | 25 => ("JoinKeeperModel", "product", "[I", true)
  | _ => ("JoinKeeperModel", "large", "Z", false)
def ft_M : Nat → FieldType := fun k => match k with
  | 0 => .array .int
  | 1 => .array .int
  | 2 => .array .int
  | 3 => .int
  | 4 => .array .int
  | 5 => .int
  | 6 => .int
  | 7 => .array .int
  | 8 => .array .int
  | 9 => .array .int
  | 10 => .int
  | 11 => .int
  | 12 => .array .boolean
  | 13 => .array .int
  | 14 => .array .int
  | 15 => .array .int
  | 16 => .array .int
  | 17 => .array .int
  | 18 => .array .int
  | 19 => .array .int
  | 20 => .array .int
  | 21 => .array .boolean
  | 22 => .array .int
  | 23 => .array .int
  | 24 => .array .int
  | 25 => .array .int
  | _ => .boolean
theorem nm_M : ∀ a, a < 27 → ∀ b, b < 27 → a ≠ b → (F_M a).2.1 ≠ (F_M b).2.1 := by decide +kernel
theorem ty_M : ∀ k, k < 27 → parseFieldDescriptor (F_M k).2.2.1 = some (ft_M k) := by decide +kernel
theorem in_M : ∀ w ∈ u_ws R_M F_M 27, w ∈ xBIG := by
  have h : ∀ w ∈ u_ws R_M F_M 27, w ∈ tables_1 ∧ goodWord w = true := by decide +kernel
  exact fun w hw => List.mem_filter.mpr ⟨List.mem_append_right _ (h w hw).1, (h w hw).2⟩
abbrev xcl : List vw_C := [(R_K, F_K, 5), (R_R, F_R, 4), (R_T, F_T, 2), (R_G, F_G, 10), (R_E, F_E, 5), (R_P, F_P, 1), (R_Q, F_Q, 9), (R_M, F_M, 27)]
/-- array types: tag to type -/
abbrev xtl : List FieldType := [.int, .char, .long, .boolean, .object "JoinKeeper$Polynomial", .object "JoinKeeper$Question"]
abbrev xS : Type := String × String × String × FieldType × Nat × (Nat → Value)
abbrev xsl : List xS := [("JoinKeeper$Polynomial", "COLUMN_PLACES", "[I", .int, 4, fun j => .int (match j with | 0 => 1 | 1 => 3 | 2 => 9 | _ => 27))]
abbrev b_K_init : ByteArray := prog_1_method_1_code
def y_K_init : MethodName := ⟨"JoinKeeper", "<init>", "()V"⟩
abbrev b_R_init : ByteArray := prog_6_method_1_code
def y_R_init : MethodName := ⟨"JoinKeeper$Rows", "<init>", "()V"⟩
abbrev b_T_init : ByteArray := prog_7_method_1_code
def y_T_init : MethodName := ⟨"JoinKeeper$Text", "<init>", "()V"⟩
abbrev b_G_init : ByteArray := prog_3_method_1_code
def y_G_init : MethodName := ⟨"JoinKeeper$Grammar", "<init>", "()V"⟩
abbrev b_E_init : ByteArray := prog_2_method_1_code
def y_E_init : MethodName := ⟨"JoinKeeper$Evaluator", "<init>", "()V"⟩
abbrev b_P_init : ByteArray := prog_4_method_1_code
def y_P_init : MethodName := ⟨"JoinKeeper$Polynomial", "<init>", "()V"⟩
abbrev b_Q_init : ByteArray := prog_5_method_1_code
def y_Q_init : MethodName := ⟨"JoinKeeper$Question", "<init>", "()V"⟩
abbrev b_K_change : ByteArray := prog_1_method_2_code
def y_K_change : MethodName := ⟨"JoinKeeper", "change", "(IIII)I"⟩
abbrev b_K_isRow : ByteArray := prog_1_method_14_code
def y_K_isRow : MethodName := ⟨"JoinKeeper", "isRow", "(III)Z"⟩
abbrev b_K_isValue : ByteArray := prog_1_method_15_code
def y_K_isValue : MethodName := ⟨"JoinKeeper", "isValue", "(I)Z"⟩
abbrev b_R_placeOf : ByteArray := prog_6_method_2_code
def y_R_placeOf : MethodName := ⟨"JoinKeeper$Rows", "placeOf", "(III)I"⟩
abbrev b_R_raise : ByteArray := prog_6_method_4_code
def y_R_raise : MethodName := ⟨"JoinKeeper$Rows", "raise", "(II)Z"⟩
abbrev b_K_back : ByteArray := prog_1_method_3_code
def y_K_back : MethodName := ⟨"JoinKeeper", "back", "()I"⟩
abbrev b_R_takeBack : ByteArray := prog_6_method_5_code
def y_R_takeBack : MethodName := ⟨"JoinKeeper$Rows", "takeBack", "()Z"⟩
abbrev b_R_changesLeft : ByteArray := prog_6_method_6_code
def y_R_changesLeft : MethodName := ⟨"JoinKeeper$Rows", "changesLeft", "()I"⟩
abbrev b_K_sign : ByteArray := prog_1_method_4_code
def y_K_sign : MethodName := ⟨"JoinKeeper", "sign", "(I)I"⟩
abbrev b_T_append : ByteArray := prog_7_method_2_code
def y_T_append : MethodName := ⟨"JoinKeeper$Text", "append", "(C)Z"⟩
abbrev b_T_length : ByteArray := prog_7_method_4_code
def y_T_length : MethodName := ⟨"JoinKeeper$Text", "length", "()I"⟩
abbrev b_K_clear : ByteArray := prog_1_method_5_code
def y_K_clear : MethodName := ⟨"JoinKeeper", "clear", "()I"⟩
abbrev b_T_empty : ByteArray := prog_7_method_3_code
def y_T_empty : MethodName := ⟨"JoinKeeper$Text", "empty", "()V"⟩
abbrev b_K_define : ByteArray := prog_1_method_6_code
def y_K_define : MethodName := ⟨"JoinKeeper", "define", "(I)I"⟩
abbrev b_K_isQuestion : ByteArray := prog_1_method_16_code
def y_K_isQuestion : MethodName := ⟨"JoinKeeper", "isQuestion", "(I)Z"⟩
abbrev b_G_faultIn : ByteArray := prog_3_method_2_code
def y_G_faultIn : MethodName := ⟨"JoinKeeper$Grammar", "faultIn", "(LJoinKeeper$Text;)I"⟩
abbrev b_G_restart : ByteArray := prog_3_method_9_code
def y_G_restart : MethodName := ⟨"JoinKeeper$Grammar", "restart", "()V"⟩
abbrev b_A_fill : ByteArray := prog_11_method_103_code
def y_A_fill : MethodName := ⟨"java/util/Arrays", "fill", "([II)V"⟩
abbrev b_T_at : ByteArray := prog_7_method_5_code
def y_T_at : MethodName := ⟨"JoinKeeper$Text", "at", "(I)C"⟩
abbrev b_G_take : ByteArray := prog_3_method_11_code
def y_G_take : MethodName := ⟨"JoinKeeper$Grammar", "take", "(C)Z"⟩
abbrev b_G_takeChainStart : ByteArray := prog_3_method_12_code
def y_G_takeChainStart : MethodName := ⟨"JoinKeeper$Grammar", "takeChainStart", "(C)Z"⟩
abbrev b_T_relationOf : ByteArray := prog_7_method_7_code
def y_T_relationOf : MethodName := ⟨"JoinKeeper$Text", "relationOf", "(C)I"⟩
abbrev b_G_takeChainRest : ByteArray := prog_3_method_13_code
def y_G_takeChainRest : MethodName := ⟨"JoinKeeper$Grammar", "takeChainRest", "(C)Z"⟩
abbrev b_G_takeFactor : ByteArray := prog_3_method_14_code
def y_G_takeFactor : MethodName := ⟨"JoinKeeper$Grammar", "takeFactor", "(C)Z"⟩
abbrev b_G_takeOpening : ByteArray := prog_3_method_15_code
def y_G_takeOpening : MethodName := ⟨"JoinKeeper$Grammar", "takeOpening", "(C)Z"⟩
abbrev b_T_isDigit : ByteArray := prog_7_method_6_code
def y_T_isDigit : MethodName := ⟨"JoinKeeper$Text", "isDigit", "(C)Z"⟩
abbrev b_G_isChainColumn : ByteArray := prog_3_method_24_code
def y_G_isChainColumn : MethodName := ⟨"JoinKeeper$Grammar", "isChainColumn", "(C)Z"⟩
abbrev b_T_columnOf : ByteArray := prog_7_method_8_code
def y_T_columnOf : MethodName := ⟨"JoinKeeper$Text", "columnOf", "(C)I"⟩
abbrev b_G_endFactor : ByteArray := prog_3_method_17_code
def y_G_endFactor : MethodName := ⟨"JoinKeeper$Grammar", "endFactor", "()V"⟩
abbrev b_G_takeAfterFactor : ByteArray := prog_3_method_16_code
def y_G_takeAfterFactor : MethodName := ⟨"JoinKeeper$Grammar", "takeAfterFactor", "(C)Z"⟩
abbrev b_G_takeTail : ByteArray := prog_3_method_18_code
def y_G_takeTail : MethodName := ⟨"JoinKeeper$Grammar", "takeTail", "(C)Z"⟩
abbrev b_G_takeConditionColumn : ByteArray := prog_3_method_19_code
def y_G_takeConditionColumn : MethodName := ⟨"JoinKeeper$Grammar", "takeConditionColumn", "(C)Z"⟩
abbrev b_G_takeConditionKind : ByteArray := prog_3_method_20_code
def y_G_takeConditionKind : MethodName := ⟨"JoinKeeper$Grammar", "takeConditionKind", "(C)Z"⟩
abbrev b_G_takeConditionDigit : ByteArray := prog_3_method_21_code
def y_G_takeConditionDigit : MethodName := ⟨"JoinKeeper$Grammar", "takeConditionDigit", "(C)Z"⟩
abbrev b_G_meets : ByteArray := prog_3_method_22_code
def y_G_meets : MethodName := ⟨"JoinKeeper$Grammar", "meets", "(ICI)Z"⟩
abbrev b_G_takeGroupColumn : ByteArray := prog_3_method_23_code
def y_G_takeGroupColumn : MethodName := ⟨"JoinKeeper$Grammar", "takeGroupColumn", "(C)Z"⟩
abbrev b_G_isWhole : ByteArray := prog_3_method_10_code
def y_G_isWhole : MethodName := ⟨"JoinKeeper$Grammar", "isWhole", "()Z"⟩
abbrev b_G_expressionStart : ByteArray := prog_3_method_5_code
def y_G_expressionStart : MethodName := ⟨"JoinKeeper$Grammar", "expressionStart", "()I"⟩
abbrev b_E_evaluate : ByteArray := prog_2_method_2_code
def y_E_evaluate : MethodName := ⟨"JoinKeeper$Evaluator", "evaluate", "(LJoinKeeper$Text;I)Z"⟩
abbrev b_E_readSum : ByteArray := prog_2_method_4_code
def y_E_readSum : MethodName := ⟨"JoinKeeper$Evaluator", "readSum", "(LJoinKeeper$Text;I)Z"⟩
abbrev b_P_becomeNumber : ByteArray := prog_4_method_5_code
def y_P_becomeNumber : MethodName := ⟨"JoinKeeper$Polynomial", "becomeNumber", "(I)V"⟩
abbrev b_E_readProduct : ByteArray := prog_2_method_5_code
def y_E_readProduct : MethodName := ⟨"JoinKeeper$Evaluator", "readProduct", "(LJoinKeeper$Text;I)Z"⟩
abbrev b_E_readFactor : ByteArray := prog_2_method_6_code
def y_E_readFactor : MethodName := ⟨"JoinKeeper$Evaluator", "readFactor", "(LJoinKeeper$Text;I)Z"⟩
abbrev b_E_readRestOfBrackets : ByteArray := prog_2_method_7_code
def y_E_readRestOfBrackets : MethodName := ⟨"JoinKeeper$Evaluator", "readRestOfBrackets", "(LJoinKeeper$Text;I)Z"⟩
abbrev b_P_becomeCopy : ByteArray := prog_4_method_7_code
def y_P_becomeCopy : MethodName := ⟨"JoinKeeper$Polynomial", "becomeCopy", "(LJoinKeeper$Polynomial;)V"⟩
abbrev b_E_readRestOfNegative : ByteArray := prog_2_method_8_code
def y_E_readRestOfNegative : MethodName := ⟨"JoinKeeper$Evaluator", "readRestOfNegative", "(LJoinKeeper$Text;I)Z"⟩
abbrev b_P_becomeNegative : ByteArray := prog_4_method_8_code
def y_P_becomeNegative : MethodName := ⟨"JoinKeeper$Polynomial", "becomeNegative", "(LJoinKeeper$Polynomial;)V"⟩
abbrev b_P_becomeColumn : ByteArray := prog_4_method_6_code
def y_P_becomeColumn : MethodName := ⟨"JoinKeeper$Polynomial", "becomeColumn", "(I)V"⟩
abbrev b_P_becomeProduct : ByteArray := prog_4_method_10_code
def y_P_becomeProduct : MethodName := ⟨"JoinKeeper$Polynomial", "becomeProduct", "(LJoinKeeper$Polynomial;LJoinKeeper$Polynomial;)Z"⟩
abbrev b_P_powersFit : ByteArray := prog_4_method_11_code
def y_P_powersFit : MethodName := ⟨"JoinKeeper$Polynomial", "powersFit", "(II)Z"⟩
abbrev b_P_powerAt : ByteArray := prog_4_method_2_code
def y_P_powerAt : MethodName := ⟨"JoinKeeper$Polynomial", "powerAt", "(II)I"⟩
abbrev b_P_hasLargeTerms : ByteArray := prog_4_method_12_code
def y_P_hasLargeTerms : MethodName := ⟨"JoinKeeper$Polynomial", "hasLargeTerms", "()Z"⟩
abbrev b_P_terms : ByteArray := prog_4_method_4_code
def y_P_terms : MethodName := ⟨"JoinKeeper$Polynomial", "terms", "()I"⟩
abbrev b_P_add : ByteArray := prog_4_method_9_code
def y_P_add : MethodName := ⟨"JoinKeeper$Polynomial", "add", "(LJoinKeeper$Polynomial;I)Z"⟩
abbrev b_E_result : ByteArray := prog_2_method_3_code
def y_E_result : MethodName := ⟨"JoinKeeper$Evaluator", "result", "()LJoinKeeper$Polynomial;"⟩
abbrev b_Q_become : ByteArray := prog_5_method_2_code
def y_Q_become : MethodName := ⟨"JoinKeeper$Question", "become", "(LJoinKeeper$Grammar;LJoinKeeper$Polynomial;)V"⟩
abbrev b_G_firstRelation : ByteArray := prog_3_method_3_code
def y_G_firstRelation : MethodName := ⟨"JoinKeeper$Grammar", "firstRelation", "()I"⟩
abbrev b_G_lastRelation : ByteArray := prog_3_method_4_code
def y_G_lastRelation : MethodName := ⟨"JoinKeeper$Grammar", "lastRelation", "()I"⟩
abbrev b_G_groupColumn : ByteArray := prog_3_method_8_code
def y_G_groupColumn : MethodName := ⟨"JoinKeeper$Grammar", "groupColumn", "()I"⟩
abbrev b_G_conditions : ByteArray := prog_3_method_6_code
def y_G_conditions : MethodName := ⟨"JoinKeeper$Grammar", "conditions", "()I"⟩
abbrev b_G_allowedIn : ByteArray := prog_3_method_7_code
def y_G_allowedIn : MethodName := ⟨"JoinKeeper$Grammar", "allowedIn", "(I)I"⟩
abbrev b_Q_terms : ByteArray := prog_5_method_5_code
def y_Q_terms : MethodName := ⟨"JoinKeeper$Question", "terms", "()I"⟩
abbrev b_K_fault : ByteArray := prog_1_method_7_code
def y_K_fault : MethodName := ⟨"JoinKeeper", "fault", "()I"⟩
abbrev b_K_drop : ByteArray := prog_1_method_8_code
def y_K_drop : MethodName := ⟨"JoinKeeper", "drop", "(I)I"⟩
abbrev b_K_isAskable : ByteArray := prog_1_method_17_code
def y_K_isAskable : MethodName := ⟨"JoinKeeper", "isAskable", "(I)Z"⟩
abbrev b_Q_isThere : ByteArray := prog_5_method_4_code
def y_Q_isThere : MethodName := ⟨"JoinKeeper$Question", "isThere", "()Z"⟩
abbrev b_Q_remove : ByteArray := prog_5_method_3_code
def y_Q_remove : MethodName := ⟨"JoinKeeper$Question", "remove", "()V"⟩
abbrev b_K_answer : ByteArray := prog_1_method_9_code
def y_K_answer : MethodName := ⟨"JoinKeeper", "answer", "(II)J"⟩
abbrev b_Q_answerFor : ByteArray := prog_5_method_9_code
def y_Q_answerFor : MethodName := ⟨"JoinKeeper$Question", "answerFor", "(LJoinKeeper$Rows;I)J"⟩
abbrev b_Q_sumOver : ByteArray := prog_5_method_10_code
def y_Q_sumOver : MethodName := ⟨"JoinKeeper$Question", "sumOver", "(LJoinKeeper$Rows;I)J"⟩
abbrev b_P_at : ByteArray := prog_4_method_3_code
def y_P_at : MethodName := ⟨"JoinKeeper$Polynomial", "at", "(I)I"⟩
abbrev b_Q_sumOfPowers : ByteArray := prog_5_method_11_code
def y_Q_sumOfPowers : MethodName := ⟨"JoinKeeper$Question", "sumOfPowers", "(LJoinKeeper$Rows;II)J"⟩
abbrev b_Q_share : ByteArray := prog_5_method_13_code
def y_Q_share : MethodName := ⟨"JoinKeeper$Question", "share", "(IIII)J"⟩
abbrev b_Q_joined : ByteArray := prog_5_method_12_code
def y_Q_joined : MethodName := ⟨"JoinKeeper$Question", "joined", "(LJoinKeeper$Rows;I[JI)J"⟩
abbrev b_R_at : ByteArray := prog_6_method_3_code
def y_R_at : MethodName := ⟨"JoinKeeper$Rows", "at", "(I)I"⟩
abbrev b_K_total : ByteArray := prog_1_method_10_code
def y_K_total : MethodName := ⟨"JoinKeeper", "total", "(I)J"⟩
abbrev b_K_count : ByteArray := prog_1_method_11_code
def y_K_count : MethodName := ⟨"JoinKeeper", "count", "(III)J"⟩
abbrev b_K_question : ByteArray := prog_1_method_12_code
def y_K_question : MethodName := ⟨"JoinKeeper", "question", "(II)I"⟩
abbrev b_Q_chain : ByteArray := prog_5_method_6_code
def y_Q_chain : MethodName := ⟨"JoinKeeper$Question", "chain", "()I"⟩
abbrev b_Q_groupColumn : ByteArray := prog_5_method_7_code
def y_Q_groupColumn : MethodName := ⟨"JoinKeeper$Question", "groupColumn", "()I"⟩
abbrev b_Q_conditions : ByteArray := prog_5_method_8_code
def y_Q_conditions : MethodName := ⟨"JoinKeeper$Question", "conditions", "()I"⟩
abbrev b_K_state : ByteArray := prog_1_method_13_code
def y_K_state : MethodName := ⟨"JoinKeeper", "state", "(I)I"⟩
abbrev b_R_filled : ByteArray := prog_6_method_7_code
def y_R_filled : MethodName := ⟨"JoinKeeper$Rows", "filled", "()I"⟩
abbrev b_M_init : ByteArray := prog_9_method_1_code
def y_M_init : MethodName := ⟨"JoinKeeperModel", "<init>", "()V"⟩
abbrev b_M_change : ByteArray := prog_9_method_19_code
def y_M_change : MethodName := ⟨"JoinKeeperModel", "change", "(IIII)I"⟩
abbrev b_M_cell : ByteArray := prog_9_method_18_code
def y_M_cell : MethodName := ⟨"JoinKeeperModel", "cell", "(III)I"⟩
abbrev b_M_in : ByteArray := prog_9_method_2_code
def y_M_in : MethodName := ⟨"JoinKeeperModel", "in", "(II)Z"⟩
abbrev b_M_back : ByteArray := prog_9_method_20_code
def y_M_back : MethodName := ⟨"JoinKeeperModel", "back", "()I"⟩
abbrev b_M_sign : ByteArray := prog_9_method_21_code
def y_M_sign : MethodName := ⟨"JoinKeeperModel", "sign", "(I)I"⟩
abbrev b_M_clear : ByteArray := prog_9_method_22_code
def y_M_clear : MethodName := ⟨"JoinKeeperModel", "clear", "()I"⟩
abbrev b_M_fault : ByteArray := prog_9_method_23_code
def y_M_fault : MethodName := ⟨"JoinKeeperModel", "fault", "()I"⟩
abbrev b_M_read : ByteArray := prog_9_method_17_code
def y_M_read : MethodName := ⟨"JoinKeeperModel", "read", "()I"⟩
abbrev b_M_readChain : ByteArray := prog_9_method_13_code
def y_M_readChain : MethodName := ⟨"JoinKeeperModel", "readChain", "()I"⟩
abbrev b_M_at : ByteArray := prog_9_method_5_code
def y_M_at : MethodName := ⟨"JoinKeeperModel", "at", "(I)I"⟩
abbrev b_M_readExpression : ByteArray := prog_9_method_14_code
def y_M_readExpression : MethodName := ⟨"JoinKeeperModel", "readExpression", "(I)I"⟩
abbrev b_M_begin : ByteArray := prog_9_method_8_code
def y_M_begin : MethodName := ⟨"JoinKeeperModel", "begin", "(I)V"⟩
abbrev b_M_has : ByteArray := prog_9_method_4_code
def y_M_has : MethodName := ⟨"JoinKeeperModel", "has", "(I)Z"⟩
abbrev b_M_letter : ByteArray := prog_9_method_3_code
def y_M_letter : MethodName := ⟨"JoinKeeperModel", "letter", "(I)I"⟩
abbrev b_M_simple : ByteArray := prog_9_method_12_code
def y_M_simple : MethodName := ⟨"JoinKeeperModel", "simple", "(I)V"⟩
abbrev b_M_endFactor : ByteArray := prog_9_method_10_code
def y_M_endFactor : MethodName := ⟨"JoinKeeperModel", "endFactor", "(I)V"⟩
abbrev b_M_multiply : ByteArray := prog_9_method_9_code
def y_M_multiply : MethodName := ⟨"JoinKeeperModel", "multiply", "(I)V"⟩
abbrev b_M_wide : ByteArray := prog_9_method_7_code
def y_M_wide : MethodName := ⟨"JoinKeeperModel", "wide", "(I)I"⟩
abbrev b_M_look : ByteArray := prog_9_method_6_code
def y_M_look : MethodName := ⟨"JoinKeeperModel", "look", "(ZI)V"⟩
abbrev b_M_endTerm : ByteArray := prog_9_method_11_code
def y_M_endTerm : MethodName := ⟨"JoinKeeperModel", "endTerm", "(I)V"⟩
abbrev b_M_readConditions : ByteArray := prog_9_method_15_code
def y_M_readConditions : MethodName := ⟨"JoinKeeperModel", "readConditions", "(I)I"⟩
abbrev b_M_shorter : ByteArray := prog_9_method_16_code
def y_M_shorter : MethodName := ⟨"JoinKeeperModel", "shorter", "(I)I"⟩
abbrev b_M_define : ByteArray := prog_9_method_24_code
def y_M_define : MethodName := ⟨"JoinKeeperModel", "define", "(I)I"⟩
abbrev b_M_drop : ByteArray := prog_9_method_25_code
def y_M_drop : MethodName := ⟨"JoinKeeperModel", "drop", "(I)I"⟩
abbrev b_M_answer : ByteArray := prog_9_method_32_code
def y_M_answer : MethodName := ⟨"JoinKeeperModel", "answer", "(II)J"⟩
abbrev b_M_collect : ByteArray := prog_9_method_31_code
def y_M_collect : MethodName := ⟨"JoinKeeperModel", "collect", "(IIZ)J"⟩
abbrev b_M_of : ByteArray := prog_9_method_26_code
def y_M_of : MethodName := ⟨"JoinKeeperModel", "of", "(II)I"⟩
abbrev b_M_meets : ByteArray := prog_9_method_27_code
def y_M_meets : MethodName := ⟨"JoinKeeperModel", "meets", "(II)Z"⟩
abbrev b_M_weight : ByteArray := prog_9_method_28_code
def y_M_weight : MethodName := ⟨"JoinKeeperModel", "weight", "(II)J"⟩
abbrev b_M_value : ByteArray := prog_9_method_30_code
def y_M_value : MethodName := ⟨"JoinKeeperModel", "value", "(II)J"⟩
abbrev b_M_power : ByteArray := prog_9_method_29_code
def y_M_power : MethodName := ⟨"JoinKeeperModel", "power", "(II)I"⟩
abbrev b_M_total : ByteArray := prog_9_method_33_code
def y_M_total : MethodName := ⟨"JoinKeeperModel", "total", "(I)J"⟩
abbrev b_M_count : ByteArray := prog_9_method_34_code
def y_M_count : MethodName := ⟨"JoinKeeperModel", "count", "(III)J"⟩
abbrev b_M_question : ByteArray := prog_9_method_35_code
def y_M_question : MethodName := ⟨"JoinKeeperModel", "question", "(II)I"⟩
abbrev b_M_state : ByteArray := prog_9_method_36_code
def y_M_state : MethodName := ⟨"JoinKeeperModel", "state", "(I)I"⟩
abbrev xml : List (String × Nat × MethodName × String) := [("JoinKeeper", 9, y_R_init, "JoinKeeper"), ("JoinKeeper", 18, y_T_init, "JoinKeeper"), ("JoinKeeper", 25, y_G_init, "JoinKeeper"), ("JoinKeeper$Evaluator", 23, y_P_init, "JoinKeeper"), ("JoinKeeper", 43, y_Q_init, "JoinKeeper"), ("JoinKeeper$Question", 17, y_P_init, "JoinKeeper")]
abbrev xao : List String := ["JoinKeeper$Polynomial", "JoinKeeper$Question"]
end
section
/-! X: the machine over NAMED cells. A cell's name is a number below N; values, locals, stack and cells speak of names; xi gives the address. -/
abbrev xE : Type := (Nat × vp_A) ⊕ (Nat × List Value)
abbrev xHp : Type := Nat → xE
/-- what is fixed for a run: classes' numbers and slots, array classes, the first address, the special addresses, the heap at the start -/
abbrev xO : Type := va_G × (Nat → ClassId) × Nat × (Nat → Nat) × Heap
def xi (Ω : xO) (k : Nat) : Nat := if k < 1000000 then Ω.2.2.1 + k else Ω.2.2.2.1 (k - 1000000)
def xv (Ω : xO) : Value → Value
  | .ref k => .ref (xi Ω k)
  | .int x => .int x
  | .long x => .long x
  | .float x => .float x
  | .double x => .double x
  | .null => .null
  | .retAddr x => .retAddr x
def xa (Ω : xO) (a : vp_A) : vp_A := (a.1, match a.2 with
  | .inl f => .inl f
  | .inr (.inl f) => .inr (.inl f)
  | .inr (.inr (.inl f)) => .inr (.inr (.inl f))
  | .inr (.inr (.inr (.inl f))) => .inr (.inr (.inr (.inl f)))
  | .inr (.inr (.inr (.inr f))) => .inr (.inr (.inr (.inr (fun j => (f j).map (xi Ω))))))
def xc (Ω : xO) : xE → va_E
  | .inl (t, a) => .inl (Ω.2.1 t, xa Ω a)
  | .inr (ci, fs) => .inr (ci, fs.map (xv Ω))
/-- the heap holds the cells h 0 .. h (N-1) from the first address on; what lay below is as at the start -/
def xH (Ω : xO) (N : Nat) (h : xHp) (H : Heap) : Prop :=
  N ≤ 1000000 ∧ H.size = Ω.2.2.1 + N ∧ Ω.2.2.2.2.size = Ω.2.2.1 ∧ (∀ q : Nat, q < Ω.2.2.1 → H[q]? = Ω.2.2.2.2[q]?) ∧ ∀ k : Nat, k < N → va_at Ω.1 xcl (Ω.2.2.1 + k, xc Ω (h k)) H
def xl (Ω : xO) : Nat → List (Option Value) → List (Nat × Value)
  | _, [] => []
  | i, none :: t => xl Ω (i + 1) t
  | i, some v :: t => (i, xv Ω v) :: xl Ω (i + 1) t
def xtys (tc : Nat → ClassId) : List (ClassId × FieldType) := xtl.mapIdx (fun t ty => (tc t, ty))
/-- static tables that nobody writes -/
def xst (Ω : xO) (U : State) : Prop := (∀ (i : Nat) (q : xS), xsl[i]? = some q →
  va_Z q.1 q.2.1 q.2.2.1 (.ref (Ω.2.2.2.1 (i + 1))) (fun a => Ω.2.2.1 ≤ a) U Ω.2.2.2.2 ∧ va_T q.2.2.2.1 (Ω.2.2.2.1 (i + 1)) q.2.2.2.2.1 q.2.2.2.2.2 (fun a => Ω.2.2.1 ≤ a) U Ω.2.2.2.2) ∧ (∀ q ∈ xml, va_Nw (.methodLinkNest q.1 q.2.1 q.2.2.1 q.2.2.2) U) ∧ ∀ E ∈ xao, va_AO E U
abbrev xG : Type := Program × Launch × Env × Room × State × MethodId × Array Value × List Frame × Method × Code × xO
def XC (p : Program) (R : Room) (s : State) (m : MethodId) (args : Array Value) (meth : Method) (c : Code) (Ω : xO) (y : MethodName) (cc : ByteArray) (nL : Nat) (ret : Option FieldType) (dd : Nat × Nat × Nat) : Prop :=
  p.tables.exec = Jvm.exec ∧ c.code = cc ∧ c.maxLocals = nL ∧ s.vm.findClass y.cls = some m.cls ∧ (∀ w ∈ xBIG, w.before args s = true) ∧ va_K Ω.1 xcl (xtys Ω.2.1) s ∧ xst Ω s ∧ meth.locks = false ∧ meth.sig.returnType = ret ∧ meth.name = y.name ∧ dd.1 ≤ R.frames ∧ 48 * dd.1 ≤ R.locals ∧ dd.2.1 ≤ R.cells ∧ dd.2.2 ≤ R.slots
section XCP
variable {p : Program} {R : Room} {s : State} {m : MethodId} {args : Array Value} {meth : Method} {c : Code} {Ω : xO} {y : MethodName} {cc : ByteArray} {nL : Nat} {ret : Option FieldType} {dd : Nat × Nat × Nat}
theorem XC.ex (C : XC p R s m args meth c Ω y cc nL ret dd) : p.tables.exec = Jvm.exec := And.left C
theorem XC.co (C : XC p R s m args meth c Ω y cc nL ret dd) : c.code = cc := C.2.1
theorem XC.ml (C : XC p R s m args meth c Ω y cc nL ret dd) : c.maxLocals = nL := C.2.2.1
theorem XC.ow (C : XC p R s m args meth c Ω y cc nL ret dd) : s.vm.findClass y.cls = some m.cls := C.2.2.2.1
theorem XC.ts (C : XC p R s m args meth c Ω y cc nL ret dd) : ∀ w ∈ xBIG, w.before args s = true := C.2.2.2.2.1
theorem XC.K (C : XC p R s m args meth c Ω y cc nL ret dd) : va_K Ω.1 xcl (xtys Ω.2.1) s := C.2.2.2.2.2.1
theorem XC.st (C : XC p R s m args meth c Ω y cc nL ret dd) : xst Ω s := C.2.2.2.2.2.2.1
theorem XC.lk (C : XC p R s m args meth c Ω y cc nL ret dd) : meth.locks = false := C.2.2.2.2.2.2.2.1
theorem XC.rt (C : XC p R s m args meth c Ω y cc nL ret dd) : meth.sig.returnType = ret := C.2.2.2.2.2.2.2.2.1
theorem XC.nm (C : XC p R s m args meth c Ω y cc nL ret dd) : meth.name = y.name := C.2.2.2.2.2.2.2.2.2.1
theorem XC.fr (C : XC p R s m args meth c Ω y cc nL ret dd) : dd.1 ≤ R.frames := C.2.2.2.2.2.2.2.2.2.2.1
theorem XC.lo (C : XC p R s m args meth c Ω y cc nL ret dd) : 48 * dd.1 ≤ R.locals := C.2.2.2.2.2.2.2.2.2.2.2.1
theorem XC.cap (C : XC p R s m args meth c Ω y cc nL ret dd) : dd.2.1 ≤ R.cells ∧ dd.2.2 ≤ R.slots := C.2.2.2.2.2.2.2.2.2.2.2.2
end XCP
def XW (Γ : xG) (y : MethodName) (cc : ByteArray) (nL : Nat) (ret : Option FieldType) (dd : Nat × Nat × Nat) (Q : State → Prop) (ce sl N : Nat) (h : xHp) (pc : Nat) (lv : List (Option Value)) (st : List Value) : Prop :=
  match Γ with
  | (p, l, e, R, s, m, args, below, meth, c, Ω) => XC p R s m args meth c Ω y cc nL ret dd → ∀ (H : Heap) (locs : List Loc) (ls : Array Slot), xH Ω N h H → (∀ q ∈ locs, Ω.2.2.1 ≤ q.base) → lv_has ls nL (xl Ω 0 lv) → W p l e R s m args below meth c H locs ce sl Q (F0 m pc ls (st.map (xv Ω)))
theorem xv_cat (Ω : xO) (v : Value) : (xv Ω v).category = v.category := by cases v <;> rfl
theorem xi_lt {Ω : xO} {k : Nat} (h : k < 1000000) : xi Ω k = Ω.2.2.1 + k := if_pos h
theorem xl_mem {Ω : xO} : ∀ (lv : List (Option Value)) (k i : Nat) (v : Value), lv[i]? = some (some v) → (k + i, xv Ω v) ∈ xl Ω k lv
  | [], k, i, v, h => by simp at h
  | none :: t, k, 0, v, h => by simp at h
  | none :: t, k, i + 1, v, h => by
    have h1 := xl_mem (Ω := Ω) t (k + 1) i v (by simpa using h)
    rw [show k + (i + 1) = k + 1 + i by omega]
    exact h1
  | some w :: t, k, 0, v, h => by
    have h1 : w = v := by simpa using h
    subst h1
    exact List.mem_cons_self
  | some w :: t, k, i + 1, v, h => by
    have h1 := xl_mem (Ω := Ω) t (k + 1) i v (by simpa using h)
    rw [show k + (i + 1) = k + 1 + i by omega]
    exact List.mem_cons_of_mem _ h1
theorem xl_of {Ω : xO} : ∀ (lv : List (Option Value)) (k : Nat) (q : Nat × Value), q ∈ xl Ω k lv → ∃ (i : Nat) (v : Value), q.1 = k + i ∧ lv[i]? = some (some v) ∧ q.2 = xv Ω v
  | [], k, q, h => by simp [xl] at h
  | none :: t, k, q, h => by
    obtain ⟨i, v, h1, h2, h3⟩ := xl_of t (k + 1) q h
    exact ⟨i + 1, v, by omega, by simpa using h2, h3⟩
  | some w :: t, k, q, h => by
    rcases List.mem_cons.mp h with h | h
    · subst h
      exact ⟨0, w, rfl, rfl, rfl⟩
    · obtain ⟨i, v, h1, h2, h3⟩ := xl_of t (k + 1) q h
      exact ⟨i + 1, v, by omega, by simpa using h2, h3⟩
theorem xl_at {Ω : xO} {ls : Array Slot} {nL i : Nat} {lv : List (Option Value)} {v : Value} (h : lv_has ls nL (xl Ω 0 lv)) (hl : lv[i]? = some (some v)) : ls[i]? = some (.val (xv Ω v)) := by
  have h1 := h.2.2 _ (xl_mem lv 0 i v hl)
  simpa using h1
theorem xl_sub {ls : Array Slot} {nL : Nat} {l l' : List (Nat × Value)} (h : lv_has ls nL l) (hs : ∀ q ∈ l', q ∈ l) : lv_has ls nL l' := ⟨h.1, h.2.1, fun q hq => h.2.2 q (hs q hq)⟩
/-- the place before i is no long -/
def xn2 (lv : List (Option Value)) : Nat → Bool
  | 0 => true
  | i + 1 => match lv[i]? with
    | some (some (.long _)) => false
    | some (some (.double _)) => false
    | _ => true
theorem xn2_cat {lv : List (Option Value)} {i : Nat} {v : Value} (h : xn2 lv (i + 1) = true) (hv : lv[i]? = some (some v)) : ¬ v.category = 2 := by
  simp only [xn2, hv] at h
  cases v <;> simp [Value.category] at h ⊢
theorem xl_set1 {Ω : xO} {lv : List (Option Value)} {i : Nat} {v : Value} (hn : xn2 lv i = true) : ∀ q ∈ xl Ω 0 (lv.set i (some v)), q ∈ (i, xv Ω v) :: (xl Ω 0 lv).filter (fun q => !(q.1 == i) && !(q.1 + 1 == i && q.2.category == 2)) := by
  intro q hq
  obtain ⟨j, w, h1, h2, h3⟩ := xl_of _ 0 q hq
  have hq' : q = (j, xv Ω w) := Prod.ext (by simpa using h1) h3
  subst hq'
  by_cases hj : j = i
  · subst hj
    have hl : j < lv.length := by
      have := (List.getElem?_eq_some_iff.mp h2).1
      simpa using this
    rw [List.getElem?_set_self hl] at h2
    cases h2
    exact List.mem_cons_self
  · rw [List.getElem?_set_ne (Ne.symm hj)] at h2
    refine List.mem_cons_of_mem _ (List.mem_filter.mpr ⟨by simpa using xl_mem (Ω := Ω) lv 0 j w h2, ?_⟩)
    have h5 : ¬ (j + 1 = i ∧ (xv Ω w).category = 2) := by
      rintro ⟨e1, e2⟩
      subst e1
      rw [xv_cat] at e2
      exact xn2_cat hn h2 e2
    simp only [Bool.and_eq_true, Bool.not_eq_true', beq_eq_false_iff_ne, ne_eq, Bool.and_eq_false_iff]
    refine ⟨hj, ?_⟩
    by_cases e1 : j + 1 = i
    · exact Or.inr (fun e2 => h5 ⟨e1, e2⟩)
    · exact Or.inl e1
theorem xl_set2 {Ω : xO} {lv : List (Option Value)} {i : Nat} {v : Value} (hn : xn2 lv i = true) : ∀ q ∈ xl Ω 0 ((lv.set i (some v)).set (i + 1) none), q ∈ (i, xv Ω v) :: (xl Ω 0 lv).filter (fun q => !(q.1 == i) && (!(q.1 == i + 1) && !(q.1 + 1 == i && q.2.category == 2))) := by
  intro q hq
  obtain ⟨j, w, h1, h2, h3⟩ := xl_of _ 0 q hq
  have hq' : q = (j, xv Ω w) := Prod.ext (by simpa using h1) h3
  subst hq'
  have hl2 := (List.getElem?_eq_some_iff.mp h2).1
  simp only [List.length_set] at hl2
  by_cases hj1 : j = i + 1
  · subst hj1
    rw [List.getElem?_set_self (by simpa using hl2)] at h2
    cases h2
  · rw [List.getElem?_set_ne (Ne.symm hj1)] at h2
    by_cases hj : j = i
    · subst hj
      rw [List.getElem?_set_self hl2] at h2
      cases h2
      exact List.mem_cons_self
    · rw [List.getElem?_set_ne (Ne.symm hj)] at h2
      refine List.mem_cons_of_mem _ (List.mem_filter.mpr ⟨by simpa using xl_mem (Ω := Ω) lv 0 j w h2, ?_⟩)
      have h5 : ¬ (j + 1 = i ∧ (xv Ω w).category = 2) := by
        rintro ⟨e1, e2⟩
        subst e1
        rw [xv_cat] at e2
        exact xn2_cat hn h2 e2
      simp only [Bool.and_eq_true, Bool.not_eq_true', beq_eq_false_iff_ne, ne_eq, Bool.and_eq_false_iff]
      refine ⟨hj, hj1, ?_⟩
      by_cases e1 : j + 1 = i
      · exact Or.inr (fun e2 => h5 ⟨e1, e2⟩)
      · exact Or.inl e1
section XR
variable {Γ : xG} {y : MethodName} {cc : ByteArray} {nL : Nat} {ret : Option FieldType} {dd : Nat × Nat × Nat} {Q : State → Prop} {ce sl N : Nat} {h : xHp} {pc : Nat} {lv : List (Option Value)} {st : List Value}
theorem x_iconst {n : Int} {v : Int32} (d : decode cc pc = .ok (.iconst n, 1)) (hw : Int32.ofInt n = v) (k : XW Γ y cc nL ret dd Q ce sl N h (pc + 1) lv (.int v :: st)) : XW Γ y cc nL ret dd Q ce sl N h pc lv st := by
  obtain ⟨p, l, e, R, s, m, args, below, meth, c, Ω⟩ := Γ
  intro C H locs ls hH hl hv
  exact lv_iconst C.ex C.co d hw (k C H locs ls hH hl hv)
theorem x_bipush {n : Int} {v : Int32} (d : decode cc pc = .ok (.bipush n, 2)) (hw : (Int8.ofInt n).toInt32 = v) (k : XW Γ y cc nL ret dd Q ce sl N h (pc + 2) lv (.int v :: st)) : XW Γ y cc nL ret dd Q ce sl N h pc lv st := by
  obtain ⟨p, l, e, R, s, m, args, below, meth, c, Ω⟩ := Γ
  intro C H locs ls hH hl hv
  exact lv_bipush C.ex C.co d hw (k C H locs ls hH hl hv)
theorem x_sipush {n : Int} {v : Int32} (d : decode cc pc = .ok (.sipush n, 3)) (hw : (Int16.ofInt n).toInt32 = v) (k : XW Γ y cc nL ret dd Q ce sl N h (pc + 3) lv (.int v :: st)) : XW Γ y cc nL ret dd Q ce sl N h pc lv st := by
  obtain ⟨p, l, e, R, s, m, args, below, meth, c, Ω⟩ := Γ
  intro C H locs ls hH hl hv
  exact lv_sipush C.ex C.co d hw (k C H locs ls hH hl hv)
theorem x_lconst {n : Fin 2} {v : Int64} (d : decode cc pc = .ok (.lconst n, 1)) (hw : Int64.ofNat (n : Nat) = v) (k : XW Γ y cc nL ret dd Q ce sl N h (pc + 1) lv (.long v :: st)) : XW Γ y cc nL ret dd Q ce sl N h pc lv st := by
  obtain ⟨p, l, e, R, s, m, args, below, meth, c, Ω⟩ := Γ
  intro C H locs ls hH hl hv
  exact lv_lconst C.ex C.co d hw (k C H locs ls hH hl hv)
theorem x_null  (d : decode cc pc = .ok (.aconst_null, 1)) (k : XW Γ y cc nL ret dd Q ce sl N h (pc + 1) lv (.null :: st)) : XW Γ y cc nL ret dd Q ce sl N h pc lv st := by
  obtain ⟨p, l, e, R, s, m, args, below, meth, c, Ω⟩ := Γ
  intro C H locs ls hH hl hv
  exact lv_null C.ex C.co d (k C H locs ls hH hl hv)
theorem x_ldc {index : Nat} {v : Int32} (w : Jvm.Cond.constant y.cls index v ∈ xBIG) (d : decode cc pc = .ok (.ldc index, 2)) (k : XW Γ y cc nL ret dd Q ce sl N h (pc + 2) lv (.int v :: st)) : XW Γ y cc nL ret dd Q ce sl N h pc lv st := by
  obtain ⟨p, l, e, R, s, m, args, below, meth, c, Ω⟩ := Γ
  intro C H locs ls hH hl hv
  exact lv_ldc C.ex C.co C.ow (C.ts _ w) d (k C H locs ls hH hl hv)
theorem x_ldc2 {index : Nat} {v : Int64} (w : Jvm.Cond.constantLong y.cls index v ∈ xBIG) (d : decode cc pc = .ok (.ldc2_w index, 3)) (k : XW Γ y cc nL ret dd Q ce sl N h (pc + 3) lv (.long v :: st)) : XW Γ y cc nL ret dd Q ce sl N h pc lv st := by
  obtain ⟨p, l, e, R, s, m, args, below, meth, c, Ω⟩ := Γ
  intro C H locs ls hH hl hv
  exact lv_ldc2 C.ex C.co C.ow (C.ts _ w) d (k C H locs ls hH hl hv)
theorem x_iload_n {j : Fin 4} {x : Int32} (d : decode cc pc = .ok (.iload_n j, 1)) (g : lv[(j : Nat)]? = some (some (.int x))) (k : XW Γ y cc nL ret dd Q ce sl N h (pc + 1) lv (.int x :: st)) : XW Γ y cc nL ret dd Q ce sl N h pc lv st := by
  obtain ⟨p, l, e, R, s, m, args, below, meth, c, Ω⟩ := Γ
  intro C H locs ls hH hl hv
  exact lv_iload_n C.ex C.co d rfl (xl_at hv g) (k C H locs ls hH hl hv)
theorem x_iload {i : Nat} {x : Int32} (d : decode cc pc = .ok (.iload i, 2)) (g : lv[i]? = some (some (.int x))) (k : XW Γ y cc nL ret dd Q ce sl N h (pc + 2) lv (.int x :: st)) : XW Γ y cc nL ret dd Q ce sl N h pc lv st := by
  obtain ⟨p, l, e, R, s, m, args, below, meth, c, Ω⟩ := Γ
  intro C H locs ls hH hl hv
  exact lv_iload C.ex C.co d (xl_at hv g) (k C H locs ls hH hl hv)
theorem x_lload_n {j : Fin 4} {x : Int64} (d : decode cc pc = .ok (.lload_n j, 1)) (g : lv[(j : Nat)]? = some (some (.long x))) (k : XW Γ y cc nL ret dd Q ce sl N h (pc + 1) lv (.long x :: st)) : XW Γ y cc nL ret dd Q ce sl N h pc lv st := by
  obtain ⟨p, l, e, R, s, m, args, below, meth, c, Ω⟩ := Γ
  intro C H locs ls hH hl hv
  exact lv_lload_n C.ex C.co d rfl (xl_at hv g) (k C H locs ls hH hl hv)
theorem x_lload {i : Nat} {x : Int64} (d : decode cc pc = .ok (.lload i, 2)) (g : lv[i]? = some (some (.long x))) (k : XW Γ y cc nL ret dd Q ce sl N h (pc + 2) lv (.long x :: st)) : XW Γ y cc nL ret dd Q ce sl N h pc lv st := by
  obtain ⟨p, l, e, R, s, m, args, below, meth, c, Ω⟩ := Γ
  intro C H locs ls hH hl hv
  exact lv_lload C.ex C.co d (xl_at hv g) (k C H locs ls hH hl hv)
theorem x_aload_n {j : Fin 4} {x : Nat} (d : decode cc pc = .ok (.aload_n j, 1)) (g : lv[(j : Nat)]? = some (some (.ref x))) (k : XW Γ y cc nL ret dd Q ce sl N h (pc + 1) lv (.ref x :: st)) : XW Γ y cc nL ret dd Q ce sl N h pc lv st := by
  obtain ⟨p, l, e, R, s, m, args, below, meth, c, Ω⟩ := Γ
  intro C H locs ls hH hl hv
  exact lv_aload_n C.ex C.co d rfl (xl_at hv g) (k C H locs ls hH hl hv)
theorem x_aload {i : Nat} {x : Nat} (d : decode cc pc = .ok (.aload i, 2)) (g : lv[i]? = some (some (.ref x))) (k : XW Γ y cc nL ret dd Q ce sl N h (pc + 2) lv (.ref x :: st)) : XW Γ y cc nL ret dd Q ce sl N h pc lv st := by
  obtain ⟨p, l, e, R, s, m, args, below, meth, c, Ω⟩ := Γ
  intro C H locs ls hH hl hv
  exact lv_aload C.ex C.co d (xl_at hv g) (k C H locs ls hH hl hv)
theorem x_istore_n {j : Fin 4} {x : Int32} (d : decode cc pc = .ok (.istore_n j, 1)) (hn : (j : Nat) < nL) (g : xn2 lv (j : Nat) = true) (k : XW Γ y cc nL ret dd Q ce sl N h (pc + 1) (lv.set (j : Nat) (some (.int x))) st) : XW Γ y cc nL ret dd Q ce sl N h pc lv (.int x :: st) := by
  obtain ⟨p, l, e, R, s, m, args, below, meth, c, Ω⟩ := Γ
  intro C H locs ls hH hl hv
  exact lv_istore_n C.ex C.co d rfl hv hn rfl (fun ls' hl' => k C H locs ls' hH hl (xl_sub hl' (xl_set1 g)))
theorem x_istore {i : Nat} {x : Int32} (d : decode cc pc = .ok (.istore i, 2)) (hn : i < nL) (g : xn2 lv i = true) (k : XW Γ y cc nL ret dd Q ce sl N h (pc + 2) (lv.set i (some (.int x))) st) : XW Γ y cc nL ret dd Q ce sl N h pc lv (.int x :: st) := by
  obtain ⟨p, l, e, R, s, m, args, below, meth, c, Ω⟩ := Γ
  intro C H locs ls hH hl hv
  exact lv_istore C.ex C.co d hv hn rfl (fun ls' hl' => k C H locs ls' hH hl (xl_sub hl' (xl_set1 g)))
theorem x_astore_n {j : Fin 4} {x : Nat} (d : decode cc pc = .ok (.astore_n j, 1)) (hn : (j : Nat) < nL) (g : xn2 lv (j : Nat) = true) (k : XW Γ y cc nL ret dd Q ce sl N h (pc + 1) (lv.set (j : Nat) (some (.ref x))) st) : XW Γ y cc nL ret dd Q ce sl N h pc lv (.ref x :: st) := by
  obtain ⟨p, l, e, R, s, m, args, below, meth, c, Ω⟩ := Γ
  intro C H locs ls hH hl hv
  exact lv_astore_n C.ex C.co d rfl hv hn rfl (fun ls' hl' => k C H locs ls' hH hl (xl_sub hl' (xl_set1 g)))
theorem x_astore {i : Nat} {x : Nat} (d : decode cc pc = .ok (.astore i, 2)) (hn : i < nL) (g : xn2 lv i = true) (k : XW Γ y cc nL ret dd Q ce sl N h (pc + 2) (lv.set i (some (.ref x))) st) : XW Γ y cc nL ret dd Q ce sl N h pc lv (.ref x :: st) := by
  obtain ⟨p, l, e, R, s, m, args, below, meth, c, Ω⟩ := Γ
  intro C H locs ls hH hl hv
  exact lv_astore C.ex C.co d hv hn rfl (fun ls' hl' => k C H locs ls' hH hl (xl_sub hl' (xl_set1 g)))
theorem x_lstore_n {j : Fin 4} {x : Int64} (d : decode cc pc = .ok (.lstore_n j, 1)) (hn : (j : Nat) + 1 < nL) (g : xn2 lv (j : Nat) = true) (k : XW Γ y cc nL ret dd Q ce sl N h (pc + 1) ((lv.set (j : Nat) (some (.long x))).set ((j : Nat) + 1) none) st) : XW Γ y cc nL ret dd Q ce sl N h pc lv (.long x :: st) := by
  obtain ⟨p, l, e, R, s, m, args, below, meth, c, Ω⟩ := Γ
  intro C H locs ls hH hl hv
  exact lv_lstore_n C.ex C.co d rfl hv hn rfl (fun ls' hl' => k C H locs ls' hH hl (xl_sub hl' (xl_set2 g)))
theorem x_lstore {i : Nat} {x : Int64} (d : decode cc pc = .ok (.lstore i, 2)) (hn : i + 1 < nL) (g : xn2 lv i = true) (k : XW Γ y cc nL ret dd Q ce sl N h (pc + 2) ((lv.set i (some (.long x))).set (i + 1) none) st) : XW Γ y cc nL ret dd Q ce sl N h pc lv (.long x :: st) := by
  obtain ⟨p, l, e, R, s, m, args, below, meth, c, Ω⟩ := Γ
  intro C H locs ls hH hl hv
  exact lv_lstore C.ex C.co d hv hn rfl (fun ls' hl' => k C H locs ls' hH hl (xl_sub hl' (xl_set2 g)))
theorem x_iinc {i : Nat} {n : Int} {x v : Int32} (d : decode cc pc = .ok (.iinc i n, 3)) (g : lv[i]? = some (some (.int x))) (hx : x + Int32.ofInt n = v) (hn : i < nL) (g2 : xn2 lv i = true) (k : XW Γ y cc nL ret dd Q ce sl N h (pc + 3) (lv.set i (some (.int v))) st) : XW Γ y cc nL ret dd Q ce sl N h pc lv st := by
  obtain ⟨p, l, e, R, s, m, args, below, meth, c, Ω⟩ := Γ
  intro C H locs ls hH hl hv
  obtain ⟨j, hj⟩ := List.getElem?_of_mem (xl_mem (Ω := Ω) lv 0 i _ g)
  rw [Nat.zero_add] at hj
  exact lv_iinc C.ex C.co d hv hj hx hn rfl (fun ls' hl' => k C H locs ls' hH hl (xl_sub hl' (xl_set1 g2)))
theorem x_iadd {x y₁ : Int32} (d : decode cc pc = .ok (.iadd, 1)) (k : XW Γ y cc nL ret dd Q ce sl N h (pc + 1) lv (.int (x + y₁) :: st)) : XW Γ y cc nL ret dd Q ce sl N h pc lv (.int y₁ :: .int x :: st) := by
  obtain ⟨p, l, e, R, s, m, args, below, meth, c, Ω⟩ := Γ
  intro C H locs ls hH hl hv
  exact lv_iadd C.ex C.co d (k C H locs ls hH hl hv)
theorem x_isub {x y₁ : Int32} (d : decode cc pc = .ok (.isub, 1)) (k : XW Γ y cc nL ret dd Q ce sl N h (pc + 1) lv (.int (x - y₁) :: st)) : XW Γ y cc nL ret dd Q ce sl N h pc lv (.int y₁ :: .int x :: st) := by
  obtain ⟨p, l, e, R, s, m, args, below, meth, c, Ω⟩ := Γ
  intro C H locs ls hH hl hv
  exact lv_isub C.ex C.co d (k C H locs ls hH hl hv)
theorem x_imul {x y₁ : Int32} (d : decode cc pc = .ok (.imul, 1)) (k : XW Γ y cc nL ret dd Q ce sl N h (pc + 1) lv (.int (x * y₁) :: st)) : XW Γ y cc nL ret dd Q ce sl N h pc lv (.int y₁ :: .int x :: st) := by
  obtain ⟨p, l, e, R, s, m, args, below, meth, c, Ω⟩ := Γ
  intro C H locs ls hH hl hv
  exact lv_imul C.ex C.co d (k C H locs ls hH hl hv)
theorem x_iand {x y₁ : Int32} (d : decode cc pc = .ok (.iand, 1)) (k : XW Γ y cc nL ret dd Q ce sl N h (pc + 1) lv (.int (x &&& y₁) :: st)) : XW Γ y cc nL ret dd Q ce sl N h pc lv (.int y₁ :: .int x :: st) := by
  obtain ⟨p, l, e, R, s, m, args, below, meth, c, Ω⟩ := Γ
  intro C H locs ls hH hl hv
  exact lv_iand C.ex C.co d (k C H locs ls hH hl hv)
theorem x_ior {x y₁ : Int32} (d : decode cc pc = .ok (.ior, 1)) (k : XW Γ y cc nL ret dd Q ce sl N h (pc + 1) lv (.int (x ||| y₁) :: st)) : XW Γ y cc nL ret dd Q ce sl N h pc lv (.int y₁ :: .int x :: st) := by
  obtain ⟨p, l, e, R, s, m, args, below, meth, c, Ω⟩ := Γ
  intro C H locs ls hH hl hv
  exact lv_ior C.ex C.co d (k C H locs ls hH hl hv)
theorem x_ixor {x y₁ : Int32} (d : decode cc pc = .ok (.ixor, 1)) (k : XW Γ y cc nL ret dd Q ce sl N h (pc + 1) lv (.int (x ^^^ y₁) :: st)) : XW Γ y cc nL ret dd Q ce sl N h pc lv (.int y₁ :: .int x :: st) := by
  obtain ⟨p, l, e, R, s, m, args, below, meth, c, Ω⟩ := Γ
  intro C H locs ls hH hl hv
  exact lv_ixor C.ex C.co d (k C H locs ls hH hl hv)
theorem x_ishl {x y₁ : Int32} (d : decode cc pc = .ok (.ishl, 1)) (k : XW Γ y cc nL ret dd Q ce sl N h (pc + 1) lv (.int (x <<< (y₁ &&& 31)) :: st)) : XW Γ y cc nL ret dd Q ce sl N h pc lv (.int y₁ :: .int x :: st) := by
  obtain ⟨p, l, e, R, s, m, args, below, meth, c, Ω⟩ := Γ
  intro C H locs ls hH hl hv
  exact lv_ishl C.ex C.co d (k C H locs ls hH hl hv)
theorem x_ishr {x y₁ : Int32} (d : decode cc pc = .ok (.ishr, 1)) (k : XW Γ y cc nL ret dd Q ce sl N h (pc + 1) lv (.int (x >>> (y₁ &&& 31)) :: st)) : XW Γ y cc nL ret dd Q ce sl N h pc lv (.int y₁ :: .int x :: st) := by
  obtain ⟨p, l, e, R, s, m, args, below, meth, c, Ω⟩ := Γ
  intro C H locs ls hH hl hv
  exact lv_ishr C.ex C.co d (k C H locs ls hH hl hv)
theorem x_idiv {x y₁ : Int32} (d : decode cc pc = .ok (.idiv, 1)) (hz : ¬ y₁ = 0) (k : XW Γ y cc nL ret dd Q ce sl N h (pc + 1) lv (.int (x / y₁) :: st)) : XW Γ y cc nL ret dd Q ce sl N h pc lv (.int y₁ :: .int x :: st) := by
  obtain ⟨p, l, e, R, s, m, args, below, meth, c, Ω⟩ := Γ
  intro C H locs ls hH hl hv
  exact lv_idiv C.ex C.co d hz (k C H locs ls hH hl hv)
theorem x_irem {x y₁ : Int32} (d : decode cc pc = .ok (.irem, 1)) (hz : ¬ y₁ = 0) (k : XW Γ y cc nL ret dd Q ce sl N h (pc + 1) lv (.int (x - x / y₁ * y₁) :: st)) : XW Γ y cc nL ret dd Q ce sl N h pc lv (.int y₁ :: .int x :: st) := by
  obtain ⟨p, l, e, R, s, m, args, below, meth, c, Ω⟩ := Γ
  intro C H locs ls hH hl hv
  exact lv_irem C.ex C.co d hz (k C H locs ls hH hl hv)
theorem x_ladd {x y₁ : Int64} (d : decode cc pc = .ok (.ladd, 1)) (k : XW Γ y cc nL ret dd Q ce sl N h (pc + 1) lv (.long (x + y₁) :: st)) : XW Γ y cc nL ret dd Q ce sl N h pc lv (.long y₁ :: .long x :: st) := by
  obtain ⟨p, l, e, R, s, m, args, below, meth, c, Ω⟩ := Γ
  intro C H locs ls hH hl hv
  exact lv_ladd C.ex C.co d (k C H locs ls hH hl hv)
theorem x_lsub {x y₁ : Int64} (d : decode cc pc = .ok (.lsub, 1)) (k : XW Γ y cc nL ret dd Q ce sl N h (pc + 1) lv (.long (x - y₁) :: st)) : XW Γ y cc nL ret dd Q ce sl N h pc lv (.long y₁ :: .long x :: st) := by
  obtain ⟨p, l, e, R, s, m, args, below, meth, c, Ω⟩ := Γ
  intro C H locs ls hH hl hv
  exact lv_lsub C.ex C.co d (k C H locs ls hH hl hv)
theorem x_lmul {x y₁ : Int64} (d : decode cc pc = .ok (.lmul, 1)) (k : XW Γ y cc nL ret dd Q ce sl N h (pc + 1) lv (.long (x * y₁) :: st)) : XW Γ y cc nL ret dd Q ce sl N h pc lv (.long y₁ :: .long x :: st) := by
  obtain ⟨p, l, e, R, s, m, args, below, meth, c, Ω⟩ := Γ
  intro C H locs ls hH hl hv
  exact lv_lmul C.ex C.co d (k C H locs ls hH hl hv)
theorem x_land {x y₁ : Int64} (d : decode cc pc = .ok (.land, 1)) (k : XW Γ y cc nL ret dd Q ce sl N h (pc + 1) lv (.long (x &&& y₁) :: st)) : XW Γ y cc nL ret dd Q ce sl N h pc lv (.long y₁ :: .long x :: st) := by
  obtain ⟨p, l, e, R, s, m, args, below, meth, c, Ω⟩ := Γ
  intro C H locs ls hH hl hv
  exact lv_land C.ex C.co d (k C H locs ls hH hl hv)
theorem x_lor {x y₁ : Int64} (d : decode cc pc = .ok (.lor, 1)) (k : XW Γ y cc nL ret dd Q ce sl N h (pc + 1) lv (.long (x ||| y₁) :: st)) : XW Γ y cc nL ret dd Q ce sl N h pc lv (.long y₁ :: .long x :: st) := by
  obtain ⟨p, l, e, R, s, m, args, below, meth, c, Ω⟩ := Γ
  intro C H locs ls hH hl hv
  exact lv_lor C.ex C.co d (k C H locs ls hH hl hv)
theorem x_lxor {x y₁ : Int64} (d : decode cc pc = .ok (.lxor, 1)) (k : XW Γ y cc nL ret dd Q ce sl N h (pc + 1) lv (.long (x ^^^ y₁) :: st)) : XW Γ y cc nL ret dd Q ce sl N h pc lv (.long y₁ :: .long x :: st) := by
  obtain ⟨p, l, e, R, s, m, args, below, meth, c, Ω⟩ := Γ
  intro C H locs ls hH hl hv
  exact lv_lxor C.ex C.co d (k C H locs ls hH hl hv)
theorem x_ineg {x : Int32} (d : decode cc pc = .ok (.ineg, 1)) (k : XW Γ y cc nL ret dd Q ce sl N h (pc + 1) lv (.int (-x) :: st)) : XW Γ y cc nL ret dd Q ce sl N h pc lv (.int x :: st) := by
  obtain ⟨p, l, e, R, s, m, args, below, meth, c, Ω⟩ := Γ
  intro C H locs ls hH hl hv
  exact lv_ineg C.ex C.co d (k C H locs ls hH hl hv)
theorem x_lneg {x : Int64} (d : decode cc pc = .ok (.lneg, 1)) (k : XW Γ y cc nL ret dd Q ce sl N h (pc + 1) lv (.long (-x) :: st)) : XW Γ y cc nL ret dd Q ce sl N h pc lv (.long x :: st) := by
  obtain ⟨p, l, e, R, s, m, args, below, meth, c, Ω⟩ := Γ
  intro C H locs ls hH hl hv
  exact lv_lneg C.ex C.co d (k C H locs ls hH hl hv)
theorem x_i2l {x : Int32} (d : decode cc pc = .ok (.i2l, 1)) (k : XW Γ y cc nL ret dd Q ce sl N h (pc + 1) lv (.long x.toInt64 :: st)) : XW Γ y cc nL ret dd Q ce sl N h pc lv (.int x :: st) := by
  obtain ⟨p, l, e, R, s, m, args, below, meth, c, Ω⟩ := Γ
  intro C H locs ls hH hl hv
  exact lv_i2l C.ex C.co d rfl (k C H locs ls hH hl hv)
theorem x_l2i {x : Int64} (d : decode cc pc = .ok (.l2i, 1)) (k : XW Γ y cc nL ret dd Q ce sl N h (pc + 1) lv (.int x.toInt32 :: st)) : XW Γ y cc nL ret dd Q ce sl N h pc lv (.long x :: st) := by
  obtain ⟨p, l, e, R, s, m, args, below, meth, c, Ω⟩ := Γ
  intro C H locs ls hH hl hv
  exact lv_l2i C.ex C.co d rfl (k C H locs ls hH hl hv)
theorem x_i2c {x : Int32} (d : decode cc pc = .ok (.i2c, 1)) (k : XW Γ y cc nL ret dd Q ce sl N h (pc + 1) lv (.int (x.toUInt32 % 65536).toInt32 :: st)) : XW Γ y cc nL ret dd Q ce sl N h pc lv (.int x :: st) := by
  obtain ⟨p, l, e, R, s, m, args, below, meth, c, Ω⟩ := Γ
  intro C H locs ls hH hl hv
  exact lv_i2c C.ex C.co d rfl (k C H locs ls hH hl hv)
theorem x_lcmp {x y₁ : Int64} (d : decode cc pc = .ok (.lcmp, 1)) (k : XW Γ y cc nL ret dd Q ce sl N h (pc + 1) lv (.int (lg_cmp x y₁) :: st)) : XW Γ y cc nL ret dd Q ce sl N h pc lv (.long y₁ :: .long x :: st) := by
  obtain ⟨p, l, e, R, s, m, args, below, meth, c, Ω⟩ := Γ
  intro C H locs ls hH hl hv
  exact W.lcmp C.ex C.co d (k C H locs ls hH hl hv)
theorem x_dup {a : Value} (d : decode cc pc = .ok (.dup, 1)) (ha : a.category = 1) (k : XW Γ y cc nL ret dd Q ce sl N h (pc + 1) lv (a :: a :: st)) : XW Γ y cc nL ret dd Q ce sl N h pc lv (a :: st) := by
  obtain ⟨p, l, e, R, s, m, args, below, meth, c, Ω⟩ := Γ
  intro C H locs ls hH hl hv
  exact lv_dup C.ex C.co d (by rw [xv_cat]; exact ha) (k C H locs ls hH hl hv)
theorem x_pop {a : Value} (d : decode cc pc = .ok (.pop, 1)) (ha : a.category = 1) (k : XW Γ y cc nL ret dd Q ce sl N h (pc + 1) lv st) : XW Γ y cc nL ret dd Q ce sl N h pc lv (a :: st) := by
  obtain ⟨p, l, e, R, s, m, args, below, meth, c, Ω⟩ := Γ
  intro C H locs ls hH hl hv
  exact lv_pop C.ex C.co d (by rw [xv_cat]; exact ha) (k C H locs ls hH hl hv)
theorem x_dup_x1 {a b : Value} (d : decode cc pc = .ok (.dup_x1, 1)) (ha : a.category = 1) (hb : b.category = 1) (k : XW Γ y cc nL ret dd Q ce sl N h (pc + 1) lv (a :: b :: a :: st)) : XW Γ y cc nL ret dd Q ce sl N h pc lv (a :: b :: st) := by
  obtain ⟨p, l, e, R, s, m, args, below, meth, c, Ω⟩ := Γ
  intro C H locs ls hH hl hv
  exact lv_dup_x1 C.ex C.co d (by rw [xv_cat]; exact ha) (by rw [xv_cat]; exact hb) (k C H locs ls hH hl hv)
theorem x_dup_x2 {a b b2 : Value} (d : decode cc pc = .ok (.dup_x2, 1)) (ha : a.category = 1) (hb : b.category = 1) (hb2 : b2.category = 1) (k : XW Γ y cc nL ret dd Q ce sl N h (pc + 1) lv (a :: b :: b2 :: a :: st)) : XW Γ y cc nL ret dd Q ce sl N h pc lv (a :: b :: b2 :: st) := by
  obtain ⟨p, l, e, R, s, m, args, below, meth, c, Ω⟩ := Γ
  intro C H locs ls hH hl hv
  exact lv_dup_x2 C.ex C.co d (by rw [xv_cat]; exact ha) (by rw [xv_cat]; exact hb) (by rw [xv_cat]; exact hb2) (k C H locs ls hH hl hv)
theorem x_dup2 {a b : Value} (d : decode cc pc = .ok (.dup2, 1)) (ha : a.category = 1) (hb : b.category = 1) (k : XW Γ y cc nL ret dd Q ce sl N h (pc + 1) lv (a :: b :: a :: b :: st)) : XW Γ y cc nL ret dd Q ce sl N h pc lv (a :: b :: st) := by
  obtain ⟨p, l, e, R, s, m, args, below, meth, c, Ω⟩ := Γ
  intro C H locs ls hH hl hv
  exact lv_dup2_11 C.ex C.co d (by rw [xv_cat]; exact ha) (by rw [xv_cat]; exact hb) (k C H locs ls hH hl hv)
theorem x_icmp_eq {x y₁ : Int32} {off : Int} (tgt : Nat) (d : decode cc pc = .ok (.if_icmp .eq off, 3)) (g : (pc : Int) + off = (tgt : Int)) (kt : x = y₁ → XW Γ y cc nL ret dd Q ce sl N h tgt lv st) (kf : ¬ x = y₁ → XW Γ y cc nL ret dd Q ce sl N h (pc + 3) lv st) : XW Γ y cc nL ret dd Q ce sl N h pc lv (.int y₁ :: .int x :: st) := by
  obtain ⟨p, l, e, R, s, m, args, below, meth, c, Ω⟩ := Γ
  intro C H locs ls hH hl hv
  exact lv_icmp_eq C.ex C.co d g (fun q => kt q C H locs ls hH hl hv) (fun q => kf q C H locs ls hH hl hv)
theorem x_if_eq {x : Int32} {off : Int} (tgt : Nat) (d : decode cc pc = .ok (.ifCond .eq off, 3)) (g : (pc : Int) + off = (tgt : Int)) (kt : x = 0 → XW Γ y cc nL ret dd Q ce sl N h tgt lv st) (kf : ¬ x = 0 → XW Γ y cc nL ret dd Q ce sl N h (pc + 3) lv st) : XW Γ y cc nL ret dd Q ce sl N h pc lv (.int x :: st) := by
  obtain ⟨p, l, e, R, s, m, args, below, meth, c, Ω⟩ := Γ
  intro C H locs ls hH hl hv
  exact lv_if_eq C.ex C.co d g (fun q => kt q C H locs ls hH hl hv) (fun q => kf q C H locs ls hH hl hv)
theorem x_icmp_ne {x y₁ : Int32} {off : Int} (tgt : Nat) (d : decode cc pc = .ok (.if_icmp .ne off, 3)) (g : (pc : Int) + off = (tgt : Int)) (kt : ¬ x = y₁ → XW Γ y cc nL ret dd Q ce sl N h tgt lv st) (kf : x = y₁ → XW Γ y cc nL ret dd Q ce sl N h (pc + 3) lv st) : XW Γ y cc nL ret dd Q ce sl N h pc lv (.int y₁ :: .int x :: st) := by
  obtain ⟨p, l, e, R, s, m, args, below, meth, c, Ω⟩ := Γ
  intro C H locs ls hH hl hv
  exact lv_icmp_ne C.ex C.co d g (fun q => kt q C H locs ls hH hl hv) (fun q => kf q C H locs ls hH hl hv)
theorem x_if_ne {x : Int32} {off : Int} (tgt : Nat) (d : decode cc pc = .ok (.ifCond .ne off, 3)) (g : (pc : Int) + off = (tgt : Int)) (kt : ¬ x = 0 → XW Γ y cc nL ret dd Q ce sl N h tgt lv st) (kf : x = 0 → XW Γ y cc nL ret dd Q ce sl N h (pc + 3) lv st) : XW Γ y cc nL ret dd Q ce sl N h pc lv (.int x :: st) := by
  obtain ⟨p, l, e, R, s, m, args, below, meth, c, Ω⟩ := Γ
  intro C H locs ls hH hl hv
  exact lv_if_ne C.ex C.co d g (fun q => kt q C H locs ls hH hl hv) (fun q => kf q C H locs ls hH hl hv)
theorem x_icmp_lt {x y₁ : Int32} {off : Int} (tgt : Nat) (d : decode cc pc = .ok (.if_icmp .lt off, 3)) (g : (pc : Int) + off = (tgt : Int)) (kt : x < y₁ → XW Γ y cc nL ret dd Q ce sl N h tgt lv st) (kf : ¬ x < y₁ → XW Γ y cc nL ret dd Q ce sl N h (pc + 3) lv st) : XW Γ y cc nL ret dd Q ce sl N h pc lv (.int y₁ :: .int x :: st) := by
  obtain ⟨p, l, e, R, s, m, args, below, meth, c, Ω⟩ := Γ
  intro C H locs ls hH hl hv
  exact lv_icmp_lt C.ex C.co d g (fun q => kt q C H locs ls hH hl hv) (fun q => kf q C H locs ls hH hl hv)
theorem x_if_lt {x : Int32} {off : Int} (tgt : Nat) (d : decode cc pc = .ok (.ifCond .lt off, 3)) (g : (pc : Int) + off = (tgt : Int)) (kt : x < 0 → XW Γ y cc nL ret dd Q ce sl N h tgt lv st) (kf : ¬ x < 0 → XW Γ y cc nL ret dd Q ce sl N h (pc + 3) lv st) : XW Γ y cc nL ret dd Q ce sl N h pc lv (.int x :: st) := by
  obtain ⟨p, l, e, R, s, m, args, below, meth, c, Ω⟩ := Γ
  intro C H locs ls hH hl hv
  exact lv_if_lt C.ex C.co d g (fun q => kt q C H locs ls hH hl hv) (fun q => kf q C H locs ls hH hl hv)
theorem x_icmp_ge {x y₁ : Int32} {off : Int} (tgt : Nat) (d : decode cc pc = .ok (.if_icmp .ge off, 3)) (g : (pc : Int) + off = (tgt : Int)) (kt : y₁ ≤ x → XW Γ y cc nL ret dd Q ce sl N h tgt lv st) (kf : ¬ y₁ ≤ x → XW Γ y cc nL ret dd Q ce sl N h (pc + 3) lv st) : XW Γ y cc nL ret dd Q ce sl N h pc lv (.int y₁ :: .int x :: st) := by
  obtain ⟨p, l, e, R, s, m, args, below, meth, c, Ω⟩ := Γ
  intro C H locs ls hH hl hv
  exact lv_icmp_ge C.ex C.co d g (fun q => kt q C H locs ls hH hl hv) (fun q => kf q C H locs ls hH hl hv)
theorem x_if_ge {x : Int32} {off : Int} (tgt : Nat) (d : decode cc pc = .ok (.ifCond .ge off, 3)) (g : (pc : Int) + off = (tgt : Int)) (kt : 0 ≤ x → XW Γ y cc nL ret dd Q ce sl N h tgt lv st) (kf : ¬ 0 ≤ x → XW Γ y cc nL ret dd Q ce sl N h (pc + 3) lv st) : XW Γ y cc nL ret dd Q ce sl N h pc lv (.int x :: st) := by
  obtain ⟨p, l, e, R, s, m, args, below, meth, c, Ω⟩ := Γ
  intro C H locs ls hH hl hv
  exact lv_if_ge C.ex C.co d g (fun q => kt q C H locs ls hH hl hv) (fun q => kf q C H locs ls hH hl hv)
theorem x_icmp_gt {x y₁ : Int32} {off : Int} (tgt : Nat) (d : decode cc pc = .ok (.if_icmp .gt off, 3)) (g : (pc : Int) + off = (tgt : Int)) (kt : y₁ < x → XW Γ y cc nL ret dd Q ce sl N h tgt lv st) (kf : ¬ y₁ < x → XW Γ y cc nL ret dd Q ce sl N h (pc + 3) lv st) : XW Γ y cc nL ret dd Q ce sl N h pc lv (.int y₁ :: .int x :: st) := by
  obtain ⟨p, l, e, R, s, m, args, below, meth, c, Ω⟩ := Γ
  intro C H locs ls hH hl hv
  exact lv_icmp_gt C.ex C.co d g (fun q => kt q C H locs ls hH hl hv) (fun q => kf q C H locs ls hH hl hv)
theorem x_if_gt {x : Int32} {off : Int} (tgt : Nat) (d : decode cc pc = .ok (.ifCond .gt off, 3)) (g : (pc : Int) + off = (tgt : Int)) (kt : 0 < x → XW Γ y cc nL ret dd Q ce sl N h tgt lv st) (kf : ¬ 0 < x → XW Γ y cc nL ret dd Q ce sl N h (pc + 3) lv st) : XW Γ y cc nL ret dd Q ce sl N h pc lv (.int x :: st) := by
  obtain ⟨p, l, e, R, s, m, args, below, meth, c, Ω⟩ := Γ
  intro C H locs ls hH hl hv
  exact lv_if_gt C.ex C.co d g (fun q => kt q C H locs ls hH hl hv) (fun q => kf q C H locs ls hH hl hv)
theorem x_icmp_le {x y₁ : Int32} {off : Int} (tgt : Nat) (d : decode cc pc = .ok (.if_icmp .le off, 3)) (g : (pc : Int) + off = (tgt : Int)) (kt : x ≤ y₁ → XW Γ y cc nL ret dd Q ce sl N h tgt lv st) (kf : ¬ x ≤ y₁ → XW Γ y cc nL ret dd Q ce sl N h (pc + 3) lv st) : XW Γ y cc nL ret dd Q ce sl N h pc lv (.int y₁ :: .int x :: st) := by
  obtain ⟨p, l, e, R, s, m, args, below, meth, c, Ω⟩ := Γ
  intro C H locs ls hH hl hv
  exact lv_icmp_le C.ex C.co d g (fun q => kt q C H locs ls hH hl hv) (fun q => kf q C H locs ls hH hl hv)
theorem x_if_le {x : Int32} {off : Int} (tgt : Nat) (d : decode cc pc = .ok (.ifCond .le off, 3)) (g : (pc : Int) + off = (tgt : Int)) (kt : x ≤ 0 → XW Γ y cc nL ret dd Q ce sl N h tgt lv st) (kf : ¬ x ≤ 0 → XW Γ y cc nL ret dd Q ce sl N h (pc + 3) lv st) : XW Γ y cc nL ret dd Q ce sl N h pc lv (.int x :: st) := by
  obtain ⟨p, l, e, R, s, m, args, below, meth, c, Ω⟩ := Γ
  intro C H locs ls hH hl hv
  exact lv_if_le C.ex C.co d g (fun q => kt q C H locs ls hH hl hv) (fun q => kf q C H locs ls hH hl hv)
theorem x_goto {off : Int} (tgt : Nat) (d : decode cc pc = .ok (.goto off, 3)) (g : (pc : Int) + off = (tgt : Int)) (k : XW Γ y cc nL ret dd Q ce sl N h tgt lv st) : XW Γ y cc nL ret dd Q ce sl N h pc lv st := by
  obtain ⟨p, l, e, R, s, m, args, below, meth, c, Ω⟩ := Γ
  intro C H locs ls hH hl hv
  exact lv_goto C.ex C.co d g (k C H locs ls hH hl hv)
theorem x_tableOut {dflt lo hi : Int} {offs : Array Int} {len : Nat} {x : Int32} (tgt : Nat) (d : decode cc pc = .ok (.tableswitch dflt lo hi offs, len)) (g : x.toInt < lo ∨ hi < x.toInt) (ht : (pc : Int) + dflt = (tgt : Int)) (k : XW Γ y cc nL ret dd Q ce sl N h tgt lv st) : XW Γ y cc nL ret dd Q ce sl N h pc lv (.int x :: st) := by
  obtain ⟨p, l, e, R, s, m, args, below, meth, c, Ω⟩ := Γ
  intro C H locs ls hH hl hv
  exact lv_tableOut C.ex C.co d g ht (k C H locs ls hH hl hv)
theorem x_tableIn {dflt lo hi : Int} {offs : Array Int} {len : Nat} {x : Int32} {off : Int} (tgt : Nat) (d : decode cc pc = .ok (.tableswitch dflt lo hi offs, len)) (g1 : ¬ x.toInt < lo) (g2 : ¬ hi < x.toInt) (ho : offs[(x.toInt - lo).toNat]? = some off) (ht : (pc : Int) + off = (tgt : Int)) (k : XW Γ y cc nL ret dd Q ce sl N h tgt lv st) : XW Γ y cc nL ret dd Q ce sl N h pc lv (.int x :: st) := by
  obtain ⟨p, l, e, R, s, m, args, below, meth, c, Ω⟩ := Γ
  intro C H locs ls hH hl hv
  exact lv_tableIn C.ex C.co d g1 g2 ho ht (k C H locs ls hH hl hv)
theorem x_lookup {dflt : Int} {ps : Array (Int × Int)} {len : Nat} {x : Int32} {off : Int} (tgt : Nat) (d : decode cc pc = .ok (.lookupswitch dflt ps, len)) (hp : (ps.toList.zip (ps.toList.drop 1)).all (fun (a, next) => a.1 < next.1) = true) (ho : Op.lookupswitch.offset ps.toList dflt x.toInt = off) (ht : (pc : Int) + off = (tgt : Int)) (k : XW Γ y cc nL ret dd Q ce sl N h tgt lv st) : XW Γ y cc nL ret dd Q ce sl N h pc lv (.int x :: st) := by
  obtain ⟨p, l, e, R, s, m, args, below, meth, c, Ω⟩ := Γ
  intro C H locs ls hH hl hv
  exact lv_lookup C.ex C.co d hp ho ht (k C H locs ls hH hl hv)
end XR
end
section
/-! X: heap, calls, returns. -/
theorem xtys_at {tc : Nat → ClassId} {t : Nat} {ty : FieldType} (h : xtl[t]? = some ty) : (xtys tc)[t]? = some (tc t, ty) := by
  unfold xtys
  rw [List.getElem?_mapIdx, h]
  rfl
theorem xP1 {D : va_G} {cl : List vw_C} {x : Nat × va_E} {H : Heap} (h : va_at D cl x H) : va_P D cl [x] H := by
  intro k q hk
  cases k with
  | zero =>
    cases hk
    exact h
  | succ k => simp at hk
theorem xH_at {Ω : xO} {N : Nat} {h : xHp} {H : Heap} {k : Nat} (hH : xH Ω N h H) (hk : k < N) : va_at Ω.1 xcl (Ω.2.2.1 + k, xc Ω (h k)) H := hH.2.2.2.2 k hk
theorem xH_i {Ω : xO} {N : Nat} {h : xHp} {H : Heap} {k : Nat} (hH : xH Ω N h H) (hk : k < N) : xi Ω k = Ω.2.2.1 + k := xi_lt (Nat.lt_of_lt_of_le hk hH.1)
theorem xH_set {Ω : xO} {N : Nat} {h : xHp} {H H' : Heap} {q : Nat} {e : xE} (hH : xH Ω N h H) (hq : q < N) (hz : H'.size = H.size) (ho : ∀ a : Nat, a ≠ Ω.2.2.1 + q → H'[a]? = H[a]?) (he : va_at Ω.1 xcl (Ω.2.2.1 + q, xc Ω e) H') : xH Ω N (va_up h q e) H' := by
  obtain ⟨h1, h2, h3, h4, h5⟩ := hH
  refine ⟨h1, hz.trans h2, h3, fun a ha => (ho a (by omega)).trans (h4 a ha), fun k hk => ?_⟩
  by_cases e1 : k = q
  · subst e1
    have e2 : va_up h k e k = e := if_pos rfl
    rw [e2]
    exact he
  · have e2 : va_up h q e k = h k := if_neg e1
    rw [e2]
    exact (h5 k hk).kept (ho _ (by show Ω.2.2.1 + k ≠ _; omega))
theorem xH_push {Ω : xO} {N : Nat} {h : xHp} {H H' : Heap} {e : xE} (hH : xH Ω N h H) (hN : N < 1000000) (hz : H'.size = H.size + 1) (ho : ∀ a : Nat, a < H.size → H'[a]? = H[a]?) (he : va_at Ω.1 xcl (Ω.2.2.1 + N, xc Ω e) H') : xH Ω (N + 1) (va_up h N e) H' := by
  obtain ⟨h1, h2, h3, h4, h5⟩ := hH
  refine ⟨hN, by omega, h3, fun a ha => (ho a (by omega)).trans (h4 a ha), fun k hk => ?_⟩
  by_cases e1 : k = N
  · subst e1
    have e2 : va_up h k e k = e := if_pos rfl
    rw [e2]
    exact he
  · have e2 : va_up h N e k = h k := if_neg e1
    rw [e2]
    exact (h5 k (by omega)).kept (ho _ (by show Ω.2.2.1 + k < _; omega))
theorem xst.warm {Ω : xO} {u U : State} (hW : u.WarmedH U.vm) (h : xst Ω u) : xst Ω U := ⟨fun i q hq => ⟨(h.1 i q hq).1.moved hW.alike, (h.1 i q hq).2.moved hW.alike⟩, fun q hq => va_Nw.warmM hW (h.2.1 q hq), fun E hE => va_AO.moved hW.alike (h.2.2 E hE)⟩
theorem xst.same {Ω : xO} {u U : State} (e : u.vm = U.vm) (h : xst Ω u) : xst Ω U := by
  have hvm : u.vm.Alike U.vm := by rw [e]; exact Vm.Alike.refl _
  exact ⟨fun i q hq => ⟨(h.1 i q hq).1.moved hvm, (h.1 i q hq).2.moved hvm⟩, fun q hq => va_Nw.same rfl e (h.2.1 q hq), fun E hE => va_AO.moved hvm (h.2.2 E hE)⟩
theorem xs_i (c : ClassId) (n j : Nat) (f : Nat → Int32) (x : Int32) : (vp_cell c (n, .inl f)).setSlot j (.int x) = vp_cell c (n, .inl (upd f j x)) := by
  rw [vp_cell_i, vp_cell_i, arrV_store]
  congr 1
  funext q
  by_cases hq : q = j
  · subst hq
    simp [updV, upd]
  · simp [updV, upd, hq]
theorem xs_l (c : ClassId) (n j : Nat) (f : Nat → Int64) (x : Int64) : (vp_cell c (n, .inr (.inl f))).setSlot j (.long x) = vp_cell c (n, .inr (.inl (vp_updL f j x))) := by
  rw [vp_cell_l, vp_cell_l, arrV_store]
  congr 1
  funext q
  by_cases hq : q = j
  · subst hq
    simp [updV, vp_updL]
  · simp [updV, vp_updL, hq]
theorem xs_q (c : ClassId) (n j : Nat) (f : Nat → Option Nat) (x : Nat) : (vp_cell c (n, .inr (.inr (.inr (.inr f))))).setSlot j (.ref x) = vp_cell c (n, .inr (.inr (.inr (.inr (va_up f j (some x)))))) := by
  rw [vp_cell_q, vp_cell_q, arrV_store]
  congr 1
  funext q
  by_cases hq : q = j
  · subst hq
    simp [updV, va_up, va_rf]
  · simp [updV, va_up, hq]
theorem xlocs {b : Nat} {locs : List Loc} {a j : Nat} (hl : ∀ q ∈ locs, b ≤ q.base) (ha : b ≤ a) : ∀ q ∈ locs ++ [⟨a, j⟩], b ≤ q.base := by
  intro q hq
  rcases List.mem_append.mp hq with h | h
  · exact hl q h
  · rw [List.mem_singleton.mp h]
    exact ha
/-- a field of a class, by the constant pool of 'own': class number, slot, final, type -/
def xFld (own : String) (idx ci k : Nat) (fin : Bool) (ty : FieldType) : Prop := ∃ (C : String) (T : u_T) (Nf : Nat) (ty0 : Nat → FieldType), xcl[ci]? = some (C, T, Nf) ∧ k < Nf ∧ (∀ w ∈ u_ws C T Nf, w ∈ xBIG) ∧ Jvm.Cond.fieldLink own idx (T k).1 (T k).2.1 (T k).2.2.1 ∈ xBIG ∧ (T k).2.2.2 = fin ∧ (∀ j, j < Nf → parseFieldDescriptor (T j).2.2.1 = some (ty0 j)) ∧ ty0 k = ty ∧ (∀ a, a < Nf → ∀ b, b < Nf → a ≠ b → (T a).2.1 ≠ (T b).2.1) ∧ (fin = true → (T k).1 = own)
/-- a class that is made: its number, its fields at birth -/
def xCls (own : String) (idx ci nf : Nat) (fs : List Value) : Prop := ∃ (C : String) (T : u_T) (ty0 : Nat → FieldType), xcl[ci]? = some (C, T, nf) ∧ (∀ w ∈ u_ws C T nf, w ∈ xBIG) ∧ Jvm.Cond.classLink own idx C ∈ xBIG ∧ Jvm.Cond.instantiable C nf ∈ xBIG ∧ Jvm.Cond.initialized C ∈ xBIG ∧ (∀ j, j < nf → parseFieldDescriptor (T j).2.2.1 = some (ty0 j)) ∧ (∀ j, j < nf → defaultValue (ty0 j) = vp_V fs j) ∧ ∀ (Ω : xO) (j : Nat), vp_V (fs.map (xv Ω)) j = vp_V fs j
section XR2
variable {Γ : xG} {y : MethodName} {cc : ByteArray} {nL : Nat} {ret : Option FieldType} {dd : Nat × Nat × Nat} {Q : State → Prop} {ce sl N : Nat} {h : xHp} {pc : Nat} {lv : List (Option Value)} {st : List Value}
theorem x_get {idx ci j q : Nat} {fin : Bool} {ty : FieldType} {fs : List Value} {v : Value} (F : xFld y.cls idx ci j fin ty) (d : decode cc pc = .ok (.getfield idx, 3)) (hq : q < N) (hh : h q = .inr (ci, fs)) (g : fs[j]? = some v) (k : XW Γ y cc nL ret dd Q ce sl N h (pc + 3) lv (v :: st)) : XW Γ y cc nL ret dd Q ce sl N h pc lv (.ref q :: st) := by
  obtain ⟨p, l, e, R, s, m, args, below, meth, c, Ω⟩ := Γ
  intro C H locs ls hH hl hv
  obtain ⟨C0, T, Nf, ty0, f1, f2, f3, f4, -⟩ := F
  have hc := xH_at hH hq
  rw [hh] at hc
  show W p l e R s m args below meth c H locs ce sl Q (F0 m pc ls (.ref (xi Ω q) :: st.map (xv Ω)))
  rw [xH_i hH hq]
  exact va_get (D := Ω.1) (T := T) C.ex C.co C.ts f3 C.ow C.K (xP1 hc) 0 rfl f1 j f2 (C.ts _ f4) (fun _ h9 => h9) (by rw [List.getElem?_map, g]; rfl) d (k C H locs ls hH hl hv)
theorem x_put {idx ci j q : Nat} {ty : FieldType} {fs : List Value} {v : Value} (F : xFld y.cls idx ci j false ty) (d : decode cc pc = .ok (.putfield idx, 3)) (hq : q < N) (hh : h q = .inr (ci, fs)) (g : j < fs.length) (hn : ∀ Ω, narrow ty (xv Ω v) = xv Ω v ∧ fits ty (xv Ω v) = true) (k : XW Γ y cc nL ret dd Q ce sl N (va_up h q (.inr (ci, fs.set j v))) (pc + 3) lv st) : XW Γ y cc nL ret dd Q ce sl N h pc lv (v :: .ref q :: st) := by
  obtain ⟨p, l, e, R, s, m, args, below, meth, c, Ω⟩ := Γ
  intro C H locs ls hH hl hv
  obtain ⟨C0, T, Nf, ty0, f1, f2, f3, f4, f5, f6, f7, f8, -⟩ := F
  have hts := C.ts
  have hK := C.K
  have hap := va_apart (own := y.cls) hts f3 ty0 f6 f8 hK f1
  have hc := xH_at hH hq
  rw [hh] at hc
  obtain ⟨r, g1, cell, g2, g3, g4, g5⟩ := hc
  have hr : r = (C0, T, Nf) := Option.some.inj (g1.symm.trans f1)
  subst hr
  obtain ⟨hS, hfc, kC, hkC, hkind⟩ := hK.1 ci _ f1
  obtain ⟨cf, kf, fi, f, hi, hsl⟩ := hS j f2
  have hlay := hts _ (f3 _ (u_in_lay f2))
  unfold u_lay at hlay
  rw [if_neg (by rw [f5]; decide)] at hlay
  have hst := (u_facts hfc hkC (u_lays hts f3 f2) hi).1
  have h6 := u_store hfc hkC hkind hlay hi (by rw [f6 j f2, f7]) (hn Ω).1 (hn Ω).2
  show W p l e R s m args below meth c H locs ce sl Q (F0 m pc ls (xv Ω v :: .ref (xi Ω q) :: st.map (xv Ω)))
  rw [xH_i hH hq]
  refine W.putK C.ex C.co (f := f) ⟨C.ow, hts _ f4, ⟨_, _, _, hi⟩, hst⟩ (by rw [g3]; exact h6) g2 g4 (by rw [hsl]; exact k2_hasslot (g5 j f2)) rfl rfl d fun H' e1 e2 e3 => ?_
  rw [hsl] at e1 ⊢
  refine k C H' _ ls (xH_set hH hq e2 e3 ⟨_, f1, t_OB.to (V := updV (vp_V (fs.map (xv Ω))) j (xv Ω v)) ⟨_, e1, g3, g4, t_set g5 hap f2 _⟩ (fun i _ => ?_)⟩) (xlocs hl (Nat.le_add_right _ _)) hv
  rw [vp_updV_set (by simpa using g)]
  show _ = vp_V ((fs.set j v).map (xv Ω)) i
  rw [List.map_set]
theorem x_putF {idx ci j q : Nat} {ty : FieldType} {fs : List Value} {v : Value} (F : xFld y.cls idx ci j true ty) (hin : y.name = "<init>") (d : decode cc pc = .ok (.putfield idx, 3)) (hq : q < N) (hh : h q = .inr (ci, fs)) (g : j < fs.length) (hn : ∀ Ω, narrow ty (xv Ω v) = xv Ω v ∧ fits ty (xv Ω v) = true) (k : XW Γ y cc nL ret dd Q ce sl N (va_up h q (.inr (ci, fs.set j v))) (pc + 3) lv st) : XW Γ y cc nL ret dd Q ce sl N h pc lv (v :: .ref q :: st) := by
  obtain ⟨p, l, e, R, s, m, args, below, meth, c, Ω⟩ := Γ
  intro C H locs ls hH hl hv
  obtain ⟨C0, T, Nf, ty0, f1, f2, f3, f4, f5, f6, f7, f8, f9⟩ := F
  have hts := C.ts
  have hK := C.K
  have hap := va_apart (own := y.cls) hts f3 ty0 f6 f8 hK f1
  have hc := xH_at hH hq
  rw [hh] at hc
  obtain ⟨r, g1, cell, g2, g3, g4, g5⟩ := hc
  have hr : r = (C0, T, Nf) := Option.some.inj (g1.symm.trans f1)
  subst hr
  obtain ⟨hS, hfc, kC, hkC, hkind⟩ := hK.1 ci _ f1
  obtain ⟨cf, kf, fi, f, hi, hsl⟩ := hS j f2
  have hlay := hts _ (f3 _ (u_in_lay f2))
  unfold u_lay at hlay
  rw [if_pos f5] at hlay
  have hst := (u_facts hfc hkC (u_lays hts f3 f2) hi).1
  have hcf : m.cls = cf := by
    obtain ⟨_, _, c', _, _, _, -, -, hf', -, -, -, hown2, -⟩ := Cond.laysFinal_spec hlay
    have e1 : c' = cf := by
      have := hi.symm.trans hf'
      simp at this
      exact this.1.symm
    rw [f9 rfl] at hown2
    rw [← e1]
    exact Option.some.inj (C.ow.symm.trans hown2)
  have h6 := u_fits hfc hkC hkind (Or.inr hlay) hi (by rw [f6 j f2, f7]) (hn Ω).1 (hn Ω).2
  show W p l e R s m args below meth c H locs ce sl Q (F0 m pc ls (xv Ω v :: .ref (xi Ω q) :: st.map (xv Ω)))
  rw [xH_i hH hq]
  refine W.putFinK C.ex C.co C.ow (hts _ f4) hi hst hcf (by rw [C.nm]; exact hin) (by rw [g3]; exact h6) g2 g4 (by rw [hsl]; exact k2_hasslot (g5 j f2)) rfl rfl d fun H' e1 e2 e3 => ?_
  rw [hsl] at e1 ⊢
  refine k C H' _ ls (xH_set hH hq e2 e3 ⟨_, f1, t_OB.to (V := updV (vp_V (fs.map (xv Ω))) j (xv Ω v)) ⟨_, e1, g3, g4, t_set g5 hap f2 _⟩ (fun i _ => ?_)⟩) (xlocs hl (Nat.le_add_right _ _)) hv
  rw [vp_updV_set (by simpa using g)]
  show _ = vp_V ((fs.set j v).map (xv Ω)) i
  rw [List.map_set]
theorem x_iald {q n : Nat} {f : Nat → Int32} {i : Int32} (d : decode cc pc = .ok (.iaload, 1)) (hq : q < N) (hh : h q = .inl (0, n, .inl f)) (hi : vp_in i n) (k : XW Γ y cc nL ret dd Q ce sl N h (pc + 1) lv (.int (f i.toNatClampNeg) :: st)) : XW Γ y cc nL ret dd Q ce sl N h pc lv (.int i :: .ref q :: st) := by
  obtain ⟨p, l, e, R, s, m, args, below, meth, c, Ω⟩ := Γ
  intro C H locs ls hH hl hv
  have hc := xH_at hH hq
  rw [hh] at hc
  show W p l e R s m args below meth c H locs ce sl Q (F0 m pc ls (.int i :: .ref (xi Ω q) :: st.map (xv Ω)))
  rw [xH_i hH hq]
  exact va_iald C.ex C.co C.K (xP1 hc) 0 0 rfl (xtys_at rfl) hi d (k C H locs ls hH hl hv)
theorem x_cald {q n : Nat} {f : Nat → Int32} {i : Int32} (d : decode cc pc = .ok (.caload, 1)) (hq : q < N) (hh : h q = .inl (1, n, .inl f)) (hi : vp_in i n) (k : XW Γ y cc nL ret dd Q ce sl N h (pc + 1) lv (.int (f i.toNatClampNeg) :: st)) : XW Γ y cc nL ret dd Q ce sl N h pc lv (.int i :: .ref q :: st) := by
  obtain ⟨p, l, e, R, s, m, args, below, meth, c, Ω⟩ := Γ
  intro C H locs ls hH hl hv
  have hc := xH_at hH hq
  rw [hh] at hc
  show W p l e R s m args below meth c H locs ce sl Q (F0 m pc ls (.int i :: .ref (xi Ω q) :: st.map (xv Ω)))
  rw [xH_i hH hq]
  exact va_cald C.ex C.co C.K (xP1 hc) 0 1 rfl (xtys_at rfl) hi d (k C H locs ls hH hl hv)
theorem x_lald {q n : Nat} {f : Nat → Int64} {i : Int32} (d : decode cc pc = .ok (.laload, 1)) (hq : q < N) (hh : h q = .inl (2, n, .inr (.inl f))) (hi : vp_in i n) (k : XW Γ y cc nL ret dd Q ce sl N h (pc + 1) lv (.long (f i.toNatClampNeg) :: st)) : XW Γ y cc nL ret dd Q ce sl N h pc lv (.int i :: .ref q :: st) := by
  obtain ⟨p, l, e, R, s, m, args, below, meth, c, Ω⟩ := Γ
  intro C H locs ls hH hl hv
  have hc := xH_at hH hq
  rw [hh] at hc
  show W p l e R s m args below meth c H locs ce sl Q (F0 m pc ls (.int i :: .ref (xi Ω q) :: st.map (xv Ω)))
  rw [xH_i hH hq]
  exact va_lald C.ex C.co C.K (xP1 hc) 0 2 rfl (xtys_at rfl) hi d (k C H locs ls hH hl hv)
/-- an array of references: tag t, class E -/
theorem x_aald {t q n v : Nat} {E : String} {f : Nat → Option Nat} {i : Int32} (ht : xtl[t]? = some (.object E)) (d : decode cc pc = .ok (.aaload, 1)) (hq : q < N) (hh : h q = .inl (t, n, .inr (.inr (.inr (.inr f))))) (hi : vp_in i n) (hf : f i.toNatClampNeg = some v) (k : XW Γ y cc nL ret dd Q ce sl N h (pc + 1) lv (.ref v :: st)) : XW Γ y cc nL ret dd Q ce sl N h pc lv (.int i :: .ref q :: st) := by
  obtain ⟨p, l, e, R, s, m, args, below, meth, c, Ω⟩ := Γ
  intro C H locs ls hH hl hv
  have hc := xH_at hH hq
  rw [hh] at hc
  show W p l e R s m args below meth c H locs ce sl Q (F0 m pc ls (.int i :: .ref (xi Ω q) :: st.map (xv Ω)))
  rw [xH_i hH hq]
  refine va_aldq (f := fun j => (f j).map (xi Ω)) C.ex C.co C.K (xP1 hc) 0 t rfl (xtys_at ht) hi d ?_
  rw [hf]
  exact k C H locs ls hH hl hv
theorem x_alen {t q : Nat} {a : vp_A} {ty : FieldType} {v : Int32} (d : decode cc pc = .ok (.arraylength, 1)) (hq : q < N) (hh : h q = .inl (t, a)) (ht : xtl[t]? = some ty) (g : Int32.ofNat a.1 = v) (k : XW Γ y cc nL ret dd Q ce sl N h (pc + 1) lv (.int v :: st)) : XW Γ y cc nL ret dd Q ce sl N h pc lv (.ref q :: st) := by
  obtain ⟨p, l, e, R, s, m, args, below, meth, c, Ω⟩ := Γ
  intro C H locs ls hH hl hv
  have hc := xH_at hH hq
  rw [hh] at hc
  show W p l e R s m args below meth c H locs ce sl Q (F0 m pc ls (.ref (xi Ω q) :: st.map (xv Ω)))
  rw [xH_i hH hq]
  exact va_alen (x := xa Ω a) C.ex C.co C.K (xP1 hc) 0 t rfl (xtys_at ht) g d (k C H locs ls hH hl hv)
theorem x_iast {q n : Nat} {f : Nat → Int32} {i x : Int32} (d : decode cc pc = .ok (.iastore, 1)) (hq : q < N) (hh : h q = .inl (0, n, .inl f)) (hi : vp_in i n) (k : XW Γ y cc nL ret dd Q ce sl N (va_up h q (.inl (0, n, .inl (upd f i.toNatClampNeg x)))) (pc + 1) lv st) : XW Γ y cc nL ret dd Q ce sl N h pc lv (.int x :: .int i :: .ref q :: st) := by
  obtain ⟨p, l, e, R, s, m, args, below, meth, c, Ω⟩ := Γ
  intro C H locs ls hH hl hv
  have hc := xH_at hH hq
  rw [hh] at hc
  have hA := (C.K.2 0 _ (xtys_at rfl)).1 n (fun j => .int (f j))
  show W p l e R s m args below meth c H locs ce sl Q (F0 m pc ls (.int x :: .int i :: .ref (xi Ω q) :: st.map (xv Ω)))
  rw [xH_i hH hq]
  refine W.iast C.ex C.co hc hA (fun z => by cases z) (by show ¬ (i < 0 ∨ (arrV _ _ _).slots.size ≤ _); rw [arrV_size]; exact hi) rfl rfl d fun H' e1 e2 e3 => ?_
  refine k C H' _ ls (xH_set hH hq e2 e3 ?_) (xlocs hl (Nat.le_add_right _ _)) hv
  show H'[_]? = some (vp_cell _ (n, .inl _))
  rw [e1]
  exact congrArg some (xs_i _ _ _ _ _)
theorem x_cast {q n : Nat} {f : Nat → Int32} {i x : Int32} (d : decode cc pc = .ok (.castore, 1)) (hq : q < N) (hh : h q = .inl (1, n, .inl f)) (hi : vp_in i n) (hx : narrow .char (.int x) = .int x) (k : XW Γ y cc nL ret dd Q ce sl N (va_up h q (.inl (1, n, .inl (upd f i.toNatClampNeg x)))) (pc + 1) lv st) : XW Γ y cc nL ret dd Q ce sl N h pc lv (.int x :: .int i :: .ref q :: st) := by
  obtain ⟨p, l, e, R, s, m, args, below, meth, c, Ω⟩ := Γ
  intro C H locs ls hH hl hv
  have hc := xH_at hH hq
  rw [hh] at hc
  have hA := (C.K.2 1 _ (xtys_at rfl)).1 n (fun j => .int (f j))
  show W p l e R s m args below meth c H locs ce sl Q (F0 m pc ls (.int x :: .int i :: .ref (xi Ω q) :: st.map (xv Ω)))
  rw [xH_i hH hq]
  refine W.cast C.ex C.co hc hA (fun z => by cases z) (by show ¬ (i < 0 ∨ (arrV _ _ _).slots.size ≤ _); rw [arrV_size]; exact hi) rfl rfl d fun H' e1 e2 e3 => ?_
  rw [hx] at e1
  refine k C H' _ ls (xH_set hH hq e2 e3 ?_) (xlocs hl (Nat.le_add_right _ _)) hv
  show H'[_]? = some (vp_cell _ (n, .inl _))
  rw [e1]
  exact congrArg some (xs_i _ _ _ _ _)
theorem x_last {q n : Nat} {f : Nat → Int64} {i : Int32} {x : Int64} (d : decode cc pc = .ok (.lastore, 1)) (hq : q < N) (hh : h q = .inl (2, n, .inr (.inl f))) (hi : vp_in i n) (k : XW Γ y cc nL ret dd Q ce sl N (va_up h q (.inl (2, n, .inr (.inl (vp_updL f i.toNatClampNeg x))))) (pc + 1) lv st) : XW Γ y cc nL ret dd Q ce sl N h pc lv (.long x :: .int i :: .ref q :: st) := by
  obtain ⟨p, l, e, R, s, m, args, below, meth, c, Ω⟩ := Γ
  intro C H locs ls hH hl hv
  have hc := xH_at hH hq
  rw [hh] at hc
  have hA := (C.K.2 2 _ (xtys_at rfl)).1 n (fun j => .long (f j))
  show W p l e R s m args below meth c H locs ce sl Q (F0 m pc ls (.long x :: .int i :: .ref (xi Ω q) :: st.map (xv Ω)))
  rw [xH_i hH hq]
  refine W.last C.ex C.co hc hA (fun z => by cases z) (by show ¬ (i < 0 ∨ (arrV _ _ _).slots.size ≤ _); rw [arrV_size]; exact hi) rfl rfl d fun H' e1 e2 e3 => ?_
  refine k C H' _ ls (xH_set hH hq e2 e3 ?_) (xlocs hl (Nat.le_add_right _ _)) hv
  show H'[_]? = some (vp_cell _ (n, .inr (.inl _)))
  rw [e1]
  exact congrArg some (xs_l _ _ _ _ _)
theorem x_aast {t q n v ci : Nat} {r : vw_C} {vs : List Value} {f : Nat → Option Nat} {i : Int32} (ht : xtl[t]? = some (.object r.1)) (d : decode cc pc = .ok (.aastore, 1)) (hq : q < N) (hh : h q = .inl (t, n, .inr (.inr (.inr (.inr f))))) (hi : vp_in i n) (hv0 : v < N) (hhv : h v = .inr (ci, vs)) (hci : xcl[ci]? = some r) (k : XW Γ y cc nL ret dd Q ce sl N (va_up h q (.inl (t, n, .inr (.inr (.inr (.inr (va_up f i.toNatClampNeg (some v)))))))) (pc + 1) lv st) : XW Γ y cc nL ret dd Q ce sl N h pc lv (.ref v :: .int i :: .ref q :: st) := by
  obtain ⟨p, l, e, R, s, m, args, below, meth, c, Ω⟩ := Γ
  intro C H locs ls hH hl hv
  have hlt : i.toNatClampNeg < n := Nat.not_le.mp fun z => hi (Or.inr z)
  have h0 : ¬ i < 0 := fun z => hi (Or.inl z)
  have hc := xH_at hH hq
  rw [hh] at hc
  have hcv := xH_at hH hv0
  rw [hhv] at hcv
  have hK := C.K
  obtain ⟨r', -, cellV, g1, g2, g3, -⟩ := hcv
  have hcls := (hK.1 ci r hci).2
  obtain ⟨kA, comp, k1, k2, k3, -⟩ := (hK.2 t _ (xtys_at ht)).2
  have hcomp : comp = Ω.1.1 ci := Option.some.inj (k3.symm.trans hcls.1)
  subst hcomp
  obtain ⟨kC, hkC, -⟩ := hcls.2
  show W p l e R s m args below meth c H locs ce sl Q (F0 m pc ls (.ref (xi Ω v) :: .int i :: .ref (xi Ω q) :: st.map (xv Ω)))
  rw [xH_i hH hq, xH_i hH hv0]
  refine W.aast C.ex C.co hc (fun z w => by cases w) (fun w => by cases w) k1 k2 rfl hkC ⟨h0, by show _ < (arrV _ _ _).slots.size; rw [arrV_size]; exact hlt⟩ g1 (fun z w => by rw [g3] at w; cases w) (by rw [g2]; exact hkC) (by rw [g2]; exact va_assign hcls) rfl rfl d fun H' e1 e2 e3 => ?_
  refine k C H' _ ls (xH_set hH hq e2 e3 ?_) (xlocs hl (Nat.le_add_right _ _)) hv
  show H'[_]? = some (vp_cell _ (n, .inr (.inr (.inr (.inr _)))))
  rw [e1]
  refine congrArg some ((xs_q _ _ _ _ _).trans ?_)
  congr 6
  funext z
  by_cases hz : z = i.toNatClampNeg
  · subst hz
    simp [va_up, xH_i hH hv0]
  · simp [va_up, hz]
theorem x_new {idx ci nf : Nat} {fs : List Value} (F : xCls y.cls idx ci nf fs) (d : decode cc pc = .ok (.new idx, 3)) (hN : N < 1000000) (hce : ce + 1 ≤ dd.2.1 ∧ sl + nf ≤ dd.2.2) (k : XW Γ y cc nL ret dd Q (ce + 1) (sl + nf) (N + 1) (va_up h N (.inr (ci, fs))) (pc + 3) lv (.ref N :: st)) : XW Γ y cc nL ret dd Q ce sl N h pc lv st := by
  obtain ⟨p, l, e, R, s, m, args, below, meth, c, Ω⟩ := Γ
  intro C H locs ls hH hl hv
  obtain ⟨C0, T, ty0, f1, f2, f3, f4, f5, f6, f7, f8⟩ := F
  have hts := C.ts
  have hKn := C.K.1 ci _ f1
  have hcap := C.cap
  refine W.newcK C.ex C.co C.ow (hts _ f3) (hts _ f4) (hts _ f5) rfl d (Nat.le_trans hce.1 hcap.1) (Nat.le_trans hce.2 hcap.2) hKn.2.1 rfl fun H1 kC hkC e1 z1 o1 => ?_
  have e0 : H.size = Ω.2.2.1 + N := hH.2.1
  rw [e0] at e1 z1 o1 ⊢
  have hx : xi Ω N = Ω.2.2.1 + N := xi_lt hN
  have := k C H1 locs ls (xH_push hH hN (by rw [z1, e0]) (fun a ha => o1 a (by rw [← e0]; exact ha)) ⟨_, f1, (u_born ty0 hts f2 hKn hkC e1 f6).to (fun j hj => (f7 j hj).trans (f8 Ω j).symm)⟩) hl hv
  rw [← hx]
  exact this
theorem x_newa {t n : Nat} {i : Int32} {atype : ArrayType} {ty : FieldType} {a0 : vp_A} (hty : newarray.typeOf atype = ty) (hw : Jvm.Cond.arrayClass ty ∈ xBIG) (ht : xtl[t]? = some ty) (hobj : ∀ E, ty ≠ .object E) (ha : ∀ (Ω : xO) (cA : ClassId), vp_cell cA (xa Ω a0) = arrV cA n (fun _ => defaultValue ty)) (d : decode cc pc = .ok (.newarray atype, 2)) (hn : ¬ i < 0) (hi : i.toNatClampNeg = n) (hb : n * componentBytes ty ≤ 536870912) (hN : N < 1000000) (hce : ce + 1 ≤ dd.2.1 ∧ sl + n ≤ dd.2.2) (k : XW Γ y cc nL ret dd Q (ce + 1) (sl + n) (N + 1) (va_up h N (.inl (t, a0))) (pc + 2) lv (.ref N :: st)) : XW Γ y cc nL ret dd Q ce sl N h pc lv (.int i :: st) := by
  obtain ⟨p, l, e, R, s, m, args, below, meth, c, Ω⟩ := Γ
  intro C H locs ls hH hl hv
  have hcap := C.cap
  have hra := (C.K.2 t _ (xtys_at ht)).2
  subst hty
  refine va_newaK C.ex C.co (C.ts _ hw) rfl d rfl hn hi hb (Nat.le_trans hce.1 hcap.1) (Nat.le_trans hce.2 hcap.2) rfl fun H1 cA e1 z1 o1 hAr hNm => ?_
  have hcA : cA = Ω.2.1 t := by
    have e9 : s.vm.findClass ("[" ++ (newarray.typeOf atype).toString) = some (Ω.2.1 t) := by
      cases atype <;> exact hra
    exact Option.some.inj (hNm.symm.trans e9)
  subst hcA
  have e0 : H.size = Ω.2.2.1 + N := hH.2.1
  rw [e0] at e1 z1 o1 ⊢
  have hx : xi Ω N = Ω.2.2.1 + N := xi_lt hN
  have := k C H1 locs ls (xH_push hH hN (by rw [z1, e0]) (fun a h9 => o1 a (by rw [← e0]; exact h9)) (by
    show H1[_]? = some (vp_cell _ (xa Ω a0))
    rw [ha]
    exact e1)) hl hv
  rw [← hx]
  exact this
theorem x_anew {t n idx : Nat} {i : Int32} {E : String} (hw : Jvm.Cond.classLink y.cls idx E ∈ xBIG ∧ E ∈ xao) (ht : xtl[t]? = some (.object E)) (d : decode cc pc = .ok (.anewarray idx, 3)) (hn : ¬ i < 0) (hi : i.toNatClampNeg = n) (hb : n * 4 ≤ 536870912) (hN : N < 1000000) (hce : ce + 1 ≤ dd.2.1 ∧ sl + n ≤ dd.2.2) (k : XW Γ y cc nL ret dd Q (ce + 1) (sl + n) (N + 1) (va_up h N (.inl (t, n, .inr (.inr (.inr (.inr (fun _ => none))))))) (pc + 3) lv (.ref N :: st)) : XW Γ y cc nL ret dd Q ce sl N h pc lv (.int i :: st) := by
  obtain ⟨p, l, e, R, s, m, args, below, meth, c, Ω⟩ := Γ
  intro C H locs ls hH hl hv
  have hcap := C.cap
  obtain ⟨kA', comp', -, -, -, hNm⟩ := (C.K.2 t _ (xtys_at ht)).2
  subst hi
  refine W.anew C.ex C.co C.ow (C.ts _ hw.1) (va_AO.use (C.st.2.2 _ hw.2)) rfl d rfl hn hb (Nat.le_trans hce.1 hcap.1) (Nat.le_trans hce.2 hcap.2) fun cA kA comp f1 f2 f3 f4 => ?_
  have hcA : cA = Ω.2.1 t := Option.some.inj (f1.symm.trans hNm)
  subst hcA
  generalize hH1 : H.push ({ cls := Ω.2.1 t, slots := Array.replicate i.toNatClampNeg .null, vm := .none } : Cell) = H1
  have z1 : H1.size = H.size + 1 := by rw [← hH1, Array.size_push]
  have e1 : H1[H.size]? = some (arrV (Ω.2.1 t) i.toNatClampNeg (fun _ => .null)) := by rw [← hH1, Array.getElem?_push_size, ← arrV_new]
  have o1 : ∀ q : Nat, q < H.size → H1[q]? = H[q]? := fun q hq => by rw [← hH1, Array.getElem?_push, if_neg (Nat.ne_of_lt hq)]
  have e0 : H.size = Ω.2.2.1 + N := hH.2.1
  have hx : xi Ω N = H.size := by rw [e0]; exact xi_lt hN
  have := k C H1 locs ls (xH_push hH hN z1 o1 (by
    show H1[Ω.2.2.1 + N]? = some (vp_cell _ (_, .inr (.inr (.inr (.inr _)))))
    rw [← e0, vp_cell_q]
    exact e1)) hl hv
  show W p l e R s m args below meth c H1 locs _ _ Q (F0 m (pc + 3) ls (.ref H.size :: st.map (xv Ω)))
  rw [← hx]
  exact this
/-- a static table -/
theorem x_gets {idx i : Nat} {q : xS} (hq : xsl[i]? = some q) (w : Jvm.Cond.fieldLink y.cls idx q.1 q.2.1 q.2.2.1 ∈ xBIG) (d : decode cc pc = .ok (.getstatic idx, 3)) (k : XW Γ y cc nL ret dd Q ce sl N h (pc + 3) lv (.ref (1000001 + i) :: st)) : XW Γ y cc nL ret dd Q ce sl N h pc lv st := by
  obtain ⟨p, l, e, R, s, m, args, below, meth, c, Ω⟩ := Γ
  intro C H locs ls hH hl hv
  obtain ⟨cf, kf, fi, f, a, cell, h1, h2, h3, h4, h5, h6, h7, h8⟩ := (C.st.1 i q hq).1
  have e9 : xi Ω (1000001 + i) = Ω.2.2.2.1 (i + 1) := by
    unfold xi
    rw [if_neg (by omega), show 1000001 + i - 1000000 = i + 1 by omega]
  have hk := k C H locs ls hH hl hv
  have hk2 : W p l e R s m args below meth c H locs ce sl Q (F0 m (pc + 3) ls (.ref (xi Ω (1000001 + i)) :: st.map (xv Ω))) := hk
  rw [e9] at hk2
  exact W.gets C.ex C.co C.ow (C.ts _ w) h1 h2 h3 h4 (by rw [hH.2.2.2.1 a (Nat.not_le.mp h8)]; exact h5) (fun z => by rw [z] at h6; cases h6) h7 rfl d hk2
theorem x_tald {j : Nat} {q : xS} {i v : Int32} (hq : xsl[j]? = some q) (hty : q.2.2.2.1 = .int) (d : decode cc pc = .ok (.iaload, 1)) (hi : vp_in i q.2.2.2.2.1) (hf : q.2.2.2.2.2 i.toNatClampNeg = .int v) (k : XW Γ y cc nL ret dd Q ce sl N h (pc + 1) lv (.int v :: st)) : XW Γ y cc nL ret dd Q ce sl N h pc lv (.int i :: .ref (1000001 + j) :: st) := by
  obtain ⟨p, l, e, R, s, m, args, below, meth, c, Ω⟩ := Γ
  intro C H locs ls hH hl hv
  obtain ⟨cell, h1, h2, h3, h4, h5, h6, h7⟩ := (C.st.1 j q hq).2
  rw [hty] at h2
  have e9 : xi Ω (1000001 + j) = Ω.2.2.2.1 (j + 1) := by
    unfold xi
    rw [if_neg (by omega), show 1000001 + j - 1000000 = j + 1 by omega]
  show W p l e R s m args below meth c H locs ce sl Q (F0 m pc ls (.int i :: .ref (xi Ω (1000001 + j)) :: st.map (xv Ω)))
  rw [e9]
  have hlt : i.toNatClampNeg < q.2.2.2.2.1 := Nat.not_le.mp fun z => hi (Or.inr z)
  have hin' : ¬ (i < 0 ∨ cell.slots.size ≤ i.toNatClampNeg) := by
    intro z
    rcases z with z | z
    · exact hi (Or.inl z)
    · omega
  exact W.iald (v := .int v) C.ex C.co (by rw [hH.2.2.2.1 _ (Nat.not_le.mp h7)]; exact h1) h2 h3 hin' (by rw [h6 _ hlt, hf]) rfl rfl d (k C H locs ls hH hl hv)
end XR2
end
section
/-! X: contracts (XM), calls, returns. -/
def xPc (Ω : xO) (av : List Value) (N : Nat) (h : xHp) : Array Value → State → Prop := va_Pc (av.map (xv Ω)) (fun U => xH Ω N h U.heap ∧ va_K Ω.1 xcl (xtys Ω.2.1) U ∧ xst Ω U)
def xQc (Ω : xO) (N : Nat) (Qp : Option Value → xHp → Prop) : Array Value → State → Outcome → State → Prop := fun _ _ o t => ∃ (r : Option Value) (h' : xHp), o = .returned (r.map (xv Ω)) ∧ Qp r h' ∧ xH Ω N h' t.heap
def xroom (d mc ms : Nat) : Room := { frames := d, cells := mc, slots := ms, locals := 48 * d }
/-- method y's contract: with arguments av over the cells h it returns r, and the cells are h', so that Qp r h'; it nests d deep at most; it makes mc cells of ms slots -/
def XM (y : MethodName) (bytes : ByteArray) (maxL : Nat) (ret : Option FieldType) (d mc ms : Nat) (av : List Value) (N : Nat) (h : xHp) (Qp : Option Value → xHp → Prop) : Prop :=
  ∀ (l : Launch) (Ω : xO), Met l y (Jvm.Cond.code y bytes maxL ret :: xBIG) (xroom d mc ms) (xPc Ω av N h) (xQc Ω (N + mc) Qp) mc ms (fun q => Ω.2.2.1 ≤ q)
def xQ (Γ : xG) (N mc ms : Nat) (Qp : Option Value → xHp → Prop) : State → Prop :=
  match Γ with
  | (_, _, _, _, s, _, args, below, _, _, Ω) => MQ below (xQc Ω N Qp) args s mc ms (fun q => Ω.2.2.1 ≤ q)
theorem xPc_blind (Ω : xO) (av : List Value) (N : Nat) (h : xHp) : FrameBlind (xPc Ω av N h) := by
  intro a U g mk q
  obtain ⟨q0, q1, q2, q3⟩ := q
  exact ⟨q0, q1, va_K.moved (u := U) (U := U.calling g mk a) (Vm.Alike.refl U.vm) q2, xst.same (u := U) (U := U.calling g mk a) rfl q3⟩
theorem xM_intro {y : MethodName} {cc : ByteArray} {nL : Nat} {ret : Option FieldType} {d mc ms : Nat} {av : List Value} {N : Nat} {h : xHp} {Qp : Option Value → xHp → Prop} (lv0 : List (Option Value)) (hy : plainName y.cls = true) (hlv : ∀ Ω, xl Ω 0 lv0 = lv_args 0 (av.map (xv Ω))) (hlen : ∀ Ω, (lg_sl (av.map (xv Ω))).length ≤ nL) (body : ∀ Γ, XW Γ y cc nL ret (d, mc, ms) (xQ Γ (N + mc) mc ms Qp) 0 0 N h 0 lv0 []) : XM y cc nL ret d mc ms av N h Qp := by
  intro l Ω
  refine Met.ofW (cc := cc) (maxL := nL) (ret := ret) hy rfl ?_
  intro p e s m args below meth c s₁ B hml hP
  obtain ⟨rfl, hH, hK, hS⟩ := hP
  have hts := atoms_spec (ws := Jvm.Cond.code y cc nL ret :: xBIG) B.pre
  have hb := body (p, l, e, (headSpec (Jvm.Cond.code y cc nL ret :: xBIG) (xroom d mc ms)).room, s, m, (av.map (xv Ω)).toArray, below, meth, c, Ω)
  rw [lg_entry_eq]
  exact hb ⟨B.exec, B.bytes, hml, findClass_of_methodNamed B.named, fun w hw => hts w (List.mem_cons_of_mem _ hw), hK, hS, B.notSynchronized, B.returns, (name_of_methodNamed B.named B.method).1, Nat.le_refl _, Nat.le_refl _, Nat.le_refl _, Nat.le_refl _⟩ s.heap [] _ hH (fun q h => by cases h) (by rw [hlv Ω]; exact lv_entry _ (hlen Ω))
theorem xM_mono {y : MethodName} {cc : ByteArray} {nL : Nat} {ret : Option FieldType} {d mc ms : Nat} {av : List Value} {N : Nat} {h : xHp} {Qp Qp' : Option Value → xHp → Prop} (M : XM y cc nL ret d mc ms av N h Qp) (hq : ∀ r h', Qp r h' → Qp' r h') : XM y cc nL ret d mc ms av N h Qp' := by
  intro l Ω p e ha hc hk s m args below h1 h2 h3 h4
  obtain ⟨t, o, a1, a2, a3, ⟨r, h', b1, b2, b3⟩, b4⟩ := M l Ω p e ha hc hk s m args below h1 h2 h3 h4
  exact ⟨t, o, a1, a2, a3, ⟨r, h', b1, hq r h' b2, b3⟩, b4⟩
theorem xgoodIn {y : MethodName} {cc : ByteArray} {nL : Nat} {ret : Option FieldType} (hc : Jvm.Cond.code y cc nL ret ∈ xBIG) : GoodIn xBIG (Jvm.Cond.code y cc nL ret :: xBIG) := by
  intro w hw
  rcases List.mem_cons.mp hw with h | h
  · subst h
    exact ⟨hc, xgood _ hc⟩
  · exact ⟨h, xgood _ h⟩
/-- the words of a call -/
def xcB (own : String) (idx : Nat) (y : MethodName) (bytes : ByteArray) (maxL : Nat) (ret : Option FieldType) (n : Nat) : Prop :=
  Jvm.Cond.methodLink own idx y ∈ xBIG ∧ Jvm.Cond.initialized y.cls ∈ xBIG ∧ Jvm.Cond.code y bytes maxL ret ∈ xBIG ∧ (y.cls ≠ "java/lang/invoke/MethodHandle" ∧ y.cls ≠ "java/lang/invoke/VarHandle" ∧ (parseMethodDescriptor y.desc).map (fun d => d.parameters.length) = some n) ∧ maxL ≤ 28
def xcN (own : String) (idx : Nat) (y : MethodName) (host : String) (bytes : ByteArray) (maxL : Nat) (ret : Option FieldType) (n : Nat) : Prop :=
  (own, idx, y, host) ∈ xml ∧ Jvm.Cond.initialized y.cls ∈ xBIG ∧ Jvm.Cond.code y bytes maxL ret ∈ xBIG ∧ (y.cls ≠ "java/lang/invoke/MethodHandle" ∧ y.cls ≠ "java/lang/invoke/VarHandle" ∧ (parseMethodDescriptor y.desc).map (fun d => d.parameters.length) = some n) ∧ maxL ≤ 28
section XR3
variable {Γ : xG} {y : MethodName} {cc : ByteArray} {nL : Nat} {ret : Option FieldType} {dd : Nat × Nat × Nat} {Q : State → Prop} {ce sl N : Nat} {h : xHp} {pc : Nat} {lv : List (Option Value)} {st : List Value}
variable {y2 : MethodName} {b2 : ByteArray} {n2 : Nat} {ret2 : Option FieldType} {d2 mc ms idx q : Nat} {As : List Value} {Qp : Option Value → xHp → Prop} {stk : List Value}
theorem x_room {R : Room} (hfr : dd.1 ≤ R.frames) (hlo : 48 * dd.1 ≤ R.locals) (hd : d2 < dd.1) (hn : n2 ≤ 28) : (xroom d2 mc ms).frames + 1 ≤ R.frames ∧ 8 + (n2 + 11) + (xroom d2 mc ms).locals ≤ R.locals := by
  show d2 + 1 ≤ R.frames ∧ 8 + (n2 + 11) + 48 * d2 ≤ R.locals
  omega
theorem x_sum (Ω : xO) (st : List Value) : ((st.map (xv Ω)).map fun v => v.category).sum = (st.map fun v => v.category).sum := by
  rw [List.map_map]
  congr 1
  exact List.map_congr_left (fun v _ => xv_cat Ω v)
theorem x_run {p : Program} {l : Launch} {e : Env} {R : Room} {s : State} {m : MethodId} {args : Array Value} {below : List Frame} {meth : Method} {c : Code} {Ω : xO} {H : Heap} {locs : List Loc} {ls : Array Slot} {a : Array Value} {stk : List Value}
    (run : va_Run p l e R s m args below meth c H locs ce sl mc ms (F0 m pc ls stk) (st.map (xv Ω)) (xQc Ω (N + mc) Qp a) (fun q => Ω.2.2.1 ≤ q)) (C : XC p R s m args meth c Ω y cc nL ret dd) (hl : ∀ q ∈ locs, Ω.2.2.1 ≤ q.base) (hv : lv_has ls nL (xl Ω 0 lv))
    (k : ∀ r h', Qp r h' → XW (p, l, e, R, s, m, args, below, meth, c, Ω) y cc nL ret dd Q (ce + mc) (sl + ms) (N + mc) h' (pc + 3) lv (r.toList ++ st)) : W p l e R s m args below meth c H locs ce sl Q (F0 m pc ls stk) := by
  intro T hT X
  obtain ⟨v, st₀, t, T', L, h0, X', hL, e1, e2, ⟨r, h', ho, hq, hH'⟩, stp⟩ := run T hT X
  have hvr : v = r.map (xv Ω) := Outcome.returned.inj ho
  subst hvr
  have hk := k r h' hq C T'.heap (locs ++ L) ls (by rw [e1]; exact hH') (fun q hq => by
    rcases List.mem_append.mp hq with z | z
    · exact hl q z
    · exact hL q z) hv
  obtain ⟨t2, a1, b1⟩ := hk T' rfl X'
  refine ⟨t2, stp t2 ?_, b1⟩
  have e5 : (r.map (xv Ω)).toList ++ st.map (xv Ω) = (r.toList ++ st).map (xv Ω) := by cases r <;> simp
  rw [e5]
  exact a1
theorem x_mapst (Ω : xO) (hst : stk = As.reverse ++ .ref q :: st) : stk.map (xv Ω) = (As.map (xv Ω)).reverse ++ .ref (xi Ω q) :: st.map (xv Ω) := by
  rw [hst, List.map_append, List.map_reverse]
  rfl
theorem x_mapst0 (Ω : xO) (hst : stk = As.reverse ++ st) : stk.map (xv Ω) = (As.map (xv Ω)).reverse ++ st.map (xv Ω) := by
  rw [hst, List.map_append, List.map_reverse]
theorem x_callV {ci : Nat} {fs : List Value} (M : XM y2 b2 n2 ret2 d2 mc ms (.ref q :: As) N h Qp) (F : xcB y.cls idx y2 b2 n2 ret2 As.length) (F2 : Jvm.Cond.instanceMethod y2 ∈ xBIG ∧ Jvm.Cond.selects y2.cls y2 y2 ∈ xBIG) (d : decode cc pc = .ok (.invokevirtual idx, 3)) (hst : stk = As.reverse ++ .ref q :: st) (hq : q < N) (hh : h q = .inr (ci, fs)) (hci : (xcl[ci]?).map (fun r => r.1) = some y2.cls) (hd : d2 < dd.1) (hr : (st.map fun v => v.category).sum ≤ 8) (hce : ce + mc ≤ dd.2.1 ∧ sl + ms ≤ dd.2.2)
    (k : ∀ r h', Qp r h' → XW Γ y cc nL ret dd Q (ce + mc) (sl + ms) (N + mc) h' (pc + 3) lv (r.toList ++ st)) : XW Γ y cc nL ret dd Q ce sl N h pc lv stk := by
  obtain ⟨p, l, e, R, s, m, args, below, meth, c, Ω⟩ := Γ
  intro C H locs ls hH hl hv
  obtain ⟨w1, w2, w3, w4, w5⟩ := F
  have hc := xH_at hH hq
  rw [hh] at hc
  obtain ⟨rc, g1, cell, g2, g3, g4, g5⟩ := hc
  rw [x_mapst Ω hst, xH_i hH hq]
  have hrc : rc.1 = y2.cls := by
    have g1' : xcl[ci]? = some rc := g1
    rw [g1'] at hci
    exact Option.some.inj hci
  refine x_run (va_runV (C := y2.cls) (b := Ω.2.2.1 + q) (As := As.map (xv Ω)) (rest := st.map (xv Ω)) ⟨C.ex, C.co, C.ml, C.ow, C.ts⟩ (M l Ω) ⟨callB_of As.length C.ts (xgoodIn w3) rfl rfl rfl (C.ts _ w2) (C.ts _ w1) w4 (x_room C.fr C.lo hd w5), C.ts _ F2.1, C.ts _ F2.2⟩ ⟨xPc_blind _ _ _ _, ⟨cell, g2, by rw [g4]; rfl, ?_⟩, fun U hU hW => ⟨?_, by rw [hU]; exact hH, va_K.moved hW.alike C.K, xst.warm hW C.st⟩⟩ rfl (by simp) hv.1 rfl (lv_room (by rw [x_sum]; exact hr)) d ⟨Nat.le_trans hce.1 C.cap.1, Nat.le_trans hce.2 C.cap.2⟩) C hl hv k
  · have := (C.K.1 ci rc g1).2.1
    rw [hrc] at this
    rw [g3]
    exact this
  · show _ = ((Value.ref q :: As).map (xv Ω)).toArray
    rw [List.map_cons]
    show _ = (Value.ref (xi Ω q) :: As.map (xv Ω)).toArray
    rw [xH_i hH hq]
theorem x_callS (M : XM y2 b2 n2 ret2 d2 mc ms As N h Qp) (F : xcB y.cls idx y2 b2 n2 ret2 As.length) (F2 : Jvm.Cond.static y2 ∈ xBIG) (d : decode cc pc = .ok (.invokestatic idx, 3)) (hst : stk = As.reverse ++ st) (hd : d2 < dd.1) (hr : (st.map fun v => v.category).sum ≤ 8) (hce : ce + mc ≤ dd.2.1 ∧ sl + ms ≤ dd.2.2)
    (k : ∀ r h', Qp r h' → XW Γ y cc nL ret dd Q (ce + mc) (sl + ms) (N + mc) h' (pc + 3) lv (r.toList ++ st)) : XW Γ y cc nL ret dd Q ce sl N h pc lv stk := by
  obtain ⟨p, l, e, R, s, m, args, below, meth, c, Ω⟩ := Γ
  intro C H locs ls hH hl hv
  obtain ⟨w1, w2, w3, w4, w5⟩ := F
  rw [x_mapst0 Ω hst]
  exact x_run (va_runS (As := As.map (xv Ω)) (rest := st.map (xv Ω)) ⟨C.ex, C.co, C.ml, C.ow, C.ts⟩ (M l Ω) ⟨callB_of As.length C.ts (xgoodIn w3) rfl rfl rfl (C.ts _ w2) (C.ts _ w1) w4 (x_room C.fr C.lo hd w5), C.ts _ F2⟩ ⟨xPc_blind _ _ _ _, fun U hU hW => ⟨rfl, by rw [hU]; exact hH, va_K.moved hW.alike C.K, xst.warm hW C.st⟩⟩ rfl (by simp) hv.1 rfl (lv_room (by rw [x_sum]; exact hr)) d ⟨Nat.le_trans hce.1 C.cap.1, Nat.le_trans hce.2 C.cap.2⟩) C hl hv k
theorem x_callI (M : XM y2 b2 n2 none d2 mc ms (.ref q :: As) N h Qp) (F : xcB y.cls idx y2 b2 n2 none As.length) (F2 : y2.name = "<init>" ∧ Jvm.Cond.instanceMethod y2 ∈ xBIG) (d : decode cc pc = .ok (.invokespecial idx, 3)) (hst : stk = As.reverse ++ .ref q :: st) (hq : q < N) (hd : d2 < dd.1) (hr : (st.map fun v => v.category).sum ≤ 8) (hce : ce + mc ≤ dd.2.1 ∧ sl + ms ≤ dd.2.2)
    (k : ∀ r h', Qp r h' → XW Γ y cc nL ret dd Q (ce + mc) (sl + ms) (N + mc) h' (pc + 3) lv (r.toList ++ st)) : XW Γ y cc nL ret dd Q ce sl N h pc lv stk := by
  obtain ⟨p, l, e, R, s, m, args, below, meth, c, Ω⟩ := Γ
  intro C H locs ls hH hl hv
  obtain ⟨w1, w2, w3, w4, w5⟩ := F
  rw [x_mapst Ω hst, xH_i hH hq]
  refine x_run (va_runI (b := Ω.2.2.1 + q) (As := As.map (xv Ω)) (rest := st.map (xv Ω)) ⟨C.ex, C.co, C.ml, C.ow, C.ts⟩ (M l Ω) ⟨callB_of As.length C.ts (xgoodIn w3) rfl rfl rfl (C.ts _ w2) (C.ts _ w1) w4 (x_room C.fr C.lo hd w5), F2.1, C.ts _ F2.2⟩ ⟨xPc_blind _ _ _ _, fun U hU hW => ⟨?_, by rw [hU]; exact hH, va_K.moved hW.alike C.K, xst.warm hW C.st⟩⟩ rfl (by simp) hv.1 rfl (lv_room (by rw [x_sum]; exact hr)) d ⟨Nat.le_trans hce.1 C.cap.1, Nat.le_trans hce.2 C.cap.2⟩) C hl hv k
  show _ = ((Value.ref q :: As).map (xv Ω)).toArray
  rw [List.map_cons]
  show _ = (Value.ref (xi Ω q) :: As.map (xv Ω)).toArray
  rw [xH_i hH hq]
theorem x_callIN {host : String} (M : XM y2 b2 n2 none d2 mc ms (.ref q :: As) N h Qp) (F : xcN y.cls idx y2 host b2 n2 none As.length) (F2 : y2.name = "<init>" ∧ Jvm.Cond.instanceMethod y2 ∈ xBIG) (d : decode cc pc = .ok (.invokespecial idx, 3)) (hst : stk = As.reverse ++ .ref q :: st) (hq : q < N) (hd : d2 < dd.1) (hr : (st.map fun v => v.category).sum ≤ 8) (hce : ce + mc ≤ dd.2.1 ∧ sl + ms ≤ dd.2.2)
    (k : ∀ r h', Qp r h' → XW Γ y cc nL ret dd Q (ce + mc) (sl + ms) (N + mc) h' (pc + 3) lv (r.toList ++ st)) : XW Γ y cc nL ret dd Q ce sl N h pc lv stk := by
  obtain ⟨p, l, e, R, s, m, args, below, meth, c, Ω⟩ := Γ
  intro C H locs ls hH hl hv
  obtain ⟨w1, w2, w3, w4, w5⟩ := F
  rw [x_mapst Ω hst, xH_i hH hq]
  refine x_run (va_runIN (b := Ω.2.2.1 + q) (As := As.map (xv Ω)) (rest := st.map (xv Ω)) ⟨C.ex, C.co, C.ml, C.ow, C.ts⟩ (M l Ω) ⟨va_cnB As.length C.ts (xgoodIn w3) rfl rfl rfl (C.st.2.1 _ w1) (C.ts _ w2) w4 (x_room C.fr C.lo hd w5), F2.1, C.ts _ F2.2⟩ ⟨xPc_blind _ _ _ _, fun U hU hW => ⟨?_, by rw [hU]; exact hH, va_K.moved hW.alike C.K, xst.warm hW C.st⟩⟩ rfl (by simp) hv.1 rfl (lv_room (by rw [x_sum]; exact hr)) d ⟨Nat.le_trans hce.1 C.cap.1, Nat.le_trans hce.2 C.cap.2⟩) C hl hv k
  show _ = ((Value.ref q :: As).map (xv Ω)).toArray
  rw [List.map_cons]
  show _ = (Value.ref (xi Ω q) :: As.map (xv Ω)).toArray
  rw [xH_i hH hq]
theorem x_objInit (F : Jvm.Cond.methodLink y.cls idx Lib.objectInit ∈ xBIG ∧ Jvm.Cond.instanceMethod Lib.objectInit ∈ xBIG ∧ Jvm.Cond.code Lib.objectInit ⟨#[0xb1]⟩ 1 none ∈ xBIG) (d : decode cc pc = .ok (.invokespecial idx, 3)) (hd : 0 < dd.1) (hr : (st.map fun v => v.category).sum ≤ 8) (k : XW Γ y cc nL ret dd Q ce sl N h (pc + 3) lv st) : XW Γ y cc nL ret dd Q ce sl N h pc lv (.ref q :: st) := by
  obtain ⟨p, l, e, R, s, m, args, below, meth, c, Ω⟩ := Γ
  intro C H locs ls hH hl hv
  have h1 := C.fr
  have h2 := C.lo
  have h3 := lv_room (m := m) (pc := pc) (ls := ls) (rest := ((Value.ref q :: st).map (xv Ω))) (st := st.map (xv Ω)) (by rw [x_sum]; exact hr)
  exact W.objInit C.ex C.co C.ow (C.ts _ F.1) (C.ts _ F.2.1) (C.ts _ F.2.2) rfl (by rw [C.ml]; exact hv.1) rfl d (by omega) (by omega) (k C H locs ls hH hl hv)
theorem x_iret {v : Int32} (d : decode cc pc = .ok (.ireturn, 1)) (hq : Qp (some (.int v)) h) : XW Γ y cc nL (some .int) dd (xQ Γ N ce sl Qp) ce sl N h pc lv [.int v] := by
  obtain ⟨p, l, e, R, s, m, args, below, meth, c, Ω⟩ := Γ
  intro C H locs ls hH hl hv
  exact W.iret C.ex C.co C.rt (fun t ht hW => ⟨some (.int v), h, rfl, hq, by rw [ht]; exact hH⟩) hl d C.lk
theorem x_zret {v : Int32} {ty : FieldType} (d : decode cc pc = .ok (.ireturn, 1)) (hn : narrow ty (.int v) = .int v) (hq : Qp (some (.int v)) h) : XW Γ y cc nL (some ty) dd (xQ Γ N ce sl Qp) ce sl N h pc lv [.int v] := by
  obtain ⟨p, l, e, R, s, m, args, below, meth, c, Ω⟩ := Γ
  intro C H locs ls hH hl hv
  exact W.zret C.ex C.co C.rt hn (fun t ht hW => ⟨some (.int v), h, rfl, hq, by rw [ht]; exact hH⟩) hl d C.lk
theorem x_lret {v : Int64} (d : decode cc pc = .ok (.lreturn, 1)) (hq : Qp (some (.long v)) h) : XW Γ y cc nL (some .long) dd (xQ Γ N ce sl Qp) ce sl N h pc lv [.long v] := by
  obtain ⟨p, l, e, R, s, m, args, below, meth, c, Ω⟩ := Γ
  intro C H locs ls hH hl hv
  exact W.lret C.ex C.co C.rt (fun t ht hW => ⟨some (.long v), h, rfl, hq, by rw [ht]; exact hH⟩) hl d C.lk
theorem x_vret (d : decode cc pc = .ok (.return_, 1)) (hq : Qp none h) : XW Γ y cc nL none dd (xQ Γ N ce sl Qp) ce sl N h pc lv [] := by
  obtain ⟨p, l, e, R, s, m, args, below, meth, c, Ω⟩ := Γ
  intro C H locs ls hH hl hv
  exact W.vret C.ex C.co C.rt (fun t ht hW => ⟨none, h, rfl, hq, by rw [ht]; exact hH⟩) hl d C.lk
theorem x_aret {v : Nat} {rt : FieldType} (hrt : (∃ n, rt = .object n) ∨ ∃ t, rt = .array t) (d : decode cc pc = .ok (.areturn, 1)) (hq : Qp (some (.ref v)) h) : XW Γ y cc nL (some rt) dd (xQ Γ N ce sl Qp) ce sl N h pc lv [.ref v] := by
  obtain ⟨p, l, e, R, s, m, args, below, meth, c, Ω⟩ := Γ
  intro C H locs ls hH hl hv
  exact W.aret C.ex C.co C.rt hrt (Or.inr ⟨_, rfl⟩) (fun t ht hW => ⟨some (.ref v), h, rfl, hq, by rw [ht]; exact hH⟩) hl d C.lk
end XR3
end
section
/-! X: System.arraycopy of ints; small rows for scripts. -/
theorem xnn {z : Int32} (hz : ¬ z < 0) : z.toInt = (z.toNatClampNeg : Int) := by
  have h0 : (0 : Int) ≤ z.toInt := by
    have h1 := Int32.not_lt.mp hz
    simpa using Int32.le_iff_toInt_le.mp h1
  show z.toInt = ((z.toInt.toNat : Nat) : Int)
  omega
section XR4
variable {Γ : xG} {y : MethodName} {cc : ByteArray} {nL : Nat} {ret : Option FieldType} {dd : Nat × Nat × Nat} {Q : State → Prop} {ce sl N : Nat} {h : xHp} {pc : Nat} {lv : List (Option Value)} {st : List Value}
theorem x_copyi {idx q0 q1 n0 n1 : Nat} {f g : Nat → Int32} {sp dp n : Int32} (F : Jvm.Cond.methodLink y.cls idx arraycopyName ∈ xBIG ∧ Jvm.Cond.native arraycopyName ∈ xBIG ∧ Jvm.Cond.static arraycopyName ∈ xBIG ∧ Jvm.Cond.initialized "java/lang/System" ∈ xBIG) (d : decode cc pc = .ok (.invokestatic idx, 3)) (hq0 : q0 < N) (hh0 : h q0 = .inl (0, n0, .inl f)) (hq1 : q1 < N) (hh1 : h q1 = .inl (0, n1, .inl g)) (h1 : ¬ sp < 0) (h2 : ¬ dp < 0) (h3 : ¬ n < 0) (h4 : sp.toNatClampNeg + n.toNatClampNeg ≤ n0) (h5 : dp.toNatClampNeg + n.toNatClampNeg ≤ n1) (hd : 0 < dd.1) (hr : (st.map fun v => v.category).sum ≤ 8) (k : XW Γ y cc nL ret dd Q ce sl N (va_up h q1 (.inl (0, n1, .inl (va_cpy f g sp.toNatClampNeg dp.toNatClampNeg n.toNatClampNeg)))) (pc + 3) lv st) : XW Γ y cc nL ret dd Q ce sl N h pc lv (.int n :: .int dp :: .ref q1 :: .int sp :: .ref q0 :: st) := by
  obtain ⟨p, l, e, R, s, m, args, below, meth, c, Ω⟩ := Γ
  intro C H locs ls hH hl hv T hT X
  have hc0 := xH_at hH hq0
  rw [hh0] at hc0
  have hc1 := xH_at hH hq1
  rw [hh1] at hc1
  have g0 : H[Ω.2.2.1 + q0]? = some (vp_cell (Ω.2.1 0) (n0, .inl f)) := hc0
  have g1 : H[Ω.2.2.1 + q1]? = some (vp_cell (Ω.2.1 0) (n1, .inl g)) := hc1
  have hA := (C.K.2 0 _ (xtys_at (tc := Ω.2.1) (t := 0) (ty := .int) rfl)).1
  obtain ⟨-, k0, hk0, cm0, hkk0⟩ := hA n0 (fun j => .int (f j))
  obtain ⟨-, k1, hk1, cm1, hkk1⟩ := hA n1 (fun j => .int (g j))
  have hfr := C.fr
  have hlo := C.lo
  obtain ⟨vm', X', step⟩ := X.arraycopy C.ex C.ow (C.ts _ F.1) (C.ts _ F.2.1) (C.ts _ F.2.2.1) (C.ts _ F.2.2.2) (src := Ω.2.2.1 + q0) (dst := Ω.2.2.1 + q1) (cs := vp_cell (Ω.2.1 0) (n0, .inl f)) (cd := vp_cell (Ω.2.1 0) (n1, .inl g)) (srcPos := sp) (destPos := dp) (n := n) (by rw [hT]; exact g0) (by rw [hT]; exact g1)
    (fun _ h => by cases h) (fun _ h => by cases h) (fun h => by cases h) (fun h => by cases h) hk0 hk1 hkk0 hkk1 (by simp [refKind]) h1 h2 h3
    (by rw [xnn h1, xnn h3]; show ¬ _ > ((arrV _ n0 (fun j => .int (f j))).slots.size : Int); rw [arrV_size]; omega)
    (by rw [xnn h2, xnn h3]; show ¬ _ > ((arrV _ n1 (fun j => .int (g j))).slots.size : Int); rw [arrV_size]; omega)
    (fun vm₁ _ i hi => by
      have e : (vp_cell (Ω.2.1 0) (n0, .inl f)).slots.getD (sp.toNatClampNeg + i) .null = .int (f (sp.toNatClampNeg + i)) := by
        show (arrV _ n0 (fun j => .int (f j))).slots.getD _ _ = _
        rw [Array.getD_eq_getD_getElem?, arrV_read _ _ (by omega)]
        rfl
      refine ⟨?_, ?_⟩
      · rw [e]
        rfl
      · rw [e]
        exact trivial)
    (g := F0 m pc ls (.int n :: .int dp :: .ref (Ω.2.2.1 + q1) :: .int sp :: .ref (Ω.2.2.1 + q0) :: st.map (xv Ω))) rfl (by rw [C.ml]; exact hv.1) (rest := st.map (xv Ω)) rfl (by rw [C.co]; exact d) (by omega) (by
      have e8 : nativeFrameWords "java/lang/System" "arraycopy" 5 = 7 := by decide +kernel
      rw [e8, x_sum]
      show 2 * 0 + _ + _ ≤ _
      omega)
  have e1 : copied (vp_cell (Ω.2.1 0) (n0, .inl f)) (vp_cell (Ω.2.1 0) (n1, .inl g)) sp dp n = vp_cell (Ω.2.1 0) (n1, .inl (va_cpy f g sp.toNatClampNeg dp.toNatClampNeg n.toNatClampNeg)) := va_copied (fun z => .int z) _ _ f g h4
  rw [e1] at X' step
  have hlt : Ω.2.2.1 + q1 < H.size := (Array.getElem?_eq_some_iff.mp g1).1
  generalize hH1 : H.setIfInBounds (Ω.2.2.1 + q1) (vp_cell (Ω.2.1 0) (n1, .inl (va_cpy f g sp.toNatClampNeg dp.toNatClampNeg n.toNatClampNeg))) = H1
  have hheap : ((T.setVm vm').setCell (Ω.2.2.1 + q1) (vp_cell (Ω.2.1 0) (n1, .inl (va_cpy f g sp.toNatClampNeg dp.toNatClampNeg n.toNatClampNeg)))).heap = H1 := by rw [← hH1, ← hT]; rfl
  obtain ⟨t, a1, b1⟩ := k C H1 _ ls (xH_set hH hq1 (by rw [← hH1]; simp) (fun a ha => by rw [← hH1]; simp [Array.getElem?_setIfInBounds, Ne.symm ha]) (by
    show H1[_]? = some (vp_cell _ (n1, .inl _))
    rw [← hH1]
    simp [Array.getElem?_setIfInBounds, hlt])) (fun q hq => by
      rcases List.mem_append.mp hq with z | z
      · exact hl q z
      · obtain ⟨w, -, hw⟩ := List.mem_map.mp z
        rw [← hw]
        exact Nat.le_add_right _ _) hv _ hheap X'
  refine ⟨t, ?_, b1⟩
  have h9 := step t a1
  have e3 : (.int n :: .int dp :: .ref q1 :: .int sp :: .ref q0 :: st : List Value).map (xv Ω) = .int n :: .int dp :: .ref (Ω.2.2.1 + q1) :: .int sp :: .ref (Ω.2.2.1 + q0) :: st.map (xv Ω) := by
    show (.int n :: .int dp :: .ref (xi Ω q1) :: .int sp :: .ref (xi Ω q0) :: st.map (xv Ω) : List Value) = _
    rw [xH_i hH hq0, xH_i hH hq1]
  rw [e3]
  exact h9
end XR4
theorem vu_s {α : Type} {f : Nat → α} {k : Nat} {v : α} : va_up f k v k = v := if_pos rfl
theorem vu_n {α : Type} {f : Nat → α} {k j : Nat} {v : α} (h : j ≠ k) : va_up f k v j = f j := if_neg h
theorem vu_t {α : Type} {f : Nat → α} {k j : Nat} {v w : α} (h : j ≠ k) (e : f j = w) : va_up f k v j = w := (if_neg h).trans e
theorem vu_c {α : Type} (f : Nat → α) {k j : Nat} (v w : α) (h : j ≠ k) : va_up (va_up f k v) j w = va_up (va_up f j w) k v := by
  funext i
  by_cases e1 : i = j
  · subst e1
    simp [va_up, h]
  · by_cases e2 : i = k
    · subst e2
      simp [va_up, e1]
    · simp [va_up, e1, e2]
theorem vu_e {α : Type} (f : Nat → α) (k : Nat) : va_up f k (f k) = f := by
  funext i
  by_cases e1 : i = k
  · subst e1
    simp [va_up]
  · simp [va_up, e1]
end
section
theorem d_K_init_0 : decode b_K_init 0 = .ok (.aload_n 0, 1) := by decide +kernel
theorem d_K_init_1 : decode b_K_init 1 = .ok (.invokespecial 1, 3) := by decide +kernel
theorem d_K_init_4 : decode b_K_init 4 = .ok (.aload_n 0, 1) := by decide +kernel
theorem d_K_init_5 : decode b_K_init 5 = .ok (.new 7, 3) := by decide +kernel
theorem d_K_init_8 : decode b_K_init 8 = .ok (.dup, 1) := by decide +kernel
theorem d_K_init_9 : decode b_K_init 9 = .ok (.invokespecial 9, 3) := by decide +kernel
theorem d_K_init_12 : decode b_K_init 12 = .ok (.putfield 10, 3) := by decide +kernel
theorem d_K_init_15 : decode b_K_init 15 = .ok (.aload_n 0, 1) := by decide +kernel
theorem d_K_init_16 : decode b_K_init 16 = .ok (.new 16, 3) := by decide +kernel
theorem d_K_init_19 : decode b_K_init 19 = .ok (.dup, 1) := by decide +kernel
theorem d_K_init_20 : decode b_K_init 20 = .ok (.invokespecial 18, 3) := by decide +kernel
theorem d_K_init_23 : decode b_K_init 23 = .ok (.putfield 19, 3) := by decide +kernel
theorem d_K_init_26 : decode b_K_init 26 = .ok (.aload_n 0, 1) := by decide +kernel
theorem d_K_init_27 : decode b_K_init 27 = .ok (.new 23, 3) := by decide +kernel
theorem d_K_init_30 : decode b_K_init 30 = .ok (.dup, 1) := by decide +kernel
theorem d_K_init_31 : decode b_K_init 31 = .ok (.invokespecial 25, 3) := by decide +kernel
theorem d_K_init_34 : decode b_K_init 34 = .ok (.putfield 26, 3) := by decide +kernel
theorem d_K_init_37 : decode b_K_init 37 = .ok (.aload_n 0, 1) := by decide +kernel
theorem d_K_init_38 : decode b_K_init 38 = .ok (.new 30, 3) := by decide +kernel
theorem d_K_init_41 : decode b_K_init 41 = .ok (.dup, 1) := by decide +kernel
theorem d_K_init_42 : decode b_K_init 42 = .ok (.invokespecial 32, 3) := by decide +kernel
theorem d_K_init_45 : decode b_K_init 45 = .ok (.putfield 33, 3) := by decide +kernel
theorem d_K_init_48 : decode b_K_init 48 = .ok (.aload_n 0, 1) := by decide +kernel
theorem d_K_init_49 : decode b_K_init 49 = .ok (.iconst 4, 1) := by decide +kernel
theorem d_K_init_50 : decode b_K_init 50 = .ok (.anewarray 37, 3) := by decide +kernel
theorem d_K_init_53 : decode b_K_init 53 = .ok (.putfield 39, 3) := by decide +kernel
theorem d_K_init_56 : decode b_K_init 56 = .ok (.iconst 0, 1) := by decide +kernel
theorem d_K_init_57 : decode b_K_init 57 = .ok (.istore_n 1, 1) := by decide +kernel
theorem d_K_init_58 : decode b_K_init 58 = .ok (.iload_n 1, 1) := by decide +kernel
theorem d_K_init_59 : decode b_K_init 59 = .ok (.iconst 4, 1) := by decide +kernel
theorem d_K_init_60 : decode b_K_init 60 = .ok (.if_icmp .ge 22, 3) := by decide +kernel
theorem d_K_init_63 : decode b_K_init 63 = .ok (.aload_n 0, 1) := by decide +kernel
theorem d_K_init_64 : decode b_K_init 64 = .ok (.getfield 39, 3) := by decide +kernel
theorem d_K_init_67 : decode b_K_init 67 = .ok (.iload_n 1, 1) := by decide +kernel
theorem d_K_init_68 : decode b_K_init 68 = .ok (.new 37, 3) := by decide +kernel
theorem d_K_init_71 : decode b_K_init 71 = .ok (.dup, 1) := by decide +kernel
theorem d_K_init_72 : decode b_K_init 72 = .ok (.invokespecial 43, 3) := by decide +kernel
theorem d_K_init_75 : decode b_K_init 75 = .ok (.aastore, 1) := by decide +kernel
theorem d_K_init_76 : decode b_K_init 76 = .ok (.iinc 1 1, 3) := by decide +kernel
theorem d_K_init_79 : decode b_K_init 79 = .ok (.goto (-21), 3) := by decide +kernel
theorem d_K_init_82 : decode b_K_init 82 = .ok (.return_, 1) := by decide +kernel
theorem d_K_change_0 : decode b_K_change 0 = .ok (.iload_n 1, 1) := by decide +kernel
theorem d_K_change_1 : decode b_K_change 1 = .ok (.iload_n 2, 1) := by decide +kernel
theorem d_K_change_2 : decode b_K_change 2 = .ok (.iload_n 3, 1) := by decide +kernel
theorem d_K_change_3 : decode b_K_change 3 = .ok (.invokestatic 44, 3) := by decide +kernel
theorem d_K_change_6 : decode b_K_change 6 = .ok (.ifCond .ne 5, 3) := by decide +kernel
theorem d_K_change_9 : decode b_K_change 9 = .ok (.iconst (-1), 1) := by decide +kernel
theorem d_K_change_10 : decode b_K_change 10 = .ok (.ireturn, 1) := by decide +kernel
theorem d_K_change_11 : decode b_K_change 11 = .ok (.aload_n 0, 1) := by decide +kernel
theorem d_K_change_12 : decode b_K_change 12 = .ok (.getfield 10, 3) := by decide +kernel
theorem d_K_change_15 : decode b_K_change 15 = .ok (.iload_n 1, 1) := by decide +kernel
theorem d_K_change_16 : decode b_K_change 16 = .ok (.iload_n 2, 1) := by decide +kernel
theorem d_K_change_17 : decode b_K_change 17 = .ok (.iload_n 3, 1) := by decide +kernel
theorem d_K_change_18 : decode b_K_change 18 = .ok (.invokestatic 48, 3) := by decide +kernel
theorem d_K_change_21 : decode b_K_change 21 = .ok (.iload 4, 2) := by decide +kernel
theorem d_K_change_23 : decode b_K_change 23 = .ok (.invokevirtual 52, 3) := by decide +kernel
theorem d_K_change_26 : decode b_K_change 26 = .ok (.ifCond .eq 7, 3) := by decide +kernel
theorem d_K_change_29 : decode b_K_change 29 = .ok (.iconst 0, 1) := by decide +kernel
theorem d_K_change_30 : decode b_K_change 30 = .ok (.goto 4, 3) := by decide +kernel
theorem d_K_change_33 : decode b_K_change 33 = .ok (.iconst (-1), 1) := by decide +kernel
theorem d_K_change_34 : decode b_K_change 34 = .ok (.ireturn, 1) := by decide +kernel
theorem d_K_back_0 : decode b_K_back 0 = .ok (.aload_n 0, 1) := by decide +kernel
theorem d_K_back_1 : decode b_K_back 1 = .ok (.getfield 10, 3) := by decide +kernel
theorem d_K_back_4 : decode b_K_back 4 = .ok (.invokevirtual 56, 3) := by decide +kernel
theorem d_K_back_7 : decode b_K_back 7 = .ok (.ifCond .eq 13, 3) := by decide +kernel
theorem d_K_back_10 : decode b_K_back 10 = .ok (.aload_n 0, 1) := by decide +kernel
theorem d_K_back_11 : decode b_K_back 11 = .ok (.getfield 10, 3) := by decide +kernel
theorem d_K_back_14 : decode b_K_back 14 = .ok (.invokevirtual 60, 3) := by decide +kernel
theorem d_K_back_17 : decode b_K_back 17 = .ok (.goto 4, 3) := by decide +kernel
theorem d_K_back_20 : decode b_K_back 20 = .ok (.iconst (-1), 1) := by decide +kernel
theorem d_K_back_21 : decode b_K_back 21 = .ok (.ireturn, 1) := by decide +kernel
theorem d_K_sign_0 : decode b_K_sign 0 = .ok (.iload_n 1, 1) := by decide +kernel
theorem d_K_sign_1 : decode b_K_sign 1 = .ok (.bipush 33, 2) := by decide +kernel
theorem d_K_sign_3 : decode b_K_sign 3 = .ok (.if_icmp .lt 9, 3) := by decide +kernel
theorem d_K_sign_6 : decode b_K_sign 6 = .ok (.iload_n 1, 1) := by decide +kernel
theorem d_K_sign_7 : decode b_K_sign 7 = .ok (.bipush 126, 2) := by decide +kernel
theorem d_K_sign_9 : decode b_K_sign 9 = .ok (.if_icmp .le 5, 3) := by decide +kernel
theorem d_K_sign_12 : decode b_K_sign 12 = .ok (.iconst (-1), 1) := by decide +kernel
theorem d_K_sign_13 : decode b_K_sign 13 = .ok (.ireturn, 1) := by decide +kernel
theorem d_K_sign_14 : decode b_K_sign 14 = .ok (.aload_n 0, 1) := by decide +kernel
theorem d_K_sign_15 : decode b_K_sign 15 = .ok (.getfield 19, 3) := by decide +kernel
theorem d_K_sign_18 : decode b_K_sign 18 = .ok (.iload_n 1, 1) := by decide +kernel
theorem d_K_sign_19 : decode b_K_sign 19 = .ok (.i2c, 1) := by decide +kernel
theorem d_K_sign_20 : decode b_K_sign 20 = .ok (.invokevirtual 64, 3) := by decide +kernel
theorem d_K_sign_23 : decode b_K_sign 23 = .ok (.ifCond .eq 13, 3) := by decide +kernel
theorem d_K_sign_26 : decode b_K_sign 26 = .ok (.aload_n 0, 1) := by decide +kernel
theorem d_K_sign_27 : decode b_K_sign 27 = .ok (.getfield 19, 3) := by decide +kernel
theorem d_K_sign_30 : decode b_K_sign 30 = .ok (.invokevirtual 68, 3) := by decide +kernel
theorem d_K_sign_33 : decode b_K_sign 33 = .ok (.goto 4, 3) := by decide +kernel
theorem d_K_sign_36 : decode b_K_sign 36 = .ok (.iconst (-1), 1) := by decide +kernel
theorem d_K_sign_37 : decode b_K_sign 37 = .ok (.ireturn, 1) := by decide +kernel
theorem d_K_clear_0 : decode b_K_clear 0 = .ok (.aload_n 0, 1) := by decide +kernel
theorem d_K_clear_1 : decode b_K_clear 1 = .ok (.getfield 19, 3) := by decide +kernel
theorem d_K_clear_4 : decode b_K_clear 4 = .ok (.invokevirtual 71, 3) := by decide +kernel
theorem d_K_clear_7 : decode b_K_clear 7 = .ok (.iconst 0, 1) := by decide +kernel
theorem d_K_clear_8 : decode b_K_clear 8 = .ok (.ireturn, 1) := by decide +kernel
theorem d_K_define_0 : decode b_K_define 0 = .ok (.iload_n 1, 1) := by decide +kernel
theorem d_K_define_1 : decode b_K_define 1 = .ok (.invokestatic 74, 3) := by decide +kernel
theorem d_K_define_4 : decode b_K_define 4 = .ok (.ifCond .ne 5, 3) := by decide +kernel
theorem d_K_define_7 : decode b_K_define 7 = .ok (.iconst (-1), 1) := by decide +kernel
theorem d_K_define_8 : decode b_K_define 8 = .ok (.ireturn, 1) := by decide +kernel
theorem d_K_define_9 : decode b_K_define 9 = .ok (.aload_n 0, 1) := by decide +kernel
theorem d_K_define_10 : decode b_K_define 10 = .ok (.getfield 26, 3) := by decide +kernel
theorem d_K_define_13 : decode b_K_define 13 = .ok (.aload_n 0, 1) := by decide +kernel
theorem d_K_define_14 : decode b_K_define 14 = .ok (.getfield 19, 3) := by decide +kernel
theorem d_K_define_17 : decode b_K_define 17 = .ok (.invokevirtual 78, 3) := by decide +kernel
theorem d_K_define_20 : decode b_K_define 20 = .ok (.bipush (-2), 2) := by decide +kernel
theorem d_K_define_22 : decode b_K_define 22 = .ok (.if_icmp .eq 6, 3) := by decide +kernel
theorem d_K_define_25 : decode b_K_define 25 = .ok (.bipush (-2), 2) := by decide +kernel
theorem d_K_define_27 : decode b_K_define 27 = .ok (.ireturn, 1) := by decide +kernel
theorem d_K_define_28 : decode b_K_define 28 = .ok (.aload_n 0, 1) := by decide +kernel
theorem d_K_define_29 : decode b_K_define 29 = .ok (.getfield 33, 3) := by decide +kernel
theorem d_K_define_32 : decode b_K_define 32 = .ok (.aload_n 0, 1) := by decide +kernel
theorem d_K_define_33 : decode b_K_define 33 = .ok (.getfield 19, 3) := by decide +kernel
theorem d_K_define_36 : decode b_K_define 36 = .ok (.aload_n 0, 1) := by decide +kernel
theorem d_K_define_37 : decode b_K_define 37 = .ok (.getfield 26, 3) := by decide +kernel
theorem d_K_define_40 : decode b_K_define 40 = .ok (.invokevirtual 82, 3) := by decide +kernel
theorem d_K_define_43 : decode b_K_define 43 = .ok (.invokevirtual 85, 3) := by decide +kernel
theorem d_K_define_46 : decode b_K_define 46 = .ok (.ifCond .ne 6, 3) := by decide +kernel
theorem d_K_define_49 : decode b_K_define 49 = .ok (.bipush (-3), 2) := by decide +kernel
theorem d_K_define_51 : decode b_K_define 51 = .ok (.ireturn, 1) := by decide +kernel
theorem d_K_define_52 : decode b_K_define 52 = .ok (.aload_n 0, 1) := by decide +kernel
theorem d_K_define_53 : decode b_K_define 53 = .ok (.getfield 39, 3) := by decide +kernel
theorem d_K_define_56 : decode b_K_define 56 = .ok (.iload_n 1, 1) := by decide +kernel
theorem d_K_define_57 : decode b_K_define 57 = .ok (.aaload, 1) := by decide +kernel
theorem d_K_define_58 : decode b_K_define 58 = .ok (.aload_n 0, 1) := by decide +kernel
theorem d_K_define_59 : decode b_K_define 59 = .ok (.getfield 26, 3) := by decide +kernel
theorem d_K_define_62 : decode b_K_define 62 = .ok (.aload_n 0, 1) := by decide +kernel
theorem d_K_define_63 : decode b_K_define 63 = .ok (.getfield 33, 3) := by decide +kernel
theorem d_K_define_66 : decode b_K_define 66 = .ok (.invokevirtual 89, 3) := by decide +kernel
theorem d_K_define_69 : decode b_K_define 69 = .ok (.invokevirtual 93, 3) := by decide +kernel
theorem d_K_define_72 : decode b_K_define 72 = .ok (.aload_n 0, 1) := by decide +kernel
theorem d_K_define_73 : decode b_K_define 73 = .ok (.getfield 39, 3) := by decide +kernel
theorem d_K_define_76 : decode b_K_define 76 = .ok (.iload_n 1, 1) := by decide +kernel
theorem d_K_define_77 : decode b_K_define 77 = .ok (.aaload, 1) := by decide +kernel
theorem d_K_define_78 : decode b_K_define 78 = .ok (.invokevirtual 97, 3) := by decide +kernel
theorem d_K_define_81 : decode b_K_define 81 = .ok (.ireturn, 1) := by decide +kernel
theorem d_K_fault_0 : decode b_K_fault 0 = .ok (.aload_n 0, 1) := by decide +kernel
theorem d_K_fault_1 : decode b_K_fault 1 = .ok (.getfield 26, 3) := by decide +kernel
theorem d_K_fault_4 : decode b_K_fault 4 = .ok (.aload_n 0, 1) := by decide +kernel
theorem d_K_fault_5 : decode b_K_fault 5 = .ok (.getfield 19, 3) := by decide +kernel
theorem d_K_fault_8 : decode b_K_fault 8 = .ok (.invokevirtual 78, 3) := by decide +kernel
theorem d_K_fault_11 : decode b_K_fault 11 = .ok (.ireturn, 1) := by decide +kernel
theorem d_K_drop_0 : decode b_K_drop 0 = .ok (.aload_n 0, 1) := by decide +kernel
theorem d_K_drop_1 : decode b_K_drop 1 = .ok (.iload_n 1, 1) := by decide +kernel
theorem d_K_drop_2 : decode b_K_drop 2 = .ok (.invokevirtual 100, 3) := by decide +kernel
theorem d_K_drop_5 : decode b_K_drop 5 = .ok (.ifCond .ne 5, 3) := by decide +kernel
theorem d_K_drop_8 : decode b_K_drop 8 = .ok (.iconst (-1), 1) := by decide +kernel
theorem d_K_drop_9 : decode b_K_drop 9 = .ok (.ireturn, 1) := by decide +kernel
theorem d_K_drop_10 : decode b_K_drop 10 = .ok (.aload_n 0, 1) := by decide +kernel
theorem d_K_drop_11 : decode b_K_drop 11 = .ok (.getfield 39, 3) := by decide +kernel
theorem d_K_drop_14 : decode b_K_drop 14 = .ok (.iload_n 1, 1) := by decide +kernel
theorem d_K_drop_15 : decode b_K_drop 15 = .ok (.aaload, 1) := by decide +kernel
theorem d_K_drop_16 : decode b_K_drop 16 = .ok (.invokevirtual 103, 3) := by decide +kernel
theorem d_K_drop_19 : decode b_K_drop 19 = .ok (.iconst 0, 1) := by decide +kernel
theorem d_K_drop_20 : decode b_K_drop 20 = .ok (.ireturn, 1) := by decide +kernel
theorem d_K_answer_0 : decode b_K_answer 0 = .ok (.aload_n 0, 1) := by decide +kernel
theorem d_K_answer_1 : decode b_K_answer 1 = .ok (.iload_n 1, 1) := by decide +kernel
theorem d_K_answer_2 : decode b_K_answer 2 = .ok (.invokevirtual 100, 3) := by decide +kernel
theorem d_K_answer_5 : decode b_K_answer 5 = .ok (.ifCond .eq 10, 3) := by decide +kernel
theorem d_K_answer_8 : decode b_K_answer 8 = .ok (.iload_n 2, 1) := by decide +kernel
theorem d_K_answer_9 : decode b_K_answer 9 = .ok (.invokestatic 106, 3) := by decide +kernel
theorem d_K_answer_12 : decode b_K_answer 12 = .ok (.ifCond .ne 7, 3) := by decide +kernel
theorem d_K_answer_15 : decode b_K_answer 15 = .ok (.ldc2_w 109, 3) := by decide +kernel
theorem d_K_answer_18 : decode b_K_answer 18 = .ok (.lreturn, 1) := by decide +kernel
theorem d_K_answer_19 : decode b_K_answer 19 = .ok (.aload_n 0, 1) := by decide +kernel
theorem d_K_answer_20 : decode b_K_answer 20 = .ok (.getfield 39, 3) := by decide +kernel
theorem d_K_answer_23 : decode b_K_answer 23 = .ok (.iload_n 1, 1) := by decide +kernel
theorem d_K_answer_24 : decode b_K_answer 24 = .ok (.aaload, 1) := by decide +kernel
theorem d_K_answer_25 : decode b_K_answer 25 = .ok (.aload_n 0, 1) := by decide +kernel
theorem d_K_answer_26 : decode b_K_answer 26 = .ok (.getfield 10, 3) := by decide +kernel
theorem d_K_answer_29 : decode b_K_answer 29 = .ok (.iload_n 2, 1) := by decide +kernel
theorem d_K_answer_30 : decode b_K_answer 30 = .ok (.invokevirtual 111, 3) := by decide +kernel
theorem d_K_answer_33 : decode b_K_answer 33 = .ok (.lreturn, 1) := by decide +kernel
theorem d_K_total_0 : decode b_K_total 0 = .ok (.aload_n 0, 1) := by decide +kernel
theorem d_K_total_1 : decode b_K_total 1 = .ok (.iload_n 1, 1) := by decide +kernel
theorem d_K_total_2 : decode b_K_total 2 = .ok (.invokevirtual 100, 3) := by decide +kernel
theorem d_K_total_5 : decode b_K_total 5 = .ok (.ifCond .ne 7, 3) := by decide +kernel
theorem d_K_total_8 : decode b_K_total 8 = .ok (.ldc2_w 109, 3) := by decide +kernel
theorem d_K_total_11 : decode b_K_total 11 = .ok (.lreturn, 1) := by decide +kernel
theorem d_K_total_12 : decode b_K_total 12 = .ok (.aload_n 0, 1) := by decide +kernel
theorem d_K_total_13 : decode b_K_total 13 = .ok (.getfield 39, 3) := by decide +kernel
theorem d_K_total_16 : decode b_K_total 16 = .ok (.iload_n 1, 1) := by decide +kernel
theorem d_K_total_17 : decode b_K_total 17 = .ok (.aaload, 1) := by decide +kernel
theorem d_K_total_18 : decode b_K_total 18 = .ok (.aload_n 0, 1) := by decide +kernel
theorem d_K_total_19 : decode b_K_total 19 = .ok (.getfield 10, 3) := by decide +kernel
theorem d_K_total_22 : decode b_K_total 22 = .ok (.iconst (-1), 1) := by decide +kernel
theorem d_K_total_23 : decode b_K_total 23 = .ok (.invokevirtual 115, 3) := by decide +kernel
theorem d_K_total_26 : decode b_K_total 26 = .ok (.lreturn, 1) := by decide +kernel
theorem d_K_count_0 : decode b_K_count 0 = .ok (.iload_n 1, 1) := by decide +kernel
theorem d_K_count_1 : decode b_K_count 1 = .ok (.iload_n 2, 1) := by decide +kernel
theorem d_K_count_2 : decode b_K_count 2 = .ok (.iload_n 3, 1) := by decide +kernel
theorem d_K_count_3 : decode b_K_count 3 = .ok (.invokestatic 44, 3) := by decide +kernel
theorem d_K_count_6 : decode b_K_count 6 = .ok (.ifCond .ne 7, 3) := by decide +kernel
theorem d_K_count_9 : decode b_K_count 9 = .ok (.ldc2_w 109, 3) := by decide +kernel
theorem d_K_count_12 : decode b_K_count 12 = .ok (.lreturn, 1) := by decide +kernel
theorem d_K_count_13 : decode b_K_count 13 = .ok (.aload_n 0, 1) := by decide +kernel
theorem d_K_count_14 : decode b_K_count 14 = .ok (.getfield 10, 3) := by decide +kernel
theorem d_K_count_17 : decode b_K_count 17 = .ok (.iload_n 1, 1) := by decide +kernel
theorem d_K_count_18 : decode b_K_count 18 = .ok (.iload_n 2, 1) := by decide +kernel
theorem d_K_count_19 : decode b_K_count 19 = .ok (.iload_n 3, 1) := by decide +kernel
theorem d_K_count_20 : decode b_K_count 20 = .ok (.invokestatic 48, 3) := by decide +kernel
theorem d_K_count_23 : decode b_K_count 23 = .ok (.invokevirtual 118, 3) := by decide +kernel
theorem d_K_count_26 : decode b_K_count 26 = .ok (.i2l, 1) := by decide +kernel
theorem d_K_count_27 : decode b_K_count 27 = .ok (.lreturn, 1) := by decide +kernel
theorem d_K_question_0 : decode b_K_question 0 = .ok (.iload_n 1, 1) := by decide +kernel
theorem d_K_question_1 : decode b_K_question 1 = .ok (.invokestatic 74, 3) := by decide +kernel
theorem d_K_question_4 : decode b_K_question 4 = .ok (.ifCond .ne 5, 3) := by decide +kernel
theorem d_K_question_7 : decode b_K_question 7 = .ok (.iconst (-1), 1) := by decide +kernel
theorem d_K_question_8 : decode b_K_question 8 = .ok (.ireturn, 1) := by decide +kernel
theorem d_K_question_9 : decode b_K_question 9 = .ok (.aload_n 0, 1) := by decide +kernel
theorem d_K_question_10 : decode b_K_question 10 = .ok (.getfield 39, 3) := by decide +kernel
theorem d_K_question_13 : decode b_K_question 13 = .ok (.iload_n 1, 1) := by decide +kernel
theorem d_K_question_14 : decode b_K_question 14 = .ok (.aaload, 1) := by decide +kernel
theorem d_K_question_15 : decode b_K_question 15 = .ok (.astore_n 3, 1) := by decide +kernel
theorem d_K_question_16 : decode b_K_question 16 = .ok (.iload_n 2, 1) := by decide +kernel
theorem d_K_question_17 : decode b_K_question 17 = .ok (.ifCond .ne 16, 3) := by decide +kernel
theorem d_K_question_20 : decode b_K_question 20 = .ok (.aload_n 3, 1) := by decide +kernel
theorem d_K_question_21 : decode b_K_question 21 = .ok (.invokevirtual 122, 3) := by decide +kernel
theorem d_K_question_24 : decode b_K_question 24 = .ok (.ifCond .eq 7, 3) := by decide +kernel
theorem d_K_question_27 : decode b_K_question 27 = .ok (.iconst 1, 1) := by decide +kernel
theorem d_K_question_28 : decode b_K_question 28 = .ok (.goto 4, 3) := by decide +kernel
theorem d_K_question_31 : decode b_K_question 31 = .ok (.iconst 0, 1) := by decide +kernel
theorem d_K_question_32 : decode b_K_question 32 = .ok (.ireturn, 1) := by decide +kernel
theorem d_K_question_33 : decode b_K_question 33 = .ok (.aload_n 3, 1) := by decide +kernel
theorem d_K_question_34 : decode b_K_question 34 = .ok (.invokevirtual 122, 3) := by decide +kernel
theorem d_K_question_37 : decode b_K_question 37 = .ok (.ifCond .ne 5, 3) := by decide +kernel
theorem d_K_question_40 : decode b_K_question 40 = .ok (.iconst (-1), 1) := by decide +kernel
theorem d_K_question_41 : decode b_K_question 41 = .ok (.ireturn, 1) := by decide +kernel
theorem d_K_question_42 : decode b_K_question 42 = .ok (.iload_n 2, 1) := by decide +kernel
theorem d_K_question_43 : decode b_K_question 43 = .ok (.tableswitch 49 1 4 #[29, 34, 39, 44], 29) := by decide +kernel
theorem d_K_question_72 : decode b_K_question 72 = .ok (.aload_n 3, 1) := by decide +kernel
theorem d_K_question_73 : decode b_K_question 73 = .ok (.invokevirtual 97, 3) := by decide +kernel
theorem d_K_question_76 : decode b_K_question 76 = .ok (.ireturn, 1) := by decide +kernel
theorem d_K_question_77 : decode b_K_question 77 = .ok (.aload_n 3, 1) := by decide +kernel
theorem d_K_question_78 : decode b_K_question 78 = .ok (.invokevirtual 125, 3) := by decide +kernel
theorem d_K_question_81 : decode b_K_question 81 = .ok (.ireturn, 1) := by decide +kernel
theorem d_K_question_82 : decode b_K_question 82 = .ok (.aload_n 3, 1) := by decide +kernel
theorem d_K_question_83 : decode b_K_question 83 = .ok (.invokevirtual 128, 3) := by decide +kernel
theorem d_K_question_86 : decode b_K_question 86 = .ok (.ireturn, 1) := by decide +kernel
theorem d_K_question_87 : decode b_K_question 87 = .ok (.aload_n 3, 1) := by decide +kernel
theorem d_K_question_88 : decode b_K_question 88 = .ok (.invokevirtual 131, 3) := by decide +kernel
theorem d_K_question_91 : decode b_K_question 91 = .ok (.ireturn, 1) := by decide +kernel
theorem d_K_question_92 : decode b_K_question 92 = .ok (.iconst (-1), 1) := by decide +kernel
theorem d_K_question_93 : decode b_K_question 93 = .ok (.ireturn, 1) := by decide +kernel
theorem d_K_state_0 : decode b_K_state 0 = .ok (.iload_n 1, 1) := by decide +kernel
theorem d_K_state_1 : decode b_K_state 1 = .ok (.tableswitch 51 0 2 #[27, 35, 43], 27) := by decide +kernel
theorem d_K_state_28 : decode b_K_state 28 = .ok (.aload_n 0, 1) := by decide +kernel
theorem d_K_state_29 : decode b_K_state 29 = .ok (.getfield 19, 3) := by decide +kernel
theorem d_K_state_32 : decode b_K_state 32 = .ok (.invokevirtual 68, 3) := by decide +kernel
theorem d_K_state_35 : decode b_K_state 35 = .ok (.ireturn, 1) := by decide +kernel
theorem d_K_state_36 : decode b_K_state 36 = .ok (.aload_n 0, 1) := by decide +kernel
theorem d_K_state_37 : decode b_K_state 37 = .ok (.getfield 10, 3) := by decide +kernel
theorem d_K_state_40 : decode b_K_state 40 = .ok (.invokevirtual 60, 3) := by decide +kernel
theorem d_K_state_43 : decode b_K_state 43 = .ok (.ireturn, 1) := by decide +kernel
theorem d_K_state_44 : decode b_K_state 44 = .ok (.aload_n 0, 1) := by decide +kernel
theorem d_K_state_45 : decode b_K_state 45 = .ok (.getfield 10, 3) := by decide +kernel
theorem d_K_state_48 : decode b_K_state 48 = .ok (.invokevirtual 134, 3) := by decide +kernel
theorem d_K_state_51 : decode b_K_state 51 = .ok (.ireturn, 1) := by decide +kernel
theorem d_K_state_52 : decode b_K_state 52 = .ok (.iconst (-1), 1) := by decide +kernel
theorem d_K_state_53 : decode b_K_state 53 = .ok (.ireturn, 1) := by decide +kernel
theorem d_K_isRow_0 : decode b_K_isRow 0 = .ok (.iload_n 0, 1) := by decide +kernel
theorem d_K_isRow_1 : decode b_K_isRow 1 = .ok (.ifCond .lt 26, 3) := by decide +kernel
theorem d_K_isRow_4 : decode b_K_isRow 4 = .ok (.iload_n 0, 1) := by decide +kernel
theorem d_K_isRow_5 : decode b_K_isRow 5 = .ok (.iconst 3, 1) := by decide +kernel
theorem d_K_isRow_6 : decode b_K_isRow 6 = .ok (.if_icmp .ge 21, 3) := by decide +kernel
theorem d_K_isRow_9 : decode b_K_isRow 9 = .ok (.iload_n 1, 1) := by decide +kernel
theorem d_K_isRow_10 : decode b_K_isRow 10 = .ok (.invokestatic 106, 3) := by decide +kernel
theorem d_K_isRow_13 : decode b_K_isRow 13 = .ok (.ifCond .eq 14, 3) := by decide +kernel
theorem d_K_isRow_16 : decode b_K_isRow 16 = .ok (.iload_n 2, 1) := by decide +kernel
theorem d_K_isRow_17 : decode b_K_isRow 17 = .ok (.invokestatic 106, 3) := by decide +kernel
theorem d_K_isRow_20 : decode b_K_isRow 20 = .ok (.ifCond .eq 7, 3) := by decide +kernel
theorem d_K_isRow_23 : decode b_K_isRow 23 = .ok (.iconst 1, 1) := by decide +kernel
theorem d_K_isRow_24 : decode b_K_isRow 24 = .ok (.goto 4, 3) := by decide +kernel
theorem d_K_isRow_27 : decode b_K_isRow 27 = .ok (.iconst 0, 1) := by decide +kernel
theorem d_K_isRow_28 : decode b_K_isRow 28 = .ok (.ireturn, 1) := by decide +kernel
theorem d_K_isValue_0 : decode b_K_isValue 0 = .ok (.iload_n 0, 1) := by decide +kernel
theorem d_K_isValue_1 : decode b_K_isValue 1 = .ok (.ifCond .lt 13, 3) := by decide +kernel
theorem d_K_isValue_4 : decode b_K_isValue 4 = .ok (.iload_n 0, 1) := by decide +kernel
theorem d_K_isValue_5 : decode b_K_isValue 5 = .ok (.bipush 6, 2) := by decide +kernel
theorem d_K_isValue_7 : decode b_K_isValue 7 = .ok (.if_icmp .ge 7, 3) := by decide +kernel
theorem d_K_isValue_10 : decode b_K_isValue 10 = .ok (.iconst 1, 1) := by decide +kernel
theorem d_K_isValue_11 : decode b_K_isValue 11 = .ok (.goto 4, 3) := by decide +kernel
theorem d_K_isValue_14 : decode b_K_isValue 14 = .ok (.iconst 0, 1) := by decide +kernel
theorem d_K_isValue_15 : decode b_K_isValue 15 = .ok (.ireturn, 1) := by decide +kernel
theorem d_K_isQuestion_0 : decode b_K_isQuestion 0 = .ok (.iload_n 0, 1) := by decide +kernel
theorem d_K_isQuestion_1 : decode b_K_isQuestion 1 = .ok (.ifCond .lt 12, 3) := by decide +kernel
theorem d_K_isQuestion_4 : decode b_K_isQuestion 4 = .ok (.iload_n 0, 1) := by decide +kernel
theorem d_K_isQuestion_5 : decode b_K_isQuestion 5 = .ok (.iconst 4, 1) := by decide +kernel
theorem d_K_isQuestion_6 : decode b_K_isQuestion 6 = .ok (.if_icmp .ge 7, 3) := by decide +kernel
theorem d_K_isQuestion_9 : decode b_K_isQuestion 9 = .ok (.iconst 1, 1) := by decide +kernel
theorem d_K_isQuestion_10 : decode b_K_isQuestion 10 = .ok (.goto 4, 3) := by decide +kernel
theorem d_K_isQuestion_13 : decode b_K_isQuestion 13 = .ok (.iconst 0, 1) := by decide +kernel
theorem d_K_isQuestion_14 : decode b_K_isQuestion 14 = .ok (.ireturn, 1) := by decide +kernel
theorem d_K_isAskable_0 : decode b_K_isAskable 0 = .ok (.iload_n 1, 1) := by decide +kernel
theorem d_K_isAskable_1 : decode b_K_isAskable 1 = .ok (.invokestatic 74, 3) := by decide +kernel
theorem d_K_isAskable_4 : decode b_K_isAskable 4 = .ok (.ifCond .eq 19, 3) := by decide +kernel
theorem d_K_isAskable_7 : decode b_K_isAskable 7 = .ok (.aload_n 0, 1) := by decide +kernel
theorem d_K_isAskable_8 : decode b_K_isAskable 8 = .ok (.getfield 39, 3) := by decide +kernel
theorem d_K_isAskable_11 : decode b_K_isAskable 11 = .ok (.iload_n 1, 1) := by decide +kernel
theorem d_K_isAskable_12 : decode b_K_isAskable 12 = .ok (.aaload, 1) := by decide +kernel
theorem d_K_isAskable_13 : decode b_K_isAskable 13 = .ok (.invokevirtual 122, 3) := by decide +kernel
theorem d_K_isAskable_16 : decode b_K_isAskable 16 = .ok (.ifCond .eq 7, 3) := by decide +kernel
theorem d_K_isAskable_19 : decode b_K_isAskable 19 = .ok (.iconst 1, 1) := by decide +kernel
theorem d_K_isAskable_20 : decode b_K_isAskable 20 = .ok (.goto 4, 3) := by decide +kernel
theorem d_K_isAskable_23 : decode b_K_isAskable 23 = .ok (.iconst 0, 1) := by decide +kernel
theorem d_K_isAskable_24 : decode b_K_isAskable 24 = .ok (.ireturn, 1) := by decide +kernel
theorem d_E_init_0 : decode b_E_init 0 = .ok (.aload_n 0, 1) := by decide +kernel
theorem d_E_init_1 : decode b_E_init 1 = .ok (.invokespecial 3, 3) := by decide +kernel
theorem d_E_init_4 : decode b_E_init 4 = .ok (.aload_n 0, 1) := by decide +kernel
theorem d_E_init_5 : decode b_E_init 5 = .ok (.bipush 9, 2) := by decide +kernel
theorem d_E_init_7 : decode b_E_init 7 = .ok (.anewarray 11, 3) := by decide +kernel
theorem d_E_init_10 : decode b_E_init 10 = .ok (.putfield 13, 3) := by decide +kernel
theorem d_E_init_13 : decode b_E_init 13 = .ok (.aload_n 0, 1) := by decide +kernel
theorem d_E_init_14 : decode b_E_init 14 = .ok (.bipush 9, 2) := by decide +kernel
theorem d_E_init_16 : decode b_E_init 16 = .ok (.anewarray 11, 3) := by decide +kernel
theorem d_E_init_19 : decode b_E_init 19 = .ok (.putfield 17, 3) := by decide +kernel
theorem d_E_init_22 : decode b_E_init 22 = .ok (.aload_n 0, 1) := by decide +kernel
theorem d_E_init_23 : decode b_E_init 23 = .ok (.bipush 9, 2) := by decide +kernel
theorem d_E_init_25 : decode b_E_init 25 = .ok (.anewarray 11, 3) := by decide +kernel
theorem d_E_init_28 : decode b_E_init 28 = .ok (.putfield 20, 3) := by decide +kernel
theorem d_E_init_31 : decode b_E_init 31 = .ok (.aload_n 0, 1) := by decide +kernel
theorem d_E_init_32 : decode b_E_init 32 = .ok (.new 11, 3) := by decide +kernel
theorem d_E_init_35 : decode b_E_init 35 = .ok (.dup, 1) := by decide +kernel
theorem d_E_init_36 : decode b_E_init 36 = .ok (.invokespecial 23, 3) := by decide +kernel
theorem d_E_init_39 : decode b_E_init 39 = .ok (.putfield 24, 3) := by decide +kernel
theorem d_E_init_42 : decode b_E_init 42 = .ok (.iconst 0, 1) := by decide +kernel
theorem d_E_init_43 : decode b_E_init 43 = .ok (.istore_n 1, 1) := by decide +kernel
theorem d_E_init_44 : decode b_E_init 44 = .ok (.iload_n 1, 1) := by decide +kernel
theorem d_E_init_45 : decode b_E_init 45 = .ok (.bipush 9, 2) := by decide +kernel
theorem d_E_init_47 : decode b_E_init 47 = .ok (.if_icmp .ge 48, 3) := by decide +kernel
theorem d_E_init_50 : decode b_E_init 50 = .ok (.aload_n 0, 1) := by decide +kernel
theorem d_E_init_51 : decode b_E_init 51 = .ok (.getfield 13, 3) := by decide +kernel
theorem d_E_init_54 : decode b_E_init 54 = .ok (.iload_n 1, 1) := by decide +kernel
theorem d_E_init_55 : decode b_E_init 55 = .ok (.new 11, 3) := by decide +kernel
theorem d_E_init_58 : decode b_E_init 58 = .ok (.dup, 1) := by decide +kernel
theorem d_E_init_59 : decode b_E_init 59 = .ok (.invokespecial 23, 3) := by decide +kernel
theorem d_E_init_62 : decode b_E_init 62 = .ok (.aastore, 1) := by decide +kernel
theorem d_E_init_63 : decode b_E_init 63 = .ok (.aload_n 0, 1) := by decide +kernel
theorem d_E_init_64 : decode b_E_init 64 = .ok (.getfield 17, 3) := by decide +kernel
theorem d_E_init_67 : decode b_E_init 67 = .ok (.iload_n 1, 1) := by decide +kernel
theorem d_E_init_68 : decode b_E_init 68 = .ok (.new 11, 3) := by decide +kernel
theorem d_E_init_71 : decode b_E_init 71 = .ok (.dup, 1) := by decide +kernel
theorem d_E_init_72 : decode b_E_init 72 = .ok (.invokespecial 23, 3) := by decide +kernel
theorem d_E_init_75 : decode b_E_init 75 = .ok (.aastore, 1) := by decide +kernel
theorem d_E_init_76 : decode b_E_init 76 = .ok (.aload_n 0, 1) := by decide +kernel
theorem d_E_init_77 : decode b_E_init 77 = .ok (.getfield 20, 3) := by decide +kernel
theorem d_E_init_80 : decode b_E_init 80 = .ok (.iload_n 1, 1) := by decide +kernel
theorem d_E_init_81 : decode b_E_init 81 = .ok (.new 11, 3) := by decide +kernel
theorem d_E_init_84 : decode b_E_init 84 = .ok (.dup, 1) := by decide +kernel
theorem d_E_init_85 : decode b_E_init 85 = .ok (.invokespecial 23, 3) := by decide +kernel
theorem d_E_init_88 : decode b_E_init 88 = .ok (.aastore, 1) := by decide +kernel
theorem d_E_init_89 : decode b_E_init 89 = .ok (.iinc 1 1, 3) := by decide +kernel
theorem d_E_init_92 : decode b_E_init 92 = .ok (.goto (-48), 3) := by decide +kernel
theorem d_E_init_95 : decode b_E_init 95 = .ok (.return_, 1) := by decide +kernel
theorem d_E_evaluate_0 : decode b_E_evaluate 0 = .ok (.aload_n 0, 1) := by decide +kernel
theorem d_E_evaluate_1 : decode b_E_evaluate 1 = .ok (.iload_n 2, 1) := by decide +kernel
theorem d_E_evaluate_2 : decode b_E_evaluate 2 = .ok (.putfield 28, 3) := by decide +kernel
theorem d_E_evaluate_5 : decode b_E_evaluate 5 = .ok (.aload_n 0, 1) := by decide +kernel
theorem d_E_evaluate_6 : decode b_E_evaluate 6 = .ok (.aload_n 1, 1) := by decide +kernel
theorem d_E_evaluate_7 : decode b_E_evaluate 7 = .ok (.iconst 0, 1) := by decide +kernel
theorem d_E_evaluate_8 : decode b_E_evaluate 8 = .ok (.invokevirtual 32, 3) := by decide +kernel
theorem d_E_evaluate_11 : decode b_E_evaluate 11 = .ok (.ireturn, 1) := by decide +kernel
theorem d_E_result_0 : decode b_E_result 0 = .ok (.aload_n 0, 1) := by decide +kernel
theorem d_E_result_1 : decode b_E_result 1 = .ok (.getfield 13, 3) := by decide +kernel
theorem d_E_result_4 : decode b_E_result 4 = .ok (.iconst 0, 1) := by decide +kernel
theorem d_E_result_5 : decode b_E_result 5 = .ok (.aaload, 1) := by decide +kernel
theorem d_E_result_6 : decode b_E_result 6 = .ok (.areturn, 1) := by decide +kernel
theorem d_E_readSum_0 : decode b_E_readSum 0 = .ok (.iload_n 2, 1) := by decide +kernel
theorem d_E_readSum_1 : decode b_E_readSum 1 = .ok (.bipush 9, 2) := by decide +kernel
theorem d_E_readSum_3 : decode b_E_readSum 3 = .ok (.if_icmp .lt 5, 3) := by decide +kernel
theorem d_E_readSum_6 : decode b_E_readSum 6 = .ok (.iconst 0, 1) := by decide +kernel
theorem d_E_readSum_7 : decode b_E_readSum 7 = .ok (.ireturn, 1) := by decide +kernel
theorem d_E_readSum_8 : decode b_E_readSum 8 = .ok (.aload_n 0, 1) := by decide +kernel
theorem d_E_readSum_9 : decode b_E_readSum 9 = .ok (.getfield 13, 3) := by decide +kernel
theorem d_E_readSum_12 : decode b_E_readSum 12 = .ok (.iload_n 2, 1) := by decide +kernel
theorem d_E_readSum_13 : decode b_E_readSum 13 = .ok (.aaload, 1) := by decide +kernel
theorem d_E_readSum_14 : decode b_E_readSum 14 = .ok (.iconst 0, 1) := by decide +kernel
theorem d_E_readSum_15 : decode b_E_readSum 15 = .ok (.invokevirtual 36, 3) := by decide +kernel
theorem d_E_readSum_18 : decode b_E_readSum 18 = .ok (.iconst 1, 1) := by decide +kernel
theorem d_E_readSum_19 : decode b_E_readSum 19 = .ok (.istore_n 3, 1) := by decide +kernel
theorem d_E_readSum_20 : decode b_E_readSum 20 = .ok (.iconst 0, 1) := by decide +kernel
theorem d_E_readSum_21 : decode b_E_readSum 21 = .ok (.istore 4, 2) := by decide +kernel
theorem d_E_readSum_23 : decode b_E_readSum 23 = .ok (.iload 4, 2) := by decide +kernel
theorem d_E_readSum_25 : decode b_E_readSum 25 = .ok (.bipush 30, 2) := by decide +kernel
theorem d_E_readSum_27 : decode b_E_readSum 27 = .ok (.if_icmp .ge 88, 3) := by decide +kernel
theorem d_E_readSum_30 : decode b_E_readSum 30 = .ok (.aload_n 0, 1) := by decide +kernel
theorem d_E_readSum_31 : decode b_E_readSum 31 = .ok (.aload_n 1, 1) := by decide +kernel
theorem d_E_readSum_32 : decode b_E_readSum 32 = .ok (.iload_n 2, 1) := by decide +kernel
theorem d_E_readSum_33 : decode b_E_readSum 33 = .ok (.invokevirtual 42, 3) := by decide +kernel
theorem d_E_readSum_36 : decode b_E_readSum 36 = .ok (.ifCond .eq 22, 3) := by decide +kernel
theorem d_E_readSum_39 : decode b_E_readSum 39 = .ok (.aload_n 0, 1) := by decide +kernel
theorem d_E_readSum_40 : decode b_E_readSum 40 = .ok (.getfield 13, 3) := by decide +kernel
theorem d_E_readSum_43 : decode b_E_readSum 43 = .ok (.iload_n 2, 1) := by decide +kernel
theorem d_E_readSum_44 : decode b_E_readSum 44 = .ok (.aaload, 1) := by decide +kernel
theorem d_E_readSum_45 : decode b_E_readSum 45 = .ok (.aload_n 0, 1) := by decide +kernel
theorem d_E_readSum_46 : decode b_E_readSum 46 = .ok (.getfield 17, 3) := by decide +kernel
theorem d_E_readSum_49 : decode b_E_readSum 49 = .ok (.iload_n 2, 1) := by decide +kernel
theorem d_E_readSum_50 : decode b_E_readSum 50 = .ok (.aaload, 1) := by decide +kernel
theorem d_E_readSum_51 : decode b_E_readSum 51 = .ok (.iload_n 3, 1) := by decide +kernel
theorem d_E_readSum_52 : decode b_E_readSum 52 = .ok (.invokevirtual 45, 3) := by decide +kernel
theorem d_E_readSum_55 : decode b_E_readSum 55 = .ok (.ifCond .ne 5, 3) := by decide +kernel
theorem d_E_readSum_58 : decode b_E_readSum 58 = .ok (.iconst 0, 1) := by decide +kernel
theorem d_E_readSum_59 : decode b_E_readSum 59 = .ok (.ireturn, 1) := by decide +kernel
theorem d_E_readSum_60 : decode b_E_readSum 60 = .ok (.aload_n 1, 1) := by decide +kernel
theorem d_E_readSum_61 : decode b_E_readSum 61 = .ok (.aload_n 0, 1) := by decide +kernel
theorem d_E_readSum_62 : decode b_E_readSum 62 = .ok (.getfield 28, 3) := by decide +kernel
theorem d_E_readSum_65 : decode b_E_readSum 65 = .ok (.invokevirtual 49, 3) := by decide +kernel
theorem d_E_readSum_68 : decode b_E_readSum 68 = .ok (.istore 5, 2) := by decide +kernel
theorem d_E_readSum_70 : decode b_E_readSum 70 = .ok (.iload 5, 2) := by decide +kernel
theorem d_E_readSum_72 : decode b_E_readSum 72 = .ok (.bipush 43, 2) := by decide +kernel
theorem d_E_readSum_74 : decode b_E_readSum 74 = .ok (.if_icmp .eq 12, 3) := by decide +kernel
theorem d_E_readSum_77 : decode b_E_readSum 77 = .ok (.iload 5, 2) := by decide +kernel
theorem d_E_readSum_79 : decode b_E_readSum 79 = .ok (.bipush 45, 2) := by decide +kernel
theorem d_E_readSum_81 : decode b_E_readSum 81 = .ok (.if_icmp .eq 5, 3) := by decide +kernel
theorem d_E_readSum_84 : decode b_E_readSum 84 = .ok (.iconst 1, 1) := by decide +kernel
theorem d_E_readSum_85 : decode b_E_readSum 85 = .ok (.ireturn, 1) := by decide +kernel
theorem d_E_readSum_86 : decode b_E_readSum 86 = .ok (.iload 5, 2) := by decide +kernel
theorem d_E_readSum_88 : decode b_E_readSum 88 = .ok (.bipush 43, 2) := by decide +kernel
theorem d_E_readSum_90 : decode b_E_readSum 90 = .ok (.if_icmp .ne 7, 3) := by decide +kernel
theorem d_E_readSum_93 : decode b_E_readSum 93 = .ok (.iconst 1, 1) := by decide +kernel
theorem d_E_readSum_94 : decode b_E_readSum 94 = .ok (.goto 4, 3) := by decide +kernel
theorem d_E_readSum_97 : decode b_E_readSum 97 = .ok (.iconst (-1), 1) := by decide +kernel
theorem d_E_readSum_98 : decode b_E_readSum 98 = .ok (.istore_n 3, 1) := by decide +kernel
theorem d_E_readSum_99 : decode b_E_readSum 99 = .ok (.aload_n 0, 1) := by decide +kernel
theorem d_E_readSum_100 : decode b_E_readSum 100 = .ok (.dup, 1) := by decide +kernel
theorem d_E_readSum_101 : decode b_E_readSum 101 = .ok (.getfield 28, 3) := by decide +kernel
theorem d_E_readSum_104 : decode b_E_readSum 104 = .ok (.iconst 1, 1) := by decide +kernel
theorem d_E_readSum_105 : decode b_E_readSum 105 = .ok (.iadd, 1) := by decide +kernel
theorem d_E_readSum_106 : decode b_E_readSum 106 = .ok (.putfield 28, 3) := by decide +kernel
theorem d_E_readSum_109 : decode b_E_readSum 109 = .ok (.iinc 4 1, 3) := by decide +kernel
theorem d_E_readSum_112 : decode b_E_readSum 112 = .ok (.goto (-89), 3) := by decide +kernel
theorem d_E_readSum_115 : decode b_E_readSum 115 = .ok (.iconst 0, 1) := by decide +kernel
theorem d_E_readSum_116 : decode b_E_readSum 116 = .ok (.ireturn, 1) := by decide +kernel
theorem d_E_readProduct_0 : decode b_E_readProduct 0 = .ok (.aload_n 0, 1) := by decide +kernel
theorem d_E_readProduct_1 : decode b_E_readProduct 1 = .ok (.getfield 17, 3) := by decide +kernel
theorem d_E_readProduct_4 : decode b_E_readProduct 4 = .ok (.iload_n 2, 1) := by decide +kernel
theorem d_E_readProduct_5 : decode b_E_readProduct 5 = .ok (.aaload, 1) := by decide +kernel
theorem d_E_readProduct_6 : decode b_E_readProduct 6 = .ok (.iconst 1, 1) := by decide +kernel
theorem d_E_readProduct_7 : decode b_E_readProduct 7 = .ok (.invokevirtual 36, 3) := by decide +kernel
theorem d_E_readProduct_10 : decode b_E_readProduct 10 = .ok (.iconst 0, 1) := by decide +kernel
theorem d_E_readProduct_11 : decode b_E_readProduct 11 = .ok (.istore_n 3, 1) := by decide +kernel
theorem d_E_readProduct_12 : decode b_E_readProduct 12 = .ok (.iload_n 3, 1) := by decide +kernel
theorem d_E_readProduct_13 : decode b_E_readProduct 13 = .ok (.bipush 30, 2) := by decide +kernel
theorem d_E_readProduct_15 : decode b_E_readProduct 15 = .ok (.if_icmp .ge 80, 3) := by decide +kernel
theorem d_E_readProduct_18 : decode b_E_readProduct 18 = .ok (.aload_n 0, 1) := by decide +kernel
theorem d_E_readProduct_19 : decode b_E_readProduct 19 = .ok (.aload_n 1, 1) := by decide +kernel
theorem d_E_readProduct_20 : decode b_E_readProduct 20 = .ok (.iload_n 2, 1) := by decide +kernel
theorem d_E_readProduct_21 : decode b_E_readProduct 21 = .ok (.invokevirtual 53, 3) := by decide +kernel
theorem d_E_readProduct_24 : decode b_E_readProduct 24 = .ok (.ifCond .eq 25, 3) := by decide +kernel
theorem d_E_readProduct_27 : decode b_E_readProduct 27 = .ok (.aload_n 0, 1) := by decide +kernel
theorem d_E_readProduct_28 : decode b_E_readProduct 28 = .ok (.getfield 24, 3) := by decide +kernel
theorem d_E_readProduct_31 : decode b_E_readProduct 31 = .ok (.aload_n 0, 1) := by decide +kernel
theorem d_E_readProduct_32 : decode b_E_readProduct 32 = .ok (.getfield 17, 3) := by decide +kernel
theorem d_E_readProduct_35 : decode b_E_readProduct 35 = .ok (.iload_n 2, 1) := by decide +kernel
theorem d_E_readProduct_36 : decode b_E_readProduct 36 = .ok (.aaload, 1) := by decide +kernel
theorem d_E_readProduct_37 : decode b_E_readProduct 37 = .ok (.aload_n 0, 1) := by decide +kernel
theorem d_E_readProduct_38 : decode b_E_readProduct 38 = .ok (.getfield 20, 3) := by decide +kernel
theorem d_E_readProduct_41 : decode b_E_readProduct 41 = .ok (.iload_n 2, 1) := by decide +kernel
theorem d_E_readProduct_42 : decode b_E_readProduct 42 = .ok (.aaload, 1) := by decide +kernel
theorem d_E_readProduct_43 : decode b_E_readProduct 43 = .ok (.invokevirtual 56, 3) := by decide +kernel
theorem d_E_readProduct_46 : decode b_E_readProduct 46 = .ok (.ifCond .ne 5, 3) := by decide +kernel
theorem d_E_readProduct_49 : decode b_E_readProduct 49 = .ok (.iconst 0, 1) := by decide +kernel
theorem d_E_readProduct_50 : decode b_E_readProduct 50 = .ok (.ireturn, 1) := by decide +kernel
theorem d_E_readProduct_51 : decode b_E_readProduct 51 = .ok (.aload_n 0, 1) := by decide +kernel
theorem d_E_readProduct_52 : decode b_E_readProduct 52 = .ok (.getfield 17, 3) := by decide +kernel
theorem d_E_readProduct_55 : decode b_E_readProduct 55 = .ok (.iload_n 2, 1) := by decide +kernel
theorem d_E_readProduct_56 : decode b_E_readProduct 56 = .ok (.aaload, 1) := by decide +kernel
theorem d_E_readProduct_57 : decode b_E_readProduct 57 = .ok (.aload_n 0, 1) := by decide +kernel
theorem d_E_readProduct_58 : decode b_E_readProduct 58 = .ok (.getfield 24, 3) := by decide +kernel
theorem d_E_readProduct_61 : decode b_E_readProduct 61 = .ok (.invokevirtual 60, 3) := by decide +kernel
theorem d_E_readProduct_64 : decode b_E_readProduct 64 = .ok (.aload_n 1, 1) := by decide +kernel
theorem d_E_readProduct_65 : decode b_E_readProduct 65 = .ok (.aload_n 0, 1) := by decide +kernel
theorem d_E_readProduct_66 : decode b_E_readProduct 66 = .ok (.getfield 28, 3) := by decide +kernel
theorem d_E_readProduct_69 : decode b_E_readProduct 69 = .ok (.invokevirtual 49, 3) := by decide +kernel
theorem d_E_readProduct_72 : decode b_E_readProduct 72 = .ok (.bipush 42, 2) := by decide +kernel
theorem d_E_readProduct_74 : decode b_E_readProduct 74 = .ok (.if_icmp .eq 5, 3) := by decide +kernel
theorem d_E_readProduct_77 : decode b_E_readProduct 77 = .ok (.iconst 1, 1) := by decide +kernel
theorem d_E_readProduct_78 : decode b_E_readProduct 78 = .ok (.ireturn, 1) := by decide +kernel
theorem d_E_readProduct_79 : decode b_E_readProduct 79 = .ok (.aload_n 0, 1) := by decide +kernel
theorem d_E_readProduct_80 : decode b_E_readProduct 80 = .ok (.dup, 1) := by decide +kernel
theorem d_E_readProduct_81 : decode b_E_readProduct 81 = .ok (.getfield 28, 3) := by decide +kernel
theorem d_E_readProduct_84 : decode b_E_readProduct 84 = .ok (.iconst 1, 1) := by decide +kernel
theorem d_E_readProduct_85 : decode b_E_readProduct 85 = .ok (.iadd, 1) := by decide +kernel
theorem d_E_readProduct_86 : decode b_E_readProduct 86 = .ok (.putfield 28, 3) := by decide +kernel
theorem d_E_readProduct_89 : decode b_E_readProduct 89 = .ok (.iinc 3 1, 3) := by decide +kernel
theorem d_E_readProduct_92 : decode b_E_readProduct 92 = .ok (.goto (-80), 3) := by decide +kernel
theorem d_E_readProduct_95 : decode b_E_readProduct 95 = .ok (.iconst 0, 1) := by decide +kernel
theorem d_E_readProduct_96 : decode b_E_readProduct 96 = .ok (.ireturn, 1) := by decide +kernel
theorem d_E_readFactor_0 : decode b_E_readFactor 0 = .ok (.iload_n 2, 1) := by decide +kernel
theorem d_E_readFactor_1 : decode b_E_readFactor 1 = .ok (.bipush 9, 2) := by decide +kernel
theorem d_E_readFactor_3 : decode b_E_readFactor 3 = .ok (.if_icmp .lt 5, 3) := by decide +kernel
theorem d_E_readFactor_6 : decode b_E_readFactor 6 = .ok (.iconst 0, 1) := by decide +kernel
theorem d_E_readFactor_7 : decode b_E_readFactor 7 = .ok (.ireturn, 1) := by decide +kernel
theorem d_E_readFactor_8 : decode b_E_readFactor 8 = .ok (.aload_n 1, 1) := by decide +kernel
theorem d_E_readFactor_9 : decode b_E_readFactor 9 = .ok (.aload_n 0, 1) := by decide +kernel
theorem d_E_readFactor_10 : decode b_E_readFactor 10 = .ok (.getfield 28, 3) := by decide +kernel
theorem d_E_readFactor_13 : decode b_E_readFactor 13 = .ok (.invokevirtual 49, 3) := by decide +kernel
theorem d_E_readFactor_16 : decode b_E_readFactor 16 = .ok (.istore_n 3, 1) := by decide +kernel
theorem d_E_readFactor_17 : decode b_E_readFactor 17 = .ok (.aload_n 0, 1) := by decide +kernel
theorem d_E_readFactor_18 : decode b_E_readFactor 18 = .ok (.dup, 1) := by decide +kernel
theorem d_E_readFactor_19 : decode b_E_readFactor 19 = .ok (.getfield 28, 3) := by decide +kernel
theorem d_E_readFactor_22 : decode b_E_readFactor 22 = .ok (.iconst 1, 1) := by decide +kernel
theorem d_E_readFactor_23 : decode b_E_readFactor 23 = .ok (.iadd, 1) := by decide +kernel
theorem d_E_readFactor_24 : decode b_E_readFactor 24 = .ok (.putfield 28, 3) := by decide +kernel
theorem d_E_readFactor_27 : decode b_E_readFactor 27 = .ok (.iload_n 3, 1) := by decide +kernel
theorem d_E_readFactor_28 : decode b_E_readFactor 28 = .ok (.bipush 40, 2) := by decide +kernel
theorem d_E_readFactor_30 : decode b_E_readFactor 30 = .ok (.if_icmp .ne 10, 3) := by decide +kernel
theorem d_E_readFactor_33 : decode b_E_readFactor 33 = .ok (.aload_n 0, 1) := by decide +kernel
theorem d_E_readFactor_34 : decode b_E_readFactor 34 = .ok (.aload_n 1, 1) := by decide +kernel
theorem d_E_readFactor_35 : decode b_E_readFactor 35 = .ok (.iload_n 2, 1) := by decide +kernel
theorem d_E_readFactor_36 : decode b_E_readFactor 36 = .ok (.invokevirtual 64, 3) := by decide +kernel
theorem d_E_readFactor_39 : decode b_E_readFactor 39 = .ok (.ireturn, 1) := by decide +kernel
theorem d_E_readFactor_40 : decode b_E_readFactor 40 = .ok (.iload_n 3, 1) := by decide +kernel
theorem d_E_readFactor_41 : decode b_E_readFactor 41 = .ok (.bipush 45, 2) := by decide +kernel
theorem d_E_readFactor_43 : decode b_E_readFactor 43 = .ok (.if_icmp .ne 10, 3) := by decide +kernel
theorem d_E_readFactor_46 : decode b_E_readFactor 46 = .ok (.aload_n 0, 1) := by decide +kernel
theorem d_E_readFactor_47 : decode b_E_readFactor 47 = .ok (.aload_n 1, 1) := by decide +kernel
theorem d_E_readFactor_48 : decode b_E_readFactor 48 = .ok (.iload_n 2, 1) := by decide +kernel
theorem d_E_readFactor_49 : decode b_E_readFactor 49 = .ok (.invokevirtual 67, 3) := by decide +kernel
theorem d_E_readFactor_52 : decode b_E_readFactor 52 = .ok (.ireturn, 1) := by decide +kernel
theorem d_E_readFactor_53 : decode b_E_readFactor 53 = .ok (.iload_n 3, 1) := by decide +kernel
theorem d_E_readFactor_54 : decode b_E_readFactor 54 = .ok (.invokestatic 70, 3) := by decide +kernel
theorem d_E_readFactor_57 : decode b_E_readFactor 57 = .ok (.istore 4, 2) := by decide +kernel
theorem d_E_readFactor_59 : decode b_E_readFactor 59 = .ok (.iload 4, 2) := by decide +kernel
theorem d_E_readFactor_61 : decode b_E_readFactor 61 = .ok (.ifCond .lt 17, 3) := by decide +kernel
theorem d_E_readFactor_64 : decode b_E_readFactor 64 = .ok (.aload_n 0, 1) := by decide +kernel
theorem d_E_readFactor_65 : decode b_E_readFactor 65 = .ok (.getfield 20, 3) := by decide +kernel
theorem d_E_readFactor_68 : decode b_E_readFactor 68 = .ok (.iload_n 2, 1) := by decide +kernel
theorem d_E_readFactor_69 : decode b_E_readFactor 69 = .ok (.aaload, 1) := by decide +kernel
theorem d_E_readFactor_70 : decode b_E_readFactor 70 = .ok (.iload 4, 2) := by decide +kernel
theorem d_E_readFactor_72 : decode b_E_readFactor 72 = .ok (.invokevirtual 74, 3) := by decide +kernel
theorem d_E_readFactor_75 : decode b_E_readFactor 75 = .ok (.goto 16, 3) := by decide +kernel
theorem d_E_readFactor_78 : decode b_E_readFactor 78 = .ok (.aload_n 0, 1) := by decide +kernel
theorem d_E_readFactor_79 : decode b_E_readFactor 79 = .ok (.getfield 20, 3) := by decide +kernel
theorem d_E_readFactor_82 : decode b_E_readFactor 82 = .ok (.iload_n 2, 1) := by decide +kernel
theorem d_E_readFactor_83 : decode b_E_readFactor 83 = .ok (.aaload, 1) := by decide +kernel
theorem d_E_readFactor_84 : decode b_E_readFactor 84 = .ok (.iload_n 3, 1) := by decide +kernel
theorem d_E_readFactor_85 : decode b_E_readFactor 85 = .ok (.bipush 48, 2) := by decide +kernel
theorem d_E_readFactor_87 : decode b_E_readFactor 87 = .ok (.isub, 1) := by decide +kernel
theorem d_E_readFactor_88 : decode b_E_readFactor 88 = .ok (.invokevirtual 36, 3) := by decide +kernel
theorem d_E_readFactor_91 : decode b_E_readFactor 91 = .ok (.iconst 1, 1) := by decide +kernel
theorem d_E_readFactor_92 : decode b_E_readFactor 92 = .ok (.ireturn, 1) := by decide +kernel
theorem d_E_readRestOfBrackets_0 : decode b_E_readRestOfBrackets 0 = .ok (.aload_n 0, 1) := by decide +kernel
theorem d_E_readRestOfBrackets_1 : decode b_E_readRestOfBrackets 1 = .ok (.aload_n 1, 1) := by decide +kernel
theorem d_E_readRestOfBrackets_2 : decode b_E_readRestOfBrackets 2 = .ok (.iload_n 2, 1) := by decide +kernel
theorem d_E_readRestOfBrackets_3 : decode b_E_readRestOfBrackets 3 = .ok (.iconst 1, 1) := by decide +kernel
theorem d_E_readRestOfBrackets_4 : decode b_E_readRestOfBrackets 4 = .ok (.iadd, 1) := by decide +kernel
theorem d_E_readRestOfBrackets_5 : decode b_E_readRestOfBrackets 5 = .ok (.invokevirtual 32, 3) := by decide +kernel
theorem d_E_readRestOfBrackets_8 : decode b_E_readRestOfBrackets 8 = .ok (.ifCond .ne 5, 3) := by decide +kernel
theorem d_E_readRestOfBrackets_11 : decode b_E_readRestOfBrackets 11 = .ok (.iconst 0, 1) := by decide +kernel
theorem d_E_readRestOfBrackets_12 : decode b_E_readRestOfBrackets 12 = .ok (.ireturn, 1) := by decide +kernel
theorem d_E_readRestOfBrackets_13 : decode b_E_readRestOfBrackets 13 = .ok (.aload_n 0, 1) := by decide +kernel
theorem d_E_readRestOfBrackets_14 : decode b_E_readRestOfBrackets 14 = .ok (.dup, 1) := by decide +kernel
theorem d_E_readRestOfBrackets_15 : decode b_E_readRestOfBrackets 15 = .ok (.getfield 28, 3) := by decide +kernel
theorem d_E_readRestOfBrackets_18 : decode b_E_readRestOfBrackets 18 = .ok (.iconst 1, 1) := by decide +kernel
theorem d_E_readRestOfBrackets_19 : decode b_E_readRestOfBrackets 19 = .ok (.iadd, 1) := by decide +kernel
theorem d_E_readRestOfBrackets_20 : decode b_E_readRestOfBrackets 20 = .ok (.putfield 28, 3) := by decide +kernel
theorem d_E_readRestOfBrackets_23 : decode b_E_readRestOfBrackets 23 = .ok (.aload_n 0, 1) := by decide +kernel
theorem d_E_readRestOfBrackets_24 : decode b_E_readRestOfBrackets 24 = .ok (.getfield 20, 3) := by decide +kernel
theorem d_E_readRestOfBrackets_27 : decode b_E_readRestOfBrackets 27 = .ok (.iload_n 2, 1) := by decide +kernel
theorem d_E_readRestOfBrackets_28 : decode b_E_readRestOfBrackets 28 = .ok (.aaload, 1) := by decide +kernel
theorem d_E_readRestOfBrackets_29 : decode b_E_readRestOfBrackets 29 = .ok (.aload_n 0, 1) := by decide +kernel
theorem d_E_readRestOfBrackets_30 : decode b_E_readRestOfBrackets 30 = .ok (.getfield 13, 3) := by decide +kernel
theorem d_E_readRestOfBrackets_33 : decode b_E_readRestOfBrackets 33 = .ok (.iload_n 2, 1) := by decide +kernel
theorem d_E_readRestOfBrackets_34 : decode b_E_readRestOfBrackets 34 = .ok (.iconst 1, 1) := by decide +kernel
theorem d_E_readRestOfBrackets_35 : decode b_E_readRestOfBrackets 35 = .ok (.iadd, 1) := by decide +kernel
theorem d_E_readRestOfBrackets_36 : decode b_E_readRestOfBrackets 36 = .ok (.aaload, 1) := by decide +kernel
theorem d_E_readRestOfBrackets_37 : decode b_E_readRestOfBrackets 37 = .ok (.invokevirtual 60, 3) := by decide +kernel
theorem d_E_readRestOfBrackets_40 : decode b_E_readRestOfBrackets 40 = .ok (.iconst 1, 1) := by decide +kernel
theorem d_E_readRestOfBrackets_41 : decode b_E_readRestOfBrackets 41 = .ok (.ireturn, 1) := by decide +kernel
theorem d_E_readRestOfNegative_0 : decode b_E_readRestOfNegative 0 = .ok (.aload_n 0, 1) := by decide +kernel
theorem d_E_readRestOfNegative_1 : decode b_E_readRestOfNegative 1 = .ok (.aload_n 1, 1) := by decide +kernel
theorem d_E_readRestOfNegative_2 : decode b_E_readRestOfNegative 2 = .ok (.iload_n 2, 1) := by decide +kernel
theorem d_E_readRestOfNegative_3 : decode b_E_readRestOfNegative 3 = .ok (.iconst 1, 1) := by decide +kernel
theorem d_E_readRestOfNegative_4 : decode b_E_readRestOfNegative 4 = .ok (.iadd, 1) := by decide +kernel
theorem d_E_readRestOfNegative_5 : decode b_E_readRestOfNegative 5 = .ok (.invokevirtual 53, 3) := by decide +kernel
theorem d_E_readRestOfNegative_8 : decode b_E_readRestOfNegative 8 = .ok (.ifCond .ne 5, 3) := by decide +kernel
theorem d_E_readRestOfNegative_11 : decode b_E_readRestOfNegative 11 = .ok (.iconst 0, 1) := by decide +kernel
theorem d_E_readRestOfNegative_12 : decode b_E_readRestOfNegative 12 = .ok (.ireturn, 1) := by decide +kernel
theorem d_E_readRestOfNegative_13 : decode b_E_readRestOfNegative 13 = .ok (.aload_n 0, 1) := by decide +kernel
theorem d_E_readRestOfNegative_14 : decode b_E_readRestOfNegative 14 = .ok (.getfield 20, 3) := by decide +kernel
theorem d_E_readRestOfNegative_17 : decode b_E_readRestOfNegative 17 = .ok (.iload_n 2, 1) := by decide +kernel
theorem d_E_readRestOfNegative_18 : decode b_E_readRestOfNegative 18 = .ok (.aaload, 1) := by decide +kernel
theorem d_E_readRestOfNegative_19 : decode b_E_readRestOfNegative 19 = .ok (.aload_n 0, 1) := by decide +kernel
theorem d_E_readRestOfNegative_20 : decode b_E_readRestOfNegative 20 = .ok (.getfield 20, 3) := by decide +kernel
theorem d_E_readRestOfNegative_23 : decode b_E_readRestOfNegative 23 = .ok (.iload_n 2, 1) := by decide +kernel
theorem d_E_readRestOfNegative_24 : decode b_E_readRestOfNegative 24 = .ok (.iconst 1, 1) := by decide +kernel
theorem d_E_readRestOfNegative_25 : decode b_E_readRestOfNegative 25 = .ok (.iadd, 1) := by decide +kernel
theorem d_E_readRestOfNegative_26 : decode b_E_readRestOfNegative 26 = .ok (.aaload, 1) := by decide +kernel
theorem d_E_readRestOfNegative_27 : decode b_E_readRestOfNegative 27 = .ok (.invokevirtual 77, 3) := by decide +kernel
theorem d_E_readRestOfNegative_30 : decode b_E_readRestOfNegative 30 = .ok (.iconst 1, 1) := by decide +kernel
theorem d_E_readRestOfNegative_31 : decode b_E_readRestOfNegative 31 = .ok (.ireturn, 1) := by decide +kernel
theorem d_G_init_0 : decode b_G_init 0 = .ok (.aload_n 0, 1) := by decide +kernel
theorem d_G_init_1 : decode b_G_init 1 = .ok (.invokespecial 3, 3) := by decide +kernel
theorem d_G_init_4 : decode b_G_init 4 = .ok (.aload_n 0, 1) := by decide +kernel
theorem d_G_init_5 : decode b_G_init 5 = .ok (.iconst 4, 1) := by decide +kernel
theorem d_G_init_6 : decode b_G_init 6 = .ok (.newarray .int, 2) := by decide +kernel
theorem d_G_init_8 : decode b_G_init 8 = .ok (.putfield 9, 3) := by decide +kernel
theorem d_G_init_11 : decode b_G_init 11 = .ok (.return_, 1) := by decide +kernel
end
section
theorem d_G_faultIn_0 : decode b_G_faultIn 0 = .ok (.aload_n 0, 1) := by decide +kernel
theorem d_G_faultIn_1 : decode b_G_faultIn 1 = .ok (.invokevirtual 15, 3) := by decide +kernel
theorem d_G_faultIn_4 : decode b_G_faultIn 4 = .ok (.iconst 0, 1) := by decide +kernel
theorem d_G_faultIn_5 : decode b_G_faultIn 5 = .ok (.istore_n 2, 1) := by decide +kernel
theorem d_G_faultIn_6 : decode b_G_faultIn 6 = .ok (.iload_n 2, 1) := by decide +kernel
theorem d_G_faultIn_7 : decode b_G_faultIn 7 = .ok (.aload_n 1, 1) := by decide +kernel
theorem d_G_faultIn_8 : decode b_G_faultIn 8 = .ok (.invokevirtual 18, 3) := by decide +kernel
theorem d_G_faultIn_11 : decode b_G_faultIn 11 = .ok (.if_icmp .ge 23, 3) := by decide +kernel
theorem d_G_faultIn_14 : decode b_G_faultIn 14 = .ok (.aload_n 0, 1) := by decide +kernel
theorem d_G_faultIn_15 : decode b_G_faultIn 15 = .ok (.aload_n 1, 1) := by decide +kernel
theorem d_G_faultIn_16 : decode b_G_faultIn 16 = .ok (.iload_n 2, 1) := by decide +kernel
theorem d_G_faultIn_17 : decode b_G_faultIn 17 = .ok (.invokevirtual 24, 3) := by decide +kernel
theorem d_G_faultIn_20 : decode b_G_faultIn 20 = .ok (.invokevirtual 28, 3) := by decide +kernel
theorem d_G_faultIn_23 : decode b_G_faultIn 23 = .ok (.ifCond .ne 5, 3) := by decide +kernel
theorem d_G_faultIn_26 : decode b_G_faultIn 26 = .ok (.iload_n 2, 1) := by decide +kernel
theorem d_G_faultIn_27 : decode b_G_faultIn 27 = .ok (.ireturn, 1) := by decide +kernel
theorem d_G_faultIn_28 : decode b_G_faultIn 28 = .ok (.iinc 2 1, 3) := by decide +kernel
theorem d_G_faultIn_31 : decode b_G_faultIn 31 = .ok (.goto (-25), 3) := by decide +kernel
theorem d_G_faultIn_34 : decode b_G_faultIn 34 = .ok (.aload_n 0, 1) := by decide +kernel
theorem d_G_faultIn_35 : decode b_G_faultIn 35 = .ok (.invokevirtual 32, 3) := by decide +kernel
theorem d_G_faultIn_38 : decode b_G_faultIn 38 = .ok (.ifCond .eq 8, 3) := by decide +kernel
theorem d_G_faultIn_41 : decode b_G_faultIn 41 = .ok (.bipush (-2), 2) := by decide +kernel
theorem d_G_faultIn_43 : decode b_G_faultIn 43 = .ok (.goto 7, 3) := by decide +kernel
theorem d_G_faultIn_46 : decode b_G_faultIn 46 = .ok (.aload_n 1, 1) := by decide +kernel
theorem d_G_faultIn_47 : decode b_G_faultIn 47 = .ok (.invokevirtual 18, 3) := by decide +kernel
theorem d_G_faultIn_50 : decode b_G_faultIn 50 = .ok (.ireturn, 1) := by decide +kernel
theorem d_G_firstRelation_0 : decode b_G_firstRelation 0 = .ok (.aload_n 0, 1) := by decide +kernel
theorem d_G_firstRelation_1 : decode b_G_firstRelation 1 = .ok (.getfield 36, 3) := by decide +kernel
theorem d_G_firstRelation_4 : decode b_G_firstRelation 4 = .ok (.ireturn, 1) := by decide +kernel
theorem d_G_lastRelation_0 : decode b_G_lastRelation 0 = .ok (.aload_n 0, 1) := by decide +kernel
theorem d_G_lastRelation_1 : decode b_G_lastRelation 1 = .ok (.getfield 40, 3) := by decide +kernel
theorem d_G_lastRelation_4 : decode b_G_lastRelation 4 = .ok (.ireturn, 1) := by decide +kernel
theorem d_G_expressionStart_0 : decode b_G_expressionStart 0 = .ok (.aload_n 0, 1) := by decide +kernel
theorem d_G_expressionStart_1 : decode b_G_expressionStart 1 = .ok (.getfield 40, 3) := by decide +kernel
theorem d_G_expressionStart_4 : decode b_G_expressionStart 4 = .ok (.aload_n 0, 1) := by decide +kernel
theorem d_G_expressionStart_5 : decode b_G_expressionStart 5 = .ok (.getfield 36, 3) := by decide +kernel
theorem d_G_expressionStart_8 : decode b_G_expressionStart 8 = .ok (.isub, 1) := by decide +kernel
theorem d_G_expressionStart_9 : decode b_G_expressionStart 9 = .ok (.iconst 1, 1) := by decide +kernel
theorem d_G_expressionStart_10 : decode b_G_expressionStart 10 = .ok (.iadd, 1) := by decide +kernel
theorem d_G_expressionStart_11 : decode b_G_expressionStart 11 = .ok (.istore_n 1, 1) := by decide +kernel
theorem d_G_expressionStart_12 : decode b_G_expressionStart 12 = .ok (.iload_n 1, 1) := by decide +kernel
theorem d_G_expressionStart_13 : decode b_G_expressionStart 13 = .ok (.iconst 1, 1) := by decide +kernel
theorem d_G_expressionStart_14 : decode b_G_expressionStart 14 = .ok (.iadd, 1) := by decide +kernel
theorem d_G_expressionStart_15 : decode b_G_expressionStart 15 = .ok (.ireturn, 1) := by decide +kernel
theorem d_G_conditions_0 : decode b_G_conditions 0 = .ok (.aload_n 0, 1) := by decide +kernel
theorem d_G_conditions_1 : decode b_G_conditions 1 = .ok (.getfield 43, 3) := by decide +kernel
theorem d_G_conditions_4 : decode b_G_conditions 4 = .ok (.ireturn, 1) := by decide +kernel
theorem d_G_allowedIn_0 : decode b_G_allowedIn 0 = .ok (.aload_n 0, 1) := by decide +kernel
theorem d_G_allowedIn_1 : decode b_G_allowedIn 1 = .ok (.getfield 9, 3) := by decide +kernel
theorem d_G_allowedIn_4 : decode b_G_allowedIn 4 = .ok (.iload_n 1, 1) := by decide +kernel
theorem d_G_allowedIn_5 : decode b_G_allowedIn 5 = .ok (.iaload, 1) := by decide +kernel
theorem d_G_allowedIn_6 : decode b_G_allowedIn 6 = .ok (.ireturn, 1) := by decide +kernel
theorem d_G_groupColumn_0 : decode b_G_groupColumn 0 = .ok (.aload_n 0, 1) := by decide +kernel
theorem d_G_groupColumn_1 : decode b_G_groupColumn 1 = .ok (.getfield 46, 3) := by decide +kernel
theorem d_G_groupColumn_4 : decode b_G_groupColumn 4 = .ok (.ireturn, 1) := by decide +kernel
theorem d_G_restart_0 : decode b_G_restart 0 = .ok (.aload_n 0, 1) := by decide +kernel
theorem d_G_restart_1 : decode b_G_restart 1 = .ok (.iconst 0, 1) := by decide +kernel
theorem d_G_restart_2 : decode b_G_restart 2 = .ok (.putfield 49, 3) := by decide +kernel
theorem d_G_restart_5 : decode b_G_restart 5 = .ok (.aload_n 0, 1) := by decide +kernel
theorem d_G_restart_6 : decode b_G_restart 6 = .ok (.iconst 0, 1) := by decide +kernel
theorem d_G_restart_7 : decode b_G_restart 7 = .ok (.putfield 36, 3) := by decide +kernel
theorem d_G_restart_10 : decode b_G_restart 10 = .ok (.aload_n 0, 1) := by decide +kernel
theorem d_G_restart_11 : decode b_G_restart 11 = .ok (.iconst 0, 1) := by decide +kernel
theorem d_G_restart_12 : decode b_G_restart 12 = .ok (.putfield 40, 3) := by decide +kernel
theorem d_G_restart_15 : decode b_G_restart 15 = .ok (.aload_n 0, 1) := by decide +kernel
theorem d_G_restart_16 : decode b_G_restart 16 = .ok (.iconst 0, 1) := by decide +kernel
theorem d_G_restart_17 : decode b_G_restart 17 = .ok (.putfield 52, 3) := by decide +kernel
theorem d_G_restart_20 : decode b_G_restart 20 = .ok (.aload_n 0, 1) := by decide +kernel
theorem d_G_restart_21 : decode b_G_restart 21 = .ok (.iconst 0, 1) := by decide +kernel
theorem d_G_restart_22 : decode b_G_restart 22 = .ok (.putfield 55, 3) := by decide +kernel
theorem d_G_restart_25 : decode b_G_restart 25 = .ok (.aload_n 0, 1) := by decide +kernel
theorem d_G_restart_26 : decode b_G_restart 26 = .ok (.iconst 0, 1) := by decide +kernel
theorem d_G_restart_27 : decode b_G_restart 27 = .ok (.putfield 43, 3) := by decide +kernel
theorem d_G_restart_30 : decode b_G_restart 30 = .ok (.aload_n 0, 1) := by decide +kernel
theorem d_G_restart_31 : decode b_G_restart 31 = .ok (.getfield 9, 3) := by decide +kernel
theorem d_G_restart_34 : decode b_G_restart 34 = .ok (.bipush 63, 2) := by decide +kernel
theorem d_G_restart_36 : decode b_G_restart 36 = .ok (.invokestatic 58, 3) := by decide +kernel
theorem d_G_restart_39 : decode b_G_restart 39 = .ok (.aload_n 0, 1) := by decide +kernel
theorem d_G_restart_40 : decode b_G_restart 40 = .ok (.bipush (-2), 2) := by decide +kernel
theorem d_G_restart_42 : decode b_G_restart 42 = .ok (.putfield 46, 3) := by decide +kernel
theorem d_G_restart_45 : decode b_G_restart 45 = .ok (.return_, 1) := by decide +kernel
theorem d_G_isWhole_0 : decode b_G_isWhole 0 = .ok (.aload_n 0, 1) := by decide +kernel
theorem d_G_isWhole_1 : decode b_G_isWhole 1 = .ok (.getfield 49, 3) := by decide +kernel
theorem d_G_isWhole_4 : decode b_G_isWhole 4 = .ok (.iconst 3, 1) := by decide +kernel
theorem d_G_isWhole_5 : decode b_G_isWhole 5 = .ok (.if_icmp .ne 10, 3) := by decide +kernel
theorem d_G_isWhole_8 : decode b_G_isWhole 8 = .ok (.aload_n 0, 1) := by decide +kernel
theorem d_G_isWhole_9 : decode b_G_isWhole 9 = .ok (.getfield 52, 3) := by decide +kernel
theorem d_G_isWhole_12 : decode b_G_isWhole 12 = .ok (.ifCond .eq 21, 3) := by decide +kernel
theorem d_G_isWhole_15 : decode b_G_isWhole 15 = .ok (.aload_n 0, 1) := by decide +kernel
theorem d_G_isWhole_16 : decode b_G_isWhole 16 = .ok (.getfield 49, 3) := by decide +kernel
theorem d_G_isWhole_19 : decode b_G_isWhole 19 = .ok (.bipush 7, 2) := by decide +kernel
theorem d_G_isWhole_21 : decode b_G_isWhole 21 = .ok (.if_icmp .eq 12, 3) := by decide +kernel
theorem d_G_isWhole_24 : decode b_G_isWhole 24 = .ok (.aload_n 0, 1) := by decide +kernel
theorem d_G_isWhole_25 : decode b_G_isWhole 25 = .ok (.getfield 49, 3) := by decide +kernel
theorem d_G_isWhole_28 : decode b_G_isWhole 28 = .ok (.bipush 9, 2) := by decide +kernel
theorem d_G_isWhole_30 : decode b_G_isWhole 30 = .ok (.if_icmp .ne 7, 3) := by decide +kernel
theorem d_G_isWhole_33 : decode b_G_isWhole 33 = .ok (.iconst 1, 1) := by decide +kernel
theorem d_G_isWhole_34 : decode b_G_isWhole 34 = .ok (.goto 4, 3) := by decide +kernel
theorem d_G_isWhole_37 : decode b_G_isWhole 37 = .ok (.iconst 0, 1) := by decide +kernel
theorem d_G_isWhole_38 : decode b_G_isWhole 38 = .ok (.ireturn, 1) := by decide +kernel
theorem d_G_take_0 : decode b_G_take 0 = .ok (.aload_n 0, 1) := by decide +kernel
theorem d_G_take_1 : decode b_G_take 1 = .ok (.getfield 49, 3) := by decide +kernel
theorem d_G_take_4 : decode b_G_take 4 = .ok (.tableswitch 106 0 8 #[52, 58, 64, 70, 76, 82, 88, 94, 100], 52) := by decide +kernel
theorem d_G_take_56 : decode b_G_take 56 = .ok (.aload_n 0, 1) := by decide +kernel
theorem d_G_take_57 : decode b_G_take 57 = .ok (.iload_n 1, 1) := by decide +kernel
theorem d_G_take_58 : decode b_G_take 58 = .ok (.invokevirtual 64, 3) := by decide +kernel
theorem d_G_take_61 : decode b_G_take 61 = .ok (.ireturn, 1) := by decide +kernel
theorem d_G_take_62 : decode b_G_take 62 = .ok (.aload_n 0, 1) := by decide +kernel
theorem d_G_take_63 : decode b_G_take 63 = .ok (.iload_n 1, 1) := by decide +kernel
theorem d_G_take_64 : decode b_G_take 64 = .ok (.invokevirtual 67, 3) := by decide +kernel
theorem d_G_take_67 : decode b_G_take 67 = .ok (.ireturn, 1) := by decide +kernel
theorem d_G_take_68 : decode b_G_take 68 = .ok (.aload_n 0, 1) := by decide +kernel
theorem d_G_take_69 : decode b_G_take 69 = .ok (.iload_n 1, 1) := by decide +kernel
theorem d_G_take_70 : decode b_G_take 70 = .ok (.invokevirtual 70, 3) := by decide +kernel
theorem d_G_take_73 : decode b_G_take 73 = .ok (.ireturn, 1) := by decide +kernel
theorem d_G_take_74 : decode b_G_take 74 = .ok (.aload_n 0, 1) := by decide +kernel
theorem d_G_take_75 : decode b_G_take 75 = .ok (.iload_n 1, 1) := by decide +kernel
theorem d_G_take_76 : decode b_G_take 76 = .ok (.invokevirtual 73, 3) := by decide +kernel
theorem d_G_take_79 : decode b_G_take 79 = .ok (.ireturn, 1) := by decide +kernel
theorem d_G_take_80 : decode b_G_take 80 = .ok (.aload_n 0, 1) := by decide +kernel
theorem d_G_take_81 : decode b_G_take 81 = .ok (.iload_n 1, 1) := by decide +kernel
theorem d_G_take_82 : decode b_G_take 82 = .ok (.invokevirtual 76, 3) := by decide +kernel
theorem d_G_take_85 : decode b_G_take 85 = .ok (.ireturn, 1) := by decide +kernel
theorem d_G_take_86 : decode b_G_take 86 = .ok (.aload_n 0, 1) := by decide +kernel
theorem d_G_take_87 : decode b_G_take 87 = .ok (.iload_n 1, 1) := by decide +kernel
theorem d_G_take_88 : decode b_G_take 88 = .ok (.invokevirtual 79, 3) := by decide +kernel
theorem d_G_take_91 : decode b_G_take 91 = .ok (.ireturn, 1) := by decide +kernel
theorem d_G_take_92 : decode b_G_take 92 = .ok (.aload_n 0, 1) := by decide +kernel
theorem d_G_take_93 : decode b_G_take 93 = .ok (.iload_n 1, 1) := by decide +kernel
theorem d_G_take_94 : decode b_G_take 94 = .ok (.invokevirtual 82, 3) := by decide +kernel
theorem d_G_take_97 : decode b_G_take 97 = .ok (.ireturn, 1) := by decide +kernel
theorem d_G_take_98 : decode b_G_take 98 = .ok (.aload_n 0, 1) := by decide +kernel
theorem d_G_take_99 : decode b_G_take 99 = .ok (.iload_n 1, 1) := by decide +kernel
theorem d_G_take_100 : decode b_G_take 100 = .ok (.invokevirtual 85, 3) := by decide +kernel
theorem d_G_take_103 : decode b_G_take 103 = .ok (.ireturn, 1) := by decide +kernel
theorem d_G_take_104 : decode b_G_take 104 = .ok (.aload_n 0, 1) := by decide +kernel
theorem d_G_take_105 : decode b_G_take 105 = .ok (.iload_n 1, 1) := by decide +kernel
theorem d_G_take_106 : decode b_G_take 106 = .ok (.invokevirtual 88, 3) := by decide +kernel
theorem d_G_take_109 : decode b_G_take 109 = .ok (.ireturn, 1) := by decide +kernel
theorem d_G_take_110 : decode b_G_take 110 = .ok (.iconst 0, 1) := by decide +kernel
theorem d_G_take_111 : decode b_G_take 111 = .ok (.ireturn, 1) := by decide +kernel
theorem d_G_takeChainStart_0 : decode b_G_takeChainStart 0 = .ok (.iload_n 1, 1) := by decide +kernel
theorem d_G_takeChainStart_1 : decode b_G_takeChainStart 1 = .ok (.invokestatic 91, 3) := by decide +kernel
theorem d_G_takeChainStart_4 : decode b_G_takeChainStart 4 = .ok (.istore_n 2, 1) := by decide +kernel
theorem d_G_takeChainStart_5 : decode b_G_takeChainStart 5 = .ok (.iload_n 2, 1) := by decide +kernel
theorem d_G_takeChainStart_6 : decode b_G_takeChainStart 6 = .ok (.ifCond .ge 5, 3) := by decide +kernel
theorem d_G_takeChainStart_9 : decode b_G_takeChainStart 9 = .ok (.iconst 0, 1) := by decide +kernel
theorem d_G_takeChainStart_10 : decode b_G_takeChainStart 10 = .ok (.ireturn, 1) := by decide +kernel
theorem d_G_takeChainStart_11 : decode b_G_takeChainStart 11 = .ok (.aload_n 0, 1) := by decide +kernel
theorem d_G_takeChainStart_12 : decode b_G_takeChainStart 12 = .ok (.iload_n 2, 1) := by decide +kernel
theorem d_G_takeChainStart_13 : decode b_G_takeChainStart 13 = .ok (.putfield 36, 3) := by decide +kernel
theorem d_G_takeChainStart_16 : decode b_G_takeChainStart 16 = .ok (.aload_n 0, 1) := by decide +kernel
theorem d_G_takeChainStart_17 : decode b_G_takeChainStart 17 = .ok (.iload_n 2, 1) := by decide +kernel
theorem d_G_takeChainStart_18 : decode b_G_takeChainStart 18 = .ok (.putfield 40, 3) := by decide +kernel
theorem d_G_takeChainStart_21 : decode b_G_takeChainStart 21 = .ok (.aload_n 0, 1) := by decide +kernel
theorem d_G_takeChainStart_22 : decode b_G_takeChainStart 22 = .ok (.iconst 1, 1) := by decide +kernel
theorem d_G_takeChainStart_23 : decode b_G_takeChainStart 23 = .ok (.putfield 49, 3) := by decide +kernel
theorem d_G_takeChainStart_26 : decode b_G_takeChainStart 26 = .ok (.iconst 1, 1) := by decide +kernel
theorem d_G_takeChainStart_27 : decode b_G_takeChainStart 27 = .ok (.ireturn, 1) := by decide +kernel
theorem d_G_takeChainRest_0 : decode b_G_takeChainRest 0 = .ok (.iload_n 1, 1) := by decide +kernel
theorem d_G_takeChainRest_1 : decode b_G_takeChainRest 1 = .ok (.bipush 58, 2) := by decide +kernel
theorem d_G_takeChainRest_3 : decode b_G_takeChainRest 3 = .ok (.if_icmp .ne 10, 3) := by decide +kernel
theorem d_G_takeChainRest_6 : decode b_G_takeChainRest 6 = .ok (.aload_n 0, 1) := by decide +kernel
theorem d_G_takeChainRest_7 : decode b_G_takeChainRest 7 = .ok (.iconst 2, 1) := by decide +kernel
theorem d_G_takeChainRest_8 : decode b_G_takeChainRest 8 = .ok (.putfield 49, 3) := by decide +kernel
theorem d_G_takeChainRest_11 : decode b_G_takeChainRest 11 = .ok (.iconst 1, 1) := by decide +kernel
theorem d_G_takeChainRest_12 : decode b_G_takeChainRest 12 = .ok (.ireturn, 1) := by decide +kernel
theorem d_G_takeChainRest_13 : decode b_G_takeChainRest 13 = .ok (.iload_n 1, 1) := by decide +kernel
theorem d_G_takeChainRest_14 : decode b_G_takeChainRest 14 = .ok (.invokestatic 91, 3) := by decide +kernel
theorem d_G_takeChainRest_17 : decode b_G_takeChainRest 17 = .ok (.aload_n 0, 1) := by decide +kernel
theorem d_G_takeChainRest_18 : decode b_G_takeChainRest 18 = .ok (.getfield 40, 3) := by decide +kernel
theorem d_G_takeChainRest_21 : decode b_G_takeChainRest 21 = .ok (.iconst 1, 1) := by decide +kernel
theorem d_G_takeChainRest_22 : decode b_G_takeChainRest 22 = .ok (.iadd, 1) := by decide +kernel
theorem d_G_takeChainRest_23 : decode b_G_takeChainRest 23 = .ok (.if_icmp .eq 5, 3) := by decide +kernel
theorem d_G_takeChainRest_26 : decode b_G_takeChainRest 26 = .ok (.iconst 0, 1) := by decide +kernel
theorem d_G_takeChainRest_27 : decode b_G_takeChainRest 27 = .ok (.ireturn, 1) := by decide +kernel
theorem d_G_takeChainRest_28 : decode b_G_takeChainRest 28 = .ok (.aload_n 0, 1) := by decide +kernel
theorem d_G_takeChainRest_29 : decode b_G_takeChainRest 29 = .ok (.dup, 1) := by decide +kernel
theorem d_G_takeChainRest_30 : decode b_G_takeChainRest 30 = .ok (.getfield 40, 3) := by decide +kernel
theorem d_G_takeChainRest_33 : decode b_G_takeChainRest 33 = .ok (.iconst 1, 1) := by decide +kernel
theorem d_G_takeChainRest_34 : decode b_G_takeChainRest 34 = .ok (.iadd, 1) := by decide +kernel
theorem d_G_takeChainRest_35 : decode b_G_takeChainRest 35 = .ok (.putfield 40, 3) := by decide +kernel
theorem d_G_takeChainRest_38 : decode b_G_takeChainRest 38 = .ok (.iconst 1, 1) := by decide +kernel
theorem d_G_takeChainRest_39 : decode b_G_takeChainRest 39 = .ok (.ireturn, 1) := by decide +kernel
theorem d_G_takeFactor_0 : decode b_G_takeFactor 0 = .ok (.iload_n 1, 1) := by decide +kernel
theorem d_G_takeFactor_1 : decode b_G_takeFactor 1 = .ok (.bipush 40, 2) := by decide +kernel
theorem d_G_takeFactor_3 : decode b_G_takeFactor 3 = .ok (.if_icmp .eq 9, 3) := by decide +kernel
theorem d_G_takeFactor_6 : decode b_G_takeFactor 6 = .ok (.iload_n 1, 1) := by decide +kernel
theorem d_G_takeFactor_7 : decode b_G_takeFactor 7 = .ok (.bipush 45, 2) := by decide +kernel
theorem d_G_takeFactor_9 : decode b_G_takeFactor 9 = .ok (.if_icmp .ne 9, 3) := by decide +kernel
theorem d_G_takeFactor_12 : decode b_G_takeFactor 12 = .ok (.aload_n 0, 1) := by decide +kernel
theorem d_G_takeFactor_13 : decode b_G_takeFactor 13 = .ok (.iload_n 1, 1) := by decide +kernel
theorem d_G_takeFactor_14 : decode b_G_takeFactor 14 = .ok (.invokevirtual 95, 3) := by decide +kernel
theorem d_G_takeFactor_17 : decode b_G_takeFactor 17 = .ok (.ireturn, 1) := by decide +kernel
theorem d_G_takeFactor_18 : decode b_G_takeFactor 18 = .ok (.iload_n 1, 1) := by decide +kernel
theorem d_G_takeFactor_19 : decode b_G_takeFactor 19 = .ok (.invokestatic 98, 3) := by decide +kernel
theorem d_G_takeFactor_22 : decode b_G_takeFactor 22 = .ok (.ifCond .ne 13, 3) := by decide +kernel
theorem d_G_takeFactor_25 : decode b_G_takeFactor 25 = .ok (.aload_n 0, 1) := by decide +kernel
theorem d_G_takeFactor_26 : decode b_G_takeFactor 26 = .ok (.iload_n 1, 1) := by decide +kernel
theorem d_G_takeFactor_27 : decode b_G_takeFactor 27 = .ok (.invokevirtual 101, 3) := by decide +kernel
theorem d_G_takeFactor_30 : decode b_G_takeFactor 30 = .ok (.ifCond .ne 5, 3) := by decide +kernel
theorem d_G_takeFactor_33 : decode b_G_takeFactor 33 = .ok (.iconst 0, 1) := by decide +kernel
theorem d_G_takeFactor_34 : decode b_G_takeFactor 34 = .ok (.ireturn, 1) := by decide +kernel
theorem d_G_takeFactor_35 : decode b_G_takeFactor 35 = .ok (.aload_n 0, 1) := by decide +kernel
theorem d_G_takeFactor_36 : decode b_G_takeFactor 36 = .ok (.invokevirtual 104, 3) := by decide +kernel
theorem d_G_takeFactor_39 : decode b_G_takeFactor 39 = .ok (.iconst 1, 1) := by decide +kernel
theorem d_G_takeFactor_40 : decode b_G_takeFactor 40 = .ok (.ireturn, 1) := by decide +kernel
theorem d_G_takeOpening_0 : decode b_G_takeOpening 0 = .ok (.aload_n 0, 1) := by decide +kernel
theorem d_G_takeOpening_1 : decode b_G_takeOpening 1 = .ok (.getfield 52, 3) := by decide +kernel
theorem d_G_takeOpening_4 : decode b_G_takeOpening 4 = .ok (.bipush 8, 2) := by decide +kernel
theorem d_G_takeOpening_6 : decode b_G_takeOpening 6 = .ok (.if_icmp .lt 5, 3) := by decide +kernel
theorem d_G_takeOpening_9 : decode b_G_takeOpening 9 = .ok (.iconst 0, 1) := by decide +kernel
theorem d_G_takeOpening_10 : decode b_G_takeOpening 10 = .ok (.ireturn, 1) := by decide +kernel
theorem d_G_takeOpening_11 : decode b_G_takeOpening 11 = .ok (.aload_n 0, 1) := by decide +kernel
theorem d_G_takeOpening_12 : decode b_G_takeOpening 12 = .ok (.dup, 1) := by decide +kernel
theorem d_G_takeOpening_13 : decode b_G_takeOpening 13 = .ok (.getfield 52, 3) := by decide +kernel
theorem d_G_takeOpening_16 : decode b_G_takeOpening 16 = .ok (.iconst 1, 1) := by decide +kernel
theorem d_G_takeOpening_17 : decode b_G_takeOpening 17 = .ok (.iadd, 1) := by decide +kernel
theorem d_G_takeOpening_18 : decode b_G_takeOpening 18 = .ok (.putfield 52, 3) := by decide +kernel
theorem d_G_takeOpening_21 : decode b_G_takeOpening 21 = .ok (.aload_n 0, 1) := by decide +kernel
theorem d_G_takeOpening_22 : decode b_G_takeOpening 22 = .ok (.aload_n 0, 1) := by decide +kernel
theorem d_G_takeOpening_23 : decode b_G_takeOpening 23 = .ok (.getfield 55, 3) := by decide +kernel
theorem d_G_takeOpening_26 : decode b_G_takeOpening 26 = .ok (.iconst 1, 1) := by decide +kernel
theorem d_G_takeOpening_27 : decode b_G_takeOpening 27 = .ok (.ishl, 1) := by decide +kernel
theorem d_G_takeOpening_28 : decode b_G_takeOpening 28 = .ok (.iload_n 1, 1) := by decide +kernel
theorem d_G_takeOpening_29 : decode b_G_takeOpening 29 = .ok (.bipush 40, 2) := by decide +kernel
theorem d_G_takeOpening_31 : decode b_G_takeOpening 31 = .ok (.if_icmp .ne 7, 3) := by decide +kernel
theorem d_G_takeOpening_34 : decode b_G_takeOpening 34 = .ok (.iconst 1, 1) := by decide +kernel
theorem d_G_takeOpening_35 : decode b_G_takeOpening 35 = .ok (.goto 4, 3) := by decide +kernel
theorem d_G_takeOpening_38 : decode b_G_takeOpening 38 = .ok (.iconst 0, 1) := by decide +kernel
theorem d_G_takeOpening_39 : decode b_G_takeOpening 39 = .ok (.ior, 1) := by decide +kernel
theorem d_G_takeOpening_40 : decode b_G_takeOpening 40 = .ok (.putfield 55, 3) := by decide +kernel
theorem d_G_takeOpening_43 : decode b_G_takeOpening 43 = .ok (.iconst 1, 1) := by decide +kernel
theorem d_G_takeOpening_44 : decode b_G_takeOpening 44 = .ok (.ireturn, 1) := by decide +kernel
theorem d_G_takeAfterFactor_0 : decode b_G_takeAfterFactor 0 = .ok (.iload_n 1, 1) := by decide +kernel
theorem d_G_takeAfterFactor_1 : decode b_G_takeAfterFactor 1 = .ok (.bipush 43, 2) := by decide +kernel
theorem d_G_takeAfterFactor_3 : decode b_G_takeAfterFactor 3 = .ok (.if_icmp .eq 15, 3) := by decide +kernel
theorem d_G_takeAfterFactor_6 : decode b_G_takeAfterFactor 6 = .ok (.iload_n 1, 1) := by decide +kernel
theorem d_G_takeAfterFactor_7 : decode b_G_takeAfterFactor 7 = .ok (.bipush 45, 2) := by decide +kernel
theorem d_G_takeAfterFactor_9 : decode b_G_takeAfterFactor 9 = .ok (.if_icmp .eq 9, 3) := by decide +kernel
theorem d_G_takeAfterFactor_12 : decode b_G_takeAfterFactor 12 = .ok (.iload_n 1, 1) := by decide +kernel
theorem d_G_takeAfterFactor_13 : decode b_G_takeAfterFactor 13 = .ok (.bipush 42, 2) := by decide +kernel
theorem d_G_takeAfterFactor_15 : decode b_G_takeAfterFactor 15 = .ok (.if_icmp .ne 10, 3) := by decide +kernel
theorem d_G_takeAfterFactor_18 : decode b_G_takeAfterFactor 18 = .ok (.aload_n 0, 1) := by decide +kernel
theorem d_G_takeAfterFactor_19 : decode b_G_takeAfterFactor 19 = .ok (.iconst 2, 1) := by decide +kernel
theorem d_G_takeAfterFactor_20 : decode b_G_takeAfterFactor 20 = .ok (.putfield 49, 3) := by decide +kernel
theorem d_G_takeAfterFactor_23 : decode b_G_takeAfterFactor 23 = .ok (.iconst 1, 1) := by decide +kernel
theorem d_G_takeAfterFactor_24 : decode b_G_takeAfterFactor 24 = .ok (.ireturn, 1) := by decide +kernel
theorem d_G_takeAfterFactor_25 : decode b_G_takeAfterFactor 25 = .ok (.aload_n 0, 1) := by decide +kernel
theorem d_G_takeAfterFactor_26 : decode b_G_takeAfterFactor 26 = .ok (.getfield 52, 3) := by decide +kernel
theorem d_G_takeAfterFactor_29 : decode b_G_takeAfterFactor 29 = .ok (.ifCond .ne 9, 3) := by decide +kernel
theorem d_G_takeAfterFactor_32 : decode b_G_takeAfterFactor 32 = .ok (.aload_n 0, 1) := by decide +kernel
theorem d_G_takeAfterFactor_33 : decode b_G_takeAfterFactor 33 = .ok (.iload_n 1, 1) := by decide +kernel
theorem d_G_takeAfterFactor_34 : decode b_G_takeAfterFactor 34 = .ok (.invokevirtual 85, 3) := by decide +kernel
theorem d_G_takeAfterFactor_37 : decode b_G_takeAfterFactor 37 = .ok (.ireturn, 1) := by decide +kernel
theorem d_G_takeAfterFactor_38 : decode b_G_takeAfterFactor 38 = .ok (.iload_n 1, 1) := by decide +kernel
theorem d_G_takeAfterFactor_39 : decode b_G_takeAfterFactor 39 = .ok (.bipush 41, 2) := by decide +kernel
theorem d_G_takeAfterFactor_41 : decode b_G_takeAfterFactor 41 = .ok (.if_icmp .eq 5, 3) := by decide +kernel
theorem d_G_takeAfterFactor_44 : decode b_G_takeAfterFactor 44 = .ok (.iconst 0, 1) := by decide +kernel
theorem d_G_takeAfterFactor_45 : decode b_G_takeAfterFactor 45 = .ok (.ireturn, 1) := by decide +kernel
theorem d_G_takeAfterFactor_46 : decode b_G_takeAfterFactor 46 = .ok (.aload_n 0, 1) := by decide +kernel
theorem d_G_takeAfterFactor_47 : decode b_G_takeAfterFactor 47 = .ok (.dup, 1) := by decide +kernel
theorem d_G_takeAfterFactor_48 : decode b_G_takeAfterFactor 48 = .ok (.getfield 52, 3) := by decide +kernel
theorem d_G_takeAfterFactor_51 : decode b_G_takeAfterFactor 51 = .ok (.iconst 1, 1) := by decide +kernel
theorem d_G_takeAfterFactor_52 : decode b_G_takeAfterFactor 52 = .ok (.isub, 1) := by decide +kernel
theorem d_G_takeAfterFactor_53 : decode b_G_takeAfterFactor 53 = .ok (.putfield 52, 3) := by decide +kernel
theorem d_G_takeAfterFactor_56 : decode b_G_takeAfterFactor 56 = .ok (.aload_n 0, 1) := by decide +kernel
theorem d_G_takeAfterFactor_57 : decode b_G_takeAfterFactor 57 = .ok (.dup, 1) := by decide +kernel
theorem d_G_takeAfterFactor_58 : decode b_G_takeAfterFactor 58 = .ok (.getfield 55, 3) := by decide +kernel
theorem d_G_takeAfterFactor_61 : decode b_G_takeAfterFactor 61 = .ok (.iconst 1, 1) := by decide +kernel
theorem d_G_takeAfterFactor_62 : decode b_G_takeAfterFactor 62 = .ok (.ishr, 1) := by decide +kernel
theorem d_G_takeAfterFactor_63 : decode b_G_takeAfterFactor 63 = .ok (.putfield 55, 3) := by decide +kernel
theorem d_G_takeAfterFactor_66 : decode b_G_takeAfterFactor 66 = .ok (.aload_n 0, 1) := by decide +kernel
theorem d_G_takeAfterFactor_67 : decode b_G_takeAfterFactor 67 = .ok (.invokevirtual 104, 3) := by decide +kernel
theorem d_G_takeAfterFactor_70 : decode b_G_takeAfterFactor 70 = .ok (.iconst 1, 1) := by decide +kernel
theorem d_G_takeAfterFactor_71 : decode b_G_takeAfterFactor 71 = .ok (.ireturn, 1) := by decide +kernel
theorem d_G_endFactor_0 : decode b_G_endFactor 0 = .ok (.aload_n 0, 1) := by decide +kernel
theorem d_G_endFactor_1 : decode b_G_endFactor 1 = .ok (.getfield 52, 3) := by decide +kernel
theorem d_G_endFactor_4 : decode b_G_endFactor 4 = .ok (.ifCond .le 35, 3) := by decide +kernel
theorem d_G_endFactor_7 : decode b_G_endFactor 7 = .ok (.aload_n 0, 1) := by decide +kernel
theorem d_G_endFactor_8 : decode b_G_endFactor 8 = .ok (.getfield 55, 3) := by decide +kernel
theorem d_G_endFactor_11 : decode b_G_endFactor 11 = .ok (.iconst 1, 1) := by decide +kernel
theorem d_G_endFactor_12 : decode b_G_endFactor 12 = .ok (.iand, 1) := by decide +kernel
theorem d_G_endFactor_13 : decode b_G_endFactor 13 = .ok (.ifCond .ne 26, 3) := by decide +kernel
theorem d_G_endFactor_16 : decode b_G_endFactor 16 = .ok (.aload_n 0, 1) := by decide +kernel
theorem d_G_endFactor_17 : decode b_G_endFactor 17 = .ok (.dup, 1) := by decide +kernel
theorem d_G_endFactor_18 : decode b_G_endFactor 18 = .ok (.getfield 52, 3) := by decide +kernel
theorem d_G_endFactor_21 : decode b_G_endFactor 21 = .ok (.iconst 1, 1) := by decide +kernel
theorem d_G_endFactor_22 : decode b_G_endFactor 22 = .ok (.isub, 1) := by decide +kernel
theorem d_G_endFactor_23 : decode b_G_endFactor 23 = .ok (.putfield 52, 3) := by decide +kernel
theorem d_G_endFactor_26 : decode b_G_endFactor 26 = .ok (.aload_n 0, 1) := by decide +kernel
theorem d_G_endFactor_27 : decode b_G_endFactor 27 = .ok (.dup, 1) := by decide +kernel
theorem d_G_endFactor_28 : decode b_G_endFactor 28 = .ok (.getfield 55, 3) := by decide +kernel
theorem d_G_endFactor_31 : decode b_G_endFactor 31 = .ok (.iconst 1, 1) := by decide +kernel
theorem d_G_endFactor_32 : decode b_G_endFactor 32 = .ok (.ishr, 1) := by decide +kernel
theorem d_G_endFactor_33 : decode b_G_endFactor 33 = .ok (.putfield 55, 3) := by decide +kernel
theorem d_G_endFactor_36 : decode b_G_endFactor 36 = .ok (.goto (-36), 3) := by decide +kernel
theorem d_G_endFactor_39 : decode b_G_endFactor 39 = .ok (.aload_n 0, 1) := by decide +kernel
theorem d_G_endFactor_40 : decode b_G_endFactor 40 = .ok (.iconst 3, 1) := by decide +kernel
theorem d_G_endFactor_41 : decode b_G_endFactor 41 = .ok (.putfield 49, 3) := by decide +kernel
theorem d_G_endFactor_44 : decode b_G_endFactor 44 = .ok (.return_, 1) := by decide +kernel
theorem d_G_takeTail_0 : decode b_G_takeTail 0 = .ok (.iload_n 1, 1) := by decide +kernel
theorem d_G_takeTail_1 : decode b_G_takeTail 1 = .ok (.bipush 63, 2) := by decide +kernel
theorem d_G_takeTail_3 : decode b_G_takeTail 3 = .ok (.if_icmp .ne 10, 3) := by decide +kernel
theorem d_G_takeTail_6 : decode b_G_takeTail 6 = .ok (.aload_n 0, 1) := by decide +kernel
theorem d_G_takeTail_7 : decode b_G_takeTail 7 = .ok (.iconst 4, 1) := by decide +kernel
theorem d_G_takeTail_8 : decode b_G_takeTail 8 = .ok (.putfield 49, 3) := by decide +kernel
theorem d_G_takeTail_11 : decode b_G_takeTail 11 = .ok (.iconst 1, 1) := by decide +kernel
theorem d_G_takeTail_12 : decode b_G_takeTail 12 = .ok (.ireturn, 1) := by decide +kernel
theorem d_G_takeTail_13 : decode b_G_takeTail 13 = .ok (.iload_n 1, 1) := by decide +kernel
theorem d_G_takeTail_14 : decode b_G_takeTail 14 = .ok (.bipush 47, 2) := by decide +kernel
theorem d_G_takeTail_16 : decode b_G_takeTail 16 = .ok (.if_icmp .ne 11, 3) := by decide +kernel
theorem d_G_takeTail_19 : decode b_G_takeTail 19 = .ok (.aload_n 0, 1) := by decide +kernel
theorem d_G_takeTail_20 : decode b_G_takeTail 20 = .ok (.bipush 8, 2) := by decide +kernel
theorem d_G_takeTail_22 : decode b_G_takeTail 22 = .ok (.putfield 49, 3) := by decide +kernel
theorem d_G_takeTail_25 : decode b_G_takeTail 25 = .ok (.iconst 1, 1) := by decide +kernel
theorem d_G_takeTail_26 : decode b_G_takeTail 26 = .ok (.ireturn, 1) := by decide +kernel
theorem d_G_takeTail_27 : decode b_G_takeTail 27 = .ok (.iconst 0, 1) := by decide +kernel
theorem d_G_takeTail_28 : decode b_G_takeTail 28 = .ok (.ireturn, 1) := by decide +kernel
theorem d_G_takeConditionColumn_0 : decode b_G_takeConditionColumn 0 = .ok (.aload_n 0, 1) := by decide +kernel
theorem d_G_takeConditionColumn_1 : decode b_G_takeConditionColumn 1 = .ok (.iload_n 1, 1) := by decide +kernel
theorem d_G_takeConditionColumn_2 : decode b_G_takeConditionColumn 2 = .ok (.invokevirtual 101, 3) := by decide +kernel
theorem d_G_takeConditionColumn_5 : decode b_G_takeConditionColumn 5 = .ok (.ifCond .ne 5, 3) := by decide +kernel
theorem d_G_takeConditionColumn_8 : decode b_G_takeConditionColumn 8 = .ok (.iconst 0, 1) := by decide +kernel
theorem d_G_takeConditionColumn_9 : decode b_G_takeConditionColumn 9 = .ok (.ireturn, 1) := by decide +kernel
theorem d_G_takeConditionColumn_10 : decode b_G_takeConditionColumn 10 = .ok (.aload_n 0, 1) := by decide +kernel
theorem d_G_takeConditionColumn_11 : decode b_G_takeConditionColumn 11 = .ok (.iload_n 1, 1) := by decide +kernel
theorem d_G_takeConditionColumn_12 : decode b_G_takeConditionColumn 12 = .ok (.invokestatic 107, 3) := by decide +kernel
theorem d_G_takeConditionColumn_15 : decode b_G_takeConditionColumn 15 = .ok (.putfield 110, 3) := by decide +kernel
theorem d_G_takeConditionColumn_18 : decode b_G_takeConditionColumn 18 = .ok (.aload_n 0, 1) := by decide +kernel
theorem d_G_takeConditionColumn_19 : decode b_G_takeConditionColumn 19 = .ok (.iconst 5, 1) := by decide +kernel
theorem d_G_takeConditionColumn_20 : decode b_G_takeConditionColumn 20 = .ok (.putfield 49, 3) := by decide +kernel
theorem d_G_takeConditionColumn_23 : decode b_G_takeConditionColumn 23 = .ok (.iconst 1, 1) := by decide +kernel
theorem d_G_takeConditionColumn_24 : decode b_G_takeConditionColumn 24 = .ok (.ireturn, 1) := by decide +kernel
theorem d_G_takeConditionKind_0 : decode b_G_takeConditionKind 0 = .ok (.iload_n 1, 1) := by decide +kernel
theorem d_G_takeConditionKind_1 : decode b_G_takeConditionKind 1 = .ok (.bipush 61, 2) := by decide +kernel
theorem d_G_takeConditionKind_3 : decode b_G_takeConditionKind 3 = .ok (.if_icmp .eq 23, 3) := by decide +kernel
theorem d_G_takeConditionKind_6 : decode b_G_takeConditionKind 6 = .ok (.iload_n 1, 1) := by decide +kernel
theorem d_G_takeConditionKind_7 : decode b_G_takeConditionKind 7 = .ok (.bipush 35, 2) := by decide +kernel
theorem d_G_takeConditionKind_9 : decode b_G_takeConditionKind 9 = .ok (.if_icmp .eq 17, 3) := by decide +kernel
theorem d_G_takeConditionKind_12 : decode b_G_takeConditionKind 12 = .ok (.iload_n 1, 1) := by decide +kernel
theorem d_G_takeConditionKind_13 : decode b_G_takeConditionKind 13 = .ok (.bipush 60, 2) := by decide +kernel
theorem d_G_takeConditionKind_15 : decode b_G_takeConditionKind 15 = .ok (.if_icmp .eq 11, 3) := by decide +kernel
theorem d_G_takeConditionKind_18 : decode b_G_takeConditionKind 18 = .ok (.iload_n 1, 1) := by decide +kernel
theorem d_G_takeConditionKind_19 : decode b_G_takeConditionKind 19 = .ok (.bipush 62, 2) := by decide +kernel
theorem d_G_takeConditionKind_21 : decode b_G_takeConditionKind 21 = .ok (.if_icmp .eq 5, 3) := by decide +kernel
theorem d_G_takeConditionKind_24 : decode b_G_takeConditionKind 24 = .ok (.iconst 0, 1) := by decide +kernel
theorem d_G_takeConditionKind_25 : decode b_G_takeConditionKind 25 = .ok (.ireturn, 1) := by decide +kernel
theorem d_G_takeConditionKind_26 : decode b_G_takeConditionKind 26 = .ok (.aload_n 0, 1) := by decide +kernel
theorem d_G_takeConditionKind_27 : decode b_G_takeConditionKind 27 = .ok (.iload_n 1, 1) := by decide +kernel
theorem d_G_takeConditionKind_28 : decode b_G_takeConditionKind 28 = .ok (.putfield 113, 3) := by decide +kernel
theorem d_G_takeConditionKind_31 : decode b_G_takeConditionKind 31 = .ok (.aload_n 0, 1) := by decide +kernel
theorem d_G_takeConditionKind_32 : decode b_G_takeConditionKind 32 = .ok (.bipush 6, 2) := by decide +kernel
theorem d_G_takeConditionKind_34 : decode b_G_takeConditionKind 34 = .ok (.putfield 49, 3) := by decide +kernel
theorem d_G_takeConditionKind_37 : decode b_G_takeConditionKind 37 = .ok (.iconst 1, 1) := by decide +kernel
theorem d_G_takeConditionKind_38 : decode b_G_takeConditionKind 38 = .ok (.ireturn, 1) := by decide +kernel
theorem d_G_takeConditionDigit_0 : decode b_G_takeConditionDigit 0 = .ok (.iload_n 1, 1) := by decide +kernel
theorem d_G_takeConditionDigit_1 : decode b_G_takeConditionDigit 1 = .ok (.invokestatic 98, 3) := by decide +kernel
theorem d_G_takeConditionDigit_4 : decode b_G_takeConditionDigit 4 = .ok (.ifCond .ne 5, 3) := by decide +kernel
theorem d_G_takeConditionDigit_7 : decode b_G_takeConditionDigit 7 = .ok (.iconst 0, 1) := by decide +kernel
theorem d_G_takeConditionDigit_8 : decode b_G_takeConditionDigit 8 = .ok (.ireturn, 1) := by decide +kernel
theorem d_G_takeConditionDigit_9 : decode b_G_takeConditionDigit 9 = .ok (.iconst 0, 1) := by decide +kernel
theorem d_G_takeConditionDigit_10 : decode b_G_takeConditionDigit 10 = .ok (.istore_n 2, 1) := by decide +kernel
theorem d_G_takeConditionDigit_11 : decode b_G_takeConditionDigit 11 = .ok (.iload_n 2, 1) := by decide +kernel
theorem d_G_takeConditionDigit_12 : decode b_G_takeConditionDigit 12 = .ok (.bipush 6, 2) := by decide +kernel
theorem d_G_takeConditionDigit_14 : decode b_G_takeConditionDigit 14 = .ok (.if_icmp .ge 41, 3) := by decide +kernel
theorem d_G_takeConditionDigit_17 : decode b_G_takeConditionDigit 17 = .ok (.iload_n 2, 1) := by decide +kernel
theorem d_G_takeConditionDigit_18 : decode b_G_takeConditionDigit 18 = .ok (.aload_n 0, 1) := by decide +kernel
theorem d_G_takeConditionDigit_19 : decode b_G_takeConditionDigit 19 = .ok (.getfield 113, 3) := by decide +kernel
theorem d_G_takeConditionDigit_22 : decode b_G_takeConditionDigit 22 = .ok (.iload_n 1, 1) := by decide +kernel
theorem d_G_takeConditionDigit_23 : decode b_G_takeConditionDigit 23 = .ok (.bipush 48, 2) := by decide +kernel
theorem d_G_takeConditionDigit_25 : decode b_G_takeConditionDigit 25 = .ok (.isub, 1) := by decide +kernel
theorem d_G_takeConditionDigit_26 : decode b_G_takeConditionDigit 26 = .ok (.invokestatic 117, 3) := by decide +kernel
theorem d_G_takeConditionDigit_29 : decode b_G_takeConditionDigit 29 = .ok (.ifCond .ne 20, 3) := by decide +kernel
theorem d_G_takeConditionDigit_32 : decode b_G_takeConditionDigit 32 = .ok (.aload_n 0, 1) := by decide +kernel
theorem d_G_takeConditionDigit_33 : decode b_G_takeConditionDigit 33 = .ok (.getfield 9, 3) := by decide +kernel
theorem d_G_takeConditionDigit_36 : decode b_G_takeConditionDigit 36 = .ok (.aload_n 0, 1) := by decide +kernel
theorem d_G_takeConditionDigit_37 : decode b_G_takeConditionDigit 37 = .ok (.getfield 110, 3) := by decide +kernel
theorem d_G_takeConditionDigit_40 : decode b_G_takeConditionDigit 40 = .ok (.dup2, 1) := by decide +kernel
theorem d_G_takeConditionDigit_41 : decode b_G_takeConditionDigit 41 = .ok (.iaload, 1) := by decide +kernel
theorem d_G_takeConditionDigit_42 : decode b_G_takeConditionDigit 42 = .ok (.iconst 1, 1) := by decide +kernel
theorem d_G_takeConditionDigit_43 : decode b_G_takeConditionDigit 43 = .ok (.iload_n 2, 1) := by decide +kernel
theorem d_G_takeConditionDigit_44 : decode b_G_takeConditionDigit 44 = .ok (.ishl, 1) := by decide +kernel
theorem d_G_takeConditionDigit_45 : decode b_G_takeConditionDigit 45 = .ok (.iconst (-1), 1) := by decide +kernel
theorem d_G_takeConditionDigit_46 : decode b_G_takeConditionDigit 46 = .ok (.ixor, 1) := by decide +kernel
theorem d_G_takeConditionDigit_47 : decode b_G_takeConditionDigit 47 = .ok (.iand, 1) := by decide +kernel
theorem d_G_takeConditionDigit_48 : decode b_G_takeConditionDigit 48 = .ok (.iastore, 1) := by decide +kernel
theorem d_G_takeConditionDigit_49 : decode b_G_takeConditionDigit 49 = .ok (.iinc 2 1, 3) := by decide +kernel
theorem d_G_takeConditionDigit_52 : decode b_G_takeConditionDigit 52 = .ok (.goto (-41), 3) := by decide +kernel
theorem d_G_takeConditionDigit_55 : decode b_G_takeConditionDigit 55 = .ok (.aload_n 0, 1) := by decide +kernel
theorem d_G_takeConditionDigit_56 : decode b_G_takeConditionDigit 56 = .ok (.dup, 1) := by decide +kernel
theorem d_G_takeConditionDigit_57 : decode b_G_takeConditionDigit 57 = .ok (.getfield 43, 3) := by decide +kernel
theorem d_G_takeConditionDigit_60 : decode b_G_takeConditionDigit 60 = .ok (.iconst 1, 1) := by decide +kernel
theorem d_G_takeConditionDigit_61 : decode b_G_takeConditionDigit 61 = .ok (.iadd, 1) := by decide +kernel
theorem d_G_takeConditionDigit_62 : decode b_G_takeConditionDigit 62 = .ok (.putfield 43, 3) := by decide +kernel
theorem d_G_takeConditionDigit_65 : decode b_G_takeConditionDigit 65 = .ok (.aload_n 0, 1) := by decide +kernel
theorem d_G_takeConditionDigit_66 : decode b_G_takeConditionDigit 66 = .ok (.bipush 7, 2) := by decide +kernel
theorem d_G_takeConditionDigit_68 : decode b_G_takeConditionDigit 68 = .ok (.putfield 49, 3) := by decide +kernel
theorem d_G_takeConditionDigit_71 : decode b_G_takeConditionDigit 71 = .ok (.iconst 1, 1) := by decide +kernel
theorem d_G_takeConditionDigit_72 : decode b_G_takeConditionDigit 72 = .ok (.ireturn, 1) := by decide +kernel
theorem d_G_meets_0 : decode b_G_meets 0 = .ok (.iload_n 1, 1) := by decide +kernel
theorem d_G_meets_1 : decode b_G_meets 1 = .ok (.lookupswitch 68 #[(35, 46), (60, 57), (61, 35)], 35) := by decide +kernel
theorem d_G_meets_36 : decode b_G_meets 36 = .ok (.iload_n 0, 1) := by decide +kernel
theorem d_G_meets_37 : decode b_G_meets 37 = .ok (.iload_n 2, 1) := by decide +kernel
theorem d_G_meets_38 : decode b_G_meets 38 = .ok (.if_icmp .ne 7, 3) := by decide +kernel
theorem d_G_meets_41 : decode b_G_meets 41 = .ok (.iconst 1, 1) := by decide +kernel
theorem d_G_meets_42 : decode b_G_meets 42 = .ok (.goto 4, 3) := by decide +kernel
theorem d_G_meets_45 : decode b_G_meets 45 = .ok (.iconst 0, 1) := by decide +kernel
theorem d_G_meets_46 : decode b_G_meets 46 = .ok (.ireturn, 1) := by decide +kernel
theorem d_G_meets_47 : decode b_G_meets 47 = .ok (.iload_n 0, 1) := by decide +kernel
theorem d_G_meets_48 : decode b_G_meets 48 = .ok (.iload_n 2, 1) := by decide +kernel
theorem d_G_meets_49 : decode b_G_meets 49 = .ok (.if_icmp .eq 7, 3) := by decide +kernel
theorem d_G_meets_52 : decode b_G_meets 52 = .ok (.iconst 1, 1) := by decide +kernel
theorem d_G_meets_53 : decode b_G_meets 53 = .ok (.goto 4, 3) := by decide +kernel
theorem d_G_meets_56 : decode b_G_meets 56 = .ok (.iconst 0, 1) := by decide +kernel
theorem d_G_meets_57 : decode b_G_meets 57 = .ok (.ireturn, 1) := by decide +kernel
theorem d_G_meets_58 : decode b_G_meets 58 = .ok (.iload_n 0, 1) := by decide +kernel
theorem d_G_meets_59 : decode b_G_meets 59 = .ok (.iload_n 2, 1) := by decide +kernel
theorem d_G_meets_60 : decode b_G_meets 60 = .ok (.if_icmp .ge 7, 3) := by decide +kernel
theorem d_G_meets_63 : decode b_G_meets 63 = .ok (.iconst 1, 1) := by decide +kernel
theorem d_G_meets_64 : decode b_G_meets 64 = .ok (.goto 4, 3) := by decide +kernel
theorem d_G_meets_67 : decode b_G_meets 67 = .ok (.iconst 0, 1) := by decide +kernel
theorem d_G_meets_68 : decode b_G_meets 68 = .ok (.ireturn, 1) := by decide +kernel
theorem d_G_meets_69 : decode b_G_meets 69 = .ok (.iload_n 0, 1) := by decide +kernel
theorem d_G_meets_70 : decode b_G_meets 70 = .ok (.iload_n 2, 1) := by decide +kernel
theorem d_G_meets_71 : decode b_G_meets 71 = .ok (.if_icmp .le 7, 3) := by decide +kernel
theorem d_G_meets_74 : decode b_G_meets 74 = .ok (.iconst 1, 1) := by decide +kernel
theorem d_G_meets_75 : decode b_G_meets 75 = .ok (.goto 4, 3) := by decide +kernel
theorem d_G_meets_78 : decode b_G_meets 78 = .ok (.iconst 0, 1) := by decide +kernel
theorem d_G_meets_79 : decode b_G_meets 79 = .ok (.ireturn, 1) := by decide +kernel
theorem d_G_takeGroupColumn_0 : decode b_G_takeGroupColumn 0 = .ok (.aload_n 0, 1) := by decide +kernel
theorem d_G_takeGroupColumn_1 : decode b_G_takeGroupColumn 1 = .ok (.iload_n 1, 1) := by decide +kernel
theorem d_G_takeGroupColumn_2 : decode b_G_takeGroupColumn 2 = .ok (.invokevirtual 101, 3) := by decide +kernel
theorem d_G_takeGroupColumn_5 : decode b_G_takeGroupColumn 5 = .ok (.ifCond .ne 5, 3) := by decide +kernel
theorem d_G_takeGroupColumn_8 : decode b_G_takeGroupColumn 8 = .ok (.iconst 0, 1) := by decide +kernel
theorem d_G_takeGroupColumn_9 : decode b_G_takeGroupColumn 9 = .ok (.ireturn, 1) := by decide +kernel
theorem d_G_takeGroupColumn_10 : decode b_G_takeGroupColumn 10 = .ok (.aload_n 0, 1) := by decide +kernel
theorem d_G_takeGroupColumn_11 : decode b_G_takeGroupColumn 11 = .ok (.iload_n 1, 1) := by decide +kernel
theorem d_G_takeGroupColumn_12 : decode b_G_takeGroupColumn 12 = .ok (.invokestatic 107, 3) := by decide +kernel
theorem d_G_takeGroupColumn_15 : decode b_G_takeGroupColumn 15 = .ok (.putfield 46, 3) := by decide +kernel
theorem d_G_takeGroupColumn_18 : decode b_G_takeGroupColumn 18 = .ok (.aload_n 0, 1) := by decide +kernel
theorem d_G_takeGroupColumn_19 : decode b_G_takeGroupColumn 19 = .ok (.bipush 9, 2) := by decide +kernel
theorem d_G_takeGroupColumn_21 : decode b_G_takeGroupColumn 21 = .ok (.putfield 49, 3) := by decide +kernel
theorem d_G_takeGroupColumn_24 : decode b_G_takeGroupColumn 24 = .ok (.iconst 1, 1) := by decide +kernel
theorem d_G_takeGroupColumn_25 : decode b_G_takeGroupColumn 25 = .ok (.ireturn, 1) := by decide +kernel
theorem d_G_isChainColumn_0 : decode b_G_isChainColumn 0 = .ok (.iload_n 1, 1) := by decide +kernel
theorem d_G_isChainColumn_1 : decode b_G_isChainColumn 1 = .ok (.invokestatic 107, 3) := by decide +kernel
theorem d_G_isChainColumn_4 : decode b_G_isChainColumn 4 = .ok (.istore_n 2, 1) := by decide +kernel
theorem d_G_isChainColumn_5 : decode b_G_isChainColumn 5 = .ok (.iload_n 2, 1) := by decide +kernel
theorem d_G_isChainColumn_6 : decode b_G_isChainColumn 6 = .ok (.aload_n 0, 1) := by decide +kernel
theorem d_G_isChainColumn_7 : decode b_G_isChainColumn 7 = .ok (.getfield 36, 3) := by decide +kernel
theorem d_G_isChainColumn_10 : decode b_G_isChainColumn 10 = .ok (.if_icmp .lt 17, 3) := by decide +kernel
theorem d_G_isChainColumn_13 : decode b_G_isChainColumn 13 = .ok (.iload_n 2, 1) := by decide +kernel
theorem d_G_isChainColumn_14 : decode b_G_isChainColumn 14 = .ok (.aload_n 0, 1) := by decide +kernel
theorem d_G_isChainColumn_15 : decode b_G_isChainColumn 15 = .ok (.getfield 40, 3) := by decide +kernel
theorem d_G_isChainColumn_18 : decode b_G_isChainColumn 18 = .ok (.iconst 1, 1) := by decide +kernel
theorem d_G_isChainColumn_19 : decode b_G_isChainColumn 19 = .ok (.iadd, 1) := by decide +kernel
theorem d_G_isChainColumn_20 : decode b_G_isChainColumn 20 = .ok (.if_icmp .gt 7, 3) := by decide +kernel
theorem d_G_isChainColumn_23 : decode b_G_isChainColumn 23 = .ok (.iconst 1, 1) := by decide +kernel
theorem d_G_isChainColumn_24 : decode b_G_isChainColumn 24 = .ok (.goto 4, 3) := by decide +kernel
theorem d_G_isChainColumn_27 : decode b_G_isChainColumn 27 = .ok (.iconst 0, 1) := by decide +kernel
theorem d_G_isChainColumn_28 : decode b_G_isChainColumn 28 = .ok (.ireturn, 1) := by decide +kernel
theorem d_P_init_0 : decode b_P_init 0 = .ok (.aload_n 0, 1) := by decide +kernel
theorem d_P_init_1 : decode b_P_init 1 = .ok (.invokespecial 3, 3) := by decide +kernel
theorem d_P_init_4 : decode b_P_init 4 = .ok (.aload_n 0, 1) := by decide +kernel
theorem d_P_init_5 : decode b_P_init 5 = .ok (.bipush 81, 2) := by decide +kernel
theorem d_P_init_7 : decode b_P_init 7 = .ok (.newarray .int, 2) := by decide +kernel
theorem d_P_init_9 : decode b_P_init 9 = .ok (.putfield 11, 3) := by decide +kernel
theorem d_P_init_12 : decode b_P_init 12 = .ok (.return_, 1) := by decide +kernel
theorem d_P_powerAt_0 : decode b_P_powerAt 0 = .ok (.iload_n 0, 1) := by decide +kernel
theorem d_P_powerAt_1 : decode b_P_powerAt 1 = .ok (.getstatic 15, 3) := by decide +kernel
theorem d_P_powerAt_4 : decode b_P_powerAt 4 = .ok (.iload_n 1, 1) := by decide +kernel
theorem d_P_powerAt_5 : decode b_P_powerAt 5 = .ok (.iaload, 1) := by decide +kernel
theorem d_P_powerAt_6 : decode b_P_powerAt 6 = .ok (.idiv, 1) := by decide +kernel
theorem d_P_powerAt_7 : decode b_P_powerAt 7 = .ok (.iconst 3, 1) := by decide +kernel
theorem d_P_powerAt_8 : decode b_P_powerAt 8 = .ok (.irem, 1) := by decide +kernel
theorem d_P_powerAt_9 : decode b_P_powerAt 9 = .ok (.ireturn, 1) := by decide +kernel
theorem d_P_at_0 : decode b_P_at 0 = .ok (.aload_n 0, 1) := by decide +kernel
theorem d_P_at_1 : decode b_P_at 1 = .ok (.getfield 11, 3) := by decide +kernel
theorem d_P_at_4 : decode b_P_at 4 = .ok (.iload_n 1, 1) := by decide +kernel
theorem d_P_at_5 : decode b_P_at 5 = .ok (.iaload, 1) := by decide +kernel
theorem d_P_at_6 : decode b_P_at 6 = .ok (.ireturn, 1) := by decide +kernel
theorem d_P_terms_0 : decode b_P_terms 0 = .ok (.iconst 0, 1) := by decide +kernel
theorem d_P_terms_1 : decode b_P_terms 1 = .ok (.istore_n 1, 1) := by decide +kernel
theorem d_P_terms_2 : decode b_P_terms 2 = .ok (.iconst 0, 1) := by decide +kernel
theorem d_P_terms_3 : decode b_P_terms 3 = .ok (.istore_n 2, 1) := by decide +kernel
theorem d_P_terms_4 : decode b_P_terms 4 = .ok (.iload_n 2, 1) := by decide +kernel
theorem d_P_terms_5 : decode b_P_terms 5 = .ok (.bipush 81, 2) := by decide +kernel
theorem d_P_terms_7 : decode b_P_terms 7 = .ok (.if_icmp .ge 21, 3) := by decide +kernel
theorem d_P_terms_10 : decode b_P_terms 10 = .ok (.aload_n 0, 1) := by decide +kernel
theorem d_P_terms_11 : decode b_P_terms 11 = .ok (.getfield 11, 3) := by decide +kernel
theorem d_P_terms_14 : decode b_P_terms 14 = .ok (.iload_n 2, 1) := by decide +kernel
theorem d_P_terms_15 : decode b_P_terms 15 = .ok (.iaload, 1) := by decide +kernel
theorem d_P_terms_16 : decode b_P_terms 16 = .ok (.ifCond .eq 6, 3) := by decide +kernel
theorem d_P_terms_19 : decode b_P_terms 19 = .ok (.iinc 1 1, 3) := by decide +kernel
theorem d_P_terms_22 : decode b_P_terms 22 = .ok (.iinc 2 1, 3) := by decide +kernel
theorem d_P_terms_25 : decode b_P_terms 25 = .ok (.goto (-21), 3) := by decide +kernel
theorem d_P_terms_28 : decode b_P_terms 28 = .ok (.iload_n 1, 1) := by decide +kernel
theorem d_P_terms_29 : decode b_P_terms 29 = .ok (.ireturn, 1) := by decide +kernel
theorem d_P_becomeNumber_0 : decode b_P_becomeNumber 0 = .ok (.aload_n 0, 1) := by decide +kernel
theorem d_P_becomeNumber_1 : decode b_P_becomeNumber 1 = .ok (.getfield 11, 3) := by decide +kernel
theorem d_P_becomeNumber_4 : decode b_P_becomeNumber 4 = .ok (.iconst 0, 1) := by decide +kernel
theorem d_P_becomeNumber_5 : decode b_P_becomeNumber 5 = .ok (.invokestatic 18, 3) := by decide +kernel
theorem d_P_becomeNumber_8 : decode b_P_becomeNumber 8 = .ok (.aload_n 0, 1) := by decide +kernel
theorem d_P_becomeNumber_9 : decode b_P_becomeNumber 9 = .ok (.getfield 11, 3) := by decide +kernel
theorem d_P_becomeNumber_12 : decode b_P_becomeNumber 12 = .ok (.iconst 0, 1) := by decide +kernel
theorem d_P_becomeNumber_13 : decode b_P_becomeNumber 13 = .ok (.iload_n 1, 1) := by decide +kernel
theorem d_P_becomeNumber_14 : decode b_P_becomeNumber 14 = .ok (.iastore, 1) := by decide +kernel
theorem d_P_becomeNumber_15 : decode b_P_becomeNumber 15 = .ok (.return_, 1) := by decide +kernel
theorem d_P_becomeColumn_0 : decode b_P_becomeColumn 0 = .ok (.aload_n 0, 1) := by decide +kernel
theorem d_P_becomeColumn_1 : decode b_P_becomeColumn 1 = .ok (.getfield 11, 3) := by decide +kernel
theorem d_P_becomeColumn_4 : decode b_P_becomeColumn 4 = .ok (.iconst 0, 1) := by decide +kernel
theorem d_P_becomeColumn_5 : decode b_P_becomeColumn 5 = .ok (.invokestatic 18, 3) := by decide +kernel
theorem d_P_becomeColumn_8 : decode b_P_becomeColumn 8 = .ok (.aload_n 0, 1) := by decide +kernel
theorem d_P_becomeColumn_9 : decode b_P_becomeColumn 9 = .ok (.getfield 11, 3) := by decide +kernel
theorem d_P_becomeColumn_12 : decode b_P_becomeColumn 12 = .ok (.getstatic 15, 3) := by decide +kernel
theorem d_P_becomeColumn_15 : decode b_P_becomeColumn 15 = .ok (.iload_n 1, 1) := by decide +kernel
theorem d_P_becomeColumn_16 : decode b_P_becomeColumn 16 = .ok (.iaload, 1) := by decide +kernel
theorem d_P_becomeColumn_17 : decode b_P_becomeColumn 17 = .ok (.iconst 1, 1) := by decide +kernel
theorem d_P_becomeColumn_18 : decode b_P_becomeColumn 18 = .ok (.iastore, 1) := by decide +kernel
theorem d_P_becomeColumn_19 : decode b_P_becomeColumn 19 = .ok (.return_, 1) := by decide +kernel
theorem d_P_becomeCopy_0 : decode b_P_becomeCopy 0 = .ok (.aload_n 1, 1) := by decide +kernel
theorem d_P_becomeCopy_1 : decode b_P_becomeCopy 1 = .ok (.getfield 11, 3) := by decide +kernel
theorem d_P_becomeCopy_4 : decode b_P_becomeCopy 4 = .ok (.iconst 0, 1) := by decide +kernel
theorem d_P_becomeCopy_5 : decode b_P_becomeCopy 5 = .ok (.aload_n 0, 1) := by decide +kernel
theorem d_P_becomeCopy_6 : decode b_P_becomeCopy 6 = .ok (.getfield 11, 3) := by decide +kernel
theorem d_P_becomeCopy_9 : decode b_P_becomeCopy 9 = .ok (.iconst 0, 1) := by decide +kernel
theorem d_P_becomeCopy_10 : decode b_P_becomeCopy 10 = .ok (.bipush 81, 2) := by decide +kernel
theorem d_P_becomeCopy_12 : decode b_P_becomeCopy 12 = .ok (.invokestatic 24, 3) := by decide +kernel
theorem d_P_becomeCopy_15 : decode b_P_becomeCopy 15 = .ok (.return_, 1) := by decide +kernel
theorem d_P_becomeNegative_0 : decode b_P_becomeNegative 0 = .ok (.iconst 0, 1) := by decide +kernel
theorem d_P_becomeNegative_1 : decode b_P_becomeNegative 1 = .ok (.istore_n 2, 1) := by decide +kernel
theorem d_P_becomeNegative_2 : decode b_P_becomeNegative 2 = .ok (.iload_n 2, 1) := by decide +kernel
theorem d_P_becomeNegative_3 : decode b_P_becomeNegative 3 = .ok (.bipush 81, 2) := by decide +kernel
theorem d_P_becomeNegative_5 : decode b_P_becomeNegative 5 = .ok (.if_icmp .ge 22, 3) := by decide +kernel
theorem d_P_becomeNegative_8 : decode b_P_becomeNegative 8 = .ok (.aload_n 0, 1) := by decide +kernel
theorem d_P_becomeNegative_9 : decode b_P_becomeNegative 9 = .ok (.getfield 11, 3) := by decide +kernel
theorem d_P_becomeNegative_12 : decode b_P_becomeNegative 12 = .ok (.iload_n 2, 1) := by decide +kernel
theorem d_P_becomeNegative_13 : decode b_P_becomeNegative 13 = .ok (.aload_n 1, 1) := by decide +kernel
theorem d_P_becomeNegative_14 : decode b_P_becomeNegative 14 = .ok (.getfield 11, 3) := by decide +kernel
theorem d_P_becomeNegative_17 : decode b_P_becomeNegative 17 = .ok (.iload_n 2, 1) := by decide +kernel
theorem d_P_becomeNegative_18 : decode b_P_becomeNegative 18 = .ok (.iaload, 1) := by decide +kernel
theorem d_P_becomeNegative_19 : decode b_P_becomeNegative 19 = .ok (.ineg, 1) := by decide +kernel
theorem d_P_becomeNegative_20 : decode b_P_becomeNegative 20 = .ok (.iastore, 1) := by decide +kernel
theorem d_P_becomeNegative_21 : decode b_P_becomeNegative 21 = .ok (.iinc 2 1, 3) := by decide +kernel
theorem d_P_becomeNegative_24 : decode b_P_becomeNegative 24 = .ok (.goto (-22), 3) := by decide +kernel
theorem d_P_becomeNegative_27 : decode b_P_becomeNegative 27 = .ok (.return_, 1) := by decide +kernel
theorem d_P_add_0 : decode b_P_add 0 = .ok (.iconst 0, 1) := by decide +kernel
theorem d_P_add_1 : decode b_P_add 1 = .ok (.istore_n 3, 1) := by decide +kernel
theorem d_P_add_2 : decode b_P_add 2 = .ok (.iload_n 3, 1) := by decide +kernel
theorem d_P_add_3 : decode b_P_add 3 = .ok (.bipush 81, 2) := by decide +kernel
theorem d_P_add_5 : decode b_P_add 5 = .ok (.if_icmp .ge 26, 3) := by decide +kernel
theorem d_P_add_8 : decode b_P_add 8 = .ok (.aload_n 0, 1) := by decide +kernel
theorem d_P_add_9 : decode b_P_add 9 = .ok (.getfield 11, 3) := by decide +kernel
theorem d_P_add_12 : decode b_P_add 12 = .ok (.iload_n 3, 1) := by decide +kernel
theorem d_P_add_13 : decode b_P_add 13 = .ok (.dup2, 1) := by decide +kernel
theorem d_P_add_14 : decode b_P_add 14 = .ok (.iaload, 1) := by decide +kernel
theorem d_P_add_15 : decode b_P_add 15 = .ok (.iload_n 2, 1) := by decide +kernel
theorem d_P_add_16 : decode b_P_add 16 = .ok (.aload_n 1, 1) := by decide +kernel
theorem d_P_add_17 : decode b_P_add 17 = .ok (.getfield 11, 3) := by decide +kernel
theorem d_P_add_20 : decode b_P_add 20 = .ok (.iload_n 3, 1) := by decide +kernel
theorem d_P_add_21 : decode b_P_add 21 = .ok (.iaload, 1) := by decide +kernel
theorem d_P_add_22 : decode b_P_add 22 = .ok (.imul, 1) := by decide +kernel
theorem d_P_add_23 : decode b_P_add 23 = .ok (.iadd, 1) := by decide +kernel
theorem d_P_add_24 : decode b_P_add 24 = .ok (.iastore, 1) := by decide +kernel
theorem d_P_add_25 : decode b_P_add 25 = .ok (.iinc 3 1, 3) := by decide +kernel
theorem d_P_add_28 : decode b_P_add 28 = .ok (.goto (-26), 3) := by decide +kernel
theorem d_P_add_31 : decode b_P_add 31 = .ok (.aload_n 0, 1) := by decide +kernel
theorem d_P_add_32 : decode b_P_add 32 = .ok (.invokevirtual 30, 3) := by decide +kernel
theorem d_P_add_35 : decode b_P_add 35 = .ok (.ifCond .ne 7, 3) := by decide +kernel
theorem d_P_add_38 : decode b_P_add 38 = .ok (.iconst 1, 1) := by decide +kernel
theorem d_P_add_39 : decode b_P_add 39 = .ok (.goto 4, 3) := by decide +kernel
theorem d_P_add_42 : decode b_P_add 42 = .ok (.iconst 0, 1) := by decide +kernel
theorem d_P_add_43 : decode b_P_add 43 = .ok (.ireturn, 1) := by decide +kernel
theorem d_P_becomeProduct_0 : decode b_P_becomeProduct 0 = .ok (.aload_n 0, 1) := by decide +kernel
theorem d_P_becomeProduct_1 : decode b_P_becomeProduct 1 = .ok (.getfield 11, 3) := by decide +kernel
theorem d_P_becomeProduct_4 : decode b_P_becomeProduct 4 = .ok (.iconst 0, 1) := by decide +kernel
theorem d_P_becomeProduct_5 : decode b_P_becomeProduct 5 = .ok (.invokestatic 18, 3) := by decide +kernel
theorem d_P_becomeProduct_8 : decode b_P_becomeProduct 8 = .ok (.iconst 0, 1) := by decide +kernel
theorem d_P_becomeProduct_9 : decode b_P_becomeProduct 9 = .ok (.istore_n 3, 1) := by decide +kernel
theorem d_P_becomeProduct_10 : decode b_P_becomeProduct 10 = .ok (.iload_n 3, 1) := by decide +kernel
theorem d_P_becomeProduct_11 : decode b_P_becomeProduct 11 = .ok (.bipush 81, 2) := by decide +kernel
theorem d_P_becomeProduct_13 : decode b_P_becomeProduct 13 = .ok (.if_icmp .ge 87, 3) := by decide +kernel
theorem d_P_becomeProduct_16 : decode b_P_becomeProduct 16 = .ok (.aload_n 1, 1) := by decide +kernel
theorem d_P_becomeProduct_17 : decode b_P_becomeProduct 17 = .ok (.getfield 11, 3) := by decide +kernel
theorem d_P_becomeProduct_20 : decode b_P_becomeProduct 20 = .ok (.iload_n 3, 1) := by decide +kernel
theorem d_P_becomeProduct_21 : decode b_P_becomeProduct 21 = .ok (.iaload, 1) := by decide +kernel
theorem d_P_becomeProduct_22 : decode b_P_becomeProduct 22 = .ok (.ifCond .ne 6, 3) := by decide +kernel
theorem d_P_becomeProduct_25 : decode b_P_becomeProduct 25 = .ok (.goto 69, 3) := by decide +kernel
theorem d_P_becomeProduct_28 : decode b_P_becomeProduct 28 = .ok (.iconst 0, 1) := by decide +kernel
theorem d_P_becomeProduct_29 : decode b_P_becomeProduct 29 = .ok (.istore 4, 2) := by decide +kernel
theorem d_P_becomeProduct_31 : decode b_P_becomeProduct 31 = .ok (.iload 4, 2) := by decide +kernel
theorem d_P_becomeProduct_33 : decode b_P_becomeProduct 33 = .ok (.bipush 81, 2) := by decide +kernel
theorem d_P_becomeProduct_35 : decode b_P_becomeProduct 35 = .ok (.if_icmp .ge 59, 3) := by decide +kernel
theorem d_P_becomeProduct_38 : decode b_P_becomeProduct 38 = .ok (.aload_n 2, 1) := by decide +kernel
theorem d_P_becomeProduct_39 : decode b_P_becomeProduct 39 = .ok (.getfield 11, 3) := by decide +kernel
theorem d_P_becomeProduct_42 : decode b_P_becomeProduct 42 = .ok (.iload 4, 2) := by decide +kernel
theorem d_P_becomeProduct_44 : decode b_P_becomeProduct 44 = .ok (.iaload, 1) := by decide +kernel
theorem d_P_becomeProduct_45 : decode b_P_becomeProduct 45 = .ok (.ifCond .ne 6, 3) := by decide +kernel
theorem d_P_becomeProduct_48 : decode b_P_becomeProduct 48 = .ok (.goto 40, 3) := by decide +kernel
end
section
theorem d_P_becomeProduct_51 : decode b_P_becomeProduct 51 = .ok (.iload_n 3, 1) := by decide +kernel
theorem d_P_becomeProduct_52 : decode b_P_becomeProduct 52 = .ok (.iload 4, 2) := by decide +kernel
theorem d_P_becomeProduct_54 : decode b_P_becomeProduct 54 = .ok (.invokestatic 34, 3) := by decide +kernel
theorem d_P_becomeProduct_57 : decode b_P_becomeProduct 57 = .ok (.ifCond .ne 5, 3) := by decide +kernel
theorem d_P_becomeProduct_60 : decode b_P_becomeProduct 60 = .ok (.iconst 0, 1) := by decide +kernel
theorem d_P_becomeProduct_61 : decode b_P_becomeProduct 61 = .ok (.ireturn, 1) := by decide +kernel
theorem d_P_becomeProduct_62 : decode b_P_becomeProduct 62 = .ok (.aload_n 0, 1) := by decide +kernel
theorem d_P_becomeProduct_63 : decode b_P_becomeProduct 63 = .ok (.getfield 11, 3) := by decide +kernel
theorem d_P_becomeProduct_66 : decode b_P_becomeProduct 66 = .ok (.iload_n 3, 1) := by decide +kernel
theorem d_P_becomeProduct_67 : decode b_P_becomeProduct 67 = .ok (.iload 4, 2) := by decide +kernel
theorem d_P_becomeProduct_69 : decode b_P_becomeProduct 69 = .ok (.iadd, 1) := by decide +kernel
theorem d_P_becomeProduct_70 : decode b_P_becomeProduct 70 = .ok (.dup2, 1) := by decide +kernel
theorem d_P_becomeProduct_71 : decode b_P_becomeProduct 71 = .ok (.iaload, 1) := by decide +kernel
theorem d_P_becomeProduct_72 : decode b_P_becomeProduct 72 = .ok (.aload_n 1, 1) := by decide +kernel
theorem d_P_becomeProduct_73 : decode b_P_becomeProduct 73 = .ok (.getfield 11, 3) := by decide +kernel
theorem d_P_becomeProduct_76 : decode b_P_becomeProduct 76 = .ok (.iload_n 3, 1) := by decide +kernel
theorem d_P_becomeProduct_77 : decode b_P_becomeProduct 77 = .ok (.iaload, 1) := by decide +kernel
theorem d_P_becomeProduct_78 : decode b_P_becomeProduct 78 = .ok (.aload_n 2, 1) := by decide +kernel
theorem d_P_becomeProduct_79 : decode b_P_becomeProduct 79 = .ok (.getfield 11, 3) := by decide +kernel
theorem d_P_becomeProduct_82 : decode b_P_becomeProduct 82 = .ok (.iload 4, 2) := by decide +kernel
theorem d_P_becomeProduct_84 : decode b_P_becomeProduct 84 = .ok (.iaload, 1) := by decide +kernel
theorem d_P_becomeProduct_85 : decode b_P_becomeProduct 85 = .ok (.imul, 1) := by decide +kernel
theorem d_P_becomeProduct_86 : decode b_P_becomeProduct 86 = .ok (.iadd, 1) := by decide +kernel
theorem d_P_becomeProduct_87 : decode b_P_becomeProduct 87 = .ok (.iastore, 1) := by decide +kernel
theorem d_P_becomeProduct_88 : decode b_P_becomeProduct 88 = .ok (.iinc 4 1, 3) := by decide +kernel
theorem d_P_becomeProduct_91 : decode b_P_becomeProduct 91 = .ok (.goto (-60), 3) := by decide +kernel
theorem d_P_becomeProduct_94 : decode b_P_becomeProduct 94 = .ok (.iinc 3 1, 3) := by decide +kernel
theorem d_P_becomeProduct_97 : decode b_P_becomeProduct 97 = .ok (.goto (-87), 3) := by decide +kernel
theorem d_P_becomeProduct_100 : decode b_P_becomeProduct 100 = .ok (.aload_n 0, 1) := by decide +kernel
theorem d_P_becomeProduct_101 : decode b_P_becomeProduct 101 = .ok (.invokevirtual 30, 3) := by decide +kernel
theorem d_P_becomeProduct_104 : decode b_P_becomeProduct 104 = .ok (.ifCond .ne 7, 3) := by decide +kernel
theorem d_P_becomeProduct_107 : decode b_P_becomeProduct 107 = .ok (.iconst 1, 1) := by decide +kernel
theorem d_P_becomeProduct_108 : decode b_P_becomeProduct 108 = .ok (.goto 4, 3) := by decide +kernel
theorem d_P_becomeProduct_111 : decode b_P_becomeProduct 111 = .ok (.iconst 0, 1) := by decide +kernel
theorem d_P_becomeProduct_112 : decode b_P_becomeProduct 112 = .ok (.ireturn, 1) := by decide +kernel
theorem d_P_powersFit_0 : decode b_P_powersFit 0 = .ok (.iconst 0, 1) := by decide +kernel
theorem d_P_powersFit_1 : decode b_P_powersFit 1 = .ok (.istore_n 2, 1) := by decide +kernel
theorem d_P_powersFit_2 : decode b_P_powersFit 2 = .ok (.iload_n 2, 1) := by decide +kernel
theorem d_P_powersFit_3 : decode b_P_powersFit 3 = .ok (.iconst 4, 1) := by decide +kernel
theorem d_P_powersFit_4 : decode b_P_powersFit 4 = .ok (.if_icmp .ge 26, 3) := by decide +kernel
theorem d_P_powersFit_7 : decode b_P_powersFit 7 = .ok (.iload_n 0, 1) := by decide +kernel
theorem d_P_powersFit_8 : decode b_P_powersFit 8 = .ok (.iload_n 2, 1) := by decide +kernel
theorem d_P_powersFit_9 : decode b_P_powersFit 9 = .ok (.invokestatic 38, 3) := by decide +kernel
theorem d_P_powersFit_12 : decode b_P_powersFit 12 = .ok (.iload_n 1, 1) := by decide +kernel
theorem d_P_powersFit_13 : decode b_P_powersFit 13 = .ok (.iload_n 2, 1) := by decide +kernel
theorem d_P_powersFit_14 : decode b_P_powersFit 14 = .ok (.invokestatic 38, 3) := by decide +kernel
theorem d_P_powersFit_17 : decode b_P_powersFit 17 = .ok (.iadd, 1) := by decide +kernel
theorem d_P_powersFit_18 : decode b_P_powersFit 18 = .ok (.iconst 2, 1) := by decide +kernel
theorem d_P_powersFit_19 : decode b_P_powersFit 19 = .ok (.if_icmp .le 5, 3) := by decide +kernel
theorem d_P_powersFit_22 : decode b_P_powersFit 22 = .ok (.iconst 0, 1) := by decide +kernel
theorem d_P_powersFit_23 : decode b_P_powersFit 23 = .ok (.ireturn, 1) := by decide +kernel
theorem d_P_powersFit_24 : decode b_P_powersFit 24 = .ok (.iinc 2 1, 3) := by decide +kernel
theorem d_P_powersFit_27 : decode b_P_powersFit 27 = .ok (.goto (-25), 3) := by decide +kernel
theorem d_P_powersFit_30 : decode b_P_powersFit 30 = .ok (.iconst 1, 1) := by decide +kernel
theorem d_P_powersFit_31 : decode b_P_powersFit 31 = .ok (.ireturn, 1) := by decide +kernel
theorem d_P_hasLargeTerms_0 : decode b_P_hasLargeTerms 0 = .ok (.iconst 0, 1) := by decide +kernel
theorem d_P_hasLargeTerms_1 : decode b_P_hasLargeTerms 1 = .ok (.istore_n 1, 1) := by decide +kernel
theorem d_P_hasLargeTerms_2 : decode b_P_hasLargeTerms 2 = .ok (.iload_n 1, 1) := by decide +kernel
theorem d_P_hasLargeTerms_3 : decode b_P_hasLargeTerms 3 = .ok (.bipush 81, 2) := by decide +kernel
theorem d_P_hasLargeTerms_5 : decode b_P_hasLargeTerms 5 = .ok (.if_icmp .ge 35, 3) := by decide +kernel
theorem d_P_hasLargeTerms_8 : decode b_P_hasLargeTerms 8 = .ok (.aload_n 0, 1) := by decide +kernel
theorem d_P_hasLargeTerms_9 : decode b_P_hasLargeTerms 9 = .ok (.getfield 11, 3) := by decide +kernel
theorem d_P_hasLargeTerms_12 : decode b_P_hasLargeTerms 12 = .ok (.iload_n 1, 1) := by decide +kernel
theorem d_P_hasLargeTerms_13 : decode b_P_hasLargeTerms 13 = .ok (.iaload, 1) := by decide +kernel
theorem d_P_hasLargeTerms_14 : decode b_P_hasLargeTerms 14 = .ok (.sipush 1000, 3) := by decide +kernel
theorem d_P_hasLargeTerms_17 : decode b_P_hasLargeTerms 17 = .ok (.if_icmp .gt 15, 3) := by decide +kernel
theorem d_P_hasLargeTerms_20 : decode b_P_hasLargeTerms 20 = .ok (.aload_n 0, 1) := by decide +kernel
theorem d_P_hasLargeTerms_21 : decode b_P_hasLargeTerms 21 = .ok (.getfield 11, 3) := by decide +kernel
theorem d_P_hasLargeTerms_24 : decode b_P_hasLargeTerms 24 = .ok (.iload_n 1, 1) := by decide +kernel
theorem d_P_hasLargeTerms_25 : decode b_P_hasLargeTerms 25 = .ok (.iaload, 1) := by decide +kernel
theorem d_P_hasLargeTerms_26 : decode b_P_hasLargeTerms 26 = .ok (.sipush (-1000), 3) := by decide +kernel
theorem d_P_hasLargeTerms_29 : decode b_P_hasLargeTerms 29 = .ok (.if_icmp .ge 5, 3) := by decide +kernel
theorem d_P_hasLargeTerms_32 : decode b_P_hasLargeTerms 32 = .ok (.iconst 1, 1) := by decide +kernel
theorem d_P_hasLargeTerms_33 : decode b_P_hasLargeTerms 33 = .ok (.ireturn, 1) := by decide +kernel
theorem d_P_hasLargeTerms_34 : decode b_P_hasLargeTerms 34 = .ok (.iinc 1 1, 3) := by decide +kernel
theorem d_P_hasLargeTerms_37 : decode b_P_hasLargeTerms 37 = .ok (.goto (-35), 3) := by decide +kernel
theorem d_P_hasLargeTerms_40 : decode b_P_hasLargeTerms 40 = .ok (.aload_n 0, 1) := by decide +kernel
theorem d_P_hasLargeTerms_41 : decode b_P_hasLargeTerms 41 = .ok (.invokevirtual 42, 3) := by decide +kernel
theorem d_P_hasLargeTerms_44 : decode b_P_hasLargeTerms 44 = .ok (.bipush 12, 2) := by decide +kernel
theorem d_P_hasLargeTerms_46 : decode b_P_hasLargeTerms 46 = .ok (.if_icmp .le 7, 3) := by decide +kernel
theorem d_P_hasLargeTerms_49 : decode b_P_hasLargeTerms 49 = .ok (.iconst 1, 1) := by decide +kernel
theorem d_P_hasLargeTerms_50 : decode b_P_hasLargeTerms 50 = .ok (.goto 4, 3) := by decide +kernel
theorem d_P_hasLargeTerms_53 : decode b_P_hasLargeTerms 53 = .ok (.iconst 0, 1) := by decide +kernel
theorem d_P_hasLargeTerms_54 : decode b_P_hasLargeTerms 54 = .ok (.ireturn, 1) := by decide +kernel
theorem d_Q_init_0 : decode b_Q_init 0 = .ok (.aload_n 0, 1) := by decide +kernel
theorem d_Q_init_1 : decode b_Q_init 1 = .ok (.invokespecial 3, 3) := by decide +kernel
theorem d_Q_init_4 : decode b_Q_init 4 = .ok (.aload_n 0, 1) := by decide +kernel
theorem d_Q_init_5 : decode b_Q_init 5 = .ok (.iconst 4, 1) := by decide +kernel
theorem d_Q_init_6 : decode b_Q_init 6 = .ok (.newarray .int, 2) := by decide +kernel
theorem d_Q_init_8 : decode b_Q_init 8 = .ok (.putfield 9, 3) := by decide +kernel
theorem d_Q_init_11 : decode b_Q_init 11 = .ok (.aload_n 0, 1) := by decide +kernel
theorem d_Q_init_12 : decode b_Q_init 12 = .ok (.new 15, 3) := by decide +kernel
theorem d_Q_init_15 : decode b_Q_init 15 = .ok (.dup, 1) := by decide +kernel
theorem d_Q_init_16 : decode b_Q_init 16 = .ok (.invokespecial 17, 3) := by decide +kernel
theorem d_Q_init_19 : decode b_Q_init 19 = .ok (.putfield 18, 3) := by decide +kernel
theorem d_Q_init_22 : decode b_Q_init 22 = .ok (.aload_n 0, 1) := by decide +kernel
theorem d_Q_init_23 : decode b_Q_init 23 = .ok (.bipush 6, 2) := by decide +kernel
theorem d_Q_init_25 : decode b_Q_init 25 = .ok (.newarray .long, 2) := by decide +kernel
theorem d_Q_init_27 : decode b_Q_init 27 = .ok (.putfield 22, 3) := by decide +kernel
theorem d_Q_init_30 : decode b_Q_init 30 = .ok (.aload_n 0, 1) := by decide +kernel
theorem d_Q_init_31 : decode b_Q_init 31 = .ok (.bipush 6, 2) := by decide +kernel
theorem d_Q_init_33 : decode b_Q_init 33 = .ok (.newarray .long, 2) := by decide +kernel
theorem d_Q_init_35 : decode b_Q_init 35 = .ok (.putfield 26, 3) := by decide +kernel
theorem d_Q_init_38 : decode b_Q_init 38 = .ok (.return_, 1) := by decide +kernel
theorem d_Q_become_0 : decode b_Q_become 0 = .ok (.aload_n 0, 1) := by decide +kernel
theorem d_Q_become_1 : decode b_Q_become 1 = .ok (.iconst 1, 1) := by decide +kernel
theorem d_Q_become_2 : decode b_Q_become 2 = .ok (.putfield 29, 3) := by decide +kernel
theorem d_Q_become_5 : decode b_Q_become 5 = .ok (.aload_n 0, 1) := by decide +kernel
theorem d_Q_become_6 : decode b_Q_become 6 = .ok (.aload_n 1, 1) := by decide +kernel
theorem d_Q_become_7 : decode b_Q_become 7 = .ok (.invokevirtual 33, 3) := by decide +kernel
theorem d_Q_become_10 : decode b_Q_become 10 = .ok (.putfield 39, 3) := by decide +kernel
theorem d_Q_become_13 : decode b_Q_become 13 = .ok (.aload_n 0, 1) := by decide +kernel
theorem d_Q_become_14 : decode b_Q_become 14 = .ok (.aload_n 1, 1) := by decide +kernel
theorem d_Q_become_15 : decode b_Q_become 15 = .ok (.invokevirtual 42, 3) := by decide +kernel
theorem d_Q_become_18 : decode b_Q_become 18 = .ok (.putfield 45, 3) := by decide +kernel
theorem d_Q_become_21 : decode b_Q_become 21 = .ok (.aload_n 0, 1) := by decide +kernel
theorem d_Q_become_22 : decode b_Q_become 22 = .ok (.aload_n 1, 1) := by decide +kernel
theorem d_Q_become_23 : decode b_Q_become 23 = .ok (.invokevirtual 47, 3) := by decide +kernel
theorem d_Q_become_26 : decode b_Q_become 26 = .ok (.putfield 50, 3) := by decide +kernel
theorem d_Q_become_29 : decode b_Q_become 29 = .ok (.aload_n 0, 1) := by decide +kernel
theorem d_Q_become_30 : decode b_Q_become 30 = .ok (.aload_n 1, 1) := by decide +kernel
theorem d_Q_become_31 : decode b_Q_become 31 = .ok (.invokevirtual 52, 3) := by decide +kernel
theorem d_Q_become_34 : decode b_Q_become 34 = .ok (.putfield 55, 3) := by decide +kernel
theorem d_Q_become_37 : decode b_Q_become 37 = .ok (.iconst 0, 1) := by decide +kernel
theorem d_Q_become_38 : decode b_Q_become 38 = .ok (.istore_n 3, 1) := by decide +kernel
theorem d_Q_become_39 : decode b_Q_become 39 = .ok (.iload_n 3, 1) := by decide +kernel
theorem d_Q_become_40 : decode b_Q_become 40 = .ok (.iconst 4, 1) := by decide +kernel
theorem d_Q_become_41 : decode b_Q_become 41 = .ok (.if_icmp .ge 20, 3) := by decide +kernel
theorem d_Q_become_44 : decode b_Q_become 44 = .ok (.aload_n 0, 1) := by decide +kernel
theorem d_Q_become_45 : decode b_Q_become 45 = .ok (.getfield 9, 3) := by decide +kernel
theorem d_Q_become_48 : decode b_Q_become 48 = .ok (.iload_n 3, 1) := by decide +kernel
theorem d_Q_become_49 : decode b_Q_become 49 = .ok (.aload_n 1, 1) := by decide +kernel
theorem d_Q_become_50 : decode b_Q_become 50 = .ok (.iload_n 3, 1) := by decide +kernel
theorem d_Q_become_51 : decode b_Q_become 51 = .ok (.invokevirtual 57, 3) := by decide +kernel
theorem d_Q_become_54 : decode b_Q_become 54 = .ok (.iastore, 1) := by decide +kernel
theorem d_Q_become_55 : decode b_Q_become 55 = .ok (.iinc 3 1, 3) := by decide +kernel
theorem d_Q_become_58 : decode b_Q_become 58 = .ok (.goto (-19), 3) := by decide +kernel
theorem d_Q_become_61 : decode b_Q_become 61 = .ok (.aload_n 0, 1) := by decide +kernel
theorem d_Q_become_62 : decode b_Q_become 62 = .ok (.getfield 18, 3) := by decide +kernel
theorem d_Q_become_65 : decode b_Q_become 65 = .ok (.aload_n 2, 1) := by decide +kernel
theorem d_Q_become_66 : decode b_Q_become 66 = .ok (.invokevirtual 61, 3) := by decide +kernel
theorem d_Q_become_69 : decode b_Q_become 69 = .ok (.return_, 1) := by decide +kernel
theorem d_Q_remove_0 : decode b_Q_remove 0 = .ok (.aload_n 0, 1) := by decide +kernel
theorem d_Q_remove_1 : decode b_Q_remove 1 = .ok (.iconst 0, 1) := by decide +kernel
theorem d_Q_remove_2 : decode b_Q_remove 2 = .ok (.putfield 29, 3) := by decide +kernel
theorem d_Q_remove_5 : decode b_Q_remove 5 = .ok (.return_, 1) := by decide +kernel
theorem d_Q_isThere_0 : decode b_Q_isThere 0 = .ok (.aload_n 0, 1) := by decide +kernel
theorem d_Q_isThere_1 : decode b_Q_isThere 1 = .ok (.getfield 29, 3) := by decide +kernel
theorem d_Q_isThere_4 : decode b_Q_isThere 4 = .ok (.ireturn, 1) := by decide +kernel
theorem d_Q_terms_0 : decode b_Q_terms 0 = .ok (.aload_n 0, 1) := by decide +kernel
theorem d_Q_terms_1 : decode b_Q_terms 1 = .ok (.getfield 18, 3) := by decide +kernel
theorem d_Q_terms_4 : decode b_Q_terms 4 = .ok (.invokevirtual 65, 3) := by decide +kernel
theorem d_Q_terms_7 : decode b_Q_terms 7 = .ok (.ireturn, 1) := by decide +kernel
theorem d_Q_chain_0 : decode b_Q_chain 0 = .ok (.iconst 0, 1) := by decide +kernel
theorem d_Q_chain_1 : decode b_Q_chain 1 = .ok (.istore_n 1, 1) := by decide +kernel
theorem d_Q_chain_2 : decode b_Q_chain 2 = .ok (.aload_n 0, 1) := by decide +kernel
theorem d_Q_chain_3 : decode b_Q_chain 3 = .ok (.getfield 39, 3) := by decide +kernel
theorem d_Q_chain_6 : decode b_Q_chain 6 = .ok (.istore_n 2, 1) := by decide +kernel
theorem d_Q_chain_7 : decode b_Q_chain 7 = .ok (.iload_n 2, 1) := by decide +kernel
theorem d_Q_chain_8 : decode b_Q_chain 8 = .ok (.aload_n 0, 1) := by decide +kernel
theorem d_Q_chain_9 : decode b_Q_chain 9 = .ok (.getfield 45, 3) := by decide +kernel
theorem d_Q_chain_12 : decode b_Q_chain 12 = .ok (.if_icmp .gt 15, 3) := by decide +kernel
theorem d_Q_chain_15 : decode b_Q_chain 15 = .ok (.iload_n 1, 1) := by decide +kernel
theorem d_Q_chain_16 : decode b_Q_chain 16 = .ok (.iconst 1, 1) := by decide +kernel
theorem d_Q_chain_17 : decode b_Q_chain 17 = .ok (.iload_n 2, 1) := by decide +kernel
theorem d_Q_chain_18 : decode b_Q_chain 18 = .ok (.ishl, 1) := by decide +kernel
theorem d_Q_chain_19 : decode b_Q_chain 19 = .ok (.iadd, 1) := by decide +kernel
theorem d_Q_chain_20 : decode b_Q_chain 20 = .ok (.istore_n 1, 1) := by decide +kernel
theorem d_Q_chain_21 : decode b_Q_chain 21 = .ok (.iinc 2 1, 3) := by decide +kernel
theorem d_Q_chain_24 : decode b_Q_chain 24 = .ok (.goto (-17), 3) := by decide +kernel
theorem d_Q_chain_27 : decode b_Q_chain 27 = .ok (.iload_n 1, 1) := by decide +kernel
theorem d_Q_chain_28 : decode b_Q_chain 28 = .ok (.ireturn, 1) := by decide +kernel
theorem d_Q_groupColumn_0 : decode b_Q_groupColumn 0 = .ok (.aload_n 0, 1) := by decide +kernel
theorem d_Q_groupColumn_1 : decode b_Q_groupColumn 1 = .ok (.getfield 50, 3) := by decide +kernel
theorem d_Q_groupColumn_4 : decode b_Q_groupColumn 4 = .ok (.ireturn, 1) := by decide +kernel
theorem d_Q_conditions_0 : decode b_Q_conditions 0 = .ok (.aload_n 0, 1) := by decide +kernel
theorem d_Q_conditions_1 : decode b_Q_conditions 1 = .ok (.getfield 55, 3) := by decide +kernel
theorem d_Q_conditions_4 : decode b_Q_conditions 4 = .ok (.ireturn, 1) := by decide +kernel
theorem d_Q_answerFor_0 : decode b_Q_answerFor 0 = .ok (.aload_n 0, 1) := by decide +kernel
theorem d_Q_answerFor_1 : decode b_Q_answerFor 1 = .ok (.getfield 50, 3) := by decide +kernel
theorem d_Q_answerFor_4 : decode b_Q_answerFor 4 = .ok (.bipush (-2), 2) := by decide +kernel
theorem d_Q_answerFor_6 : decode b_Q_answerFor 6 = .ok (.if_icmp .ne 18, 3) := by decide +kernel
theorem d_Q_answerFor_9 : decode b_Q_answerFor 9 = .ok (.iload_n 2, 1) := by decide +kernel
theorem d_Q_answerFor_10 : decode b_Q_answerFor 10 = .ok (.ifCond .ne 12, 3) := by decide +kernel
theorem d_Q_answerFor_13 : decode b_Q_answerFor 13 = .ok (.aload_n 0, 1) := by decide +kernel
theorem d_Q_answerFor_14 : decode b_Q_answerFor 14 = .ok (.aload_n 1, 1) := by decide +kernel
theorem d_Q_answerFor_15 : decode b_Q_answerFor 15 = .ok (.iconst (-1), 1) := by decide +kernel
theorem d_Q_answerFor_16 : decode b_Q_answerFor 16 = .ok (.invokevirtual 68, 3) := by decide +kernel
theorem d_Q_answerFor_19 : decode b_Q_answerFor 19 = .ok (.goto 4, 3) := by decide +kernel
theorem d_Q_answerFor_22 : decode b_Q_answerFor 22 = .ok (.lconst 0, 1) := by decide +kernel
theorem d_Q_answerFor_23 : decode b_Q_answerFor 23 = .ok (.lreturn, 1) := by decide +kernel
theorem d_Q_answerFor_24 : decode b_Q_answerFor 24 = .ok (.aload_n 0, 1) := by decide +kernel
theorem d_Q_answerFor_25 : decode b_Q_answerFor 25 = .ok (.aload_n 1, 1) := by decide +kernel
theorem d_Q_answerFor_26 : decode b_Q_answerFor 26 = .ok (.iload_n 2, 1) := by decide +kernel
theorem d_Q_answerFor_27 : decode b_Q_answerFor 27 = .ok (.invokevirtual 68, 3) := by decide +kernel
theorem d_Q_answerFor_30 : decode b_Q_answerFor 30 = .ok (.lreturn, 1) := by decide +kernel
theorem d_Q_sumOver_0 : decode b_Q_sumOver 0 = .ok (.lconst 0, 1) := by decide +kernel
theorem d_Q_sumOver_1 : decode b_Q_sumOver 1 = .ok (.lstore_n 3, 1) := by decide +kernel
theorem d_Q_sumOver_2 : decode b_Q_sumOver 2 = .ok (.iconst 0, 1) := by decide +kernel
theorem d_Q_sumOver_3 : decode b_Q_sumOver 3 = .ok (.istore 5, 2) := by decide +kernel
theorem d_Q_sumOver_5 : decode b_Q_sumOver 5 = .ok (.iload 5, 2) := by decide +kernel
theorem d_Q_sumOver_7 : decode b_Q_sumOver 7 = .ok (.bipush 81, 2) := by decide +kernel
theorem d_Q_sumOver_9 : decode b_Q_sumOver 9 = .ok (.if_icmp .ge 40, 3) := by decide +kernel
theorem d_Q_sumOver_12 : decode b_Q_sumOver 12 = .ok (.aload_n 0, 1) := by decide +kernel
theorem d_Q_sumOver_13 : decode b_Q_sumOver 13 = .ok (.getfield 18, 3) := by decide +kernel
theorem d_Q_sumOver_16 : decode b_Q_sumOver 16 = .ok (.iload 5, 2) := by decide +kernel
theorem d_Q_sumOver_18 : decode b_Q_sumOver 18 = .ok (.invokevirtual 72, 3) := by decide +kernel
theorem d_Q_sumOver_21 : decode b_Q_sumOver 21 = .ok (.istore 6, 2) := by decide +kernel
theorem d_Q_sumOver_23 : decode b_Q_sumOver 23 = .ok (.iload 6, 2) := by decide +kernel
theorem d_Q_sumOver_25 : decode b_Q_sumOver 25 = .ok (.ifCond .eq 18, 3) := by decide +kernel
theorem d_Q_sumOver_28 : decode b_Q_sumOver 28 = .ok (.lload_n 3, 1) := by decide +kernel
theorem d_Q_sumOver_29 : decode b_Q_sumOver 29 = .ok (.iload 6, 2) := by decide +kernel
theorem d_Q_sumOver_31 : decode b_Q_sumOver 31 = .ok (.i2l, 1) := by decide +kernel
theorem d_Q_sumOver_32 : decode b_Q_sumOver 32 = .ok (.aload_n 0, 1) := by decide +kernel
theorem d_Q_sumOver_33 : decode b_Q_sumOver 33 = .ok (.aload_n 1, 1) := by decide +kernel
theorem d_Q_sumOver_34 : decode b_Q_sumOver 34 = .ok (.iload 5, 2) := by decide +kernel
theorem d_Q_sumOver_36 : decode b_Q_sumOver 36 = .ok (.iload_n 2, 1) := by decide +kernel
theorem d_Q_sumOver_37 : decode b_Q_sumOver 37 = .ok (.invokevirtual 75, 3) := by decide +kernel
theorem d_Q_sumOver_40 : decode b_Q_sumOver 40 = .ok (.lmul, 1) := by decide +kernel
theorem d_Q_sumOver_41 : decode b_Q_sumOver 41 = .ok (.ladd, 1) := by decide +kernel
theorem d_Q_sumOver_42 : decode b_Q_sumOver 42 = .ok (.lstore_n 3, 1) := by decide +kernel
theorem d_Q_sumOver_43 : decode b_Q_sumOver 43 = .ok (.iinc 5 1, 3) := by decide +kernel
theorem d_Q_sumOver_46 : decode b_Q_sumOver 46 = .ok (.goto (-41), 3) := by decide +kernel
theorem d_Q_sumOver_49 : decode b_Q_sumOver 49 = .ok (.lload_n 3, 1) := by decide +kernel
theorem d_Q_sumOver_50 : decode b_Q_sumOver 50 = .ok (.lreturn, 1) := by decide +kernel
theorem d_Q_sumOfPowers_0 : decode b_Q_sumOfPowers 0 = .ok (.aload_n 0, 1) := by decide +kernel
theorem d_Q_sumOfPowers_1 : decode b_Q_sumOfPowers 1 = .ok (.getfield 22, 3) := by decide +kernel
theorem d_Q_sumOfPowers_4 : decode b_Q_sumOfPowers 4 = .ok (.astore 4, 2) := by decide +kernel
theorem d_Q_sumOfPowers_6 : decode b_Q_sumOfPowers 6 = .ok (.aload_n 0, 1) := by decide +kernel
theorem d_Q_sumOfPowers_7 : decode b_Q_sumOfPowers 7 = .ok (.getfield 26, 3) := by decide +kernel
theorem d_Q_sumOfPowers_10 : decode b_Q_sumOfPowers 10 = .ok (.astore 5, 2) := by decide +kernel
theorem d_Q_sumOfPowers_12 : decode b_Q_sumOfPowers 12 = .ok (.iconst 0, 1) := by decide +kernel
theorem d_Q_sumOfPowers_13 : decode b_Q_sumOfPowers 13 = .ok (.istore 6, 2) := by decide +kernel
theorem d_Q_sumOfPowers_15 : decode b_Q_sumOfPowers 15 = .ok (.iload 6, 2) := by decide +kernel
theorem d_Q_sumOfPowers_17 : decode b_Q_sumOfPowers 17 = .ok (.bipush 6, 2) := by decide +kernel
theorem d_Q_sumOfPowers_19 : decode b_Q_sumOfPowers 19 = .ok (.if_icmp .ge 26, 3) := by decide +kernel
theorem d_Q_sumOfPowers_22 : decode b_Q_sumOfPowers 22 = .ok (.aload 4, 2) := by decide +kernel
theorem d_Q_sumOfPowers_24 : decode b_Q_sumOfPowers 24 = .ok (.iload 6, 2) := by decide +kernel
theorem d_Q_sumOfPowers_26 : decode b_Q_sumOfPowers 26 = .ok (.aload_n 0, 1) := by decide +kernel
theorem d_Q_sumOfPowers_27 : decode b_Q_sumOfPowers 27 = .ok (.aload_n 0, 1) := by decide +kernel
theorem d_Q_sumOfPowers_28 : decode b_Q_sumOfPowers 28 = .ok (.getfield 39, 3) := by decide +kernel
theorem d_Q_sumOfPowers_31 : decode b_Q_sumOfPowers 31 = .ok (.iload 6, 2) := by decide +kernel
theorem d_Q_sumOfPowers_33 : decode b_Q_sumOfPowers 33 = .ok (.iload_n 2, 1) := by decide +kernel
theorem d_Q_sumOfPowers_34 : decode b_Q_sumOfPowers 34 = .ok (.iload_n 3, 1) := by decide +kernel
theorem d_Q_sumOfPowers_35 : decode b_Q_sumOfPowers 35 = .ok (.invokevirtual 79, 3) := by decide +kernel
theorem d_Q_sumOfPowers_38 : decode b_Q_sumOfPowers 38 = .ok (.lastore, 1) := by decide +kernel
theorem d_Q_sumOfPowers_39 : decode b_Q_sumOfPowers 39 = .ok (.iinc 6 1, 3) := by decide +kernel
theorem d_Q_sumOfPowers_42 : decode b_Q_sumOfPowers 42 = .ok (.goto (-27), 3) := by decide +kernel
theorem d_Q_sumOfPowers_45 : decode b_Q_sumOfPowers 45 = .ok (.aload_n 0, 1) := by decide +kernel
theorem d_Q_sumOfPowers_46 : decode b_Q_sumOfPowers 46 = .ok (.getfield 39, 3) := by decide +kernel
theorem d_Q_sumOfPowers_49 : decode b_Q_sumOfPowers 49 = .ok (.istore 6, 2) := by decide +kernel
theorem d_Q_sumOfPowers_51 : decode b_Q_sumOfPowers 51 = .ok (.iload 6, 2) := by decide +kernel
theorem d_Q_sumOfPowers_53 : decode b_Q_sumOfPowers 53 = .ok (.aload_n 0, 1) := by decide +kernel
theorem d_Q_sumOfPowers_54 : decode b_Q_sumOfPowers 54 = .ok (.getfield 45, 3) := by decide +kernel
theorem d_Q_sumOfPowers_57 : decode b_Q_sumOfPowers 57 = .ok (.if_icmp .gt 80, 3) := by decide +kernel
theorem d_Q_sumOfPowers_60 : decode b_Q_sumOfPowers 60 = .ok (.iconst 0, 1) := by decide +kernel
theorem d_Q_sumOfPowers_61 : decode b_Q_sumOfPowers 61 = .ok (.istore 7, 2) := by decide +kernel
theorem d_Q_sumOfPowers_63 : decode b_Q_sumOfPowers 63 = .ok (.iload 7, 2) := by decide +kernel
theorem d_Q_sumOfPowers_65 : decode b_Q_sumOfPowers 65 = .ok (.bipush 6, 2) := by decide +kernel
theorem d_Q_sumOfPowers_67 : decode b_Q_sumOfPowers 67 = .ok (.if_icmp .ge 52, 3) := by decide +kernel
theorem d_Q_sumOfPowers_70 : decode b_Q_sumOfPowers 70 = .ok (.aload_n 0, 1) := by decide +kernel
theorem d_Q_sumOfPowers_71 : decode b_Q_sumOfPowers 71 = .ok (.iload 6, 2) := by decide +kernel
theorem d_Q_sumOfPowers_73 : decode b_Q_sumOfPowers 73 = .ok (.iconst 1, 1) := by decide +kernel
theorem d_Q_sumOfPowers_74 : decode b_Q_sumOfPowers 74 = .ok (.iadd, 1) := by decide +kernel
theorem d_Q_sumOfPowers_75 : decode b_Q_sumOfPowers 75 = .ok (.iload 7, 2) := by decide +kernel
theorem d_Q_sumOfPowers_77 : decode b_Q_sumOfPowers 77 = .ok (.iload_n 2, 1) := by decide +kernel
theorem d_Q_sumOfPowers_78 : decode b_Q_sumOfPowers 78 = .ok (.iload_n 3, 1) := by decide +kernel
theorem d_Q_sumOfPowers_79 : decode b_Q_sumOfPowers 79 = .ok (.invokevirtual 79, 3) := by decide +kernel
theorem d_Q_sumOfPowers_82 : decode b_Q_sumOfPowers 82 = .ok (.lstore 8, 2) := by decide +kernel
theorem d_Q_sumOfPowers_84 : decode b_Q_sumOfPowers 84 = .ok (.aload 5, 2) := by decide +kernel
theorem d_Q_sumOfPowers_86 : decode b_Q_sumOfPowers 86 = .ok (.iload 7, 2) := by decide +kernel
theorem d_Q_sumOfPowers_88 : decode b_Q_sumOfPowers 88 = .ok (.lload 8, 2) := by decide +kernel
theorem d_Q_sumOfPowers_90 : decode b_Q_sumOfPowers 90 = .ok (.lconst 0, 1) := by decide +kernel
theorem d_Q_sumOfPowers_91 : decode b_Q_sumOfPowers 91 = .ok (.lcmp, 1) := by decide +kernel
theorem d_Q_sumOfPowers_92 : decode b_Q_sumOfPowers 92 = .ok (.ifCond .ne 7, 3) := by decide +kernel
theorem d_Q_sumOfPowers_95 : decode b_Q_sumOfPowers 95 = .ok (.lconst 0, 1) := by decide +kernel
theorem d_Q_sumOfPowers_96 : decode b_Q_sumOfPowers 96 = .ok (.goto 16, 3) := by decide +kernel
theorem d_Q_sumOfPowers_99 : decode b_Q_sumOfPowers 99 = .ok (.lload 8, 2) := by decide +kernel
theorem d_Q_sumOfPowers_101 : decode b_Q_sumOfPowers 101 = .ok (.aload_n 1, 1) := by decide +kernel
theorem d_Q_sumOfPowers_102 : decode b_Q_sumOfPowers 102 = .ok (.iload 6, 2) := by decide +kernel
theorem d_Q_sumOfPowers_104 : decode b_Q_sumOfPowers 104 = .ok (.aload 4, 2) := by decide +kernel
theorem d_Q_sumOfPowers_106 : decode b_Q_sumOfPowers 106 = .ok (.iload 7, 2) := by decide +kernel
theorem d_Q_sumOfPowers_108 : decode b_Q_sumOfPowers 108 = .ok (.invokestatic 83, 3) := by decide +kernel
theorem d_Q_sumOfPowers_111 : decode b_Q_sumOfPowers 111 = .ok (.lmul, 1) := by decide +kernel
theorem d_Q_sumOfPowers_112 : decode b_Q_sumOfPowers 112 = .ok (.lastore, 1) := by decide +kernel
theorem d_Q_sumOfPowers_113 : decode b_Q_sumOfPowers 113 = .ok (.iinc 7 1, 3) := by decide +kernel
theorem d_Q_sumOfPowers_116 : decode b_Q_sumOfPowers 116 = .ok (.goto (-53), 3) := by decide +kernel
theorem d_Q_sumOfPowers_119 : decode b_Q_sumOfPowers 119 = .ok (.aload 4, 2) := by decide +kernel
theorem d_Q_sumOfPowers_121 : decode b_Q_sumOfPowers 121 = .ok (.astore 7, 2) := by decide +kernel
theorem d_Q_sumOfPowers_123 : decode b_Q_sumOfPowers 123 = .ok (.aload 5, 2) := by decide +kernel
theorem d_Q_sumOfPowers_125 : decode b_Q_sumOfPowers 125 = .ok (.astore 4, 2) := by decide +kernel
theorem d_Q_sumOfPowers_127 : decode b_Q_sumOfPowers 127 = .ok (.aload 7, 2) := by decide +kernel
theorem d_Q_sumOfPowers_129 : decode b_Q_sumOfPowers 129 = .ok (.astore 5, 2) := by decide +kernel
theorem d_Q_sumOfPowers_131 : decode b_Q_sumOfPowers 131 = .ok (.iinc 6 1, 3) := by decide +kernel
theorem d_Q_sumOfPowers_134 : decode b_Q_sumOfPowers 134 = .ok (.goto (-83), 3) := by decide +kernel
theorem d_Q_sumOfPowers_137 : decode b_Q_sumOfPowers 137 = .ok (.lconst 0, 1) := by decide +kernel
theorem d_Q_sumOfPowers_138 : decode b_Q_sumOfPowers 138 = .ok (.lstore 6, 2) := by decide +kernel
theorem d_Q_sumOfPowers_140 : decode b_Q_sumOfPowers 140 = .ok (.iconst 0, 1) := by decide +kernel
theorem d_Q_sumOfPowers_141 : decode b_Q_sumOfPowers 141 = .ok (.istore 8, 2) := by decide +kernel
theorem d_Q_sumOfPowers_143 : decode b_Q_sumOfPowers 143 = .ok (.iload 8, 2) := by decide +kernel
theorem d_Q_sumOfPowers_145 : decode b_Q_sumOfPowers 145 = .ok (.bipush 6, 2) := by decide +kernel
theorem d_Q_sumOfPowers_147 : decode b_Q_sumOfPowers 147 = .ok (.if_icmp .ge 19, 3) := by decide +kernel
theorem d_Q_sumOfPowers_150 : decode b_Q_sumOfPowers 150 = .ok (.lload 6, 2) := by decide +kernel
theorem d_Q_sumOfPowers_152 : decode b_Q_sumOfPowers 152 = .ok (.aload 4, 2) := by decide +kernel
theorem d_Q_sumOfPowers_154 : decode b_Q_sumOfPowers 154 = .ok (.iload 8, 2) := by decide +kernel
theorem d_Q_sumOfPowers_156 : decode b_Q_sumOfPowers 156 = .ok (.laload, 1) := by decide +kernel
theorem d_Q_sumOfPowers_157 : decode b_Q_sumOfPowers 157 = .ok (.ladd, 1) := by decide +kernel
theorem d_Q_sumOfPowers_158 : decode b_Q_sumOfPowers 158 = .ok (.lstore 6, 2) := by decide +kernel
theorem d_Q_sumOfPowers_160 : decode b_Q_sumOfPowers 160 = .ok (.iinc 8 1, 3) := by decide +kernel
theorem d_Q_sumOfPowers_163 : decode b_Q_sumOfPowers 163 = .ok (.goto (-20), 3) := by decide +kernel
theorem d_Q_sumOfPowers_166 : decode b_Q_sumOfPowers 166 = .ok (.lload 6, 2) := by decide +kernel
theorem d_Q_sumOfPowers_168 : decode b_Q_sumOfPowers 168 = .ok (.lreturn, 1) := by decide +kernel
theorem d_Q_joined_0 : decode b_Q_joined 0 = .ok (.lconst 0, 1) := by decide +kernel
theorem d_Q_joined_1 : decode b_Q_joined 1 = .ok (.lstore 4, 2) := by decide +kernel
theorem d_Q_joined_3 : decode b_Q_joined 3 = .ok (.iconst 0, 1) := by decide +kernel
theorem d_Q_joined_4 : decode b_Q_joined 4 = .ok (.istore 6, 2) := by decide +kernel
theorem d_Q_joined_6 : decode b_Q_joined 6 = .ok (.iload 6, 2) := by decide +kernel
theorem d_Q_joined_8 : decode b_Q_joined 8 = .ok (.bipush 6, 2) := by decide +kernel
theorem d_Q_joined_10 : decode b_Q_joined 10 = .ok (.if_icmp .ge 31, 3) := by decide +kernel
theorem d_Q_joined_13 : decode b_Q_joined 13 = .ok (.lload 4, 2) := by decide +kernel
theorem d_Q_joined_15 : decode b_Q_joined 15 = .ok (.aload_n 2, 1) := by decide +kernel
theorem d_Q_joined_16 : decode b_Q_joined 16 = .ok (.iload 6, 2) := by decide +kernel
theorem d_Q_joined_18 : decode b_Q_joined 18 = .ok (.laload, 1) := by decide +kernel
theorem d_Q_joined_19 : decode b_Q_joined 19 = .ok (.aload_n 0, 1) := by decide +kernel
theorem d_Q_joined_20 : decode b_Q_joined 20 = .ok (.iload_n 1, 1) := by decide +kernel
theorem d_Q_joined_21 : decode b_Q_joined 21 = .ok (.iload 6, 2) := by decide +kernel
theorem d_Q_joined_23 : decode b_Q_joined 23 = .ok (.iload_n 3, 1) := by decide +kernel
theorem d_Q_joined_24 : decode b_Q_joined 24 = .ok (.invokestatic 87, 3) := by decide +kernel
theorem d_Q_joined_27 : decode b_Q_joined 27 = .ok (.invokevirtual 93, 3) := by decide +kernel
theorem d_Q_joined_30 : decode b_Q_joined 30 = .ok (.i2l, 1) := by decide +kernel
theorem d_Q_joined_31 : decode b_Q_joined 31 = .ok (.lmul, 1) := by decide +kernel
theorem d_Q_joined_32 : decode b_Q_joined 32 = .ok (.ladd, 1) := by decide +kernel
theorem d_Q_joined_33 : decode b_Q_joined 33 = .ok (.lstore 4, 2) := by decide +kernel
theorem d_Q_joined_35 : decode b_Q_joined 35 = .ok (.iinc 6 1, 3) := by decide +kernel
theorem d_Q_joined_38 : decode b_Q_joined 38 = .ok (.goto (-32), 3) := by decide +kernel
theorem d_Q_joined_41 : decode b_Q_joined 41 = .ok (.lload 4, 2) := by decide +kernel
theorem d_Q_joined_43 : decode b_Q_joined 43 = .ok (.lreturn, 1) := by decide +kernel
theorem d_Q_share_0 : decode b_Q_share 0 = .ok (.aload_n 0, 1) := by decide +kernel
theorem d_Q_share_1 : decode b_Q_share 1 = .ok (.getfield 9, 3) := by decide +kernel
theorem d_Q_share_4 : decode b_Q_share 4 = .ok (.iload_n 1, 1) := by decide +kernel
theorem d_Q_share_5 : decode b_Q_share 5 = .ok (.iaload, 1) := by decide +kernel
theorem d_Q_share_6 : decode b_Q_share 6 = .ok (.iload_n 2, 1) := by decide +kernel
theorem d_Q_share_7 : decode b_Q_share 7 = .ok (.ishr, 1) := by decide +kernel
theorem d_Q_share_8 : decode b_Q_share 8 = .ok (.iconst 1, 1) := by decide +kernel
theorem d_Q_share_9 : decode b_Q_share 9 = .ok (.iand, 1) := by decide +kernel
theorem d_Q_share_10 : decode b_Q_share 10 = .ok (.ifCond .ne 5, 3) := by decide +kernel
theorem d_Q_share_13 : decode b_Q_share 13 = .ok (.lconst 0, 1) := by decide +kernel
theorem d_Q_share_14 : decode b_Q_share 14 = .ok (.lreturn, 1) := by decide +kernel
theorem d_Q_share_15 : decode b_Q_share 15 = .ok (.iload_n 1, 1) := by decide +kernel
theorem d_Q_share_16 : decode b_Q_share 16 = .ok (.aload_n 0, 1) := by decide +kernel
theorem d_Q_share_17 : decode b_Q_share 17 = .ok (.getfield 50, 3) := by decide +kernel
theorem d_Q_share_20 : decode b_Q_share 20 = .ok (.if_icmp .ne 17, 3) := by decide +kernel
theorem d_Q_share_23 : decode b_Q_share 23 = .ok (.iload 4, 2) := by decide +kernel
theorem d_Q_share_25 : decode b_Q_share 25 = .ok (.iconst (-1), 1) := by decide +kernel
theorem d_Q_share_26 : decode b_Q_share 26 = .ok (.if_icmp .eq 11, 3) := by decide +kernel
theorem d_Q_share_29 : decode b_Q_share 29 = .ok (.iload_n 2, 1) := by decide +kernel
theorem d_Q_share_30 : decode b_Q_share 30 = .ok (.iload 4, 2) := by decide +kernel
theorem d_Q_share_32 : decode b_Q_share 32 = .ok (.if_icmp .eq 5, 3) := by decide +kernel
theorem d_Q_share_35 : decode b_Q_share 35 = .ok (.lconst 0, 1) := by decide +kernel
theorem d_Q_share_36 : decode b_Q_share 36 = .ok (.lreturn, 1) := by decide +kernel
theorem d_Q_share_37 : decode b_Q_share 37 = .ok (.lconst 1, 1) := by decide +kernel
theorem d_Q_share_38 : decode b_Q_share 38 = .ok (.lstore 5, 2) := by decide +kernel
theorem d_Q_share_40 : decode b_Q_share 40 = .ok (.iload_n 3, 1) := by decide +kernel
theorem d_Q_share_41 : decode b_Q_share 41 = .ok (.iload_n 1, 1) := by decide +kernel
theorem d_Q_share_42 : decode b_Q_share 42 = .ok (.invokestatic 94, 3) := by decide +kernel
theorem d_Q_share_45 : decode b_Q_share 45 = .ok (.istore 7, 2) := by decide +kernel
theorem d_Q_share_47 : decode b_Q_share 47 = .ok (.iconst 0, 1) := by decide +kernel
theorem d_Q_share_48 : decode b_Q_share 48 = .ok (.istore 8, 2) := by decide +kernel
theorem d_Q_share_50 : decode b_Q_share 50 = .ok (.iload 8, 2) := by decide +kernel
theorem d_Q_share_52 : decode b_Q_share 52 = .ok (.iload 7, 2) := by decide +kernel
theorem d_Q_share_54 : decode b_Q_share 54 = .ok (.if_icmp .ge 16, 3) := by decide +kernel
theorem d_Q_share_57 : decode b_Q_share 57 = .ok (.lload 5, 2) := by decide +kernel
theorem d_Q_share_59 : decode b_Q_share 59 = .ok (.iload_n 2, 1) := by decide +kernel
theorem d_Q_share_60 : decode b_Q_share 60 = .ok (.i2l, 1) := by decide +kernel
theorem d_Q_share_61 : decode b_Q_share 61 = .ok (.lmul, 1) := by decide +kernel
theorem d_Q_share_62 : decode b_Q_share 62 = .ok (.lstore 5, 2) := by decide +kernel
theorem d_Q_share_64 : decode b_Q_share 64 = .ok (.iinc 8 1, 3) := by decide +kernel
theorem d_Q_share_67 : decode b_Q_share 67 = .ok (.goto (-17), 3) := by decide +kernel
theorem d_Q_share_70 : decode b_Q_share 70 = .ok (.lload 5, 2) := by decide +kernel
theorem d_Q_share_72 : decode b_Q_share 72 = .ok (.lreturn, 1) := by decide +kernel
theorem d_R_init_0 : decode b_R_init 0 = .ok (.aload_n 0, 1) := by decide +kernel
theorem d_R_init_1 : decode b_R_init 1 = .ok (.invokespecial 3, 3) := by decide +kernel
theorem d_R_init_4 : decode b_R_init 4 = .ok (.aload_n 0, 1) := by decide +kernel
theorem d_R_init_5 : decode b_R_init 5 = .ok (.bipush 108, 2) := by decide +kernel
theorem d_R_init_7 : decode b_R_init 7 = .ok (.newarray .int, 2) := by decide +kernel
theorem d_R_init_9 : decode b_R_init 9 = .ok (.putfield 9, 3) := by decide +kernel
theorem d_R_init_12 : decode b_R_init 12 = .ok (.aload_n 0, 1) := by decide +kernel
theorem d_R_init_13 : decode b_R_init 13 = .ok (.sipush 512, 3) := by decide +kernel
theorem d_R_init_16 : decode b_R_init 16 = .ok (.newarray .int, 2) := by decide +kernel
theorem d_R_init_18 : decode b_R_init 18 = .ok (.putfield 15, 3) := by decide +kernel
theorem d_R_init_21 : decode b_R_init 21 = .ok (.aload_n 0, 1) := by decide +kernel
theorem d_R_init_22 : decode b_R_init 22 = .ok (.sipush 512, 3) := by decide +kernel
theorem d_R_init_25 : decode b_R_init 25 = .ok (.newarray .int, 2) := by decide +kernel
theorem d_R_init_27 : decode b_R_init 27 = .ok (.putfield 18, 3) := by decide +kernel
theorem d_R_init_30 : decode b_R_init 30 = .ok (.return_, 1) := by decide +kernel
theorem d_R_placeOf_0 : decode b_R_placeOf 0 = .ok (.iload_n 0, 1) := by decide +kernel
theorem d_R_placeOf_1 : decode b_R_placeOf 1 = .ok (.bipush 6, 2) := by decide +kernel
theorem d_R_placeOf_3 : decode b_R_placeOf 3 = .ok (.imul, 1) := by decide +kernel
theorem d_R_placeOf_4 : decode b_R_placeOf 4 = .ok (.iload_n 1, 1) := by decide +kernel
theorem d_R_placeOf_5 : decode b_R_placeOf 5 = .ok (.iadd, 1) := by decide +kernel
theorem d_R_placeOf_6 : decode b_R_placeOf 6 = .ok (.bipush 6, 2) := by decide +kernel
theorem d_R_placeOf_8 : decode b_R_placeOf 8 = .ok (.imul, 1) := by decide +kernel
theorem d_R_placeOf_9 : decode b_R_placeOf 9 = .ok (.iload_n 2, 1) := by decide +kernel
theorem d_R_placeOf_10 : decode b_R_placeOf 10 = .ok (.iadd, 1) := by decide +kernel
theorem d_R_placeOf_11 : decode b_R_placeOf 11 = .ok (.ireturn, 1) := by decide +kernel
theorem d_R_at_0 : decode b_R_at 0 = .ok (.aload_n 0, 1) := by decide +kernel
theorem d_R_at_1 : decode b_R_at 1 = .ok (.getfield 9, 3) := by decide +kernel
theorem d_R_at_4 : decode b_R_at 4 = .ok (.iload_n 1, 1) := by decide +kernel
theorem d_R_at_5 : decode b_R_at 5 = .ok (.iaload, 1) := by decide +kernel
theorem d_R_at_6 : decode b_R_at 6 = .ok (.ireturn, 1) := by decide +kernel
theorem d_R_raise_0 : decode b_R_raise 0 = .ok (.aload_n 0, 1) := by decide +kernel
theorem d_R_raise_1 : decode b_R_raise 1 = .ok (.getfield 9, 3) := by decide +kernel
theorem d_R_raise_4 : decode b_R_raise 4 = .ok (.iload_n 1, 1) := by decide +kernel
theorem d_R_raise_5 : decode b_R_raise 5 = .ok (.iaload, 1) := by decide +kernel
theorem d_R_raise_6 : decode b_R_raise 6 = .ok (.i2l, 1) := by decide +kernel
theorem d_R_raise_7 : decode b_R_raise 7 = .ok (.iload_n 2, 1) := by decide +kernel
theorem d_R_raise_8 : decode b_R_raise 8 = .ok (.i2l, 1) := by decide +kernel
theorem d_R_raise_9 : decode b_R_raise 9 = .ok (.ladd, 1) := by decide +kernel
theorem d_R_raise_10 : decode b_R_raise 10 = .ok (.lstore_n 3, 1) := by decide +kernel
theorem d_R_raise_11 : decode b_R_raise 11 = .ok (.lload_n 3, 1) := by decide +kernel
theorem d_R_raise_12 : decode b_R_raise 12 = .ok (.ldc2_w 21, 3) := by decide +kernel
theorem d_R_raise_15 : decode b_R_raise 15 = .ok (.lcmp, 1) := by decide +kernel
theorem d_R_raise_16 : decode b_R_raise 16 = .ok (.ifCond .gt 21, 3) := by decide +kernel
theorem d_R_raise_19 : decode b_R_raise 19 = .ok (.lload_n 3, 1) := by decide +kernel
theorem d_R_raise_20 : decode b_R_raise 20 = .ok (.ldc2_w 23, 3) := by decide +kernel
theorem d_R_raise_23 : decode b_R_raise 23 = .ok (.lcmp, 1) := by decide +kernel
theorem d_R_raise_24 : decode b_R_raise 24 = .ok (.ifCond .lt 13, 3) := by decide +kernel
theorem d_R_raise_27 : decode b_R_raise 27 = .ok (.aload_n 0, 1) := by decide +kernel
theorem d_R_raise_28 : decode b_R_raise 28 = .ok (.getfield 25, 3) := by decide +kernel
theorem d_R_raise_31 : decode b_R_raise 31 = .ok (.sipush 512, 3) := by decide +kernel
theorem d_R_raise_34 : decode b_R_raise 34 = .ok (.if_icmp .lt 5, 3) := by decide +kernel
theorem d_R_raise_37 : decode b_R_raise 37 = .ok (.iconst 0, 1) := by decide +kernel
theorem d_R_raise_38 : decode b_R_raise 38 = .ok (.ireturn, 1) := by decide +kernel
theorem d_R_raise_39 : decode b_R_raise 39 = .ok (.aload_n 0, 1) := by decide +kernel
theorem d_R_raise_40 : decode b_R_raise 40 = .ok (.getfield 9, 3) := by decide +kernel
theorem d_R_raise_43 : decode b_R_raise 43 = .ok (.iload_n 1, 1) := by decide +kernel
theorem d_R_raise_44 : decode b_R_raise 44 = .ok (.lload_n 3, 1) := by decide +kernel
theorem d_R_raise_45 : decode b_R_raise 45 = .ok (.l2i, 1) := by decide +kernel
theorem d_R_raise_46 : decode b_R_raise 46 = .ok (.iastore, 1) := by decide +kernel
theorem d_R_raise_47 : decode b_R_raise 47 = .ok (.aload_n 0, 1) := by decide +kernel
theorem d_R_raise_48 : decode b_R_raise 48 = .ok (.getfield 15, 3) := by decide +kernel
theorem d_R_raise_51 : decode b_R_raise 51 = .ok (.aload_n 0, 1) := by decide +kernel
theorem d_R_raise_52 : decode b_R_raise 52 = .ok (.getfield 25, 3) := by decide +kernel
theorem d_R_raise_55 : decode b_R_raise 55 = .ok (.iload_n 1, 1) := by decide +kernel
theorem d_R_raise_56 : decode b_R_raise 56 = .ok (.iastore, 1) := by decide +kernel
theorem d_R_raise_57 : decode b_R_raise 57 = .ok (.aload_n 0, 1) := by decide +kernel
theorem d_R_raise_58 : decode b_R_raise 58 = .ok (.getfield 18, 3) := by decide +kernel
theorem d_R_raise_61 : decode b_R_raise 61 = .ok (.aload_n 0, 1) := by decide +kernel
theorem d_R_raise_62 : decode b_R_raise 62 = .ok (.getfield 25, 3) := by decide +kernel
theorem d_R_raise_65 : decode b_R_raise 65 = .ok (.iload_n 2, 1) := by decide +kernel
theorem d_R_raise_66 : decode b_R_raise 66 = .ok (.iastore, 1) := by decide +kernel
theorem d_R_raise_67 : decode b_R_raise 67 = .ok (.aload_n 0, 1) := by decide +kernel
theorem d_R_raise_68 : decode b_R_raise 68 = .ok (.dup, 1) := by decide +kernel
theorem d_R_raise_69 : decode b_R_raise 69 = .ok (.getfield 25, 3) := by decide +kernel
theorem d_R_raise_72 : decode b_R_raise 72 = .ok (.iconst 1, 1) := by decide +kernel
theorem d_R_raise_73 : decode b_R_raise 73 = .ok (.iadd, 1) := by decide +kernel
theorem d_R_raise_74 : decode b_R_raise 74 = .ok (.putfield 25, 3) := by decide +kernel
theorem d_R_raise_77 : decode b_R_raise 77 = .ok (.iconst 1, 1) := by decide +kernel
theorem d_R_raise_78 : decode b_R_raise 78 = .ok (.ireturn, 1) := by decide +kernel
theorem d_R_takeBack_0 : decode b_R_takeBack 0 = .ok (.aload_n 0, 1) := by decide +kernel
theorem d_R_takeBack_1 : decode b_R_takeBack 1 = .ok (.getfield 25, 3) := by decide +kernel
theorem d_R_takeBack_4 : decode b_R_takeBack 4 = .ok (.ifCond .gt 5, 3) := by decide +kernel
theorem d_R_takeBack_7 : decode b_R_takeBack 7 = .ok (.iconst 0, 1) := by decide +kernel
theorem d_R_takeBack_8 : decode b_R_takeBack 8 = .ok (.ireturn, 1) := by decide +kernel
theorem d_R_takeBack_9 : decode b_R_takeBack 9 = .ok (.aload_n 0, 1) := by decide +kernel
theorem d_R_takeBack_10 : decode b_R_takeBack 10 = .ok (.dup, 1) := by decide +kernel
theorem d_R_takeBack_11 : decode b_R_takeBack 11 = .ok (.getfield 25, 3) := by decide +kernel
theorem d_R_takeBack_14 : decode b_R_takeBack 14 = .ok (.iconst 1, 1) := by decide +kernel
theorem d_R_takeBack_15 : decode b_R_takeBack 15 = .ok (.isub, 1) := by decide +kernel
theorem d_R_takeBack_16 : decode b_R_takeBack 16 = .ok (.putfield 25, 3) := by decide +kernel
theorem d_R_takeBack_19 : decode b_R_takeBack 19 = .ok (.aload_n 0, 1) := by decide +kernel
theorem d_R_takeBack_20 : decode b_R_takeBack 20 = .ok (.getfield 9, 3) := by decide +kernel
theorem d_R_takeBack_23 : decode b_R_takeBack 23 = .ok (.aload_n 0, 1) := by decide +kernel
theorem d_R_takeBack_24 : decode b_R_takeBack 24 = .ok (.getfield 15, 3) := by decide +kernel
theorem d_R_takeBack_27 : decode b_R_takeBack 27 = .ok (.aload_n 0, 1) := by decide +kernel
theorem d_R_takeBack_28 : decode b_R_takeBack 28 = .ok (.getfield 25, 3) := by decide +kernel
theorem d_R_takeBack_31 : decode b_R_takeBack 31 = .ok (.iaload, 1) := by decide +kernel
theorem d_R_takeBack_32 : decode b_R_takeBack 32 = .ok (.dup2, 1) := by decide +kernel
theorem d_R_takeBack_33 : decode b_R_takeBack 33 = .ok (.iaload, 1) := by decide +kernel
theorem d_R_takeBack_34 : decode b_R_takeBack 34 = .ok (.aload_n 0, 1) := by decide +kernel
theorem d_R_takeBack_35 : decode b_R_takeBack 35 = .ok (.getfield 18, 3) := by decide +kernel
theorem d_R_takeBack_38 : decode b_R_takeBack 38 = .ok (.aload_n 0, 1) := by decide +kernel
theorem d_R_takeBack_39 : decode b_R_takeBack 39 = .ok (.getfield 25, 3) := by decide +kernel
theorem d_R_takeBack_42 : decode b_R_takeBack 42 = .ok (.iaload, 1) := by decide +kernel
theorem d_R_takeBack_43 : decode b_R_takeBack 43 = .ok (.isub, 1) := by decide +kernel
theorem d_R_takeBack_44 : decode b_R_takeBack 44 = .ok (.iastore, 1) := by decide +kernel
theorem d_R_takeBack_45 : decode b_R_takeBack 45 = .ok (.iconst 1, 1) := by decide +kernel
theorem d_R_takeBack_46 : decode b_R_takeBack 46 = .ok (.ireturn, 1) := by decide +kernel
theorem d_R_changesLeft_0 : decode b_R_changesLeft 0 = .ok (.aload_n 0, 1) := by decide +kernel
theorem d_R_changesLeft_1 : decode b_R_changesLeft 1 = .ok (.getfield 25, 3) := by decide +kernel
theorem d_R_changesLeft_4 : decode b_R_changesLeft 4 = .ok (.ireturn, 1) := by decide +kernel
theorem d_R_filled_0 : decode b_R_filled 0 = .ok (.iconst 0, 1) := by decide +kernel
theorem d_R_filled_1 : decode b_R_filled 1 = .ok (.istore_n 1, 1) := by decide +kernel
theorem d_R_filled_2 : decode b_R_filled 2 = .ok (.iconst 0, 1) := by decide +kernel
theorem d_R_filled_3 : decode b_R_filled 3 = .ok (.istore_n 2, 1) := by decide +kernel
theorem d_R_filled_4 : decode b_R_filled 4 = .ok (.iload_n 2, 1) := by decide +kernel
theorem d_R_filled_5 : decode b_R_filled 5 = .ok (.aload_n 0, 1) := by decide +kernel
theorem d_R_filled_6 : decode b_R_filled 6 = .ok (.getfield 9, 3) := by decide +kernel
theorem d_R_filled_9 : decode b_R_filled 9 = .ok (.arraylength, 1) := by decide +kernel
theorem d_R_filled_10 : decode b_R_filled 10 = .ok (.if_icmp .ge 21, 3) := by decide +kernel
theorem d_R_filled_13 : decode b_R_filled 13 = .ok (.aload_n 0, 1) := by decide +kernel
theorem d_R_filled_14 : decode b_R_filled 14 = .ok (.getfield 9, 3) := by decide +kernel
theorem d_R_filled_17 : decode b_R_filled 17 = .ok (.iload_n 2, 1) := by decide +kernel
theorem d_R_filled_18 : decode b_R_filled 18 = .ok (.iaload, 1) := by decide +kernel
theorem d_R_filled_19 : decode b_R_filled 19 = .ok (.ifCond .eq 6, 3) := by decide +kernel
theorem d_R_filled_22 : decode b_R_filled 22 = .ok (.iinc 1 1, 3) := by decide +kernel
theorem d_R_filled_25 : decode b_R_filled 25 = .ok (.iinc 2 1, 3) := by decide +kernel
theorem d_R_filled_28 : decode b_R_filled 28 = .ok (.goto (-24), 3) := by decide +kernel
theorem d_R_filled_31 : decode b_R_filled 31 = .ok (.iload_n 1, 1) := by decide +kernel
theorem d_R_filled_32 : decode b_R_filled 32 = .ok (.ireturn, 1) := by decide +kernel
theorem d_T_init_0 : decode b_T_init 0 = .ok (.aload_n 0, 1) := by decide +kernel
theorem d_T_init_1 : decode b_T_init 1 = .ok (.invokespecial 1, 3) := by decide +kernel
theorem d_T_init_4 : decode b_T_init 4 = .ok (.aload_n 0, 1) := by decide +kernel
theorem d_T_init_5 : decode b_T_init 5 = .ok (.bipush 30, 2) := by decide +kernel
theorem d_T_init_7 : decode b_T_init 7 = .ok (.newarray .char, 2) := by decide +kernel
theorem d_T_init_9 : decode b_T_init 9 = .ok (.putfield 9, 3) := by decide +kernel
theorem d_T_init_12 : decode b_T_init 12 = .ok (.return_, 1) := by decide +kernel
theorem d_T_append_0 : decode b_T_append 0 = .ok (.aload_n 0, 1) := by decide +kernel
theorem d_T_append_1 : decode b_T_append 1 = .ok (.getfield 13, 3) := by decide +kernel
theorem d_T_append_4 : decode b_T_append 4 = .ok (.bipush 30, 2) := by decide +kernel
theorem d_T_append_6 : decode b_T_append 6 = .ok (.if_icmp .lt 5, 3) := by decide +kernel
theorem d_T_append_9 : decode b_T_append 9 = .ok (.iconst 0, 1) := by decide +kernel
theorem d_T_append_10 : decode b_T_append 10 = .ok (.ireturn, 1) := by decide +kernel
theorem d_T_append_11 : decode b_T_append 11 = .ok (.aload_n 0, 1) := by decide +kernel
theorem d_T_append_12 : decode b_T_append 12 = .ok (.getfield 9, 3) := by decide +kernel
theorem d_T_append_15 : decode b_T_append 15 = .ok (.aload_n 0, 1) := by decide +kernel
theorem d_T_append_16 : decode b_T_append 16 = .ok (.getfield 13, 3) := by decide +kernel
theorem d_T_append_19 : decode b_T_append 19 = .ok (.iload_n 1, 1) := by decide +kernel
theorem d_T_append_20 : decode b_T_append 20 = .ok (.castore, 1) := by decide +kernel
theorem d_T_append_21 : decode b_T_append 21 = .ok (.aload_n 0, 1) := by decide +kernel
theorem d_T_append_22 : decode b_T_append 22 = .ok (.dup, 1) := by decide +kernel
theorem d_T_append_23 : decode b_T_append 23 = .ok (.getfield 13, 3) := by decide +kernel
theorem d_T_append_26 : decode b_T_append 26 = .ok (.iconst 1, 1) := by decide +kernel
theorem d_T_append_27 : decode b_T_append 27 = .ok (.iadd, 1) := by decide +kernel
theorem d_T_append_28 : decode b_T_append 28 = .ok (.putfield 13, 3) := by decide +kernel
theorem d_T_append_31 : decode b_T_append 31 = .ok (.iconst 1, 1) := by decide +kernel
theorem d_T_append_32 : decode b_T_append 32 = .ok (.ireturn, 1) := by decide +kernel
theorem d_T_empty_0 : decode b_T_empty 0 = .ok (.aload_n 0, 1) := by decide +kernel
theorem d_T_empty_1 : decode b_T_empty 1 = .ok (.iconst 0, 1) := by decide +kernel
theorem d_T_empty_2 : decode b_T_empty 2 = .ok (.putfield 13, 3) := by decide +kernel
theorem d_T_empty_5 : decode b_T_empty 5 = .ok (.return_, 1) := by decide +kernel
theorem d_T_length_0 : decode b_T_length 0 = .ok (.aload_n 0, 1) := by decide +kernel
theorem d_T_length_1 : decode b_T_length 1 = .ok (.getfield 13, 3) := by decide +kernel
theorem d_T_length_4 : decode b_T_length 4 = .ok (.ireturn, 1) := by decide +kernel
theorem d_T_at_0 : decode b_T_at 0 = .ok (.iload_n 1, 1) := by decide +kernel
theorem d_T_at_1 : decode b_T_at 1 = .ok (.ifCond .lt 20, 3) := by decide +kernel
theorem d_T_at_4 : decode b_T_at 4 = .ok (.iload_n 1, 1) := by decide +kernel
theorem d_T_at_5 : decode b_T_at 5 = .ok (.aload_n 0, 1) := by decide +kernel
theorem d_T_at_6 : decode b_T_at 6 = .ok (.getfield 13, 3) := by decide +kernel
theorem d_T_at_9 : decode b_T_at 9 = .ok (.if_icmp .ge 12, 3) := by decide +kernel
theorem d_T_at_12 : decode b_T_at 12 = .ok (.aload_n 0, 1) := by decide +kernel
theorem d_T_at_13 : decode b_T_at 13 = .ok (.getfield 9, 3) := by decide +kernel
theorem d_T_at_16 : decode b_T_at 16 = .ok (.iload_n 1, 1) := by decide +kernel
theorem d_T_at_17 : decode b_T_at 17 = .ok (.caload, 1) := by decide +kernel
theorem d_T_at_18 : decode b_T_at 18 = .ok (.goto 4, 3) := by decide +kernel
theorem d_T_at_21 : decode b_T_at 21 = .ok (.iconst 0, 1) := by decide +kernel
theorem d_T_at_22 : decode b_T_at 22 = .ok (.ireturn, 1) := by decide +kernel
theorem d_T_isDigit_0 : decode b_T_isDigit 0 = .ok (.iload_n 0, 1) := by decide +kernel
theorem d_T_isDigit_1 : decode b_T_isDigit 1 = .ok (.bipush 48, 2) := by decide +kernel
theorem d_T_isDigit_3 : decode b_T_isDigit 3 = .ok (.if_icmp .lt 13, 3) := by decide +kernel
theorem d_T_isDigit_6 : decode b_T_isDigit 6 = .ok (.iload_n 0, 1) := by decide +kernel
theorem d_T_isDigit_7 : decode b_T_isDigit 7 = .ok (.bipush 57, 2) := by decide +kernel
theorem d_T_isDigit_9 : decode b_T_isDigit 9 = .ok (.if_icmp .gt 7, 3) := by decide +kernel
theorem d_T_isDigit_12 : decode b_T_isDigit 12 = .ok (.iconst 1, 1) := by decide +kernel
theorem d_T_isDigit_13 : decode b_T_isDigit 13 = .ok (.goto 4, 3) := by decide +kernel
theorem d_T_isDigit_16 : decode b_T_isDigit 16 = .ok (.iconst 0, 1) := by decide +kernel
theorem d_T_isDigit_17 : decode b_T_isDigit 17 = .ok (.ireturn, 1) := by decide +kernel
theorem d_T_relationOf_0 : decode b_T_relationOf 0 = .ok (.iload_n 0, 1) := by decide +kernel
theorem d_T_relationOf_1 : decode b_T_relationOf 1 = .ok (.bipush 82, 2) := by decide +kernel
theorem d_T_relationOf_3 : decode b_T_relationOf 3 = .ok (.if_icmp .lt 16, 3) := by decide +kernel
theorem d_T_relationOf_6 : decode b_T_relationOf 6 = .ok (.iload_n 0, 1) := by decide +kernel
theorem d_T_relationOf_7 : decode b_T_relationOf 7 = .ok (.bipush 84, 2) := by decide +kernel
theorem d_T_relationOf_9 : decode b_T_relationOf 9 = .ok (.if_icmp .gt 10, 3) := by decide +kernel
theorem d_T_relationOf_12 : decode b_T_relationOf 12 = .ok (.iload_n 0, 1) := by decide +kernel
theorem d_T_relationOf_13 : decode b_T_relationOf 13 = .ok (.bipush 82, 2) := by decide +kernel
theorem d_T_relationOf_15 : decode b_T_relationOf 15 = .ok (.isub, 1) := by decide +kernel
theorem d_T_relationOf_16 : decode b_T_relationOf 16 = .ok (.goto 4, 3) := by decide +kernel
theorem d_T_relationOf_19 : decode b_T_relationOf 19 = .ok (.iconst (-1), 1) := by decide +kernel
theorem d_T_relationOf_20 : decode b_T_relationOf 20 = .ok (.ireturn, 1) := by decide +kernel
theorem d_T_columnOf_0 : decode b_T_columnOf 0 = .ok (.iload_n 0, 1) := by decide +kernel
theorem d_T_columnOf_1 : decode b_T_columnOf 1 = .ok (.bipush 65, 2) := by decide +kernel
theorem d_T_columnOf_3 : decode b_T_columnOf 3 = .ok (.if_icmp .lt 16, 3) := by decide +kernel
theorem d_T_columnOf_6 : decode b_T_columnOf 6 = .ok (.iload_n 0, 1) := by decide +kernel
theorem d_T_columnOf_7 : decode b_T_columnOf 7 = .ok (.bipush 68, 2) := by decide +kernel
theorem d_T_columnOf_9 : decode b_T_columnOf 9 = .ok (.if_icmp .gt 10, 3) := by decide +kernel
theorem d_T_columnOf_12 : decode b_T_columnOf 12 = .ok (.iload_n 0, 1) := by decide +kernel
theorem d_T_columnOf_13 : decode b_T_columnOf 13 = .ok (.bipush 65, 2) := by decide +kernel
theorem d_T_columnOf_15 : decode b_T_columnOf 15 = .ok (.isub, 1) := by decide +kernel
theorem d_T_columnOf_16 : decode b_T_columnOf 16 = .ok (.goto 4, 3) := by decide +kernel
theorem d_T_columnOf_19 : decode b_T_columnOf 19 = .ok (.iconst (-1), 1) := by decide +kernel
theorem d_T_columnOf_20 : decode b_T_columnOf 20 = .ok (.ireturn, 1) := by decide +kernel
theorem d_A_fill_0 : decode b_A_fill 0 = .ok (.iconst 0, 1) := by decide +kernel
theorem d_A_fill_1 : decode b_A_fill 1 = .ok (.istore_n 2, 1) := by decide +kernel
theorem d_A_fill_2 : decode b_A_fill 2 = .ok (.aload_n 0, 1) := by decide +kernel
theorem d_A_fill_3 : decode b_A_fill 3 = .ok (.arraylength, 1) := by decide +kernel
theorem d_A_fill_4 : decode b_A_fill 4 = .ok (.istore_n 3, 1) := by decide +kernel
theorem d_A_fill_5 : decode b_A_fill 5 = .ok (.iload_n 2, 1) := by decide +kernel
theorem d_A_fill_6 : decode b_A_fill 6 = .ok (.iload_n 3, 1) := by decide +kernel
theorem d_A_fill_7 : decode b_A_fill 7 = .ok (.if_icmp .ge 13, 3) := by decide +kernel
theorem d_A_fill_10 : decode b_A_fill 10 = .ok (.aload_n 0, 1) := by decide +kernel
end
section
theorem d_A_fill_11 : decode b_A_fill 11 = .ok (.iload_n 2, 1) := by decide +kernel
theorem d_A_fill_12 : decode b_A_fill 12 = .ok (.iload_n 1, 1) := by decide +kernel
theorem d_A_fill_13 : decode b_A_fill 13 = .ok (.iastore, 1) := by decide +kernel
theorem d_A_fill_14 : decode b_A_fill 14 = .ok (.iinc 2 1, 3) := by decide +kernel
theorem d_A_fill_17 : decode b_A_fill 17 = .ok (.goto (-12), 3) := by decide +kernel
theorem d_A_fill_20 : decode b_A_fill 20 = .ok (.return_, 1) := by decide +kernel
end
section
theorem d_M_init_0 : decode b_M_init 0 = .ok (.aload_n 0, 1) := by decide +kernel
theorem d_M_init_1 : decode b_M_init 1 = .ok (.invokespecial 1, 3) := by decide +kernel
theorem d_M_init_4 : decode b_M_init 4 = .ok (.aload_n 0, 1) := by decide +kernel
theorem d_M_init_5 : decode b_M_init 5 = .ok (.bipush 108, 2) := by decide +kernel
theorem d_M_init_7 : decode b_M_init 7 = .ok (.newarray .int, 2) := by decide +kernel
theorem d_M_init_9 : decode b_M_init 9 = .ok (.putfield 7, 3) := by decide +kernel
theorem d_M_init_12 : decode b_M_init 12 = .ok (.aload_n 0, 1) := by decide +kernel
theorem d_M_init_13 : decode b_M_init 13 = .ok (.sipush 520, 3) := by decide +kernel
theorem d_M_init_16 : decode b_M_init 16 = .ok (.newarray .int, 2) := by decide +kernel
theorem d_M_init_18 : decode b_M_init 18 = .ok (.putfield 13, 3) := by decide +kernel
theorem d_M_init_21 : decode b_M_init 21 = .ok (.aload_n 0, 1) := by decide +kernel
theorem d_M_init_22 : decode b_M_init 22 = .ok (.sipush 520, 3) := by decide +kernel
theorem d_M_init_25 : decode b_M_init 25 = .ok (.newarray .int, 2) := by decide +kernel
theorem d_M_init_27 : decode b_M_init 27 = .ok (.putfield 16, 3) := by decide +kernel
theorem d_M_init_30 : decode b_M_init 30 = .ok (.aload_n 0, 1) := by decide +kernel
theorem d_M_init_31 : decode b_M_init 31 = .ok (.bipush 30, 2) := by decide +kernel
theorem d_M_init_33 : decode b_M_init 33 = .ok (.newarray .int, 2) := by decide +kernel
theorem d_M_init_35 : decode b_M_init 35 = .ok (.putfield 19, 3) := by decide +kernel
theorem d_M_init_38 : decode b_M_init 38 = .ok (.aload_n 0, 1) := by decide +kernel
theorem d_M_init_39 : decode b_M_init 39 = .ok (.bipush 10, 2) := by decide +kernel
theorem d_M_init_41 : decode b_M_init 41 = .ok (.newarray .int, 2) := by decide +kernel
theorem d_M_init_43 : decode b_M_init 43 = .ok (.putfield 22, 3) := by decide +kernel
theorem d_M_init_46 : decode b_M_init 46 = .ok (.aload_n 0, 1) := by decide +kernel
theorem d_M_init_47 : decode b_M_init 47 = .ok (.bipush 10, 2) := by decide +kernel
theorem d_M_init_49 : decode b_M_init 49 = .ok (.newarray .int, 2) := by decide +kernel
theorem d_M_init_51 : decode b_M_init 51 = .ok (.putfield 25, 3) := by decide +kernel
theorem d_M_init_54 : decode b_M_init 54 = .ok (.aload_n 0, 1) := by decide +kernel
theorem d_M_init_55 : decode b_M_init 55 = .ok (.bipush 10, 2) := by decide +kernel
theorem d_M_init_57 : decode b_M_init 57 = .ok (.newarray .int, 2) := by decide +kernel
theorem d_M_init_59 : decode b_M_init 59 = .ok (.putfield 28, 3) := by decide +kernel
theorem d_M_init_62 : decode b_M_init 62 = .ok (.aload_n 0, 1) := by decide +kernel
theorem d_M_init_63 : decode b_M_init 63 = .ok (.iconst 4, 1) := by decide +kernel
theorem d_M_init_64 : decode b_M_init 64 = .ok (.newarray .boolean, 2) := by decide +kernel
theorem d_M_init_66 : decode b_M_init 66 = .ok (.putfield 31, 3) := by decide +kernel
theorem d_M_init_69 : decode b_M_init 69 = .ok (.aload_n 0, 1) := by decide +kernel
theorem d_M_init_70 : decode b_M_init 70 = .ok (.iconst 4, 1) := by decide +kernel
theorem d_M_init_71 : decode b_M_init 71 = .ok (.newarray .int, 2) := by decide +kernel
theorem d_M_init_73 : decode b_M_init 73 = .ok (.putfield 35, 3) := by decide +kernel
theorem d_M_init_76 : decode b_M_init 76 = .ok (.aload_n 0, 1) := by decide +kernel
theorem d_M_init_77 : decode b_M_init 77 = .ok (.iconst 4, 1) := by decide +kernel
theorem d_M_init_78 : decode b_M_init 78 = .ok (.newarray .int, 2) := by decide +kernel
theorem d_M_init_80 : decode b_M_init 80 = .ok (.putfield 38, 3) := by decide +kernel
theorem d_M_init_83 : decode b_M_init 83 = .ok (.aload_n 0, 1) := by decide +kernel
theorem d_M_init_84 : decode b_M_init 84 = .ok (.iconst 4, 1) := by decide +kernel
theorem d_M_init_85 : decode b_M_init 85 = .ok (.newarray .int, 2) := by decide +kernel
theorem d_M_init_87 : decode b_M_init 87 = .ok (.putfield 41, 3) := by decide +kernel
theorem d_M_init_90 : decode b_M_init 90 = .ok (.aload_n 0, 1) := by decide +kernel
theorem d_M_init_91 : decode b_M_init 91 = .ok (.iconst 4, 1) := by decide +kernel
theorem d_M_init_92 : decode b_M_init 92 = .ok (.newarray .int, 2) := by decide +kernel
theorem d_M_init_94 : decode b_M_init 94 = .ok (.putfield 44, 3) := by decide +kernel
theorem d_M_init_97 : decode b_M_init 97 = .ok (.aload_n 0, 1) := by decide +kernel
theorem d_M_init_98 : decode b_M_init 98 = .ok (.bipush 40, 2) := by decide +kernel
theorem d_M_init_100 : decode b_M_init 100 = .ok (.newarray .int, 2) := by decide +kernel
theorem d_M_init_102 : decode b_M_init 102 = .ok (.putfield 47, 3) := by decide +kernel
theorem d_M_init_105 : decode b_M_init 105 = .ok (.aload_n 0, 1) := by decide +kernel
theorem d_M_init_106 : decode b_M_init 106 = .ok (.sipush 324, 3) := by decide +kernel
theorem d_M_init_109 : decode b_M_init 109 = .ok (.newarray .int, 2) := by decide +kernel
theorem d_M_init_111 : decode b_M_init 111 = .ok (.putfield 50, 3) := by decide +kernel
theorem d_M_init_114 : decode b_M_init 114 = .ok (.aload_n 0, 1) := by decide +kernel
theorem d_M_init_115 : decode b_M_init 115 = .ok (.sipush 729, 3) := by decide +kernel
theorem d_M_init_118 : decode b_M_init 118 = .ok (.newarray .int, 2) := by decide +kernel
theorem d_M_init_120 : decode b_M_init 120 = .ok (.putfield 53, 3) := by decide +kernel
theorem d_M_init_123 : decode b_M_init 123 = .ok (.aload_n 0, 1) := by decide +kernel
theorem d_M_init_124 : decode b_M_init 124 = .ok (.sipush 729, 3) := by decide +kernel
theorem d_M_init_127 : decode b_M_init 127 = .ok (.newarray .int, 2) := by decide +kernel
theorem d_M_init_129 : decode b_M_init 129 = .ok (.putfield 56, 3) := by decide +kernel
theorem d_M_init_132 : decode b_M_init 132 = .ok (.aload_n 0, 1) := by decide +kernel
theorem d_M_init_133 : decode b_M_init 133 = .ok (.bipush 9, 2) := by decide +kernel
theorem d_M_init_135 : decode b_M_init 135 = .ok (.newarray .boolean, 2) := by decide +kernel
theorem d_M_init_137 : decode b_M_init 137 = .ok (.putfield 59, 3) := by decide +kernel
theorem d_M_init_140 : decode b_M_init 140 = .ok (.aload_n 0, 1) := by decide +kernel
theorem d_M_init_141 : decode b_M_init 141 = .ok (.bipush 9, 2) := by decide +kernel
theorem d_M_init_143 : decode b_M_init 143 = .ok (.newarray .int, 2) := by decide +kernel
theorem d_M_init_145 : decode b_M_init 145 = .ok (.putfield 62, 3) := by decide +kernel
theorem d_M_init_148 : decode b_M_init 148 = .ok (.aload_n 0, 1) := by decide +kernel
theorem d_M_init_149 : decode b_M_init 149 = .ok (.bipush 9, 2) := by decide +kernel
theorem d_M_init_151 : decode b_M_init 151 = .ok (.newarray .int, 2) := by decide +kernel
theorem d_M_init_153 : decode b_M_init 153 = .ok (.putfield 65, 3) := by decide +kernel
theorem d_M_init_156 : decode b_M_init 156 = .ok (.aload_n 0, 1) := by decide +kernel
theorem d_M_init_157 : decode b_M_init 157 = .ok (.bipush 81, 2) := by decide +kernel
theorem d_M_init_159 : decode b_M_init 159 = .ok (.newarray .int, 2) := by decide +kernel
theorem d_M_init_161 : decode b_M_init 161 = .ok (.putfield 68, 3) := by decide +kernel
theorem d_M_init_164 : decode b_M_init 164 = .ok (.aload_n 0, 1) := by decide +kernel
theorem d_M_init_165 : decode b_M_init 165 = .ok (.sipush 625, 3) := by decide +kernel
theorem d_M_init_168 : decode b_M_init 168 = .ok (.newarray .int, 2) := by decide +kernel
theorem d_M_init_170 : decode b_M_init 170 = .ok (.putfield 71, 3) := by decide +kernel
theorem d_M_init_173 : decode b_M_init 173 = .ok (.return_, 1) := by decide +kernel
theorem d_M_in_0 : decode b_M_in 0 = .ok (.iload_n 0, 1) := by decide +kernel
theorem d_M_in_1 : decode b_M_in 1 = .ok (.ifCond .lt 12, 3) := by decide +kernel
theorem d_M_in_4 : decode b_M_in 4 = .ok (.iload_n 0, 1) := by decide +kernel
theorem d_M_in_5 : decode b_M_in 5 = .ok (.iload_n 1, 1) := by decide +kernel
theorem d_M_in_6 : decode b_M_in 6 = .ok (.if_icmp .ge 7, 3) := by decide +kernel
theorem d_M_in_9 : decode b_M_in 9 = .ok (.iconst 1, 1) := by decide +kernel
theorem d_M_in_10 : decode b_M_in 10 = .ok (.goto 4, 3) := by decide +kernel
theorem d_M_in_13 : decode b_M_in 13 = .ok (.iconst 0, 1) := by decide +kernel
theorem d_M_in_14 : decode b_M_in 14 = .ok (.ireturn, 1) := by decide +kernel
theorem d_M_letter_0 : decode b_M_letter 0 = .ok (.iload_n 0, 1) := by decide +kernel
theorem d_M_letter_1 : decode b_M_letter 1 = .ok (.bipush 65, 2) := by decide +kernel
theorem d_M_letter_3 : decode b_M_letter 3 = .ok (.if_icmp .lt 16, 3) := by decide +kernel
theorem d_M_letter_6 : decode b_M_letter 6 = .ok (.iload_n 0, 1) := by decide +kernel
theorem d_M_letter_7 : decode b_M_letter 7 = .ok (.bipush 68, 2) := by decide +kernel
theorem d_M_letter_9 : decode b_M_letter 9 = .ok (.if_icmp .gt 10, 3) := by decide +kernel
theorem d_M_letter_12 : decode b_M_letter 12 = .ok (.iload_n 0, 1) := by decide +kernel
theorem d_M_letter_13 : decode b_M_letter 13 = .ok (.bipush 65, 2) := by decide +kernel
theorem d_M_letter_15 : decode b_M_letter 15 = .ok (.isub, 1) := by decide +kernel
theorem d_M_letter_16 : decode b_M_letter 16 = .ok (.goto 4, 3) := by decide +kernel
theorem d_M_letter_19 : decode b_M_letter 19 = .ok (.iconst (-1), 1) := by decide +kernel
theorem d_M_letter_20 : decode b_M_letter 20 = .ok (.ireturn, 1) := by decide +kernel
theorem d_M_has_0 : decode b_M_has 0 = .ok (.iload_n 1, 1) := by decide +kernel
theorem d_M_has_1 : decode b_M_has 1 = .ok (.invokestatic 74, 3) := by decide +kernel
theorem d_M_has_4 : decode b_M_has 4 = .ok (.istore_n 2, 1) := by decide +kernel
theorem d_M_has_5 : decode b_M_has 5 = .ok (.aload_n 0, 1) := by decide +kernel
theorem d_M_has_6 : decode b_M_has 6 = .ok (.getfield 78, 3) := by decide +kernel
theorem d_M_has_9 : decode b_M_has 9 = .ok (.iconst 1, 1) := by decide +kernel
theorem d_M_has_10 : decode b_M_has 10 = .ok (.iand, 1) := by decide +kernel
theorem d_M_has_11 : decode b_M_has 11 = .ok (.iconst 3, 1) := by decide +kernel
theorem d_M_has_12 : decode b_M_has 12 = .ok (.imul, 1) := by decide +kernel
theorem d_M_has_13 : decode b_M_has 13 = .ok (.aload_n 0, 1) := by decide +kernel
theorem d_M_has_14 : decode b_M_has 14 = .ok (.getfield 78, 3) := by decide +kernel
theorem d_M_has_17 : decode b_M_has 17 = .ok (.iconst 1, 1) := by decide +kernel
theorem d_M_has_18 : decode b_M_has 18 = .ok (.ishr, 1) := by decide +kernel
theorem d_M_has_19 : decode b_M_has 19 = .ok (.iconst 1, 1) := by decide +kernel
theorem d_M_has_20 : decode b_M_has 20 = .ok (.iand, 1) := by decide +kernel
theorem d_M_has_21 : decode b_M_has 21 = .ok (.bipush 6, 2) := by decide +kernel
theorem d_M_has_23 : decode b_M_has 23 = .ok (.imul, 1) := by decide +kernel
theorem d_M_has_24 : decode b_M_has 24 = .ok (.ior, 1) := by decide +kernel
theorem d_M_has_25 : decode b_M_has 25 = .ok (.aload_n 0, 1) := by decide +kernel
theorem d_M_has_26 : decode b_M_has 26 = .ok (.getfield 78, 3) := by decide +kernel
theorem d_M_has_29 : decode b_M_has 29 = .ok (.iconst 2, 1) := by decide +kernel
theorem d_M_has_30 : decode b_M_has 30 = .ok (.ishr, 1) := by decide +kernel
theorem d_M_has_31 : decode b_M_has 31 = .ok (.iconst 1, 1) := by decide +kernel
theorem d_M_has_32 : decode b_M_has 32 = .ok (.iand, 1) := by decide +kernel
theorem d_M_has_33 : decode b_M_has 33 = .ok (.bipush 12, 2) := by decide +kernel
theorem d_M_has_35 : decode b_M_has 35 = .ok (.imul, 1) := by decide +kernel
theorem d_M_has_36 : decode b_M_has 36 = .ok (.ior, 1) := by decide +kernel
theorem d_M_has_37 : decode b_M_has 37 = .ok (.istore_n 3, 1) := by decide +kernel
theorem d_M_has_38 : decode b_M_has 38 = .ok (.iload_n 2, 1) := by decide +kernel
theorem d_M_has_39 : decode b_M_has 39 = .ok (.ifCond .lt 16, 3) := by decide +kernel
theorem d_M_has_42 : decode b_M_has 42 = .ok (.iload_n 3, 1) := by decide +kernel
theorem d_M_has_43 : decode b_M_has 43 = .ok (.iload_n 2, 1) := by decide +kernel
theorem d_M_has_44 : decode b_M_has 44 = .ok (.ishr, 1) := by decide +kernel
theorem d_M_has_45 : decode b_M_has 45 = .ok (.iconst 1, 1) := by decide +kernel
theorem d_M_has_46 : decode b_M_has 46 = .ok (.iand, 1) := by decide +kernel
theorem d_M_has_47 : decode b_M_has 47 = .ok (.iconst 1, 1) := by decide +kernel
theorem d_M_has_48 : decode b_M_has 48 = .ok (.if_icmp .ne 7, 3) := by decide +kernel
theorem d_M_has_51 : decode b_M_has 51 = .ok (.iconst 1, 1) := by decide +kernel
theorem d_M_has_52 : decode b_M_has 52 = .ok (.goto 4, 3) := by decide +kernel
theorem d_M_has_55 : decode b_M_has 55 = .ok (.iconst 0, 1) := by decide +kernel
theorem d_M_has_56 : decode b_M_has 56 = .ok (.ireturn, 1) := by decide +kernel
theorem d_M_at_0 : decode b_M_at 0 = .ok (.iload_n 1, 1) := by decide +kernel
theorem d_M_at_1 : decode b_M_at 1 = .ok (.aload_n 0, 1) := by decide +kernel
theorem d_M_at_2 : decode b_M_at 2 = .ok (.getfield 82, 3) := by decide +kernel
theorem d_M_at_5 : decode b_M_at 5 = .ok (.if_icmp .ge 12, 3) := by decide +kernel
theorem d_M_at_8 : decode b_M_at 8 = .ok (.aload_n 0, 1) := by decide +kernel
theorem d_M_at_9 : decode b_M_at 9 = .ok (.getfield 19, 3) := by decide +kernel
theorem d_M_at_12 : decode b_M_at 12 = .ok (.iload_n 1, 1) := by decide +kernel
theorem d_M_at_13 : decode b_M_at 13 = .ok (.iaload, 1) := by decide +kernel
theorem d_M_at_14 : decode b_M_at 14 = .ok (.goto 4, 3) := by decide +kernel
theorem d_M_at_17 : decode b_M_at 17 = .ok (.iconst (-1), 1) := by decide +kernel
theorem d_M_at_18 : decode b_M_at 18 = .ok (.ireturn, 1) := by decide +kernel
theorem d_M_look_0 : decode b_M_look 0 = .ok (.iconst 0, 1) := by decide +kernel
theorem d_M_look_1 : decode b_M_look 1 = .ok (.istore_n 3, 1) := by decide +kernel
theorem d_M_look_2 : decode b_M_look 2 = .ok (.iload_n 2, 1) := by decide +kernel
theorem d_M_look_3 : decode b_M_look 3 = .ok (.istore 4, 2) := by decide +kernel
theorem d_M_look_5 : decode b_M_look 5 = .ok (.iload 4, 2) := by decide +kernel
theorem d_M_look_7 : decode b_M_look 7 = .ok (.iload_n 2, 1) := by decide +kernel
theorem d_M_look_8 : decode b_M_look 8 = .ok (.bipush 81, 2) := by decide +kernel
theorem d_M_look_10 : decode b_M_look 10 = .ok (.iadd, 1) := by decide +kernel
theorem d_M_look_11 : decode b_M_look 11 = .ok (.if_icmp .ge 61, 3) := by decide +kernel
theorem d_M_look_14 : decode b_M_look 14 = .ok (.iload_n 1, 1) := by decide +kernel
theorem d_M_look_15 : decode b_M_look 15 = .ok (.ifCond .eq 13, 3) := by decide +kernel
theorem d_M_look_18 : decode b_M_look 18 = .ok (.aload_n 0, 1) := by decide +kernel
theorem d_M_look_19 : decode b_M_look 19 = .ok (.getfield 53, 3) := by decide +kernel
theorem d_M_look_22 : decode b_M_look 22 = .ok (.iload 4, 2) := by decide +kernel
theorem d_M_look_24 : decode b_M_look 24 = .ok (.iaload, 1) := by decide +kernel
theorem d_M_look_25 : decode b_M_look 25 = .ok (.goto 10, 3) := by decide +kernel
theorem d_M_look_28 : decode b_M_look 28 = .ok (.aload_n 0, 1) := by decide +kernel
theorem d_M_look_29 : decode b_M_look 29 = .ok (.getfield 56, 3) := by decide +kernel
theorem d_M_look_32 : decode b_M_look 32 = .ok (.iload 4, 2) := by decide +kernel
theorem d_M_look_34 : decode b_M_look 34 = .ok (.iaload, 1) := by decide +kernel
theorem d_M_look_35 : decode b_M_look 35 = .ok (.istore 5, 2) := by decide +kernel
theorem d_M_look_37 : decode b_M_look 37 = .ok (.iload 5, 2) := by decide +kernel
theorem d_M_look_39 : decode b_M_look 39 = .ok (.ifCond .eq 6, 3) := by decide +kernel
theorem d_M_look_42 : decode b_M_look 42 = .ok (.iinc 3 1, 3) := by decide +kernel
theorem d_M_look_45 : decode b_M_look 45 = .ok (.iload 5, 2) := by decide +kernel
theorem d_M_look_47 : decode b_M_look 47 = .ok (.sipush 1000, 3) := by decide +kernel
theorem d_M_look_50 : decode b_M_look 50 = .ok (.if_icmp .gt 11, 3) := by decide +kernel
theorem d_M_look_53 : decode b_M_look 53 = .ok (.iload 5, 2) := by decide +kernel
theorem d_M_look_55 : decode b_M_look 55 = .ok (.sipush (-1000), 3) := by decide +kernel
theorem d_M_look_58 : decode b_M_look 58 = .ok (.if_icmp .ge 8, 3) := by decide +kernel
theorem d_M_look_61 : decode b_M_look 61 = .ok (.aload_n 0, 1) := by decide +kernel
theorem d_M_look_62 : decode b_M_look 62 = .ok (.iconst 1, 1) := by decide +kernel
theorem d_M_look_63 : decode b_M_look 63 = .ok (.putfield 85, 3) := by decide +kernel
theorem d_M_look_66 : decode b_M_look 66 = .ok (.iinc 4 1, 3) := by decide +kernel
theorem d_M_look_69 : decode b_M_look 69 = .ok (.goto (-64), 3) := by decide +kernel
theorem d_M_look_72 : decode b_M_look 72 = .ok (.iload_n 3, 1) := by decide +kernel
theorem d_M_look_73 : decode b_M_look 73 = .ok (.bipush 12, 2) := by decide +kernel
theorem d_M_look_75 : decode b_M_look 75 = .ok (.if_icmp .le 8, 3) := by decide +kernel
theorem d_M_look_78 : decode b_M_look 78 = .ok (.aload_n 0, 1) := by decide +kernel
theorem d_M_look_79 : decode b_M_look 79 = .ok (.iconst 1, 1) := by decide +kernel
theorem d_M_look_80 : decode b_M_look 80 = .ok (.putfield 85, 3) := by decide +kernel
theorem d_M_look_83 : decode b_M_look 83 = .ok (.return_, 1) := by decide +kernel
theorem d_M_wide_0 : decode b_M_wide 0 = .ok (.iload_n 0, 1) := by decide +kernel
theorem d_M_wide_1 : decode b_M_wide 1 = .ok (.bipush 27, 2) := by decide +kernel
theorem d_M_wide_3 : decode b_M_wide 3 = .ok (.idiv, 1) := by decide +kernel
theorem d_M_wide_4 : decode b_M_wide 4 = .ok (.bipush 125, 2) := by decide +kernel
theorem d_M_wide_6 : decode b_M_wide 6 = .ok (.imul, 1) := by decide +kernel
theorem d_M_wide_7 : decode b_M_wide 7 = .ok (.iload_n 0, 1) := by decide +kernel
theorem d_M_wide_8 : decode b_M_wide 8 = .ok (.bipush 9, 2) := by decide +kernel
theorem d_M_wide_10 : decode b_M_wide 10 = .ok (.idiv, 1) := by decide +kernel
theorem d_M_wide_11 : decode b_M_wide 11 = .ok (.iconst 3, 1) := by decide +kernel
theorem d_M_wide_12 : decode b_M_wide 12 = .ok (.irem, 1) := by decide +kernel
theorem d_M_wide_13 : decode b_M_wide 13 = .ok (.bipush 25, 2) := by decide +kernel
theorem d_M_wide_15 : decode b_M_wide 15 = .ok (.imul, 1) := by decide +kernel
theorem d_M_wide_16 : decode b_M_wide 16 = .ok (.iadd, 1) := by decide +kernel
theorem d_M_wide_17 : decode b_M_wide 17 = .ok (.iload_n 0, 1) := by decide +kernel
theorem d_M_wide_18 : decode b_M_wide 18 = .ok (.iconst 3, 1) := by decide +kernel
theorem d_M_wide_19 : decode b_M_wide 19 = .ok (.idiv, 1) := by decide +kernel
theorem d_M_wide_20 : decode b_M_wide 20 = .ok (.iconst 3, 1) := by decide +kernel
theorem d_M_wide_21 : decode b_M_wide 21 = .ok (.irem, 1) := by decide +kernel
theorem d_M_wide_22 : decode b_M_wide 22 = .ok (.iconst 5, 1) := by decide +kernel
theorem d_M_wide_23 : decode b_M_wide 23 = .ok (.imul, 1) := by decide +kernel
theorem d_M_wide_24 : decode b_M_wide 24 = .ok (.iadd, 1) := by decide +kernel
theorem d_M_wide_25 : decode b_M_wide 25 = .ok (.iload_n 0, 1) := by decide +kernel
theorem d_M_wide_26 : decode b_M_wide 26 = .ok (.iconst 3, 1) := by decide +kernel
theorem d_M_wide_27 : decode b_M_wide 27 = .ok (.irem, 1) := by decide +kernel
theorem d_M_wide_28 : decode b_M_wide 28 = .ok (.iadd, 1) := by decide +kernel
theorem d_M_wide_29 : decode b_M_wide 29 = .ok (.ireturn, 1) := by decide +kernel
theorem d_M_begin_0 : decode b_M_begin 0 = .ok (.iconst 0, 1) := by decide +kernel
theorem d_M_begin_1 : decode b_M_begin 1 = .ok (.istore_n 2, 1) := by decide +kernel
theorem d_M_begin_2 : decode b_M_begin 2 = .ok (.iload_n 2, 1) := by decide +kernel
theorem d_M_begin_3 : decode b_M_begin 3 = .ok (.bipush 81, 2) := by decide +kernel
theorem d_M_begin_5 : decode b_M_begin 5 = .ok (.if_icmp .ge 21, 3) := by decide +kernel
theorem d_M_begin_8 : decode b_M_begin 8 = .ok (.aload_n 0, 1) := by decide +kernel
theorem d_M_begin_9 : decode b_M_begin 9 = .ok (.getfield 53, 3) := by decide +kernel
theorem d_M_begin_12 : decode b_M_begin 12 = .ok (.bipush 81, 2) := by decide +kernel
theorem d_M_begin_14 : decode b_M_begin 14 = .ok (.iload_n 1, 1) := by decide +kernel
theorem d_M_begin_15 : decode b_M_begin 15 = .ok (.imul, 1) := by decide +kernel
theorem d_M_begin_16 : decode b_M_begin 16 = .ok (.iload_n 2, 1) := by decide +kernel
theorem d_M_begin_17 : decode b_M_begin 17 = .ok (.iadd, 1) := by decide +kernel
theorem d_M_begin_18 : decode b_M_begin 18 = .ok (.iconst 0, 1) := by decide +kernel
theorem d_M_begin_19 : decode b_M_begin 19 = .ok (.iastore, 1) := by decide +kernel
theorem d_M_begin_20 : decode b_M_begin 20 = .ok (.iinc 2 1, 3) := by decide +kernel
theorem d_M_begin_23 : decode b_M_begin 23 = .ok (.goto (-21), 3) := by decide +kernel
theorem d_M_begin_26 : decode b_M_begin 26 = .ok (.aload_n 0, 1) := by decide +kernel
theorem d_M_begin_27 : decode b_M_begin 27 = .ok (.getfield 59, 3) := by decide +kernel
theorem d_M_begin_30 : decode b_M_begin 30 = .ok (.iload_n 1, 1) := by decide +kernel
theorem d_M_begin_31 : decode b_M_begin 31 = .ok (.iconst 0, 1) := by decide +kernel
theorem d_M_begin_32 : decode b_M_begin 32 = .ok (.bastore, 1) := by decide +kernel
theorem d_M_begin_33 : decode b_M_begin 33 = .ok (.aload_n 0, 1) := by decide +kernel
theorem d_M_begin_34 : decode b_M_begin 34 = .ok (.getfield 62, 3) := by decide +kernel
theorem d_M_begin_37 : decode b_M_begin 37 = .ok (.iload_n 1, 1) := by decide +kernel
theorem d_M_begin_38 : decode b_M_begin 38 = .ok (.iconst 1, 1) := by decide +kernel
theorem d_M_begin_39 : decode b_M_begin 39 = .ok (.iastore, 1) := by decide +kernel
theorem d_M_begin_40 : decode b_M_begin 40 = .ok (.aload_n 0, 1) := by decide +kernel
theorem d_M_begin_41 : decode b_M_begin 41 = .ok (.getfield 65, 3) := by decide +kernel
theorem d_M_begin_44 : decode b_M_begin 44 = .ok (.iload_n 1, 1) := by decide +kernel
theorem d_M_begin_45 : decode b_M_begin 45 = .ok (.iconst 0, 1) := by decide +kernel
theorem d_M_begin_46 : decode b_M_begin 46 = .ok (.iastore, 1) := by decide +kernel
theorem d_M_begin_47 : decode b_M_begin 47 = .ok (.return_, 1) := by decide +kernel
theorem d_M_multiply_0 : decode b_M_multiply 0 = .ok (.iconst 0, 1) := by decide +kernel
theorem d_M_multiply_1 : decode b_M_multiply 1 = .ok (.istore_n 2, 1) := by decide +kernel
theorem d_M_multiply_2 : decode b_M_multiply 2 = .ok (.iload_n 2, 1) := by decide +kernel
theorem d_M_multiply_3 : decode b_M_multiply 3 = .ok (.sipush 625, 3) := by decide +kernel
theorem d_M_multiply_6 : decode b_M_multiply 6 = .ok (.if_icmp .ge 16, 3) := by decide +kernel
theorem d_M_multiply_9 : decode b_M_multiply 9 = .ok (.aload_n 0, 1) := by decide +kernel
theorem d_M_multiply_10 : decode b_M_multiply 10 = .ok (.getfield 71, 3) := by decide +kernel
theorem d_M_multiply_13 : decode b_M_multiply 13 = .ok (.iload_n 2, 1) := by decide +kernel
theorem d_M_multiply_14 : decode b_M_multiply 14 = .ok (.iconst 0, 1) := by decide +kernel
theorem d_M_multiply_15 : decode b_M_multiply 15 = .ok (.iastore, 1) := by decide +kernel
theorem d_M_multiply_16 : decode b_M_multiply 16 = .ok (.iinc 2 1, 3) := by decide +kernel
theorem d_M_multiply_19 : decode b_M_multiply 19 = .ok (.goto (-17), 3) := by decide +kernel
theorem d_M_multiply_22 : decode b_M_multiply 22 = .ok (.iconst 0, 1) := by decide +kernel
theorem d_M_multiply_23 : decode b_M_multiply 23 = .ok (.istore_n 2, 1) := by decide +kernel
theorem d_M_multiply_24 : decode b_M_multiply 24 = .ok (.iload_n 2, 1) := by decide +kernel
theorem d_M_multiply_25 : decode b_M_multiply 25 = .ok (.sipush 6561, 3) := by decide +kernel
theorem d_M_multiply_28 : decode b_M_multiply 28 = .ok (.if_icmp .ge 56, 3) := by decide +kernel
theorem d_M_multiply_31 : decode b_M_multiply 31 = .ok (.aload_n 0, 1) := by decide +kernel
theorem d_M_multiply_32 : decode b_M_multiply 32 = .ok (.getfield 71, 3) := by decide +kernel
theorem d_M_multiply_35 : decode b_M_multiply 35 = .ok (.iload_n 2, 1) := by decide +kernel
theorem d_M_multiply_36 : decode b_M_multiply 36 = .ok (.bipush 81, 2) := by decide +kernel
theorem d_M_multiply_38 : decode b_M_multiply 38 = .ok (.idiv, 1) := by decide +kernel
theorem d_M_multiply_39 : decode b_M_multiply 39 = .ok (.invokestatic 89, 3) := by decide +kernel
theorem d_M_multiply_42 : decode b_M_multiply 42 = .ok (.iload_n 2, 1) := by decide +kernel
theorem d_M_multiply_43 : decode b_M_multiply 43 = .ok (.bipush 81, 2) := by decide +kernel
theorem d_M_multiply_45 : decode b_M_multiply 45 = .ok (.irem, 1) := by decide +kernel
theorem d_M_multiply_46 : decode b_M_multiply 46 = .ok (.invokestatic 89, 3) := by decide +kernel
theorem d_M_multiply_49 : decode b_M_multiply 49 = .ok (.iadd, 1) := by decide +kernel
theorem d_M_multiply_50 : decode b_M_multiply 50 = .ok (.dup2, 1) := by decide +kernel
theorem d_M_multiply_51 : decode b_M_multiply 51 = .ok (.iaload, 1) := by decide +kernel
theorem d_M_multiply_52 : decode b_M_multiply 52 = .ok (.aload_n 0, 1) := by decide +kernel
theorem d_M_multiply_53 : decode b_M_multiply 53 = .ok (.getfield 56, 3) := by decide +kernel
theorem d_M_multiply_56 : decode b_M_multiply 56 = .ok (.bipush 81, 2) := by decide +kernel
theorem d_M_multiply_58 : decode b_M_multiply 58 = .ok (.iload_n 1, 1) := by decide +kernel
theorem d_M_multiply_59 : decode b_M_multiply 59 = .ok (.imul, 1) := by decide +kernel
theorem d_M_multiply_60 : decode b_M_multiply 60 = .ok (.iload_n 2, 1) := by decide +kernel
theorem d_M_multiply_61 : decode b_M_multiply 61 = .ok (.bipush 81, 2) := by decide +kernel
theorem d_M_multiply_63 : decode b_M_multiply 63 = .ok (.idiv, 1) := by decide +kernel
theorem d_M_multiply_64 : decode b_M_multiply 64 = .ok (.iadd, 1) := by decide +kernel
theorem d_M_multiply_65 : decode b_M_multiply 65 = .ok (.iaload, 1) := by decide +kernel
theorem d_M_multiply_66 : decode b_M_multiply 66 = .ok (.aload_n 0, 1) := by decide +kernel
theorem d_M_multiply_67 : decode b_M_multiply 67 = .ok (.getfield 68, 3) := by decide +kernel
theorem d_M_multiply_70 : decode b_M_multiply 70 = .ok (.iload_n 2, 1) := by decide +kernel
theorem d_M_multiply_71 : decode b_M_multiply 71 = .ok (.bipush 81, 2) := by decide +kernel
theorem d_M_multiply_73 : decode b_M_multiply 73 = .ok (.irem, 1) := by decide +kernel
theorem d_M_multiply_74 : decode b_M_multiply 74 = .ok (.iaload, 1) := by decide +kernel
theorem d_M_multiply_75 : decode b_M_multiply 75 = .ok (.imul, 1) := by decide +kernel
theorem d_M_multiply_76 : decode b_M_multiply 76 = .ok (.iadd, 1) := by decide +kernel
theorem d_M_multiply_77 : decode b_M_multiply 77 = .ok (.iastore, 1) := by decide +kernel
theorem d_M_multiply_78 : decode b_M_multiply 78 = .ok (.iinc 2 1, 3) := by decide +kernel
theorem d_M_multiply_81 : decode b_M_multiply 81 = .ok (.goto (-57), 3) := by decide +kernel
theorem d_M_multiply_84 : decode b_M_multiply 84 = .ok (.iconst 0, 1) := by decide +kernel
theorem d_M_multiply_85 : decode b_M_multiply 85 = .ok (.istore_n 2, 1) := by decide +kernel
theorem d_M_multiply_86 : decode b_M_multiply 86 = .ok (.iload_n 2, 1) := by decide +kernel
theorem d_M_multiply_87 : decode b_M_multiply 87 = .ok (.bipush 81, 2) := by decide +kernel
theorem d_M_multiply_89 : decode b_M_multiply 89 = .ok (.if_icmp .ge 39, 3) := by decide +kernel
theorem d_M_multiply_92 : decode b_M_multiply 92 = .ok (.aload_n 0, 1) := by decide +kernel
theorem d_M_multiply_93 : decode b_M_multiply 93 = .ok (.getfield 56, 3) := by decide +kernel
theorem d_M_multiply_96 : decode b_M_multiply 96 = .ok (.bipush 81, 2) := by decide +kernel
theorem d_M_multiply_98 : decode b_M_multiply 98 = .ok (.iload_n 1, 1) := by decide +kernel
theorem d_M_multiply_99 : decode b_M_multiply 99 = .ok (.imul, 1) := by decide +kernel
theorem d_M_multiply_100 : decode b_M_multiply 100 = .ok (.iload_n 2, 1) := by decide +kernel
theorem d_M_multiply_101 : decode b_M_multiply 101 = .ok (.iadd, 1) := by decide +kernel
theorem d_M_multiply_102 : decode b_M_multiply 102 = .ok (.aload_n 0, 1) := by decide +kernel
theorem d_M_multiply_103 : decode b_M_multiply 103 = .ok (.getfield 71, 3) := by decide +kernel
theorem d_M_multiply_106 : decode b_M_multiply 106 = .ok (.iload_n 2, 1) := by decide +kernel
theorem d_M_multiply_107 : decode b_M_multiply 107 = .ok (.invokestatic 89, 3) := by decide +kernel
theorem d_M_multiply_110 : decode b_M_multiply 110 = .ok (.iaload, 1) := by decide +kernel
theorem d_M_multiply_111 : decode b_M_multiply 111 = .ok (.iastore, 1) := by decide +kernel
theorem d_M_multiply_112 : decode b_M_multiply 112 = .ok (.aload_n 0, 1) := by decide +kernel
theorem d_M_multiply_113 : decode b_M_multiply 113 = .ok (.getfield 71, 3) := by decide +kernel
theorem d_M_multiply_116 : decode b_M_multiply 116 = .ok (.iload_n 2, 1) := by decide +kernel
theorem d_M_multiply_117 : decode b_M_multiply 117 = .ok (.invokestatic 89, 3) := by decide +kernel
theorem d_M_multiply_120 : decode b_M_multiply 120 = .ok (.iconst 0, 1) := by decide +kernel
theorem d_M_multiply_121 : decode b_M_multiply 121 = .ok (.iastore, 1) := by decide +kernel
theorem d_M_multiply_122 : decode b_M_multiply 122 = .ok (.iinc 2 1, 3) := by decide +kernel
theorem d_M_multiply_125 : decode b_M_multiply 125 = .ok (.goto (-39), 3) := by decide +kernel
theorem d_M_multiply_128 : decode b_M_multiply 128 = .ok (.iconst 0, 1) := by decide +kernel
theorem d_M_multiply_129 : decode b_M_multiply 129 = .ok (.istore_n 2, 1) := by decide +kernel
theorem d_M_multiply_130 : decode b_M_multiply 130 = .ok (.iload_n 2, 1) := by decide +kernel
theorem d_M_multiply_131 : decode b_M_multiply 131 = .ok (.sipush 625, 3) := by decide +kernel
theorem d_M_multiply_134 : decode b_M_multiply 134 = .ok (.if_icmp .ge 23, 3) := by decide +kernel
theorem d_M_multiply_137 : decode b_M_multiply 137 = .ok (.aload_n 0, 1) := by decide +kernel
theorem d_M_multiply_138 : decode b_M_multiply 138 = .ok (.getfield 71, 3) := by decide +kernel
theorem d_M_multiply_141 : decode b_M_multiply 141 = .ok (.iload_n 2, 1) := by decide +kernel
theorem d_M_multiply_142 : decode b_M_multiply 142 = .ok (.iaload, 1) := by decide +kernel
theorem d_M_multiply_143 : decode b_M_multiply 143 = .ok (.ifCond .eq 8, 3) := by decide +kernel
theorem d_M_multiply_146 : decode b_M_multiply 146 = .ok (.aload_n 0, 1) := by decide +kernel
theorem d_M_multiply_147 : decode b_M_multiply 147 = .ok (.iconst 1, 1) := by decide +kernel
theorem d_M_multiply_148 : decode b_M_multiply 148 = .ok (.putfield 85, 3) := by decide +kernel
theorem d_M_multiply_151 : decode b_M_multiply 151 = .ok (.iinc 2 1, 3) := by decide +kernel
theorem d_M_multiply_154 : decode b_M_multiply 154 = .ok (.goto (-24), 3) := by decide +kernel
theorem d_M_multiply_157 : decode b_M_multiply 157 = .ok (.return_, 1) := by decide +kernel
theorem d_M_endFactor_0 : decode b_M_endFactor 0 = .ok (.iconst 0, 1) := by decide +kernel
theorem d_M_endFactor_1 : decode b_M_endFactor 1 = .ok (.istore_n 2, 1) := by decide +kernel
theorem d_M_endFactor_2 : decode b_M_endFactor 2 = .ok (.iload_n 2, 1) := by decide +kernel
theorem d_M_endFactor_3 : decode b_M_endFactor 3 = .ok (.bipush 81, 2) := by decide +kernel
theorem d_M_endFactor_5 : decode b_M_endFactor 5 = .ok (.if_icmp .ge 34, 3) := by decide +kernel
theorem d_M_endFactor_8 : decode b_M_endFactor 8 = .ok (.aload_n 0, 1) := by decide +kernel
theorem d_M_endFactor_9 : decode b_M_endFactor 9 = .ok (.getfield 65, 3) := by decide +kernel
theorem d_M_endFactor_12 : decode b_M_endFactor 12 = .ok (.iload_n 1, 1) := by decide +kernel
theorem d_M_endFactor_13 : decode b_M_endFactor 13 = .ok (.iaload, 1) := by decide +kernel
theorem d_M_endFactor_14 : decode b_M_endFactor 14 = .ok (.iconst 2, 1) := by decide +kernel
theorem d_M_endFactor_15 : decode b_M_endFactor 15 = .ok (.irem, 1) := by decide +kernel
theorem d_M_endFactor_16 : decode b_M_endFactor 16 = .ok (.iconst 1, 1) := by decide +kernel
theorem d_M_endFactor_17 : decode b_M_endFactor 17 = .ok (.if_icmp .ne 16, 3) := by decide +kernel
theorem d_M_endFactor_20 : decode b_M_endFactor 20 = .ok (.aload_n 0, 1) := by decide +kernel
theorem d_M_endFactor_21 : decode b_M_endFactor 21 = .ok (.getfield 68, 3) := by decide +kernel
theorem d_M_endFactor_24 : decode b_M_endFactor 24 = .ok (.iload_n 2, 1) := by decide +kernel
theorem d_M_endFactor_25 : decode b_M_endFactor 25 = .ok (.aload_n 0, 1) := by decide +kernel
theorem d_M_endFactor_26 : decode b_M_endFactor 26 = .ok (.getfield 68, 3) := by decide +kernel
theorem d_M_endFactor_29 : decode b_M_endFactor 29 = .ok (.iload_n 2, 1) := by decide +kernel
theorem d_M_endFactor_30 : decode b_M_endFactor 30 = .ok (.iaload, 1) := by decide +kernel
theorem d_M_endFactor_31 : decode b_M_endFactor 31 = .ok (.ineg, 1) := by decide +kernel
theorem d_M_endFactor_32 : decode b_M_endFactor 32 = .ok (.iastore, 1) := by decide +kernel
theorem d_M_endFactor_33 : decode b_M_endFactor 33 = .ok (.iinc 2 1, 3) := by decide +kernel
theorem d_M_endFactor_36 : decode b_M_endFactor 36 = .ok (.goto (-34), 3) := by decide +kernel
theorem d_M_endFactor_39 : decode b_M_endFactor 39 = .ok (.aload_n 0, 1) := by decide +kernel
theorem d_M_endFactor_40 : decode b_M_endFactor 40 = .ok (.getfield 65, 3) := by decide +kernel
theorem d_M_endFactor_43 : decode b_M_endFactor 43 = .ok (.iload_n 1, 1) := by decide +kernel
theorem d_M_endFactor_44 : decode b_M_endFactor 44 = .ok (.iconst 0, 1) := by decide +kernel
theorem d_M_endFactor_45 : decode b_M_endFactor 45 = .ok (.iastore, 1) := by decide +kernel
theorem d_M_endFactor_46 : decode b_M_endFactor 46 = .ok (.aload_n 0, 1) := by decide +kernel
theorem d_M_endFactor_47 : decode b_M_endFactor 47 = .ok (.getfield 85, 3) := by decide +kernel
theorem d_M_endFactor_50 : decode b_M_endFactor 50 = .ok (.ifCond .eq 4, 3) := by decide +kernel
theorem d_M_endFactor_53 : decode b_M_endFactor 53 = .ok (.return_, 1) := by decide +kernel
theorem d_M_endFactor_54 : decode b_M_endFactor 54 = .ok (.aload_n 0, 1) := by decide +kernel
theorem d_M_endFactor_55 : decode b_M_endFactor 55 = .ok (.getfield 59, 3) := by decide +kernel
theorem d_M_endFactor_58 : decode b_M_endFactor 58 = .ok (.iload_n 1, 1) := by decide +kernel
theorem d_M_endFactor_59 : decode b_M_endFactor 59 = .ok (.baload, 1) := by decide +kernel
theorem d_M_endFactor_60 : decode b_M_endFactor 60 = .ok (.ifCond .eq 11, 3) := by decide +kernel
theorem d_M_endFactor_63 : decode b_M_endFactor 63 = .ok (.aload_n 0, 1) := by decide +kernel
theorem d_M_endFactor_64 : decode b_M_endFactor 64 = .ok (.iload_n 1, 1) := by decide +kernel
theorem d_M_endFactor_65 : decode b_M_endFactor 65 = .ok (.invokevirtual 92, 3) := by decide +kernel
theorem d_M_endFactor_68 : decode b_M_endFactor 68 = .ok (.goto 34, 3) := by decide +kernel
theorem d_M_endFactor_71 : decode b_M_endFactor 71 = .ok (.iconst 0, 1) := by decide +kernel
theorem d_M_endFactor_72 : decode b_M_endFactor 72 = .ok (.istore_n 2, 1) := by decide +kernel
theorem d_M_endFactor_73 : decode b_M_endFactor 73 = .ok (.iload_n 2, 1) := by decide +kernel
theorem d_M_endFactor_74 : decode b_M_endFactor 74 = .ok (.bipush 81, 2) := by decide +kernel
theorem d_M_endFactor_76 : decode b_M_endFactor 76 = .ok (.if_icmp .ge 26, 3) := by decide +kernel
theorem d_M_endFactor_79 : decode b_M_endFactor 79 = .ok (.aload_n 0, 1) := by decide +kernel
theorem d_M_endFactor_80 : decode b_M_endFactor 80 = .ok (.getfield 56, 3) := by decide +kernel
theorem d_M_endFactor_83 : decode b_M_endFactor 83 = .ok (.bipush 81, 2) := by decide +kernel
theorem d_M_endFactor_85 : decode b_M_endFactor 85 = .ok (.iload_n 1, 1) := by decide +kernel
theorem d_M_endFactor_86 : decode b_M_endFactor 86 = .ok (.imul, 1) := by decide +kernel
theorem d_M_endFactor_87 : decode b_M_endFactor 87 = .ok (.iload_n 2, 1) := by decide +kernel
theorem d_M_endFactor_88 : decode b_M_endFactor 88 = .ok (.iadd, 1) := by decide +kernel
theorem d_M_endFactor_89 : decode b_M_endFactor 89 = .ok (.aload_n 0, 1) := by decide +kernel
theorem d_M_endFactor_90 : decode b_M_endFactor 90 = .ok (.getfield 68, 3) := by decide +kernel
theorem d_M_endFactor_93 : decode b_M_endFactor 93 = .ok (.iload_n 2, 1) := by decide +kernel
theorem d_M_endFactor_94 : decode b_M_endFactor 94 = .ok (.iaload, 1) := by decide +kernel
theorem d_M_endFactor_95 : decode b_M_endFactor 95 = .ok (.iastore, 1) := by decide +kernel
theorem d_M_endFactor_96 : decode b_M_endFactor 96 = .ok (.iinc 2 1, 3) := by decide +kernel
theorem d_M_endFactor_99 : decode b_M_endFactor 99 = .ok (.goto (-26), 3) := by decide +kernel
theorem d_M_endFactor_102 : decode b_M_endFactor 102 = .ok (.aload_n 0, 1) := by decide +kernel
theorem d_M_endFactor_103 : decode b_M_endFactor 103 = .ok (.getfield 59, 3) := by decide +kernel
theorem d_M_endFactor_106 : decode b_M_endFactor 106 = .ok (.iload_n 1, 1) := by decide +kernel
theorem d_M_endFactor_107 : decode b_M_endFactor 107 = .ok (.iconst 1, 1) := by decide +kernel
theorem d_M_endFactor_108 : decode b_M_endFactor 108 = .ok (.bastore, 1) := by decide +kernel
theorem d_M_endFactor_109 : decode b_M_endFactor 109 = .ok (.aload_n 0, 1) := by decide +kernel
theorem d_M_endFactor_110 : decode b_M_endFactor 110 = .ok (.iconst 0, 1) := by decide +kernel
theorem d_M_endFactor_111 : decode b_M_endFactor 111 = .ok (.bipush 81, 2) := by decide +kernel
theorem d_M_endFactor_113 : decode b_M_endFactor 113 = .ok (.iload_n 1, 1) := by decide +kernel
theorem d_M_endFactor_114 : decode b_M_endFactor 114 = .ok (.imul, 1) := by decide +kernel
theorem d_M_endFactor_115 : decode b_M_endFactor 115 = .ok (.invokevirtual 96, 3) := by decide +kernel
theorem d_M_endFactor_118 : decode b_M_endFactor 118 = .ok (.return_, 1) := by decide +kernel
theorem d_M_endTerm_0 : decode b_M_endTerm 0 = .ok (.iconst 0, 1) := by decide +kernel
theorem d_M_endTerm_1 : decode b_M_endTerm 1 = .ok (.istore_n 2, 1) := by decide +kernel
theorem d_M_endTerm_2 : decode b_M_endTerm 2 = .ok (.iload_n 2, 1) := by decide +kernel
theorem d_M_endTerm_3 : decode b_M_endTerm 3 = .ok (.bipush 81, 2) := by decide +kernel
theorem d_M_endTerm_5 : decode b_M_endTerm 5 = .ok (.if_icmp .ge 52, 3) := by decide +kernel
theorem d_M_endTerm_8 : decode b_M_endTerm 8 = .ok (.aload_n 0, 1) := by decide +kernel
theorem d_M_endTerm_9 : decode b_M_endTerm 9 = .ok (.getfield 53, 3) := by decide +kernel
theorem d_M_endTerm_12 : decode b_M_endTerm 12 = .ok (.bipush 81, 2) := by decide +kernel
theorem d_M_endTerm_14 : decode b_M_endTerm 14 = .ok (.iload_n 1, 1) := by decide +kernel
theorem d_M_endTerm_15 : decode b_M_endTerm 15 = .ok (.imul, 1) := by decide +kernel
theorem d_M_endTerm_16 : decode b_M_endTerm 16 = .ok (.iload_n 2, 1) := by decide +kernel
theorem d_M_endTerm_17 : decode b_M_endTerm 17 = .ok (.iadd, 1) := by decide +kernel
theorem d_M_endTerm_18 : decode b_M_endTerm 18 = .ok (.dup2, 1) := by decide +kernel
theorem d_M_endTerm_19 : decode b_M_endTerm 19 = .ok (.iaload, 1) := by decide +kernel
theorem d_M_endTerm_20 : decode b_M_endTerm 20 = .ok (.aload_n 0, 1) := by decide +kernel
theorem d_M_endTerm_21 : decode b_M_endTerm 21 = .ok (.getfield 85, 3) := by decide +kernel
theorem d_M_endTerm_24 : decode b_M_endTerm 24 = .ok (.ifCond .eq 7, 3) := by decide +kernel
theorem d_M_endTerm_27 : decode b_M_endTerm 27 = .ok (.iconst 0, 1) := by decide +kernel
theorem d_M_endTerm_28 : decode b_M_endTerm 28 = .ok (.goto 21, 3) := by decide +kernel
theorem d_M_endTerm_31 : decode b_M_endTerm 31 = .ok (.aload_n 0, 1) := by decide +kernel
theorem d_M_endTerm_32 : decode b_M_endTerm 32 = .ok (.getfield 62, 3) := by decide +kernel
theorem d_M_endTerm_35 : decode b_M_endTerm 35 = .ok (.iload_n 1, 1) := by decide +kernel
theorem d_M_endTerm_36 : decode b_M_endTerm 36 = .ok (.iaload, 1) := by decide +kernel
theorem d_M_endTerm_37 : decode b_M_endTerm 37 = .ok (.aload_n 0, 1) := by decide +kernel
theorem d_M_endTerm_38 : decode b_M_endTerm 38 = .ok (.getfield 56, 3) := by decide +kernel
theorem d_M_endTerm_41 : decode b_M_endTerm 41 = .ok (.bipush 81, 2) := by decide +kernel
theorem d_M_endTerm_43 : decode b_M_endTerm 43 = .ok (.iload_n 1, 1) := by decide +kernel
theorem d_M_endTerm_44 : decode b_M_endTerm 44 = .ok (.imul, 1) := by decide +kernel
theorem d_M_endTerm_45 : decode b_M_endTerm 45 = .ok (.iload_n 2, 1) := by decide +kernel
theorem d_M_endTerm_46 : decode b_M_endTerm 46 = .ok (.iadd, 1) := by decide +kernel
theorem d_M_endTerm_47 : decode b_M_endTerm 47 = .ok (.iaload, 1) := by decide +kernel
theorem d_M_endTerm_48 : decode b_M_endTerm 48 = .ok (.imul, 1) := by decide +kernel
theorem d_M_endTerm_49 : decode b_M_endTerm 49 = .ok (.iadd, 1) := by decide +kernel
theorem d_M_endTerm_50 : decode b_M_endTerm 50 = .ok (.iastore, 1) := by decide +kernel
theorem d_M_endTerm_51 : decode b_M_endTerm 51 = .ok (.iinc 2 1, 3) := by decide +kernel
theorem d_M_endTerm_54 : decode b_M_endTerm 54 = .ok (.goto (-52), 3) := by decide +kernel
theorem d_M_endTerm_57 : decode b_M_endTerm 57 = .ok (.aload_n 0, 1) := by decide +kernel
theorem d_M_endTerm_58 : decode b_M_endTerm 58 = .ok (.getfield 59, 3) := by decide +kernel
theorem d_M_endTerm_61 : decode b_M_endTerm 61 = .ok (.iload_n 1, 1) := by decide +kernel
theorem d_M_endTerm_62 : decode b_M_endTerm 62 = .ok (.iconst 0, 1) := by decide +kernel
theorem d_M_endTerm_63 : decode b_M_endTerm 63 = .ok (.bastore, 1) := by decide +kernel
theorem d_M_endTerm_64 : decode b_M_endTerm 64 = .ok (.aload_n 0, 1) := by decide +kernel
theorem d_M_endTerm_65 : decode b_M_endTerm 65 = .ok (.iconst 1, 1) := by decide +kernel
theorem d_M_endTerm_66 : decode b_M_endTerm 66 = .ok (.bipush 81, 2) := by decide +kernel
theorem d_M_endTerm_68 : decode b_M_endTerm 68 = .ok (.iload_n 1, 1) := by decide +kernel
theorem d_M_endTerm_69 : decode b_M_endTerm 69 = .ok (.imul, 1) := by decide +kernel
theorem d_M_endTerm_70 : decode b_M_endTerm 70 = .ok (.invokevirtual 96, 3) := by decide +kernel
theorem d_M_endTerm_73 : decode b_M_endTerm 73 = .ok (.return_, 1) := by decide +kernel
theorem d_M_simple_0 : decode b_M_simple 0 = .ok (.iconst 0, 1) := by decide +kernel
theorem d_M_simple_1 : decode b_M_simple 1 = .ok (.istore_n 2, 1) := by decide +kernel
theorem d_M_simple_2 : decode b_M_simple 2 = .ok (.iload_n 2, 1) := by decide +kernel
theorem d_M_simple_3 : decode b_M_simple 3 = .ok (.bipush 81, 2) := by decide +kernel
theorem d_M_simple_5 : decode b_M_simple 5 = .ok (.if_icmp .ge 16, 3) := by decide +kernel
theorem d_M_simple_8 : decode b_M_simple 8 = .ok (.aload_n 0, 1) := by decide +kernel
theorem d_M_simple_9 : decode b_M_simple 9 = .ok (.getfield 68, 3) := by decide +kernel
theorem d_M_simple_12 : decode b_M_simple 12 = .ok (.iload_n 2, 1) := by decide +kernel
theorem d_M_simple_13 : decode b_M_simple 13 = .ok (.iconst 0, 1) := by decide +kernel
theorem d_M_simple_14 : decode b_M_simple 14 = .ok (.iastore, 1) := by decide +kernel
theorem d_M_simple_15 : decode b_M_simple 15 = .ok (.iinc 2 1, 3) := by decide +kernel
theorem d_M_simple_18 : decode b_M_simple 18 = .ok (.goto (-16), 3) := by decide +kernel
theorem d_M_simple_21 : decode b_M_simple 21 = .ok (.iload_n 1, 1) := by decide +kernel
theorem d_M_simple_22 : decode b_M_simple 22 = .ok (.bipush 48, 2) := by decide +kernel
theorem d_M_simple_24 : decode b_M_simple 24 = .ok (.if_icmp .lt 22, 3) := by decide +kernel
theorem d_M_simple_27 : decode b_M_simple 27 = .ok (.iload_n 1, 1) := by decide +kernel
theorem d_M_simple_28 : decode b_M_simple 28 = .ok (.bipush 57, 2) := by decide +kernel
theorem d_M_simple_30 : decode b_M_simple 30 = .ok (.if_icmp .gt 16, 3) := by decide +kernel
theorem d_M_simple_33 : decode b_M_simple 33 = .ok (.aload_n 0, 1) := by decide +kernel
theorem d_M_simple_34 : decode b_M_simple 34 = .ok (.getfield 68, 3) := by decide +kernel
theorem d_M_simple_37 : decode b_M_simple 37 = .ok (.iconst 0, 1) := by decide +kernel
theorem d_M_simple_38 : decode b_M_simple 38 = .ok (.iload_n 1, 1) := by decide +kernel
theorem d_M_simple_39 : decode b_M_simple 39 = .ok (.bipush 48, 2) := by decide +kernel
theorem d_M_simple_41 : decode b_M_simple 41 = .ok (.isub, 1) := by decide +kernel
theorem d_M_simple_42 : decode b_M_simple 42 = .ok (.iastore, 1) := by decide +kernel
theorem d_M_simple_43 : decode b_M_simple 43 = .ok (.goto 42, 3) := by decide +kernel
theorem d_M_simple_46 : decode b_M_simple 46 = .ok (.aload_n 0, 1) := by decide +kernel
theorem d_M_simple_47 : decode b_M_simple 47 = .ok (.getfield 68, 3) := by decide +kernel
theorem d_M_simple_50 : decode b_M_simple 50 = .ok (.iload_n 1, 1) := by decide +kernel
theorem d_M_simple_51 : decode b_M_simple 51 = .ok (.bipush 65, 2) := by decide +kernel
theorem d_M_simple_53 : decode b_M_simple 53 = .ok (.if_icmp .ne 8, 3) := by decide +kernel
theorem d_M_simple_56 : decode b_M_simple 56 = .ok (.bipush 27, 2) := by decide +kernel
theorem d_M_simple_58 : decode b_M_simple 58 = .ok (.goto 25, 3) := by decide +kernel
theorem d_M_simple_61 : decode b_M_simple 61 = .ok (.iload_n 1, 1) := by decide +kernel
theorem d_M_simple_62 : decode b_M_simple 62 = .ok (.bipush 66, 2) := by decide +kernel
theorem d_M_simple_64 : decode b_M_simple 64 = .ok (.if_icmp .ne 8, 3) := by decide +kernel
theorem d_M_simple_67 : decode b_M_simple 67 = .ok (.bipush 9, 2) := by decide +kernel
theorem d_M_simple_69 : decode b_M_simple 69 = .ok (.goto 14, 3) := by decide +kernel
theorem d_M_simple_72 : decode b_M_simple 72 = .ok (.iload_n 1, 1) := by decide +kernel
theorem d_M_simple_73 : decode b_M_simple 73 = .ok (.bipush 67, 2) := by decide +kernel
theorem d_M_simple_75 : decode b_M_simple 75 = .ok (.if_icmp .ne 7, 3) := by decide +kernel
theorem d_M_simple_78 : decode b_M_simple 78 = .ok (.iconst 3, 1) := by decide +kernel
theorem d_M_simple_79 : decode b_M_simple 79 = .ok (.goto 4, 3) := by decide +kernel
theorem d_M_simple_82 : decode b_M_simple 82 = .ok (.iconst 1, 1) := by decide +kernel
theorem d_M_simple_83 : decode b_M_simple 83 = .ok (.iconst 1, 1) := by decide +kernel
theorem d_M_simple_84 : decode b_M_simple 84 = .ok (.iastore, 1) := by decide +kernel
theorem d_M_simple_85 : decode b_M_simple 85 = .ok (.return_, 1) := by decide +kernel
theorem d_M_readChain_0 : decode b_M_readChain 0 = .ok (.iconst 0, 1) := by decide +kernel
theorem d_M_readChain_1 : decode b_M_readChain 1 = .ok (.istore_n 1, 1) := by decide +kernel
theorem d_M_readChain_2 : decode b_M_readChain 2 = .ok (.aload_n 0, 1) := by decide +kernel
theorem d_M_readChain_3 : decode b_M_readChain 3 = .ok (.iconst 0, 1) := by decide +kernel
theorem d_M_readChain_4 : decode b_M_readChain 4 = .ok (.putfield 78, 3) := by decide +kernel
theorem d_M_readChain_7 : decode b_M_readChain 7 = .ok (.iload_n 1, 1) := by decide +kernel
theorem d_M_readChain_8 : decode b_M_readChain 8 = .ok (.aload_n 0, 1) := by decide +kernel
theorem d_M_readChain_9 : decode b_M_readChain 9 = .ok (.getfield 82, 3) := by decide +kernel
theorem d_M_readChain_12 : decode b_M_readChain 12 = .ok (.if_icmp .ge 101, 3) := by decide +kernel
theorem d_M_readChain_15 : decode b_M_readChain 15 = .ok (.aload_n 0, 1) := by decide +kernel
theorem d_M_readChain_16 : decode b_M_readChain 16 = .ok (.iload_n 1, 1) := by decide +kernel
theorem d_M_readChain_17 : decode b_M_readChain 17 = .ok (.invokevirtual 100, 3) := by decide +kernel
theorem d_M_readChain_20 : decode b_M_readChain 20 = .ok (.bipush 58, 2) := by decide +kernel
theorem d_M_readChain_22 : decode b_M_readChain 22 = .ok (.if_icmp .eq 91, 3) := by decide +kernel
theorem d_M_readChain_25 : decode b_M_readChain 25 = .ok (.aload_n 0, 1) := by decide +kernel
theorem d_M_readChain_26 : decode b_M_readChain 26 = .ok (.iload_n 1, 1) := by decide +kernel
theorem d_M_readChain_27 : decode b_M_readChain 27 = .ok (.invokevirtual 100, 3) := by decide +kernel
theorem d_M_readChain_30 : decode b_M_readChain 30 = .ok (.istore_n 2, 1) := by decide +kernel
theorem d_M_readChain_31 : decode b_M_readChain 31 = .ok (.iload_n 2, 1) := by decide +kernel
theorem d_M_readChain_32 : decode b_M_readChain 32 = .ok (.bipush 82, 2) := by decide +kernel
theorem d_M_readChain_34 : decode b_M_readChain 34 = .ok (.if_icmp .ne 7, 3) := by decide +kernel
theorem d_M_readChain_37 : decode b_M_readChain 37 = .ok (.iconst 1, 1) := by decide +kernel
theorem d_M_readChain_38 : decode b_M_readChain 38 = .ok (.goto 24, 3) := by decide +kernel
theorem d_M_readChain_41 : decode b_M_readChain 41 = .ok (.iload_n 2, 1) := by decide +kernel
theorem d_M_readChain_42 : decode b_M_readChain 42 = .ok (.bipush 83, 2) := by decide +kernel
theorem d_M_readChain_44 : decode b_M_readChain 44 = .ok (.if_icmp .ne 7, 3) := by decide +kernel
theorem d_M_readChain_47 : decode b_M_readChain 47 = .ok (.iconst 2, 1) := by decide +kernel
theorem d_M_readChain_48 : decode b_M_readChain 48 = .ok (.goto 14, 3) := by decide +kernel
theorem d_M_readChain_51 : decode b_M_readChain 51 = .ok (.iload_n 2, 1) := by decide +kernel
theorem d_M_readChain_52 : decode b_M_readChain 52 = .ok (.bipush 84, 2) := by decide +kernel
theorem d_M_readChain_54 : decode b_M_readChain 54 = .ok (.if_icmp .ne 7, 3) := by decide +kernel
theorem d_M_readChain_57 : decode b_M_readChain 57 = .ok (.iconst 4, 1) := by decide +kernel
theorem d_M_readChain_58 : decode b_M_readChain 58 = .ok (.goto 4, 3) := by decide +kernel
theorem d_M_readChain_61 : decode b_M_readChain 61 = .ok (.iconst 0, 1) := by decide +kernel
theorem d_M_readChain_62 : decode b_M_readChain 62 = .ok (.istore_n 3, 1) := by decide +kernel
theorem d_M_readChain_63 : decode b_M_readChain 63 = .ok (.iload_n 3, 1) := by decide +kernel
theorem d_M_readChain_64 : decode b_M_readChain 64 = .ok (.ifCond .eq 29, 3) := by decide +kernel
theorem d_M_readChain_67 : decode b_M_readChain 67 = .ok (.aload_n 0, 1) := by decide +kernel
theorem d_M_readChain_68 : decode b_M_readChain 68 = .ok (.getfield 78, 3) := by decide +kernel
theorem d_M_readChain_71 : decode b_M_readChain 71 = .ok (.ifCond .le 14, 3) := by decide +kernel
theorem d_M_readChain_74 : decode b_M_readChain 74 = .ok (.aload_n 0, 1) := by decide +kernel
theorem d_M_readChain_75 : decode b_M_readChain 75 = .ok (.getfield 78, 3) := by decide +kernel
theorem d_M_readChain_78 : decode b_M_readChain 78 = .ok (.iload_n 3, 1) := by decide +kernel
theorem d_M_readChain_79 : decode b_M_readChain 79 = .ok (.iconst 1, 1) := by decide +kernel
theorem d_M_readChain_80 : decode b_M_readChain 80 = .ok (.ishr, 1) := by decide +kernel
theorem d_M_readChain_81 : decode b_M_readChain 81 = .ok (.iand, 1) := by decide +kernel
theorem d_M_readChain_82 : decode b_M_readChain 82 = .ok (.ifCond .eq 11, 3) := by decide +kernel
theorem d_M_readChain_85 : decode b_M_readChain 85 = .ok (.aload_n 0, 1) := by decide +kernel
theorem d_M_readChain_86 : decode b_M_readChain 86 = .ok (.getfield 78, 3) := by decide +kernel
theorem d_M_readChain_89 : decode b_M_readChain 89 = .ok (.iload_n 3, 1) := by decide +kernel
theorem d_M_readChain_90 : decode b_M_readChain 90 = .ok (.if_icmp .lt 7, 3) := by decide +kernel
theorem d_M_readChain_93 : decode b_M_readChain 93 = .ok (.iconst (-1), 1) := by decide +kernel
theorem d_M_readChain_94 : decode b_M_readChain 94 = .ok (.iload_n 1, 1) := by decide +kernel
theorem d_M_readChain_95 : decode b_M_readChain 95 = .ok (.isub, 1) := by decide +kernel
theorem d_M_readChain_96 : decode b_M_readChain 96 = .ok (.ireturn, 1) := by decide +kernel
theorem d_M_readChain_97 : decode b_M_readChain 97 = .ok (.aload_n 0, 1) := by decide +kernel
theorem d_M_readChain_98 : decode b_M_readChain 98 = .ok (.dup, 1) := by decide +kernel
theorem d_M_readChain_99 : decode b_M_readChain 99 = .ok (.getfield 78, 3) := by decide +kernel
theorem d_M_readChain_102 : decode b_M_readChain 102 = .ok (.iload_n 3, 1) := by decide +kernel
theorem d_M_readChain_103 : decode b_M_readChain 103 = .ok (.ior, 1) := by decide +kernel
theorem d_M_readChain_104 : decode b_M_readChain 104 = .ok (.putfield 78, 3) := by decide +kernel
theorem d_M_readChain_107 : decode b_M_readChain 107 = .ok (.iinc 1 1, 3) := by decide +kernel
theorem d_M_readChain_110 : decode b_M_readChain 110 = .ok (.goto (-103), 3) := by decide +kernel
theorem d_M_readChain_113 : decode b_M_readChain 113 = .ok (.iload_n 1, 1) := by decide +kernel
theorem d_M_readChain_114 : decode b_M_readChain 114 = .ok (.aload_n 0, 1) := by decide +kernel
theorem d_M_readChain_115 : decode b_M_readChain 115 = .ok (.getfield 82, 3) := by decide +kernel
theorem d_M_readChain_118 : decode b_M_readChain 118 = .ok (.if_icmp .eq 10, 3) := by decide +kernel
theorem d_M_readChain_121 : decode b_M_readChain 121 = .ok (.aload_n 0, 1) := by decide +kernel
theorem d_M_readChain_122 : decode b_M_readChain 122 = .ok (.getfield 78, 3) := by decide +kernel
theorem d_M_readChain_125 : decode b_M_readChain 125 = .ok (.ifCond .ne 9, 3) := by decide +kernel
theorem d_M_readChain_128 : decode b_M_readChain 128 = .ok (.iconst (-1), 1) := by decide +kernel
theorem d_M_readChain_129 : decode b_M_readChain 129 = .ok (.iload_n 1, 1) := by decide +kernel
theorem d_M_readChain_130 : decode b_M_readChain 130 = .ok (.isub, 1) := by decide +kernel
theorem d_M_readChain_131 : decode b_M_readChain 131 = .ok (.goto 6, 3) := by decide +kernel
theorem d_M_readChain_134 : decode b_M_readChain 134 = .ok (.iload_n 1, 1) := by decide +kernel
theorem d_M_readChain_135 : decode b_M_readChain 135 = .ok (.iconst 1, 1) := by decide +kernel
theorem d_M_readChain_136 : decode b_M_readChain 136 = .ok (.iadd, 1) := by decide +kernel
theorem d_M_readChain_137 : decode b_M_readChain 137 = .ok (.ireturn, 1) := by decide +kernel
theorem d_M_readExpression_0 : decode b_M_readExpression 0 = .ok (.iconst 0, 1) := by decide +kernel
end
section
theorem d_M_readExpression_1 : decode b_M_readExpression 1 = .ok (.istore_n 2, 1) := by decide +kernel
theorem d_M_readExpression_2 : decode b_M_readExpression 2 = .ok (.iconst 0, 1) := by decide +kernel
theorem d_M_readExpression_3 : decode b_M_readExpression 3 = .ok (.istore_n 3, 1) := by decide +kernel
theorem d_M_readExpression_4 : decode b_M_readExpression 4 = .ok (.iconst 1, 1) := by decide +kernel
theorem d_M_readExpression_5 : decode b_M_readExpression 5 = .ok (.istore 4, 2) := by decide +kernel
theorem d_M_readExpression_7 : decode b_M_readExpression 7 = .ok (.aload_n 0, 1) := by decide +kernel
theorem d_M_readExpression_8 : decode b_M_readExpression 8 = .ok (.iconst 0, 1) := by decide +kernel
theorem d_M_readExpression_9 : decode b_M_readExpression 9 = .ok (.invokevirtual 103, 3) := by decide +kernel
theorem d_M_readExpression_12 : decode b_M_readExpression 12 = .ok (.iload_n 1, 1) := by decide +kernel
theorem d_M_readExpression_13 : decode b_M_readExpression 13 = .ok (.istore 5, 2) := by decide +kernel
theorem d_M_readExpression_15 : decode b_M_readExpression 15 = .ok (.iload 5, 2) := by decide +kernel
theorem d_M_readExpression_17 : decode b_M_readExpression 17 = .ok (.aload_n 0, 1) := by decide +kernel
theorem d_M_readExpression_18 : decode b_M_readExpression 18 = .ok (.getfield 82, 3) := by decide +kernel
theorem d_M_readExpression_21 : decode b_M_readExpression 21 = .ok (.if_icmp .gt 316, 3) := by decide +kernel
theorem d_M_readExpression_24 : decode b_M_readExpression 24 = .ok (.aload_n 0, 1) := by decide +kernel
theorem d_M_readExpression_25 : decode b_M_readExpression 25 = .ok (.iload 5, 2) := by decide +kernel
theorem d_M_readExpression_27 : decode b_M_readExpression 27 = .ok (.invokevirtual 100, 3) := by decide +kernel
theorem d_M_readExpression_30 : decode b_M_readExpression 30 = .ok (.istore 6, 2) := by decide +kernel
theorem d_M_readExpression_32 : decode b_M_readExpression 32 = .ok (.iload 4, 2) := by decide +kernel
theorem d_M_readExpression_34 : decode b_M_readExpression 34 = .ok (.ifCond .eq 128, 3) := by decide +kernel
theorem d_M_readExpression_37 : decode b_M_readExpression 37 = .ok (.iload 6, 2) := by decide +kernel
theorem d_M_readExpression_39 : decode b_M_readExpression 39 = .ok (.bipush 48, 2) := by decide +kernel
theorem d_M_readExpression_41 : decode b_M_readExpression 41 = .ok (.if_icmp .lt 10, 3) := by decide +kernel
theorem d_M_readExpression_44 : decode b_M_readExpression 44 = .ok (.iload 6, 2) := by decide +kernel
theorem d_M_readExpression_46 : decode b_M_readExpression 46 = .ok (.bipush 57, 2) := by decide +kernel
theorem d_M_readExpression_48 : decode b_M_readExpression 48 = .ok (.if_icmp .le 12, 3) := by decide +kernel
theorem d_M_readExpression_51 : decode b_M_readExpression 51 = .ok (.aload_n 0, 1) := by decide +kernel
theorem d_M_readExpression_52 : decode b_M_readExpression 52 = .ok (.iload 6, 2) := by decide +kernel
theorem d_M_readExpression_54 : decode b_M_readExpression 54 = .ok (.invokevirtual 106, 3) := by decide +kernel
theorem d_M_readExpression_57 : decode b_M_readExpression 57 = .ok (.ifCond .eq 7, 3) := by decide +kernel
theorem d_M_readExpression_60 : decode b_M_readExpression 60 = .ok (.iconst 1, 1) := by decide +kernel
theorem d_M_readExpression_61 : decode b_M_readExpression 61 = .ok (.goto 4, 3) := by decide +kernel
theorem d_M_readExpression_64 : decode b_M_readExpression 64 = .ok (.iconst 0, 1) := by decide +kernel
theorem d_M_readExpression_65 : decode b_M_readExpression 65 = .ok (.istore 7, 2) := by decide +kernel
theorem d_M_readExpression_67 : decode b_M_readExpression 67 = .ok (.iload 7, 2) := by decide +kernel
theorem d_M_readExpression_69 : decode b_M_readExpression 69 = .ok (.ifCond .ne 28, 3) := by decide +kernel
theorem d_M_readExpression_72 : decode b_M_readExpression 72 = .ok (.iload 6, 2) := by decide +kernel
theorem d_M_readExpression_74 : decode b_M_readExpression 74 = .ok (.bipush 40, 2) := by decide +kernel
theorem d_M_readExpression_76 : decode b_M_readExpression 76 = .ok (.if_icmp .eq 10, 3) := by decide +kernel
theorem d_M_readExpression_79 : decode b_M_readExpression 79 = .ok (.iload 6, 2) := by decide +kernel
theorem d_M_readExpression_81 : decode b_M_readExpression 81 = .ok (.bipush 45, 2) := by decide +kernel
theorem d_M_readExpression_83 : decode b_M_readExpression 83 = .ok (.if_icmp .ne 9, 3) := by decide +kernel
theorem d_M_readExpression_86 : decode b_M_readExpression 86 = .ok (.iload_n 3, 1) := by decide +kernel
theorem d_M_readExpression_87 : decode b_M_readExpression 87 = .ok (.bipush 8, 2) := by decide +kernel
theorem d_M_readExpression_89 : decode b_M_readExpression 89 = .ok (.if_icmp .ne 8, 3) := by decide +kernel
theorem d_M_readExpression_92 : decode b_M_readExpression 92 = .ok (.iconst (-1), 1) := by decide +kernel
theorem d_M_readExpression_93 : decode b_M_readExpression 93 = .ok (.iload 5, 2) := by decide +kernel
theorem d_M_readExpression_95 : decode b_M_readExpression 95 = .ok (.isub, 1) := by decide +kernel
theorem d_M_readExpression_96 : decode b_M_readExpression 96 = .ok (.ireturn, 1) := by decide +kernel
theorem d_M_readExpression_97 : decode b_M_readExpression 97 = .ok (.iload 7, 2) := by decide +kernel
theorem d_M_readExpression_99 : decode b_M_readExpression 99 = .ok (.ifCond .eq 29, 3) := by decide +kernel
theorem d_M_readExpression_102 : decode b_M_readExpression 102 = .ok (.iload_n 3, 1) := by decide +kernel
theorem d_M_readExpression_103 : decode b_M_readExpression 103 = .ok (.aload_n 0, 1) := by decide +kernel
theorem d_M_readExpression_104 : decode b_M_readExpression 104 = .ok (.getfield 65, 3) := by decide +kernel
theorem d_M_readExpression_107 : decode b_M_readExpression 107 = .ok (.iload_n 2, 1) := by decide +kernel
theorem d_M_readExpression_108 : decode b_M_readExpression 108 = .ok (.iaload, 1) := by decide +kernel
theorem d_M_readExpression_109 : decode b_M_readExpression 109 = .ok (.isub, 1) := by decide +kernel
theorem d_M_readExpression_110 : decode b_M_readExpression 110 = .ok (.istore_n 3, 1) := by decide +kernel
theorem d_M_readExpression_111 : decode b_M_readExpression 111 = .ok (.aload_n 0, 1) := by decide +kernel
theorem d_M_readExpression_112 : decode b_M_readExpression 112 = .ok (.iload 6, 2) := by decide +kernel
theorem d_M_readExpression_114 : decode b_M_readExpression 114 = .ok (.invokevirtual 110, 3) := by decide +kernel
theorem d_M_readExpression_117 : decode b_M_readExpression 117 = .ok (.aload_n 0, 1) := by decide +kernel
theorem d_M_readExpression_118 : decode b_M_readExpression 118 = .ok (.iload_n 2, 1) := by decide +kernel
theorem d_M_readExpression_119 : decode b_M_readExpression 119 = .ok (.invokevirtual 113, 3) := by decide +kernel
theorem d_M_readExpression_122 : decode b_M_readExpression 122 = .ok (.iconst 0, 1) := by decide +kernel
theorem d_M_readExpression_123 : decode b_M_readExpression 123 = .ok (.istore 4, 2) := by decide +kernel
theorem d_M_readExpression_125 : decode b_M_readExpression 125 = .ok (.goto 34, 3) := by decide +kernel
theorem d_M_readExpression_128 : decode b_M_readExpression 128 = .ok (.iinc 3 1, 3) := by decide +kernel
theorem d_M_readExpression_131 : decode b_M_readExpression 131 = .ok (.iload 6, 2) := by decide +kernel
theorem d_M_readExpression_133 : decode b_M_readExpression 133 = .ok (.bipush 45, 2) := by decide +kernel
theorem d_M_readExpression_135 : decode b_M_readExpression 135 = .ok (.if_icmp .ne 16, 3) := by decide +kernel
theorem d_M_readExpression_138 : decode b_M_readExpression 138 = .ok (.aload_n 0, 1) := by decide +kernel
theorem d_M_readExpression_139 : decode b_M_readExpression 139 = .ok (.getfield 65, 3) := by decide +kernel
theorem d_M_readExpression_142 : decode b_M_readExpression 142 = .ok (.iload_n 2, 1) := by decide +kernel
theorem d_M_readExpression_143 : decode b_M_readExpression 143 = .ok (.dup2, 1) := by decide +kernel
theorem d_M_readExpression_144 : decode b_M_readExpression 144 = .ok (.iaload, 1) := by decide +kernel
theorem d_M_readExpression_145 : decode b_M_readExpression 145 = .ok (.iconst 1, 1) := by decide +kernel
theorem d_M_readExpression_146 : decode b_M_readExpression 146 = .ok (.iadd, 1) := by decide +kernel
theorem d_M_readExpression_147 : decode b_M_readExpression 147 = .ok (.iastore, 1) := by decide +kernel
theorem d_M_readExpression_148 : decode b_M_readExpression 148 = .ok (.goto 11, 3) := by decide +kernel
theorem d_M_readExpression_151 : decode b_M_readExpression 151 = .ok (.iinc 2 1, 3) := by decide +kernel
theorem d_M_readExpression_154 : decode b_M_readExpression 154 = .ok (.aload_n 0, 1) := by decide +kernel
theorem d_M_readExpression_155 : decode b_M_readExpression 155 = .ok (.iload_n 2, 1) := by decide +kernel
theorem d_M_readExpression_156 : decode b_M_readExpression 156 = .ok (.invokevirtual 103, 3) := by decide +kernel
theorem d_M_readExpression_159 : decode b_M_readExpression 159 = .ok (.goto 172, 3) := by decide +kernel
theorem d_M_readExpression_162 : decode b_M_readExpression 162 = .ok (.iload 6, 2) := by decide +kernel
theorem d_M_readExpression_164 : decode b_M_readExpression 164 = .ok (.bipush 42, 2) := by decide +kernel
theorem d_M_readExpression_166 : decode b_M_readExpression 166 = .ok (.if_icmp .ne 9, 3) := by decide +kernel
theorem d_M_readExpression_169 : decode b_M_readExpression 169 = .ok (.iconst 1, 1) := by decide +kernel
theorem d_M_readExpression_170 : decode b_M_readExpression 170 = .ok (.istore 4, 2) := by decide +kernel
theorem d_M_readExpression_172 : decode b_M_readExpression 172 = .ok (.goto 159, 3) := by decide +kernel
theorem d_M_readExpression_175 : decode b_M_readExpression 175 = .ok (.iload 6, 2) := by decide +kernel
theorem d_M_readExpression_177 : decode b_M_readExpression 177 = .ok (.bipush 43, 2) := by decide +kernel
theorem d_M_readExpression_179 : decode b_M_readExpression 179 = .ok (.if_icmp .eq 10, 3) := by decide +kernel
theorem d_M_readExpression_182 : decode b_M_readExpression 182 = .ok (.iload 6, 2) := by decide +kernel
theorem d_M_readExpression_184 : decode b_M_readExpression 184 = .ok (.bipush 45, 2) := by decide +kernel
theorem d_M_readExpression_186 : decode b_M_readExpression 186 = .ok (.if_icmp .ne 32, 3) := by decide +kernel
theorem d_M_readExpression_189 : decode b_M_readExpression 189 = .ok (.aload_n 0, 1) := by decide +kernel
theorem d_M_readExpression_190 : decode b_M_readExpression 190 = .ok (.iload_n 2, 1) := by decide +kernel
theorem d_M_readExpression_191 : decode b_M_readExpression 191 = .ok (.invokevirtual 116, 3) := by decide +kernel
theorem d_M_readExpression_194 : decode b_M_readExpression 194 = .ok (.aload_n 0, 1) := by decide +kernel
theorem d_M_readExpression_195 : decode b_M_readExpression 195 = .ok (.getfield 62, 3) := by decide +kernel
theorem d_M_readExpression_198 : decode b_M_readExpression 198 = .ok (.iload_n 2, 1) := by decide +kernel
theorem d_M_readExpression_199 : decode b_M_readExpression 199 = .ok (.iload 6, 2) := by decide +kernel
theorem d_M_readExpression_201 : decode b_M_readExpression 201 = .ok (.bipush 43, 2) := by decide +kernel
theorem d_M_readExpression_203 : decode b_M_readExpression 203 = .ok (.if_icmp .ne 7, 3) := by decide +kernel
theorem d_M_readExpression_206 : decode b_M_readExpression 206 = .ok (.iconst 1, 1) := by decide +kernel
theorem d_M_readExpression_207 : decode b_M_readExpression 207 = .ok (.goto 4, 3) := by decide +kernel
theorem d_M_readExpression_210 : decode b_M_readExpression 210 = .ok (.iconst (-1), 1) := by decide +kernel
theorem d_M_readExpression_211 : decode b_M_readExpression 211 = .ok (.iastore, 1) := by decide +kernel
theorem d_M_readExpression_212 : decode b_M_readExpression 212 = .ok (.iconst 1, 1) := by decide +kernel
theorem d_M_readExpression_213 : decode b_M_readExpression 213 = .ok (.istore 4, 2) := by decide +kernel
theorem d_M_readExpression_215 : decode b_M_readExpression 215 = .ok (.goto 116, 3) := by decide +kernel
theorem d_M_readExpression_218 : decode b_M_readExpression 218 = .ok (.iload 6, 2) := by decide +kernel
theorem d_M_readExpression_220 : decode b_M_readExpression 220 = .ok (.bipush 41, 2) := by decide +kernel
theorem d_M_readExpression_222 : decode b_M_readExpression 222 = .ok (.if_icmp .ne 69, 3) := by decide +kernel
theorem d_M_readExpression_225 : decode b_M_readExpression 225 = .ok (.iload_n 2, 1) := by decide +kernel
theorem d_M_readExpression_226 : decode b_M_readExpression 226 = .ok (.ifCond .le 65, 3) := by decide +kernel
theorem d_M_readExpression_229 : decode b_M_readExpression 229 = .ok (.aload_n 0, 1) := by decide +kernel
theorem d_M_readExpression_230 : decode b_M_readExpression 230 = .ok (.iload_n 2, 1) := by decide +kernel
theorem d_M_readExpression_231 : decode b_M_readExpression 231 = .ok (.invokevirtual 116, 3) := by decide +kernel
theorem d_M_readExpression_234 : decode b_M_readExpression 234 = .ok (.iconst 0, 1) := by decide +kernel
theorem d_M_readExpression_235 : decode b_M_readExpression 235 = .ok (.istore 7, 2) := by decide +kernel
theorem d_M_readExpression_237 : decode b_M_readExpression 237 = .ok (.iload 7, 2) := by decide +kernel
theorem d_M_readExpression_239 : decode b_M_readExpression 239 = .ok (.bipush 81, 2) := by decide +kernel
theorem d_M_readExpression_241 : decode b_M_readExpression 241 = .ok (.if_icmp .ge 28, 3) := by decide +kernel
theorem d_M_readExpression_244 : decode b_M_readExpression 244 = .ok (.aload_n 0, 1) := by decide +kernel
theorem d_M_readExpression_245 : decode b_M_readExpression 245 = .ok (.getfield 68, 3) := by decide +kernel
theorem d_M_readExpression_248 : decode b_M_readExpression 248 = .ok (.iload 7, 2) := by decide +kernel
theorem d_M_readExpression_250 : decode b_M_readExpression 250 = .ok (.aload_n 0, 1) := by decide +kernel
theorem d_M_readExpression_251 : decode b_M_readExpression 251 = .ok (.getfield 53, 3) := by decide +kernel
theorem d_M_readExpression_254 : decode b_M_readExpression 254 = .ok (.bipush 81, 2) := by decide +kernel
theorem d_M_readExpression_256 : decode b_M_readExpression 256 = .ok (.iload_n 2, 1) := by decide +kernel
theorem d_M_readExpression_257 : decode b_M_readExpression 257 = .ok (.imul, 1) := by decide +kernel
theorem d_M_readExpression_258 : decode b_M_readExpression 258 = .ok (.iload 7, 2) := by decide +kernel
theorem d_M_readExpression_260 : decode b_M_readExpression 260 = .ok (.iadd, 1) := by decide +kernel
theorem d_M_readExpression_261 : decode b_M_readExpression 261 = .ok (.iaload, 1) := by decide +kernel
theorem d_M_readExpression_262 : decode b_M_readExpression 262 = .ok (.iastore, 1) := by decide +kernel
theorem d_M_readExpression_263 : decode b_M_readExpression 263 = .ok (.iinc 7 1, 3) := by decide +kernel
theorem d_M_readExpression_266 : decode b_M_readExpression 266 = .ok (.goto (-29), 3) := by decide +kernel
theorem d_M_readExpression_269 : decode b_M_readExpression 269 = .ok (.iinc 2 (-1), 3) := by decide +kernel
theorem d_M_readExpression_272 : decode b_M_readExpression 272 = .ok (.iload_n 3, 1) := by decide +kernel
theorem d_M_readExpression_273 : decode b_M_readExpression 273 = .ok (.iconst 1, 1) := by decide +kernel
theorem d_M_readExpression_274 : decode b_M_readExpression 274 = .ok (.aload_n 0, 1) := by decide +kernel
theorem d_M_readExpression_275 : decode b_M_readExpression 275 = .ok (.getfield 65, 3) := by decide +kernel
theorem d_M_readExpression_278 : decode b_M_readExpression 278 = .ok (.iload_n 2, 1) := by decide +kernel
theorem d_M_readExpression_279 : decode b_M_readExpression 279 = .ok (.iaload, 1) := by decide +kernel
theorem d_M_readExpression_280 : decode b_M_readExpression 280 = .ok (.iadd, 1) := by decide +kernel
theorem d_M_readExpression_281 : decode b_M_readExpression 281 = .ok (.isub, 1) := by decide +kernel
theorem d_M_readExpression_282 : decode b_M_readExpression 282 = .ok (.istore_n 3, 1) := by decide +kernel
theorem d_M_readExpression_283 : decode b_M_readExpression 283 = .ok (.aload_n 0, 1) := by decide +kernel
theorem d_M_readExpression_284 : decode b_M_readExpression 284 = .ok (.iload_n 2, 1) := by decide +kernel
theorem d_M_readExpression_285 : decode b_M_readExpression 285 = .ok (.invokevirtual 113, 3) := by decide +kernel
theorem d_M_readExpression_288 : decode b_M_readExpression 288 = .ok (.goto 43, 3) := by decide +kernel
theorem d_M_readExpression_291 : decode b_M_readExpression 291 = .ok (.iload_n 2, 1) := by decide +kernel
theorem d_M_readExpression_292 : decode b_M_readExpression 292 = .ok (.ifCond .ne 34, 3) := by decide +kernel
theorem d_M_readExpression_295 : decode b_M_readExpression 295 = .ok (.iload 6, 2) := by decide +kernel
theorem d_M_readExpression_297 : decode b_M_readExpression 297 = .ok (.bipush 63, 2) := by decide +kernel
theorem d_M_readExpression_299 : decode b_M_readExpression 299 = .ok (.if_icmp .eq 19, 3) := by decide +kernel
theorem d_M_readExpression_302 : decode b_M_readExpression 302 = .ok (.iload 6, 2) := by decide +kernel
theorem d_M_readExpression_304 : decode b_M_readExpression 304 = .ok (.bipush 47, 2) := by decide +kernel
theorem d_M_readExpression_306 : decode b_M_readExpression 306 = .ok (.if_icmp .eq 12, 3) := by decide +kernel
theorem d_M_readExpression_309 : decode b_M_readExpression 309 = .ok (.iload 5, 2) := by decide +kernel
theorem d_M_readExpression_311 : decode b_M_readExpression 311 = .ok (.aload_n 0, 1) := by decide +kernel
theorem d_M_readExpression_312 : decode b_M_readExpression 312 = .ok (.getfield 82, 3) := by decide +kernel
theorem d_M_readExpression_315 : decode b_M_readExpression 315 = .ok (.if_icmp .ne 11, 3) := by decide +kernel
theorem d_M_readExpression_318 : decode b_M_readExpression 318 = .ok (.aload_n 0, 1) := by decide +kernel
theorem d_M_readExpression_319 : decode b_M_readExpression 319 = .ok (.iconst 0, 1) := by decide +kernel
theorem d_M_readExpression_320 : decode b_M_readExpression 320 = .ok (.invokevirtual 116, 3) := by decide +kernel
theorem d_M_readExpression_323 : decode b_M_readExpression 323 = .ok (.iload 5, 2) := by decide +kernel
theorem d_M_readExpression_325 : decode b_M_readExpression 325 = .ok (.ireturn, 1) := by decide +kernel
theorem d_M_readExpression_326 : decode b_M_readExpression 326 = .ok (.iconst (-1), 1) := by decide +kernel
theorem d_M_readExpression_327 : decode b_M_readExpression 327 = .ok (.iload 5, 2) := by decide +kernel
theorem d_M_readExpression_329 : decode b_M_readExpression 329 = .ok (.isub, 1) := by decide +kernel
theorem d_M_readExpression_330 : decode b_M_readExpression 330 = .ok (.ireturn, 1) := by decide +kernel
theorem d_M_readExpression_331 : decode b_M_readExpression 331 = .ok (.iinc 5 1, 3) := by decide +kernel
theorem d_M_readExpression_334 : decode b_M_readExpression 334 = .ok (.goto (-319), 3) := by decide +kernel
theorem d_M_readExpression_337 : decode b_M_readExpression 337 = .ok (.iconst (-1), 1) := by decide +kernel
theorem d_M_readExpression_338 : decode b_M_readExpression 338 = .ok (.aload_n 0, 1) := by decide +kernel
theorem d_M_readExpression_339 : decode b_M_readExpression 339 = .ok (.getfield 82, 3) := by decide +kernel
theorem d_M_readExpression_342 : decode b_M_readExpression 342 = .ok (.isub, 1) := by decide +kernel
theorem d_M_readExpression_343 : decode b_M_readExpression 343 = .ok (.ireturn, 1) := by decide +kernel
theorem d_M_readConditions_0 : decode b_M_readConditions 0 = .ok (.iload_n 1, 1) := by decide +kernel
theorem d_M_readConditions_1 : decode b_M_readConditions 1 = .ok (.istore_n 2, 1) := by decide +kernel
theorem d_M_readConditions_2 : decode b_M_readConditions 2 = .ok (.aload_n 0, 1) := by decide +kernel
theorem d_M_readConditions_3 : decode b_M_readConditions 3 = .ok (.iconst 0, 1) := by decide +kernel
theorem d_M_readConditions_4 : decode b_M_readConditions 4 = .ok (.putfield 119, 3) := by decide +kernel
theorem d_M_readConditions_7 : decode b_M_readConditions 7 = .ok (.aload_n 0, 1) := by decide +kernel
theorem d_M_readConditions_8 : decode b_M_readConditions 8 = .ok (.iload_n 2, 1) := by decide +kernel
theorem d_M_readConditions_9 : decode b_M_readConditions 9 = .ok (.invokevirtual 100, 3) := by decide +kernel
theorem d_M_readConditions_12 : decode b_M_readConditions 12 = .ok (.bipush 63, 2) := by decide +kernel
theorem d_M_readConditions_14 : decode b_M_readConditions 14 = .ok (.if_icmp .ne 167, 3) := by decide +kernel
theorem d_M_readConditions_17 : decode b_M_readConditions 17 = .ok (.aload_n 0, 1) := by decide +kernel
theorem d_M_readConditions_18 : decode b_M_readConditions 18 = .ok (.aload_n 0, 1) := by decide +kernel
theorem d_M_readConditions_19 : decode b_M_readConditions 19 = .ok (.iload_n 2, 1) := by decide +kernel
theorem d_M_readConditions_20 : decode b_M_readConditions 20 = .ok (.iconst 1, 1) := by decide +kernel
theorem d_M_readConditions_21 : decode b_M_readConditions 21 = .ok (.iadd, 1) := by decide +kernel
theorem d_M_readConditions_22 : decode b_M_readConditions 22 = .ok (.invokevirtual 100, 3) := by decide +kernel
theorem d_M_readConditions_25 : decode b_M_readConditions 25 = .ok (.invokevirtual 106, 3) := by decide +kernel
theorem d_M_readConditions_28 : decode b_M_readConditions 28 = .ok (.ifCond .ne 13, 3) := by decide +kernel
theorem d_M_readConditions_31 : decode b_M_readConditions 31 = .ok (.iconst (-1), 1) := by decide +kernel
theorem d_M_readConditions_32 : decode b_M_readConditions 32 = .ok (.aload_n 0, 1) := by decide +kernel
theorem d_M_readConditions_33 : decode b_M_readConditions 33 = .ok (.iload_n 2, 1) := by decide +kernel
theorem d_M_readConditions_34 : decode b_M_readConditions 34 = .ok (.iconst 1, 1) := by decide +kernel
theorem d_M_readConditions_35 : decode b_M_readConditions 35 = .ok (.iadd, 1) := by decide +kernel
theorem d_M_readConditions_36 : decode b_M_readConditions 36 = .ok (.invokevirtual 122, 3) := by decide +kernel
theorem d_M_readConditions_39 : decode b_M_readConditions 39 = .ok (.isub, 1) := by decide +kernel
theorem d_M_readConditions_40 : decode b_M_readConditions 40 = .ok (.ireturn, 1) := by decide +kernel
theorem d_M_readConditions_41 : decode b_M_readConditions 41 = .ok (.aload_n 0, 1) := by decide +kernel
theorem d_M_readConditions_42 : decode b_M_readConditions 42 = .ok (.iload_n 2, 1) := by decide +kernel
theorem d_M_readConditions_43 : decode b_M_readConditions 43 = .ok (.iconst 2, 1) := by decide +kernel
theorem d_M_readConditions_44 : decode b_M_readConditions 44 = .ok (.iadd, 1) := by decide +kernel
theorem d_M_readConditions_45 : decode b_M_readConditions 45 = .ok (.invokevirtual 100, 3) := by decide +kernel
theorem d_M_readConditions_48 : decode b_M_readConditions 48 = .ok (.istore_n 3, 1) := by decide +kernel
theorem d_M_readConditions_49 : decode b_M_readConditions 49 = .ok (.iload_n 3, 1) := by decide +kernel
theorem d_M_readConditions_50 : decode b_M_readConditions 50 = .ok (.bipush 61, 2) := by decide +kernel
theorem d_M_readConditions_52 : decode b_M_readConditions 52 = .ok (.if_icmp .eq 31, 3) := by decide +kernel
theorem d_M_readConditions_55 : decode b_M_readConditions 55 = .ok (.iload_n 3, 1) := by decide +kernel
theorem d_M_readConditions_56 : decode b_M_readConditions 56 = .ok (.bipush 35, 2) := by decide +kernel
theorem d_M_readConditions_58 : decode b_M_readConditions 58 = .ok (.if_icmp .eq 25, 3) := by decide +kernel
theorem d_M_readConditions_61 : decode b_M_readConditions 61 = .ok (.iload_n 3, 1) := by decide +kernel
theorem d_M_readConditions_62 : decode b_M_readConditions 62 = .ok (.bipush 60, 2) := by decide +kernel
theorem d_M_readConditions_64 : decode b_M_readConditions 64 = .ok (.if_icmp .eq 19, 3) := by decide +kernel
theorem d_M_readConditions_67 : decode b_M_readConditions 67 = .ok (.iload_n 3, 1) := by decide +kernel
theorem d_M_readConditions_68 : decode b_M_readConditions 68 = .ok (.bipush 62, 2) := by decide +kernel
theorem d_M_readConditions_70 : decode b_M_readConditions 70 = .ok (.if_icmp .eq 13, 3) := by decide +kernel
theorem d_M_readConditions_73 : decode b_M_readConditions 73 = .ok (.iconst (-1), 1) := by decide +kernel
theorem d_M_readConditions_74 : decode b_M_readConditions 74 = .ok (.aload_n 0, 1) := by decide +kernel
theorem d_M_readConditions_75 : decode b_M_readConditions 75 = .ok (.iload_n 2, 1) := by decide +kernel
theorem d_M_readConditions_76 : decode b_M_readConditions 76 = .ok (.iconst 2, 1) := by decide +kernel
theorem d_M_readConditions_77 : decode b_M_readConditions 77 = .ok (.iadd, 1) := by decide +kernel
theorem d_M_readConditions_78 : decode b_M_readConditions 78 = .ok (.invokevirtual 122, 3) := by decide +kernel
theorem d_M_readConditions_81 : decode b_M_readConditions 81 = .ok (.isub, 1) := by decide +kernel
theorem d_M_readConditions_82 : decode b_M_readConditions 82 = .ok (.ireturn, 1) := by decide +kernel
theorem d_M_readConditions_83 : decode b_M_readConditions 83 = .ok (.aload_n 0, 1) := by decide +kernel
theorem d_M_readConditions_84 : decode b_M_readConditions 84 = .ok (.iload_n 2, 1) := by decide +kernel
theorem d_M_readConditions_85 : decode b_M_readConditions 85 = .ok (.iconst 3, 1) := by decide +kernel
theorem d_M_readConditions_86 : decode b_M_readConditions 86 = .ok (.iadd, 1) := by decide +kernel
theorem d_M_readConditions_87 : decode b_M_readConditions 87 = .ok (.invokevirtual 100, 3) := by decide +kernel
theorem d_M_readConditions_90 : decode b_M_readConditions 90 = .ok (.bipush 48, 2) := by decide +kernel
theorem d_M_readConditions_92 : decode b_M_readConditions 92 = .ok (.if_icmp .lt 15, 3) := by decide +kernel
theorem d_M_readConditions_95 : decode b_M_readConditions 95 = .ok (.aload_n 0, 1) := by decide +kernel
theorem d_M_readConditions_96 : decode b_M_readConditions 96 = .ok (.iload_n 2, 1) := by decide +kernel
theorem d_M_readConditions_97 : decode b_M_readConditions 97 = .ok (.iconst 3, 1) := by decide +kernel
theorem d_M_readConditions_98 : decode b_M_readConditions 98 = .ok (.iadd, 1) := by decide +kernel
theorem d_M_readConditions_99 : decode b_M_readConditions 99 = .ok (.invokevirtual 100, 3) := by decide +kernel
theorem d_M_readConditions_102 : decode b_M_readConditions 102 = .ok (.bipush 57, 2) := by decide +kernel
theorem d_M_readConditions_104 : decode b_M_readConditions 104 = .ok (.if_icmp .le 13, 3) := by decide +kernel
theorem d_M_readConditions_107 : decode b_M_readConditions 107 = .ok (.iconst (-1), 1) := by decide +kernel
theorem d_M_readConditions_108 : decode b_M_readConditions 108 = .ok (.aload_n 0, 1) := by decide +kernel
theorem d_M_readConditions_109 : decode b_M_readConditions 109 = .ok (.iload_n 2, 1) := by decide +kernel
theorem d_M_readConditions_110 : decode b_M_readConditions 110 = .ok (.iconst 3, 1) := by decide +kernel
theorem d_M_readConditions_111 : decode b_M_readConditions 111 = .ok (.iadd, 1) := by decide +kernel
theorem d_M_readConditions_112 : decode b_M_readConditions 112 = .ok (.invokevirtual 122, 3) := by decide +kernel
theorem d_M_readConditions_115 : decode b_M_readConditions 115 = .ok (.isub, 1) := by decide +kernel
theorem d_M_readConditions_116 : decode b_M_readConditions 116 = .ok (.ireturn, 1) := by decide +kernel
theorem d_M_readConditions_117 : decode b_M_readConditions 117 = .ok (.aload_n 0, 1) := by decide +kernel
theorem d_M_readConditions_118 : decode b_M_readConditions 118 = .ok (.getfield 22, 3) := by decide +kernel
theorem d_M_readConditions_121 : decode b_M_readConditions 121 = .ok (.aload_n 0, 1) := by decide +kernel
theorem d_M_readConditions_122 : decode b_M_readConditions 122 = .ok (.getfield 119, 3) := by decide +kernel
theorem d_M_readConditions_125 : decode b_M_readConditions 125 = .ok (.aload_n 0, 1) := by decide +kernel
theorem d_M_readConditions_126 : decode b_M_readConditions 126 = .ok (.iload_n 2, 1) := by decide +kernel
theorem d_M_readConditions_127 : decode b_M_readConditions 127 = .ok (.iconst 1, 1) := by decide +kernel
theorem d_M_readConditions_128 : decode b_M_readConditions 128 = .ok (.iadd, 1) := by decide +kernel
theorem d_M_readConditions_129 : decode b_M_readConditions 129 = .ok (.invokevirtual 100, 3) := by decide +kernel
theorem d_M_readConditions_132 : decode b_M_readConditions 132 = .ok (.invokestatic 74, 3) := by decide +kernel
theorem d_M_readConditions_135 : decode b_M_readConditions 135 = .ok (.iastore, 1) := by decide +kernel
theorem d_M_readConditions_136 : decode b_M_readConditions 136 = .ok (.aload_n 0, 1) := by decide +kernel
theorem d_M_readConditions_137 : decode b_M_readConditions 137 = .ok (.getfield 25, 3) := by decide +kernel
theorem d_M_readConditions_140 : decode b_M_readConditions 140 = .ok (.aload_n 0, 1) := by decide +kernel
theorem d_M_readConditions_141 : decode b_M_readConditions 141 = .ok (.getfield 119, 3) := by decide +kernel
theorem d_M_readConditions_144 : decode b_M_readConditions 144 = .ok (.iload_n 3, 1) := by decide +kernel
theorem d_M_readConditions_145 : decode b_M_readConditions 145 = .ok (.iastore, 1) := by decide +kernel
theorem d_M_readConditions_146 : decode b_M_readConditions 146 = .ok (.aload_n 0, 1) := by decide +kernel
theorem d_M_readConditions_147 : decode b_M_readConditions 147 = .ok (.getfield 28, 3) := by decide +kernel
theorem d_M_readConditions_150 : decode b_M_readConditions 150 = .ok (.aload_n 0, 1) := by decide +kernel
theorem d_M_readConditions_151 : decode b_M_readConditions 151 = .ok (.getfield 119, 3) := by decide +kernel
theorem d_M_readConditions_154 : decode b_M_readConditions 154 = .ok (.aload_n 0, 1) := by decide +kernel
theorem d_M_readConditions_155 : decode b_M_readConditions 155 = .ok (.iload_n 2, 1) := by decide +kernel
theorem d_M_readConditions_156 : decode b_M_readConditions 156 = .ok (.iconst 3, 1) := by decide +kernel
theorem d_M_readConditions_157 : decode b_M_readConditions 157 = .ok (.iadd, 1) := by decide +kernel
theorem d_M_readConditions_158 : decode b_M_readConditions 158 = .ok (.invokevirtual 100, 3) := by decide +kernel
theorem d_M_readConditions_161 : decode b_M_readConditions 161 = .ok (.bipush 48, 2) := by decide +kernel
theorem d_M_readConditions_163 : decode b_M_readConditions 163 = .ok (.isub, 1) := by decide +kernel
theorem d_M_readConditions_164 : decode b_M_readConditions 164 = .ok (.iastore, 1) := by decide +kernel
theorem d_M_readConditions_165 : decode b_M_readConditions 165 = .ok (.aload_n 0, 1) := by decide +kernel
theorem d_M_readConditions_166 : decode b_M_readConditions 166 = .ok (.dup, 1) := by decide +kernel
theorem d_M_readConditions_167 : decode b_M_readConditions 167 = .ok (.getfield 119, 3) := by decide +kernel
theorem d_M_readConditions_170 : decode b_M_readConditions 170 = .ok (.iconst 1, 1) := by decide +kernel
theorem d_M_readConditions_171 : decode b_M_readConditions 171 = .ok (.iadd, 1) := by decide +kernel
theorem d_M_readConditions_172 : decode b_M_readConditions 172 = .ok (.putfield 119, 3) := by decide +kernel
theorem d_M_readConditions_175 : decode b_M_readConditions 175 = .ok (.iinc 2 4, 3) := by decide +kernel
theorem d_M_readConditions_178 : decode b_M_readConditions 178 = .ok (.goto (-171), 3) := by decide +kernel
theorem d_M_readConditions_181 : decode b_M_readConditions 181 = .ok (.iload_n 2, 1) := by decide +kernel
theorem d_M_readConditions_182 : decode b_M_readConditions 182 = .ok (.ireturn, 1) := by decide +kernel
theorem d_M_shorter_0 : decode b_M_shorter 0 = .ok (.iload_n 1, 1) := by decide +kernel
theorem d_M_shorter_1 : decode b_M_shorter 1 = .ok (.aload_n 0, 1) := by decide +kernel
theorem d_M_shorter_2 : decode b_M_shorter 2 = .ok (.getfield 82, 3) := by decide +kernel
theorem d_M_shorter_5 : decode b_M_shorter 5 = .ok (.if_icmp .ge 7, 3) := by decide +kernel
theorem d_M_shorter_8 : decode b_M_shorter 8 = .ok (.iload_n 1, 1) := by decide +kernel
theorem d_M_shorter_9 : decode b_M_shorter 9 = .ok (.goto 7, 3) := by decide +kernel
theorem d_M_shorter_12 : decode b_M_shorter 12 = .ok (.aload_n 0, 1) := by decide +kernel
theorem d_M_shorter_13 : decode b_M_shorter 13 = .ok (.getfield 82, 3) := by decide +kernel
theorem d_M_shorter_16 : decode b_M_shorter 16 = .ok (.ireturn, 1) := by decide +kernel
theorem d_M_read_0 : decode b_M_read 0 = .ok (.aload_n 0, 1) := by decide +kernel
theorem d_M_read_1 : decode b_M_read 1 = .ok (.iconst 0, 1) := by decide +kernel
theorem d_M_read_2 : decode b_M_read 2 = .ok (.putfield 85, 3) := by decide +kernel
theorem d_M_read_5 : decode b_M_read 5 = .ok (.aload_n 0, 1) := by decide +kernel
theorem d_M_read_6 : decode b_M_read 6 = .ok (.bipush (-2), 2) := by decide +kernel
theorem d_M_read_8 : decode b_M_read 8 = .ok (.putfield 125, 3) := by decide +kernel
theorem d_M_read_11 : decode b_M_read 11 = .ok (.aload_n 0, 1) := by decide +kernel
theorem d_M_read_12 : decode b_M_read 12 = .ok (.invokevirtual 128, 3) := by decide +kernel
theorem d_M_read_15 : decode b_M_read 15 = .ok (.istore_n 1, 1) := by decide +kernel
theorem d_M_read_16 : decode b_M_read 16 = .ok (.iload_n 1, 1) := by decide +kernel
theorem d_M_read_17 : decode b_M_read 17 = .ok (.ifCond .lt 9, 3) := by decide +kernel
theorem d_M_read_20 : decode b_M_read 20 = .ok (.aload_n 0, 1) := by decide +kernel
theorem d_M_read_21 : decode b_M_read 21 = .ok (.iload_n 1, 1) := by decide +kernel
theorem d_M_read_22 : decode b_M_read 22 = .ok (.invokevirtual 132, 3) := by decide +kernel
theorem d_M_read_25 : decode b_M_read 25 = .ok (.istore_n 1, 1) := by decide +kernel
theorem d_M_read_26 : decode b_M_read 26 = .ok (.iload_n 1, 1) := by decide +kernel
theorem d_M_read_27 : decode b_M_read 27 = .ok (.ifCond .lt 9, 3) := by decide +kernel
theorem d_M_read_30 : decode b_M_read 30 = .ok (.aload_n 0, 1) := by decide +kernel
theorem d_M_read_31 : decode b_M_read 31 = .ok (.iload_n 1, 1) := by decide +kernel
theorem d_M_read_32 : decode b_M_read 32 = .ok (.invokevirtual 135, 3) := by decide +kernel
theorem d_M_read_35 : decode b_M_read 35 = .ok (.istore_n 1, 1) := by decide +kernel
theorem d_M_read_36 : decode b_M_read 36 = .ok (.iload_n 1, 1) := by decide +kernel
theorem d_M_read_37 : decode b_M_read 37 = .ok (.ifCond .ge 7, 3) := by decide +kernel
theorem d_M_read_40 : decode b_M_read 40 = .ok (.iconst (-1), 1) := by decide +kernel
theorem d_M_read_41 : decode b_M_read 41 = .ok (.iload_n 1, 1) := by decide +kernel
theorem d_M_read_42 : decode b_M_read 42 = .ok (.isub, 1) := by decide +kernel
theorem d_M_read_43 : decode b_M_read 43 = .ok (.ireturn, 1) := by decide +kernel
theorem d_M_read_44 : decode b_M_read 44 = .ok (.aload_n 0, 1) := by decide +kernel
theorem d_M_read_45 : decode b_M_read 45 = .ok (.iload_n 1, 1) := by decide +kernel
theorem d_M_read_46 : decode b_M_read 46 = .ok (.invokevirtual 100, 3) := by decide +kernel
theorem d_M_read_49 : decode b_M_read 49 = .ok (.bipush 47, 2) := by decide +kernel
theorem d_M_read_51 : decode b_M_read 51 = .ok (.if_icmp .ne 42, 3) := by decide +kernel
theorem d_M_read_54 : decode b_M_read 54 = .ok (.aload_n 0, 1) := by decide +kernel
theorem d_M_read_55 : decode b_M_read 55 = .ok (.aload_n 0, 1) := by decide +kernel
theorem d_M_read_56 : decode b_M_read 56 = .ok (.iload_n 1, 1) := by decide +kernel
theorem d_M_read_57 : decode b_M_read 57 = .ok (.iconst 1, 1) := by decide +kernel
theorem d_M_read_58 : decode b_M_read 58 = .ok (.iadd, 1) := by decide +kernel
theorem d_M_read_59 : decode b_M_read 59 = .ok (.invokevirtual 100, 3) := by decide +kernel
theorem d_M_read_62 : decode b_M_read 62 = .ok (.invokevirtual 106, 3) := by decide +kernel
theorem d_M_read_65 : decode b_M_read 65 = .ok (.ifCond .ne 11, 3) := by decide +kernel
theorem d_M_read_68 : decode b_M_read 68 = .ok (.aload_n 0, 1) := by decide +kernel
theorem d_M_read_69 : decode b_M_read 69 = .ok (.iload_n 1, 1) := by decide +kernel
theorem d_M_read_70 : decode b_M_read 70 = .ok (.iconst 1, 1) := by decide +kernel
theorem d_M_read_71 : decode b_M_read 71 = .ok (.iadd, 1) := by decide +kernel
theorem d_M_read_72 : decode b_M_read 72 = .ok (.invokevirtual 122, 3) := by decide +kernel
theorem d_M_read_75 : decode b_M_read 75 = .ok (.ireturn, 1) := by decide +kernel
theorem d_M_read_76 : decode b_M_read 76 = .ok (.aload_n 0, 1) := by decide +kernel
theorem d_M_read_77 : decode b_M_read 77 = .ok (.aload_n 0, 1) := by decide +kernel
theorem d_M_read_78 : decode b_M_read 78 = .ok (.iload_n 1, 1) := by decide +kernel
theorem d_M_read_79 : decode b_M_read 79 = .ok (.iconst 1, 1) := by decide +kernel
theorem d_M_read_80 : decode b_M_read 80 = .ok (.iadd, 1) := by decide +kernel
theorem d_M_read_81 : decode b_M_read 81 = .ok (.invokevirtual 100, 3) := by decide +kernel
theorem d_M_read_84 : decode b_M_read 84 = .ok (.invokestatic 74, 3) := by decide +kernel
theorem d_M_read_87 : decode b_M_read 87 = .ok (.putfield 125, 3) := by decide +kernel
theorem d_M_read_90 : decode b_M_read 90 = .ok (.iinc 1 2, 3) := by decide +kernel
theorem d_M_read_93 : decode b_M_read 93 = .ok (.iload_n 1, 1) := by decide +kernel
theorem d_M_read_94 : decode b_M_read 94 = .ok (.aload_n 0, 1) := by decide +kernel
theorem d_M_read_95 : decode b_M_read 95 = .ok (.getfield 82, 3) := by decide +kernel
theorem d_M_read_98 : decode b_M_read 98 = .ok (.if_icmp .ge 7, 3) := by decide +kernel
theorem d_M_read_101 : decode b_M_read 101 = .ok (.iload_n 1, 1) := by decide +kernel
theorem d_M_read_102 : decode b_M_read 102 = .ok (.goto 5, 3) := by decide +kernel
theorem d_M_read_105 : decode b_M_read 105 = .ok (.bipush (-2), 2) := by decide +kernel
theorem d_M_read_107 : decode b_M_read 107 = .ok (.ireturn, 1) := by decide +kernel
theorem d_M_cell_0 : decode b_M_cell 0 = .ok (.iload_n 0, 1) := by decide +kernel
theorem d_M_cell_1 : decode b_M_cell 1 = .ok (.iconst 3, 1) := by decide +kernel
theorem d_M_cell_2 : decode b_M_cell 2 = .ok (.invokestatic 138, 3) := by decide +kernel
theorem d_M_cell_5 : decode b_M_cell 5 = .ok (.ifCond .eq 35, 3) := by decide +kernel
theorem d_M_cell_8 : decode b_M_cell 8 = .ok (.iload_n 1, 1) := by decide +kernel
theorem d_M_cell_9 : decode b_M_cell 9 = .ok (.bipush 6, 2) := by decide +kernel
theorem d_M_cell_11 : decode b_M_cell 11 = .ok (.invokestatic 138, 3) := by decide +kernel
theorem d_M_cell_14 : decode b_M_cell 14 = .ok (.ifCond .eq 26, 3) := by decide +kernel
theorem d_M_cell_17 : decode b_M_cell 17 = .ok (.iload_n 2, 1) := by decide +kernel
theorem d_M_cell_18 : decode b_M_cell 18 = .ok (.bipush 6, 2) := by decide +kernel
theorem d_M_cell_20 : decode b_M_cell 20 = .ok (.invokestatic 138, 3) := by decide +kernel
theorem d_M_cell_23 : decode b_M_cell 23 = .ok (.ifCond .eq 17, 3) := by decide +kernel
theorem d_M_cell_26 : decode b_M_cell 26 = .ok (.bipush 36, 2) := by decide +kernel
theorem d_M_cell_28 : decode b_M_cell 28 = .ok (.iload_n 0, 1) := by decide +kernel
theorem d_M_cell_29 : decode b_M_cell 29 = .ok (.imul, 1) := by decide +kernel
theorem d_M_cell_30 : decode b_M_cell 30 = .ok (.bipush 6, 2) := by decide +kernel
theorem d_M_cell_32 : decode b_M_cell 32 = .ok (.iload_n 1, 1) := by decide +kernel
theorem d_M_cell_33 : decode b_M_cell 33 = .ok (.imul, 1) := by decide +kernel
theorem d_M_cell_34 : decode b_M_cell 34 = .ok (.iadd, 1) := by decide +kernel
theorem d_M_cell_35 : decode b_M_cell 35 = .ok (.iload_n 2, 1) := by decide +kernel
theorem d_M_cell_36 : decode b_M_cell 36 = .ok (.iadd, 1) := by decide +kernel
theorem d_M_cell_37 : decode b_M_cell 37 = .ok (.goto 4, 3) := by decide +kernel
theorem d_M_cell_40 : decode b_M_cell 40 = .ok (.iconst (-1), 1) := by decide +kernel
theorem d_M_cell_41 : decode b_M_cell 41 = .ok (.ireturn, 1) := by decide +kernel
theorem d_M_change_0 : decode b_M_change 0 = .ok (.iload_n 1, 1) := by decide +kernel
theorem d_M_change_1 : decode b_M_change 1 = .ok (.iload_n 2, 1) := by decide +kernel
theorem d_M_change_2 : decode b_M_change 2 = .ok (.iload_n 3, 1) := by decide +kernel
theorem d_M_change_3 : decode b_M_change 3 = .ok (.invokestatic 142, 3) := by decide +kernel
theorem d_M_change_6 : decode b_M_change 6 = .ok (.istore 5, 2) := by decide +kernel
theorem d_M_change_8 : decode b_M_change 8 = .ok (.iload 5, 2) := by decide +kernel
theorem d_M_change_10 : decode b_M_change 10 = .ok (.ifCond .ge 5, 3) := by decide +kernel
theorem d_M_change_13 : decode b_M_change 13 = .ok (.iconst (-1), 1) := by decide +kernel
theorem d_M_change_14 : decode b_M_change 14 = .ok (.ireturn, 1) := by decide +kernel
theorem d_M_change_15 : decode b_M_change 15 = .ok (.aload_n 0, 1) := by decide +kernel
theorem d_M_change_16 : decode b_M_change 16 = .ok (.getfield 7, 3) := by decide +kernel
theorem d_M_change_19 : decode b_M_change 19 = .ok (.iload 5, 2) := by decide +kernel
theorem d_M_change_21 : decode b_M_change 21 = .ok (.iaload, 1) := by decide +kernel
theorem d_M_change_22 : decode b_M_change 22 = .ok (.i2l, 1) := by decide +kernel
theorem d_M_change_23 : decode b_M_change 23 = .ok (.iload 4, 2) := by decide +kernel
theorem d_M_change_25 : decode b_M_change 25 = .ok (.i2l, 1) := by decide +kernel
theorem d_M_change_26 : decode b_M_change 26 = .ok (.ladd, 1) := by decide +kernel
theorem d_M_change_27 : decode b_M_change 27 = .ok (.lstore 6, 2) := by decide +kernel
theorem d_M_change_29 : decode b_M_change 29 = .ok (.lload 6, 2) := by decide +kernel
theorem d_M_change_31 : decode b_M_change 31 = .ok (.ldc2_w 146, 3) := by decide +kernel
theorem d_M_change_34 : decode b_M_change 34 = .ok (.lcmp, 1) := by decide +kernel
theorem d_M_change_35 : decode b_M_change 35 = .ok (.ifCond .gt 12, 3) := by decide +kernel
theorem d_M_change_38 : decode b_M_change 38 = .ok (.lload 6, 2) := by decide +kernel
theorem d_M_change_40 : decode b_M_change 40 = .ok (.ldc2_w 148, 3) := by decide +kernel
theorem d_M_change_43 : decode b_M_change 43 = .ok (.lcmp, 1) := by decide +kernel
theorem d_M_change_44 : decode b_M_change 44 = .ok (.ifCond .ge 5, 3) := by decide +kernel
theorem d_M_change_47 : decode b_M_change 47 = .ok (.iconst (-1), 1) := by decide +kernel
theorem d_M_change_48 : decode b_M_change 48 = .ok (.ireturn, 1) := by decide +kernel
theorem d_M_change_49 : decode b_M_change 49 = .ok (.aload_n 0, 1) := by decide +kernel
theorem d_M_change_50 : decode b_M_change 50 = .ok (.getfield 7, 3) := by decide +kernel
theorem d_M_change_53 : decode b_M_change 53 = .ok (.iload 5, 2) := by decide +kernel
theorem d_M_change_55 : decode b_M_change 55 = .ok (.dup2, 1) := by decide +kernel
theorem d_M_change_56 : decode b_M_change 56 = .ok (.iaload, 1) := by decide +kernel
theorem d_M_change_57 : decode b_M_change 57 = .ok (.iload 4, 2) := by decide +kernel
theorem d_M_change_59 : decode b_M_change 59 = .ok (.iadd, 1) := by decide +kernel
theorem d_M_change_60 : decode b_M_change 60 = .ok (.iastore, 1) := by decide +kernel
theorem d_M_change_61 : decode b_M_change 61 = .ok (.aload_n 0, 1) := by decide +kernel
theorem d_M_change_62 : decode b_M_change 62 = .ok (.getfield 13, 3) := by decide +kernel
theorem d_M_change_65 : decode b_M_change 65 = .ok (.aload_n 0, 1) := by decide +kernel
theorem d_M_change_66 : decode b_M_change 66 = .ok (.getfield 150, 3) := by decide +kernel
theorem d_M_change_69 : decode b_M_change 69 = .ok (.iload 5, 2) := by decide +kernel
theorem d_M_change_71 : decode b_M_change 71 = .ok (.iastore, 1) := by decide +kernel
theorem d_M_change_72 : decode b_M_change 72 = .ok (.aload_n 0, 1) := by decide +kernel
theorem d_M_change_73 : decode b_M_change 73 = .ok (.getfield 16, 3) := by decide +kernel
theorem d_M_change_76 : decode b_M_change 76 = .ok (.aload_n 0, 1) := by decide +kernel
theorem d_M_change_77 : decode b_M_change 77 = .ok (.getfield 150, 3) := by decide +kernel
theorem d_M_change_80 : decode b_M_change 80 = .ok (.iload 4, 2) := by decide +kernel
theorem d_M_change_82 : decode b_M_change 82 = .ok (.iastore, 1) := by decide +kernel
theorem d_M_change_83 : decode b_M_change 83 = .ok (.aload_n 0, 1) := by decide +kernel
theorem d_M_change_84 : decode b_M_change 84 = .ok (.dup, 1) := by decide +kernel
theorem d_M_change_85 : decode b_M_change 85 = .ok (.getfield 150, 3) := by decide +kernel
theorem d_M_change_88 : decode b_M_change 88 = .ok (.iconst 1, 1) := by decide +kernel
theorem d_M_change_89 : decode b_M_change 89 = .ok (.iadd, 1) := by decide +kernel
theorem d_M_change_90 : decode b_M_change 90 = .ok (.putfield 150, 3) := by decide +kernel
theorem d_M_change_93 : decode b_M_change 93 = .ok (.iconst 0, 1) := by decide +kernel
theorem d_M_change_94 : decode b_M_change 94 = .ok (.ireturn, 1) := by decide +kernel
theorem d_M_back_0 : decode b_M_back 0 = .ok (.aload_n 0, 1) := by decide +kernel
theorem d_M_back_1 : decode b_M_back 1 = .ok (.getfield 150, 3) := by decide +kernel
theorem d_M_back_4 : decode b_M_back 4 = .ok (.ifCond .ne 5, 3) := by decide +kernel
theorem d_M_back_7 : decode b_M_back 7 = .ok (.iconst (-1), 1) := by decide +kernel
theorem d_M_back_8 : decode b_M_back 8 = .ok (.ireturn, 1) := by decide +kernel
theorem d_M_back_9 : decode b_M_back 9 = .ok (.aload_n 0, 1) := by decide +kernel
theorem d_M_back_10 : decode b_M_back 10 = .ok (.dup, 1) := by decide +kernel
theorem d_M_back_11 : decode b_M_back 11 = .ok (.getfield 150, 3) := by decide +kernel
theorem d_M_back_14 : decode b_M_back 14 = .ok (.iconst 1, 1) := by decide +kernel
theorem d_M_back_15 : decode b_M_back 15 = .ok (.isub, 1) := by decide +kernel
theorem d_M_back_16 : decode b_M_back 16 = .ok (.putfield 150, 3) := by decide +kernel
theorem d_M_back_19 : decode b_M_back 19 = .ok (.aload_n 0, 1) := by decide +kernel
theorem d_M_back_20 : decode b_M_back 20 = .ok (.getfield 7, 3) := by decide +kernel
theorem d_M_back_23 : decode b_M_back 23 = .ok (.aload_n 0, 1) := by decide +kernel
theorem d_M_back_24 : decode b_M_back 24 = .ok (.getfield 13, 3) := by decide +kernel
theorem d_M_back_27 : decode b_M_back 27 = .ok (.aload_n 0, 1) := by decide +kernel
theorem d_M_back_28 : decode b_M_back 28 = .ok (.getfield 150, 3) := by decide +kernel
theorem d_M_back_31 : decode b_M_back 31 = .ok (.iaload, 1) := by decide +kernel
theorem d_M_back_32 : decode b_M_back 32 = .ok (.dup2, 1) := by decide +kernel
theorem d_M_back_33 : decode b_M_back 33 = .ok (.iaload, 1) := by decide +kernel
theorem d_M_back_34 : decode b_M_back 34 = .ok (.aload_n 0, 1) := by decide +kernel
theorem d_M_back_35 : decode b_M_back 35 = .ok (.getfield 16, 3) := by decide +kernel
theorem d_M_back_38 : decode b_M_back 38 = .ok (.aload_n 0, 1) := by decide +kernel
theorem d_M_back_39 : decode b_M_back 39 = .ok (.getfield 150, 3) := by decide +kernel
theorem d_M_back_42 : decode b_M_back 42 = .ok (.iaload, 1) := by decide +kernel
theorem d_M_back_43 : decode b_M_back 43 = .ok (.isub, 1) := by decide +kernel
theorem d_M_back_44 : decode b_M_back 44 = .ok (.iastore, 1) := by decide +kernel
theorem d_M_back_45 : decode b_M_back 45 = .ok (.aload_n 0, 1) := by decide +kernel
theorem d_M_back_46 : decode b_M_back 46 = .ok (.getfield 150, 3) := by decide +kernel
theorem d_M_back_49 : decode b_M_back 49 = .ok (.ireturn, 1) := by decide +kernel
theorem d_M_sign_0 : decode b_M_sign 0 = .ok (.iload_n 1, 1) := by decide +kernel
theorem d_M_sign_1 : decode b_M_sign 1 = .ok (.bipush 33, 2) := by decide +kernel
theorem d_M_sign_3 : decode b_M_sign 3 = .ok (.if_icmp .lt 18, 3) := by decide +kernel
theorem d_M_sign_6 : decode b_M_sign 6 = .ok (.iload_n 1, 1) := by decide +kernel
theorem d_M_sign_7 : decode b_M_sign 7 = .ok (.bipush 126, 2) := by decide +kernel
theorem d_M_sign_9 : decode b_M_sign 9 = .ok (.if_icmp .gt 12, 3) := by decide +kernel
theorem d_M_sign_12 : decode b_M_sign 12 = .ok (.aload_n 0, 1) := by decide +kernel
theorem d_M_sign_13 : decode b_M_sign 13 = .ok (.getfield 82, 3) := by decide +kernel
theorem d_M_sign_16 : decode b_M_sign 16 = .ok (.bipush 30, 2) := by decide +kernel
theorem d_M_sign_18 : decode b_M_sign 18 = .ok (.if_icmp .ne 5, 3) := by decide +kernel
theorem d_M_sign_21 : decode b_M_sign 21 = .ok (.iconst (-1), 1) := by decide +kernel
theorem d_M_sign_22 : decode b_M_sign 22 = .ok (.ireturn, 1) := by decide +kernel
theorem d_M_sign_23 : decode b_M_sign 23 = .ok (.aload_n 0, 1) := by decide +kernel
theorem d_M_sign_24 : decode b_M_sign 24 = .ok (.getfield 19, 3) := by decide +kernel
theorem d_M_sign_27 : decode b_M_sign 27 = .ok (.aload_n 0, 1) := by decide +kernel
theorem d_M_sign_28 : decode b_M_sign 28 = .ok (.getfield 82, 3) := by decide +kernel
theorem d_M_sign_31 : decode b_M_sign 31 = .ok (.iload_n 1, 1) := by decide +kernel
theorem d_M_sign_32 : decode b_M_sign 32 = .ok (.iastore, 1) := by decide +kernel
theorem d_M_sign_33 : decode b_M_sign 33 = .ok (.aload_n 0, 1) := by decide +kernel
theorem d_M_sign_34 : decode b_M_sign 34 = .ok (.dup, 1) := by decide +kernel
theorem d_M_sign_35 : decode b_M_sign 35 = .ok (.getfield 82, 3) := by decide +kernel
theorem d_M_sign_38 : decode b_M_sign 38 = .ok (.iconst 1, 1) := by decide +kernel
theorem d_M_sign_39 : decode b_M_sign 39 = .ok (.iadd, 1) := by decide +kernel
theorem d_M_sign_40 : decode b_M_sign 40 = .ok (.putfield 82, 3) := by decide +kernel
theorem d_M_sign_43 : decode b_M_sign 43 = .ok (.aload_n 0, 1) := by decide +kernel
theorem d_M_sign_44 : decode b_M_sign 44 = .ok (.getfield 82, 3) := by decide +kernel
theorem d_M_sign_47 : decode b_M_sign 47 = .ok (.ireturn, 1) := by decide +kernel
theorem d_M_clear_0 : decode b_M_clear 0 = .ok (.aload_n 0, 1) := by decide +kernel
theorem d_M_clear_1 : decode b_M_clear 1 = .ok (.iconst 0, 1) := by decide +kernel
theorem d_M_clear_2 : decode b_M_clear 2 = .ok (.putfield 82, 3) := by decide +kernel
theorem d_M_clear_5 : decode b_M_clear 5 = .ok (.iconst 0, 1) := by decide +kernel
theorem d_M_clear_6 : decode b_M_clear 6 = .ok (.ireturn, 1) := by decide +kernel
theorem d_M_fault_0 : decode b_M_fault 0 = .ok (.aload_n 0, 1) := by decide +kernel
theorem d_M_fault_1 : decode b_M_fault 1 = .ok (.invokevirtual 153, 3) := by decide +kernel
theorem d_M_fault_4 : decode b_M_fault 4 = .ok (.ireturn, 1) := by decide +kernel
theorem d_M_define_0 : decode b_M_define 0 = .ok (.iload_n 1, 1) := by decide +kernel
theorem d_M_define_1 : decode b_M_define 1 = .ok (.iconst 4, 1) := by decide +kernel
theorem d_M_define_2 : decode b_M_define 2 = .ok (.invokestatic 138, 3) := by decide +kernel
theorem d_M_define_5 : decode b_M_define 5 = .ok (.ifCond .ne 5, 3) := by decide +kernel
theorem d_M_define_8 : decode b_M_define 8 = .ok (.iconst (-1), 1) := by decide +kernel
theorem d_M_define_9 : decode b_M_define 9 = .ok (.ireturn, 1) := by decide +kernel
theorem d_M_define_10 : decode b_M_define 10 = .ok (.aload_n 0, 1) := by decide +kernel
theorem d_M_define_11 : decode b_M_define 11 = .ok (.invokevirtual 153, 3) := by decide +kernel
theorem d_M_define_14 : decode b_M_define 14 = .ok (.bipush (-2), 2) := by decide +kernel
theorem d_M_define_16 : decode b_M_define 16 = .ok (.if_icmp .eq 6, 3) := by decide +kernel
theorem d_M_define_19 : decode b_M_define 19 = .ok (.bipush (-2), 2) := by decide +kernel
theorem d_M_define_21 : decode b_M_define 21 = .ok (.ireturn, 1) := by decide +kernel
theorem d_M_define_22 : decode b_M_define 22 = .ok (.aload_n 0, 1) := by decide +kernel
theorem d_M_define_23 : decode b_M_define 23 = .ok (.getfield 85, 3) := by decide +kernel
theorem d_M_define_26 : decode b_M_define 26 = .ok (.ifCond .eq 6, 3) := by decide +kernel
theorem d_M_define_29 : decode b_M_define 29 = .ok (.bipush (-3), 2) := by decide +kernel
theorem d_M_define_31 : decode b_M_define 31 = .ok (.ireturn, 1) := by decide +kernel
theorem d_M_define_32 : decode b_M_define 32 = .ok (.aload_n 0, 1) := by decide +kernel
theorem d_M_define_33 : decode b_M_define 33 = .ok (.getfield 31, 3) := by decide +kernel
theorem d_M_define_36 : decode b_M_define 36 = .ok (.iload_n 1, 1) := by decide +kernel
theorem d_M_define_37 : decode b_M_define 37 = .ok (.iconst 1, 1) := by decide +kernel
theorem d_M_define_38 : decode b_M_define 38 = .ok (.bastore, 1) := by decide +kernel
theorem d_M_define_39 : decode b_M_define 39 = .ok (.aload_n 0, 1) := by decide +kernel
theorem d_M_define_40 : decode b_M_define 40 = .ok (.getfield 38, 3) := by decide +kernel
theorem d_M_define_43 : decode b_M_define 43 = .ok (.iload_n 1, 1) := by decide +kernel
theorem d_M_define_44 : decode b_M_define 44 = .ok (.aload_n 0, 1) := by decide +kernel
theorem d_M_define_45 : decode b_M_define 45 = .ok (.getfield 78, 3) := by decide +kernel
theorem d_M_define_48 : decode b_M_define 48 = .ok (.iastore, 1) := by decide +kernel
theorem d_M_define_49 : decode b_M_define 49 = .ok (.aload_n 0, 1) := by decide +kernel
theorem d_M_define_50 : decode b_M_define 50 = .ok (.getfield 41, 3) := by decide +kernel
theorem d_M_define_53 : decode b_M_define 53 = .ok (.iload_n 1, 1) := by decide +kernel
theorem d_M_define_54 : decode b_M_define 54 = .ok (.aload_n 0, 1) := by decide +kernel
theorem d_M_define_55 : decode b_M_define 55 = .ok (.getfield 125, 3) := by decide +kernel
theorem d_M_define_58 : decode b_M_define 58 = .ok (.iastore, 1) := by decide +kernel
theorem d_M_define_59 : decode b_M_define 59 = .ok (.aload_n 0, 1) := by decide +kernel
theorem d_M_define_60 : decode b_M_define 60 = .ok (.getfield 44, 3) := by decide +kernel
theorem d_M_define_63 : decode b_M_define 63 = .ok (.iload_n 1, 1) := by decide +kernel
theorem d_M_define_64 : decode b_M_define 64 = .ok (.aload_n 0, 1) := by decide +kernel
theorem d_M_define_65 : decode b_M_define 65 = .ok (.getfield 119, 3) := by decide +kernel
theorem d_M_define_68 : decode b_M_define 68 = .ok (.iastore, 1) := by decide +kernel
theorem d_M_define_69 : decode b_M_define 69 = .ok (.iconst 0, 1) := by decide +kernel
theorem d_M_define_70 : decode b_M_define 70 = .ok (.istore_n 2, 1) := by decide +kernel
theorem d_M_define_71 : decode b_M_define 71 = .ok (.iconst 0, 1) := by decide +kernel
theorem d_M_define_72 : decode b_M_define 72 = .ok (.istore_n 3, 1) := by decide +kernel
theorem d_M_define_73 : decode b_M_define 73 = .ok (.iload_n 3, 1) := by decide +kernel
theorem d_M_define_74 : decode b_M_define 74 = .ok (.bipush 81, 2) := by decide +kernel
theorem d_M_define_76 : decode b_M_define 76 = .ok (.if_icmp .ge 38, 3) := by decide +kernel
theorem d_M_define_79 : decode b_M_define 79 = .ok (.aload_n 0, 1) := by decide +kernel
theorem d_M_define_80 : decode b_M_define 80 = .ok (.getfield 50, 3) := by decide +kernel
theorem d_M_define_83 : decode b_M_define 83 = .ok (.bipush 81, 2) := by decide +kernel
theorem d_M_define_85 : decode b_M_define 85 = .ok (.iload_n 1, 1) := by decide +kernel
theorem d_M_define_86 : decode b_M_define 86 = .ok (.imul, 1) := by decide +kernel
theorem d_M_define_87 : decode b_M_define 87 = .ok (.iload_n 3, 1) := by decide +kernel
theorem d_M_define_88 : decode b_M_define 88 = .ok (.iadd, 1) := by decide +kernel
theorem d_M_define_89 : decode b_M_define 89 = .ok (.aload_n 0, 1) := by decide +kernel
theorem d_M_define_90 : decode b_M_define 90 = .ok (.getfield 53, 3) := by decide +kernel
theorem d_M_define_93 : decode b_M_define 93 = .ok (.iload_n 3, 1) := by decide +kernel
theorem d_M_define_94 : decode b_M_define 94 = .ok (.iaload, 1) := by decide +kernel
theorem d_M_define_95 : decode b_M_define 95 = .ok (.iastore, 1) := by decide +kernel
theorem d_M_define_96 : decode b_M_define 96 = .ok (.aload_n 0, 1) := by decide +kernel
theorem d_M_define_97 : decode b_M_define 97 = .ok (.getfield 53, 3) := by decide +kernel
theorem d_M_define_100 : decode b_M_define 100 = .ok (.iload_n 3, 1) := by decide +kernel
theorem d_M_define_101 : decode b_M_define 101 = .ok (.iaload, 1) := by decide +kernel
theorem d_M_define_102 : decode b_M_define 102 = .ok (.ifCond .eq 6, 3) := by decide +kernel
theorem d_M_define_105 : decode b_M_define 105 = .ok (.iinc 2 1, 3) := by decide +kernel
theorem d_M_define_108 : decode b_M_define 108 = .ok (.iinc 3 1, 3) := by decide +kernel
theorem d_M_define_111 : decode b_M_define 111 = .ok (.goto (-38), 3) := by decide +kernel
theorem d_M_define_114 : decode b_M_define 114 = .ok (.iconst 0, 1) := by decide +kernel
theorem d_M_define_115 : decode b_M_define 115 = .ok (.istore_n 3, 1) := by decide +kernel
theorem d_M_define_116 : decode b_M_define 116 = .ok (.iload_n 3, 1) := by decide +kernel
theorem d_M_define_117 : decode b_M_define 117 = .ok (.aload_n 0, 1) := by decide +kernel
theorem d_M_define_118 : decode b_M_define 118 = .ok (.getfield 119, 3) := by decide +kernel
theorem d_M_define_121 : decode b_M_define 121 = .ok (.if_icmp .ge 47, 3) := by decide +kernel
theorem d_M_define_124 : decode b_M_define 124 = .ok (.aload_n 0, 1) := by decide +kernel
theorem d_M_define_125 : decode b_M_define 125 = .ok (.getfield 47, 3) := by decide +kernel
theorem d_M_define_128 : decode b_M_define 128 = .ok (.bipush 10, 2) := by decide +kernel
theorem d_M_define_130 : decode b_M_define 130 = .ok (.iload_n 1, 1) := by decide +kernel
theorem d_M_define_131 : decode b_M_define 131 = .ok (.imul, 1) := by decide +kernel
theorem d_M_define_132 : decode b_M_define 132 = .ok (.iload_n 3, 1) := by decide +kernel
theorem d_M_define_133 : decode b_M_define 133 = .ok (.iadd, 1) := by decide +kernel
theorem d_M_define_134 : decode b_M_define 134 = .ok (.aload_n 0, 1) := by decide +kernel
theorem d_M_define_135 : decode b_M_define 135 = .ok (.getfield 22, 3) := by decide +kernel
theorem d_M_define_138 : decode b_M_define 138 = .ok (.iload_n 3, 1) := by decide +kernel
theorem d_M_define_139 : decode b_M_define 139 = .ok (.iaload, 1) := by decide +kernel
theorem d_M_define_140 : decode b_M_define 140 = .ok (.sipush 128, 3) := by decide +kernel
theorem d_M_define_143 : decode b_M_define 143 = .ok (.imul, 1) := by decide +kernel
theorem d_M_define_144 : decode b_M_define 144 = .ok (.aload_n 0, 1) := by decide +kernel
theorem d_M_define_145 : decode b_M_define 145 = .ok (.getfield 25, 3) := by decide +kernel
end
section
theorem d_M_define_148 : decode b_M_define 148 = .ok (.iload_n 3, 1) := by decide +kernel
theorem d_M_define_149 : decode b_M_define 149 = .ok (.iaload, 1) := by decide +kernel
theorem d_M_define_150 : decode b_M_define 150 = .ok (.iadd, 1) := by decide +kernel
theorem d_M_define_151 : decode b_M_define 151 = .ok (.bipush 16, 2) := by decide +kernel
theorem d_M_define_153 : decode b_M_define 153 = .ok (.imul, 1) := by decide +kernel
theorem d_M_define_154 : decode b_M_define 154 = .ok (.aload_n 0, 1) := by decide +kernel
theorem d_M_define_155 : decode b_M_define 155 = .ok (.getfield 28, 3) := by decide +kernel
theorem d_M_define_158 : decode b_M_define 158 = .ok (.iload_n 3, 1) := by decide +kernel
theorem d_M_define_159 : decode b_M_define 159 = .ok (.iaload, 1) := by decide +kernel
theorem d_M_define_160 : decode b_M_define 160 = .ok (.iadd, 1) := by decide +kernel
theorem d_M_define_161 : decode b_M_define 161 = .ok (.iastore, 1) := by decide +kernel
theorem d_M_define_162 : decode b_M_define 162 = .ok (.iinc 3 1, 3) := by decide +kernel
theorem d_M_define_165 : decode b_M_define 165 = .ok (.goto (-49), 3) := by decide +kernel
theorem d_M_define_168 : decode b_M_define 168 = .ok (.aload_n 0, 1) := by decide +kernel
theorem d_M_define_169 : decode b_M_define 169 = .ok (.getfield 35, 3) := by decide +kernel
theorem d_M_define_172 : decode b_M_define 172 = .ok (.iload_n 1, 1) := by decide +kernel
theorem d_M_define_173 : decode b_M_define 173 = .ok (.iload_n 2, 1) := by decide +kernel
theorem d_M_define_174 : decode b_M_define 174 = .ok (.iastore, 1) := by decide +kernel
theorem d_M_define_175 : decode b_M_define 175 = .ok (.iload_n 2, 1) := by decide +kernel
theorem d_M_define_176 : decode b_M_define 176 = .ok (.ireturn, 1) := by decide +kernel
theorem d_M_drop_0 : decode b_M_drop 0 = .ok (.iload_n 1, 1) := by decide +kernel
theorem d_M_drop_1 : decode b_M_drop 1 = .ok (.iconst 4, 1) := by decide +kernel
theorem d_M_drop_2 : decode b_M_drop 2 = .ok (.invokestatic 138, 3) := by decide +kernel
theorem d_M_drop_5 : decode b_M_drop 5 = .ok (.ifCond .eq 12, 3) := by decide +kernel
theorem d_M_drop_8 : decode b_M_drop 8 = .ok (.aload_n 0, 1) := by decide +kernel
theorem d_M_drop_9 : decode b_M_drop 9 = .ok (.getfield 31, 3) := by decide +kernel
theorem d_M_drop_12 : decode b_M_drop 12 = .ok (.iload_n 1, 1) := by decide +kernel
theorem d_M_drop_13 : decode b_M_drop 13 = .ok (.baload, 1) := by decide +kernel
theorem d_M_drop_14 : decode b_M_drop 14 = .ok (.ifCond .ne 5, 3) := by decide +kernel
theorem d_M_drop_17 : decode b_M_drop 17 = .ok (.iconst (-1), 1) := by decide +kernel
theorem d_M_drop_18 : decode b_M_drop 18 = .ok (.ireturn, 1) := by decide +kernel
theorem d_M_drop_19 : decode b_M_drop 19 = .ok (.aload_n 0, 1) := by decide +kernel
theorem d_M_drop_20 : decode b_M_drop 20 = .ok (.getfield 31, 3) := by decide +kernel
theorem d_M_drop_23 : decode b_M_drop 23 = .ok (.iload_n 1, 1) := by decide +kernel
theorem d_M_drop_24 : decode b_M_drop 24 = .ok (.iconst 0, 1) := by decide +kernel
theorem d_M_drop_25 : decode b_M_drop 25 = .ok (.bastore, 1) := by decide +kernel
theorem d_M_drop_26 : decode b_M_drop 26 = .ok (.iconst 0, 1) := by decide +kernel
theorem d_M_drop_27 : decode b_M_drop 27 = .ok (.ireturn, 1) := by decide +kernel
theorem d_M_of_0 : decode b_M_of 0 = .ok (.iload_n 1, 1) := by decide +kernel
theorem d_M_of_1 : decode b_M_of 1 = .ok (.ifCond .ne 11, 3) := by decide +kernel
theorem d_M_of_4 : decode b_M_of 4 = .ok (.iload_n 0, 1) := by decide +kernel
theorem d_M_of_5 : decode b_M_of 5 = .ok (.sipush 216, 3) := by decide +kernel
theorem d_M_of_8 : decode b_M_of 8 = .ok (.idiv, 1) := by decide +kernel
theorem d_M_of_9 : decode b_M_of 9 = .ok (.goto 37, 3) := by decide +kernel
theorem d_M_of_12 : decode b_M_of 12 = .ok (.iload_n 1, 1) := by decide +kernel
theorem d_M_of_13 : decode b_M_of 13 = .ok (.iconst 1, 1) := by decide +kernel
theorem d_M_of_14 : decode b_M_of 14 = .ok (.if_icmp .ne 13, 3) := by decide +kernel
theorem d_M_of_17 : decode b_M_of 17 = .ok (.iload_n 0, 1) := by decide +kernel
theorem d_M_of_18 : decode b_M_of 18 = .ok (.bipush 36, 2) := by decide +kernel
theorem d_M_of_20 : decode b_M_of 20 = .ok (.idiv, 1) := by decide +kernel
theorem d_M_of_21 : decode b_M_of 21 = .ok (.bipush 6, 2) := by decide +kernel
theorem d_M_of_23 : decode b_M_of 23 = .ok (.irem, 1) := by decide +kernel
theorem d_M_of_24 : decode b_M_of 24 = .ok (.goto 22, 3) := by decide +kernel
theorem d_M_of_27 : decode b_M_of 27 = .ok (.iload_n 1, 1) := by decide +kernel
theorem d_M_of_28 : decode b_M_of 28 = .ok (.iconst 2, 1) := by decide +kernel
theorem d_M_of_29 : decode b_M_of 29 = .ok (.if_icmp .ne 13, 3) := by decide +kernel
theorem d_M_of_32 : decode b_M_of 32 = .ok (.iload_n 0, 1) := by decide +kernel
theorem d_M_of_33 : decode b_M_of 33 = .ok (.bipush 6, 2) := by decide +kernel
theorem d_M_of_35 : decode b_M_of 35 = .ok (.idiv, 1) := by decide +kernel
theorem d_M_of_36 : decode b_M_of 36 = .ok (.bipush 6, 2) := by decide +kernel
theorem d_M_of_38 : decode b_M_of 38 = .ok (.irem, 1) := by decide +kernel
theorem d_M_of_39 : decode b_M_of 39 = .ok (.goto 7, 3) := by decide +kernel
theorem d_M_of_42 : decode b_M_of 42 = .ok (.iload_n 0, 1) := by decide +kernel
theorem d_M_of_43 : decode b_M_of 43 = .ok (.bipush 6, 2) := by decide +kernel
theorem d_M_of_45 : decode b_M_of 45 = .ok (.irem, 1) := by decide +kernel
theorem d_M_of_46 : decode b_M_of 46 = .ok (.ireturn, 1) := by decide +kernel
theorem d_M_meets_0 : decode b_M_meets 0 = .ok (.iconst 0, 1) := by decide +kernel
theorem d_M_meets_1 : decode b_M_meets 1 = .ok (.istore_n 3, 1) := by decide +kernel
theorem d_M_meets_2 : decode b_M_meets 2 = .ok (.iload_n 3, 1) := by decide +kernel
theorem d_M_meets_3 : decode b_M_meets 3 = .ok (.aload_n 0, 1) := by decide +kernel
theorem d_M_meets_4 : decode b_M_meets 4 = .ok (.getfield 44, 3) := by decide +kernel
theorem d_M_meets_7 : decode b_M_meets 7 = .ok (.iload_n 1, 1) := by decide +kernel
theorem d_M_meets_8 : decode b_M_meets 8 = .ok (.iaload, 1) := by decide +kernel
theorem d_M_meets_9 : decode b_M_meets 9 = .ok (.if_icmp .ge 139, 3) := by decide +kernel
theorem d_M_meets_12 : decode b_M_meets 12 = .ok (.aload_n 0, 1) := by decide +kernel
theorem d_M_meets_13 : decode b_M_meets 13 = .ok (.getfield 47, 3) := by decide +kernel
theorem d_M_meets_16 : decode b_M_meets 16 = .ok (.bipush 10, 2) := by decide +kernel
theorem d_M_meets_18 : decode b_M_meets 18 = .ok (.iload_n 1, 1) := by decide +kernel
theorem d_M_meets_19 : decode b_M_meets 19 = .ok (.imul, 1) := by decide +kernel
theorem d_M_meets_20 : decode b_M_meets 20 = .ok (.iload_n 3, 1) := by decide +kernel
theorem d_M_meets_21 : decode b_M_meets 21 = .ok (.iadd, 1) := by decide +kernel
theorem d_M_meets_22 : decode b_M_meets 22 = .ok (.iaload, 1) := by decide +kernel
theorem d_M_meets_23 : decode b_M_meets 23 = .ok (.istore 4, 2) := by decide +kernel
theorem d_M_meets_25 : decode b_M_meets 25 = .ok (.iload_n 2, 1) := by decide +kernel
theorem d_M_meets_26 : decode b_M_meets 26 = .ok (.iload 4, 2) := by decide +kernel
theorem d_M_meets_28 : decode b_M_meets 28 = .ok (.sipush 2048, 3) := by decide +kernel
theorem d_M_meets_31 : decode b_M_meets 31 = .ok (.idiv, 1) := by decide +kernel
theorem d_M_meets_32 : decode b_M_meets 32 = .ok (.invokestatic 156, 3) := by decide +kernel
theorem d_M_meets_35 : decode b_M_meets 35 = .ok (.istore 5, 2) := by decide +kernel
theorem d_M_meets_37 : decode b_M_meets 37 = .ok (.iload 4, 2) := by decide +kernel
theorem d_M_meets_39 : decode b_M_meets 39 = .ok (.bipush 16, 2) := by decide +kernel
theorem d_M_meets_41 : decode b_M_meets 41 = .ok (.irem, 1) := by decide +kernel
theorem d_M_meets_42 : decode b_M_meets 42 = .ok (.istore 6, 2) := by decide +kernel
theorem d_M_meets_44 : decode b_M_meets 44 = .ok (.iload 4, 2) := by decide +kernel
theorem d_M_meets_46 : decode b_M_meets 46 = .ok (.bipush 16, 2) := by decide +kernel
theorem d_M_meets_48 : decode b_M_meets 48 = .ok (.idiv, 1) := by decide +kernel
theorem d_M_meets_49 : decode b_M_meets 49 = .ok (.sipush 128, 3) := by decide +kernel
theorem d_M_meets_52 : decode b_M_meets 52 = .ok (.irem, 1) := by decide +kernel
theorem d_M_meets_53 : decode b_M_meets 53 = .ok (.istore 7, 2) := by decide +kernel
theorem d_M_meets_55 : decode b_M_meets 55 = .ok (.iload 7, 2) := by decide +kernel
theorem d_M_meets_57 : decode b_M_meets 57 = .ok (.bipush 61, 2) := by decide +kernel
theorem d_M_meets_59 : decode b_M_meets 59 = .ok (.if_icmp .ne 18, 3) := by decide +kernel
theorem d_M_meets_62 : decode b_M_meets 62 = .ok (.iload 5, 2) := by decide +kernel
theorem d_M_meets_64 : decode b_M_meets 64 = .ok (.iload 6, 2) := by decide +kernel
theorem d_M_meets_66 : decode b_M_meets 66 = .ok (.if_icmp .ne 7, 3) := by decide +kernel
theorem d_M_meets_69 : decode b_M_meets 69 = .ok (.iconst 1, 1) := by decide +kernel
theorem d_M_meets_70 : decode b_M_meets 70 = .ok (.goto 63, 3) := by decide +kernel
theorem d_M_meets_73 : decode b_M_meets 73 = .ok (.iconst 0, 1) := by decide +kernel
theorem d_M_meets_74 : decode b_M_meets 74 = .ok (.goto 59, 3) := by decide +kernel
theorem d_M_meets_77 : decode b_M_meets 77 = .ok (.iload 7, 2) := by decide +kernel
theorem d_M_meets_79 : decode b_M_meets 79 = .ok (.bipush 35, 2) := by decide +kernel
theorem d_M_meets_81 : decode b_M_meets 81 = .ok (.if_icmp .ne 18, 3) := by decide +kernel
theorem d_M_meets_84 : decode b_M_meets 84 = .ok (.iload 5, 2) := by decide +kernel
theorem d_M_meets_86 : decode b_M_meets 86 = .ok (.iload 6, 2) := by decide +kernel
theorem d_M_meets_88 : decode b_M_meets 88 = .ok (.if_icmp .eq 7, 3) := by decide +kernel
theorem d_M_meets_91 : decode b_M_meets 91 = .ok (.iconst 1, 1) := by decide +kernel
theorem d_M_meets_92 : decode b_M_meets 92 = .ok (.goto 41, 3) := by decide +kernel
theorem d_M_meets_95 : decode b_M_meets 95 = .ok (.iconst 0, 1) := by decide +kernel
theorem d_M_meets_96 : decode b_M_meets 96 = .ok (.goto 37, 3) := by decide +kernel
theorem d_M_meets_99 : decode b_M_meets 99 = .ok (.iload 7, 2) := by decide +kernel
theorem d_M_meets_101 : decode b_M_meets 101 = .ok (.bipush 60, 2) := by decide +kernel
theorem d_M_meets_103 : decode b_M_meets 103 = .ok (.if_icmp .ne 18, 3) := by decide +kernel
theorem d_M_meets_106 : decode b_M_meets 106 = .ok (.iload 5, 2) := by decide +kernel
theorem d_M_meets_108 : decode b_M_meets 108 = .ok (.iload 6, 2) := by decide +kernel
theorem d_M_meets_110 : decode b_M_meets 110 = .ok (.if_icmp .ge 7, 3) := by decide +kernel
theorem d_M_meets_113 : decode b_M_meets 113 = .ok (.iconst 1, 1) := by decide +kernel
theorem d_M_meets_114 : decode b_M_meets 114 = .ok (.goto 19, 3) := by decide +kernel
theorem d_M_meets_117 : decode b_M_meets 117 = .ok (.iconst 0, 1) := by decide +kernel
theorem d_M_meets_118 : decode b_M_meets 118 = .ok (.goto 15, 3) := by decide +kernel
theorem d_M_meets_121 : decode b_M_meets 121 = .ok (.iload 5, 2) := by decide +kernel
theorem d_M_meets_123 : decode b_M_meets 123 = .ok (.iload 6, 2) := by decide +kernel
theorem d_M_meets_125 : decode b_M_meets 125 = .ok (.if_icmp .le 7, 3) := by decide +kernel
theorem d_M_meets_128 : decode b_M_meets 128 = .ok (.iconst 1, 1) := by decide +kernel
theorem d_M_meets_129 : decode b_M_meets 129 = .ok (.goto 4, 3) := by decide +kernel
theorem d_M_meets_132 : decode b_M_meets 132 = .ok (.iconst 0, 1) := by decide +kernel
theorem d_M_meets_133 : decode b_M_meets 133 = .ok (.istore 8, 2) := by decide +kernel
theorem d_M_meets_135 : decode b_M_meets 135 = .ok (.iload 8, 2) := by decide +kernel
theorem d_M_meets_137 : decode b_M_meets 137 = .ok (.ifCond .ne 5, 3) := by decide +kernel
theorem d_M_meets_140 : decode b_M_meets 140 = .ok (.iconst 0, 1) := by decide +kernel
theorem d_M_meets_141 : decode b_M_meets 141 = .ok (.ireturn, 1) := by decide +kernel
theorem d_M_meets_142 : decode b_M_meets 142 = .ok (.iinc 3 1, 3) := by decide +kernel
theorem d_M_meets_145 : decode b_M_meets 145 = .ok (.goto (-143), 3) := by decide +kernel
theorem d_M_meets_148 : decode b_M_meets 148 = .ok (.iconst 1, 1) := by decide +kernel
theorem d_M_meets_149 : decode b_M_meets 149 = .ok (.ireturn, 1) := by decide +kernel
theorem d_M_weight_0 : decode b_M_weight 0 = .ok (.iload_n 2, 1) := by decide +kernel
theorem d_M_weight_1 : decode b_M_weight 1 = .ok (.iconst 0, 1) := by decide +kernel
theorem d_M_weight_2 : decode b_M_weight 2 = .ok (.invokestatic 156, 3) := by decide +kernel
theorem d_M_weight_5 : decode b_M_weight 5 = .ok (.istore_n 3, 1) := by decide +kernel
theorem d_M_weight_6 : decode b_M_weight 6 = .ok (.iload_n 2, 1) := by decide +kernel
theorem d_M_weight_7 : decode b_M_weight 7 = .ok (.iconst 1, 1) := by decide +kernel
theorem d_M_weight_8 : decode b_M_weight 8 = .ok (.invokestatic 156, 3) := by decide +kernel
theorem d_M_weight_11 : decode b_M_weight 11 = .ok (.istore 4, 2) := by decide +kernel
theorem d_M_weight_13 : decode b_M_weight 13 = .ok (.iload_n 2, 1) := by decide +kernel
theorem d_M_weight_14 : decode b_M_weight 14 = .ok (.iconst 2, 1) := by decide +kernel
theorem d_M_weight_15 : decode b_M_weight 15 = .ok (.invokestatic 156, 3) := by decide +kernel
theorem d_M_weight_18 : decode b_M_weight 18 = .ok (.istore 5, 2) := by decide +kernel
theorem d_M_weight_20 : decode b_M_weight 20 = .ok (.iload_n 2, 1) := by decide +kernel
theorem d_M_weight_21 : decode b_M_weight 21 = .ok (.iconst 3, 1) := by decide +kernel
theorem d_M_weight_22 : decode b_M_weight 22 = .ok (.invokestatic 156, 3) := by decide +kernel
theorem d_M_weight_25 : decode b_M_weight 25 = .ok (.istore 6, 2) := by decide +kernel
theorem d_M_weight_27 : decode b_M_weight 27 = .ok (.aload_n 0, 1) := by decide +kernel
theorem d_M_weight_28 : decode b_M_weight 28 = .ok (.getfield 38, 3) := by decide +kernel
theorem d_M_weight_31 : decode b_M_weight 31 = .ok (.iload_n 1, 1) := by decide +kernel
theorem d_M_weight_32 : decode b_M_weight 32 = .ok (.iaload, 1) := by decide +kernel
theorem d_M_weight_33 : decode b_M_weight 33 = .ok (.istore 7, 2) := by decide +kernel
theorem d_M_weight_35 : decode b_M_weight 35 = .ok (.iload 7, 2) := by decide +kernel
theorem d_M_weight_37 : decode b_M_weight 37 = .ok (.iconst 2, 1) := by decide +kernel
theorem d_M_weight_38 : decode b_M_weight 38 = .ok (.irem, 1) := by decide +kernel
theorem d_M_weight_39 : decode b_M_weight 39 = .ok (.ifCond .ne 7, 3) := by decide +kernel
theorem d_M_weight_42 : decode b_M_weight 42 = .ok (.iload_n 3, 1) := by decide +kernel
theorem d_M_weight_43 : decode b_M_weight 43 = .ok (.ifCond .gt 36, 3) := by decide +kernel
theorem d_M_weight_46 : decode b_M_weight 46 = .ok (.iload 7, 2) := by decide +kernel
theorem d_M_weight_48 : decode b_M_weight 48 = .ok (.iconst 4, 1) := by decide +kernel
theorem d_M_weight_49 : decode b_M_weight 49 = .ok (.if_icmp .ne 8, 3) := by decide +kernel
theorem d_M_weight_52 : decode b_M_weight 52 = .ok (.iload 4, 2) := by decide +kernel
theorem d_M_weight_54 : decode b_M_weight 54 = .ok (.ifCond .gt 25, 3) := by decide +kernel
theorem d_M_weight_57 : decode b_M_weight 57 = .ok (.iload 7, 2) := by decide +kernel
theorem d_M_weight_59 : decode b_M_weight 59 = .ok (.iconst 1, 1) := by decide +kernel
theorem d_M_weight_60 : decode b_M_weight 60 = .ok (.if_icmp .ne 8, 3) := by decide +kernel
theorem d_M_weight_63 : decode b_M_weight 63 = .ok (.iload 5, 2) := by decide +kernel
theorem d_M_weight_65 : decode b_M_weight 65 = .ok (.ifCond .gt 14, 3) := by decide +kernel
theorem d_M_weight_68 : decode b_M_weight 68 = .ok (.iload 7, 2) := by decide +kernel
theorem d_M_weight_70 : decode b_M_weight 70 = .ok (.iconst 4, 1) := by decide +kernel
theorem d_M_weight_71 : decode b_M_weight 71 = .ok (.if_icmp .ge 12, 3) := by decide +kernel
theorem d_M_weight_74 : decode b_M_weight 74 = .ok (.iload 6, 2) := by decide +kernel
theorem d_M_weight_76 : decode b_M_weight 76 = .ok (.ifCond .le 7, 3) := by decide +kernel
theorem d_M_weight_79 : decode b_M_weight 79 = .ok (.iconst 1, 1) := by decide +kernel
theorem d_M_weight_80 : decode b_M_weight 80 = .ok (.goto 4, 3) := by decide +kernel
theorem d_M_weight_83 : decode b_M_weight 83 = .ok (.iconst 0, 1) := by decide +kernel
theorem d_M_weight_84 : decode b_M_weight 84 = .ok (.istore 8, 2) := by decide +kernel
theorem d_M_weight_86 : decode b_M_weight 86 = .ok (.iload 8, 2) := by decide +kernel
theorem d_M_weight_88 : decode b_M_weight 88 = .ok (.ifCond .eq 5, 3) := by decide +kernel
theorem d_M_weight_91 : decode b_M_weight 91 = .ok (.lconst 0, 1) := by decide +kernel
theorem d_M_weight_92 : decode b_M_weight 92 = .ok (.lreturn, 1) := by decide +kernel
theorem d_M_weight_93 : decode b_M_weight 93 = .ok (.lconst 1, 1) := by decide +kernel
theorem d_M_weight_94 : decode b_M_weight 94 = .ok (.lstore 9, 2) := by decide +kernel
theorem d_M_weight_96 : decode b_M_weight 96 = .ok (.iload 7, 2) := by decide +kernel
theorem d_M_weight_98 : decode b_M_weight 98 = .ok (.iconst 1, 1) := by decide +kernel
theorem d_M_weight_99 : decode b_M_weight 99 = .ok (.iand, 1) := by decide +kernel
theorem d_M_weight_100 : decode b_M_weight 100 = .ok (.ifCond .eq 21, 3) := by decide +kernel
theorem d_M_weight_103 : decode b_M_weight 103 = .ok (.lload 9, 2) := by decide +kernel
theorem d_M_weight_105 : decode b_M_weight 105 = .ok (.aload_n 0, 1) := by decide +kernel
theorem d_M_weight_106 : decode b_M_weight 106 = .ok (.getfield 7, 3) := by decide +kernel
theorem d_M_weight_109 : decode b_M_weight 109 = .ok (.iconst 0, 1) := by decide +kernel
theorem d_M_weight_110 : decode b_M_weight 110 = .ok (.iload_n 3, 1) := by decide +kernel
theorem d_M_weight_111 : decode b_M_weight 111 = .ok (.iload 4, 2) := by decide +kernel
theorem d_M_weight_113 : decode b_M_weight 113 = .ok (.invokestatic 142, 3) := by decide +kernel
theorem d_M_weight_116 : decode b_M_weight 116 = .ok (.iaload, 1) := by decide +kernel
theorem d_M_weight_117 : decode b_M_weight 117 = .ok (.i2l, 1) := by decide +kernel
theorem d_M_weight_118 : decode b_M_weight 118 = .ok (.lmul, 1) := by decide +kernel
theorem d_M_weight_119 : decode b_M_weight 119 = .ok (.lstore 9, 2) := by decide +kernel
theorem d_M_weight_121 : decode b_M_weight 121 = .ok (.iload 7, 2) := by decide +kernel
theorem d_M_weight_123 : decode b_M_weight 123 = .ok (.iconst 2, 1) := by decide +kernel
theorem d_M_weight_124 : decode b_M_weight 124 = .ok (.iand, 1) := by decide +kernel
theorem d_M_weight_125 : decode b_M_weight 125 = .ok (.ifCond .eq 22, 3) := by decide +kernel
theorem d_M_weight_128 : decode b_M_weight 128 = .ok (.lload 9, 2) := by decide +kernel
theorem d_M_weight_130 : decode b_M_weight 130 = .ok (.aload_n 0, 1) := by decide +kernel
theorem d_M_weight_131 : decode b_M_weight 131 = .ok (.getfield 7, 3) := by decide +kernel
theorem d_M_weight_134 : decode b_M_weight 134 = .ok (.iconst 1, 1) := by decide +kernel
theorem d_M_weight_135 : decode b_M_weight 135 = .ok (.iload 4, 2) := by decide +kernel
theorem d_M_weight_137 : decode b_M_weight 137 = .ok (.iload 5, 2) := by decide +kernel
theorem d_M_weight_139 : decode b_M_weight 139 = .ok (.invokestatic 142, 3) := by decide +kernel
theorem d_M_weight_142 : decode b_M_weight 142 = .ok (.iaload, 1) := by decide +kernel
theorem d_M_weight_143 : decode b_M_weight 143 = .ok (.i2l, 1) := by decide +kernel
theorem d_M_weight_144 : decode b_M_weight 144 = .ok (.lmul, 1) := by decide +kernel
theorem d_M_weight_145 : decode b_M_weight 145 = .ok (.lstore 9, 2) := by decide +kernel
theorem d_M_weight_147 : decode b_M_weight 147 = .ok (.iload 7, 2) := by decide +kernel
theorem d_M_weight_149 : decode b_M_weight 149 = .ok (.iconst 4, 1) := by decide +kernel
theorem d_M_weight_150 : decode b_M_weight 150 = .ok (.iand, 1) := by decide +kernel
theorem d_M_weight_151 : decode b_M_weight 151 = .ok (.ifCond .eq 22, 3) := by decide +kernel
theorem d_M_weight_154 : decode b_M_weight 154 = .ok (.lload 9, 2) := by decide +kernel
theorem d_M_weight_156 : decode b_M_weight 156 = .ok (.aload_n 0, 1) := by decide +kernel
theorem d_M_weight_157 : decode b_M_weight 157 = .ok (.getfield 7, 3) := by decide +kernel
theorem d_M_weight_160 : decode b_M_weight 160 = .ok (.iconst 2, 1) := by decide +kernel
theorem d_M_weight_161 : decode b_M_weight 161 = .ok (.iload 5, 2) := by decide +kernel
theorem d_M_weight_163 : decode b_M_weight 163 = .ok (.iload 6, 2) := by decide +kernel
theorem d_M_weight_165 : decode b_M_weight 165 = .ok (.invokestatic 142, 3) := by decide +kernel
theorem d_M_weight_168 : decode b_M_weight 168 = .ok (.iaload, 1) := by decide +kernel
theorem d_M_weight_169 : decode b_M_weight 169 = .ok (.i2l, 1) := by decide +kernel
theorem d_M_weight_170 : decode b_M_weight 170 = .ok (.lmul, 1) := by decide +kernel
theorem d_M_weight_171 : decode b_M_weight 171 = .ok (.lstore 9, 2) := by decide +kernel
theorem d_M_weight_173 : decode b_M_weight 173 = .ok (.lload 9, 2) := by decide +kernel
theorem d_M_weight_175 : decode b_M_weight 175 = .ok (.lreturn, 1) := by decide +kernel
theorem d_M_power_0 : decode b_M_power 0 = .ok (.iload_n 1, 1) := by decide +kernel
theorem d_M_power_1 : decode b_M_power 1 = .ok (.ifCond .ne 7, 3) := by decide +kernel
theorem d_M_power_4 : decode b_M_power 4 = .ok (.iconst 1, 1) := by decide +kernel
theorem d_M_power_5 : decode b_M_power 5 = .ok (.goto 15, 3) := by decide +kernel
theorem d_M_power_8 : decode b_M_power 8 = .ok (.iload_n 1, 1) := by decide +kernel
theorem d_M_power_9 : decode b_M_power 9 = .ok (.iconst 1, 1) := by decide +kernel
theorem d_M_power_10 : decode b_M_power 10 = .ok (.if_icmp .ne 7, 3) := by decide +kernel
theorem d_M_power_13 : decode b_M_power 13 = .ok (.iload_n 0, 1) := by decide +kernel
theorem d_M_power_14 : decode b_M_power 14 = .ok (.goto 6, 3) := by decide +kernel
theorem d_M_power_17 : decode b_M_power 17 = .ok (.iload_n 0, 1) := by decide +kernel
theorem d_M_power_18 : decode b_M_power 18 = .ok (.iload_n 0, 1) := by decide +kernel
theorem d_M_power_19 : decode b_M_power 19 = .ok (.imul, 1) := by decide +kernel
theorem d_M_power_20 : decode b_M_power 20 = .ok (.ireturn, 1) := by decide +kernel
theorem d_M_value_0 : decode b_M_value 0 = .ok (.lconst 0, 1) := by decide +kernel
theorem d_M_value_1 : decode b_M_value 1 = .ok (.lstore_n 3, 1) := by decide +kernel
theorem d_M_value_2 : decode b_M_value 2 = .ok (.iconst 0, 1) := by decide +kernel
theorem d_M_value_3 : decode b_M_value 3 = .ok (.istore 5, 2) := by decide +kernel
theorem d_M_value_5 : decode b_M_value 5 = .ok (.iload 5, 2) := by decide +kernel
theorem d_M_value_7 : decode b_M_value 7 = .ok (.bipush 81, 2) := by decide +kernel
theorem d_M_value_9 : decode b_M_value 9 = .ok (.if_icmp .ge 101, 3) := by decide +kernel
theorem d_M_value_12 : decode b_M_value 12 = .ok (.aload_n 0, 1) := by decide +kernel
theorem d_M_value_13 : decode b_M_value 13 = .ok (.getfield 50, 3) := by decide +kernel
theorem d_M_value_16 : decode b_M_value 16 = .ok (.bipush 81, 2) := by decide +kernel
theorem d_M_value_18 : decode b_M_value 18 = .ok (.iload_n 1, 1) := by decide +kernel
theorem d_M_value_19 : decode b_M_value 19 = .ok (.imul, 1) := by decide +kernel
theorem d_M_value_20 : decode b_M_value 20 = .ok (.iload 5, 2) := by decide +kernel
theorem d_M_value_22 : decode b_M_value 22 = .ok (.iadd, 1) := by decide +kernel
theorem d_M_value_23 : decode b_M_value 23 = .ok (.iaload, 1) := by decide +kernel
theorem d_M_value_24 : decode b_M_value 24 = .ok (.i2l, 1) := by decide +kernel
theorem d_M_value_25 : decode b_M_value 25 = .ok (.lstore 6, 2) := by decide +kernel
theorem d_M_value_27 : decode b_M_value 27 = .ok (.lload 6, 2) := by decide +kernel
theorem d_M_value_29 : decode b_M_value 29 = .ok (.lconst 0, 1) := by decide +kernel
theorem d_M_value_30 : decode b_M_value 30 = .ok (.lcmp, 1) := by decide +kernel
theorem d_M_value_31 : decode b_M_value 31 = .ok (.ifCond .eq 73, 3) := by decide +kernel
theorem d_M_value_34 : decode b_M_value 34 = .ok (.lload 6, 2) := by decide +kernel
theorem d_M_value_36 : decode b_M_value 36 = .ok (.iload_n 2, 1) := by decide +kernel
theorem d_M_value_37 : decode b_M_value 37 = .ok (.iconst 0, 1) := by decide +kernel
theorem d_M_value_38 : decode b_M_value 38 = .ok (.invokestatic 156, 3) := by decide +kernel
theorem d_M_value_41 : decode b_M_value 41 = .ok (.iload 5, 2) := by decide +kernel
theorem d_M_value_43 : decode b_M_value 43 = .ok (.bipush 27, 2) := by decide +kernel
theorem d_M_value_45 : decode b_M_value 45 = .ok (.idiv, 1) := by decide +kernel
theorem d_M_value_46 : decode b_M_value 46 = .ok (.invokestatic 160, 3) := by decide +kernel
theorem d_M_value_49 : decode b_M_value 49 = .ok (.iload_n 2, 1) := by decide +kernel
theorem d_M_value_50 : decode b_M_value 50 = .ok (.iconst 1, 1) := by decide +kernel
theorem d_M_value_51 : decode b_M_value 51 = .ok (.invokestatic 156, 3) := by decide +kernel
theorem d_M_value_54 : decode b_M_value 54 = .ok (.iload 5, 2) := by decide +kernel
theorem d_M_value_56 : decode b_M_value 56 = .ok (.bipush 9, 2) := by decide +kernel
theorem d_M_value_58 : decode b_M_value 58 = .ok (.idiv, 1) := by decide +kernel
theorem d_M_value_59 : decode b_M_value 59 = .ok (.iconst 3, 1) := by decide +kernel
theorem d_M_value_60 : decode b_M_value 60 = .ok (.irem, 1) := by decide +kernel
theorem d_M_value_61 : decode b_M_value 61 = .ok (.invokestatic 160, 3) := by decide +kernel
theorem d_M_value_64 : decode b_M_value 64 = .ok (.imul, 1) := by decide +kernel
theorem d_M_value_65 : decode b_M_value 65 = .ok (.i2l, 1) := by decide +kernel
theorem d_M_value_66 : decode b_M_value 66 = .ok (.lmul, 1) := by decide +kernel
theorem d_M_value_67 : decode b_M_value 67 = .ok (.lstore 6, 2) := by decide +kernel
theorem d_M_value_69 : decode b_M_value 69 = .ok (.lload_n 3, 1) := by decide +kernel
theorem d_M_value_70 : decode b_M_value 70 = .ok (.lload 6, 2) := by decide +kernel
theorem d_M_value_72 : decode b_M_value 72 = .ok (.iload_n 2, 1) := by decide +kernel
theorem d_M_value_73 : decode b_M_value 73 = .ok (.iconst 2, 1) := by decide +kernel
theorem d_M_value_74 : decode b_M_value 74 = .ok (.invokestatic 156, 3) := by decide +kernel
theorem d_M_value_77 : decode b_M_value 77 = .ok (.iload 5, 2) := by decide +kernel
theorem d_M_value_79 : decode b_M_value 79 = .ok (.iconst 3, 1) := by decide +kernel
theorem d_M_value_80 : decode b_M_value 80 = .ok (.idiv, 1) := by decide +kernel
theorem d_M_value_81 : decode b_M_value 81 = .ok (.iconst 3, 1) := by decide +kernel
theorem d_M_value_82 : decode b_M_value 82 = .ok (.irem, 1) := by decide +kernel
theorem d_M_value_83 : decode b_M_value 83 = .ok (.invokestatic 160, 3) := by decide +kernel
theorem d_M_value_86 : decode b_M_value 86 = .ok (.i2l, 1) := by decide +kernel
theorem d_M_value_87 : decode b_M_value 87 = .ok (.lmul, 1) := by decide +kernel
theorem d_M_value_88 : decode b_M_value 88 = .ok (.iload_n 2, 1) := by decide +kernel
theorem d_M_value_89 : decode b_M_value 89 = .ok (.iconst 3, 1) := by decide +kernel
theorem d_M_value_90 : decode b_M_value 90 = .ok (.invokestatic 156, 3) := by decide +kernel
theorem d_M_value_93 : decode b_M_value 93 = .ok (.iload 5, 2) := by decide +kernel
theorem d_M_value_95 : decode b_M_value 95 = .ok (.iconst 3, 1) := by decide +kernel
theorem d_M_value_96 : decode b_M_value 96 = .ok (.irem, 1) := by decide +kernel
theorem d_M_value_97 : decode b_M_value 97 = .ok (.invokestatic 160, 3) := by decide +kernel
theorem d_M_value_100 : decode b_M_value 100 = .ok (.i2l, 1) := by decide +kernel
theorem d_M_value_101 : decode b_M_value 101 = .ok (.lmul, 1) := by decide +kernel
theorem d_M_value_102 : decode b_M_value 102 = .ok (.ladd, 1) := by decide +kernel
theorem d_M_value_103 : decode b_M_value 103 = .ok (.lstore_n 3, 1) := by decide +kernel
theorem d_M_value_104 : decode b_M_value 104 = .ok (.iinc 5 1, 3) := by decide +kernel
theorem d_M_value_107 : decode b_M_value 107 = .ok (.goto (-102), 3) := by decide +kernel
theorem d_M_value_110 : decode b_M_value 110 = .ok (.lload_n 3, 1) := by decide +kernel
theorem d_M_value_111 : decode b_M_value 111 = .ok (.lreturn, 1) := by decide +kernel
theorem d_M_collect_0 : decode b_M_collect 0 = .ok (.lconst 0, 1) := by decide +kernel
theorem d_M_collect_1 : decode b_M_collect 1 = .ok (.lstore 4, 2) := by decide +kernel
theorem d_M_collect_3 : decode b_M_collect 3 = .ok (.iconst 0, 1) := by decide +kernel
theorem d_M_collect_4 : decode b_M_collect 4 = .ok (.istore 6, 2) := by decide +kernel
theorem d_M_collect_6 : decode b_M_collect 6 = .ok (.iload 6, 2) := by decide +kernel
theorem d_M_collect_8 : decode b_M_collect 8 = .ok (.sipush 1296, 3) := by decide +kernel
theorem d_M_collect_11 : decode b_M_collect 11 = .ok (.if_icmp .ge 94, 3) := by decide +kernel
theorem d_M_collect_14 : decode b_M_collect 14 = .ok (.iload_n 3, 1) := by decide +kernel
theorem d_M_collect_15 : decode b_M_collect 15 = .ok (.ifCond .ne 27, 3) := by decide +kernel
theorem d_M_collect_18 : decode b_M_collect 18 = .ok (.aload_n 0, 1) := by decide +kernel
theorem d_M_collect_19 : decode b_M_collect 19 = .ok (.getfield 41, 3) := by decide +kernel
theorem d_M_collect_22 : decode b_M_collect 22 = .ok (.iload_n 1, 1) := by decide +kernel
theorem d_M_collect_23 : decode b_M_collect 23 = .ok (.iaload, 1) := by decide +kernel
theorem d_M_collect_24 : decode b_M_collect 24 = .ok (.ifCond .lt 18, 3) := by decide +kernel
theorem d_M_collect_27 : decode b_M_collect 27 = .ok (.iload 6, 2) := by decide +kernel
theorem d_M_collect_29 : decode b_M_collect 29 = .ok (.aload_n 0, 1) := by decide +kernel
theorem d_M_collect_30 : decode b_M_collect 30 = .ok (.getfield 41, 3) := by decide +kernel
theorem d_M_collect_33 : decode b_M_collect 33 = .ok (.iload_n 1, 1) := by decide +kernel
theorem d_M_collect_34 : decode b_M_collect 34 = .ok (.iaload, 1) := by decide +kernel
theorem d_M_collect_35 : decode b_M_collect 35 = .ok (.invokestatic 156, 3) := by decide +kernel
theorem d_M_collect_38 : decode b_M_collect 38 = .ok (.iload_n 2, 1) := by decide +kernel
theorem d_M_collect_39 : decode b_M_collect 39 = .ok (.if_icmp .ne 7, 3) := by decide +kernel
theorem d_M_collect_42 : decode b_M_collect 42 = .ok (.iconst 1, 1) := by decide +kernel
theorem d_M_collect_43 : decode b_M_collect 43 = .ok (.goto 4, 3) := by decide +kernel
theorem d_M_collect_46 : decode b_M_collect 46 = .ok (.iconst 0, 1) := by decide +kernel
theorem d_M_collect_47 : decode b_M_collect 47 = .ok (.istore 7, 2) := by decide +kernel
theorem d_M_collect_49 : decode b_M_collect 49 = .ok (.iload 7, 2) := by decide +kernel
theorem d_M_collect_51 : decode b_M_collect 51 = .ok (.ifCond .eq 23, 3) := by decide +kernel
theorem d_M_collect_54 : decode b_M_collect 54 = .ok (.aload_n 0, 1) := by decide +kernel
theorem d_M_collect_55 : decode b_M_collect 55 = .ok (.iload_n 1, 1) := by decide +kernel
theorem d_M_collect_56 : decode b_M_collect 56 = .ok (.iload 6, 2) := by decide +kernel
theorem d_M_collect_58 : decode b_M_collect 58 = .ok (.invokevirtual 163, 3) := by decide +kernel
theorem d_M_collect_61 : decode b_M_collect 61 = .ok (.ifCond .eq 13, 3) := by decide +kernel
theorem d_M_collect_64 : decode b_M_collect 64 = .ok (.aload_n 0, 1) := by decide +kernel
theorem d_M_collect_65 : decode b_M_collect 65 = .ok (.iload_n 1, 1) := by decide +kernel
theorem d_M_collect_66 : decode b_M_collect 66 = .ok (.iload 6, 2) := by decide +kernel
theorem d_M_collect_68 : decode b_M_collect 68 = .ok (.invokevirtual 166, 3) := by decide +kernel
theorem d_M_collect_71 : decode b_M_collect 71 = .ok (.goto 4, 3) := by decide +kernel
theorem d_M_collect_74 : decode b_M_collect 74 = .ok (.lconst 0, 1) := by decide +kernel
theorem d_M_collect_75 : decode b_M_collect 75 = .ok (.lstore 8, 2) := by decide +kernel
theorem d_M_collect_77 : decode b_M_collect 77 = .ok (.lload 8, 2) := by decide +kernel
theorem d_M_collect_79 : decode b_M_collect 79 = .ok (.lconst 0, 1) := by decide +kernel
theorem d_M_collect_80 : decode b_M_collect 80 = .ok (.lcmp, 1) := by decide +kernel
theorem d_M_collect_81 : decode b_M_collect 81 = .ok (.ifCond .eq 18, 3) := by decide +kernel
theorem d_M_collect_84 : decode b_M_collect 84 = .ok (.lload 4, 2) := by decide +kernel
theorem d_M_collect_86 : decode b_M_collect 86 = .ok (.lload 8, 2) := by decide +kernel
theorem d_M_collect_88 : decode b_M_collect 88 = .ok (.aload_n 0, 1) := by decide +kernel
theorem d_M_collect_89 : decode b_M_collect 89 = .ok (.iload_n 1, 1) := by decide +kernel
theorem d_M_collect_90 : decode b_M_collect 90 = .ok (.iload 6, 2) := by decide +kernel
theorem d_M_collect_92 : decode b_M_collect 92 = .ok (.invokevirtual 170, 3) := by decide +kernel
theorem d_M_collect_95 : decode b_M_collect 95 = .ok (.lmul, 1) := by decide +kernel
theorem d_M_collect_96 : decode b_M_collect 96 = .ok (.ladd, 1) := by decide +kernel
theorem d_M_collect_97 : decode b_M_collect 97 = .ok (.lstore 4, 2) := by decide +kernel
theorem d_M_collect_99 : decode b_M_collect 99 = .ok (.iinc 6 1, 3) := by decide +kernel
theorem d_M_collect_102 : decode b_M_collect 102 = .ok (.goto (-96), 3) := by decide +kernel
theorem d_M_collect_105 : decode b_M_collect 105 = .ok (.lload 4, 2) := by decide +kernel
theorem d_M_collect_107 : decode b_M_collect 107 = .ok (.lreturn, 1) := by decide +kernel
theorem d_M_answer_0 : decode b_M_answer 0 = .ok (.iload_n 1, 1) := by decide +kernel
theorem d_M_answer_1 : decode b_M_answer 1 = .ok (.iconst 4, 1) := by decide +kernel
theorem d_M_answer_2 : decode b_M_answer 2 = .ok (.invokestatic 138, 3) := by decide +kernel
theorem d_M_answer_5 : decode b_M_answer 5 = .ok (.ifCond .eq 21, 3) := by decide +kernel
theorem d_M_answer_8 : decode b_M_answer 8 = .ok (.iload_n 2, 1) := by decide +kernel
theorem d_M_answer_9 : decode b_M_answer 9 = .ok (.bipush 6, 2) := by decide +kernel
theorem d_M_answer_11 : decode b_M_answer 11 = .ok (.invokestatic 138, 3) := by decide +kernel
theorem d_M_answer_14 : decode b_M_answer 14 = .ok (.ifCond .eq 12, 3) := by decide +kernel
theorem d_M_answer_17 : decode b_M_answer 17 = .ok (.aload_n 0, 1) := by decide +kernel
theorem d_M_answer_18 : decode b_M_answer 18 = .ok (.getfield 31, 3) := by decide +kernel
theorem d_M_answer_21 : decode b_M_answer 21 = .ok (.iload_n 1, 1) := by decide +kernel
theorem d_M_answer_22 : decode b_M_answer 22 = .ok (.baload, 1) := by decide +kernel
theorem d_M_answer_23 : decode b_M_answer 23 = .ok (.ifCond .ne 7, 3) := by decide +kernel
theorem d_M_answer_26 : decode b_M_answer 26 = .ok (.ldc2_w 173, 3) := by decide +kernel
theorem d_M_answer_29 : decode b_M_answer 29 = .ok (.lreturn, 1) := by decide +kernel
theorem d_M_answer_30 : decode b_M_answer 30 = .ok (.aload_n 0, 1) := by decide +kernel
theorem d_M_answer_31 : decode b_M_answer 31 = .ok (.getfield 41, 3) := by decide +kernel
theorem d_M_answer_34 : decode b_M_answer 34 = .ok (.iload_n 1, 1) := by decide +kernel
theorem d_M_answer_35 : decode b_M_answer 35 = .ok (.iaload, 1) := by decide +kernel
theorem d_M_answer_36 : decode b_M_answer 36 = .ok (.ifCond .ge 11, 3) := by decide +kernel
theorem d_M_answer_39 : decode b_M_answer 39 = .ok (.iload_n 2, 1) := by decide +kernel
theorem d_M_answer_40 : decode b_M_answer 40 = .ok (.ifCond .le 7, 3) := by decide +kernel
theorem d_M_answer_43 : decode b_M_answer 43 = .ok (.lconst 0, 1) := by decide +kernel
theorem d_M_answer_44 : decode b_M_answer 44 = .ok (.goto 10, 3) := by decide +kernel
theorem d_M_answer_47 : decode b_M_answer 47 = .ok (.aload_n 0, 1) := by decide +kernel
theorem d_M_answer_48 : decode b_M_answer 48 = .ok (.iload_n 1, 1) := by decide +kernel
theorem d_M_answer_49 : decode b_M_answer 49 = .ok (.iload_n 2, 1) := by decide +kernel
theorem d_M_answer_50 : decode b_M_answer 50 = .ok (.iconst 0, 1) := by decide +kernel
theorem d_M_answer_51 : decode b_M_answer 51 = .ok (.invokevirtual 175, 3) := by decide +kernel
theorem d_M_answer_54 : decode b_M_answer 54 = .ok (.lreturn, 1) := by decide +kernel
theorem d_M_total_0 : decode b_M_total 0 = .ok (.iload_n 1, 1) := by decide +kernel
theorem d_M_total_1 : decode b_M_total 1 = .ok (.iconst 4, 1) := by decide +kernel
theorem d_M_total_2 : decode b_M_total 2 = .ok (.invokestatic 138, 3) := by decide +kernel
theorem d_M_total_5 : decode b_M_total 5 = .ok (.ifCond .eq 22, 3) := by decide +kernel
theorem d_M_total_8 : decode b_M_total 8 = .ok (.aload_n 0, 1) := by decide +kernel
theorem d_M_total_9 : decode b_M_total 9 = .ok (.getfield 31, 3) := by decide +kernel
theorem d_M_total_12 : decode b_M_total 12 = .ok (.iload_n 1, 1) := by decide +kernel
theorem d_M_total_13 : decode b_M_total 13 = .ok (.baload, 1) := by decide +kernel
theorem d_M_total_14 : decode b_M_total 14 = .ok (.ifCond .eq 13, 3) := by decide +kernel
theorem d_M_total_17 : decode b_M_total 17 = .ok (.aload_n 0, 1) := by decide +kernel
theorem d_M_total_18 : decode b_M_total 18 = .ok (.iload_n 1, 1) := by decide +kernel
theorem d_M_total_19 : decode b_M_total 19 = .ok (.iconst 0, 1) := by decide +kernel
theorem d_M_total_20 : decode b_M_total 20 = .ok (.iconst 1, 1) := by decide +kernel
theorem d_M_total_21 : decode b_M_total 21 = .ok (.invokevirtual 175, 3) := by decide +kernel
theorem d_M_total_24 : decode b_M_total 24 = .ok (.goto 6, 3) := by decide +kernel
theorem d_M_total_27 : decode b_M_total 27 = .ok (.ldc2_w 173, 3) := by decide +kernel
theorem d_M_total_30 : decode b_M_total 30 = .ok (.lreturn, 1) := by decide +kernel
theorem d_M_count_0 : decode b_M_count 0 = .ok (.iload_n 1, 1) := by decide +kernel
theorem d_M_count_1 : decode b_M_count 1 = .ok (.iload_n 2, 1) := by decide +kernel
theorem d_M_count_2 : decode b_M_count 2 = .ok (.iload_n 3, 1) := by decide +kernel
theorem d_M_count_3 : decode b_M_count 3 = .ok (.invokestatic 142, 3) := by decide +kernel
theorem d_M_count_6 : decode b_M_count 6 = .ok (.istore 4, 2) := by decide +kernel
theorem d_M_count_8 : decode b_M_count 8 = .ok (.iload 4, 2) := by decide +kernel
theorem d_M_count_10 : decode b_M_count 10 = .ok (.ifCond .ge 9, 3) := by decide +kernel
theorem d_M_count_13 : decode b_M_count 13 = .ok (.ldc2_w 173, 3) := by decide +kernel
theorem d_M_count_16 : decode b_M_count 16 = .ok (.goto 11, 3) := by decide +kernel
theorem d_M_count_19 : decode b_M_count 19 = .ok (.aload_n 0, 1) := by decide +kernel
theorem d_M_count_20 : decode b_M_count 20 = .ok (.getfield 7, 3) := by decide +kernel
theorem d_M_count_23 : decode b_M_count 23 = .ok (.iload 4, 2) := by decide +kernel
theorem d_M_count_25 : decode b_M_count 25 = .ok (.iaload, 1) := by decide +kernel
theorem d_M_count_26 : decode b_M_count 26 = .ok (.i2l, 1) := by decide +kernel
theorem d_M_count_27 : decode b_M_count 27 = .ok (.lreturn, 1) := by decide +kernel
theorem d_M_question_0 : decode b_M_question 0 = .ok (.iload_n 1, 1) := by decide +kernel
theorem d_M_question_1 : decode b_M_question 1 = .ok (.iconst 4, 1) := by decide +kernel
theorem d_M_question_2 : decode b_M_question 2 = .ok (.invokestatic 138, 3) := by decide +kernel
theorem d_M_question_5 : decode b_M_question 5 = .ok (.ifCond .eq 11, 3) := by decide +kernel
theorem d_M_question_8 : decode b_M_question 8 = .ok (.iload_n 2, 1) := by decide +kernel
theorem d_M_question_9 : decode b_M_question 9 = .ok (.iconst 5, 1) := by decide +kernel
theorem d_M_question_10 : decode b_M_question 10 = .ok (.invokestatic 138, 3) := by decide +kernel
theorem d_M_question_13 : decode b_M_question 13 = .ok (.ifCond .ne 5, 3) := by decide +kernel
theorem d_M_question_16 : decode b_M_question 16 = .ok (.iconst (-1), 1) := by decide +kernel
theorem d_M_question_17 : decode b_M_question 17 = .ok (.ireturn, 1) := by decide +kernel
theorem d_M_question_18 : decode b_M_question 18 = .ok (.iload_n 2, 1) := by decide +kernel
theorem d_M_question_19 : decode b_M_question 19 = .ok (.ifCond .ne 18, 3) := by decide +kernel
theorem d_M_question_22 : decode b_M_question 22 = .ok (.aload_n 0, 1) := by decide +kernel
theorem d_M_question_23 : decode b_M_question 23 = .ok (.getfield 31, 3) := by decide +kernel
theorem d_M_question_26 : decode b_M_question 26 = .ok (.iload_n 1, 1) := by decide +kernel
theorem d_M_question_27 : decode b_M_question 27 = .ok (.baload, 1) := by decide +kernel
theorem d_M_question_28 : decode b_M_question 28 = .ok (.ifCond .eq 7, 3) := by decide +kernel
theorem d_M_question_31 : decode b_M_question 31 = .ok (.iconst 1, 1) := by decide +kernel
theorem d_M_question_32 : decode b_M_question 32 = .ok (.goto 4, 3) := by decide +kernel
theorem d_M_question_35 : decode b_M_question 35 = .ok (.iconst 0, 1) := by decide +kernel
theorem d_M_question_36 : decode b_M_question 36 = .ok (.ireturn, 1) := by decide +kernel
theorem d_M_question_37 : decode b_M_question 37 = .ok (.aload_n 0, 1) := by decide +kernel
theorem d_M_question_38 : decode b_M_question 38 = .ok (.getfield 31, 3) := by decide +kernel
theorem d_M_question_41 : decode b_M_question 41 = .ok (.iload_n 1, 1) := by decide +kernel
theorem d_M_question_42 : decode b_M_question 42 = .ok (.baload, 1) := by decide +kernel
theorem d_M_question_43 : decode b_M_question 43 = .ok (.ifCond .ne 5, 3) := by decide +kernel
theorem d_M_question_46 : decode b_M_question 46 = .ok (.iconst (-1), 1) := by decide +kernel
theorem d_M_question_47 : decode b_M_question 47 = .ok (.ireturn, 1) := by decide +kernel
theorem d_M_question_48 : decode b_M_question 48 = .ok (.iload_n 2, 1) := by decide +kernel
theorem d_M_question_49 : decode b_M_question 49 = .ok (.iconst 1, 1) := by decide +kernel
theorem d_M_question_50 : decode b_M_question 50 = .ok (.if_icmp .ne 12, 3) := by decide +kernel
theorem d_M_question_53 : decode b_M_question 53 = .ok (.aload_n 0, 1) := by decide +kernel
theorem d_M_question_54 : decode b_M_question 54 = .ok (.getfield 35, 3) := by decide +kernel
theorem d_M_question_57 : decode b_M_question 57 = .ok (.iload_n 1, 1) := by decide +kernel
theorem d_M_question_58 : decode b_M_question 58 = .ok (.iaload, 1) := by decide +kernel
theorem d_M_question_59 : decode b_M_question 59 = .ok (.goto 37, 3) := by decide +kernel
theorem d_M_question_62 : decode b_M_question 62 = .ok (.iload_n 2, 1) := by decide +kernel
theorem d_M_question_63 : decode b_M_question 63 = .ok (.iconst 2, 1) := by decide +kernel
theorem d_M_question_64 : decode b_M_question 64 = .ok (.if_icmp .ne 12, 3) := by decide +kernel
theorem d_M_question_67 : decode b_M_question 67 = .ok (.aload_n 0, 1) := by decide +kernel
theorem d_M_question_68 : decode b_M_question 68 = .ok (.getfield 38, 3) := by decide +kernel
theorem d_M_question_71 : decode b_M_question 71 = .ok (.iload_n 1, 1) := by decide +kernel
theorem d_M_question_72 : decode b_M_question 72 = .ok (.iaload, 1) := by decide +kernel
theorem d_M_question_73 : decode b_M_question 73 = .ok (.goto 23, 3) := by decide +kernel
theorem d_M_question_76 : decode b_M_question 76 = .ok (.iload_n 2, 1) := by decide +kernel
theorem d_M_question_77 : decode b_M_question 77 = .ok (.iconst 3, 1) := by decide +kernel
theorem d_M_question_78 : decode b_M_question 78 = .ok (.if_icmp .ne 12, 3) := by decide +kernel
theorem d_M_question_81 : decode b_M_question 81 = .ok (.aload_n 0, 1) := by decide +kernel
theorem d_M_question_82 : decode b_M_question 82 = .ok (.getfield 41, 3) := by decide +kernel
theorem d_M_question_85 : decode b_M_question 85 = .ok (.iload_n 1, 1) := by decide +kernel
theorem d_M_question_86 : decode b_M_question 86 = .ok (.iaload, 1) := by decide +kernel
theorem d_M_question_87 : decode b_M_question 87 = .ok (.goto 9, 3) := by decide +kernel
theorem d_M_question_90 : decode b_M_question 90 = .ok (.aload_n 0, 1) := by decide +kernel
theorem d_M_question_91 : decode b_M_question 91 = .ok (.getfield 44, 3) := by decide +kernel
theorem d_M_question_94 : decode b_M_question 94 = .ok (.iload_n 1, 1) := by decide +kernel
theorem d_M_question_95 : decode b_M_question 95 = .ok (.iaload, 1) := by decide +kernel
theorem d_M_question_96 : decode b_M_question 96 = .ok (.ireturn, 1) := by decide +kernel
theorem d_M_state_0 : decode b_M_state 0 = .ok (.iload_n 1, 1) := by decide +kernel
theorem d_M_state_1 : decode b_M_state 1 = .ok (.ifCond .ne 8, 3) := by decide +kernel
theorem d_M_state_4 : decode b_M_state 4 = .ok (.aload_n 0, 1) := by decide +kernel
theorem d_M_state_5 : decode b_M_state 5 = .ok (.getfield 82, 3) := by decide +kernel
theorem d_M_state_8 : decode b_M_state 8 = .ok (.ireturn, 1) := by decide +kernel
theorem d_M_state_9 : decode b_M_state 9 = .ok (.iload_n 1, 1) := by decide +kernel
theorem d_M_state_10 : decode b_M_state 10 = .ok (.iconst 1, 1) := by decide +kernel
theorem d_M_state_11 : decode b_M_state 11 = .ok (.if_icmp .ne 8, 3) := by decide +kernel
theorem d_M_state_14 : decode b_M_state 14 = .ok (.aload_n 0, 1) := by decide +kernel
theorem d_M_state_15 : decode b_M_state 15 = .ok (.getfield 150, 3) := by decide +kernel
theorem d_M_state_18 : decode b_M_state 18 = .ok (.ireturn, 1) := by decide +kernel
theorem d_M_state_19 : decode b_M_state 19 = .ok (.iload_n 1, 1) := by decide +kernel
theorem d_M_state_20 : decode b_M_state 20 = .ok (.iconst 2, 1) := by decide +kernel
theorem d_M_state_21 : decode b_M_state 21 = .ok (.if_icmp .eq 5, 3) := by decide +kernel
theorem d_M_state_24 : decode b_M_state 24 = .ok (.iconst (-1), 1) := by decide +kernel
theorem d_M_state_25 : decode b_M_state 25 = .ok (.ireturn, 1) := by decide +kernel
theorem d_M_state_26 : decode b_M_state 26 = .ok (.iconst 0, 1) := by decide +kernel
theorem d_M_state_27 : decode b_M_state 27 = .ok (.istore_n 2, 1) := by decide +kernel
theorem d_M_state_28 : decode b_M_state 28 = .ok (.iconst 0, 1) := by decide +kernel
theorem d_M_state_29 : decode b_M_state 29 = .ok (.istore_n 3, 1) := by decide +kernel
theorem d_M_state_30 : decode b_M_state 30 = .ok (.iload_n 3, 1) := by decide +kernel
theorem d_M_state_31 : decode b_M_state 31 = .ok (.bipush 108, 2) := by decide +kernel
theorem d_M_state_33 : decode b_M_state 33 = .ok (.if_icmp .ge 21, 3) := by decide +kernel
theorem d_M_state_36 : decode b_M_state 36 = .ok (.aload_n 0, 1) := by decide +kernel
theorem d_M_state_37 : decode b_M_state 37 = .ok (.getfield 7, 3) := by decide +kernel
theorem d_M_state_40 : decode b_M_state 40 = .ok (.iload_n 3, 1) := by decide +kernel
theorem d_M_state_41 : decode b_M_state 41 = .ok (.iaload, 1) := by decide +kernel
theorem d_M_state_42 : decode b_M_state 42 = .ok (.ifCond .eq 6, 3) := by decide +kernel
theorem d_M_state_45 : decode b_M_state 45 = .ok (.iinc 2 1, 3) := by decide +kernel
theorem d_M_state_48 : decode b_M_state 48 = .ok (.iinc 3 1, 3) := by decide +kernel
theorem d_M_state_51 : decode b_M_state 51 = .ok (.goto (-21), 3) := by decide +kernel
theorem d_M_state_54 : decode b_M_state 54 = .ok (.iload_n 2, 1) := by decide +kernel
theorem d_M_state_55 : decode b_M_state 55 = .ok (.ireturn, 1) := by decide +kernel
end
section
theorem d_L_law_0 : decode code 0 = .ok (.new 7, 3) := by decide +kernel
theorem d_L_law_3 : decode code 3 = .ok (.dup, 1) := by decide +kernel
theorem d_L_law_4 : decode code 4 = .ok (.invokespecial 9, 3) := by decide +kernel
theorem d_L_law_7 : decode code 7 = .ok (.astore_n 1, 1) := by decide +kernel
theorem d_L_law_8 : decode code 8 = .ok (.new 10, 3) := by decide +kernel
theorem d_L_law_11 : decode code 11 = .ok (.dup, 1) := by decide +kernel
theorem d_L_law_12 : decode code 12 = .ok (.invokespecial 12, 3) := by decide +kernel
theorem d_L_law_15 : decode code 15 = .ok (.astore_n 2, 1) := by decide +kernel
theorem d_L_law_16 : decode code 16 = .ok (.iconst 0, 1) := by decide +kernel
theorem d_L_law_17 : decode code 17 = .ok (.istore_n 3, 1) := by decide +kernel
theorem d_L_law_18 : decode code 18 = .ok (.iload_n 3, 1) := by decide +kernel
theorem d_L_law_19 : decode code 19 = .ok (.aload_n 0, 1) := by decide +kernel
theorem d_L_law_20 : decode code 20 = .ok (.arraylength, 1) := by decide +kernel
theorem d_L_law_21 : decode code 21 = .ok (.iconst 5, 1) := by decide +kernel
theorem d_L_law_22 : decode code 22 = .ok (.isub, 1) := by decide +kernel
theorem d_L_law_23 : decode code 23 = .ok (.if_icmp .gt 398, 3) := by decide +kernel
theorem d_L_law_26 : decode code 26 = .ok (.aload_n 0, 1) := by decide +kernel
theorem d_L_law_27 : decode code 27 = .ok (.iload_n 3, 1) := by decide +kernel
theorem d_L_law_28 : decode code 28 = .ok (.iaload, 1) := by decide +kernel
theorem d_L_law_29 : decode code 29 = .ok (.bipush 15, 2) := by decide +kernel
theorem d_L_law_31 : decode code 31 = .ok (.iand, 1) := by decide +kernel
theorem d_L_law_32 : decode code 32 = .ok (.tableswitch 383 0 11 #[64, 117, 130, 153, 166, 189, 202, 225, 259, 283, 327, 360], 64) := by decide +kernel
theorem d_L_law_96 : decode code 96 = .ok (.aload_n 1, 1) := by decide +kernel
theorem d_L_law_97 : decode code 97 = .ok (.aload_n 0, 1) := by decide +kernel
theorem d_L_law_98 : decode code 98 = .ok (.iload_n 3, 1) := by decide +kernel
theorem d_L_law_99 : decode code 99 = .ok (.iconst 1, 1) := by decide +kernel
theorem d_L_law_100 : decode code 100 = .ok (.iadd, 1) := by decide +kernel
theorem d_L_law_101 : decode code 101 = .ok (.iaload, 1) := by decide +kernel
theorem d_L_law_102 : decode code 102 = .ok (.aload_n 0, 1) := by decide +kernel
theorem d_L_law_103 : decode code 103 = .ok (.iload_n 3, 1) := by decide +kernel
theorem d_L_law_104 : decode code 104 = .ok (.iconst 2, 1) := by decide +kernel
theorem d_L_law_105 : decode code 105 = .ok (.iadd, 1) := by decide +kernel
theorem d_L_law_106 : decode code 106 = .ok (.iaload, 1) := by decide +kernel
theorem d_L_law_107 : decode code 107 = .ok (.aload_n 0, 1) := by decide +kernel
theorem d_L_law_108 : decode code 108 = .ok (.iload_n 3, 1) := by decide +kernel
theorem d_L_law_109 : decode code 109 = .ok (.iconst 3, 1) := by decide +kernel
theorem d_L_law_110 : decode code 110 = .ok (.iadd, 1) := by decide +kernel
theorem d_L_law_111 : decode code 111 = .ok (.iaload, 1) := by decide +kernel
theorem d_L_law_112 : decode code 112 = .ok (.aload_n 0, 1) := by decide +kernel
theorem d_L_law_113 : decode code 113 = .ok (.iload_n 3, 1) := by decide +kernel
theorem d_L_law_114 : decode code 114 = .ok (.iconst 4, 1) := by decide +kernel
theorem d_L_law_115 : decode code 115 = .ok (.iadd, 1) := by decide +kernel
theorem d_L_law_116 : decode code 116 = .ok (.iaload, 1) := by decide +kernel
theorem d_L_law_117 : decode code 117 = .ok (.invokevirtual 13, 3) := by decide +kernel
theorem d_L_law_120 : decode code 120 = .ok (.aload_n 2, 1) := by decide +kernel
theorem d_L_law_121 : decode code 121 = .ok (.aload_n 0, 1) := by decide +kernel
theorem d_L_law_122 : decode code 122 = .ok (.iload_n 3, 1) := by decide +kernel
theorem d_L_law_123 : decode code 123 = .ok (.iconst 1, 1) := by decide +kernel
theorem d_L_law_124 : decode code 124 = .ok (.iadd, 1) := by decide +kernel
theorem d_L_law_125 : decode code 125 = .ok (.iaload, 1) := by decide +kernel
theorem d_L_law_126 : decode code 126 = .ok (.aload_n 0, 1) := by decide +kernel
theorem d_L_law_127 : decode code 127 = .ok (.iload_n 3, 1) := by decide +kernel
theorem d_L_law_128 : decode code 128 = .ok (.iconst 2, 1) := by decide +kernel
theorem d_L_law_129 : decode code 129 = .ok (.iadd, 1) := by decide +kernel
theorem d_L_law_130 : decode code 130 = .ok (.iaload, 1) := by decide +kernel
theorem d_L_law_131 : decode code 131 = .ok (.aload_n 0, 1) := by decide +kernel
theorem d_L_law_132 : decode code 132 = .ok (.iload_n 3, 1) := by decide +kernel
theorem d_L_law_133 : decode code 133 = .ok (.iconst 3, 1) := by decide +kernel
theorem d_L_law_134 : decode code 134 = .ok (.iadd, 1) := by decide +kernel
theorem d_L_law_135 : decode code 135 = .ok (.iaload, 1) := by decide +kernel
theorem d_L_law_136 : decode code 136 = .ok (.aload_n 0, 1) := by decide +kernel
theorem d_L_law_137 : decode code 137 = .ok (.iload_n 3, 1) := by decide +kernel
theorem d_L_law_138 : decode code 138 = .ok (.iconst 4, 1) := by decide +kernel
theorem d_L_law_139 : decode code 139 = .ok (.iadd, 1) := by decide +kernel
theorem d_L_law_140 : decode code 140 = .ok (.iaload, 1) := by decide +kernel
theorem d_L_law_141 : decode code 141 = .ok (.invokevirtual 17, 3) := by decide +kernel
theorem d_L_law_144 : decode code 144 = .ok (.if_icmp .eq 271, 3) := by decide +kernel
theorem d_L_law_147 : decode code 147 = .ok (.iconst 0, 1) := by decide +kernel
theorem d_L_law_148 : decode code 148 = .ok (.ireturn, 1) := by decide +kernel
theorem d_L_law_149 : decode code 149 = .ok (.aload_n 1, 1) := by decide +kernel
theorem d_L_law_150 : decode code 150 = .ok (.invokevirtual 18, 3) := by decide +kernel
theorem d_L_law_153 : decode code 153 = .ok (.aload_n 2, 1) := by decide +kernel
theorem d_L_law_154 : decode code 154 = .ok (.invokevirtual 22, 3) := by decide +kernel
theorem d_L_law_157 : decode code 157 = .ok (.if_icmp .eq 258, 3) := by decide +kernel
theorem d_L_law_160 : decode code 160 = .ok (.iconst 0, 1) := by decide +kernel
theorem d_L_law_161 : decode code 161 = .ok (.ireturn, 1) := by decide +kernel
theorem d_L_law_162 : decode code 162 = .ok (.aload_n 1, 1) := by decide +kernel
theorem d_L_law_163 : decode code 163 = .ok (.aload_n 0, 1) := by decide +kernel
theorem d_L_law_164 : decode code 164 = .ok (.iload_n 3, 1) := by decide +kernel
theorem d_L_law_165 : decode code 165 = .ok (.iconst 1, 1) := by decide +kernel
theorem d_L_law_166 : decode code 166 = .ok (.iadd, 1) := by decide +kernel
theorem d_L_law_167 : decode code 167 = .ok (.iaload, 1) := by decide +kernel
theorem d_L_law_168 : decode code 168 = .ok (.invokevirtual 23, 3) := by decide +kernel
theorem d_L_law_171 : decode code 171 = .ok (.aload_n 2, 1) := by decide +kernel
theorem d_L_law_172 : decode code 172 = .ok (.aload_n 0, 1) := by decide +kernel
theorem d_L_law_173 : decode code 173 = .ok (.iload_n 3, 1) := by decide +kernel
theorem d_L_law_174 : decode code 174 = .ok (.iconst 1, 1) := by decide +kernel
theorem d_L_law_175 : decode code 175 = .ok (.iadd, 1) := by decide +kernel
theorem d_L_law_176 : decode code 176 = .ok (.iaload, 1) := by decide +kernel
theorem d_L_law_177 : decode code 177 = .ok (.invokevirtual 27, 3) := by decide +kernel
theorem d_L_law_180 : decode code 180 = .ok (.if_icmp .eq 235, 3) := by decide +kernel
theorem d_L_law_183 : decode code 183 = .ok (.iconst 0, 1) := by decide +kernel
theorem d_L_law_184 : decode code 184 = .ok (.ireturn, 1) := by decide +kernel
theorem d_L_law_185 : decode code 185 = .ok (.aload_n 1, 1) := by decide +kernel
theorem d_L_law_186 : decode code 186 = .ok (.invokevirtual 28, 3) := by decide +kernel
theorem d_L_law_189 : decode code 189 = .ok (.aload_n 2, 1) := by decide +kernel
theorem d_L_law_190 : decode code 190 = .ok (.invokevirtual 31, 3) := by decide +kernel
theorem d_L_law_193 : decode code 193 = .ok (.if_icmp .eq 222, 3) := by decide +kernel
theorem d_L_law_196 : decode code 196 = .ok (.iconst 0, 1) := by decide +kernel
theorem d_L_law_197 : decode code 197 = .ok (.ireturn, 1) := by decide +kernel
theorem d_L_law_198 : decode code 198 = .ok (.aload_n 1, 1) := by decide +kernel
theorem d_L_law_199 : decode code 199 = .ok (.aload_n 0, 1) := by decide +kernel
theorem d_L_law_200 : decode code 200 = .ok (.iload_n 3, 1) := by decide +kernel
theorem d_L_law_201 : decode code 201 = .ok (.iconst 1, 1) := by decide +kernel
theorem d_L_law_202 : decode code 202 = .ok (.iadd, 1) := by decide +kernel
theorem d_L_law_203 : decode code 203 = .ok (.iaload, 1) := by decide +kernel
theorem d_L_law_204 : decode code 204 = .ok (.invokevirtual 32, 3) := by decide +kernel
theorem d_L_law_207 : decode code 207 = .ok (.aload_n 2, 1) := by decide +kernel
theorem d_L_law_208 : decode code 208 = .ok (.aload_n 0, 1) := by decide +kernel
theorem d_L_law_209 : decode code 209 = .ok (.iload_n 3, 1) := by decide +kernel
theorem d_L_law_210 : decode code 210 = .ok (.iconst 1, 1) := by decide +kernel
theorem d_L_law_211 : decode code 211 = .ok (.iadd, 1) := by decide +kernel
theorem d_L_law_212 : decode code 212 = .ok (.iaload, 1) := by decide +kernel
theorem d_L_law_213 : decode code 213 = .ok (.invokevirtual 35, 3) := by decide +kernel
theorem d_L_law_216 : decode code 216 = .ok (.if_icmp .eq 199, 3) := by decide +kernel
theorem d_L_law_219 : decode code 219 = .ok (.iconst 0, 1) := by decide +kernel
theorem d_L_law_220 : decode code 220 = .ok (.ireturn, 1) := by decide +kernel
theorem d_L_law_221 : decode code 221 = .ok (.aload_n 1, 1) := by decide +kernel
theorem d_L_law_222 : decode code 222 = .ok (.invokevirtual 36, 3) := by decide +kernel
theorem d_L_law_225 : decode code 225 = .ok (.aload_n 2, 1) := by decide +kernel
theorem d_L_law_226 : decode code 226 = .ok (.invokevirtual 39, 3) := by decide +kernel
theorem d_L_law_229 : decode code 229 = .ok (.if_icmp .eq 186, 3) := by decide +kernel
theorem d_L_law_232 : decode code 232 = .ok (.iconst 0, 1) := by decide +kernel
theorem d_L_law_233 : decode code 233 = .ok (.ireturn, 1) := by decide +kernel
theorem d_L_law_234 : decode code 234 = .ok (.aload_n 1, 1) := by decide +kernel
theorem d_L_law_235 : decode code 235 = .ok (.aload_n 0, 1) := by decide +kernel
theorem d_L_law_236 : decode code 236 = .ok (.iload_n 3, 1) := by decide +kernel
theorem d_L_law_237 : decode code 237 = .ok (.iconst 1, 1) := by decide +kernel
theorem d_L_law_238 : decode code 238 = .ok (.iadd, 1) := by decide +kernel
theorem d_L_law_239 : decode code 239 = .ok (.iaload, 1) := by decide +kernel
theorem d_L_law_240 : decode code 240 = .ok (.invokevirtual 40, 3) := by decide +kernel
theorem d_L_law_243 : decode code 243 = .ok (.aload_n 2, 1) := by decide +kernel
theorem d_L_law_244 : decode code 244 = .ok (.aload_n 0, 1) := by decide +kernel
theorem d_L_law_245 : decode code 245 = .ok (.iload_n 3, 1) := by decide +kernel
theorem d_L_law_246 : decode code 246 = .ok (.iconst 1, 1) := by decide +kernel
theorem d_L_law_247 : decode code 247 = .ok (.iadd, 1) := by decide +kernel
theorem d_L_law_248 : decode code 248 = .ok (.iaload, 1) := by decide +kernel
theorem d_L_law_249 : decode code 249 = .ok (.invokevirtual 43, 3) := by decide +kernel
theorem d_L_law_252 : decode code 252 = .ok (.if_icmp .eq 163, 3) := by decide +kernel
theorem d_L_law_255 : decode code 255 = .ok (.iconst 0, 1) := by decide +kernel
theorem d_L_law_256 : decode code 256 = .ok (.ireturn, 1) := by decide +kernel
theorem d_L_law_257 : decode code 257 = .ok (.aload_n 1, 1) := by decide +kernel
theorem d_L_law_258 : decode code 258 = .ok (.aload_n 0, 1) := by decide +kernel
theorem d_L_law_259 : decode code 259 = .ok (.iload_n 3, 1) := by decide +kernel
theorem d_L_law_260 : decode code 260 = .ok (.iconst 1, 1) := by decide +kernel
theorem d_L_law_261 : decode code 261 = .ok (.iadd, 1) := by decide +kernel
theorem d_L_law_262 : decode code 262 = .ok (.iaload, 1) := by decide +kernel
theorem d_L_law_263 : decode code 263 = .ok (.aload_n 0, 1) := by decide +kernel
theorem d_L_law_264 : decode code 264 = .ok (.iload_n 3, 1) := by decide +kernel
theorem d_L_law_265 : decode code 265 = .ok (.iconst 2, 1) := by decide +kernel
theorem d_L_law_266 : decode code 266 = .ok (.iadd, 1) := by decide +kernel
theorem d_L_law_267 : decode code 267 = .ok (.iaload, 1) := by decide +kernel
theorem d_L_law_268 : decode code 268 = .ok (.invokevirtual 44, 3) := by decide +kernel
theorem d_L_law_271 : decode code 271 = .ok (.aload_n 2, 1) := by decide +kernel
theorem d_L_law_272 : decode code 272 = .ok (.aload_n 0, 1) := by decide +kernel
theorem d_L_law_273 : decode code 273 = .ok (.iload_n 3, 1) := by decide +kernel
theorem d_L_law_274 : decode code 274 = .ok (.iconst 1, 1) := by decide +kernel
theorem d_L_law_275 : decode code 275 = .ok (.iadd, 1) := by decide +kernel
theorem d_L_law_276 : decode code 276 = .ok (.iaload, 1) := by decide +kernel
theorem d_L_law_277 : decode code 277 = .ok (.aload_n 0, 1) := by decide +kernel
theorem d_L_law_278 : decode code 278 = .ok (.iload_n 3, 1) := by decide +kernel
theorem d_L_law_279 : decode code 279 = .ok (.iconst 2, 1) := by decide +kernel
theorem d_L_law_280 : decode code 280 = .ok (.iadd, 1) := by decide +kernel
theorem d_L_law_281 : decode code 281 = .ok (.iaload, 1) := by decide +kernel
theorem d_L_law_282 : decode code 282 = .ok (.invokevirtual 48, 3) := by decide +kernel
theorem d_L_law_285 : decode code 285 = .ok (.lcmp, 1) := by decide +kernel
theorem d_L_law_286 : decode code 286 = .ok (.ifCond .eq 129, 3) := by decide +kernel
theorem d_L_law_289 : decode code 289 = .ok (.iconst 0, 1) := by decide +kernel
theorem d_L_law_290 : decode code 290 = .ok (.ireturn, 1) := by decide +kernel
theorem d_L_law_291 : decode code 291 = .ok (.aload_n 1, 1) := by decide +kernel
theorem d_L_law_292 : decode code 292 = .ok (.aload_n 0, 1) := by decide +kernel
theorem d_L_law_293 : decode code 293 = .ok (.iload_n 3, 1) := by decide +kernel
theorem d_L_law_294 : decode code 294 = .ok (.iconst 1, 1) := by decide +kernel
theorem d_L_law_295 : decode code 295 = .ok (.iadd, 1) := by decide +kernel
theorem d_L_law_296 : decode code 296 = .ok (.iaload, 1) := by decide +kernel
theorem d_L_law_297 : decode code 297 = .ok (.invokevirtual 49, 3) := by decide +kernel
theorem d_L_law_300 : decode code 300 = .ok (.aload_n 2, 1) := by decide +kernel
theorem d_L_law_301 : decode code 301 = .ok (.aload_n 0, 1) := by decide +kernel
theorem d_L_law_302 : decode code 302 = .ok (.iload_n 3, 1) := by decide +kernel
theorem d_L_law_303 : decode code 303 = .ok (.iconst 1, 1) := by decide +kernel
theorem d_L_law_304 : decode code 304 = .ok (.iadd, 1) := by decide +kernel
theorem d_L_law_305 : decode code 305 = .ok (.iaload, 1) := by decide +kernel
theorem d_L_law_306 : decode code 306 = .ok (.invokevirtual 53, 3) := by decide +kernel
theorem d_L_law_309 : decode code 309 = .ok (.lcmp, 1) := by decide +kernel
theorem d_L_law_310 : decode code 310 = .ok (.ifCond .eq 105, 3) := by decide +kernel
theorem d_L_law_313 : decode code 313 = .ok (.iconst 0, 1) := by decide +kernel
theorem d_L_law_314 : decode code 314 = .ok (.ireturn, 1) := by decide +kernel
theorem d_L_law_315 : decode code 315 = .ok (.aload_n 1, 1) := by decide +kernel
theorem d_L_law_316 : decode code 316 = .ok (.aload_n 0, 1) := by decide +kernel
theorem d_L_law_317 : decode code 317 = .ok (.iload_n 3, 1) := by decide +kernel
theorem d_L_law_318 : decode code 318 = .ok (.iconst 1, 1) := by decide +kernel
theorem d_L_law_319 : decode code 319 = .ok (.iadd, 1) := by decide +kernel
theorem d_L_law_320 : decode code 320 = .ok (.iaload, 1) := by decide +kernel
theorem d_L_law_321 : decode code 321 = .ok (.aload_n 0, 1) := by decide +kernel
theorem d_L_law_322 : decode code 322 = .ok (.iload_n 3, 1) := by decide +kernel
theorem d_L_law_323 : decode code 323 = .ok (.iconst 2, 1) := by decide +kernel
theorem d_L_law_324 : decode code 324 = .ok (.iadd, 1) := by decide +kernel
theorem d_L_law_325 : decode code 325 = .ok (.iaload, 1) := by decide +kernel
theorem d_L_law_326 : decode code 326 = .ok (.aload_n 0, 1) := by decide +kernel
theorem d_L_law_327 : decode code 327 = .ok (.iload_n 3, 1) := by decide +kernel
theorem d_L_law_328 : decode code 328 = .ok (.iconst 3, 1) := by decide +kernel
theorem d_L_law_329 : decode code 329 = .ok (.iadd, 1) := by decide +kernel
theorem d_L_law_330 : decode code 330 = .ok (.iaload, 1) := by decide +kernel
theorem d_L_law_331 : decode code 331 = .ok (.invokevirtual 54, 3) := by decide +kernel
theorem d_L_law_334 : decode code 334 = .ok (.aload_n 2, 1) := by decide +kernel
theorem d_L_law_335 : decode code 335 = .ok (.aload_n 0, 1) := by decide +kernel
theorem d_L_law_336 : decode code 336 = .ok (.iload_n 3, 1) := by decide +kernel
theorem d_L_law_337 : decode code 337 = .ok (.iconst 1, 1) := by decide +kernel
theorem d_L_law_338 : decode code 338 = .ok (.iadd, 1) := by decide +kernel
theorem d_L_law_339 : decode code 339 = .ok (.iaload, 1) := by decide +kernel
theorem d_L_law_340 : decode code 340 = .ok (.aload_n 0, 1) := by decide +kernel
theorem d_L_law_341 : decode code 341 = .ok (.iload_n 3, 1) := by decide +kernel
theorem d_L_law_342 : decode code 342 = .ok (.iconst 2, 1) := by decide +kernel
theorem d_L_law_343 : decode code 343 = .ok (.iadd, 1) := by decide +kernel
theorem d_L_law_344 : decode code 344 = .ok (.iaload, 1) := by decide +kernel
theorem d_L_law_345 : decode code 345 = .ok (.aload_n 0, 1) := by decide +kernel
theorem d_L_law_346 : decode code 346 = .ok (.iload_n 3, 1) := by decide +kernel
theorem d_L_law_347 : decode code 347 = .ok (.iconst 3, 1) := by decide +kernel
theorem d_L_law_348 : decode code 348 = .ok (.iadd, 1) := by decide +kernel
theorem d_L_law_349 : decode code 349 = .ok (.iaload, 1) := by decide +kernel
theorem d_L_law_350 : decode code 350 = .ok (.invokevirtual 58, 3) := by decide +kernel
theorem d_L_law_353 : decode code 353 = .ok (.lcmp, 1) := by decide +kernel
theorem d_L_law_354 : decode code 354 = .ok (.ifCond .eq 61, 3) := by decide +kernel
theorem d_L_law_357 : decode code 357 = .ok (.iconst 0, 1) := by decide +kernel
theorem d_L_law_358 : decode code 358 = .ok (.ireturn, 1) := by decide +kernel
theorem d_L_law_359 : decode code 359 = .ok (.aload_n 1, 1) := by decide +kernel
theorem d_L_law_360 : decode code 360 = .ok (.aload_n 0, 1) := by decide +kernel
theorem d_L_law_361 : decode code 361 = .ok (.iload_n 3, 1) := by decide +kernel
theorem d_L_law_362 : decode code 362 = .ok (.iconst 1, 1) := by decide +kernel
theorem d_L_law_363 : decode code 363 = .ok (.iadd, 1) := by decide +kernel
theorem d_L_law_364 : decode code 364 = .ok (.iaload, 1) := by decide +kernel
theorem d_L_law_365 : decode code 365 = .ok (.aload_n 0, 1) := by decide +kernel
theorem d_L_law_366 : decode code 366 = .ok (.iload_n 3, 1) := by decide +kernel
theorem d_L_law_367 : decode code 367 = .ok (.iconst 2, 1) := by decide +kernel
theorem d_L_law_368 : decode code 368 = .ok (.iadd, 1) := by decide +kernel
theorem d_L_law_369 : decode code 369 = .ok (.iaload, 1) := by decide +kernel
theorem d_L_law_370 : decode code 370 = .ok (.invokevirtual 59, 3) := by decide +kernel
theorem d_L_law_373 : decode code 373 = .ok (.aload_n 2, 1) := by decide +kernel
theorem d_L_law_374 : decode code 374 = .ok (.aload_n 0, 1) := by decide +kernel
theorem d_L_law_375 : decode code 375 = .ok (.iload_n 3, 1) := by decide +kernel
theorem d_L_law_376 : decode code 376 = .ok (.iconst 1, 1) := by decide +kernel
theorem d_L_law_377 : decode code 377 = .ok (.iadd, 1) := by decide +kernel
theorem d_L_law_378 : decode code 378 = .ok (.iaload, 1) := by decide +kernel
theorem d_L_law_379 : decode code 379 = .ok (.aload_n 0, 1) := by decide +kernel
theorem d_L_law_380 : decode code 380 = .ok (.iload_n 3, 1) := by decide +kernel
theorem d_L_law_381 : decode code 381 = .ok (.iconst 2, 1) := by decide +kernel
theorem d_L_law_382 : decode code 382 = .ok (.iadd, 1) := by decide +kernel
theorem d_L_law_383 : decode code 383 = .ok (.iaload, 1) := by decide +kernel
theorem d_L_law_384 : decode code 384 = .ok (.invokevirtual 63, 3) := by decide +kernel
theorem d_L_law_387 : decode code 387 = .ok (.if_icmp .eq 28, 3) := by decide +kernel
theorem d_L_law_390 : decode code 390 = .ok (.iconst 0, 1) := by decide +kernel
theorem d_L_law_391 : decode code 391 = .ok (.ireturn, 1) := by decide +kernel
theorem d_L_law_392 : decode code 392 = .ok (.aload_n 1, 1) := by decide +kernel
theorem d_L_law_393 : decode code 393 = .ok (.aload_n 0, 1) := by decide +kernel
theorem d_L_law_394 : decode code 394 = .ok (.iload_n 3, 1) := by decide +kernel
theorem d_L_law_395 : decode code 395 = .ok (.iconst 1, 1) := by decide +kernel
theorem d_L_law_396 : decode code 396 = .ok (.iadd, 1) := by decide +kernel
theorem d_L_law_397 : decode code 397 = .ok (.iaload, 1) := by decide +kernel
theorem d_L_law_398 : decode code 398 = .ok (.invokevirtual 64, 3) := by decide +kernel
theorem d_L_law_401 : decode code 401 = .ok (.aload_n 2, 1) := by decide +kernel
theorem d_L_law_402 : decode code 402 = .ok (.aload_n 0, 1) := by decide +kernel
theorem d_L_law_403 : decode code 403 = .ok (.iload_n 3, 1) := by decide +kernel
theorem d_L_law_404 : decode code 404 = .ok (.iconst 1, 1) := by decide +kernel
theorem d_L_law_405 : decode code 405 = .ok (.iadd, 1) := by decide +kernel
theorem d_L_law_406 : decode code 406 = .ok (.iaload, 1) := by decide +kernel
theorem d_L_law_407 : decode code 407 = .ok (.invokevirtual 67, 3) := by decide +kernel
theorem d_L_law_410 : decode code 410 = .ok (.if_icmp .eq 5, 3) := by decide +kernel
theorem d_L_law_413 : decode code 413 = .ok (.iconst 0, 1) := by decide +kernel
theorem d_L_law_414 : decode code 414 = .ok (.ireturn, 1) := by decide +kernel
theorem d_L_law_415 : decode code 415 = .ok (.iinc 3 5, 3) := by decide +kernel
theorem d_L_law_418 : decode code 418 = .ok (.goto (-400), 3) := by decide +kernel
theorem d_L_law_421 : decode code 421 = .ok (.iconst 1, 1) := by decide +kernel
theorem d_L_law_422 : decode code 422 = .ok (.ireturn, 1) := by decide +kernel
end
section
/-! Fields, classes, calls by the constant pools: printed by wip/whole/gen_names.py. -/
theorem xm1 {i : Nat} {w : Cond} (h : tables_1_1[i]? = some w) (g : goodWord w = true) : w ∈ xBIG := List.mem_filter.mpr ⟨List.mem_append_right _ (List.mem_append_left _ (List.mem_of_getElem? h)), g⟩
theorem xm2 {i : Nat} {w : Cond} (h : tables_1_2[i]? = some w) (g : goodWord w = true) : w ∈ xBIG := List.mem_filter.mpr ⟨List.mem_append_right _ (List.mem_append_right _ (List.mem_append_left _ (List.mem_of_getElem? h))), g⟩
theorem xm3 {i : Nat} {w : Cond} (h : tables_1_3[i]? = some w) (g : goodWord w = true) : w ∈ xBIG := List.mem_filter.mpr ⟨List.mem_append_right _ (List.mem_append_right _ (List.mem_append_right _ (List.mem_append_left _ (List.mem_of_getElem? h)))), g⟩
theorem xm4 {i : Nat} {w : Cond} (h : tables_1_4[i]? = some w) (g : goodWord w = true) : w ∈ xBIG := List.mem_filter.mpr ⟨List.mem_append_right _ (List.mem_append_right _ (List.mem_append_right _ (List.mem_append_right _ (List.mem_of_getElem? h)))), g⟩
theorem f_K_10 : xFld "JoinKeeper" 10 0 0 true (.object "JoinKeeper$Rows") := ⟨R_K, F_K, 5, ft_K, rfl, by decide, in_K, xm1 (i := 161) rfl rfl, rfl, ty_K, rfl, nm_K, fun _ => rfl⟩
theorem f_K_19 : xFld "JoinKeeper" 19 0 1 true (.object "JoinKeeper$Text") := ⟨R_K, F_K, 5, ft_K, rfl, by decide, in_K, xm1 (i := 162) rfl rfl, rfl, ty_K, rfl, nm_K, fun _ => rfl⟩
theorem f_K_26 : xFld "JoinKeeper" 26 0 2 true (.object "JoinKeeper$Grammar") := ⟨R_K, F_K, 5, ft_K, rfl, by decide, in_K, xm1 (i := 163) rfl rfl, rfl, ty_K, rfl, nm_K, fun _ => rfl⟩
theorem f_K_33 : xFld "JoinKeeper" 33 0 3 true (.object "JoinKeeper$Evaluator") := ⟨R_K, F_K, 5, ft_K, rfl, by decide, in_K, xm1 (i := 164) rfl rfl, rfl, ty_K, rfl, nm_K, fun _ => rfl⟩
theorem f_K_39 : xFld "JoinKeeper" 39 0 4 true (.array (.object "JoinKeeper$Question")) := ⟨R_K, F_K, 5, ft_K, rfl, by decide, in_K, xm1 (i := 165) rfl rfl, rfl, ty_K, rfl, nm_K, fun _ => rfl⟩
theorem f_E_13 : xFld "JoinKeeper$Evaluator" 13 4 0 true (.array (.object "JoinKeeper$Polynomial")) := ⟨R_E, F_E, 5, ft_E, rfl, by decide, in_E, xm1 (i := 107) rfl rfl, rfl, ty_E, rfl, nm_E, fun _ => rfl⟩
theorem f_E_17 : xFld "JoinKeeper$Evaluator" 17 4 1 true (.array (.object "JoinKeeper$Polynomial")) := ⟨R_E, F_E, 5, ft_E, rfl, by decide, in_E, xm1 (i := 108) rfl rfl, rfl, ty_E, rfl, nm_E, fun _ => rfl⟩
theorem f_E_20 : xFld "JoinKeeper$Evaluator" 20 4 2 true (.array (.object "JoinKeeper$Polynomial")) := ⟨R_E, F_E, 5, ft_E, rfl, by decide, in_E, xm1 (i := 109) rfl rfl, rfl, ty_E, rfl, nm_E, fun _ => rfl⟩
theorem f_E_24 : xFld "JoinKeeper$Evaluator" 24 4 3 true (.object "JoinKeeper$Polynomial") := ⟨R_E, F_E, 5, ft_E, rfl, by decide, in_E, xm1 (i := 110) rfl rfl, rfl, ty_E, rfl, nm_E, fun _ => rfl⟩
theorem f_E_28 : xFld "JoinKeeper$Evaluator" 28 4 4 false .int := ⟨R_E, F_E, 5, ft_E, rfl, by decide, in_E, xm1 (i := 111) rfl rfl, rfl, ty_E, rfl, nm_E, fun _ => rfl⟩
theorem f_G_9 : xFld "JoinKeeper$Grammar" 9 3 8 true (.array .int) := ⟨R_G, F_G, 10, ft_G, rfl, by decide, in_G, xm1 (i := 67) rfl rfl, rfl, ty_G, rfl, nm_G, fun _ => rfl⟩
theorem f_G_36 : xFld "JoinKeeper$Grammar" 36 3 1 false .int := ⟨R_G, F_G, 10, ft_G, rfl, by decide, in_G, xm1 (i := 60) rfl rfl, rfl, ty_G, rfl, nm_G, fun _ => rfl⟩
theorem f_G_40 : xFld "JoinKeeper$Grammar" 40 3 2 false .int := ⟨R_G, F_G, 10, ft_G, rfl, by decide, in_G, xm1 (i := 61) rfl rfl, rfl, ty_G, rfl, nm_G, fun _ => rfl⟩
theorem f_G_43 : xFld "JoinKeeper$Grammar" 43 3 7 false .int := ⟨R_G, F_G, 10, ft_G, rfl, by decide, in_G, xm1 (i := 66) rfl rfl, rfl, ty_G, rfl, nm_G, fun _ => rfl⟩
theorem f_G_46 : xFld "JoinKeeper$Grammar" 46 3 9 false .int := ⟨R_G, F_G, 10, ft_G, rfl, by decide, in_G, xm1 (i := 68) rfl rfl, rfl, ty_G, rfl, nm_G, fun _ => rfl⟩
theorem f_G_49 : xFld "JoinKeeper$Grammar" 49 3 0 false .int := ⟨R_G, F_G, 10, ft_G, rfl, by decide, in_G, xm1 (i := 59) rfl rfl, rfl, ty_G, rfl, nm_G, fun _ => rfl⟩
theorem f_G_52 : xFld "JoinKeeper$Grammar" 52 3 3 false .int := ⟨R_G, F_G, 10, ft_G, rfl, by decide, in_G, xm1 (i := 62) rfl rfl, rfl, ty_G, rfl, nm_G, fun _ => rfl⟩
theorem f_G_55 : xFld "JoinKeeper$Grammar" 55 3 4 false .int := ⟨R_G, F_G, 10, ft_G, rfl, by decide, in_G, xm1 (i := 63) rfl rfl, rfl, ty_G, rfl, nm_G, fun _ => rfl⟩
theorem f_G_110 : xFld "JoinKeeper$Grammar" 110 3 5 false .int := ⟨R_G, F_G, 10, ft_G, rfl, by decide, in_G, xm1 (i := 64) rfl rfl, rfl, ty_G, rfl, nm_G, fun _ => rfl⟩
theorem f_G_113 : xFld "JoinKeeper$Grammar" 113 3 6 false .char := ⟨R_G, F_G, 10, ft_G, rfl, by decide, in_G, xm1 (i := 65) rfl rfl, rfl, ty_G, rfl, nm_G, fun _ => rfl⟩
theorem f_P_11 : xFld "JoinKeeper$Polynomial" 11 5 0 true (.array .int) := ⟨R_P, F_P, 1, ft_P, rfl, by decide, in_P, xm1 (i := 103) rfl rfl, rfl, ty_P, rfl, nm_P, fun _ => rfl⟩
theorem w_P_15 : Jvm.Cond.fieldLink "JoinKeeper$Polynomial" 15 "JoinKeeper$Polynomial" "COLUMN_PLACES" "[I" ∈ xBIG := xm2 (i := 129) rfl rfl
theorem f_Q_9 : xFld "JoinKeeper$Question" 9 6 5 true (.array .int) := ⟨R_Q, F_Q, 9, ft_Q, rfl, by decide, in_Q, xm1 (i := 137) rfl rfl, rfl, ty_Q, rfl, nm_Q, fun _ => rfl⟩
theorem f_Q_18 : xFld "JoinKeeper$Question" 18 6 6 true (.object "JoinKeeper$Polynomial") := ⟨R_Q, F_Q, 9, ft_Q, rfl, by decide, in_Q, xm1 (i := 138) rfl rfl, rfl, ty_Q, rfl, nm_Q, fun _ => rfl⟩
theorem f_Q_22 : xFld "JoinKeeper$Question" 22 6 7 true (.array .long) := ⟨R_Q, F_Q, 9, ft_Q, rfl, by decide, in_Q, xm1 (i := 139) rfl rfl, rfl, ty_Q, rfl, nm_Q, fun _ => rfl⟩
theorem f_Q_26 : xFld "JoinKeeper$Question" 26 6 8 true (.array .long) := ⟨R_Q, F_Q, 9, ft_Q, rfl, by decide, in_Q, xm1 (i := 140) rfl rfl, rfl, ty_Q, rfl, nm_Q, fun _ => rfl⟩
theorem f_Q_29 : xFld "JoinKeeper$Question" 29 6 0 false .boolean := ⟨R_Q, F_Q, 9, ft_Q, rfl, by decide, in_Q, xm1 (i := 132) rfl rfl, rfl, ty_Q, rfl, nm_Q, fun _ => rfl⟩
theorem f_Q_39 : xFld "JoinKeeper$Question" 39 6 1 false .int := ⟨R_Q, F_Q, 9, ft_Q, rfl, by decide, in_Q, xm1 (i := 133) rfl rfl, rfl, ty_Q, rfl, nm_Q, fun _ => rfl⟩
theorem f_Q_45 : xFld "JoinKeeper$Question" 45 6 2 false .int := ⟨R_Q, F_Q, 9, ft_Q, rfl, by decide, in_Q, xm1 (i := 134) rfl rfl, rfl, ty_Q, rfl, nm_Q, fun _ => rfl⟩
theorem f_Q_50 : xFld "JoinKeeper$Question" 50 6 3 false .int := ⟨R_Q, F_Q, 9, ft_Q, rfl, by decide, in_Q, xm1 (i := 135) rfl rfl, rfl, ty_Q, rfl, nm_Q, fun _ => rfl⟩
theorem f_Q_55 : xFld "JoinKeeper$Question" 55 6 4 false .int := ⟨R_Q, F_Q, 9, ft_Q, rfl, by decide, in_Q, xm1 (i := 136) rfl rfl, rfl, ty_Q, rfl, nm_Q, fun _ => rfl⟩
theorem f_R_9 : xFld "JoinKeeper$Rows" 9 1 0 true (.array .int) := ⟨R_R, F_R, 4, ft_R, rfl, by decide, in_R, xm1 (i := 25) rfl rfl, rfl, ty_R, rfl, nm_R, fun _ => rfl⟩
theorem f_R_15 : xFld "JoinKeeper$Rows" 15 1 1 true (.array .int) := ⟨R_R, F_R, 4, ft_R, rfl, by decide, in_R, xm1 (i := 26) rfl rfl, rfl, ty_R, rfl, nm_R, fun _ => rfl⟩
theorem f_R_18 : xFld "JoinKeeper$Rows" 18 1 2 true (.array .int) := ⟨R_R, F_R, 4, ft_R, rfl, by decide, in_R, xm1 (i := 27) rfl rfl, rfl, ty_R, rfl, nm_R, fun _ => rfl⟩
theorem f_R_25 : xFld "JoinKeeper$Rows" 25 1 3 false .int := ⟨R_R, F_R, 4, ft_R, rfl, by decide, in_R, xm1 (i := 28) rfl rfl, rfl, ty_R, rfl, nm_R, fun _ => rfl⟩
theorem f_T_9 : xFld "JoinKeeper$Text" 9 2 0 true (.array .char) := ⟨R_T, F_T, 2, ft_T, rfl, by decide, in_T, xm1 (i := 45) rfl rfl, rfl, ty_T, rfl, nm_T, fun _ => rfl⟩
theorem f_T_13 : xFld "JoinKeeper$Text" 13 2 1 false .int := ⟨R_T, F_T, 2, ft_T, rfl, by decide, in_T, xm1 (i := 46) rfl rfl, rfl, ty_T, rfl, nm_T, fun _ => rfl⟩
theorem f_M_7 : xFld "JoinKeeperModel" 7 7 0 true (.array .int) := ⟨R_M, F_M, 27, ft_M, rfl, by decide, in_M, xm3 (i := 41) rfl rfl, rfl, ty_M, rfl, nm_M, fun _ => rfl⟩
theorem f_M_13 : xFld "JoinKeeperModel" 13 7 1 true (.array .int) := ⟨R_M, F_M, 27, ft_M, rfl, by decide, in_M, xm3 (i := 42) rfl rfl, rfl, ty_M, rfl, nm_M, fun _ => rfl⟩
theorem f_M_16 : xFld "JoinKeeperModel" 16 7 2 true (.array .int) := ⟨R_M, F_M, 27, ft_M, rfl, by decide, in_M, xm3 (i := 43) rfl rfl, rfl, ty_M, rfl, nm_M, fun _ => rfl⟩
theorem f_M_19 : xFld "JoinKeeperModel" 19 7 4 true (.array .int) := ⟨R_M, F_M, 27, ft_M, rfl, by decide, in_M, xm3 (i := 45) rfl rfl, rfl, ty_M, rfl, nm_M, fun _ => rfl⟩
theorem f_M_22 : xFld "JoinKeeperModel" 22 7 7 true (.array .int) := ⟨R_M, F_M, 27, ft_M, rfl, by decide, in_M, xm3 (i := 48) rfl rfl, rfl, ty_M, rfl, nm_M, fun _ => rfl⟩
theorem f_M_25 : xFld "JoinKeeperModel" 25 7 8 true (.array .int) := ⟨R_M, F_M, 27, ft_M, rfl, by decide, in_M, xm3 (i := 49) rfl rfl, rfl, ty_M, rfl, nm_M, fun _ => rfl⟩
theorem f_M_28 : xFld "JoinKeeperModel" 28 7 9 true (.array .int) := ⟨R_M, F_M, 27, ft_M, rfl, by decide, in_M, xm3 (i := 50) rfl rfl, rfl, ty_M, rfl, nm_M, fun _ => rfl⟩
theorem f_M_31 : xFld "JoinKeeperModel" 31 7 12 true (.array .boolean) := ⟨R_M, F_M, 27, ft_M, rfl, by decide, in_M, xm3 (i := 53) rfl rfl, rfl, ty_M, rfl, nm_M, fun _ => rfl⟩
theorem f_M_35 : xFld "JoinKeeperModel" 35 7 13 true (.array .int) := ⟨R_M, F_M, 27, ft_M, rfl, by decide, in_M, xm3 (i := 54) rfl rfl, rfl, ty_M, rfl, nm_M, fun _ => rfl⟩
theorem f_M_38 : xFld "JoinKeeperModel" 38 7 14 true (.array .int) := ⟨R_M, F_M, 27, ft_M, rfl, by decide, in_M, xm3 (i := 55) rfl rfl, rfl, ty_M, rfl, nm_M, fun _ => rfl⟩
theorem f_M_41 : xFld "JoinKeeperModel" 41 7 15 true (.array .int) := ⟨R_M, F_M, 27, ft_M, rfl, by decide, in_M, xm3 (i := 56) rfl rfl, rfl, ty_M, rfl, nm_M, fun _ => rfl⟩
theorem f_M_44 : xFld "JoinKeeperModel" 44 7 16 true (.array .int) := ⟨R_M, F_M, 27, ft_M, rfl, by decide, in_M, xm3 (i := 57) rfl rfl, rfl, ty_M, rfl, nm_M, fun _ => rfl⟩
theorem f_M_47 : xFld "JoinKeeperModel" 47 7 17 true (.array .int) := ⟨R_M, F_M, 27, ft_M, rfl, by decide, in_M, xm3 (i := 58) rfl rfl, rfl, ty_M, rfl, nm_M, fun _ => rfl⟩
theorem f_M_50 : xFld "JoinKeeperModel" 50 7 18 true (.array .int) := ⟨R_M, F_M, 27, ft_M, rfl, by decide, in_M, xm3 (i := 59) rfl rfl, rfl, ty_M, rfl, nm_M, fun _ => rfl⟩
theorem f_M_53 : xFld "JoinKeeperModel" 53 7 19 true (.array .int) := ⟨R_M, F_M, 27, ft_M, rfl, by decide, in_M, xm3 (i := 60) rfl rfl, rfl, ty_M, rfl, nm_M, fun _ => rfl⟩
theorem f_M_56 : xFld "JoinKeeperModel" 56 7 20 true (.array .int) := ⟨R_M, F_M, 27, ft_M, rfl, by decide, in_M, xm3 (i := 61) rfl rfl, rfl, ty_M, rfl, nm_M, fun _ => rfl⟩
theorem f_M_59 : xFld "JoinKeeperModel" 59 7 21 true (.array .boolean) := ⟨R_M, F_M, 27, ft_M, rfl, by decide, in_M, xm3 (i := 62) rfl rfl, rfl, ty_M, rfl, nm_M, fun _ => rfl⟩
theorem f_M_62 : xFld "JoinKeeperModel" 62 7 22 true (.array .int) := ⟨R_M, F_M, 27, ft_M, rfl, by decide, in_M, xm3 (i := 63) rfl rfl, rfl, ty_M, rfl, nm_M, fun _ => rfl⟩
theorem f_M_65 : xFld "JoinKeeperModel" 65 7 23 true (.array .int) := ⟨R_M, F_M, 27, ft_M, rfl, by decide, in_M, xm3 (i := 64) rfl rfl, rfl, ty_M, rfl, nm_M, fun _ => rfl⟩
theorem f_M_68 : xFld "JoinKeeperModel" 68 7 24 true (.array .int) := ⟨R_M, F_M, 27, ft_M, rfl, by decide, in_M, xm3 (i := 65) rfl rfl, rfl, ty_M, rfl, nm_M, fun _ => rfl⟩
theorem f_M_71 : xFld "JoinKeeperModel" 71 7 25 true (.array .int) := ⟨R_M, F_M, 27, ft_M, rfl, by decide, in_M, xm3 (i := 66) rfl rfl, rfl, ty_M, rfl, nm_M, fun _ => rfl⟩
theorem f_M_78 : xFld "JoinKeeperModel" 78 7 6 false .int := ⟨R_M, F_M, 27, ft_M, rfl, by decide, in_M, xm3 (i := 47) rfl rfl, rfl, ty_M, rfl, nm_M, fun _ => rfl⟩
theorem f_M_82 : xFld "JoinKeeperModel" 82 7 5 false .int := ⟨R_M, F_M, 27, ft_M, rfl, by decide, in_M, xm3 (i := 46) rfl rfl, rfl, ty_M, rfl, nm_M, fun _ => rfl⟩
theorem f_M_85 : xFld "JoinKeeperModel" 85 7 26 false .boolean := ⟨R_M, F_M, 27, ft_M, rfl, by decide, in_M, xm3 (i := 67) rfl rfl, rfl, ty_M, rfl, nm_M, fun _ => rfl⟩
theorem f_M_119 : xFld "JoinKeeperModel" 119 7 10 false .int := ⟨R_M, F_M, 27, ft_M, rfl, by decide, in_M, xm3 (i := 51) rfl rfl, rfl, ty_M, rfl, nm_M, fun _ => rfl⟩
theorem f_M_125 : xFld "JoinKeeperModel" 125 7 11 false .int := ⟨R_M, F_M, 27, ft_M, rfl, by decide, in_M, xm3 (i := 52) rfl rfl, rfl, ty_M, rfl, nm_M, fun _ => rfl⟩
theorem f_M_150 : xFld "JoinKeeperModel" 150 7 3 false .int := ⟨R_M, F_M, 27, ft_M, rfl, by decide, in_M, xm3 (i := 44) rfl rfl, rfl, ty_M, rfl, nm_M, fun _ => rfl⟩
theorem n_K_7 : xCls "JoinKeeper" 7 1 4 [.null, .null, .null, .int 0] := by
  refine ⟨R_R, F_R, ft_R, rfl, in_R, xm1 (i := 19) rfl rfl, xm1 (i := 20) rfl rfl, xm1 (i := 2) rfl rfl, ty_R, by decide +kernel, fun _ _ => rfl⟩
theorem cl_K_7 : Jvm.Cond.classLink "JoinKeeper" 7 "JoinKeeper$Rows" ∈ xBIG := xm1 (i := 19) rfl rfl
theorem n_K_16 : xCls "JoinKeeper" 16 2 2 [.null, .int 0] := by
  refine ⟨R_T, F_T, ft_T, rfl, in_T, xm1 (i := 39) rfl rfl, xm1 (i := 40) rfl rfl, xm1 (i := 3) rfl rfl, ty_T, by decide +kernel, fun _ _ => rfl⟩
theorem cl_K_16 : Jvm.Cond.classLink "JoinKeeper" 16 "JoinKeeper$Text" ∈ xBIG := xm1 (i := 39) rfl rfl
theorem n_K_23 : xCls "JoinKeeper" 23 3 10 [.int 0, .int 0, .int 0, .int 0, .int 0, .int 0, .int 0, .int 0, .null, .int 0] := by
  refine ⟨R_G, F_G, ft_G, rfl, in_G, xm1 (i := 53) rfl rfl, xm1 (i := 54) rfl rfl, xm1 (i := 4) rfl rfl, ty_G, by decide +kernel, fun _ _ => rfl⟩
theorem cl_K_23 : Jvm.Cond.classLink "JoinKeeper" 23 "JoinKeeper$Grammar" ∈ xBIG := xm1 (i := 53) rfl rfl
theorem n_K_30 : xCls "JoinKeeper" 30 4 5 [.null, .null, .null, .null, .int 0] := by
  refine ⟨R_E, F_E, ft_E, rfl, in_E, xm1 (i := 90) rfl rfl, xm1 (i := 91) rfl rfl, xm1 (i := 5) rfl rfl, ty_E, by decide +kernel, fun _ _ => rfl⟩
theorem cl_K_30 : Jvm.Cond.classLink "JoinKeeper" 30 "JoinKeeper$Evaluator" ∈ xBIG := xm1 (i := 90) rfl rfl
theorem n_K_37 : xCls "JoinKeeper" 37 6 9 [.int 0, .int 0, .int 0, .int 0, .int 0, .null, .null, .null, .null] := by
  refine ⟨R_Q, F_Q, ft_Q, rfl, in_Q, xm1 (i := 123) rfl rfl, xm1 (i := 125) rfl rfl, xm1 (i := 7) rfl rfl, ty_Q, by decide +kernel, fun _ _ => rfl⟩
theorem cl_K_37 : Jvm.Cond.classLink "JoinKeeper" 37 "JoinKeeper$Question" ∈ xBIG := xm1 (i := 123) rfl rfl
theorem n_E_11 : xCls "JoinKeeper$Evaluator" 11 5 1 [.null] := by
  refine ⟨R_P, F_P, ft_P, rfl, in_P, xm1 (i := 96) rfl rfl, xm1 (i := 98) rfl rfl, xm1 (i := 6) rfl rfl, ty_P, by decide +kernel, fun _ _ => rfl⟩
theorem cl_E_11 : Jvm.Cond.classLink "JoinKeeper$Evaluator" 11 "JoinKeeper$Polynomial" ∈ xBIG := xm1 (i := 96) rfl rfl
theorem n_Q_15 : xCls "JoinKeeper$Question" 15 5 1 [.null] := by
  refine ⟨R_P, F_P, ft_P, rfl, in_P, xm1 (i := 130) rfl rfl, xm1 (i := 98) rfl rfl, xm1 (i := 6) rfl rfl, ty_P, by decide +kernel, fun _ _ => rfl⟩
theorem cl_Q_15 : Jvm.Cond.classLink "JoinKeeper$Question" 15 "JoinKeeper$Polynomial" ∈ xBIG := xm1 (i := 130) rfl rfl
theorem n_L_7 : xCls "JoinKeeperLaw" 7 0 5 [.null, .null, .null, .null, .null] := by
  refine ⟨R_K, F_K, ft_K, rfl, in_K, xm1 (i := 11) rfl rfl, xm1 (i := 12) rfl rfl, xm1 (i := 1) rfl rfl, ty_K, by decide +kernel, fun _ _ => rfl⟩
theorem cl_L_7 : Jvm.Cond.classLink "JoinKeeperLaw" 7 "JoinKeeper" ∈ xBIG := xm1 (i := 11) rfl rfl
theorem n_L_10 : xCls "JoinKeeperLaw" 10 7 27 [.null, .null, .null, .int 0, .null, .int 0, .int 0, .null, .null, .null, .int 0, .int 0, .null, .null, .null, .null, .null, .null, .null, .null, .null, .null, .null, .null, .null, .null, .int 0] := by
  refine ⟨R_M, F_M, ft_M, rfl, in_M, xm3 (i := 35) rfl rfl, xm3 (i := 36) rfl rfl, xm1 (i := 8) rfl rfl, ty_M, by decide +kernel, fun _ _ => rfl⟩
theorem cl_L_10 : Jvm.Cond.classLink "JoinKeeperLaw" 10 "JoinKeeperModel" ∈ xBIG := xm3 (i := 35) rfl rfl
theorem l_K_109 : Jvm.Cond.constantLong "JoinKeeper" 109 (9000000000000000000) ∈ xBIG := xm2 (i := 211) rfl rfl
theorem l_R_21 : Jvm.Cond.constantLong "JoinKeeper$Rows" 21 (100) ∈ xBIG := xm1 (i := 194) rfl rfl
theorem l_R_23 : Jvm.Cond.constantLong "JoinKeeper$Rows" 23 (-100) ∈ xBIG := xm1 (i := 195) rfl rfl
theorem l_M_146 : Jvm.Cond.constantLong "JoinKeeperModel" 146 (100) ∈ xBIG := xm3 (i := 134) rfl rfl
theorem l_M_148 : Jvm.Cond.constantLong "JoinKeeperModel" 148 (-100) ∈ xBIG := xm3 (i := 135) rfl rfl
theorem l_M_173 : Jvm.Cond.constantLong "JoinKeeperModel" 173 (9000000000000000000) ∈ xBIG := xm3 (i := 222) rfl rfl
theorem ac_int : Jvm.Cond.arrayClass .int ∈ xBIG := xm1 (i := 38) rfl rfl
theorem ac_char : Jvm.Cond.arrayClass .char ∈ xBIG := xm1 (i := 52) rfl rfl
theorem ac_long : Jvm.Cond.arrayClass .long ∈ xBIG := xm1 (i := 160) rfl rfl
theorem ac_boolean : Jvm.Cond.arrayClass .boolean ∈ xBIG := xm3 (i := 123) rfl rfl
theorem v_K_init : y_K_init.name = "<init>" ∧ Jvm.Cond.instanceMethod y_K_init ∈ xBIG := ⟨rfl, xm1 (i := 14) rfl rfl⟩
theorem v_R_init : y_R_init.name = "<init>" ∧ Jvm.Cond.instanceMethod y_R_init ∈ xBIG := ⟨rfl, xm1 (i := 22) rfl rfl⟩
theorem v_T_init : y_T_init.name = "<init>" ∧ Jvm.Cond.instanceMethod y_T_init ∈ xBIG := ⟨rfl, xm1 (i := 42) rfl rfl⟩
theorem v_G_init : y_G_init.name = "<init>" ∧ Jvm.Cond.instanceMethod y_G_init ∈ xBIG := ⟨rfl, xm1 (i := 56) rfl rfl⟩
theorem v_E_init : y_E_init.name = "<init>" ∧ Jvm.Cond.instanceMethod y_E_init ∈ xBIG := ⟨rfl, xm1 (i := 93) rfl rfl⟩
theorem v_P_init : y_P_init.name = "<init>" ∧ Jvm.Cond.instanceMethod y_P_init ∈ xBIG := ⟨rfl, xm1 (i := 100) rfl rfl⟩
theorem v_Q_init : y_Q_init.name = "<init>" ∧ Jvm.Cond.instanceMethod y_Q_init ∈ xBIG := ⟨rfl, xm1 (i := 127) rfl rfl⟩
theorem v_K_change : Jvm.Cond.instanceMethod y_K_change ∈ xBIG ∧ Jvm.Cond.selects y_K_change.cls y_K_change y_K_change ∈ xBIG := ⟨xm1 (i := 178) rfl rfl, xm1 (i := 179) rfl rfl⟩
theorem s_K_isRow : Jvm.Cond.static y_K_isRow ∈ xBIG := xm1 (i := 182) rfl rfl
theorem s_K_isValue : Jvm.Cond.static y_K_isValue ∈ xBIG := xm1 (i := 185) rfl rfl
theorem s_R_placeOf : Jvm.Cond.static y_R_placeOf ∈ xBIG := xm1 (i := 188) rfl rfl
theorem v_R_raise : Jvm.Cond.instanceMethod y_R_raise ∈ xBIG ∧ Jvm.Cond.selects y_R_raise.cls y_R_raise y_R_raise ∈ xBIG := ⟨xm1 (i := 191) rfl rfl, xm1 (i := 192) rfl rfl⟩
theorem v_K_back : Jvm.Cond.instanceMethod y_K_back ∈ xBIG ∧ Jvm.Cond.selects y_K_back.cls y_K_back y_K_back ∈ xBIG := ⟨xm1 (i := 197) rfl rfl, xm1 (i := 198) rfl rfl⟩
theorem v_R_takeBack : Jvm.Cond.instanceMethod y_R_takeBack ∈ xBIG ∧ Jvm.Cond.selects y_R_takeBack.cls y_R_takeBack y_R_takeBack ∈ xBIG := ⟨xm1 (i := 201) rfl rfl, xm1 (i := 202) rfl rfl⟩
theorem v_R_changesLeft : Jvm.Cond.instanceMethod y_R_changesLeft ∈ xBIG ∧ Jvm.Cond.selects y_R_changesLeft.cls y_R_changesLeft y_R_changesLeft ∈ xBIG := ⟨xm1 (i := 205) rfl rfl, xm1 (i := 206) rfl rfl⟩
theorem v_K_sign : Jvm.Cond.instanceMethod y_K_sign ∈ xBIG ∧ Jvm.Cond.selects y_K_sign.cls y_K_sign y_K_sign ∈ xBIG := ⟨xm1 (i := 209) rfl rfl, xm1 (i := 210) rfl rfl⟩
theorem v_T_append : Jvm.Cond.instanceMethod y_T_append ∈ xBIG ∧ Jvm.Cond.selects y_T_append.cls y_T_append y_T_append ∈ xBIG := ⟨xm1 (i := 213) rfl rfl, xm1 (i := 214) rfl rfl⟩
theorem v_T_length : Jvm.Cond.instanceMethod y_T_length ∈ xBIG ∧ Jvm.Cond.selects y_T_length.cls y_T_length y_T_length ∈ xBIG := ⟨xm1 (i := 217) rfl rfl, xm1 (i := 218) rfl rfl⟩
theorem v_K_clear : Jvm.Cond.instanceMethod y_K_clear ∈ xBIG ∧ Jvm.Cond.selects y_K_clear.cls y_K_clear y_K_clear ∈ xBIG := ⟨xm1 (i := 221) rfl rfl, xm1 (i := 222) rfl rfl⟩
theorem v_T_empty : Jvm.Cond.instanceMethod y_T_empty ∈ xBIG ∧ Jvm.Cond.selects y_T_empty.cls y_T_empty y_T_empty ∈ xBIG := ⟨xm1 (i := 225) rfl rfl, xm1 (i := 226) rfl rfl⟩
theorem v_K_define : Jvm.Cond.instanceMethod y_K_define ∈ xBIG ∧ Jvm.Cond.selects y_K_define.cls y_K_define y_K_define ∈ xBIG := ⟨xm1 (i := 229) rfl rfl, xm1 (i := 230) rfl rfl⟩
theorem s_K_isQuestion : Jvm.Cond.static y_K_isQuestion ∈ xBIG := xm1 (i := 233) rfl rfl
theorem v_G_faultIn : Jvm.Cond.instanceMethod y_G_faultIn ∈ xBIG ∧ Jvm.Cond.selects y_G_faultIn.cls y_G_faultIn y_G_faultIn ∈ xBIG := ⟨xm1 (i := 236) rfl rfl, xm1 (i := 237) rfl rfl⟩
theorem v_G_restart : Jvm.Cond.instanceMethod y_G_restart ∈ xBIG ∧ Jvm.Cond.selects y_G_restart.cls y_G_restart y_G_restart ∈ xBIG := ⟨xm2 (i := 1) rfl rfl, xmem (i := 0) rfl rfl⟩
theorem s_A_fill : Jvm.Cond.static y_A_fill ∈ xBIG := xm2 (i := 4) rfl rfl
theorem v_T_at : Jvm.Cond.instanceMethod y_T_at ∈ xBIG ∧ Jvm.Cond.selects y_T_at.cls y_T_at y_T_at ∈ xBIG := ⟨xm2 (i := 8) rfl rfl, xm2 (i := 9) rfl rfl⟩
theorem v_G_take : Jvm.Cond.instanceMethod y_G_take ∈ xBIG ∧ Jvm.Cond.selects y_G_take.cls y_G_take y_G_take ∈ xBIG := ⟨xm2 (i := 13) rfl rfl, xmem (i := 1) rfl rfl⟩
theorem v_G_takeChainStart : Jvm.Cond.instanceMethod y_G_takeChainStart ∈ xBIG ∧ Jvm.Cond.selects y_G_takeChainStart.cls y_G_takeChainStart y_G_takeChainStart ∈ xBIG := ⟨xm2 (i := 17) rfl rfl, xmem (i := 2) rfl rfl⟩
theorem s_T_relationOf : Jvm.Cond.static y_T_relationOf ∈ xBIG := xm2 (i := 20) rfl rfl
theorem v_G_takeChainRest : Jvm.Cond.instanceMethod y_G_takeChainRest ∈ xBIG ∧ Jvm.Cond.selects y_G_takeChainRest.cls y_G_takeChainRest y_G_takeChainRest ∈ xBIG := ⟨xm2 (i := 24) rfl rfl, xmem (i := 3) rfl rfl⟩
theorem v_G_takeFactor : Jvm.Cond.instanceMethod y_G_takeFactor ∈ xBIG ∧ Jvm.Cond.selects y_G_takeFactor.cls y_G_takeFactor y_G_takeFactor ∈ xBIG := ⟨xm2 (i := 28) rfl rfl, xmem (i := 4) rfl rfl⟩
theorem v_G_takeOpening : Jvm.Cond.instanceMethod y_G_takeOpening ∈ xBIG ∧ Jvm.Cond.selects y_G_takeOpening.cls y_G_takeOpening y_G_takeOpening ∈ xBIG := ⟨xm2 (i := 32) rfl rfl, xmem (i := 5) rfl rfl⟩
theorem s_T_isDigit : Jvm.Cond.static y_T_isDigit ∈ xBIG := xm2 (i := 35) rfl rfl
theorem v_G_isChainColumn : Jvm.Cond.instanceMethod y_G_isChainColumn ∈ xBIG ∧ Jvm.Cond.selects y_G_isChainColumn.cls y_G_isChainColumn y_G_isChainColumn ∈ xBIG := ⟨xm2 (i := 39) rfl rfl, xmem (i := 6) rfl rfl⟩
theorem s_T_columnOf : Jvm.Cond.static y_T_columnOf ∈ xBIG := xm2 (i := 42) rfl rfl
theorem v_G_endFactor : Jvm.Cond.instanceMethod y_G_endFactor ∈ xBIG ∧ Jvm.Cond.selects y_G_endFactor.cls y_G_endFactor y_G_endFactor ∈ xBIG := ⟨xm2 (i := 46) rfl rfl, xmem (i := 7) rfl rfl⟩
theorem v_G_takeAfterFactor : Jvm.Cond.instanceMethod y_G_takeAfterFactor ∈ xBIG ∧ Jvm.Cond.selects y_G_takeAfterFactor.cls y_G_takeAfterFactor y_G_takeAfterFactor ∈ xBIG := ⟨xm2 (i := 50) rfl rfl, xmem (i := 8) rfl rfl⟩
theorem v_G_takeTail : Jvm.Cond.instanceMethod y_G_takeTail ∈ xBIG ∧ Jvm.Cond.selects y_G_takeTail.cls y_G_takeTail y_G_takeTail ∈ xBIG := ⟨xm2 (i := 54) rfl rfl, xmem (i := 9) rfl rfl⟩
theorem v_G_takeConditionColumn : Jvm.Cond.instanceMethod y_G_takeConditionColumn ∈ xBIG ∧ Jvm.Cond.selects y_G_takeConditionColumn.cls y_G_takeConditionColumn y_G_takeConditionColumn ∈ xBIG := ⟨xm2 (i := 58) rfl rfl, xmem (i := 10) rfl rfl⟩
theorem v_G_takeConditionKind : Jvm.Cond.instanceMethod y_G_takeConditionKind ∈ xBIG ∧ Jvm.Cond.selects y_G_takeConditionKind.cls y_G_takeConditionKind y_G_takeConditionKind ∈ xBIG := ⟨xm2 (i := 62) rfl rfl, xmem (i := 11) rfl rfl⟩
theorem v_G_takeConditionDigit : Jvm.Cond.instanceMethod y_G_takeConditionDigit ∈ xBIG ∧ Jvm.Cond.selects y_G_takeConditionDigit.cls y_G_takeConditionDigit y_G_takeConditionDigit ∈ xBIG := ⟨xm2 (i := 66) rfl rfl, xmem (i := 12) rfl rfl⟩
theorem s_G_meets : Jvm.Cond.static y_G_meets ∈ xBIG := xm2 (i := 69) rfl rfl
theorem v_G_takeGroupColumn : Jvm.Cond.instanceMethod y_G_takeGroupColumn ∈ xBIG ∧ Jvm.Cond.selects y_G_takeGroupColumn.cls y_G_takeGroupColumn y_G_takeGroupColumn ∈ xBIG := ⟨xm2 (i := 73) rfl rfl, xmem (i := 13) rfl rfl⟩
theorem v_G_isWhole : Jvm.Cond.instanceMethod y_G_isWhole ∈ xBIG ∧ Jvm.Cond.selects y_G_isWhole.cls y_G_isWhole y_G_isWhole ∈ xBIG := ⟨xm2 (i := 77) rfl rfl, xmem (i := 14) rfl rfl⟩
theorem v_G_expressionStart : Jvm.Cond.instanceMethod y_G_expressionStart ∈ xBIG ∧ Jvm.Cond.selects y_G_expressionStart.cls y_G_expressionStart y_G_expressionStart ∈ xBIG := ⟨xm2 (i := 80) rfl rfl, xm2 (i := 81) rfl rfl⟩
theorem v_E_evaluate : Jvm.Cond.instanceMethod y_E_evaluate ∈ xBIG ∧ Jvm.Cond.selects y_E_evaluate.cls y_E_evaluate y_E_evaluate ∈ xBIG := ⟨xm2 (i := 84) rfl rfl, xm2 (i := 85) rfl rfl⟩
theorem v_E_readSum : Jvm.Cond.instanceMethod y_E_readSum ∈ xBIG ∧ Jvm.Cond.selects y_E_readSum.cls y_E_readSum y_E_readSum ∈ xBIG := ⟨xm2 (i := 89) rfl rfl, xmem (i := 15) rfl rfl⟩
theorem v_P_becomeNumber : Jvm.Cond.instanceMethod y_P_becomeNumber ∈ xBIG ∧ Jvm.Cond.selects y_P_becomeNumber.cls y_P_becomeNumber y_P_becomeNumber ∈ xBIG := ⟨xm2 (i := 92) rfl rfl, xm2 (i := 93) rfl rfl⟩
theorem v_E_readProduct : Jvm.Cond.instanceMethod y_E_readProduct ∈ xBIG ∧ Jvm.Cond.selects y_E_readProduct.cls y_E_readProduct y_E_readProduct ∈ xBIG := ⟨xm2 (i := 98) rfl rfl, xmem (i := 16) rfl rfl⟩
theorem v_E_readFactor : Jvm.Cond.instanceMethod y_E_readFactor ∈ xBIG ∧ Jvm.Cond.selects y_E_readFactor.cls y_E_readFactor y_E_readFactor ∈ xBIG := ⟨xm2 (i := 102) rfl rfl, xmem (i := 17) rfl rfl⟩
theorem v_E_readRestOfBrackets : Jvm.Cond.instanceMethod y_E_readRestOfBrackets ∈ xBIG ∧ Jvm.Cond.selects y_E_readRestOfBrackets.cls y_E_readRestOfBrackets y_E_readRestOfBrackets ∈ xBIG := ⟨xm2 (i := 107) rfl rfl, xmem (i := 18) rfl rfl⟩
theorem v_P_becomeCopy : Jvm.Cond.instanceMethod y_P_becomeCopy ∈ xBIG ∧ Jvm.Cond.selects y_P_becomeCopy.cls y_P_becomeCopy y_P_becomeCopy ∈ xBIG := ⟨xm2 (i := 110) rfl rfl, xm2 (i := 111) rfl rfl⟩
theorem v_E_readRestOfNegative : Jvm.Cond.instanceMethod y_E_readRestOfNegative ∈ xBIG ∧ Jvm.Cond.selects y_E_readRestOfNegative.cls y_E_readRestOfNegative y_E_readRestOfNegative ∈ xBIG := ⟨xm2 (i := 118) rfl rfl, xmem (i := 19) rfl rfl⟩
theorem v_P_becomeNegative : Jvm.Cond.instanceMethod y_P_becomeNegative ∈ xBIG ∧ Jvm.Cond.selects y_P_becomeNegative.cls y_P_becomeNegative y_P_becomeNegative ∈ xBIG := ⟨xm2 (i := 121) rfl rfl, xm2 (i := 122) rfl rfl⟩
theorem v_P_becomeColumn : Jvm.Cond.instanceMethod y_P_becomeColumn ∈ xBIG ∧ Jvm.Cond.selects y_P_becomeColumn.cls y_P_becomeColumn y_P_becomeColumn ∈ xBIG := ⟨xm2 (i := 126) rfl rfl, xm2 (i := 127) rfl rfl⟩
theorem v_P_becomeProduct : Jvm.Cond.instanceMethod y_P_becomeProduct ∈ xBIG ∧ Jvm.Cond.selects y_P_becomeProduct.cls y_P_becomeProduct y_P_becomeProduct ∈ xBIG := ⟨xm2 (i := 132) rfl rfl, xm2 (i := 133) rfl rfl⟩
theorem s_P_powersFit : Jvm.Cond.static y_P_powersFit ∈ xBIG := xm2 (i := 136) rfl rfl
theorem s_P_powerAt : Jvm.Cond.static y_P_powerAt ∈ xBIG := xm2 (i := 139) rfl rfl
theorem v_P_hasLargeTerms : Jvm.Cond.instanceMethod y_P_hasLargeTerms ∈ xBIG ∧ Jvm.Cond.selects y_P_hasLargeTerms.cls y_P_hasLargeTerms y_P_hasLargeTerms ∈ xBIG := ⟨xm2 (i := 143) rfl rfl, xmem (i := 20) rfl rfl⟩
theorem v_P_terms : Jvm.Cond.instanceMethod y_P_terms ∈ xBIG ∧ Jvm.Cond.selects y_P_terms.cls y_P_terms y_P_terms ∈ xBIG := ⟨xm2 (i := 146) rfl rfl, xm2 (i := 147) rfl rfl⟩
theorem v_P_add : Jvm.Cond.instanceMethod y_P_add ∈ xBIG ∧ Jvm.Cond.selects y_P_add.cls y_P_add y_P_add ∈ xBIG := ⟨xm2 (i := 150) rfl rfl, xm2 (i := 151) rfl rfl⟩
theorem v_E_result : Jvm.Cond.instanceMethod y_E_result ∈ xBIG ∧ Jvm.Cond.selects y_E_result.cls y_E_result y_E_result ∈ xBIG := ⟨xm2 (i := 154) rfl rfl, xm2 (i := 155) rfl rfl⟩
theorem v_Q_become : Jvm.Cond.instanceMethod y_Q_become ∈ xBIG ∧ Jvm.Cond.selects y_Q_become.cls y_Q_become y_Q_become ∈ xBIG := ⟨xm2 (i := 158) rfl rfl, xm2 (i := 159) rfl rfl⟩
theorem v_G_firstRelation : Jvm.Cond.instanceMethod y_G_firstRelation ∈ xBIG ∧ Jvm.Cond.selects y_G_firstRelation.cls y_G_firstRelation y_G_firstRelation ∈ xBIG := ⟨xm2 (i := 162) rfl rfl, xm2 (i := 163) rfl rfl⟩
theorem v_G_lastRelation : Jvm.Cond.instanceMethod y_G_lastRelation ∈ xBIG ∧ Jvm.Cond.selects y_G_lastRelation.cls y_G_lastRelation y_G_lastRelation ∈ xBIG := ⟨xm2 (i := 166) rfl rfl, xm2 (i := 167) rfl rfl⟩
theorem v_G_groupColumn : Jvm.Cond.instanceMethod y_G_groupColumn ∈ xBIG ∧ Jvm.Cond.selects y_G_groupColumn.cls y_G_groupColumn y_G_groupColumn ∈ xBIG := ⟨xm2 (i := 170) rfl rfl, xm2 (i := 171) rfl rfl⟩
theorem v_G_conditions : Jvm.Cond.instanceMethod y_G_conditions ∈ xBIG ∧ Jvm.Cond.selects y_G_conditions.cls y_G_conditions y_G_conditions ∈ xBIG := ⟨xm2 (i := 174) rfl rfl, xm2 (i := 175) rfl rfl⟩
theorem v_G_allowedIn : Jvm.Cond.instanceMethod y_G_allowedIn ∈ xBIG ∧ Jvm.Cond.selects y_G_allowedIn.cls y_G_allowedIn y_G_allowedIn ∈ xBIG := ⟨xm2 (i := 178) rfl rfl, xm2 (i := 179) rfl rfl⟩
theorem v_Q_terms : Jvm.Cond.instanceMethod y_Q_terms ∈ xBIG ∧ Jvm.Cond.selects y_Q_terms.cls y_Q_terms y_Q_terms ∈ xBIG := ⟨xm2 (i := 183) rfl rfl, xm2 (i := 184) rfl rfl⟩
theorem v_K_fault : Jvm.Cond.instanceMethod y_K_fault ∈ xBIG ∧ Jvm.Cond.selects y_K_fault.cls y_K_fault y_K_fault ∈ xBIG := ⟨xm2 (i := 188) rfl rfl, xm2 (i := 189) rfl rfl⟩
theorem v_K_drop : Jvm.Cond.instanceMethod y_K_drop ∈ xBIG ∧ Jvm.Cond.selects y_K_drop.cls y_K_drop y_K_drop ∈ xBIG := ⟨xm2 (i := 192) rfl rfl, xm2 (i := 193) rfl rfl⟩
theorem v_K_isAskable : Jvm.Cond.instanceMethod y_K_isAskable ∈ xBIG ∧ Jvm.Cond.selects y_K_isAskable.cls y_K_isAskable y_K_isAskable ∈ xBIG := ⟨xm2 (i := 197) rfl rfl, xmem (i := 21) rfl rfl⟩
theorem v_Q_isThere : Jvm.Cond.instanceMethod y_Q_isThere ∈ xBIG ∧ Jvm.Cond.selects y_Q_isThere.cls y_Q_isThere y_Q_isThere ∈ xBIG := ⟨xm2 (i := 200) rfl rfl, xm2 (i := 201) rfl rfl⟩
theorem v_Q_remove : Jvm.Cond.instanceMethod y_Q_remove ∈ xBIG ∧ Jvm.Cond.selects y_Q_remove.cls y_Q_remove y_Q_remove ∈ xBIG := ⟨xm2 (i := 204) rfl rfl, xm2 (i := 205) rfl rfl⟩
theorem v_K_answer : Jvm.Cond.instanceMethod y_K_answer ∈ xBIG ∧ Jvm.Cond.selects y_K_answer.cls y_K_answer y_K_answer ∈ xBIG := ⟨xm2 (i := 208) rfl rfl, xm2 (i := 209) rfl rfl⟩
theorem v_Q_answerFor : Jvm.Cond.instanceMethod y_Q_answerFor ∈ xBIG ∧ Jvm.Cond.selects y_Q_answerFor.cls y_Q_answerFor y_Q_answerFor ∈ xBIG := ⟨xm2 (i := 213) rfl rfl, xm2 (i := 214) rfl rfl⟩
theorem v_Q_sumOver : Jvm.Cond.instanceMethod y_Q_sumOver ∈ xBIG ∧ Jvm.Cond.selects y_Q_sumOver.cls y_Q_sumOver y_Q_sumOver ∈ xBIG := ⟨xm2 (i := 217) rfl rfl, xm2 (i := 218) rfl rfl⟩
theorem v_P_at : Jvm.Cond.instanceMethod y_P_at ∈ xBIG ∧ Jvm.Cond.selects y_P_at.cls y_P_at y_P_at ∈ xBIG := ⟨xm2 (i := 221) rfl rfl, xm2 (i := 222) rfl rfl⟩
theorem v_Q_sumOfPowers : Jvm.Cond.instanceMethod y_Q_sumOfPowers ∈ xBIG ∧ Jvm.Cond.selects y_Q_sumOfPowers.cls y_Q_sumOfPowers y_Q_sumOfPowers ∈ xBIG := ⟨xm2 (i := 226) rfl rfl, xmem (i := 22) rfl rfl⟩
theorem v_Q_share : Jvm.Cond.instanceMethod y_Q_share ∈ xBIG ∧ Jvm.Cond.selects y_Q_share.cls y_Q_share y_Q_share ∈ xBIG := ⟨xm2 (i := 230) rfl rfl, xmem (i := 23) rfl rfl⟩
theorem s_Q_joined : Jvm.Cond.static y_Q_joined ∈ xBIG := xm2 (i := 234) rfl rfl
theorem v_R_at : Jvm.Cond.instanceMethod y_R_at ∈ xBIG ∧ Jvm.Cond.selects y_R_at.cls y_R_at y_R_at ∈ xBIG := ⟨xm2 (i := 238) rfl rfl, xm2 (i := 239) rfl rfl⟩
theorem v_K_total : Jvm.Cond.instanceMethod y_K_total ∈ xBIG ∧ Jvm.Cond.selects y_K_total.cls y_K_total y_K_total ∈ xBIG := ⟨xm3 (i := 2) rfl rfl, xm3 (i := 3) rfl rfl⟩
theorem v_K_count : Jvm.Cond.instanceMethod y_K_count ∈ xBIG ∧ Jvm.Cond.selects y_K_count.cls y_K_count y_K_count ∈ xBIG := ⟨xm3 (i := 7) rfl rfl, xm3 (i := 8) rfl rfl⟩
theorem v_K_question : Jvm.Cond.instanceMethod y_K_question ∈ xBIG ∧ Jvm.Cond.selects y_K_question.cls y_K_question y_K_question ∈ xBIG := ⟨xm3 (i := 12) rfl rfl, xm3 (i := 13) rfl rfl⟩
theorem v_Q_chain : Jvm.Cond.instanceMethod y_Q_chain ∈ xBIG ∧ Jvm.Cond.selects y_Q_chain.cls y_Q_chain y_Q_chain ∈ xBIG := ⟨xm3 (i := 16) rfl rfl, xm3 (i := 17) rfl rfl⟩
theorem v_Q_groupColumn : Jvm.Cond.instanceMethod y_Q_groupColumn ∈ xBIG ∧ Jvm.Cond.selects y_Q_groupColumn.cls y_Q_groupColumn y_Q_groupColumn ∈ xBIG := ⟨xm3 (i := 20) rfl rfl, xm3 (i := 21) rfl rfl⟩
theorem v_Q_conditions : Jvm.Cond.instanceMethod y_Q_conditions ∈ xBIG ∧ Jvm.Cond.selects y_Q_conditions.cls y_Q_conditions y_Q_conditions ∈ xBIG := ⟨xm3 (i := 24) rfl rfl, xm3 (i := 25) rfl rfl⟩
theorem v_K_state : Jvm.Cond.instanceMethod y_K_state ∈ xBIG ∧ Jvm.Cond.selects y_K_state.cls y_K_state y_K_state ∈ xBIG := ⟨xm3 (i := 28) rfl rfl, xm3 (i := 29) rfl rfl⟩
theorem v_R_filled : Jvm.Cond.instanceMethod y_R_filled ∈ xBIG ∧ Jvm.Cond.selects y_R_filled.cls y_R_filled y_R_filled ∈ xBIG := ⟨xm3 (i := 32) rfl rfl, xm3 (i := 33) rfl rfl⟩
theorem v_M_init : y_M_init.name = "<init>" ∧ Jvm.Cond.instanceMethod y_M_init ∈ xBIG := ⟨rfl, xm3 (i := 38) rfl rfl⟩
theorem v_M_change : Jvm.Cond.instanceMethod y_M_change ∈ xBIG ∧ Jvm.Cond.selects y_M_change.cls y_M_change y_M_change ∈ xBIG := ⟨xm3 (i := 125) rfl rfl, xm3 (i := 126) rfl rfl⟩
theorem s_M_cell : Jvm.Cond.static y_M_cell ∈ xBIG := xm3 (i := 129) rfl rfl
theorem s_M_in : Jvm.Cond.static y_M_in ∈ xBIG := xm3 (i := 132) rfl rfl
theorem v_M_back : Jvm.Cond.instanceMethod y_M_back ∈ xBIG ∧ Jvm.Cond.selects y_M_back.cls y_M_back y_M_back ∈ xBIG := ⟨xm3 (i := 137) rfl rfl, xm3 (i := 138) rfl rfl⟩
theorem v_M_sign : Jvm.Cond.instanceMethod y_M_sign ∈ xBIG ∧ Jvm.Cond.selects y_M_sign.cls y_M_sign y_M_sign ∈ xBIG := ⟨xm3 (i := 141) rfl rfl, xm3 (i := 142) rfl rfl⟩
theorem v_M_clear : Jvm.Cond.instanceMethod y_M_clear ∈ xBIG ∧ Jvm.Cond.selects y_M_clear.cls y_M_clear y_M_clear ∈ xBIG := ⟨xm3 (i := 145) rfl rfl, xm3 (i := 146) rfl rfl⟩
theorem v_M_fault : Jvm.Cond.instanceMethod y_M_fault ∈ xBIG ∧ Jvm.Cond.selects y_M_fault.cls y_M_fault y_M_fault ∈ xBIG := ⟨xm3 (i := 149) rfl rfl, xm3 (i := 150) rfl rfl⟩
theorem v_M_read : Jvm.Cond.instanceMethod y_M_read ∈ xBIG ∧ Jvm.Cond.selects y_M_read.cls y_M_read y_M_read ∈ xBIG := ⟨xm3 (i := 154) rfl rfl, xmem (i := 24) rfl rfl⟩
theorem v_M_readChain : Jvm.Cond.instanceMethod y_M_readChain ∈ xBIG ∧ Jvm.Cond.selects y_M_readChain.cls y_M_readChain y_M_readChain ∈ xBIG := ⟨xm3 (i := 158) rfl rfl, xmem (i := 25) rfl rfl⟩
theorem v_M_at : Jvm.Cond.instanceMethod y_M_at ∈ xBIG ∧ Jvm.Cond.selects y_M_at.cls y_M_at y_M_at ∈ xBIG := ⟨xm3 (i := 162) rfl rfl, xmem (i := 26) rfl rfl⟩
theorem v_M_readExpression : Jvm.Cond.instanceMethod y_M_readExpression ∈ xBIG ∧ Jvm.Cond.selects y_M_readExpression.cls y_M_readExpression y_M_readExpression ∈ xBIG := ⟨xm3 (i := 166) rfl rfl, xmem (i := 27) rfl rfl⟩
theorem v_M_begin : Jvm.Cond.instanceMethod y_M_begin ∈ xBIG ∧ Jvm.Cond.selects y_M_begin.cls y_M_begin y_M_begin ∈ xBIG := ⟨xm3 (i := 170) rfl rfl, xmem (i := 28) rfl rfl⟩
theorem v_M_has : Jvm.Cond.instanceMethod y_M_has ∈ xBIG ∧ Jvm.Cond.selects y_M_has.cls y_M_has y_M_has ∈ xBIG := ⟨xm3 (i := 174) rfl rfl, xmem (i := 29) rfl rfl⟩
theorem s_M_letter : Jvm.Cond.static y_M_letter ∈ xBIG := xm3 (i := 177) rfl rfl
theorem v_M_simple : Jvm.Cond.instanceMethod y_M_simple ∈ xBIG ∧ Jvm.Cond.selects y_M_simple.cls y_M_simple y_M_simple ∈ xBIG := ⟨xm3 (i := 181) rfl rfl, xmem (i := 30) rfl rfl⟩
theorem v_M_endFactor : Jvm.Cond.instanceMethod y_M_endFactor ∈ xBIG ∧ Jvm.Cond.selects y_M_endFactor.cls y_M_endFactor y_M_endFactor ∈ xBIG := ⟨xm3 (i := 185) rfl rfl, xmem (i := 31) rfl rfl⟩
theorem v_M_multiply : Jvm.Cond.instanceMethod y_M_multiply ∈ xBIG ∧ Jvm.Cond.selects y_M_multiply.cls y_M_multiply y_M_multiply ∈ xBIG := ⟨xm3 (i := 189) rfl rfl, xmem (i := 32) rfl rfl⟩
theorem s_M_wide : Jvm.Cond.static y_M_wide ∈ xBIG := xm3 (i := 192) rfl rfl
theorem v_M_look : Jvm.Cond.instanceMethod y_M_look ∈ xBIG ∧ Jvm.Cond.selects y_M_look.cls y_M_look y_M_look ∈ xBIG := ⟨xm3 (i := 196) rfl rfl, xmem (i := 33) rfl rfl⟩
theorem v_M_endTerm : Jvm.Cond.instanceMethod y_M_endTerm ∈ xBIG ∧ Jvm.Cond.selects y_M_endTerm.cls y_M_endTerm y_M_endTerm ∈ xBIG := ⟨xm3 (i := 200) rfl rfl, xmem (i := 34) rfl rfl⟩
theorem v_M_readConditions : Jvm.Cond.instanceMethod y_M_readConditions ∈ xBIG ∧ Jvm.Cond.selects y_M_readConditions.cls y_M_readConditions y_M_readConditions ∈ xBIG := ⟨xm3 (i := 204) rfl rfl, xmem (i := 35) rfl rfl⟩
theorem v_M_shorter : Jvm.Cond.instanceMethod y_M_shorter ∈ xBIG ∧ Jvm.Cond.selects y_M_shorter.cls y_M_shorter y_M_shorter ∈ xBIG := ⟨xm3 (i := 208) rfl rfl, xmem (i := 36) rfl rfl⟩
theorem v_M_define : Jvm.Cond.instanceMethod y_M_define ∈ xBIG ∧ Jvm.Cond.selects y_M_define.cls y_M_define y_M_define ∈ xBIG := ⟨xm3 (i := 211) rfl rfl, xm3 (i := 212) rfl rfl⟩
theorem v_M_drop : Jvm.Cond.instanceMethod y_M_drop ∈ xBIG ∧ Jvm.Cond.selects y_M_drop.cls y_M_drop y_M_drop ∈ xBIG := ⟨xm3 (i := 215) rfl rfl, xm3 (i := 216) rfl rfl⟩
theorem v_M_answer : Jvm.Cond.instanceMethod y_M_answer ∈ xBIG ∧ Jvm.Cond.selects y_M_answer.cls y_M_answer y_M_answer ∈ xBIG := ⟨xm3 (i := 219) rfl rfl, xm3 (i := 220) rfl rfl⟩
theorem v_M_collect : Jvm.Cond.instanceMethod y_M_collect ∈ xBIG ∧ Jvm.Cond.selects y_M_collect.cls y_M_collect y_M_collect ∈ xBIG := ⟨xm3 (i := 225) rfl rfl, xmem (i := 37) rfl rfl⟩
theorem s_M_of : Jvm.Cond.static y_M_of ∈ xBIG := xm3 (i := 228) rfl rfl
theorem v_M_meets : Jvm.Cond.instanceMethod y_M_meets ∈ xBIG ∧ Jvm.Cond.selects y_M_meets.cls y_M_meets y_M_meets ∈ xBIG := ⟨xm3 (i := 232) rfl rfl, xmem (i := 38) rfl rfl⟩
theorem v_M_weight : Jvm.Cond.instanceMethod y_M_weight ∈ xBIG ∧ Jvm.Cond.selects y_M_weight.cls y_M_weight y_M_weight ∈ xBIG := ⟨xm3 (i := 236) rfl rfl, xmem (i := 39) rfl rfl⟩
theorem v_M_value : Jvm.Cond.instanceMethod y_M_value ∈ xBIG ∧ Jvm.Cond.selects y_M_value.cls y_M_value y_M_value ∈ xBIG := ⟨xm4 (i := 0) rfl rfl, xmem (i := 40) rfl rfl⟩
theorem s_M_power : Jvm.Cond.static y_M_power ∈ xBIG := xm4 (i := 3) rfl rfl
theorem v_M_total : Jvm.Cond.instanceMethod y_M_total ∈ xBIG ∧ Jvm.Cond.selects y_M_total.cls y_M_total y_M_total ∈ xBIG := ⟨xm4 (i := 6) rfl rfl, xm4 (i := 7) rfl rfl⟩
theorem v_M_count : Jvm.Cond.instanceMethod y_M_count ∈ xBIG ∧ Jvm.Cond.selects y_M_count.cls y_M_count y_M_count ∈ xBIG := ⟨xm4 (i := 10) rfl rfl, xm4 (i := 11) rfl rfl⟩
theorem v_M_question : Jvm.Cond.instanceMethod y_M_question ∈ xBIG ∧ Jvm.Cond.selects y_M_question.cls y_M_question y_M_question ∈ xBIG := ⟨xm4 (i := 14) rfl rfl, xm4 (i := 15) rfl rfl⟩
theorem v_M_state : Jvm.Cond.instanceMethod y_M_state ∈ xBIG ∧ Jvm.Cond.selects y_M_state.cls y_M_state y_M_state ∈ xBIG := ⟨xm4 (i := 18) rfl rfl, xm4 (i := 19) rfl rfl⟩
theorem o_K_1 : Jvm.Cond.methodLink "JoinKeeper" 1 Lib.objectInit ∈ xBIG ∧ Jvm.Cond.instanceMethod Lib.objectInit ∈ xBIG ∧ Jvm.Cond.code Lib.objectInit ⟨#[0xb1]⟩ 1 none ∈ xBIG := ⟨xm1 (i := 16) rfl rfl, xm1 (i := 17) rfl rfl, xm1 (i := 18) rfl rfl⟩
theorem k_K_32 : xcB "JoinKeeper" 32 y_E_init b_E_init 2 none 0 := ⟨xm1 (i := 92) rfl rfl, xm1 (i := 5) rfl rfl, xm1 (i := 94) rfl rfl, by decide +kernel, by decide⟩
theorem k_K_44 : xcB "JoinKeeper" 44 y_K_isRow b_K_isRow 3 ((some .boolean)) 3 := ⟨xm1 (i := 181) rfl rfl, xm1 (i := 1) rfl rfl, xm1 (i := 183) rfl rfl, by decide +kernel, by decide⟩
theorem k_K_48 : xcB "JoinKeeper" 48 y_R_placeOf b_R_placeOf 3 ((some .int)) 3 := ⟨xm1 (i := 187) rfl rfl, xm1 (i := 2) rfl rfl, xm1 (i := 189) rfl rfl, by decide +kernel, by decide⟩
theorem k_K_52 : xcB "JoinKeeper" 52 y_R_raise b_R_raise 5 ((some .boolean)) 2 := ⟨xm1 (i := 190) rfl rfl, xm1 (i := 2) rfl rfl, xm1 (i := 193) rfl rfl, by decide +kernel, by decide⟩
theorem k_K_56 : xcB "JoinKeeper" 56 y_R_takeBack b_R_takeBack 1 ((some .boolean)) 0 := ⟨xm1 (i := 200) rfl rfl, xm1 (i := 2) rfl rfl, xm1 (i := 203) rfl rfl, by decide +kernel, by decide⟩
theorem k_K_60 : xcB "JoinKeeper" 60 y_R_changesLeft b_R_changesLeft 1 ((some .int)) 0 := ⟨xm1 (i := 204) rfl rfl, xm1 (i := 2) rfl rfl, xm1 (i := 207) rfl rfl, by decide +kernel, by decide⟩
theorem k_K_64 : xcB "JoinKeeper" 64 y_T_append b_T_append 2 ((some .boolean)) 1 := ⟨xm1 (i := 212) rfl rfl, xm1 (i := 3) rfl rfl, xm1 (i := 215) rfl rfl, by decide +kernel, by decide⟩
theorem k_K_68 : xcB "JoinKeeper" 68 y_T_length b_T_length 1 ((some .int)) 0 := ⟨xm1 (i := 216) rfl rfl, xm1 (i := 3) rfl rfl, xm1 (i := 219) rfl rfl, by decide +kernel, by decide⟩
theorem k_K_71 : xcB "JoinKeeper" 71 y_T_empty b_T_empty 1 none 0 := ⟨xm1 (i := 224) rfl rfl, xm1 (i := 3) rfl rfl, xm1 (i := 227) rfl rfl, by decide +kernel, by decide⟩
theorem k_K_74 : xcB "JoinKeeper" 74 y_K_isQuestion b_K_isQuestion 1 ((some .boolean)) 1 := ⟨xm1 (i := 232) rfl rfl, xm1 (i := 1) rfl rfl, xm1 (i := 234) rfl rfl, by decide +kernel, by decide⟩
theorem k_K_78 : xcB "JoinKeeper" 78 y_G_faultIn b_G_faultIn 3 ((some .int)) 1 := ⟨xm1 (i := 235) rfl rfl, xm1 (i := 4) rfl rfl, xm1 (i := 238) rfl rfl, by decide +kernel, by decide⟩
theorem k_K_82 : xcB "JoinKeeper" 82 y_G_expressionStart b_G_expressionStart 2 ((some .int)) 0 := ⟨xm2 (i := 79) rfl rfl, xm1 (i := 4) rfl rfl, xm2 (i := 82) rfl rfl, by decide +kernel, by decide⟩
theorem k_K_85 : xcB "JoinKeeper" 85 y_E_evaluate b_E_evaluate 3 ((some .boolean)) 2 := ⟨xm2 (i := 83) rfl rfl, xm1 (i := 5) rfl rfl, xm2 (i := 86) rfl rfl, by decide +kernel, by decide⟩
theorem k_K_89 : xcB "JoinKeeper" 89 y_E_result b_E_result 1 ((some (.object "JoinKeeper$Polynomial"))) 0 := ⟨xm2 (i := 153) rfl rfl, xm1 (i := 5) rfl rfl, xm2 (i := 156) rfl rfl, by decide +kernel, by decide⟩
theorem k_K_93 : xcB "JoinKeeper" 93 y_Q_become b_Q_become 4 none 2 := ⟨xm2 (i := 157) rfl rfl, xm1 (i := 7) rfl rfl, xm2 (i := 160) rfl rfl, by decide +kernel, by decide⟩
theorem k_K_97 : xcB "JoinKeeper" 97 y_Q_terms b_Q_terms 1 ((some .int)) 0 := ⟨xm2 (i := 182) rfl rfl, xm1 (i := 7) rfl rfl, xm2 (i := 185) rfl rfl, by decide +kernel, by decide⟩
theorem k_K_100 : xcB "JoinKeeper" 100 y_K_isAskable b_K_isAskable 2 ((some .boolean)) 1 := ⟨xm2 (i := 195) rfl rfl, xm1 (i := 1) rfl rfl, xm2 (i := 198) rfl rfl, by decide +kernel, by decide⟩
theorem k_K_103 : xcB "JoinKeeper" 103 y_Q_remove b_Q_remove 1 none 0 := ⟨xm2 (i := 203) rfl rfl, xm1 (i := 7) rfl rfl, xm2 (i := 206) rfl rfl, by decide +kernel, by decide⟩
theorem k_K_106 : xcB "JoinKeeper" 106 y_K_isValue b_K_isValue 1 ((some .boolean)) 1 := ⟨xm1 (i := 184) rfl rfl, xm1 (i := 1) rfl rfl, xm1 (i := 186) rfl rfl, by decide +kernel, by decide⟩
theorem k_K_111 : xcB "JoinKeeper" 111 y_Q_answerFor b_Q_answerFor 3 ((some .long)) 2 := ⟨xm2 (i := 212) rfl rfl, xm1 (i := 7) rfl rfl, xm2 (i := 215) rfl rfl, by decide +kernel, by decide⟩
theorem k_K_115 : xcB "JoinKeeper" 115 y_Q_sumOver b_Q_sumOver 7 ((some .long)) 2 := ⟨xm3 (i := 5) rfl rfl, xm1 (i := 7) rfl rfl, xm2 (i := 219) rfl rfl, by decide +kernel, by decide⟩
theorem k_K_118 : xcB "JoinKeeper" 118 y_R_at b_R_at 2 ((some .int)) 1 := ⟨xm3 (i := 10) rfl rfl, xm1 (i := 2) rfl rfl, xm3 (i := 0) rfl rfl, by decide +kernel, by decide⟩
theorem k_K_122 : xcB "JoinKeeper" 122 y_Q_isThere b_Q_isThere 1 ((some .boolean)) 0 := ⟨xm2 (i := 199) rfl rfl, xm1 (i := 7) rfl rfl, xm2 (i := 202) rfl rfl, by decide +kernel, by decide⟩
theorem k_K_125 : xcB "JoinKeeper" 125 y_Q_chain b_Q_chain 3 ((some .int)) 0 := ⟨xm3 (i := 15) rfl rfl, xm1 (i := 7) rfl rfl, xm3 (i := 18) rfl rfl, by decide +kernel, by decide⟩
theorem k_K_128 : xcB "JoinKeeper" 128 y_Q_groupColumn b_Q_groupColumn 1 ((some .int)) 0 := ⟨xm3 (i := 19) rfl rfl, xm1 (i := 7) rfl rfl, xm3 (i := 22) rfl rfl, by decide +kernel, by decide⟩
theorem k_K_131 : xcB "JoinKeeper" 131 y_Q_conditions b_Q_conditions 1 ((some .int)) 0 := ⟨xm3 (i := 23) rfl rfl, xm1 (i := 7) rfl rfl, xm3 (i := 26) rfl rfl, by decide +kernel, by decide⟩
theorem k_K_134 : xcB "JoinKeeper" 134 y_R_filled b_R_filled 3 ((some .int)) 0 := ⟨xm3 (i := 31) rfl rfl, xm1 (i := 2) rfl rfl, xm3 (i := 34) rfl rfl, by decide +kernel, by decide⟩
theorem o_E_3 : Jvm.Cond.methodLink "JoinKeeper$Evaluator" 3 Lib.objectInit ∈ xBIG ∧ Jvm.Cond.instanceMethod Lib.objectInit ∈ xBIG ∧ Jvm.Cond.code Lib.objectInit ⟨#[0xb1]⟩ 1 none ∈ xBIG := ⟨xm1 (i := 95) rfl rfl, xm1 (i := 17) rfl rfl, xm1 (i := 18) rfl rfl⟩
theorem k_E_32 : xcB "JoinKeeper$Evaluator" 32 y_E_readSum b_E_readSum 6 ((some .boolean)) 2 := ⟨xm2 (i := 87) rfl rfl, xm1 (i := 5) rfl rfl, xm2 (i := 90) rfl rfl, by decide +kernel, by decide⟩
theorem k_E_36 : xcB "JoinKeeper$Evaluator" 36 y_P_becomeNumber b_P_becomeNumber 2 none 1 := ⟨xm2 (i := 91) rfl rfl, xm1 (i := 6) rfl rfl, xm2 (i := 94) rfl rfl, by decide +kernel, by decide⟩
theorem k_E_42 : xcB "JoinKeeper$Evaluator" 42 y_E_readProduct b_E_readProduct 4 ((some .boolean)) 2 := ⟨xm2 (i := 96) rfl rfl, xm1 (i := 5) rfl rfl, xm2 (i := 99) rfl rfl, by decide +kernel, by decide⟩
theorem k_E_45 : xcB "JoinKeeper$Evaluator" 45 y_P_add b_P_add 4 ((some .boolean)) 2 := ⟨xm2 (i := 149) rfl rfl, xm1 (i := 6) rfl rfl, xm2 (i := 152) rfl rfl, by decide +kernel, by decide⟩
theorem k_E_49 : xcB "JoinKeeper$Evaluator" 49 y_T_at b_T_at 2 ((some .char)) 1 := ⟨xm2 (i := 104) rfl rfl, xm1 (i := 3) rfl rfl, xm2 (i := 10) rfl rfl, by decide +kernel, by decide⟩
theorem k_E_53 : xcB "JoinKeeper$Evaluator" 53 y_E_readFactor b_E_readFactor 5 ((some .boolean)) 2 := ⟨xm2 (i := 100) rfl rfl, xm1 (i := 5) rfl rfl, xm2 (i := 103) rfl rfl, by decide +kernel, by decide⟩
theorem k_E_56 : xcB "JoinKeeper$Evaluator" 56 y_P_becomeProduct b_P_becomeProduct 5 ((some .boolean)) 2 := ⟨xm2 (i := 131) rfl rfl, xm1 (i := 6) rfl rfl, xm2 (i := 134) rfl rfl, by decide +kernel, by decide⟩
theorem k_E_60 : xcB "JoinKeeper$Evaluator" 60 y_P_becomeCopy b_P_becomeCopy 2 none 1 := ⟨xm2 (i := 109) rfl rfl, xm1 (i := 6) rfl rfl, xm2 (i := 112) rfl rfl, by decide +kernel, by decide⟩
theorem k_E_64 : xcB "JoinKeeper$Evaluator" 64 y_E_readRestOfBrackets b_E_readRestOfBrackets 3 ((some .boolean)) 2 := ⟨xm2 (i := 105) rfl rfl, xm1 (i := 5) rfl rfl, xm2 (i := 108) rfl rfl, by decide +kernel, by decide⟩
theorem k_E_67 : xcB "JoinKeeper$Evaluator" 67 y_E_readRestOfNegative b_E_readRestOfNegative 3 ((some .boolean)) 2 := ⟨xm2 (i := 116) rfl rfl, xm1 (i := 5) rfl rfl, xm2 (i := 119) rfl rfl, by decide +kernel, by decide⟩
theorem k_E_70 : xcB "JoinKeeper$Evaluator" 70 y_T_columnOf b_T_columnOf 1 ((some .int)) 1 := ⟨xm2 (i := 124) rfl rfl, xm1 (i := 3) rfl rfl, xm2 (i := 43) rfl rfl, by decide +kernel, by decide⟩
theorem k_E_74 : xcB "JoinKeeper$Evaluator" 74 y_P_becomeColumn b_P_becomeColumn 2 none 1 := ⟨xm2 (i := 125) rfl rfl, xm1 (i := 6) rfl rfl, xm2 (i := 128) rfl rfl, by decide +kernel, by decide⟩
theorem k_E_77 : xcB "JoinKeeper$Evaluator" 77 y_P_becomeNegative b_P_becomeNegative 3 none 1 := ⟨xm2 (i := 120) rfl rfl, xm1 (i := 6) rfl rfl, xm2 (i := 123) rfl rfl, by decide +kernel, by decide⟩
theorem o_G_3 : Jvm.Cond.methodLink "JoinKeeper$Grammar" 3 Lib.objectInit ∈ xBIG ∧ Jvm.Cond.instanceMethod Lib.objectInit ∈ xBIG ∧ Jvm.Cond.code Lib.objectInit ⟨#[0xb1]⟩ 1 none ∈ xBIG := ⟨xm1 (i := 58) rfl rfl, xm1 (i := 17) rfl rfl, xm1 (i := 18) rfl rfl⟩
theorem k_G_15 : xcB "JoinKeeper$Grammar" 15 y_G_restart b_G_restart 1 none 0 := ⟨xm1 (i := 239) rfl rfl, xm1 (i := 4) rfl rfl, xm2 (i := 2) rfl rfl, by decide +kernel, by decide⟩
theorem k_G_18 : xcB "JoinKeeper$Grammar" 18 y_T_length b_T_length 1 ((some .int)) 0 := ⟨xm2 (i := 6) rfl rfl, xm1 (i := 3) rfl rfl, xm1 (i := 219) rfl rfl, by decide +kernel, by decide⟩
theorem k_G_24 : xcB "JoinKeeper$Grammar" 24 y_T_at b_T_at 2 ((some .char)) 1 := ⟨xm2 (i := 7) rfl rfl, xm1 (i := 3) rfl rfl, xm2 (i := 10) rfl rfl, by decide +kernel, by decide⟩
theorem k_G_28 : xcB "JoinKeeper$Grammar" 28 y_G_take b_G_take 2 ((some .boolean)) 1 := ⟨xm2 (i := 11) rfl rfl, xm1 (i := 4) rfl rfl, xm2 (i := 14) rfl rfl, by decide +kernel, by decide⟩
theorem k_G_32 : xcB "JoinKeeper$Grammar" 32 y_G_isWhole b_G_isWhole 1 ((some .boolean)) 0 := ⟨xm2 (i := 75) rfl rfl, xm1 (i := 4) rfl rfl, xm2 (i := 78) rfl rfl, by decide +kernel, by decide⟩
theorem k_G_58 : xcB "JoinKeeper$Grammar" 58 y_A_fill b_A_fill 4 none 2 := ⟨xm2 (i := 3) rfl rfl, xm1 (i := 9) rfl rfl, xm2 (i := 5) rfl rfl, by decide +kernel, by decide⟩
theorem k_G_64 : xcB "JoinKeeper$Grammar" 64 y_G_takeChainStart b_G_takeChainStart 3 ((some .boolean)) 1 := ⟨xm2 (i := 15) rfl rfl, xm1 (i := 4) rfl rfl, xm2 (i := 18) rfl rfl, by decide +kernel, by decide⟩
theorem k_G_67 : xcB "JoinKeeper$Grammar" 67 y_G_takeChainRest b_G_takeChainRest 2 ((some .boolean)) 1 := ⟨xm2 (i := 22) rfl rfl, xm1 (i := 4) rfl rfl, xm2 (i := 25) rfl rfl, by decide +kernel, by decide⟩
theorem k_G_70 : xcB "JoinKeeper$Grammar" 70 y_G_takeFactor b_G_takeFactor 2 ((some .boolean)) 1 := ⟨xm2 (i := 26) rfl rfl, xm1 (i := 4) rfl rfl, xm2 (i := 29) rfl rfl, by decide +kernel, by decide⟩
theorem k_G_73 : xcB "JoinKeeper$Grammar" 73 y_G_takeAfterFactor b_G_takeAfterFactor 2 ((some .boolean)) 1 := ⟨xm2 (i := 48) rfl rfl, xm1 (i := 4) rfl rfl, xm2 (i := 51) rfl rfl, by decide +kernel, by decide⟩
theorem k_G_76 : xcB "JoinKeeper$Grammar" 76 y_G_takeConditionColumn b_G_takeConditionColumn 2 ((some .boolean)) 1 := ⟨xm2 (i := 56) rfl rfl, xm1 (i := 4) rfl rfl, xm2 (i := 59) rfl rfl, by decide +kernel, by decide⟩
theorem k_G_79 : xcB "JoinKeeper$Grammar" 79 y_G_takeConditionKind b_G_takeConditionKind 2 ((some .boolean)) 1 := ⟨xm2 (i := 60) rfl rfl, xm1 (i := 4) rfl rfl, xm2 (i := 63) rfl rfl, by decide +kernel, by decide⟩
theorem k_G_82 : xcB "JoinKeeper$Grammar" 82 y_G_takeConditionDigit b_G_takeConditionDigit 3 ((some .boolean)) 1 := ⟨xm2 (i := 64) rfl rfl, xm1 (i := 4) rfl rfl, xm2 (i := 67) rfl rfl, by decide +kernel, by decide⟩
theorem k_G_85 : xcB "JoinKeeper$Grammar" 85 y_G_takeTail b_G_takeTail 2 ((some .boolean)) 1 := ⟨xm2 (i := 52) rfl rfl, xm1 (i := 4) rfl rfl, xm2 (i := 55) rfl rfl, by decide +kernel, by decide⟩
theorem k_G_88 : xcB "JoinKeeper$Grammar" 88 y_G_takeGroupColumn b_G_takeGroupColumn 2 ((some .boolean)) 1 := ⟨xm2 (i := 71) rfl rfl, xm1 (i := 4) rfl rfl, xm2 (i := 74) rfl rfl, by decide +kernel, by decide⟩
theorem k_G_91 : xcB "JoinKeeper$Grammar" 91 y_T_relationOf b_T_relationOf 1 ((some .int)) 1 := ⟨xm2 (i := 19) rfl rfl, xm1 (i := 3) rfl rfl, xm2 (i := 21) rfl rfl, by decide +kernel, by decide⟩
theorem k_G_95 : xcB "JoinKeeper$Grammar" 95 y_G_takeOpening b_G_takeOpening 2 ((some .boolean)) 1 := ⟨xm2 (i := 30) rfl rfl, xm1 (i := 4) rfl rfl, xm2 (i := 33) rfl rfl, by decide +kernel, by decide⟩
theorem k_G_98 : xcB "JoinKeeper$Grammar" 98 y_T_isDigit b_T_isDigit 1 ((some .boolean)) 1 := ⟨xm2 (i := 34) rfl rfl, xm1 (i := 3) rfl rfl, xm2 (i := 36) rfl rfl, by decide +kernel, by decide⟩
theorem k_G_101 : xcB "JoinKeeper$Grammar" 101 y_G_isChainColumn b_G_isChainColumn 3 ((some .boolean)) 1 := ⟨xm2 (i := 37) rfl rfl, xm1 (i := 4) rfl rfl, xm2 (i := 40) rfl rfl, by decide +kernel, by decide⟩
theorem k_G_104 : xcB "JoinKeeper$Grammar" 104 y_G_endFactor b_G_endFactor 1 none 0 := ⟨xm2 (i := 44) rfl rfl, xm1 (i := 4) rfl rfl, xm2 (i := 47) rfl rfl, by decide +kernel, by decide⟩
theorem k_G_107 : xcB "JoinKeeper$Grammar" 107 y_T_columnOf b_T_columnOf 1 ((some .int)) 1 := ⟨xm2 (i := 41) rfl rfl, xm1 (i := 3) rfl rfl, xm2 (i := 43) rfl rfl, by decide +kernel, by decide⟩
theorem k_G_117 : xcB "JoinKeeper$Grammar" 117 y_G_meets b_G_meets 3 ((some .boolean)) 3 := ⟨xm2 (i := 68) rfl rfl, xm1 (i := 4) rfl rfl, xm2 (i := 70) rfl rfl, by decide +kernel, by decide⟩
theorem o_P_3 : Jvm.Cond.methodLink "JoinKeeper$Polynomial" 3 Lib.objectInit ∈ xBIG ∧ Jvm.Cond.instanceMethod Lib.objectInit ∈ xBIG ∧ Jvm.Cond.code Lib.objectInit ⟨#[0xb1]⟩ 1 none ∈ xBIG := ⟨xm1 (i := 102) rfl rfl, xm1 (i := 17) rfl rfl, xm1 (i := 18) rfl rfl⟩
theorem k_P_18 : xcB "JoinKeeper$Polynomial" 18 y_A_fill b_A_fill 4 none 2 := ⟨xm2 (i := 95) rfl rfl, xm1 (i := 9) rfl rfl, xm2 (i := 5) rfl rfl, by decide +kernel, by decide⟩
theorem ay_P_24 : Jvm.Cond.methodLink "JoinKeeper$Polynomial" 24 arraycopyName ∈ xBIG ∧ Jvm.Cond.native arraycopyName ∈ xBIG ∧ Jvm.Cond.static arraycopyName ∈ xBIG ∧ Jvm.Cond.initialized "java/lang/System" ∈ xBIG := ⟨xm2 (i := 113) rfl rfl, xm2 (i := 115) rfl rfl, xm2 (i := 114) rfl rfl, xm1 (i := 10) rfl rfl⟩
theorem k_P_30 : xcB "JoinKeeper$Polynomial" 30 y_P_hasLargeTerms b_P_hasLargeTerms 2 ((some .boolean)) 0 := ⟨xm2 (i := 141) rfl rfl, xm1 (i := 6) rfl rfl, xm2 (i := 144) rfl rfl, by decide +kernel, by decide⟩
theorem k_P_34 : xcB "JoinKeeper$Polynomial" 34 y_P_powersFit b_P_powersFit 3 ((some .boolean)) 2 := ⟨xm2 (i := 135) rfl rfl, xm1 (i := 6) rfl rfl, xm2 (i := 137) rfl rfl, by decide +kernel, by decide⟩
theorem k_P_38 : xcB "JoinKeeper$Polynomial" 38 y_P_powerAt b_P_powerAt 2 ((some .int)) 2 := ⟨xm2 (i := 138) rfl rfl, xm1 (i := 6) rfl rfl, xm2 (i := 140) rfl rfl, by decide +kernel, by decide⟩
theorem k_P_42 : xcB "JoinKeeper$Polynomial" 42 y_P_terms b_P_terms 3 ((some .int)) 0 := ⟨xm2 (i := 145) rfl rfl, xm1 (i := 6) rfl rfl, xm2 (i := 148) rfl rfl, by decide +kernel, by decide⟩
theorem o_Q_3 : Jvm.Cond.methodLink "JoinKeeper$Question" 3 Lib.objectInit ∈ xBIG ∧ Jvm.Cond.instanceMethod Lib.objectInit ∈ xBIG ∧ Jvm.Cond.code Lib.objectInit ⟨#[0xb1]⟩ 1 none ∈ xBIG := ⟨xm1 (i := 129) rfl rfl, xm1 (i := 17) rfl rfl, xm1 (i := 18) rfl rfl⟩
theorem k_Q_33 : xcB "JoinKeeper$Question" 33 y_G_firstRelation b_G_firstRelation 1 ((some .int)) 0 := ⟨xm2 (i := 161) rfl rfl, xm1 (i := 4) rfl rfl, xm2 (i := 164) rfl rfl, by decide +kernel, by decide⟩
theorem k_Q_42 : xcB "JoinKeeper$Question" 42 y_G_lastRelation b_G_lastRelation 1 ((some .int)) 0 := ⟨xm2 (i := 165) rfl rfl, xm1 (i := 4) rfl rfl, xm2 (i := 168) rfl rfl, by decide +kernel, by decide⟩
theorem k_Q_47 : xcB "JoinKeeper$Question" 47 y_G_groupColumn b_G_groupColumn 1 ((some .int)) 0 := ⟨xm2 (i := 169) rfl rfl, xm1 (i := 4) rfl rfl, xm2 (i := 172) rfl rfl, by decide +kernel, by decide⟩
theorem k_Q_52 : xcB "JoinKeeper$Question" 52 y_G_conditions b_G_conditions 1 ((some .int)) 0 := ⟨xm2 (i := 173) rfl rfl, xm1 (i := 4) rfl rfl, xm2 (i := 176) rfl rfl, by decide +kernel, by decide⟩
theorem k_Q_57 : xcB "JoinKeeper$Question" 57 y_G_allowedIn b_G_allowedIn 2 ((some .int)) 1 := ⟨xm2 (i := 177) rfl rfl, xm1 (i := 4) rfl rfl, xm2 (i := 180) rfl rfl, by decide +kernel, by decide⟩
theorem k_Q_61 : xcB "JoinKeeper$Question" 61 y_P_becomeCopy b_P_becomeCopy 2 none 1 := ⟨xm2 (i := 181) rfl rfl, xm1 (i := 6) rfl rfl, xm2 (i := 112) rfl rfl, by decide +kernel, by decide⟩
theorem k_Q_65 : xcB "JoinKeeper$Question" 65 y_P_terms b_P_terms 3 ((some .int)) 0 := ⟨xm2 (i := 186) rfl rfl, xm1 (i := 6) rfl rfl, xm2 (i := 148) rfl rfl, by decide +kernel, by decide⟩
theorem k_Q_68 : xcB "JoinKeeper$Question" 68 y_Q_sumOver b_Q_sumOver 7 ((some .long)) 2 := ⟨xm2 (i := 216) rfl rfl, xm1 (i := 7) rfl rfl, xm2 (i := 219) rfl rfl, by decide +kernel, by decide⟩
theorem k_Q_72 : xcB "JoinKeeper$Question" 72 y_P_at b_P_at 2 ((some .int)) 1 := ⟨xm2 (i := 220) rfl rfl, xm1 (i := 6) rfl rfl, xm2 (i := 223) rfl rfl, by decide +kernel, by decide⟩
theorem k_Q_75 : xcB "JoinKeeper$Question" 75 y_Q_sumOfPowers b_Q_sumOfPowers 10 ((some .long)) 3 := ⟨xm2 (i := 224) rfl rfl, xm1 (i := 7) rfl rfl, xm2 (i := 227) rfl rfl, by decide +kernel, by decide⟩
theorem k_Q_79 : xcB "JoinKeeper$Question" 79 y_Q_share b_Q_share 9 ((some .long)) 4 := ⟨xm2 (i := 228) rfl rfl, xm1 (i := 7) rfl rfl, xm2 (i := 231) rfl rfl, by decide +kernel, by decide⟩
theorem k_Q_83 : xcB "JoinKeeper$Question" 83 y_Q_joined b_Q_joined 7 ((some .long)) 4 := ⟨xm2 (i := 233) rfl rfl, xm1 (i := 7) rfl rfl, xm2 (i := 235) rfl rfl, by decide +kernel, by decide⟩
theorem k_Q_87 : xcB "JoinKeeper$Question" 87 y_R_placeOf b_R_placeOf 3 ((some .int)) 3 := ⟨xm2 (i := 236) rfl rfl, xm1 (i := 2) rfl rfl, xm1 (i := 189) rfl rfl, by decide +kernel, by decide⟩
theorem k_Q_93 : xcB "JoinKeeper$Question" 93 y_R_at b_R_at 2 ((some .int)) 1 := ⟨xm2 (i := 237) rfl rfl, xm1 (i := 2) rfl rfl, xm3 (i := 0) rfl rfl, by decide +kernel, by decide⟩
theorem k_Q_94 : xcB "JoinKeeper$Question" 94 y_P_powerAt b_P_powerAt 2 ((some .int)) 2 := ⟨xm2 (i := 232) rfl rfl, xm1 (i := 6) rfl rfl, xm2 (i := 140) rfl rfl, by decide +kernel, by decide⟩
theorem o_R_3 : Jvm.Cond.methodLink "JoinKeeper$Rows" 3 Lib.objectInit ∈ xBIG ∧ Jvm.Cond.instanceMethod Lib.objectInit ∈ xBIG ∧ Jvm.Cond.code Lib.objectInit ⟨#[0xb1]⟩ 1 none ∈ xBIG := ⟨xm1 (i := 24) rfl rfl, xm1 (i := 17) rfl rfl, xm1 (i := 18) rfl rfl⟩
theorem o_T_1 : Jvm.Cond.methodLink "JoinKeeper$Text" 1 Lib.objectInit ∈ xBIG ∧ Jvm.Cond.instanceMethod Lib.objectInit ∈ xBIG ∧ Jvm.Cond.code Lib.objectInit ⟨#[0xb1]⟩ 1 none ∈ xBIG := ⟨xm1 (i := 44) rfl rfl, xm1 (i := 17) rfl rfl, xm1 (i := 18) rfl rfl⟩
theorem k_L_9 : xcB "JoinKeeperLaw" 9 y_K_init b_K_init 2 none 0 := ⟨xm1 (i := 13) rfl rfl, xm1 (i := 1) rfl rfl, xm1 (i := 15) rfl rfl, by decide +kernel, by decide⟩
theorem k_L_12 : xcB "JoinKeeperLaw" 12 y_M_init b_M_init 1 none 0 := ⟨xm3 (i := 37) rfl rfl, xm1 (i := 8) rfl rfl, xm3 (i := 39) rfl rfl, by decide +kernel, by decide⟩
theorem k_L_13 : xcB "JoinKeeperLaw" 13 y_K_change b_K_change 5 ((some .int)) 4 := ⟨xm1 (i := 177) rfl rfl, xm1 (i := 1) rfl rfl, xm1 (i := 180) rfl rfl, by decide +kernel, by decide⟩
theorem k_L_17 : xcB "JoinKeeperLaw" 17 y_M_change b_M_change 8 ((some .int)) 4 := ⟨xm3 (i := 124) rfl rfl, xm1 (i := 8) rfl rfl, xm3 (i := 127) rfl rfl, by decide +kernel, by decide⟩
theorem k_L_18 : xcB "JoinKeeperLaw" 18 y_K_back b_K_back 1 ((some .int)) 0 := ⟨xm1 (i := 196) rfl rfl, xm1 (i := 1) rfl rfl, xm1 (i := 199) rfl rfl, by decide +kernel, by decide⟩
theorem k_L_22 : xcB "JoinKeeperLaw" 22 y_M_back b_M_back 1 ((some .int)) 0 := ⟨xm3 (i := 136) rfl rfl, xm1 (i := 8) rfl rfl, xm3 (i := 139) rfl rfl, by decide +kernel, by decide⟩
theorem k_L_23 : xcB "JoinKeeperLaw" 23 y_K_sign b_K_sign 2 ((some .int)) 1 := ⟨xm1 (i := 208) rfl rfl, xm1 (i := 1) rfl rfl, xm1 (i := 211) rfl rfl, by decide +kernel, by decide⟩
theorem k_L_27 : xcB "JoinKeeperLaw" 27 y_M_sign b_M_sign 2 ((some .int)) 1 := ⟨xm3 (i := 140) rfl rfl, xm1 (i := 8) rfl rfl, xm3 (i := 143) rfl rfl, by decide +kernel, by decide⟩
theorem k_L_28 : xcB "JoinKeeperLaw" 28 y_K_clear b_K_clear 1 ((some .int)) 0 := ⟨xm1 (i := 220) rfl rfl, xm1 (i := 1) rfl rfl, xm1 (i := 223) rfl rfl, by decide +kernel, by decide⟩
theorem k_L_31 : xcB "JoinKeeperLaw" 31 y_M_clear b_M_clear 1 ((some .int)) 0 := ⟨xm3 (i := 144) rfl rfl, xm1 (i := 8) rfl rfl, xm3 (i := 147) rfl rfl, by decide +kernel, by decide⟩
theorem k_L_32 : xcB "JoinKeeperLaw" 32 y_K_define b_K_define 2 ((some .int)) 1 := ⟨xm1 (i := 228) rfl rfl, xm1 (i := 1) rfl rfl, xm1 (i := 231) rfl rfl, by decide +kernel, by decide⟩
theorem k_L_35 : xcB "JoinKeeperLaw" 35 y_M_define b_M_define 4 ((some .int)) 1 := ⟨xm3 (i := 210) rfl rfl, xm1 (i := 8) rfl rfl, xm3 (i := 213) rfl rfl, by decide +kernel, by decide⟩
theorem k_L_36 : xcB "JoinKeeperLaw" 36 y_K_fault b_K_fault 1 ((some .int)) 0 := ⟨xm2 (i := 187) rfl rfl, xm1 (i := 1) rfl rfl, xm2 (i := 190) rfl rfl, by decide +kernel, by decide⟩
theorem k_L_39 : xcB "JoinKeeperLaw" 39 y_M_fault b_M_fault 1 ((some .int)) 0 := ⟨xm3 (i := 148) rfl rfl, xm1 (i := 8) rfl rfl, xm3 (i := 151) rfl rfl, by decide +kernel, by decide⟩
theorem k_L_40 : xcB "JoinKeeperLaw" 40 y_K_drop b_K_drop 2 ((some .int)) 1 := ⟨xm2 (i := 191) rfl rfl, xm1 (i := 1) rfl rfl, xm2 (i := 194) rfl rfl, by decide +kernel, by decide⟩
theorem k_L_43 : xcB "JoinKeeperLaw" 43 y_M_drop b_M_drop 2 ((some .int)) 1 := ⟨xm3 (i := 214) rfl rfl, xm1 (i := 8) rfl rfl, xm3 (i := 217) rfl rfl, by decide +kernel, by decide⟩
theorem k_L_44 : xcB "JoinKeeperLaw" 44 y_K_answer b_K_answer 3 ((some .long)) 2 := ⟨xm2 (i := 207) rfl rfl, xm1 (i := 1) rfl rfl, xm2 (i := 210) rfl rfl, by decide +kernel, by decide⟩
theorem k_L_48 : xcB "JoinKeeperLaw" 48 y_M_answer b_M_answer 3 ((some .long)) 2 := ⟨xm3 (i := 218) rfl rfl, xm1 (i := 8) rfl rfl, xm3 (i := 221) rfl rfl, by decide +kernel, by decide⟩
theorem k_L_49 : xcB "JoinKeeperLaw" 49 y_K_total b_K_total 2 ((some .long)) 1 := ⟨xm3 (i := 1) rfl rfl, xm1 (i := 1) rfl rfl, xm3 (i := 4) rfl rfl, by decide +kernel, by decide⟩
theorem k_L_53 : xcB "JoinKeeperLaw" 53 y_M_total b_M_total 2 ((some .long)) 1 := ⟨xm4 (i := 5) rfl rfl, xm1 (i := 8) rfl rfl, xm4 (i := 8) rfl rfl, by decide +kernel, by decide⟩
theorem k_L_54 : xcB "JoinKeeperLaw" 54 y_K_count b_K_count 4 ((some .long)) 3 := ⟨xm3 (i := 6) rfl rfl, xm1 (i := 1) rfl rfl, xm3 (i := 9) rfl rfl, by decide +kernel, by decide⟩
theorem k_L_58 : xcB "JoinKeeperLaw" 58 y_M_count b_M_count 5 ((some .long)) 3 := ⟨xm4 (i := 9) rfl rfl, xm1 (i := 8) rfl rfl, xm4 (i := 12) rfl rfl, by decide +kernel, by decide⟩
theorem k_L_59 : xcB "JoinKeeperLaw" 59 y_K_question b_K_question 4 ((some .int)) 2 := ⟨xm3 (i := 11) rfl rfl, xm1 (i := 1) rfl rfl, xm3 (i := 14) rfl rfl, by decide +kernel, by decide⟩
theorem k_L_63 : xcB "JoinKeeperLaw" 63 y_M_question b_M_question 3 ((some .int)) 2 := ⟨xm4 (i := 13) rfl rfl, xm1 (i := 8) rfl rfl, xm4 (i := 16) rfl rfl, by decide +kernel, by decide⟩
theorem k_L_64 : xcB "JoinKeeperLaw" 64 y_K_state b_K_state 2 ((some .int)) 1 := ⟨xm3 (i := 27) rfl rfl, xm1 (i := 1) rfl rfl, xm3 (i := 30) rfl rfl, by decide +kernel, by decide⟩
theorem k_L_67 : xcB "JoinKeeperLaw" 67 y_M_state b_M_state 4 ((some .int)) 1 := ⟨xm4 (i := 17) rfl rfl, xm1 (i := 8) rfl rfl, xm4 (i := 20) rfl rfl, by decide +kernel, by decide⟩
theorem o_M_1 : Jvm.Cond.methodLink "JoinKeeperModel" 1 Lib.objectInit ∈ xBIG ∧ Jvm.Cond.instanceMethod Lib.objectInit ∈ xBIG ∧ Jvm.Cond.code Lib.objectInit ⟨#[0xb1]⟩ 1 none ∈ xBIG := ⟨xm3 (i := 40) rfl rfl, xm1 (i := 17) rfl rfl, xm1 (i := 18) rfl rfl⟩
theorem k_M_74 : xcB "JoinKeeperModel" 74 y_M_letter b_M_letter 1 ((some .int)) 1 := ⟨xm3 (i := 176) rfl rfl, xm1 (i := 8) rfl rfl, xm3 (i := 178) rfl rfl, by decide +kernel, by decide⟩
theorem k_M_89 : xcB "JoinKeeperModel" 89 y_M_wide b_M_wide 1 ((some .int)) 1 := ⟨xm3 (i := 191) rfl rfl, xm1 (i := 8) rfl rfl, xm3 (i := 193) rfl rfl, by decide +kernel, by decide⟩
theorem k_M_92 : xcB "JoinKeeperModel" 92 y_M_multiply b_M_multiply 3 none 1 := ⟨xm3 (i := 187) rfl rfl, xm1 (i := 8) rfl rfl, xm3 (i := 190) rfl rfl, by decide +kernel, by decide⟩
theorem k_M_96 : xcB "JoinKeeperModel" 96 y_M_look b_M_look 6 none 2 := ⟨xm3 (i := 194) rfl rfl, xm1 (i := 8) rfl rfl, xm3 (i := 197) rfl rfl, by decide +kernel, by decide⟩
theorem k_M_100 : xcB "JoinKeeperModel" 100 y_M_at b_M_at 2 ((some .int)) 1 := ⟨xm3 (i := 160) rfl rfl, xm1 (i := 8) rfl rfl, xm3 (i := 163) rfl rfl, by decide +kernel, by decide⟩
theorem k_M_103 : xcB "JoinKeeperModel" 103 y_M_begin b_M_begin 3 none 1 := ⟨xm3 (i := 168) rfl rfl, xm1 (i := 8) rfl rfl, xm3 (i := 171) rfl rfl, by decide +kernel, by decide⟩
theorem k_M_106 : xcB "JoinKeeperModel" 106 y_M_has b_M_has 4 ((some .boolean)) 1 := ⟨xm3 (i := 172) rfl rfl, xm1 (i := 8) rfl rfl, xm3 (i := 175) rfl rfl, by decide +kernel, by decide⟩
theorem k_M_110 : xcB "JoinKeeperModel" 110 y_M_simple b_M_simple 3 none 1 := ⟨xm3 (i := 179) rfl rfl, xm1 (i := 8) rfl rfl, xm3 (i := 182) rfl rfl, by decide +kernel, by decide⟩
theorem k_M_113 : xcB "JoinKeeperModel" 113 y_M_endFactor b_M_endFactor 3 none 1 := ⟨xm3 (i := 183) rfl rfl, xm1 (i := 8) rfl rfl, xm3 (i := 186) rfl rfl, by decide +kernel, by decide⟩
theorem k_M_116 : xcB "JoinKeeperModel" 116 y_M_endTerm b_M_endTerm 3 none 1 := ⟨xm3 (i := 198) rfl rfl, xm1 (i := 8) rfl rfl, xm3 (i := 201) rfl rfl, by decide +kernel, by decide⟩
theorem k_M_122 : xcB "JoinKeeperModel" 122 y_M_shorter b_M_shorter 2 ((some .int)) 1 := ⟨xm3 (i := 206) rfl rfl, xm1 (i := 8) rfl rfl, xm3 (i := 209) rfl rfl, by decide +kernel, by decide⟩
theorem k_M_128 : xcB "JoinKeeperModel" 128 y_M_readChain b_M_readChain 4 ((some .int)) 0 := ⟨xm3 (i := 156) rfl rfl, xm1 (i := 8) rfl rfl, xm3 (i := 159) rfl rfl, by decide +kernel, by decide⟩
theorem k_M_132 : xcB "JoinKeeperModel" 132 y_M_readExpression b_M_readExpression 8 ((some .int)) 1 := ⟨xm3 (i := 164) rfl rfl, xm1 (i := 8) rfl rfl, xm3 (i := 167) rfl rfl, by decide +kernel, by decide⟩
theorem k_M_135 : xcB "JoinKeeperModel" 135 y_M_readConditions b_M_readConditions 4 ((some .int)) 1 := ⟨xm3 (i := 202) rfl rfl, xm1 (i := 8) rfl rfl, xm3 (i := 205) rfl rfl, by decide +kernel, by decide⟩
theorem k_M_138 : xcB "JoinKeeperModel" 138 y_M_in b_M_in 2 ((some .boolean)) 2 := ⟨xm3 (i := 131) rfl rfl, xm1 (i := 8) rfl rfl, xm3 (i := 133) rfl rfl, by decide +kernel, by decide⟩
theorem k_M_142 : xcB "JoinKeeperModel" 142 y_M_cell b_M_cell 3 ((some .int)) 3 := ⟨xm3 (i := 128) rfl rfl, xm1 (i := 8) rfl rfl, xm3 (i := 130) rfl rfl, by decide +kernel, by decide⟩
theorem k_M_153 : xcB "JoinKeeperModel" 153 y_M_read b_M_read 2 ((some .int)) 0 := ⟨xm3 (i := 152) rfl rfl, xm1 (i := 8) rfl rfl, xm3 (i := 155) rfl rfl, by decide +kernel, by decide⟩
theorem k_M_156 : xcB "JoinKeeperModel" 156 y_M_of b_M_of 2 ((some .int)) 2 := ⟨xm3 (i := 227) rfl rfl, xm1 (i := 8) rfl rfl, xm3 (i := 229) rfl rfl, by decide +kernel, by decide⟩
theorem k_M_160 : xcB "JoinKeeperModel" 160 y_M_power b_M_power 2 ((some .int)) 2 := ⟨xm4 (i := 2) rfl rfl, xm1 (i := 8) rfl rfl, xm4 (i := 4) rfl rfl, by decide +kernel, by decide⟩
theorem k_M_163 : xcB "JoinKeeperModel" 163 y_M_meets b_M_meets 9 ((some .boolean)) 2 := ⟨xm3 (i := 230) rfl rfl, xm1 (i := 8) rfl rfl, xm3 (i := 233) rfl rfl, by decide +kernel, by decide⟩
theorem k_M_166 : xcB "JoinKeeperModel" 166 y_M_weight b_M_weight 11 ((some .long)) 2 := ⟨xm3 (i := 234) rfl rfl, xm1 (i := 8) rfl rfl, xm3 (i := 237) rfl rfl, by decide +kernel, by decide⟩
theorem k_M_170 : xcB "JoinKeeperModel" 170 y_M_value b_M_value 8 ((some .long)) 2 := ⟨xm3 (i := 238) rfl rfl, xm1 (i := 8) rfl rfl, xm4 (i := 1) rfl rfl, by decide +kernel, by decide⟩
theorem k_M_175 : xcB "JoinKeeperModel" 175 y_M_collect b_M_collect 10 ((some .long)) 3 := ⟨xm3 (i := 223) rfl rfl, xm1 (i := 8) rfl rfl, xm3 (i := 226) rfl rfl, by decide +kernel, by decide⟩
theorem k_K_9 : xcN "JoinKeeper" 9 y_R_init "JoinKeeper" b_R_init 1 none 0 := ⟨by decide +kernel, xm1 (i := 2) rfl rfl, xm1 (i := 23) rfl rfl, by decide +kernel, by decide⟩
theorem k_K_18 : xcN "JoinKeeper" 18 y_T_init "JoinKeeper" b_T_init 1 none 0 := ⟨by decide +kernel, xm1 (i := 3) rfl rfl, xm1 (i := 43) rfl rfl, by decide +kernel, by decide⟩
theorem k_K_25 : xcN "JoinKeeper" 25 y_G_init "JoinKeeper" b_G_init 1 none 0 := ⟨by decide +kernel, xm1 (i := 4) rfl rfl, xm1 (i := 57) rfl rfl, by decide +kernel, by decide⟩
theorem k_E_23 : xcN "JoinKeeper$Evaluator" 23 y_P_init "JoinKeeper" b_P_init 1 none 0 := ⟨by decide +kernel, xm1 (i := 6) rfl rfl, xm1 (i := 101) rfl rfl, by decide +kernel, by decide⟩
theorem k_K_43 : xcN "JoinKeeper" 43 y_Q_init "JoinKeeper" b_Q_init 1 none 0 := ⟨by decide +kernel, xm1 (i := 7) rfl rfl, xm1 (i := 128) rfl rfl, by decide +kernel, by decide⟩
theorem k_Q_17 : xcN "JoinKeeper$Question" 17 y_P_init "JoinKeeper" b_P_init 1 none 0 := ⟨by decide +kernel, xm1 (i := 6) rfl rfl, xm1 (i := 101) rfl rfl, by decide +kernel, by decide⟩
end
section
/-! X: calls that make no cell, in shorter words; booleans. -/
abbrev xR (r : Option Value) (h2 : xHp) : Option Value → xHp → Prop := fun r' h' => r' = r ∧ h' = h2
def bi (b : Bool) : Int32 := if b then 1 else 0
theorem bi_t : bi true = 1 := rfl
theorem bi_f : bi false = 0 := rfl
theorem bi0 {b : Bool} : bi b = 0 ↔ b = false := by cases b <;> decide
theorem bi1 {b : Bool} : ¬ bi b = 0 ↔ b = true := by cases b <;> decide
theorem bi_nar (b : Bool) : narrow .boolean (.int (bi b)) = .int (bi b) := by cases b <;> rfl
section XR5
variable {Γ : xG} {y : MethodName} {cc : ByteArray} {nL : Nat} {ret : Option FieldType} {dd : Nat × Nat × Nat} {Q : State → Prop} {ce sl N : Nat} {h : xHp} {pc : Nat} {lv : List (Option Value)} {st : List Value}
variable {y2 : MethodName} {b2 : ByteArray} {n2 : Nat} {ret2 : Option FieldType} {d2 idx q : Nat} {As : List Value} {Qp : Option Value → xHp → Prop} {stk : List Value} {h2 : xHp} {v : Value}
theorem x_iinc1 {i : Nat} {x : Int32} (d : decode cc pc = .ok (.iinc i 1, 3)) (g : lv[i]? = some (some (.int x))) (hn : i < nL) (g2 : xn2 lv i = true) (k : XW Γ y cc nL ret dd Q ce sl N h (pc + 3) (lv.set i (some (.int (x + 1)))) st) : XW Γ y cc nL ret dd Q ce sl N h pc lv st := x_iinc d g rfl hn g2 k
theorem x_iincm {i : Nat} {x : Int32} (d : decode cc pc = .ok (.iinc i (-1), 3)) (g : lv[i]? = some (some (.int x))) (hn : i < nL) (g2 : xn2 lv i = true) (k : XW Γ y cc nL ret dd Q ce sl N h (pc + 3) (lv.set i (some (.int (x + -1)))) st) : XW Γ y cc nL ret dd Q ce sl N h pc lv st := x_iinc d g rfl hn g2 k
theorem x_zald {q n : Nat} {f : Nat → Int32} {i : Int32} (d : decode cc pc = .ok (.baload, 1)) (hq : q < N) (hh : h q = .inl (3, n, .inl f)) (hi : vp_in i n) (k : XW Γ y cc nL ret dd Q ce sl N h (pc + 1) lv (.int (f i.toNatClampNeg) :: st)) : XW Γ y cc nL ret dd Q ce sl N h pc lv (.int i :: .ref q :: st) := by
  obtain ⟨p, l, e, R, s, m, args, below, meth, c, Ω⟩ := Γ
  intro C H locs ls hH hl hv
  have hc := xH_at hH hq
  rw [hh] at hc
  show W p l e R s m args below meth c H locs ce sl Q (F0 m pc ls (.int i :: .ref (xi Ω q) :: st.map (xv Ω)))
  rw [xH_i hH hq]
  exact va_zald C.ex C.co C.K (xP1 hc) 0 3 rfl (xtys_at rfl) hi d (k C H locs ls hH hl hv)
theorem x_zast {q n : Nat} {f : Nat → Int32} {i x : Int32} (d : decode cc pc = .ok (.bastore, 1)) (hq : q < N) (hh : h q = .inl (3, n, .inl f)) (hi : vp_in i n) (hx : narrow .boolean (.int x) = .int x) (k : XW Γ y cc nL ret dd Q ce sl N (va_up h q (.inl (3, n, .inl (upd f i.toNatClampNeg x)))) (pc + 1) lv st) : XW Γ y cc nL ret dd Q ce sl N h pc lv (.int x :: .int i :: .ref q :: st) := by
  obtain ⟨p, l, e, R, s, m, args, below, meth, c, Ω⟩ := Γ
  intro C H locs ls hH hl hv
  have hc := xH_at hH hq
  rw [hh] at hc
  have hA := (C.K.2 3 _ (xtys_at rfl)).1 n (fun j => .int (f j))
  show W p l e R s m args below meth c H locs ce sl Q (F0 m pc ls (.int x :: .int i :: .ref (xi Ω q) :: st.map (xv Ω)))
  rw [xH_i hH hq]
  refine W.zast C.ex C.co hc hA (fun z => by cases z) (by show ¬ (i < 0 ∨ (arrV _ _ _).slots.size ≤ _); rw [arrV_size]; exact hi) rfl rfl d fun H' e1 e2 e3 => ?_
  rw [hx] at e1
  refine k C H' _ ls (xH_set hH hq e2 e3 ?_) (xlocs hl (Nat.le_add_right _ _)) hv
  show H'[_]? = some (vp_cell _ (n, .inl _))
  rw [e1]
  exact congrArg some (xs_i _ _ _ _ _)
theorem x_alenN {t q n : Nat} {x : (Nat → Int32) ⊕ (Nat → Int64) ⊕ (Nat → UInt32) ⊕ (Nat → UInt64) ⊕ (Nat → Option Nat)} {ty : FieldType} (d : decode cc pc = .ok (.arraylength, 1)) (hq : q < N) (hh : h q = .inl (t, n, x)) (ht : xtl[t]? = some ty) (k : XW Γ y cc nL ret dd Q ce sl N h (pc + 1) lv (.int (nI n) :: st)) : XW Γ y cc nL ret dd Q ce sl N h pc lv (.ref q :: st) := x_alen d hq hh ht rfl k
theorem xcap (C : ce ≤ dd.2.1 ∧ sl ≤ dd.2.2) : ce + 0 ≤ dd.2.1 ∧ sl + 0 ≤ dd.2.2 := C
theorem x_cV {ci : Nat} {fs : List Value} (M : XM y2 b2 n2 ret2 d2 0 0 (.ref q :: As) N h Qp) (F : xcB y.cls idx y2 b2 n2 ret2 As.length) (F2 : Jvm.Cond.instanceMethod y2 ∈ xBIG ∧ Jvm.Cond.selects y2.cls y2 y2 ∈ xBIG) (d : decode cc pc = .ok (.invokevirtual idx, 3)) (hst : stk = As.reverse ++ .ref q :: st) (hq : q < N) (hh : h q = .inr (ci, fs)) (hci : (xcl[ci]?).map (fun r => r.1) = some y2.cls) (hd : d2 < dd.1) (hr : (st.map fun v => v.category).sum ≤ 8)
    (k : ∀ r h', Qp r h' → XW Γ y cc nL ret dd Q ce sl N h' (pc + 3) lv (r.toList ++ st)) (hce : ce ≤ dd.2.1 ∧ sl ≤ dd.2.2 := by first | assumption | exact ⟨Nat.le_refl _, Nat.le_refl _⟩ | exact ⟨Nat.zero_le _, Nat.zero_le _⟩) : XW Γ y cc nL ret dd Q ce sl N h pc lv stk := x_callV M F F2 d hst hq hh hci hd hr hce k
theorem x_cVe {ci : Nat} {fs : List Value} (M : XM y2 b2 n2 ret2 d2 0 0 (.ref q :: As) N h (xR (some v) h2)) (F : xcB y.cls idx y2 b2 n2 ret2 As.length) (F2 : Jvm.Cond.instanceMethod y2 ∈ xBIG ∧ Jvm.Cond.selects y2.cls y2 y2 ∈ xBIG) (d : decode cc pc = .ok (.invokevirtual idx, 3)) (hst : stk = As.reverse ++ .ref q :: st) (hq : q < N) (hh : h q = .inr (ci, fs)) (hci : (xcl[ci]?).map (fun r => r.1) = some y2.cls) (hd : d2 < dd.1) (hr : (st.map fun v => v.category).sum ≤ 8)
    (k : XW Γ y cc nL ret dd Q ce sl N h2 (pc + 3) lv (v :: st)) (hce : ce ≤ dd.2.1 ∧ sl ≤ dd.2.2 := by first | assumption | exact ⟨Nat.le_refl _, Nat.le_refl _⟩ | exact ⟨Nat.zero_le _, Nat.zero_le _⟩) : XW Γ y cc nL ret dd Q ce sl N h pc lv stk := by
  refine x_callV M F F2 d hst hq hh hci hd hr hce ?_
  rintro r h' ⟨rfl, rfl⟩
  exact k
theorem x_cVv {ci : Nat} {fs : List Value} (M : XM y2 b2 n2 ret2 d2 0 0 (.ref q :: As) N h (xR none h2)) (F : xcB y.cls idx y2 b2 n2 ret2 As.length) (F2 : Jvm.Cond.instanceMethod y2 ∈ xBIG ∧ Jvm.Cond.selects y2.cls y2 y2 ∈ xBIG) (d : decode cc pc = .ok (.invokevirtual idx, 3)) (hst : stk = As.reverse ++ .ref q :: st) (hq : q < N) (hh : h q = .inr (ci, fs)) (hci : (xcl[ci]?).map (fun r => r.1) = some y2.cls) (hd : d2 < dd.1) (hr : (st.map fun v => v.category).sum ≤ 8)
    (k : XW Γ y cc nL ret dd Q ce sl N h2 (pc + 3) lv st) (hce : ce ≤ dd.2.1 ∧ sl ≤ dd.2.2 := by first | assumption | exact ⟨Nat.le_refl _, Nat.le_refl _⟩ | exact ⟨Nat.zero_le _, Nat.zero_le _⟩) : XW Γ y cc nL ret dd Q ce sl N h pc lv stk := by
  refine x_callV M F F2 d hst hq hh hci hd hr hce ?_
  rintro r h' ⟨rfl, rfl⟩
  exact k
theorem x_cS (M : XM y2 b2 n2 ret2 d2 0 0 As N h Qp) (F : xcB y.cls idx y2 b2 n2 ret2 As.length) (F2 : Jvm.Cond.static y2 ∈ xBIG) (d : decode cc pc = .ok (.invokestatic idx, 3)) (hst : stk = As.reverse ++ st) (hd : d2 < dd.1) (hr : (st.map fun v => v.category).sum ≤ 8)
    (k : ∀ r h', Qp r h' → XW Γ y cc nL ret dd Q ce sl N h' (pc + 3) lv (r.toList ++ st)) (hce : ce ≤ dd.2.1 ∧ sl ≤ dd.2.2 := by first | assumption | exact ⟨Nat.le_refl _, Nat.le_refl _⟩ | exact ⟨Nat.zero_le _, Nat.zero_le _⟩) : XW Γ y cc nL ret dd Q ce sl N h pc lv stk := x_callS M F F2 d hst hd hr hce k
theorem x_cSe (M : XM y2 b2 n2 ret2 d2 0 0 As N h (xR (some v) h2)) (F : xcB y.cls idx y2 b2 n2 ret2 As.length) (F2 : Jvm.Cond.static y2 ∈ xBIG) (d : decode cc pc = .ok (.invokestatic idx, 3)) (hst : stk = As.reverse ++ st) (hd : d2 < dd.1) (hr : (st.map fun v => v.category).sum ≤ 8)
    (k : XW Γ y cc nL ret dd Q ce sl N h2 (pc + 3) lv (v :: st)) (hce : ce ≤ dd.2.1 ∧ sl ≤ dd.2.2 := by first | assumption | exact ⟨Nat.le_refl _, Nat.le_refl _⟩ | exact ⟨Nat.zero_le _, Nat.zero_le _⟩) : XW Γ y cc nL ret dd Q ce sl N h pc lv stk := by
  refine x_callS M F F2 d hst hd hr hce ?_
  rintro r h' ⟨rfl, rfl⟩
  exact k
theorem x_cSv (M : XM y2 b2 n2 ret2 d2 0 0 As N h (xR none h2)) (F : xcB y.cls idx y2 b2 n2 ret2 As.length) (F2 : Jvm.Cond.static y2 ∈ xBIG) (d : decode cc pc = .ok (.invokestatic idx, 3)) (hst : stk = As.reverse ++ st) (hd : d2 < dd.1) (hr : (st.map fun v => v.category).sum ≤ 8)
    (k : XW Γ y cc nL ret dd Q ce sl N h2 (pc + 3) lv st) (hce : ce ≤ dd.2.1 ∧ sl ≤ dd.2.2 := by first | assumption | exact ⟨Nat.le_refl _, Nat.le_refl _⟩ | exact ⟨Nat.zero_le _, Nat.zero_le _⟩) : XW Γ y cc nL ret dd Q ce sl N h pc lv stk := by
  refine x_callS M F F2 d hst hd hr hce ?_
  rintro r h' ⟨rfl, rfl⟩
  exact k
end XR5
/-- Int32 rows -/
theorem i_in {x : Int32} {n : Nat} (h0 : ¬ x < 0) (hn : n < 2 ^ 31) (h : x < nI n) : vp_in x n := by
  refine vp_in_iff.mpr ?_
  have h1 := Int32.not_lt.mp h0
  have h2 : (0 : Int) ≤ x.toInt := by simpa using Int32.le_iff_toInt_le.mp h1
  have h3 := Int32.lt_iff_toInt_lt.mp h
  rw [nI_toInt hn] at h3
  exact ⟨h2, h3⟩
end
section
/-! Text: object 5, its signs 6. -/
def isDig (c : Int32) : Bool := decide (48 ≤ c) && decide (c ≤ 57)
def relOf (c : Int32) : Int32 := if 82 ≤ c ∧ c ≤ 84 then c - 82 else -1
def colOf (c : Int32) : Int32 := if 65 ≤ c ∧ c ≤ 68 then c - 65 else -1
set_option maxRecDepth 100000 in
set_option maxHeartbeats 4000000 in
theorem c_T_isDigit {N : Nat} {h : xHp} (c : Int32) : XM y_T_isDigit b_T_isDigit 1 (some .boolean) 0 0 0 [.int c] N h (xR (some (.int (bi (isDig c)))) h) := by
  refine xM_intro [some (.int c)] (by decide) (fun _ => rfl) (fun _ => Nat.le_of_ble_eq_true rfl) (fun Γ => ?_)
  refine x_iload_n d_T_isDigit_0 rfl ?_
  refine x_bipush (v := 48) d_T_isDigit_1 (by decide) ?_
  refine x_icmp_lt 16 d_T_isDigit_3 (by decide) (fun c1 => ?_) (fun c1 => ?_)
  · refine x_iconst (v := 0) d_T_isDigit_16 (by decide) ?_
    refine x_zret d_T_isDigit_17 (by first | rfl | assumption) ?_
    exact ⟨by simp [isDig, bi, Int32.not_le.mpr c1], rfl⟩
  · refine x_iload_n d_T_isDigit_6 rfl ?_
    refine x_bipush (v := 57) d_T_isDigit_7 (by decide) ?_
    refine x_icmp_gt 16 d_T_isDigit_9 (by decide) (fun c2 => ?_) (fun c2 => ?_)
    · refine x_iconst (v := 0) d_T_isDigit_16 (by decide) ?_
      refine x_zret d_T_isDigit_17 (by first | rfl | assumption) ?_
      exact ⟨by simp [isDig, bi, Int32.not_le.mpr c2], rfl⟩
    · refine x_iconst (v := 1) d_T_isDigit_12 (by decide) ?_
      refine x_goto 17 d_T_isDigit_13 (by decide) ?_
      refine x_zret d_T_isDigit_17 (by first | rfl | assumption) ?_
      exact ⟨by simp [isDig, bi, Int32.not_lt.mp c1, Int32.not_lt.mp c2], rfl⟩
set_option maxRecDepth 100000 in
set_option maxHeartbeats 4000000 in
theorem c_T_relationOf {N : Nat} {h : xHp} (c : Int32) : XM y_T_relationOf b_T_relationOf 1 (some .int) 0 0 0 [.int c] N h (xR (some (.int (relOf c))) h) := by
  refine xM_intro [some (.int c)] (by decide) (fun _ => rfl) (fun _ => Nat.le_of_ble_eq_true rfl) (fun Γ => ?_)
  refine x_iload_n d_T_relationOf_0 rfl ?_
  refine x_bipush (v := 82) d_T_relationOf_1 (by decide) ?_
  refine x_icmp_lt 19 d_T_relationOf_3 (by decide) (fun c1 => ?_) (fun c1 => ?_)
  · refine x_iconst (v := -1) d_T_relationOf_19 (by decide) ?_
    refine x_iret d_T_relationOf_20 ?_
    exact ⟨by simp [relOf, Int32.not_le.mpr c1], rfl⟩
  · refine x_iload_n d_T_relationOf_6 rfl ?_
    refine x_bipush (v := 84) d_T_relationOf_7 (by decide) ?_
    refine x_icmp_gt 19 d_T_relationOf_9 (by decide) (fun c2 => ?_) (fun c2 => ?_)
    · refine x_iconst (v := -1) d_T_relationOf_19 (by decide) ?_
      refine x_iret d_T_relationOf_20 ?_
      exact ⟨by simp [relOf, Int32.not_le.mpr c2], rfl⟩
    · refine x_iload_n d_T_relationOf_12 rfl ?_
      refine x_bipush (v := 82) d_T_relationOf_13 (by decide) ?_
      refine x_isub d_T_relationOf_15 ?_
      refine x_goto 20 d_T_relationOf_16 (by decide) ?_
      refine x_iret d_T_relationOf_20 ?_
      exact ⟨by simp [relOf, Int32.not_lt.mp c1, Int32.not_lt.mp c2], rfl⟩
set_option maxRecDepth 100000 in
set_option maxHeartbeats 4000000 in
theorem c_T_columnOf {N : Nat} {h : xHp} (c : Int32) : XM y_T_columnOf b_T_columnOf 1 (some .int) 0 0 0 [.int c] N h (xR (some (.int (colOf c))) h) := by
  refine xM_intro [some (.int c)] (by decide) (fun _ => rfl) (fun _ => Nat.le_of_ble_eq_true rfl) (fun Γ => ?_)
  refine x_iload_n d_T_columnOf_0 rfl ?_
  refine x_bipush (v := 65) d_T_columnOf_1 (by decide) ?_
  refine x_icmp_lt 19 d_T_columnOf_3 (by decide) (fun c1 => ?_) (fun c1 => ?_)
  · refine x_iconst (v := -1) d_T_columnOf_19 (by decide) ?_
    refine x_iret d_T_columnOf_20 ?_
    exact ⟨by simp [colOf, Int32.not_le.mpr c1], rfl⟩
  · refine x_iload_n d_T_columnOf_6 rfl ?_
    refine x_bipush (v := 68) d_T_columnOf_7 (by decide) ?_
    refine x_icmp_gt 19 d_T_columnOf_9 (by decide) (fun c2 => ?_) (fun c2 => ?_)
    · refine x_iconst (v := -1) d_T_columnOf_19 (by decide) ?_
      refine x_iret d_T_columnOf_20 ?_
      exact ⟨by simp [colOf, Int32.not_le.mpr c2], rfl⟩
    · refine x_iload_n d_T_columnOf_12 rfl ?_
      refine x_bipush (v := 65) d_T_columnOf_13 (by decide) ?_
      refine x_isub d_T_columnOf_15 ?_
      refine x_goto 20 d_T_columnOf_16 (by decide) ?_
      refine x_iret d_T_columnOf_20 ?_
      exact ⟨by simp [colOf, Int32.not_lt.mp c1, Int32.not_lt.mp c2], rfl⟩
set_option maxRecDepth 100000 in
set_option maxHeartbeats 4000000 in
theorem c_T_length {N : Nat} {h : xHp} {n : Int32} (hN : 94 ≤ N) (h5 : h 5 = .inr (2, [.ref 6, .int n])) : XM y_T_length b_T_length 1 (some .int) 0 0 0 [.ref 5] N h (xR (some (.int n)) h) := by
  refine xM_intro [some (.ref 5)] (by decide) (fun _ => rfl) (fun _ => Nat.le_of_ble_eq_true rfl) (fun Γ => ?_)
  refine x_aload_n d_T_length_0 rfl ?_
  refine x_get f_T_13 d_T_length_1 (by omega) (by first | rfl | assumption | (simp only [va_up, Nat.reduceEqDiff, ↓reduceIte]; first | rfl | assumption) | (simp [va_up, *]; done)) rfl ?_
  refine x_iret d_T_length_4 ?_
  exact ⟨rfl, rfl⟩
set_option maxRecDepth 100000 in
set_option maxHeartbeats 4000000 in
theorem c_T_empty {N : Nat} {h : xHp} {n : Int32} (hN : 94 ≤ N) (h5 : h 5 = .inr (2, [.ref 6, .int n])) : XM y_T_empty b_T_empty 1 none 0 0 0 [.ref 5] N h (xR none (va_up h 5 (.inr (2, [.ref 6, .int 0])))) := by
  refine xM_intro [some (.ref 5)] (by decide) (fun _ => rfl) (fun _ => Nat.le_of_ble_eq_true rfl) (fun Γ => ?_)
  refine x_aload_n d_T_empty_0 rfl ?_
  refine x_iconst (v := 0) d_T_empty_1 (by decide) ?_
  refine x_put f_T_13 d_T_empty_2 (by omega) (by first | rfl | assumption | (simp only [va_up, Nat.reduceEqDiff, ↓reduceIte]; first | rfl | assumption) | (simp [va_up, *]; done)) (Nat.le_of_ble_eq_true rfl) (fun _ => ⟨rfl, rfl⟩) ?_
  refine x_vret d_T_empty_5 ?_
  exact ⟨rfl, rfl⟩
set_option maxRecDepth 100000 in
set_option maxHeartbeats 4000000 in
theorem c_T_append {N : Nat} {h : xHp} {n : Nat} {f : Nat → Int32} (c : Int32) (hN : 94 ≤ N) (hn : n ≤ 30) (hc : narrow .char (.int c) = .int c) (h5 : h 5 = .inr (2, [.ref 6, .int (nI n)])) (h6 : h 6 = .inl (1, 30, .inl f)) : XM y_T_append b_T_append 2 (some .boolean) 0 0 0 [.ref 5, .int c] N h (xR (some (.int (bi (decide (n < 30))))) (if n < 30 then va_up (va_up h 6 (.inl (1, 30, .inl (upd f n c)))) 5 (.inr (2, [.ref 6, .int (nI (n + 1))])) else h)) := by
  refine xM_intro [some (.ref 5), some (.int c)] (by decide) (fun _ => rfl) (fun _ => Nat.le_of_ble_eq_true rfl) (fun Γ => ?_)
  refine x_aload_n d_T_append_0 rfl ?_
  refine x_get f_T_13 d_T_append_1 (by omega) (by first | rfl | assumption | (simp only [va_up, Nat.reduceEqDiff, ↓reduceIte]; first | rfl | assumption) | (simp [va_up, *]; done)) rfl ?_
  refine x_bipush (v := 30) d_T_append_4 (by decide) ?_
  refine x_icmp_lt 11 d_T_append_6 (by decide) (fun c1 => ?_) (fun c1 => ?_)
  · have hlt : n < 30 := (nI_ltI (by omega) (by decide)).mp c1
    have hi : vp_in (nI n) 30 := vp_in_nI hlt (by decide)
    refine x_aload_n d_T_append_11 rfl ?_
    refine x_get f_T_9 d_T_append_12 (by omega) (by first | rfl | assumption | (simp only [va_up, Nat.reduceEqDiff, ↓reduceIte]; first | rfl | assumption) | (simp [va_up, *]; done)) rfl ?_
    refine x_aload_n d_T_append_15 rfl ?_
    refine x_get f_T_13 d_T_append_16 (by omega) (by first | rfl | assumption | (simp only [va_up, Nat.reduceEqDiff, ↓reduceIte]; first | rfl | assumption) | (simp [va_up, *]; done)) rfl ?_
    refine x_iload_n d_T_append_19 rfl ?_
    refine x_cast d_T_append_20 (by omega) (by first | rfl | assumption | (simp only [va_up, Nat.reduceEqDiff, ↓reduceIte]; first | rfl | assumption) | (simp [va_up, *]; done)) (by assumption) (by assumption) ?_
    refine x_aload_n d_T_append_21 rfl ?_
    refine x_dup d_T_append_22 rfl ?_
    refine x_get f_T_13 d_T_append_23 (by omega) (by first | rfl | assumption | (simp only [va_up, Nat.reduceEqDiff, ↓reduceIte]; first | rfl | assumption) | (simp [va_up, *]; done)) rfl ?_
    refine x_iconst (v := 1) d_T_append_26 (by decide) ?_
    refine x_iadd d_T_append_27 ?_
    refine x_put f_T_13 d_T_append_28 (by omega) (by first | rfl | assumption | (simp only [va_up, Nat.reduceEqDiff, ↓reduceIte]; first | rfl | assumption) | (simp [va_up, *]; done)) (Nat.le_of_ble_eq_true rfl) (fun _ => ⟨rfl, rfl⟩) ?_
    refine x_iconst (v := 1) d_T_append_31 (by decide) ?_
    refine x_zret d_T_append_32 (by first | rfl | assumption) ?_
    rw [if_pos hlt]
    refine ⟨by simp [bi, hlt], ?_⟩
    rw [nI_clamp (by omega), ← nI_1]
    rfl
  · have hlt : ¬ n < 30 := fun q => c1 ((nI_ltI (by omega) (by decide)).mpr q)
    refine x_iconst (v := 0) d_T_append_9 (by decide) ?_
    refine x_zret d_T_append_10 (by first | rfl | assumption) ?_
    rw [if_neg hlt]
    exact ⟨by simp [bi, hlt], rfl⟩
set_option maxRecDepth 100000 in
set_option maxHeartbeats 4000000 in
theorem c_T_at {N : Nat} {h : xHp} {n : Nat} {f : Nat → Int32} (i : Int32) (hN : 94 ≤ N) (hn : n ≤ 30) (hf : ∀ j, narrow .char (.int (f j)) = .int (f j)) (h5 : h 5 = .inr (2, [.ref 6, .int (nI n)])) (h6 : h 6 = .inl (1, 30, .inl f)) : XM y_T_at b_T_at 2 (some .char) 0 0 0 [.ref 5, .int i] N h (xR (some (.int (if 0 ≤ i ∧ i < nI n then f i.toNatClampNeg else 0))) h) := by
  refine xM_intro [some (.ref 5), some (.int i)] (by decide) (fun _ => rfl) (fun _ => Nat.le_of_ble_eq_true rfl) (fun Γ => ?_)
  refine x_iload_n d_T_at_0 rfl ?_
  refine x_if_lt 21 d_T_at_1 (by decide) (fun c1 => ?_) (fun c1 => ?_)
  · refine x_iconst (v := 0) d_T_at_21 (by decide) ?_
    refine x_zret d_T_at_22 (by first | rfl | assumption) ?_
    exact ⟨by rw [if_neg (fun q => Int32.not_le.mpr c1 q.1)], rfl⟩
  · refine x_iload_n d_T_at_4 rfl ?_
    refine x_aload_n d_T_at_5 rfl ?_
    refine x_get f_T_13 d_T_at_6 (by omega) (by first | rfl | assumption | (simp only [va_up, Nat.reduceEqDiff, ↓reduceIte]; first | rfl | assumption) | (simp [va_up, *]; done)) rfl ?_
    refine x_icmp_ge 21 d_T_at_9 (by decide) (fun c2 => ?_) (fun c2 => ?_)
    · refine x_iconst (v := 0) d_T_at_21 (by decide) ?_
      refine x_zret d_T_at_22 (by first | rfl | assumption) ?_
      exact ⟨by rw [if_neg (fun q => Int32.not_le.mpr q.2 c2)], rfl⟩
    · have hi : vp_in i 30 := i_in c1 (by decide) (Int32.lt_of_lt_of_le (Int32.not_le.mp c2) (nI_le hn (by decide)))
      have hnn := hf i.toNatClampNeg
      refine x_aload_n d_T_at_12 rfl ?_
      refine x_get f_T_9 d_T_at_13 (by omega) (by first | rfl | assumption | (simp only [va_up, Nat.reduceEqDiff, ↓reduceIte]; first | rfl | assumption) | (simp [va_up, *]; done)) rfl ?_
      refine x_iload_n d_T_at_16 rfl ?_
      refine x_cald d_T_at_17 (by omega) (by first | rfl | assumption | (simp only [va_up, Nat.reduceEqDiff, ↓reduceIte]; first | rfl | assumption) | (simp [va_up, *]; done)) (by assumption) ?_
      refine x_goto 22 d_T_at_18 (by decide) ?_
      refine x_zret d_T_at_22 (by first | rfl | assumption) ?_
      exact ⟨by rw [if_pos ⟨Int32.not_lt.mp c1, Int32.not_le.mp c2⟩], rfl⟩
end
section
/-! Rows: object 1, counts 2, changedPlaces 3, changedBy 4. -/
def oR (n : Int32) : xE := .inr (1, [.ref 2, .ref 3, .ref 4, .int n])
abbrev aI (n : Nat) (f : Nat → Int32) : xE := .inl (0, n, .inl f)
/-- would the count leave -100 .. 100 -/
def outOf (v b : Int32) : Bool := decide ((100 : Int64) < v.toInt64 + b.toInt64) || decide (v.toInt64 + b.toInt64 < (-100 : Int64))
theorem ri_64 (v b : Int32) : (v.toInt64 + b.toInt64).toInt32 = v + b := by
  apply Int32.toBitVec_inj.mp
  simp [Int64.toBitVec_toInt32, Int64.toBitVec_add, Int32.toBitVec_add, Int32.toBitVec_toInt64]
theorem lg_gt0 (x y : Int64) : (0 < lg_cmp x y) ↔ y < x := by
  unfold lg_cmp
  simp only [gt_iff_lt, Int64.lt_iff_toInt_lt, ← Int64.toInt_inj]
  repeat' split
  all_goals (constructor <;> intro hh <;> first | omega | decide | exact absurd hh (by decide))
theorem lg_lt0 (x y : Int64) : (lg_cmp x y < 0) ↔ x < y := by
  unfold lg_cmp
  simp only [gt_iff_lt, Int64.lt_iff_toInt_lt, ← Int64.toInt_inj]
  repeat' split
  all_goals (constructor <;> intro hh <;> first | omega | decide | exact absurd hh (by decide))
def plOf (r x y : Int32) : Int32 := (r * 6 + x) * 6 + y
set_option maxRecDepth 100000 in
set_option maxHeartbeats 4000000 in
theorem c_R_placeOf {N : Nat} {h : xHp} (r x y : Int32) : XM y_R_placeOf b_R_placeOf 3 (some .int) 0 0 0 [.int r, .int x, .int y] N h (xR (some (.int (plOf r x y))) h) := by
  refine xM_intro [some (.int r), some (.int x), some (.int y)] (by decide) (fun _ => rfl) (fun _ => Nat.le_of_ble_eq_true rfl) (fun Γ => ?_)
  refine x_iload_n d_R_placeOf_0 rfl ?_
  refine x_bipush (v := 6) d_R_placeOf_1 (by decide) ?_
  refine x_imul d_R_placeOf_3 ?_
  refine x_iload_n d_R_placeOf_4 rfl ?_
  refine x_iadd d_R_placeOf_5 ?_
  refine x_bipush (v := 6) d_R_placeOf_6 (by decide) ?_
  refine x_imul d_R_placeOf_8 ?_
  refine x_iload_n d_R_placeOf_9 rfl ?_
  refine x_iadd d_R_placeOf_10 ?_
  refine x_iret d_R_placeOf_11 ?_
  exact ⟨rfl, rfl⟩
set_option maxRecDepth 100000 in
set_option maxHeartbeats 4000000 in
theorem c_R_at {N : Nat} {h : xHp} {n : Int32} {f : Nat → Int32} {p : Int32} (hN : 94 ≤ N) (h1 : h 1 = oR n) (h2 : h 2 = aI 108 f) (hp : vp_in p 108) : XM y_R_at b_R_at 2 (some .int) 0 0 0 [.ref 1, .int p] N h (xR (some (.int (f p.toNatClampNeg))) h) := by
  unfold oR at h1
  refine xM_intro [some (.ref 1), some (.int p)] (by decide) (fun _ => rfl) (fun _ => Nat.le_of_ble_eq_true rfl) (fun Γ => ?_)
  refine x_aload_n d_R_at_0 rfl ?_
  refine x_get f_R_9 d_R_at_1 (by omega) (by first | rfl | assumption | (simp only [va_up, Nat.reduceEqDiff, ↓reduceIte]; first | rfl | assumption) | (simp [va_up, *]; done)) rfl ?_
  refine x_iload_n d_R_at_4 rfl ?_
  refine x_iald d_R_at_5 (by omega) (by first | rfl | assumption | (simp only [va_up, Nat.reduceEqDiff, ↓reduceIte]; first | rfl | assumption) | (simp [va_up, *]; done)) (by assumption) ?_
  refine x_iret d_R_at_6 ?_
  exact ⟨rfl, rfl⟩
set_option maxRecDepth 100000 in
set_option maxHeartbeats 4000000 in
theorem c_R_changesLeft {N : Nat} {h : xHp} {n : Int32} (hN : 94 ≤ N) (h1 : h 1 = oR n) : XM y_R_changesLeft b_R_changesLeft 1 (some .int) 0 0 0 [.ref 1] N h (xR (some (.int n)) h) := by
  unfold oR at h1
  refine xM_intro [some (.ref 1)] (by decide) (fun _ => rfl) (fun _ => Nat.le_of_ble_eq_true rfl) (fun Γ => ?_)
  refine x_aload_n d_R_changesLeft_0 rfl ?_
  refine x_get f_R_25 d_R_changesLeft_1 (by omega) (by first | rfl | assumption | (simp only [va_up, Nat.reduceEqDiff, ↓reduceIte]; first | rfl | assumption) | (simp [va_up, *]; done)) rfl ?_
  refine x_iret d_R_changesLeft_4 ?_
  exact ⟨rfl, rfl⟩
set_option maxRecDepth 100000 in
set_option maxHeartbeats 4000000 in
theorem c_R_raise {N : Nat} {h : xHp} {n : Nat} {f pl bs : Nat → Int32} {p b : Int32} (hN : 94 ≤ N) (hn : n < 512) (h1 : h 1 = oR (nI n)) (h2 : h 2 = aI 108 f) (h3 : h 3 = aI 512 pl) (h4 : h 4 = aI 512 bs) (hp : vp_in p 108) : XM y_R_raise b_R_raise 5 (some .boolean) 0 0 0 [.ref 1, .int p, .int b] N h (fun r h' => if outOf (f p.toNatClampNeg) b = true then r = some (.int 0) ∧ h' = h else r = some (.int 1) ∧ h' = va_up (va_up (va_up (va_up h 2 (aI 108 (upd f p.toNatClampNeg (f p.toNatClampNeg + b)))) 3 (aI 512 (upd pl n p))) 4 (aI 512 (upd bs n b))) 1 (oR (nI (n + 1)))) := by
  unfold oR at h1
  have hi : vp_in (nI n) 512 := vp_in_nI hn (by decide)
  refine xM_intro [some (.ref 1), some (.int p), some (.int b), none, none] (by decide) (fun _ => rfl) (fun _ => Nat.le_of_ble_eq_true rfl) (fun Γ => ?_)
  refine x_aload_n d_R_raise_0 rfl ?_
  refine x_get f_R_9 d_R_raise_1 (by omega) (by first | rfl | assumption | (simp only [va_up, Nat.reduceEqDiff, ↓reduceIte]; first | rfl | assumption) | (simp [va_up, *]; done)) rfl ?_
  refine x_iload_n d_R_raise_4 rfl ?_
  refine x_iald d_R_raise_5 (by omega) (by first | rfl | assumption | (simp only [va_up, Nat.reduceEqDiff, ↓reduceIte]; first | rfl | assumption) | (simp [va_up, *]; done)) (by assumption) ?_
  refine x_i2l d_R_raise_6 ?_
  refine x_iload_n d_R_raise_7 rfl ?_
  refine x_i2l d_R_raise_8 ?_
  refine x_ladd d_R_raise_9 ?_
  refine x_lstore_n d_R_raise_10 (by decide) rfl ?_
  refine x_lload_n d_R_raise_11 rfl ?_
  refine x_ldc2 l_R_21 d_R_raise_12 ?_
  refine x_lcmp d_R_raise_15 ?_
  refine x_if_gt 37 d_R_raise_16 (by decide) (fun c1 => ?_) (fun c1 => ?_)
  · refine x_iconst (v := 0) d_R_raise_37 (by decide) ?_
    refine x_zret d_R_raise_38 (by first | rfl | assumption) ?_
    have e : outOf (f p.toNatClampNeg) b = true := by simp [outOf, (lg_gt0 _ _).mp c1]
    rw [if_pos e]
    exact ⟨rfl, rfl⟩
  · refine x_lload_n d_R_raise_19 rfl ?_
    refine x_ldc2 l_R_23 d_R_raise_20 ?_
    refine x_lcmp d_R_raise_23 ?_
    refine x_if_lt 37 d_R_raise_24 (by decide) (fun c2 => ?_) (fun c2 => ?_)
    · refine x_iconst (v := 0) d_R_raise_37 (by decide) ?_
      refine x_zret d_R_raise_38 (by first | rfl | assumption) ?_
      have e : outOf (f p.toNatClampNeg) b = true := by simp [outOf, (lg_lt0 _ _).mp c2]
      rw [if_pos e]
      exact ⟨rfl, rfl⟩
    · have e : ¬ outOf (f p.toNatClampNeg) b = true := by
        have c1' := fun q => c1 ((lg_gt0 _ _).mpr q)
        have c2' := fun q => c2 ((lg_lt0 _ _).mpr q)
        simp [outOf, Int64.not_lt.mp c1', Int64.not_lt.mp c2']
      refine x_aload_n d_R_raise_27 rfl ?_
      refine x_get f_R_25 d_R_raise_28 (by omega) (by first | rfl | assumption | (simp only [va_up, Nat.reduceEqDiff, ↓reduceIte]; first | rfl | assumption) | (simp [va_up, *]; done)) rfl ?_
      refine x_sipush (v := 512) d_R_raise_31 (by decide) ?_
      refine x_icmp_lt 39 d_R_raise_34 (by decide) (fun c3 => ?_) (fun c3 => ?_)
      · refine x_aload_n d_R_raise_39 rfl ?_
        refine x_get f_R_9 d_R_raise_40 (by omega) (by first | rfl | assumption | (simp only [va_up, Nat.reduceEqDiff, ↓reduceIte]; first | rfl | assumption) | (simp [va_up, *]; done)) rfl ?_
        refine x_iload_n d_R_raise_43 rfl ?_
        refine x_lload_n d_R_raise_44 rfl ?_
        refine x_l2i d_R_raise_45 ?_
        refine x_iast d_R_raise_46 (by omega) (by first | rfl | assumption | (simp only [va_up, Nat.reduceEqDiff, ↓reduceIte]; first | rfl | assumption) | (simp [va_up, *]; done)) (by assumption) ?_
        refine x_aload_n d_R_raise_47 rfl ?_
        refine x_get f_R_15 d_R_raise_48 (by omega) (by first | rfl | assumption | (simp only [va_up, Nat.reduceEqDiff, ↓reduceIte]; first | rfl | assumption) | (simp [va_up, *]; done)) rfl ?_
        refine x_aload_n d_R_raise_51 rfl ?_
        refine x_get f_R_25 d_R_raise_52 (by omega) (by first | rfl | assumption | (simp only [va_up, Nat.reduceEqDiff, ↓reduceIte]; first | rfl | assumption) | (simp [va_up, *]; done)) rfl ?_
        refine x_iload_n d_R_raise_55 rfl ?_
        refine x_iast d_R_raise_56 (by omega) (by first | rfl | assumption | (simp only [va_up, Nat.reduceEqDiff, ↓reduceIte]; first | rfl | assumption) | (simp [va_up, *]; done)) (by assumption) ?_
        refine x_aload_n d_R_raise_57 rfl ?_
        refine x_get f_R_18 d_R_raise_58 (by omega) (by first | rfl | assumption | (simp only [va_up, Nat.reduceEqDiff, ↓reduceIte]; first | rfl | assumption) | (simp [va_up, *]; done)) rfl ?_
        refine x_aload_n d_R_raise_61 rfl ?_
        refine x_get f_R_25 d_R_raise_62 (by omega) (by first | rfl | assumption | (simp only [va_up, Nat.reduceEqDiff, ↓reduceIte]; first | rfl | assumption) | (simp [va_up, *]; done)) rfl ?_
        refine x_iload_n d_R_raise_65 rfl ?_
        refine x_iast d_R_raise_66 (by omega) (by first | rfl | assumption | (simp only [va_up, Nat.reduceEqDiff, ↓reduceIte]; first | rfl | assumption) | (simp [va_up, *]; done)) (by assumption) ?_
        refine x_aload_n d_R_raise_67 rfl ?_
        refine x_dup d_R_raise_68 rfl ?_
        refine x_get f_R_25 d_R_raise_69 (by omega) (by first | rfl | assumption | (simp only [va_up, Nat.reduceEqDiff, ↓reduceIte]; first | rfl | assumption) | (simp [va_up, *]; done)) rfl ?_
        refine x_iconst (v := 1) d_R_raise_72 (by decide) ?_
        refine x_iadd d_R_raise_73 ?_
        refine x_put f_R_25 d_R_raise_74 (by omega) (by first | rfl | assumption | (simp only [va_up, Nat.reduceEqDiff, ↓reduceIte]; first | rfl | assumption) | (simp [va_up, *]; done)) (Nat.le_of_ble_eq_true rfl) (fun _ => ⟨rfl, rfl⟩) ?_
        refine x_iconst (v := 1) d_R_raise_77 (by decide) ?_
        refine x_zret d_R_raise_78 (by first | rfl | assumption) ?_
        rw [if_neg e]
        refine ⟨rfl, ?_⟩
        rw [ri_64, nI_clamp (show n < 2 ^ 31 by omega), ← nI_1]
        rfl
      · exact absurd ((nI_ltI (by omega) (by decide)).mpr hn) c3
set_option maxRecDepth 100000 in
set_option maxHeartbeats 4000000 in
theorem c_R_takeBack {N : Nat} {h : xHp} {n : Nat} {f pl bs : Nat → Int32} (hN : 94 ≤ N) (hn : n ≤ 512) (h1 : h 1 = oR (nI n)) (h2 : h 2 = aI 108 f) (h3 : h 3 = aI 512 pl) (h4 : h 4 = aI 512 bs) (hp : ∀ j, j < n → vp_in (pl j) 108) : XM y_R_takeBack b_R_takeBack 1 (some .boolean) 0 0 0 [.ref 1] N h (fun r h' => if n = 0 then r = some (.int 0) ∧ h' = h else r = some (.int 1) ∧ h' = va_up (va_up h 1 (oR (nI (n - 1)))) 2 (aI 108 (upd f (pl (n - 1)).toNatClampNeg (f (pl (n - 1)).toNatClampNeg - bs (n - 1))))) := by
  unfold oR at h1
  refine xM_intro [some (.ref 1)] (by decide) (fun _ => rfl) (fun _ => Nat.le_of_ble_eq_true rfl) (fun Γ => ?_)
  refine x_aload_n d_R_takeBack_0 rfl ?_
  refine x_get f_R_25 d_R_takeBack_1 (by omega) (by first | rfl | assumption | (simp only [va_up, Nat.reduceEqDiff, ↓reduceIte]; first | rfl | assumption) | (simp [va_up, *]; done)) rfl ?_
  refine x_if_gt 9 d_R_takeBack_4 (by decide) (fun c1 => ?_) (fun c1 => ?_)
  · have h0 : 0 < n := by
      rcases Nat.eq_zero_or_pos n with q | q
      · subst q
        exact absurd c1 (by decide)
      · exact q
    obtain ⟨k, rfl⟩ : ∃ k, n = k + 1 := ⟨n - 1, by omega⟩
    have e1 : nI (k + 1) - 1 = nI k := nI_pred k
    have hi : vp_in (nI k) 512 := vp_in_nI (by omega) (by decide)
    have hc : (nI k).toNatClampNeg = k := nI_clamp (by omega)
    have hi2 : vp_in (pl (nI k).toNatClampNeg) 108 := by rw [hc]; exact hp k (by omega)
    refine x_aload_n d_R_takeBack_9 rfl ?_
    refine x_dup d_R_takeBack_10 rfl ?_
    refine x_get f_R_25 d_R_takeBack_11 (by omega) (by first | rfl | assumption | (simp only [va_up, Nat.reduceEqDiff, ↓reduceIte]; first | rfl | assumption) | (simp [va_up, *]; done)) rfl ?_
    refine x_iconst (v := 1) d_R_takeBack_14 (by decide) ?_
    refine x_isub d_R_takeBack_15 ?_
    rw [e1]
    refine x_put f_R_25 d_R_takeBack_16 (by omega) (by first | rfl | assumption | (simp only [va_up, Nat.reduceEqDiff, ↓reduceIte]; first | rfl | assumption) | (simp [va_up, *]; done)) (Nat.le_of_ble_eq_true rfl) (fun _ => ⟨rfl, rfl⟩) ?_
    refine x_aload_n d_R_takeBack_19 rfl ?_
    refine x_get f_R_9 d_R_takeBack_20 (by omega) (by first | rfl | assumption | (simp only [va_up, Nat.reduceEqDiff, ↓reduceIte]; first | rfl | assumption) | (simp [va_up, *]; done)) rfl ?_
    refine x_aload_n d_R_takeBack_23 rfl ?_
    refine x_get f_R_15 d_R_takeBack_24 (by omega) (by first | rfl | assumption | (simp only [va_up, Nat.reduceEqDiff, ↓reduceIte]; first | rfl | assumption) | (simp [va_up, *]; done)) rfl ?_
    refine x_aload_n d_R_takeBack_27 rfl ?_
    refine x_get f_R_25 d_R_takeBack_28 (by omega) (by first | rfl | assumption | (simp only [va_up, Nat.reduceEqDiff, ↓reduceIte]; first | rfl | assumption) | (simp [va_up, *]; done)) rfl ?_
    refine x_iald d_R_takeBack_31 (by omega) (by first | rfl | assumption | (simp only [va_up, Nat.reduceEqDiff, ↓reduceIte]; first | rfl | assumption) | (simp [va_up, *]; done)) (by assumption) ?_
    refine x_dup2 d_R_takeBack_32 rfl rfl ?_
    refine x_iald d_R_takeBack_33 (by omega) (by first | rfl | assumption | (simp only [va_up, Nat.reduceEqDiff, ↓reduceIte]; first | rfl | assumption) | (simp [va_up, *]; done)) (by assumption) ?_
    refine x_aload_n d_R_takeBack_34 rfl ?_
    refine x_get f_R_18 d_R_takeBack_35 (by omega) (by first | rfl | assumption | (simp only [va_up, Nat.reduceEqDiff, ↓reduceIte]; first | rfl | assumption) | (simp [va_up, *]; done)) rfl ?_
    refine x_aload_n d_R_takeBack_38 rfl ?_
    refine x_get f_R_25 d_R_takeBack_39 (by omega) (by first | rfl | assumption | (simp only [va_up, Nat.reduceEqDiff, ↓reduceIte]; first | rfl | assumption) | (simp [va_up, *]; done)) rfl ?_
    refine x_iald d_R_takeBack_42 (by omega) (by first | rfl | assumption | (simp only [va_up, Nat.reduceEqDiff, ↓reduceIte]; first | rfl | assumption) | (simp [va_up, *]; done)) (by assumption) ?_
    refine x_isub d_R_takeBack_43 ?_
    refine x_iast d_R_takeBack_44 (by omega) (by first | rfl | assumption | (simp only [va_up, Nat.reduceEqDiff, ↓reduceIte]; first | rfl | assumption) | (simp [va_up, *]; done)) (by assumption) ?_
    refine x_iconst (v := 1) d_R_takeBack_45 (by decide) ?_
    refine x_zret d_R_takeBack_46 (by first | rfl | assumption) ?_
    rw [if_neg (by omega)]
    refine ⟨rfl, ?_⟩
    rw [hc]
    rfl
  · have h0 : n = 0 := by
      rcases Nat.eq_zero_or_pos n with q | q
      · exact q
      · exact absurd (by have := nI_lt q (show n < 2 ^ 31 by omega); rwa [nI_0] at this) c1
    refine x_iconst (v := 0) d_R_takeBack_7 (by decide) ?_
    refine x_zret d_R_takeBack_8 (by first | rfl | assumption) ?_
    rw [if_pos h0]
    exact ⟨rfl, rfl⟩
/-- how many of the first k are not 0 -/
def filN (f : Nat → Int32) : Nat → Nat
  | 0 => 0
  | k + 1 => filN f k + if f k = 0 then 0 else 1
theorem filN_le (f : Nat → Int32) : ∀ k, filN f k ≤ k
  | 0 => Nat.le_refl _
  | k + 1 => by
    have := filN_le f k
    unfold filN
    split <;> omega
set_option maxRecDepth 100000 in
set_option maxHeartbeats 4000000 in
theorem c_R_filled {N : Nat} {h : xHp} {n : Int32} {f : Nat → Int32} (hN : 94 ≤ N) (h1 : h 1 = oR n) (h2 : h 2 = aI 108 f) : XM y_R_filled b_R_filled 3 (some .int) 0 0 0 [.ref 1] N h (xR (some (.int (nI (filN f 108)))) h) := by
  unfold oR at h1
  refine xM_intro [some (.ref 1), none, none] (by decide) (fun _ => rfl) (fun _ => Nat.le_of_ble_eq_true rfl) (fun Γ => ?_)
  refine x_iconst (v := 0) d_R_filled_0 (by decide) ?_
  refine x_istore_n d_R_filled_1 (by decide) rfl ?_
  refine x_iconst (v := 0) d_R_filled_2 (by decide) ?_
  refine x_istore_n d_R_filled_3 (by decide) rfl ?_
  have key : ∀ (n k : Nat), k ≤ 108 → 108 - k < n → XW Γ y_R_filled b_R_filled 3 (some .int) (0, 0, 0) (xQ Γ (N + 0) 0 0 (xR (some (.int (nI (filN f 108)))) h)) 0 0 N h 4 [some (.ref 1), some (.int (nI (filN f k))), some (.int (nI k))] [] := by
    intro n
    induction n with
    | zero => intro k _ h0; omega
    | succ n ih =>
      intro k hk hkn
      refine x_iload_n d_R_filled_4 rfl ?_
      refine x_aload_n d_R_filled_5 rfl ?_
      refine x_get f_R_9 d_R_filled_6 (by omega) (by first | rfl | assumption | (simp only [va_up, Nat.reduceEqDiff, ↓reduceIte]; first | rfl | assumption) | (simp [va_up, *]; done)) rfl ?_
      refine x_alenN d_R_filled_9 (by omega) (by first | rfl | assumption | (simp only [va_up, Nat.reduceEqDiff, ↓reduceIte]; first | rfl | assumption) | (simp [va_up, *]; done)) rfl ?_
      refine x_icmp_ge 31 d_R_filled_10 (by decide) (fun c1 => ?_) (fun c1 => ?_)
      · have e : k = 108 := by
          rcases Nat.lt_or_ge k 108 with q | q
          · exact absurd c1 (nI_ge q (by decide))
          · omega
        subst e
        refine x_iload_n d_R_filled_31 rfl ?_
        refine x_iret d_R_filled_32 ?_
        exact ⟨rfl, rfl⟩
      · have hlt : k < 108 := by
          rcases Nat.lt_or_ge k 108 with q | q
          · exact q
          · exact absurd (nI_le q (by omega)) c1
        have hi : vp_in (nI k) 108 := vp_in_nI hlt (by decide)
        refine x_aload_n d_R_filled_13 rfl ?_
        refine x_get f_R_9 d_R_filled_14 (by omega) (by first | rfl | assumption | (simp only [va_up, Nat.reduceEqDiff, ↓reduceIte]; first | rfl | assumption) | (simp [va_up, *]; done)) rfl ?_
        refine x_iload_n d_R_filled_17 rfl ?_
        refine x_iald d_R_filled_18 (by omega) (by first | rfl | assumption | (simp only [va_up, Nat.reduceEqDiff, ↓reduceIte]; first | rfl | assumption) | (simp [va_up, *]; done)) (by assumption) ?_
        refine x_if_eq 25 d_R_filled_19 (by decide) (fun c2 => ?_) (fun c2 => ?_)
        · rw [nI_clamp (by omega)] at c2
          refine x_iinc1 d_R_filled_25 rfl (by decide) rfl ?_
          refine x_goto 4 d_R_filled_28 (by decide) ?_
          rw [nI_1]
          have := ih (k + 1) (by omega) (by omega)
          rw [show filN f (k + 1) = filN f k by simp [filN, c2]] at this
          exact this
        · rw [nI_clamp (by omega)] at c2
          refine x_iinc1 d_R_filled_22 rfl (by decide) rfl ?_
          refine x_iinc1 d_R_filled_25 rfl (by decide) rfl ?_
          refine x_goto 4 d_R_filled_28 (by decide) ?_
          rw [nI_1, nI_1]
          have := ih (k + 1) (by omega) (by omega)
          rw [show filN f (k + 1) = filN f k + 1 by simp [filN, c2]] at this
          exact this
  exact key 109 0 (by omega) (by omega)
end
section
/-! Polynomial: an object p, its coefficients p + 1. Arrays.fill. -/
abbrev oP (p : Nat) : xE := .inr (5, [.ref (p + 1)])
def filF (f : Nat → Int32) (v : Int32) (k : Nat) : Nat → Int32 := fun j => if j < k then v else f j
theorem filF_0 (f : Nat → Int32) (v : Int32) : filF f v 0 = f := by funext j; simp [filF]
theorem filF_s (f : Nat → Int32) (v : Int32) (k : Nat) : upd (filF f v k) k v = filF f v (k + 1) := by
  funext j
  by_cases e : j = k
  · subst e
    simp [upd, filF]
  · simp only [upd, filF, if_neg e]
    by_cases e2 : j < k
    · rw [if_pos e2, if_pos (by omega)]
    · rw [if_neg e2, if_neg (by omega)]
set_option maxRecDepth 100000 in
set_option maxHeartbeats 4000000 in
theorem c_A_fill {N : Nat} {h : xHp} {a n : Nat} {f : Nat → Int32} (v : Int32) (ha : a < N) (hn : n < 100000) (h1 : h a = aI n f) : XM y_A_fill b_A_fill 4 none 0 0 0 [.ref a, .int v] N h (xR none (va_up h a (aI n (filF f v n)))) := by
  refine xM_intro [some (.ref a), some (.int v), none, none] (by decide) (fun _ => rfl) (fun _ => Nat.le_of_ble_eq_true rfl) (fun Γ => ?_)
  refine x_iconst (v := 0) d_A_fill_0 (by decide) ?_
  refine x_istore_n d_A_fill_1 (by decide) rfl ?_
  refine x_aload_n d_A_fill_2 rfl ?_
  refine x_alenN d_A_fill_3 (by omega) (by first | assumption | exact vu_s | exact vu_t (by omega) (by first | assumption | exact vu_s | exact vu_t (by omega) (by first | assumption | exact vu_s | exact vu_t (by omega) (by first | assumption | exact vu_s))) | rfl | (simp only [va_up, Nat.reduceEqDiff, ↓reduceIte]; first | rfl | assumption)) rfl ?_
  refine x_istore_n d_A_fill_4 (by decide) rfl ?_
  have key : ∀ (m k : Nat), k ≤ n → n - k < m → XW Γ y_A_fill b_A_fill 4 none (0, 0, 0) (xQ Γ (N + 0) 0 0 (xR none (va_up h a (aI n (filF f v n))))) 0 0 N (va_up h a (aI n (filF f v k))) 5 [some (.ref a), some (.int v), some (.int (nI k)), some (.int (nI n))] [] := by
    intro m
    induction m with
    | zero => intro k _ h0; omega
    | succ m ih =>
      intro k hk hkn
      refine x_iload_n d_A_fill_5 rfl ?_
      refine x_iload_n d_A_fill_6 rfl ?_
      refine x_icmp_ge 20 d_A_fill_7 (by decide) (fun c1 => ?_) (fun c1 => ?_)
      · have e : k = n := by
          rcases Nat.lt_or_ge k n with q | q
          · exact absurd c1 (nI_ge q (by omega))
          · omega
        subst e
        refine x_vret d_A_fill_20 ?_
        exact ⟨rfl, rfl⟩
      · have hlt : k < n := by
          rcases Nat.lt_or_ge k n with q | q
          · exact q
          · exact absurd (nI_le q (by omega)) c1
        have hi : vp_in (nI k) n := vp_in_nI hlt (by omega)
        refine x_aload_n d_A_fill_10 rfl ?_
        refine x_iload_n d_A_fill_11 rfl ?_
        refine x_iload_n d_A_fill_12 rfl ?_
        refine x_iast d_A_fill_13 (by omega) (by first | assumption | exact vu_s | exact vu_t (by omega) (by first | assumption | exact vu_s | exact vu_t (by omega) (by first | assumption | exact vu_s | exact vu_t (by omega) (by first | assumption | exact vu_s))) | rfl | (simp only [va_up, Nat.reduceEqDiff, ↓reduceIte]; first | rfl | assumption)) (by assumption) ?_
        refine x_iinc1 d_A_fill_14 rfl (by decide) rfl ?_
        refine x_goto 5 d_A_fill_17 (by decide) ?_
        rw [nI_1, nI_clamp (by omega), filF_s, bx_uu]
        exact ih (k + 1) (by omega) (by omega)
  have := key (n + 1) 0 (by omega) (by omega)
  rw [filF_0, show aI n f = h a from h1.symm, vu_e] at this
  exact this
def cp : Nat → Nat
  | 0 => 1
  | 1 => 3
  | 2 => 9
  | _ => 27
def pw (k c : Nat) : Nat := k / cp c % 3
theorem cp_in : ∀ c, c < 4 → 0 < cp c ∧ cp c < 28 := by decide
theorem cp_tab {c : Nat} (hc : c < 4) : (match (nI c).toNatClampNeg with | 0 => (1 : Int32) | 1 => 3 | 2 => 9 | _ => 27) = nI (cp c) := by
  rcases (show c = 0 ∨ c = 1 ∨ c = 2 ∨ c = 3 by omega) with rfl | rfl | rfl | rfl <;> rfl
set_option maxRecDepth 100000 in
set_option maxHeartbeats 4000000 in
theorem c_P_powerAt {N : Nat} {h : xHp} {k c : Nat} (hk : k < 1000) (hc : c < 4) : XM y_P_powerAt b_P_powerAt 2 (some .int) 0 0 0 [.int (nI k), .int (nI c)] N h (xR (some (.int (nI (pw k c)))) h) := by
  have hi : vp_in (nI c) 4 := vp_in_nI hc (by decide)
  refine xM_intro [some (.int (nI k)), some (.int (nI c))] (by decide) (fun _ => rfl) (fun _ => Nat.le_of_ble_eq_true rfl) (fun Γ => ?_)
  refine x_iload_n d_P_powerAt_0 rfl ?_
  refine x_gets (i := 0) rfl w_P_15 d_P_powerAt_1 ?_
  refine x_iload_n d_P_powerAt_4 rfl ?_
  refine x_tald (j := 0) (v := nI (cp c)) rfl rfl d_P_powerAt_5 hi (congrArg Value.int (cp_tab hc)) ?_
  refine x_idiv d_P_powerAt_6 (nI_ne0 (cp_in c hc).1 (by have := (cp_in c hc).2; omega)) ?_
  refine x_iconst (v := 3) d_P_powerAt_7 (by decide) ?_
  refine x_irem d_P_powerAt_8 (by decide) ?_
  refine x_iret d_P_powerAt_9 ?_
  refine ⟨?_, rfl⟩
  have h3 : (3 : Int32) = nI 3 := rfl
  have hd : k / cp c < 2 ^ 31 := Nat.lt_of_le_of_lt (Nat.div_le_self _ _) (by omega)
  rw [pk_div (by omega) (cp_in c hc).1 (by have := (cp_in c hc).2; omega), h3, pk_rem hd (by decide) (by decide)]
  rfl
set_option maxRecDepth 100000 in
set_option maxHeartbeats 4000000 in
theorem c_P_at {N : Nat} {h : xHp} {p : Nat} {f : Nat → Int32} {i : Int32} (hN : p + 1 < N) (h1 : h p = oP p) (h2 : h (p + 1) = aI 81 f) (hi : vp_in i 81) : XM y_P_at b_P_at 2 (some .int) 0 0 0 [.ref p, .int i] N h (xR (some (.int (f i.toNatClampNeg))) h) := by
  refine xM_intro [some (.ref p), some (.int i)] (by decide) (fun _ => rfl) (fun _ => Nat.le_of_ble_eq_true rfl) (fun Γ => ?_)
  refine x_aload_n d_P_at_0 rfl ?_
  refine x_get f_P_11 d_P_at_1 (by omega) (by first | assumption | exact vu_s | exact vu_t (by omega) (by first | assumption | exact vu_s | exact vu_t (by omega) (by first | assumption | exact vu_s | exact vu_t (by omega) (by first | assumption | exact vu_s))) | rfl | (simp only [va_up, Nat.reduceEqDiff, ↓reduceIte]; first | rfl | assumption)) rfl ?_
  refine x_iload_n d_P_at_4 rfl ?_
  refine x_iald d_P_at_5 (by omega) (by first | assumption | exact vu_s | exact vu_t (by omega) (by first | assumption | exact vu_s | exact vu_t (by omega) (by first | assumption | exact vu_s | exact vu_t (by omega) (by first | assumption | exact vu_s))) | rfl | (simp only [va_up, Nat.reduceEqDiff, ↓reduceIte]; first | rfl | assumption)) (by assumption) ?_
  refine x_iret d_P_at_6 ?_
  exact ⟨rfl, rfl⟩
set_option maxRecDepth 100000 in
set_option maxHeartbeats 4000000 in
theorem c_P_terms {N : Nat} {h : xHp} {p : Nat} {f : Nat → Int32} (hN : p + 1 < N) (h1 : h p = oP p) (h2 : h (p + 1) = aI 81 f) : XM y_P_terms b_P_terms 3 (some .int) 0 0 0 [.ref p] N h (xR (some (.int (nI (filN f 81)))) h) := by
  refine xM_intro [some (.ref p), none, none] (by decide) (fun _ => rfl) (fun _ => Nat.le_of_ble_eq_true rfl) (fun Γ => ?_)
  refine x_iconst (v := 0) d_P_terms_0 (by decide) ?_
  refine x_istore_n d_P_terms_1 (by decide) rfl ?_
  refine x_iconst (v := 0) d_P_terms_2 (by decide) ?_
  refine x_istore_n d_P_terms_3 (by decide) rfl ?_
  have key : ∀ (n k : Nat), k ≤ 81 → 81 - k < n → XW Γ y_P_terms b_P_terms 3 (some .int) (0, 0, 0) (xQ Γ (N + 0) 0 0 (xR (some (.int (nI (filN f 81)))) h)) 0 0 N h 4 [some (.ref p), some (.int (nI (filN f k))), some (.int (nI k))] [] := by
    intro n
    induction n with
    | zero => intro k _ h0; omega
    | succ n ih =>
      intro k hk hkn
      refine x_iload_n d_P_terms_4 rfl ?_
      refine x_bipush (v := 81) d_P_terms_5 (by decide) ?_
      refine x_icmp_ge 28 d_P_terms_7 (by decide) (fun c1 => ?_) (fun c1 => ?_)
      · have e : k = 81 := by
          rcases Nat.lt_or_ge k 81 with q | q
          · exact absurd c1 (nI_ge q (by decide))
          · omega
        subst e
        refine x_iload_n d_P_terms_28 rfl ?_
        refine x_iret d_P_terms_29 ?_
        exact ⟨rfl, rfl⟩
      · have hlt : k < 81 := by
          rcases Nat.lt_or_ge k 81 with q | q
          · exact q
          · exact absurd (nI_le q (by omega)) c1
        have hi : vp_in (nI k) 81 := vp_in_nI hlt (by decide)
        refine x_aload_n d_P_terms_10 rfl ?_
        refine x_get f_P_11 d_P_terms_11 (by omega) (by first | assumption | exact vu_s | exact vu_t (by omega) (by first | assumption | exact vu_s | exact vu_t (by omega) (by first | assumption | exact vu_s | exact vu_t (by omega) (by first | assumption | exact vu_s))) | rfl | (simp only [va_up, Nat.reduceEqDiff, ↓reduceIte]; first | rfl | assumption)) rfl ?_
        refine x_iload_n d_P_terms_14 rfl ?_
        refine x_iald d_P_terms_15 (by omega) (by first | assumption | exact vu_s | exact vu_t (by omega) (by first | assumption | exact vu_s | exact vu_t (by omega) (by first | assumption | exact vu_s | exact vu_t (by omega) (by first | assumption | exact vu_s))) | rfl | (simp only [va_up, Nat.reduceEqDiff, ↓reduceIte]; first | rfl | assumption)) (by assumption) ?_
        refine x_if_eq 22 d_P_terms_16 (by decide) (fun c2 => ?_) (fun c2 => ?_)
        · rw [nI_clamp (by omega)] at c2
          refine x_iinc1 d_P_terms_22 rfl (by decide) rfl ?_
          refine x_goto 4 d_P_terms_25 (by decide) ?_
          rw [nI_1]
          have := ih (k + 1) (by omega) (by omega)
          rw [show filN f (k + 1) = filN f k by simp [filN, c2]] at this
          exact this
        · rw [nI_clamp (by omega)] at c2
          refine x_iinc1 d_P_terms_19 rfl (by decide) rfl ?_
          refine x_iinc1 d_P_terms_22 rfl (by decide) rfl ?_
          refine x_goto 4 d_P_terms_25 (by decide) ?_
          rw [nI_1, nI_1]
          have := ih (k + 1) (by omega) (by omega)
          rw [show filN f (k + 1) = filN f k + 1 by simp [filN, c2]] at this
          exact this
  exact key 82 0 (by omega) (by omega)
set_option maxRecDepth 100000 in
set_option maxHeartbeats 4000000 in
theorem c_P_becomeNumber {N : Nat} {h : xHp} {p : Nat} {f : Nat → Int32} (v : Int32) (hN : p + 1 < N) (h1 : h p = oP p) (h2 : h (p + 1) = aI 81 f) : XM y_P_becomeNumber b_P_becomeNumber 2 none 1 0 0 [.ref p, .int v] N h (xR none (va_up h (p + 1) (aI 81 (upd (filF f 0 81) 0 v)))) := by
  have hi : vp_in (0 : Int32) 81 := by unfold vp_in; decide
  refine xM_intro [some (.ref p), some (.int v)] (by decide) (fun _ => rfl) (fun _ => Nat.le_of_ble_eq_true rfl) (fun Γ => ?_)
  refine x_aload_n d_P_becomeNumber_0 rfl ?_
  refine x_get f_P_11 d_P_becomeNumber_1 (by omega) (by first | assumption | exact vu_s | exact vu_t (by omega) (by first | assumption | exact vu_s | exact vu_t (by omega) (by first | assumption | exact vu_s | exact vu_t (by omega) (by first | assumption | exact vu_s))) | rfl | (simp only [va_up, Nat.reduceEqDiff, ↓reduceIte]; first | rfl | assumption)) rfl ?_
  refine x_iconst (v := 0) d_P_becomeNumber_4 (by decide) ?_
  refine x_cSv (c_A_fill 0 (by omega) (by decide) h2) k_P_18 s_A_fill d_P_becomeNumber_5 rfl (by omega) (by decide) ?_
  refine x_aload_n d_P_becomeNumber_8 rfl ?_
  refine x_get f_P_11 d_P_becomeNumber_9 (by omega) (by first | assumption | exact vu_s | exact vu_t (by omega) (by first | assumption | exact vu_s | exact vu_t (by omega) (by first | assumption | exact vu_s | exact vu_t (by omega) (by first | assumption | exact vu_s))) | rfl | (simp only [va_up, Nat.reduceEqDiff, ↓reduceIte]; first | rfl | assumption)) rfl ?_
  refine x_iconst (v := 0) d_P_becomeNumber_12 (by decide) ?_
  refine x_iload_n d_P_becomeNumber_13 rfl ?_
  refine x_iast d_P_becomeNumber_14 (by omega) (by first | assumption | exact vu_s | exact vu_t (by omega) (by first | assumption | exact vu_s | exact vu_t (by omega) (by first | assumption | exact vu_s | exact vu_t (by omega) (by first | assumption | exact vu_s))) | rfl | (simp only [va_up, Nat.reduceEqDiff, ↓reduceIte]; first | rfl | assumption)) (by assumption) ?_
  refine x_vret d_P_becomeNumber_15 ?_
  refine ⟨rfl, ?_⟩
  rw [bx_uu]
  rfl
set_option maxRecDepth 100000 in
set_option maxHeartbeats 4000000 in
theorem c_P_becomeColumn {N : Nat} {h : xHp} {p c : Nat} {f : Nat → Int32} (hN : p + 1 < N) (hc : c < 4) (h1 : h p = oP p) (h2 : h (p + 1) = aI 81 f) : XM y_P_becomeColumn b_P_becomeColumn 2 none 1 0 0 [.ref p, .int (nI c)] N h (xR none (va_up h (p + 1) (aI 81 (upd (filF f 0 81) (cp c) 1)))) := by
  have hi : vp_in (nI c) 4 := vp_in_nI hc (by decide)
  have hi2 : vp_in (nI (cp c)) 81 := vp_in_nI (by have := (cp_in c hc).2; omega) (by decide)
  refine xM_intro [some (.ref p), some (.int (nI c))] (by decide) (fun _ => rfl) (fun _ => Nat.le_of_ble_eq_true rfl) (fun Γ => ?_)
  refine x_aload_n d_P_becomeColumn_0 rfl ?_
  refine x_get f_P_11 d_P_becomeColumn_1 (by omega) (by first | assumption | exact vu_s | exact vu_t (by omega) (by first | assumption | exact vu_s | exact vu_t (by omega) (by first | assumption | exact vu_s | exact vu_t (by omega) (by first | assumption | exact vu_s))) | rfl | (simp only [va_up, Nat.reduceEqDiff, ↓reduceIte]; first | rfl | assumption)) rfl ?_
  refine x_iconst (v := 0) d_P_becomeColumn_4 (by decide) ?_
  refine x_cSv (c_A_fill 0 (by omega) (by decide) h2) k_P_18 s_A_fill d_P_becomeColumn_5 rfl (by omega) (by decide) ?_
  refine x_aload_n d_P_becomeColumn_8 rfl ?_
  refine x_get f_P_11 d_P_becomeColumn_9 (by omega) (by first | assumption | exact vu_s | exact vu_t (by omega) (by first | assumption | exact vu_s | exact vu_t (by omega) (by first | assumption | exact vu_s | exact vu_t (by omega) (by first | assumption | exact vu_s))) | rfl | (simp only [va_up, Nat.reduceEqDiff, ↓reduceIte]; first | rfl | assumption)) rfl ?_
  refine x_gets (i := 0) rfl w_P_15 d_P_becomeColumn_12 ?_
  refine x_iload_n d_P_becomeColumn_15 rfl ?_
  refine x_tald (j := 0) (v := nI (cp c)) rfl rfl d_P_becomeColumn_16 hi (congrArg Value.int (cp_tab hc)) ?_
  refine x_iconst (v := 1) d_P_becomeColumn_17 (by decide) ?_
  refine x_iast d_P_becomeColumn_18 (by omega) (by first | assumption | exact vu_s | exact vu_t (by omega) (by first | assumption | exact vu_s | exact vu_t (by omega) (by first | assumption | exact vu_s | exact vu_t (by omega) (by first | assumption | exact vu_s))) | rfl | (simp only [va_up, Nat.reduceEqDiff, ↓reduceIte]; first | rfl | assumption)) (by assumption) ?_
  refine x_vret d_P_becomeColumn_19 ?_
  refine ⟨rfl, ?_⟩
  rw [bx_uu, nI_clamp (by have := (cp_in c hc).2; omega)]
set_option maxRecDepth 100000 in
set_option maxHeartbeats 4000000 in
theorem c_P_becomeCopy {N : Nat} {h : xHp} {p q : Nat} {f g : Nat → Int32} (hN : p + 1 < N) (hN2 : q + 1 < N) (h1 : h p = oP p) (h2 : h (p + 1) = aI 81 f) (h3 : h q = oP q) (h4 : h (q + 1) = aI 81 g) : XM y_P_becomeCopy b_P_becomeCopy 2 none 1 0 0 [.ref p, .ref q] N h (xR none (va_up h (p + 1) (aI 81 (va_cpy g f 0 0 81)))) := by
  refine xM_intro [some (.ref p), some (.ref q)] (by decide) (fun _ => rfl) (fun _ => Nat.le_of_ble_eq_true rfl) (fun Γ => ?_)
  refine x_aload_n d_P_becomeCopy_0 rfl ?_
  refine x_get f_P_11 d_P_becomeCopy_1 (by omega) (by first | assumption | exact vu_s | exact vu_t (by omega) (by first | assumption | exact vu_s | exact vu_t (by omega) (by first | assumption | exact vu_s | exact vu_t (by omega) (by first | assumption | exact vu_s))) | rfl | (simp only [va_up, Nat.reduceEqDiff, ↓reduceIte]; first | rfl | assumption)) rfl ?_
  refine x_iconst (v := 0) d_P_becomeCopy_4 (by decide) ?_
  refine x_aload_n d_P_becomeCopy_5 rfl ?_
  refine x_get f_P_11 d_P_becomeCopy_6 (by omega) (by first | assumption | exact vu_s | exact vu_t (by omega) (by first | assumption | exact vu_s | exact vu_t (by omega) (by first | assumption | exact vu_s | exact vu_t (by omega) (by first | assumption | exact vu_s))) | rfl | (simp only [va_up, Nat.reduceEqDiff, ↓reduceIte]; first | rfl | assumption)) rfl ?_
  refine x_iconst (v := 0) d_P_becomeCopy_9 (by decide) ?_
  refine x_bipush (v := 81) d_P_becomeCopy_10 (by decide) ?_
  refine x_copyi ay_P_24 d_P_becomeCopy_12 (by omega) (by first | assumption | exact vu_s | exact vu_t (by omega) (by first | assumption | exact vu_s | exact vu_t (by omega) (by first | assumption | exact vu_s | exact vu_t (by omega) (by first | assumption | exact vu_s))) | rfl | (simp only [va_up, Nat.reduceEqDiff, ↓reduceIte]; first | rfl | assumption)) (by omega) (by first | assumption | exact vu_s | exact vu_t (by omega) (by first | assumption | exact vu_s | exact vu_t (by omega) (by first | assumption | exact vu_s | exact vu_t (by omega) (by first | assumption | exact vu_s))) | rfl | (simp only [va_up, Nat.reduceEqDiff, ↓reduceIte]; first | rfl | assumption)) (by decide) (by decide) (by decide) (by decide) (by decide) (by omega) (by decide) ?_
  refine x_vret d_P_becomeCopy_15 ?_
  exact ⟨rfl, rfl⟩
def negU (f g : Nat → Int32) (k : Nat) : Nat → Int32 := fun j => if j < k then -g j else f j
theorem negU_s (f g : Nat → Int32) (k : Nat) : upd (negU f g k) k (-g k) = negU f g (k + 1) := by
  funext j
  by_cases e : j = k
  · subst e
    simp [upd, negU]
  · simp only [upd, negU, if_neg e]
    by_cases e2 : j < k
    · rw [if_pos e2, if_pos (by omega)]
    · rw [if_neg e2, if_neg (by omega)]
set_option maxRecDepth 100000 in
set_option maxHeartbeats 4000000 in
theorem c_P_becomeNegative {N : Nat} {h : xHp} {p q : Nat} {f g : Nat → Int32} (hN : p + 1 < N) (hN2 : q + 1 < N) (hpq : p + 1 < q ∨ q + 1 < p) (h1 : h p = oP p) (h2 : h (p + 1) = aI 81 f) (h3 : h q = oP q) (h4 : h (q + 1) = aI 81 g) : XM y_P_becomeNegative b_P_becomeNegative 3 none 0 0 0 [.ref p, .ref q] N h (xR none (va_up h (p + 1) (aI 81 (negU f g 81)))) := by
  refine xM_intro [some (.ref p), some (.ref q), none] (by decide) (fun _ => rfl) (fun _ => Nat.le_of_ble_eq_true rfl) (fun Γ => ?_)
  refine x_iconst (v := 0) d_P_becomeNegative_0 (by decide) ?_
  refine x_istore_n d_P_becomeNegative_1 (by decide) rfl ?_
  have key : ∀ (n k : Nat), k ≤ 81 → 81 - k < n → XW Γ y_P_becomeNegative b_P_becomeNegative 3 none (0, 0, 0) (xQ Γ (N + 0) 0 0 (xR none (va_up h (p + 1) (aI 81 (negU f g 81))))) 0 0 N (va_up h (p + 1) (aI 81 (negU f g k))) 2 [some (.ref p), some (.ref q), some (.int (nI k))] [] := by
    intro n
    induction n with
    | zero => intro k _ h0; omega
    | succ n ih =>
      intro k hk hkn
      refine x_iload_n d_P_becomeNegative_2 rfl ?_
      refine x_bipush (v := 81) d_P_becomeNegative_3 (by decide) ?_
      refine x_icmp_ge 27 d_P_becomeNegative_5 (by decide) (fun c1 => ?_) (fun c1 => ?_)
      · have e : k = 81 := by
          rcases Nat.lt_or_ge k 81 with q | q
          · exact absurd c1 (nI_ge q (by decide))
          · omega
        subst e
        refine x_vret d_P_becomeNegative_27 ?_
        exact ⟨rfl, rfl⟩
      · have hlt : k < 81 := by
          rcases Nat.lt_or_ge k 81 with q | q
          · exact q
          · exact absurd (nI_le q (by omega)) c1
        have hi : vp_in (nI k) 81 := vp_in_nI hlt (by decide)
        refine x_aload_n d_P_becomeNegative_8 rfl ?_
        refine x_get f_P_11 d_P_becomeNegative_9 (by omega) (by first | assumption | exact vu_s | exact vu_t (by omega) (by first | assumption | exact vu_s | exact vu_t (by omega) (by first | assumption | exact vu_s | exact vu_t (by omega) (by first | assumption | exact vu_s))) | rfl | (simp only [va_up, Nat.reduceEqDiff, ↓reduceIte]; first | rfl | assumption)) rfl ?_
        refine x_iload_n d_P_becomeNegative_12 rfl ?_
        refine x_aload_n d_P_becomeNegative_13 rfl ?_
        refine x_get f_P_11 d_P_becomeNegative_14 (by omega) (by first | assumption | exact vu_s | exact vu_t (by omega) (by first | assumption | exact vu_s | exact vu_t (by omega) (by first | assumption | exact vu_s | exact vu_t (by omega) (by first | assumption | exact vu_s))) | rfl | (simp only [va_up, Nat.reduceEqDiff, ↓reduceIte]; first | rfl | assumption)) rfl ?_
        refine x_iload_n d_P_becomeNegative_17 rfl ?_
        refine x_iald d_P_becomeNegative_18 (by omega) (by first | assumption | exact vu_s | exact vu_t (by omega) (by first | assumption | exact vu_s | exact vu_t (by omega) (by first | assumption | exact vu_s | exact vu_t (by omega) (by first | assumption | exact vu_s))) | rfl | (simp only [va_up, Nat.reduceEqDiff, ↓reduceIte]; first | rfl | assumption)) (by assumption) ?_
        refine x_ineg d_P_becomeNegative_19 ?_
        refine x_iast d_P_becomeNegative_20 (by omega) (by first | assumption | exact vu_s | exact vu_t (by omega) (by first | assumption | exact vu_s | exact vu_t (by omega) (by first | assumption | exact vu_s | exact vu_t (by omega) (by first | assumption | exact vu_s))) | rfl | (simp only [va_up, Nat.reduceEqDiff, ↓reduceIte]; first | rfl | assumption)) (by assumption) ?_
        refine x_iinc1 d_P_becomeNegative_21 rfl (by decide) rfl ?_
        refine x_goto 2 d_P_becomeNegative_24 (by decide) ?_
        rw [nI_1, nI_clamp (by omega), negU_s, bx_uu]
        exact ih (k + 1) (by omega) (by omega)
  have := key 82 0 (by omega) (by omega)
  rw [show negU f g 0 = f by funext j; simp [negU], show aI 81 f = h (p + 1) from h2.symm, vu_e] at this
  exact this
/-- a coefficient out of range among the first k -/
def lgT (f : Nat → Int32) : Nat → Bool
  | 0 => false
  | k + 1 => lgT f k || decide (1000 < f k) || decide (f k < -1000)
def isLg (f : Nat → Int32) : Bool := lgT f 81 || decide (12 < filN f 81)
theorem lgT_t {f : Nat → Int32} {k : Nat} (h : 1000 < f k ∨ f k < -1000) : ∀ n, k < n → lgT f n = true
  | 0, hk => by omega
  | n + 1, hk => by
    unfold lgT
    by_cases e : k = n
    · subst e
      rcases h with h | h <;> simp [h]
    · simp [lgT_t h n (by omega)]
set_option maxRecDepth 100000 in
set_option maxHeartbeats 4000000 in
theorem c_P_hasLargeTerms {N : Nat} {h : xHp} {p : Nat} {f : Nat → Int32} (hN : p + 1 < N) (h1 : h p = oP p) (h2 : h (p + 1) = aI 81 f) : XM y_P_hasLargeTerms b_P_hasLargeTerms 2 (some .boolean) 1 0 0 [.ref p] N h (xR (some (.int (bi (isLg f)))) h) := by
  refine xM_intro [some (.ref p), none] (by decide) (fun _ => rfl) (fun _ => Nat.le_of_ble_eq_true rfl) (fun Γ => ?_)
  refine x_iconst (v := 0) d_P_hasLargeTerms_0 (by decide) ?_
  refine x_istore_n d_P_hasLargeTerms_1 (by decide) rfl ?_
  have key : ∀ (n k : Nat), k ≤ 81 → 81 - k < n → lgT f k = false → XW Γ y_P_hasLargeTerms b_P_hasLargeTerms 2 (some .boolean) (1, 0, 0) (xQ Γ (N + 0) 0 0 (xR (some (.int (bi (isLg f)))) h)) 0 0 N h 2 [some (.ref p), some (.int (nI k))] [] := by
    intro n
    induction n with
    | zero => intro k _ h0; omega
    | succ n ih =>
      intro k hk hkn hlg
      refine x_iload_n d_P_hasLargeTerms_2 rfl ?_
      refine x_bipush (v := 81) d_P_hasLargeTerms_3 (by decide) ?_
      refine x_icmp_ge 40 d_P_hasLargeTerms_5 (by decide) (fun c1 => ?_) (fun c1 => ?_)
      · have e : k = 81 := by
          rcases Nat.lt_or_ge k 81 with q | q
          · exact absurd c1 (nI_ge q (by decide))
          · omega
        subst e
        refine x_aload_n d_P_hasLargeTerms_40 rfl ?_
        refine x_cVe (c_P_terms hN h1 h2) k_P_42 v_P_terms d_P_hasLargeTerms_41 rfl (by omega) (by first | assumption | exact vu_s | exact vu_t (by omega) (by first | assumption | exact vu_s | exact vu_t (by omega) (by first | assumption | exact vu_s | exact vu_t (by omega) (by first | assumption | exact vu_s))) | rfl | (simp only [va_up, Nat.reduceEqDiff, ↓reduceIte]; first | rfl | assumption)) rfl (by omega) (by decide) ?_
        refine x_bipush (v := 12) d_P_hasLargeTerms_44 (by decide) ?_
        have hle := filN_le f 81
        refine x_icmp_le 53 d_P_hasLargeTerms_46 (by decide) (fun c2 => ?_) (fun c2 => ?_)
        · have c3 : ¬ 12 < filN f 81 := fun q => absurd c2 (nI_ge q (by omega))
          refine x_iconst (v := 0) d_P_hasLargeTerms_53 (by decide) ?_
          refine x_zret d_P_hasLargeTerms_54 (by first | rfl | assumption) ?_
          exact ⟨by simp [isLg, hlg, c3, bi], rfl⟩
        · have c3 : 12 < filN f 81 := by
            rcases Nat.lt_or_ge 12 (filN f 81) with q | q
            · exact q
            · exact absurd (nI_le q (by decide)) c2
          refine x_iconst (v := 1) d_P_hasLargeTerms_49 (by decide) ?_
          refine x_goto 54 d_P_hasLargeTerms_50 (by decide) ?_
          refine x_zret d_P_hasLargeTerms_54 (by first | rfl | assumption) ?_
          exact ⟨by simp [isLg, c3, bi], rfl⟩
      · have hlt : k < 81 := by
          rcases Nat.lt_or_ge k 81 with q | q
          · exact q
          · exact absurd (nI_le q (by omega)) c1
        have hi : vp_in (nI k) 81 := vp_in_nI hlt (by decide)
        refine x_aload_n d_P_hasLargeTerms_8 rfl ?_
        refine x_get f_P_11 d_P_hasLargeTerms_9 (by omega) (by first | assumption | exact vu_s | exact vu_t (by omega) (by first | assumption | exact vu_s | exact vu_t (by omega) (by first | assumption | exact vu_s | exact vu_t (by omega) (by first | assumption | exact vu_s))) | rfl | (simp only [va_up, Nat.reduceEqDiff, ↓reduceIte]; first | rfl | assumption)) rfl ?_
        refine x_iload_n d_P_hasLargeTerms_12 rfl ?_
        refine x_iald d_P_hasLargeTerms_13 (by omega) (by first | assumption | exact vu_s | exact vu_t (by omega) (by first | assumption | exact vu_s | exact vu_t (by omega) (by first | assumption | exact vu_s | exact vu_t (by omega) (by first | assumption | exact vu_s))) | rfl | (simp only [va_up, Nat.reduceEqDiff, ↓reduceIte]; first | rfl | assumption)) (by assumption) ?_
        refine x_sipush (v := 1000) d_P_hasLargeTerms_14 (by decide) ?_
        refine x_icmp_gt 32 d_P_hasLargeTerms_17 (by decide) (fun c2 => ?_) (fun c2 => ?_)
        · rw [nI_clamp (by omega)] at c2
          refine x_iconst (v := 1) d_P_hasLargeTerms_32 (by decide) ?_
          refine x_zret d_P_hasLargeTerms_33 (by first | rfl | assumption) ?_
          exact ⟨by simp [isLg, lgT_t (Or.inl c2) 81 hlt, bi], rfl⟩
        · rw [nI_clamp (by omega)] at c2
          refine x_aload_n d_P_hasLargeTerms_20 rfl ?_
          refine x_get f_P_11 d_P_hasLargeTerms_21 (by omega) (by first | assumption | exact vu_s | exact vu_t (by omega) (by first | assumption | exact vu_s | exact vu_t (by omega) (by first | assumption | exact vu_s | exact vu_t (by omega) (by first | assumption | exact vu_s))) | rfl | (simp only [va_up, Nat.reduceEqDiff, ↓reduceIte]; first | rfl | assumption)) rfl ?_
          refine x_iload_n d_P_hasLargeTerms_24 rfl ?_
          refine x_iald d_P_hasLargeTerms_25 (by omega) (by first | assumption | exact vu_s | exact vu_t (by omega) (by first | assumption | exact vu_s | exact vu_t (by omega) (by first | assumption | exact vu_s | exact vu_t (by omega) (by first | assumption | exact vu_s))) | rfl | (simp only [va_up, Nat.reduceEqDiff, ↓reduceIte]; first | rfl | assumption)) (by assumption) ?_
          refine x_sipush (v := -1000) d_P_hasLargeTerms_26 (by decide) ?_
          refine x_icmp_ge 34 d_P_hasLargeTerms_29 (by decide) (fun c3 => ?_) (fun c3 => ?_)
          · rw [nI_clamp (by omega)] at c3
            refine x_iinc1 d_P_hasLargeTerms_34 rfl (by decide) rfl ?_
            refine x_goto 2 d_P_hasLargeTerms_37 (by decide) ?_
            rw [nI_1]
            exact ih (k + 1) (by omega) (by omega) (by simp [lgT, hlg, Int32.not_lt.mp c2, c3])
          · rw [nI_clamp (by omega)] at c3
            refine x_iconst (v := 1) d_P_hasLargeTerms_32 (by decide) ?_
            refine x_zret d_P_hasLargeTerms_33 (by first | rfl | assumption) ?_
            exact ⟨by simp [isLg, lgT_t (Or.inr (Int32.not_le.mp c3)) 81 hlt, bi], rfl⟩
  exact key 82 0 (by omega) (by omega) rfl
end
section
/-! Polynomial: add, product. -/
def addU (f g : Nat → Int32) (t : Int32) (k : Nat) : Nat → Int32 := fun j => if j < k then f j + t * g j else f j
theorem addU_s (f g : Nat → Int32) (t : Int32) (k : Nat) : upd (addU f g t k) k (addU f g t k k + t * g k) = addU f g t (k + 1) := by
  funext j
  by_cases e : j = k
  · subst e
    simp [upd, addU]
  · simp only [upd, addU, if_neg e]
    by_cases e2 : j < k
    · rw [if_pos e2, if_pos (by omega)]
    · rw [if_neg e2, if_neg (by omega)]
set_option maxRecDepth 100000 in
set_option maxHeartbeats 4000000 in
theorem c_P_add {N : Nat} {h : xHp} {p q : Nat} {f g : Nat → Int32} (t : Int32) (hN : p + 1 < N) (hN2 : q + 1 < N) (hpq : p + 1 < q ∨ q + 1 < p) (h1 : h p = oP p) (h2 : h (p + 1) = aI 81 f) (h3 : h q = oP q) (h4 : h (q + 1) = aI 81 g) : XM y_P_add b_P_add 4 (some .boolean) 2 0 0 [.ref p, .ref q, .int t] N h (xR (some (.int (bi (!isLg (addU f g t 81))))) (va_up h (p + 1) (aI 81 (addU f g t 81)))) := by
  refine xM_intro [some (.ref p), some (.ref q), some (.int t), none] (by decide) (fun _ => rfl) (fun _ => Nat.le_of_ble_eq_true rfl) (fun Γ => ?_)
  refine x_iconst (v := 0) d_P_add_0 (by decide) ?_
  refine x_istore_n d_P_add_1 (by decide) rfl ?_
  have key : ∀ (n k : Nat), k ≤ 81 → 81 - k < n → XW Γ y_P_add b_P_add 4 (some .boolean) (2, 0, 0) (xQ Γ (N + 0) 0 0 (xR (some (.int (bi (!isLg (addU f g t 81))))) (va_up h (p + 1) (aI 81 (addU f g t 81))))) 0 0 N (va_up h (p + 1) (aI 81 (addU f g t k))) 2 [some (.ref p), some (.ref q), some (.int t), some (.int (nI k))] [] := by
    intro n
    induction n with
    | zero => intro k _ h0; omega
    | succ n ih =>
      intro k hk hkn
      refine x_iload_n d_P_add_2 rfl ?_
      refine x_bipush (v := 81) d_P_add_3 (by decide) ?_
      refine x_icmp_ge 31 d_P_add_5 (by decide) (fun c1 => ?_) (fun c1 => ?_)
      · have e : k = 81 := by
          rcases Nat.lt_or_ge k 81 with q | q
          · exact absurd c1 (nI_ge q (by decide))
          · omega
        subst e
        refine x_aload_n d_P_add_31 rfl ?_
        refine x_cVe (c_P_hasLargeTerms hN (vu_t (by omega) h1) vu_s) k_P_30 v_P_hasLargeTerms d_P_add_32 rfl (by omega) (by first | assumption | exact vu_s | exact vu_t (by omega) (by first | assumption | exact vu_s | exact vu_t (by omega) (by first | assumption | exact vu_s | exact vu_t (by omega) (by first | assumption | exact vu_s))) | rfl | (simp only [va_up, Nat.reduceEqDiff, ↓reduceIte]; first | rfl | assumption)) rfl (by omega) (Nat.le_of_ble_eq_true rfl) ?_
        refine x_if_ne 42 d_P_add_35 (by decide) (fun c2 => ?_) (fun c2 => ?_)
        · refine x_iconst (v := 0) d_P_add_42 (by decide) ?_
          refine x_zret d_P_add_43 (by first | rfl | assumption) ?_
          rw [bi1] at c2
          exact ⟨by rw [c2]; rfl, rfl⟩
        · refine x_iconst (v := 1) d_P_add_38 (by decide) ?_
          refine x_goto 43 d_P_add_39 (by decide) ?_
          refine x_zret d_P_add_43 (by first | rfl | assumption) ?_
          rw [bi0] at c2
          exact ⟨by rw [c2]; rfl, rfl⟩
      · have hlt : k < 81 := by
          rcases Nat.lt_or_ge k 81 with q | q
          · exact q
          · exact absurd (nI_le q (by omega)) c1
        have hi : vp_in (nI k) 81 := vp_in_nI hlt (by decide)
        refine x_aload_n d_P_add_8 rfl ?_
        refine x_get f_P_11 d_P_add_9 (by omega) (by first | assumption | exact vu_s | exact vu_t (by omega) (by first | assumption | exact vu_s | exact vu_t (by omega) (by first | assumption | exact vu_s | exact vu_t (by omega) (by first | assumption | exact vu_s))) | rfl | (simp only [va_up, Nat.reduceEqDiff, ↓reduceIte]; first | rfl | assumption)) rfl ?_
        refine x_iload_n d_P_add_12 rfl ?_
        refine x_dup2 d_P_add_13 rfl rfl ?_
        refine x_iald d_P_add_14 (by omega) (by first | assumption | exact vu_s | exact vu_t (by omega) (by first | assumption | exact vu_s | exact vu_t (by omega) (by first | assumption | exact vu_s | exact vu_t (by omega) (by first | assumption | exact vu_s))) | rfl | (simp only [va_up, Nat.reduceEqDiff, ↓reduceIte]; first | rfl | assumption)) (by assumption) ?_
        refine x_iload_n d_P_add_15 rfl ?_
        refine x_aload_n d_P_add_16 rfl ?_
        refine x_get f_P_11 d_P_add_17 (by omega) (by first | assumption | exact vu_s | exact vu_t (by omega) (by first | assumption | exact vu_s | exact vu_t (by omega) (by first | assumption | exact vu_s | exact vu_t (by omega) (by first | assumption | exact vu_s))) | rfl | (simp only [va_up, Nat.reduceEqDiff, ↓reduceIte]; first | rfl | assumption)) rfl ?_
        refine x_iload_n d_P_add_20 rfl ?_
        refine x_iald d_P_add_21 (by omega) (by first | assumption | exact vu_s | exact vu_t (by omega) (by first | assumption | exact vu_s | exact vu_t (by omega) (by first | assumption | exact vu_s | exact vu_t (by omega) (by first | assumption | exact vu_s))) | rfl | (simp only [va_up, Nat.reduceEqDiff, ↓reduceIte]; first | rfl | assumption)) (by assumption) ?_
        refine x_imul d_P_add_22 ?_
        refine x_iadd d_P_add_23 ?_
        refine x_iast d_P_add_24 (by omega) (by first | assumption | exact vu_s | exact vu_t (by omega) (by first | assumption | exact vu_s | exact vu_t (by omega) (by first | assumption | exact vu_s | exact vu_t (by omega) (by first | assumption | exact vu_s))) | rfl | (simp only [va_up, Nat.reduceEqDiff, ↓reduceIte]; first | rfl | assumption)) (by assumption) ?_
        refine x_iinc1 d_P_add_25 rfl (by decide) rfl ?_
        refine x_goto 2 d_P_add_28 (by decide) ?_
        rw [nI_1, nI_clamp (by omega), addU_s, bx_uu]
        exact ih (k + 1) (by omega) (by omega)
  have := key 82 0 (by omega) (by omega)
  rw [show addU f g t 0 = f by funext j; simp [addU], show aI 81 f = h (p + 1) from h2.symm, vu_e] at this
  exact this
/-- the powers of two places add up to 2 at most, column by column -/
def pfitK (i j : Nat) : Nat → Bool
  | 0 => true
  | c + 1 => pfitK i j c && decide (pw i c + pw j c ≤ 2)
def pfit (i j : Nat) : Bool := pfitK i j 4
theorem pw_lt (k c : Nat) : pw k c < 3 := Nat.mod_lt _ (by decide)
theorem pfitK_f {i j c : Nat} (h : ¬ pw i c + pw j c ≤ 2) : ∀ n, c < n → pfitK i j n = false
  | 0, hc => by omega
  | n + 1, hc => by
    unfold pfitK
    by_cases e : c = n
    · subst e
      simp [h]
    · simp [pfitK_f h n (by omega)]
set_option maxRecDepth 100000 in
set_option maxHeartbeats 4000000 in
theorem c_P_powersFit {N : Nat} {h : xHp} {i j : Nat} (hi : i < 1000) (hj : j < 1000) : XM y_P_powersFit b_P_powersFit 3 (some .boolean) 1 0 0 [.int (nI i), .int (nI j)] N h (xR (some (.int (bi (pfit i j)))) h) := by
  refine xM_intro [some (.int (nI i)), some (.int (nI j)), none] (by decide) (fun _ => rfl) (fun _ => Nat.le_of_ble_eq_true rfl) (fun Γ => ?_)
  refine x_iconst (v := 0) d_P_powersFit_0 (by decide) ?_
  refine x_istore_n d_P_powersFit_1 (by decide) rfl ?_
  have key : ∀ (n k : Nat), k ≤ 4 → 4 - k < n → pfitK i j k = true → XW Γ y_P_powersFit b_P_powersFit 3 (some .boolean) (1, 0, 0) (xQ Γ (N + 0) 0 0 (xR (some (.int (bi (pfit i j)))) h)) 0 0 N h 2 [some (.int (nI i)), some (.int (nI j)), some (.int (nI k))] [] := by
    intro n
    induction n with
    | zero => intro k _ h0; omega
    | succ n ih =>
      intro k hk hkn hf
      refine x_iload_n d_P_powersFit_2 rfl ?_
      refine x_iconst (v := 4) d_P_powersFit_3 (by decide) ?_
      refine x_icmp_ge 30 d_P_powersFit_4 (by decide) (fun c1 => ?_) (fun c1 => ?_)
      · have e : k = 4 := by
          rcases Nat.lt_or_ge k 4 with q | q
          · exact absurd c1 (nI_ge q (by decide))
          · omega
        subst e
        refine x_iconst (v := 1) d_P_powersFit_30 (by decide) ?_
        refine x_zret d_P_powersFit_31 (by first | rfl | assumption) ?_
        exact ⟨by simp [pfit, hf, bi], rfl⟩
      · have hlt : k < 4 := by
          rcases Nat.lt_or_ge k 4 with q | q
          · exact q
          · exact absurd (nI_le q (by omega)) c1
        refine x_iload_n d_P_powersFit_7 rfl ?_
        refine x_iload_n d_P_powersFit_8 rfl ?_
        refine x_cSe (c_P_powerAt hi hlt) k_P_38 s_P_powerAt d_P_powersFit_9 rfl (by omega) (Nat.le_of_ble_eq_true rfl) ?_
        refine x_iload_n d_P_powersFit_12 rfl ?_
        refine x_iload_n d_P_powersFit_13 rfl ?_
        refine x_cSe (c_P_powerAt hj hlt) k_P_38 s_P_powerAt d_P_powersFit_14 rfl (by omega) (Nat.le_of_ble_eq_true rfl) ?_
        refine x_iadd d_P_powersFit_17 ?_
        refine x_iconst (v := 2) d_P_powersFit_18 (by decide) ?_
        rw [nI_add]
        have b1 := pw_lt i k
        have b2 := pw_lt j k
        refine x_icmp_le 24 d_P_powersFit_19 (by decide) (fun c2 => ?_) (fun c2 => ?_)
        · have c3 : pw i k + pw j k ≤ 2 := (nI_leI (by omega) (by decide)).mp c2
          refine x_iinc1 d_P_powersFit_24 rfl (by decide) rfl ?_
          refine x_goto 2 d_P_powersFit_27 (by decide) ?_
          rw [nI_1]
          exact ih (k + 1) (by omega) (by omega) (by simp [pfitK, hf, c3])
        · have c3 : ¬ pw i k + pw j k ≤ 2 := fun q => c2 ((nI_leI (by omega) (by decide)).mpr q)
          refine x_iconst (v := 0) d_P_powersFit_22 (by decide) ?_
          refine x_zret d_P_powersFit_23 (by first | rfl | assumption) ?_
          exact ⟨by simp [pfit, pfitK_f c3 4 hlt, bi], rfl⟩
  exact key 5 0 (by omega) (by omega) rfl
theorem pfit_lt : ∀ i, i < 81 → ∀ j, j < 81 → pfit i j = true → i + j < 81 := by decide +kernel
/-- the pairs (i, 0 .. j-1) into F -/
def pin (l r : Nat → Int32) (i : Nat) : Nat → (Nat → Int32) → Nat → Int32
  | 0, F => F
  | j + 1, F => if r j = 0 then pin l r i j F else upd (pin l r i j F) (i + j) (pin l r i j F (i + j) + l i * r j)
def pout (l r : Nat → Int32) (F : Nat → Int32) : Nat → Nat → Int32
  | 0 => F
  | i + 1 => if l i = 0 then pout l r F i else pin l r i 81 (pout l r F i)
def AF (l r : Nat → Int32) : Prop := ∀ i j, i < 81 → j < 81 → ¬ l i = 0 → ¬ r j = 0 → pfit i j = true
set_option maxRecDepth 100000 in
set_option maxHeartbeats 4000000 in
theorem c_P_becomeProduct {N : Nat} {h : xHp} {p a b : Nat} {f l r : Nat → Int32} (hN : p + 1 < N) (hNa : a + 1 < N) (hNb : b + 1 < N) (hpa : p + 1 < a ∨ a + 1 < p) (hpb : p + 1 < b ∨ b + 1 < p) (h1 : h p = oP p) (h2 : h (p + 1) = aI 81 f) (h3 : h a = oP a) (h4 : h (a + 1) = aI 81 l) (h5 : h b = oP b) (h6 : h (b + 1) = aI 81 r) : XM y_P_becomeProduct b_P_becomeProduct 5 (some .boolean) 2 0 0 [.ref p, .ref a, .ref b] N h (fun v h' => (AF l r ∧ v = some (.int (bi (!isLg (pout l r (filF f 0 81) 81)))) ∧ h' = va_up h (p + 1) (aI 81 (pout l r (filF f 0 81) 81))) ∨ (¬ AF l r ∧ v = some (.int 0) ∧ ∃ g, h' = va_up h (p + 1) (aI 81 g))) := by
  refine xM_intro [some (.ref p), some (.ref a), some (.ref b), none, none] (by decide) (fun _ => rfl) (fun _ => Nat.le_of_ble_eq_true rfl) (fun Γ => ?_)
  refine x_aload_n d_P_becomeProduct_0 rfl ?_
  refine x_get f_P_11 d_P_becomeProduct_1 (by omega) (by first | assumption | exact vu_s | exact vu_t (by omega) (by first | assumption | exact vu_s | exact vu_t (by omega) (by first | assumption | exact vu_s | exact vu_t (by omega) (by first | assumption | exact vu_s))) | rfl | (simp only [va_up, Nat.reduceEqDiff, ↓reduceIte]; first | rfl | assumption)) rfl ?_
  refine x_iconst (v := 0) d_P_becomeProduct_4 (by decide) ?_
  refine x_cSv (c_A_fill 0 (by omega) (by decide) h2) k_P_18 s_A_fill d_P_becomeProduct_5 rfl (by omega) (Nat.le_of_ble_eq_true rfl) ?_
  refine x_iconst (v := 0) d_P_becomeProduct_8 (by decide) ?_
  refine x_istore_n d_P_becomeProduct_9 (by decide) rfl ?_
  generalize hQ : (fun (v : Option Value) (h' : xHp) => (AF l r ∧ v = some (.int (bi (!isLg (pout l r (filF f 0 81) 81)))) ∧ h' = va_up h (p + 1) (aI 81 (pout l r (filF f 0 81) 81))) ∨ (¬ AF l r ∧ v = some (.int 0) ∧ ∃ g, h' = va_up h (p + 1) (aI 81 g))) = Qp
  have key : ∀ (n i : Nat) (x : Option Value), i ≤ 81 → 81 - i < n → (∀ i' j, i' < i → j < 81 → ¬ l i' = 0 → ¬ r j = 0 → pfit i' j = true) → XW Γ y_P_becomeProduct b_P_becomeProduct 5 (some .boolean) (2, 0, 0) (xQ Γ (N + 0) 0 0 Qp) 0 0 N (va_up h (p + 1) (aI 81 (pout l r (filF f 0 81) i))) 10 [some (.ref p), some (.ref a), some (.ref b), some (.int (nI i)), x] [] := by
    intro n
    induction n with
    | zero => intro k _ _ h0; omega
    | succ n ih =>
      intro i x hk hkn hf
      refine x_iload_n d_P_becomeProduct_10 rfl ?_
      refine x_bipush (v := 81) d_P_becomeProduct_11 (by decide) ?_
      refine x_icmp_ge 100 d_P_becomeProduct_13 (by decide) (fun c1 => ?_) (fun c1 => ?_)
      · have e : i = 81 := by
          rcases Nat.lt_or_ge i 81 with q | q
          · exact absurd c1 (nI_ge q (by decide))
          · omega
        subst e
        have hAF : AF l r := fun i j h1 h2 h3 h4 => hf i j h1 h2 h3 h4
        refine x_aload_n d_P_becomeProduct_100 rfl ?_
        refine x_cVe (c_P_hasLargeTerms hN (vu_t (by omega) h1) vu_s) k_P_30 v_P_hasLargeTerms d_P_becomeProduct_101 rfl (by omega) (by first | assumption | exact vu_s | exact vu_t (by omega) (by first | assumption | exact vu_s | exact vu_t (by omega) (by first | assumption | exact vu_s | exact vu_t (by omega) (by first | assumption | exact vu_s))) | rfl | (simp only [va_up, Nat.reduceEqDiff, ↓reduceIte]; first | rfl | assumption)) rfl (by omega) (Nat.le_of_ble_eq_true rfl) ?_
        refine x_if_ne 111 d_P_becomeProduct_104 (by decide) (fun c2 => ?_) (fun c2 => ?_)
        · refine x_iconst (v := 0) d_P_becomeProduct_111 (by decide) ?_
          refine x_zret d_P_becomeProduct_112 (by first | rfl | assumption) ?_
          rw [bi1] at c2
          rw [← hQ]
          exact Or.inl ⟨hAF, by rw [c2]; rfl, rfl⟩
        · refine x_iconst (v := 1) d_P_becomeProduct_107 (by decide) ?_
          refine x_goto 112 d_P_becomeProduct_108 (by decide) ?_
          refine x_zret d_P_becomeProduct_112 (by first | rfl | assumption) ?_
          rw [bi0] at c2
          rw [← hQ]
          exact Or.inl ⟨hAF, by rw [c2]; rfl, rfl⟩
      · have hlt : i < 81 := by
          rcases Nat.lt_or_ge i 81 with q | q
          · exact q
          · exact absurd (nI_le q (by omega)) c1
        have hi : vp_in (nI i) 81 := vp_in_nI hlt (by decide)
        have hci : (nI i).toNatClampNeg = i := nI_clamp (by omega)
        refine x_aload_n d_P_becomeProduct_16 rfl ?_
        refine x_get f_P_11 d_P_becomeProduct_17 (by omega) (by first | assumption | exact vu_s | exact vu_t (by omega) (by first | assumption | exact vu_s | exact vu_t (by omega) (by first | assumption | exact vu_s | exact vu_t (by omega) (by first | assumption | exact vu_s))) | rfl | (simp only [va_up, Nat.reduceEqDiff, ↓reduceIte]; first | rfl | assumption)) rfl ?_
        refine x_iload_n d_P_becomeProduct_20 rfl ?_
        refine x_iald d_P_becomeProduct_21 (by omega) (by first | assumption | exact vu_s | exact vu_t (by omega) (by first | assumption | exact vu_s | exact vu_t (by omega) (by first | assumption | exact vu_s | exact vu_t (by omega) (by first | assumption | exact vu_s))) | rfl | (simp only [va_up, Nat.reduceEqDiff, ↓reduceIte]; first | rfl | assumption)) (by assumption) ?_
        refine x_if_ne 28 d_P_becomeProduct_22 (by decide) (fun c2 => ?_) (fun c2 => ?_)
        · rw [hci] at c2
          refine x_iconst (v := 0) d_P_becomeProduct_28 (by decide) ?_
          refine x_istore d_P_becomeProduct_29 (by decide) rfl ?_
          have key2 : ∀ (n j : Nat), j ≤ 81 → 81 - j < n → (∀ j', j' < j → ¬ r j' = 0 → pfit i j' = true) → XW Γ y_P_becomeProduct b_P_becomeProduct 5 (some .boolean) (2, 0, 0) (xQ Γ (N + 0) 0 0 Qp) 0 0 N (va_up h (p + 1) (aI 81 (pin l r i j (pout l r (filF f 0 81) i)))) 31 [some (.ref p), some (.ref a), some (.ref b), some (.int (nI i)), some (.int (nI j))] [] := by
            intro n2
            induction n2 with
            | zero => intro k _ h0; omega
            | succ n2 ih2 =>
              intro j hj hjn hfj
              refine x_iload d_P_becomeProduct_31 rfl ?_
              refine x_bipush (v := 81) d_P_becomeProduct_33 (by decide) ?_
              refine x_icmp_ge 94 d_P_becomeProduct_35 (by decide) (fun c3 => ?_) (fun c3 => ?_)
              · have e : j = 81 := by
                  rcases Nat.lt_or_ge j 81 with q | q
                  · exact absurd c3 (nI_ge q (by decide))
                  · omega
                subst e
                refine x_iinc1 d_P_becomeProduct_94 rfl (by decide) rfl ?_
                refine x_goto 10 d_P_becomeProduct_97 (by decide) ?_
                rw [nI_1]
                have := ih (i + 1) (some (.int (nI 81))) (by omega) (by omega) (fun i' j h1 h2 h3 h4 => by
                  rcases Nat.lt_or_ge i' i with q | q
                  · exact hf i' j q h2 h3 h4
                  · have e : i' = i := by omega
                    subst e
                    exact hfj j h2 h4)
                rw [show pout l r (filF f 0 81) (i + 1) = pin l r i 81 (pout l r (filF f 0 81) i) by simp [pout, c2]] at this
                exact this
              · have hjlt : j < 81 := by
                  rcases Nat.lt_or_ge j 81 with q | q
                  · exact q
                  · exact absurd (nI_le q (by omega)) c3
                have hj2 : vp_in (nI j) 81 := vp_in_nI hjlt (by decide)
                have hcj : (nI j).toNatClampNeg = j := nI_clamp (by omega)
                refine x_aload_n d_P_becomeProduct_38 rfl ?_
                refine x_get f_P_11 d_P_becomeProduct_39 (by omega) (by first | assumption | exact vu_s | exact vu_t (by omega) (by first | assumption | exact vu_s | exact vu_t (by omega) (by first | assumption | exact vu_s | exact vu_t (by omega) (by first | assumption | exact vu_s))) | rfl | (simp only [va_up, Nat.reduceEqDiff, ↓reduceIte]; first | rfl | assumption)) rfl ?_
                refine x_iload d_P_becomeProduct_42 rfl ?_
                refine x_iald d_P_becomeProduct_44 (by omega) (by first | assumption | exact vu_s | exact vu_t (by omega) (by first | assumption | exact vu_s | exact vu_t (by omega) (by first | assumption | exact vu_s | exact vu_t (by omega) (by first | assumption | exact vu_s))) | rfl | (simp only [va_up, Nat.reduceEqDiff, ↓reduceIte]; first | rfl | assumption)) (by assumption) ?_
                refine x_if_ne 51 d_P_becomeProduct_45 (by decide) (fun c4 => ?_) (fun c4 => ?_)
                · rw [hcj] at c4
                  refine x_iload_n d_P_becomeProduct_51 rfl ?_
                  refine x_iload d_P_becomeProduct_52 rfl ?_
                  refine x_cSe (c_P_powersFit (by omega) (by omega)) k_P_34 s_P_powersFit d_P_becomeProduct_54 rfl (by omega) (Nat.le_of_ble_eq_true rfl) ?_
                  refine x_if_ne 62 d_P_becomeProduct_57 (by decide) (fun c5 => ?_) (fun c5 => ?_)
                  · rw [bi1] at c5
                    have hs := pfit_lt i hlt j hjlt c5
                    have hsi : vp_in (nI i + nI j) 81 := by rw [nI_add]; exact vp_in_nI hs (by decide)
                    refine x_aload_n d_P_becomeProduct_62 rfl ?_
                    refine x_get f_P_11 d_P_becomeProduct_63 (by omega) (by first | assumption | exact vu_s | exact vu_t (by omega) (by first | assumption | exact vu_s | exact vu_t (by omega) (by first | assumption | exact vu_s | exact vu_t (by omega) (by first | assumption | exact vu_s))) | rfl | (simp only [va_up, Nat.reduceEqDiff, ↓reduceIte]; first | rfl | assumption)) rfl ?_
                    refine x_iload_n d_P_becomeProduct_66 rfl ?_
                    refine x_iload d_P_becomeProduct_67 rfl ?_
                    refine x_iadd d_P_becomeProduct_69 ?_
                    refine x_dup2 d_P_becomeProduct_70 rfl rfl ?_
                    refine x_iald d_P_becomeProduct_71 (by omega) (by first | assumption | exact vu_s | exact vu_t (by omega) (by first | assumption | exact vu_s | exact vu_t (by omega) (by first | assumption | exact vu_s | exact vu_t (by omega) (by first | assumption | exact vu_s))) | rfl | (simp only [va_up, Nat.reduceEqDiff, ↓reduceIte]; first | rfl | assumption)) (by assumption) ?_
                    refine x_aload_n d_P_becomeProduct_72 rfl ?_
                    refine x_get f_P_11 d_P_becomeProduct_73 (by omega) (by first | assumption | exact vu_s | exact vu_t (by omega) (by first | assumption | exact vu_s | exact vu_t (by omega) (by first | assumption | exact vu_s | exact vu_t (by omega) (by first | assumption | exact vu_s))) | rfl | (simp only [va_up, Nat.reduceEqDiff, ↓reduceIte]; first | rfl | assumption)) rfl ?_
                    refine x_iload_n d_P_becomeProduct_76 rfl ?_
                    refine x_iald d_P_becomeProduct_77 (by omega) (by first | assumption | exact vu_s | exact vu_t (by omega) (by first | assumption | exact vu_s | exact vu_t (by omega) (by first | assumption | exact vu_s | exact vu_t (by omega) (by first | assumption | exact vu_s))) | rfl | (simp only [va_up, Nat.reduceEqDiff, ↓reduceIte]; first | rfl | assumption)) (by assumption) ?_
                    refine x_aload_n d_P_becomeProduct_78 rfl ?_
                    refine x_get f_P_11 d_P_becomeProduct_79 (by omega) (by first | assumption | exact vu_s | exact vu_t (by omega) (by first | assumption | exact vu_s | exact vu_t (by omega) (by first | assumption | exact vu_s | exact vu_t (by omega) (by first | assumption | exact vu_s))) | rfl | (simp only [va_up, Nat.reduceEqDiff, ↓reduceIte]; first | rfl | assumption)) rfl ?_
                    refine x_iload d_P_becomeProduct_82 rfl ?_
                    refine x_iald d_P_becomeProduct_84 (by omega) (by first | assumption | exact vu_s | exact vu_t (by omega) (by first | assumption | exact vu_s | exact vu_t (by omega) (by first | assumption | exact vu_s | exact vu_t (by omega) (by first | assumption | exact vu_s))) | rfl | (simp only [va_up, Nat.reduceEqDiff, ↓reduceIte]; first | rfl | assumption)) (by assumption) ?_
                    refine x_imul d_P_becomeProduct_85 ?_
                    refine x_iadd d_P_becomeProduct_86 ?_
                    refine x_iast d_P_becomeProduct_87 (by omega) (by first | assumption | exact vu_s | exact vu_t (by omega) (by first | assumption | exact vu_s | exact vu_t (by omega) (by first | assumption | exact vu_s | exact vu_t (by omega) (by first | assumption | exact vu_s))) | rfl | (simp only [va_up, Nat.reduceEqDiff, ↓reduceIte]; first | rfl | assumption)) (by assumption) ?_
                    refine x_iinc1 d_P_becomeProduct_88 rfl (by decide) rfl ?_
                    refine x_goto 31 d_P_becomeProduct_91 (by decide) ?_
                    rw [nI_1, hci, hcj, nI_add, nI_clamp (by omega), bx_uu]
                    have := ih2 (j + 1) (by omega) (by omega) (fun j' h1 h2 => by
                      rcases Nat.lt_or_ge j' j with q | q
                      · exact hfj j' q h2
                      · have e : j' = j := by omega
                        subst e
                        exact c5)
                    rw [show pin l r i (j + 1) (pout l r (filF f 0 81) i) = upd (pin l r i j (pout l r (filF f 0 81) i)) (i + j) (pin l r i j (pout l r (filF f 0 81) i) (i + j) + l i * r j) by simp [pin, c4]] at this
                    exact this
                  · rw [bi0] at c5
                    refine x_iconst (v := 0) d_P_becomeProduct_60 (by decide) ?_
                    refine x_zret d_P_becomeProduct_61 (by first | rfl | assumption) ?_
                    rw [← hQ]
                    refine Or.inr ⟨fun q => ?_, rfl, _, rfl⟩
                    rw [q i j hlt hjlt c2 c4] at c5
                    cases c5
                · rw [hcj] at c4
                  refine x_goto 88 d_P_becomeProduct_48 (by decide) ?_
                  refine x_iinc1 d_P_becomeProduct_88 rfl (by decide) rfl ?_
                  refine x_goto 31 d_P_becomeProduct_91 (by decide) ?_
                  rw [nI_1]
                  have := ih2 (j + 1) (by omega) (by omega) (fun j' h1 h2 => by
                      rcases Nat.lt_or_ge j' j with q | q
                      · exact hfj j' q h2
                      · have e : j' = j := by omega
                        subst e
                        exact absurd c4 h2)
                  rw [show pin l r i (j + 1) (pout l r (filF f 0 81) i) = pin l r i j (pout l r (filF f 0 81) i) by simp [pin, c4]] at this
                  exact this
          exact key2 82 0 (by omega) (by omega) (fun _ h => by omega)
        · rw [hci] at c2
          refine x_goto 94 d_P_becomeProduct_25 (by decide) ?_
          refine x_iinc1 d_P_becomeProduct_94 rfl (by decide) rfl ?_
          refine x_goto 10 d_P_becomeProduct_97 (by decide) ?_
          rw [nI_1]
          have := ih (i + 1) x (by omega) (by omega) (fun i' j h1 h2 h3 h4 => by
                  rcases Nat.lt_or_ge i' i with q | q
                  · exact hf i' j q h2 h3 h4
                  · have e : i' = i := by omega
                    subst e
                    exact absurd c2 h3)
          rw [show pout l r (filF f 0 81) (i + 1) = pout l r (filF f 0 81) i by simp [pout, c2]] at this
          exact this
  exact key 82 0 none (by omega) (by omega) (fun _ _ h => by omega)
end
section
/-! Question: object q, allowed q + 1, polynomial q + 2 (coefficients q + 3), oneColumn q + 4, otherColumn q + 5. -/
theorem nI_end {k n : Nat} (hk : k ≤ n) (hn : n < 2 ^ 31) (c : nI n ≤ nI k) : k = n := by
  rcases Nat.lt_or_ge k n with q | q
  · exact absurd c (nI_ge q hn)
  · omega
theorem nI_more {k n : Nat} (hk : k ≤ n) (hn : n < 2 ^ 31) (c : ¬ nI n ≤ nI k) : k < n := by
  rcases Nat.lt_or_ge k n with q | q
  · exact q
  · exact absurd (nI_le q (by omega)) c
abbrev aL (n : Nat) (f : Nat → Int64) : xE := .inl (2, n, .inr (.inl f))
abbrev oQ (q : Nat) (t a b g c : Int32) : xE := .inr (6, [.int t, .int a, .int b, .int g, .int c, .ref (q + 1), .ref (q + 2), .ref (q + 4), .ref (q + 5)])
def aOK (a : Int32) (v : Nat) : Bool := !decide (a >>> (nI v &&& 31) &&& 1 = 0)
def lpow (v : Nat) : Nat → Int64
  | 0 => 1
  | n + 1 => lpow v n * (nI v).toInt64
def shareV (al : Nat → Int32) (g grp : Int32) (k c v : Nat) : Int64 := if aOK (al c) v = false then 0 else if nI c = g ∧ ¬ grp = -1 ∧ ¬ nI v = grp then 0 else lpow v (pw k c)
set_option maxRecDepth 100000 in
set_option maxHeartbeats 4000000 in
theorem c_Q_share {N : Nat} {h : xHp} {q : Nat} {t a b g cn grp : Int32} {al : Nat → Int32} {c v k : Nat} (hN : q + 5 < N) (hc : c < 4) (hv : v < 6) (hk : k < 81) (h1 : h q = oQ q t a b g cn) (h2 : h (q + 1) = aI 4 al) : XM y_Q_share b_Q_share 9 (some .long) 1 0 0 [.ref q, .int (nI c), .int (nI v), .int (nI k), .int grp] N h (xR (some (.long (shareV al g grp k c v))) h) := by
  have hi : vp_in (nI c) 4 := vp_in_nI hc (by decide)
  have hcc : (nI c).toNatClampNeg = c := nI_clamp (by omega)
  refine xM_intro [some (.ref q), some (.int (nI c)), some (.int (nI v)), some (.int (nI k)), some (.int grp), none, none, none, none] (by decide) (fun _ => rfl) (fun _ => Nat.le_of_ble_eq_true rfl) (fun Γ => ?_)
  have fin : aOK (al c) v = true → ¬ (nI c = g ∧ ¬ grp = -1 ∧ ¬ nI v = grp) → XW Γ y_Q_share b_Q_share 9 (some .long) (1, 0, 0) (xQ Γ (N + 0) 0 0 (xR (some (.long (shareV al g grp k c v))) h)) 0 0 N h 37 [some (.ref q), some (.int (nI c)), some (.int (nI v)), some (.int (nI k)), some (.int grp), none, none, none, none] [] := by
    intro e1 e2
    refine x_lconst (v := 1) d_Q_share_37 (by decide) ?_
    refine x_lstore d_Q_share_38 (by decide) rfl ?_
    refine x_iload_n d_Q_share_40 rfl ?_
    refine x_iload_n d_Q_share_41 rfl ?_
    refine x_cSe (c_P_powerAt (by omega) hc) k_Q_94 s_P_powerAt d_Q_share_42 rfl (by omega) (Nat.le_of_ble_eq_true rfl) ?_
    refine x_istore d_Q_share_45 (by decide) rfl ?_
    refine x_iconst (v := 0) d_Q_share_47 (by decide) ?_
    refine x_istore d_Q_share_48 (by decide) rfl ?_
    have hpw := pw_lt k c
    have key : ∀ (n j : Nat), j ≤ pw k c → pw k c - j < n → XW Γ y_Q_share b_Q_share 9 (some .long) (1, 0, 0) (xQ Γ (N + 0) 0 0 (xR (some (.long (shareV al g grp k c v))) h)) 0 0 N h 50 [some (.ref q), some (.int (nI c)), some (.int (nI v)), some (.int (nI k)), some (.int grp), some (.long (lpow v j)), none, some (.int (nI (pw k c))), some (.int (nI j))] [] := by
      intro n
      induction n with
      | zero => intro j _ h0; omega
      | succ n ih =>
        intro j hj hjn
        refine x_iload d_Q_share_50 rfl ?_
        refine x_iload d_Q_share_52 rfl ?_
        refine x_icmp_ge 70 d_Q_share_54 (by decide) (fun c1 => ?_) (fun c1 => ?_)
        · have e := nI_end hj (by omega) c1
          refine x_lload d_Q_share_70 rfl ?_
          refine x_lret d_Q_share_72 ?_
          refine ⟨?_, rfl⟩
          rw [shareV, e1, if_neg (by decide), if_neg e2, e]
        · have hlt := nI_more hj (by omega) c1
          refine x_lload d_Q_share_57 rfl ?_
          refine x_iload_n d_Q_share_59 rfl ?_
          refine x_i2l d_Q_share_60 ?_
          refine x_lmul d_Q_share_61 ?_
          refine x_lstore d_Q_share_62 (by decide) rfl ?_
          refine x_iinc1 d_Q_share_64 rfl (by decide) rfl ?_
          refine x_goto 50 d_Q_share_67 (by decide) ?_
          rw [nI_1]
          exact ih (j + 1) (by omega) (by omega)
    exact key (pw k c + 1) 0 (by omega) (by omega)
  refine x_aload_n d_Q_share_0 rfl ?_
  refine x_get f_Q_9 d_Q_share_1 (by omega) (by first | assumption | exact vu_s | exact vu_t (by omega) (by first | assumption | exact vu_s | exact vu_t (by omega) (by first | assumption | exact vu_s | exact vu_t (by omega) (by first | assumption | exact vu_s))) | rfl | (simp only [va_up, Nat.reduceEqDiff, ↓reduceIte]; first | rfl | assumption)) rfl ?_
  refine x_iload_n d_Q_share_4 rfl ?_
  refine x_iald d_Q_share_5 (by omega) (by first | assumption | exact vu_s | exact vu_t (by omega) (by first | assumption | exact vu_s | exact vu_t (by omega) (by first | assumption | exact vu_s | exact vu_t (by omega) (by first | assumption | exact vu_s))) | rfl | (simp only [va_up, Nat.reduceEqDiff, ↓reduceIte]; first | rfl | assumption)) (by assumption) ?_
  refine x_iload_n d_Q_share_6 rfl ?_
  refine x_ishr d_Q_share_7 ?_
  refine x_iconst (v := 1) d_Q_share_8 (by decide) ?_
  refine x_iand d_Q_share_9 ?_
  refine x_if_ne 15 d_Q_share_10 (by decide) (fun c1 => ?_) (fun c1 => ?_)
  · rw [hcc] at c1
    have e1 : aOK (al c) v = true := by simp [aOK, c1]
    refine x_iload_n d_Q_share_15 rfl ?_
    refine x_aload_n d_Q_share_16 rfl ?_
    refine x_get f_Q_50 d_Q_share_17 (by omega) (by first | assumption | exact vu_s | exact vu_t (by omega) (by first | assumption | exact vu_s | exact vu_t (by omega) (by first | assumption | exact vu_s | exact vu_t (by omega) (by first | assumption | exact vu_s))) | rfl | (simp only [va_up, Nat.reduceEqDiff, ↓reduceIte]; first | rfl | assumption)) rfl ?_
    refine x_icmp_ne 37 d_Q_share_20 (by decide) (fun c2 => ?_) (fun c2 => ?_)
    · exact fin e1 (fun z => c2 z.1)
    · refine x_iload d_Q_share_23 rfl ?_
      refine x_iconst (v := -1) d_Q_share_25 (by decide) ?_
      refine x_icmp_eq 37 d_Q_share_26 (by decide) (fun c3 => ?_) (fun c3 => ?_)
      · exact fin e1 (fun z => z.2.1 c3)
      · refine x_iload_n d_Q_share_29 rfl ?_
        refine x_iload d_Q_share_30 rfl ?_
        refine x_icmp_eq 37 d_Q_share_32 (by decide) (fun c4 => ?_) (fun c4 => ?_)
        · exact fin e1 (fun z => z.2.2 c4)
        · refine x_lconst (v := 0) d_Q_share_35 (by decide) ?_
          refine x_lret d_Q_share_36 ?_
          refine ⟨?_, rfl⟩
          rw [shareV, e1, if_neg (by decide), if_pos ⟨c2, c3, c4⟩]
  · rw [hcc] at c1
    have e1 : aOK (al c) v = false := by simp [aOK, c1]
    refine x_lconst (v := 0) d_Q_share_13 (by decide) ?_
    refine x_lret d_Q_share_14 ?_
    refine ⟨?_, rfl⟩
    rw [shareV, if_pos e1]
def joinS (ra : Nat → Int64) (f : Nat → Int32) (r y : Nat) : Nat → Int64
  | 0 => 0
  | x + 1 => joinS ra f r y x + ra x * (f ((r * 6 + x) * 6 + y)).toInt64
theorem joinS_congr {ra rb : Nat → Int64} {f : Nat → Int32} {r y : Nat} : ∀ n, (∀ j, j < n → ra j = rb j) → joinS ra f r y n = joinS rb f r y n
  | 0, _ => rfl
  | n + 1, h => by
    unfold joinS
    rw [joinS_congr n (fun j hj => h j (by omega)), h n (by omega)]
theorem plOf_n {r x y : Nat} : plOf (nI r) (nI x) (nI y) = nI ((r * 6 + x) * 6 + y) := by
  unfold plOf
  rw [show (6 : Int32) = nI 6 from rfl, pk_mul, nI_add, pk_mul, nI_add]
set_option maxRecDepth 100000 in
set_option maxHeartbeats 4000000 in
theorem c_Q_joined {N : Nat} {h : xHp} {n : Int32} {f : Nat → Int32} {ra : Nat → Int64} {a r y : Nat} (hN : 94 ≤ N) (ha : a < N) (hr : r < 3) (hy : y < 6) (h1 : h 1 = oR n) (h2 : h 2 = aI 108 f) (h3 : h a = aL 6 ra) : XM y_Q_joined b_Q_joined 7 (some .long) 1 0 0 [.ref 1, .int (nI r), .ref a, .int (nI y)] N h (xR (some (.long (joinS ra f r y 6))) h) := by
  have h1' := h1
  unfold oR at h1
  refine xM_intro [some (.ref 1), some (.int (nI r)), some (.ref a), some (.int (nI y)), none, none, none] (by decide) (fun _ => rfl) (fun _ => Nat.le_of_ble_eq_true rfl) (fun Γ => ?_)
  refine x_lconst (v := 0) d_Q_joined_0 (by decide) ?_
  refine x_lstore d_Q_joined_1 (by decide) rfl ?_
  refine x_iconst (v := 0) d_Q_joined_3 (by decide) ?_
  refine x_istore d_Q_joined_4 (by decide) rfl ?_
  have key : ∀ (m x : Nat), x ≤ 6 → 6 - x < m → XW Γ y_Q_joined b_Q_joined 7 (some .long) (1, 0, 0) (xQ Γ (N + 0) 0 0 (xR (some (.long (joinS ra f r y 6))) h)) 0 0 N h 6 [some (.ref 1), some (.int (nI r)), some (.ref a), some (.int (nI y)), some (.long (joinS ra f r y x)), none, some (.int (nI x))] [] := by
    intro m
    induction m with
    | zero => intro x _ h0; omega
    | succ m ih =>
      intro x hx hxm
      refine x_iload d_Q_joined_6 rfl ?_
      refine x_bipush (v := 6) d_Q_joined_8 (by decide) ?_
      refine x_icmp_ge 41 d_Q_joined_10 (by decide) (fun c1 => ?_) (fun c1 => ?_)
      · have e := nI_end (n := 6) hx (by decide) c1
        subst e
        refine x_lload d_Q_joined_41 rfl ?_
        refine x_lret d_Q_joined_43 ?_
        exact ⟨rfl, rfl⟩
      · have hlt := nI_more (n := 6) hx (by decide) c1
        have hi : vp_in (nI x) 6 := vp_in_nI hlt (by decide)
        refine x_lload d_Q_joined_13 rfl ?_
        refine x_aload_n d_Q_joined_15 rfl ?_
        refine x_iload d_Q_joined_16 rfl ?_
        refine x_lald d_Q_joined_18 (by omega) (by first | assumption | exact vu_s | exact vu_t (by omega) (by first | assumption | exact vu_s | exact vu_t (by omega) (by first | assumption | exact vu_s | exact vu_t (by omega) (by first | assumption | exact vu_s))) | rfl | (simp only [va_up, Nat.reduceEqDiff, ↓reduceIte]; first | rfl | assumption)) (by assumption) ?_
        refine x_aload_n d_Q_joined_19 rfl ?_
        refine x_iload_n d_Q_joined_20 rfl ?_
        refine x_iload d_Q_joined_21 rfl ?_
        refine x_iload_n d_Q_joined_23 rfl ?_
        refine x_cSe (c_R_placeOf _ _ _) k_Q_87 s_R_placeOf d_Q_joined_24 rfl (by omega) (Nat.le_of_ble_eq_true rfl) ?_
        rw [plOf_n]
        refine x_cVe (c_R_at hN h1' h2 (vp_in_nI (show (r * 6 + x) * 6 + y < 108 by omega) (by decide))) k_Q_93 v_R_at d_Q_joined_27 rfl (by omega) (by first | assumption | exact vu_s | exact vu_t (by omega) (by first | assumption | exact vu_s | exact vu_t (by omega) (by first | assumption | exact vu_s | exact vu_t (by omega) (by first | assumption | exact vu_s))) | rfl | (simp only [va_up, Nat.reduceEqDiff, ↓reduceIte]; first | rfl | assumption)) rfl (by omega) (Nat.le_of_ble_eq_true rfl) ?_
        refine x_i2l d_Q_joined_30 ?_
        refine x_lmul d_Q_joined_31 ?_
        refine x_ladd d_Q_joined_32 ?_
        refine x_lstore d_Q_joined_33 (by decide) rfl ?_
        refine x_iinc1 d_Q_joined_35 rfl (by decide) rfl ?_
        refine x_goto 6 d_Q_joined_38 (by decide) ?_
        rw [nI_1, nI_clamp (show x < 2 ^ 31 by omega), nI_clamp (show (r * 6 + x) * 6 + y < 2 ^ 31 by omega)]
        exact ih (x + 1) (by omega) (by omega)
  exact key 7 0 (by omega) (by omega)
end
section
/-! Question: the sums. -/
/-- along the chain: for each value of the latest column the sum so far -/
def dpQ (al : Nat → Int32) (g grp : Int32) (f : Nat → Int32) (k a : Nat) : Nat → Nat → Int64
  | 0, v => shareV al g grp k a v
  | t + 1, y => shareV al g grp k (a + t + 1) y * joinS (dpQ al g grp f k a t) f (a + t) y 6
def sum6 (F : Nat → Int64) : Nat → Int64
  | 0 => 0
  | v + 1 => sum6 F v + F v
theorem sum6_congr {F G : Nat → Int64} : ∀ n, (∀ j, j < n → F j = G j) → sum6 F n = sum6 G n
  | 0, _ => rfl
  | n + 1, h => by
    unfold sum6
    rw [sum6_congr n (fun j hj => h j (by omega)), h n (by omega)]
def powS (al : Nat → Int32) (g grp : Int32) (f : Nat → Int32) (k a b : Nat) : Int64 := sum6 (dpQ al g grp f k a (b + 1 - a)) 6
theorem lg_eq0 (x y : Int64) : (lg_cmp x y = 0) ↔ x = y := by
  unfold lg_cmp
  simp only [gt_iff_lt, Int64.lt_iff_toInt_lt, ← Int64.toInt_inj]
  repeat' split
  all_goals (constructor <;> intro hh <;> first | omega | decide | exact absurd hh (by decide))
theorem updL_s {f : Nat → Int64} {k : Nat} {x : Int64} : vp_updL f k x k = x := if_pos rfl
theorem updL_n {f : Nat → Int64} {k j : Nat} {x : Int64} (h : j ≠ k) : vp_updL f k x j = f j := if_neg h
/-- only the two scratch columns differ -/
def scr (q : Nat) (h h' : xHp) : Prop := (∃ ra rb, h' (q + 4) = aL 6 ra ∧ h' (q + 5) = aL 6 rb) ∧ ∀ j, j ≠ q + 4 → j ≠ q + 5 → h' j = h j
theorem scr.rf {q : Nat} {h : xHp} {ra rb : Nat → Int64} (h1 : h (q + 4) = aL 6 ra) (h2 : h (q + 5) = aL 6 rb) : scr q h h := ⟨⟨ra, rb, h1, h2⟩, fun _ _ _ => rfl⟩
theorem scr.tr {q : Nat} {h h1 h2 : xHp} (a : scr q h h1) (b : scr q h1 h2) : scr q h h2 := ⟨b.1, fun j e1 e2 => (b.2 j e1 e2).trans (a.2 j e1 e2)⟩
set_option maxRecDepth 100000 in
set_option maxHeartbeats 4000000 in
theorem c_Q_sumOfPowers {N : Nat} {h : xHp} {q : Nat} {n t g cn grp : Int32} {f al : Nat → Int32} {ra0 rb0 : Nat → Int64} {a b k : Nat} (hN : 94 ≤ N) (hq : q + 5 < N) (hq2 : 5 < q) (hab : a ≤ b) (hb : b < 3) (hk : k < 81) (h1 : h 1 = oR n) (h2 : h 2 = aI 108 f) (h3 : h q = oQ q t (nI a) (nI b) g cn) (h4 : h (q + 1) = aI 4 al) (h5 : h (q + 4) = aL 6 ra0) (h6 : h (q + 5) = aL 6 rb0) : XM y_Q_sumOfPowers b_Q_sumOfPowers 10 (some .long) 2 0 0 [.ref q, .ref 1, .int (nI k), .int grp] N h (fun r h' => r = some (.long (powS al g grp f k a b)) ∧ scr q h h') := by
  refine xM_intro [some (.ref q), some (.ref 1), some (.int (nI k)), some (.int grp), none, none, none, none, none, none] (by decide) (fun _ => rfl) (fun _ => Nat.le_of_ble_eq_true rfl) (fun Γ => ?_)
  generalize hQ : (fun (r : Option Value) (h' : xHp) => r = some (.long (powS al g grp f k a b)) ∧ scr q h h') = Qp
  have fin : ∀ (c x : Nat) (hh : xHp) (x7 x8 : Option Value), scr q h hh → (c = q + 4 ∨ c = q + 5) → (∃ rc, hh c = aL 6 rc ∧ ∀ j, j < 6 → rc j = dpQ al g grp f k a (b + 1 - a) j) → XW Γ y_Q_sumOfPowers b_Q_sumOfPowers 10 (some .long) (2, 0, 0) (xQ Γ (N + 0) 0 0 Qp) 0 0 N hh 137 [some (.ref q), some (.ref 1), some (.int (nI k)), some (.int grp), some (.ref c), some (.ref x), some (.int (nI (b + 1))), x7, x8, none] [] := by
    intro c x hh x7 x8 hs hc hrc
    obtain ⟨rc, hr1, hr2⟩ := hrc
    refine x_lconst (v := 0) d_Q_sumOfPowers_137 (by decide) ?_
    refine x_lstore d_Q_sumOfPowers_138 (by decide) rfl ?_
    refine x_iconst (v := 0) d_Q_sumOfPowers_140 (by decide) ?_
    refine x_istore d_Q_sumOfPowers_141 (by decide) rfl ?_
    have key : ∀ (m v : Nat), v ≤ 6 → 6 - v < m → XW Γ y_Q_sumOfPowers b_Q_sumOfPowers 10 (some .long) (2, 0, 0) (xQ Γ (N + 0) 0 0 Qp) 0 0 N hh 143 [some (.ref q), some (.ref 1), some (.int (nI k)), some (.int grp), some (.ref c), some (.ref x), some (.long (sum6 rc v)), none, some (.int (nI v)), none] [] := by
      intro m
      induction m with
      | zero => intro v _ h0; omega
      | succ m ih =>
        intro v hv hvm
        refine x_iload d_Q_sumOfPowers_143 rfl ?_
        refine x_bipush (v := 6) d_Q_sumOfPowers_145 (by decide) ?_
        refine x_icmp_ge 166 d_Q_sumOfPowers_147 (by decide) (fun c1 => ?_) (fun c1 => ?_)
        · have e := nI_end (n := 6) hv (by decide) c1
          subst e
          refine x_lload d_Q_sumOfPowers_166 rfl ?_
          refine x_lret d_Q_sumOfPowers_168 ?_
          rw [← hQ]
          exact ⟨by rw [powS, sum6_congr 6 hr2], hs⟩
        · have hlt := nI_more (n := 6) hv (by decide) c1
          have hi : vp_in (nI v) 6 := vp_in_nI hlt (by decide)
          refine x_lload d_Q_sumOfPowers_150 rfl ?_
          refine x_aload d_Q_sumOfPowers_152 rfl ?_
          refine x_iload d_Q_sumOfPowers_154 rfl ?_
          refine x_lald d_Q_sumOfPowers_156 (by omega) (by first | assumption | exact vu_s | exact vu_t (by omega) (by first | assumption | exact vu_s | exact vu_t (by omega) (by first | assumption | exact vu_s | exact vu_t (by omega) (by first | assumption | exact vu_s))) | rfl | (simp only [va_up, Nat.reduceEqDiff, ↓reduceIte]; first | rfl | assumption)) (by assumption) ?_
          refine x_ladd d_Q_sumOfPowers_157 ?_
          refine x_lstore d_Q_sumOfPowers_158 (by decide) rfl ?_
          refine x_iinc1 d_Q_sumOfPowers_160 rfl (by decide) rfl ?_
          refine x_goto 143 d_Q_sumOfPowers_163 (by decide) ?_
          rw [nI_1, nI_clamp (show v < 2 ^ 31 by omega)]
          exact ih (v + 1) (by omega) (by omega)
    exact key 7 0 (by omega) (by omega)
  have outer : ∀ (m u : Nat) (c c' : Nat) (hh : xHp) (x7 x8 : Option Value), a + u ≤ b + 1 → b + 1 - (a + u) < m → scr q h hh → ((c = q + 4 ∧ c' = q + 5) ∨ (c = q + 5 ∧ c' = q + 4)) → (∃ rc, hh c = aL 6 rc ∧ ∀ j, j < 6 → rc j = dpQ al g grp f k a u j) → XW Γ y_Q_sumOfPowers b_Q_sumOfPowers 10 (some .long) (2, 0, 0) (xQ Γ (N + 0) 0 0 Qp) 0 0 N hh 51 [some (.ref q), some (.ref 1), some (.int (nI k)), some (.int grp), some (.ref c), some (.ref c'), some (.int (nI (a + u))), x7, x8, none] [] := by
    intro m
    induction m with
    | zero => intro u c c' hh x7 x8 _ h0; omega
    | succ m ih =>
      intro u c c' hh x7 x8 hu hum hs hc hrc
      have g3 : hh q = oQ q t (nI a) (nI b) g cn := (hs.2 q (by omega) (by omega)).trans h3
      have g4 : hh (q + 1) = aI 4 al := (hs.2 (q + 1) (by omega) (by omega)).trans h4
      have g1 : hh 1 = oR n := (hs.2 1 (by omega) (by omega)).trans h1
      have g2 : hh 2 = aI 108 f := (hs.2 2 (by omega) (by omega)).trans h2
      refine x_iload d_Q_sumOfPowers_51 rfl ?_
      refine x_aload_n d_Q_sumOfPowers_53 rfl ?_
      refine x_get f_Q_45 d_Q_sumOfPowers_54 (by omega) (by first | assumption | exact vu_s | exact vu_t (by omega) (by first | assumption | exact vu_s | exact vu_t (by omega) (by first | assumption | exact vu_s | exact vu_t (by omega) (by first | assumption | exact vu_s))) | rfl | (simp only [va_up, Nat.reduceEqDiff, ↓reduceIte]; first | rfl | assumption)) rfl ?_
      refine x_icmp_gt 137 d_Q_sumOfPowers_57 (by decide) (fun c1 => ?_) (fun c1 => ?_)
      · have e : a + u = b + 1 := by
          have := (nI_ltI (show b < 2 ^ 31 by omega) (show a + u < 2 ^ 31 by omega)).mp c1
          omega
        rw [e]
        have e2 : b + 1 - a = u := by omega
        refine fin c _ hh x7 x8 hs ?_ ?_
        · rcases hc with z | z <;> omega
        · rw [e2]
          exact hrc
      · have hlt : a + u ≤ b := by
          rcases Nat.lt_or_ge b (a + u) with z | z
          · exact absurd (nI_lt z (by omega)) c1
          · exact z
        obtain ⟨rc, hr1, hr2⟩ := hrc
        have hcc : c < N ∧ c' < N ∧ c ≠ c' ∧ 5 < c ∧ 5 < c' := by omega
        obtain ⟨rd, hd⟩ : ∃ rd, hh c' = aL 6 rd := by
          obtain ⟨⟨ra, rb, z1, z2⟩, -⟩ := hs
          rcases hc with ⟨-, z⟩ | ⟨-, z⟩
          · exact ⟨rb, by rw [z]; exact z2⟩
          · exact ⟨ra, by rw [z]; exact z1⟩
        refine x_iconst (v := 0) d_Q_sumOfPowers_60 (by decide) ?_
        refine x_istore d_Q_sumOfPowers_61 (by decide) rfl ?_
        have inner : ∀ (m2 y : Nat) (rd : Nat → Int64) (x8 : Option Value), y ≤ 6 → 6 - y < m2 → (∀ j, j < y → rd j = dpQ al g grp f k a (u + 1) j) → XW Γ y_Q_sumOfPowers b_Q_sumOfPowers 10 (some .long) (2, 0, 0) (xQ Γ (N + 0) 0 0 Qp) 0 0 N (va_up hh c' (aL 6 rd)) 63 [some (.ref q), some (.ref 1), some (.int (nI k)), some (.int grp), some (.ref c), some (.ref c'), some (.int (nI (a + u))), some (.int (nI y)), x8, none] [] := by
          intro m2
          induction m2 with
          | zero => intro y rd x8 _ h0; omega
          | succ m2 ih2 =>
            intro y rd x8 hy hym hrd
            refine x_iload d_Q_sumOfPowers_63 rfl ?_
            refine x_bipush (v := 6) d_Q_sumOfPowers_65 (by decide) ?_
            refine x_icmp_ge 119 d_Q_sumOfPowers_67 (by decide) (fun c2 => ?_) (fun c2 => ?_)
            · have e := nI_end (n := 6) hy (by decide) c2
              subst e
              refine x_aload d_Q_sumOfPowers_119 rfl ?_
              refine x_astore d_Q_sumOfPowers_121 (by decide) rfl ?_
              refine x_aload d_Q_sumOfPowers_123 rfl ?_
              refine x_astore d_Q_sumOfPowers_125 (by decide) rfl ?_
              refine x_aload d_Q_sumOfPowers_127 rfl ?_
              refine x_astore d_Q_sumOfPowers_129 (by decide) rfl ?_
              refine x_iinc1 d_Q_sumOfPowers_131 rfl (by decide) rfl ?_
              refine x_goto 51 d_Q_sumOfPowers_134 (by decide) ?_
              rw [nI_1]
              have hs' : scr q h (va_up hh c' (aL 6 rd)) := by
                refine ⟨?_, fun j e1 e2 => ?_⟩
                · rcases hc with ⟨z1, z2⟩ | ⟨z1, z2⟩
                  · exact ⟨rc, rd, by rw [vu_n (by omega), ← z1]; exact hr1, by rw [z2]; exact vu_s⟩
                  · exact ⟨rd, rc, by rw [z2]; exact vu_s, by rw [vu_n (by omega), ← z1]; exact hr1⟩
                · rw [vu_n (by omega)]
                  exact hs.2 j e1 e2
              exact ih (u + 1) c' c _ (some (.ref c)) x8 (by omega) (by omega) hs' (by omega) ⟨rd, vu_s, hrd⟩
            · have hlt2 := nI_more (n := 6) hy (by decide) c2
              have hi : vp_in (nI y) 6 := vp_in_nI hlt2 (by decide)
              have step : ∀ v, v = dpQ al g grp f k a (u + 1) y → XW Γ y_Q_sumOfPowers b_Q_sumOfPowers 10 (some .long) (2, 0, 0) (xQ Γ (N + 0) 0 0 Qp) 0 0 N (va_up hh c' (aL 6 rd)) 112 [some (.ref q), some (.ref 1), some (.int (nI k)), some (.int grp), some (.ref c), some (.ref c'), some (.int (nI (a + u))), some (.int (nI y)), some (.long (shareV al g grp k (a + u + 1) y)), none] [.long v, .int (nI y), .ref c'] := by
                intro v hv
                refine x_last d_Q_sumOfPowers_112 (by omega) (by first | assumption | exact vu_s | exact vu_t (by omega) (by first | assumption | exact vu_s | exact vu_t (by omega) (by first | assumption | exact vu_s | exact vu_t (by omega) (by first | assumption | exact vu_s))) | rfl | (simp only [va_up, Nat.reduceEqDiff, ↓reduceIte]; first | rfl | assumption)) (by assumption) ?_
                refine x_iinc1 d_Q_sumOfPowers_113 rfl (by decide) rfl ?_
                refine x_goto 63 d_Q_sumOfPowers_116 (by decide) ?_
                rw [nI_1, nI_clamp (show y < 2 ^ 31 by omega), bx_uu]
                refine ih2 (y + 1) _ _ (by omega) (by omega) (fun j hj => ?_)
                by_cases e : j = y
                · subst e
                  rw [updL_s, hv]
                · rw [updL_n e]
                  exact hrd j (by omega)
              refine x_aload_n d_Q_sumOfPowers_70 rfl ?_
              refine x_iload d_Q_sumOfPowers_71 rfl ?_
              refine x_iconst (v := 1) d_Q_sumOfPowers_73 (by decide) ?_
              refine x_iadd d_Q_sumOfPowers_74 ?_
              refine x_iload d_Q_sumOfPowers_75 rfl ?_
              refine x_iload_n d_Q_sumOfPowers_77 rfl ?_
              refine x_iload_n d_Q_sumOfPowers_78 rfl ?_
              rw [nI_1]
              refine x_cVe (c_Q_share (by omega) (by omega) hlt2 hk (vu_t (by omega) g3) (vu_t (by omega) g4)) k_Q_79 v_Q_share d_Q_sumOfPowers_79 rfl (by omega) (by first | assumption | exact vu_s | exact vu_t (by omega) (by first | assumption | exact vu_s | exact vu_t (by omega) (by first | assumption | exact vu_s | exact vu_t (by omega) (by first | assumption | exact vu_s))) | rfl | (simp only [va_up, Nat.reduceEqDiff, ↓reduceIte]; first | rfl | assumption)) rfl (by omega) (Nat.le_of_ble_eq_true rfl) ?_
              refine x_lstore d_Q_sumOfPowers_82 (by decide) rfl ?_
              refine x_aload d_Q_sumOfPowers_84 rfl ?_
              refine x_iload d_Q_sumOfPowers_86 rfl ?_
              refine x_lload d_Q_sumOfPowers_88 rfl ?_
              refine x_lconst (v := 0) d_Q_sumOfPowers_90 (by decide) ?_
              refine x_lcmp d_Q_sumOfPowers_91 ?_
              refine x_if_ne 99 d_Q_sumOfPowers_92 (by decide) (fun c3 => ?_) (fun c3 => ?_)
              · refine x_lload d_Q_sumOfPowers_99 rfl ?_
                refine x_aload_n d_Q_sumOfPowers_101 rfl ?_
                refine x_iload d_Q_sumOfPowers_102 rfl ?_
                refine x_aload d_Q_sumOfPowers_104 rfl ?_
                refine x_iload d_Q_sumOfPowers_106 rfl ?_
                refine x_cSe (c_Q_joined hN (by omega) (by omega) hlt2 (vu_t (by omega) g1) (vu_t (by omega) g2) (vu_t (by omega) hr1)) k_Q_83 s_Q_joined d_Q_sumOfPowers_108 rfl (by omega) (Nat.le_of_ble_eq_true rfl) ?_
                refine x_lmul d_Q_sumOfPowers_111 ?_
                refine step _ ?_
                rw [dpQ, joinS_congr 6 hr2]
              · refine x_lconst (v := 0) d_Q_sumOfPowers_95 (by decide) ?_
                refine x_goto 112 d_Q_sumOfPowers_96 (by decide) ?_
                refine step _ ?_
                have e0 : shareV al g grp k (a + u + 1) y = 0 := (lg_eq0 _ _).mp c3
                rw [dpQ, e0, Int64.zero_mul]
        have := inner 7 0 rd x8 (by omega) (by omega) (fun j hj => by omega)
        rw [← hd, vu_e] at this
        exact this
  have h3' := h3
  refine x_aload_n d_Q_sumOfPowers_0 rfl ?_
  refine x_get f_Q_22 d_Q_sumOfPowers_1 (by omega) (by first | assumption | exact vu_s | exact vu_t (by omega) (by first | assumption | exact vu_s | exact vu_t (by omega) (by first | assumption | exact vu_s | exact vu_t (by omega) (by first | assumption | exact vu_s))) | rfl | (simp only [va_up, Nat.reduceEqDiff, ↓reduceIte]; first | rfl | assumption)) rfl ?_
  refine x_astore d_Q_sumOfPowers_4 (by decide) rfl ?_
  refine x_aload_n d_Q_sumOfPowers_6 rfl ?_
  refine x_get f_Q_26 d_Q_sumOfPowers_7 (by omega) (by first | assumption | exact vu_s | exact vu_t (by omega) (by first | assumption | exact vu_s | exact vu_t (by omega) (by first | assumption | exact vu_s | exact vu_t (by omega) (by first | assumption | exact vu_s))) | rfl | (simp only [va_up, Nat.reduceEqDiff, ↓reduceIte]; first | rfl | assumption)) rfl ?_
  refine x_astore d_Q_sumOfPowers_10 (by decide) rfl ?_
  refine x_iconst (v := 0) d_Q_sumOfPowers_12 (by decide) ?_
  refine x_istore d_Q_sumOfPowers_13 (by decide) rfl ?_
  have first : ∀ (m v : Nat) (ra : Nat → Int64), v ≤ 6 → 6 - v < m → (∀ j, j < v → ra j = shareV al g grp k a j) → XW Γ y_Q_sumOfPowers b_Q_sumOfPowers 10 (some .long) (2, 0, 0) (xQ Γ (N + 0) 0 0 Qp) 0 0 N (va_up h (q + 4) (aL 6 ra)) 15 [some (.ref q), some (.ref 1), some (.int (nI k)), some (.int grp), some (.ref (q + 4)), some (.ref (q + 5)), some (.int (nI v)), none, none, none] [] := by
    intro m
    induction m with
    | zero => intro v ra _ h0; omega
    | succ m ih =>
      intro v ra hv hvm hra
      refine x_iload d_Q_sumOfPowers_15 rfl ?_
      refine x_bipush (v := 6) d_Q_sumOfPowers_17 (by decide) ?_
      refine x_icmp_ge 45 d_Q_sumOfPowers_19 (by decide) (fun c1 => ?_) (fun c1 => ?_)
      · have e := nI_end (n := 6) hv (by decide) c1
        subst e
        refine x_aload_n d_Q_sumOfPowers_45 rfl ?_
        refine x_get f_Q_39 d_Q_sumOfPowers_46 (by omega) (by first | assumption | exact vu_s | exact vu_t (by omega) (by first | assumption | exact vu_s | exact vu_t (by omega) (by first | assumption | exact vu_s | exact vu_t (by omega) (by first | assumption | exact vu_s))) | rfl | (simp only [va_up, Nat.reduceEqDiff, ↓reduceIte]; first | rfl | assumption)) rfl ?_
        refine x_istore d_Q_sumOfPowers_49 (by decide) rfl ?_
        refine outer (b + 2) 0 (q + 4) (q + 5) _ none none (by omega) (by omega) ⟨⟨ra, rb0, vu_s, vu_t (by omega) h6⟩, fun j e1 e2 => vu_n e1⟩ (Or.inl ⟨rfl, rfl⟩) ⟨ra, vu_s, hra⟩
      · have hlt := nI_more (n := 6) hv (by decide) c1
        have hi : vp_in (nI v) 6 := vp_in_nI hlt (by decide)
        refine x_aload d_Q_sumOfPowers_22 rfl ?_
        refine x_iload d_Q_sumOfPowers_24 rfl ?_
        refine x_aload_n d_Q_sumOfPowers_26 rfl ?_
        refine x_aload_n d_Q_sumOfPowers_27 rfl ?_
        refine x_get f_Q_39 d_Q_sumOfPowers_28 (by omega) (by first | assumption | exact vu_s | exact vu_t (by omega) (by first | assumption | exact vu_s | exact vu_t (by omega) (by first | assumption | exact vu_s | exact vu_t (by omega) (by first | assumption | exact vu_s))) | rfl | (simp only [va_up, Nat.reduceEqDiff, ↓reduceIte]; first | rfl | assumption)) rfl ?_
        refine x_iload d_Q_sumOfPowers_31 rfl ?_
        refine x_iload_n d_Q_sumOfPowers_33 rfl ?_
        refine x_iload_n d_Q_sumOfPowers_34 rfl ?_
        refine x_cVe (c_Q_share (by omega) (by omega) hlt hk (vu_t (by omega) h3) (vu_t (by omega) h4)) k_Q_79 v_Q_share d_Q_sumOfPowers_35 rfl (by omega) (by first | assumption | exact vu_s | exact vu_t (by omega) (by first | assumption | exact vu_s | exact vu_t (by omega) (by first | assumption | exact vu_s | exact vu_t (by omega) (by first | assumption | exact vu_s))) | rfl | (simp only [va_up, Nat.reduceEqDiff, ↓reduceIte]; first | rfl | assumption)) rfl (by omega) (Nat.le_of_ble_eq_true rfl) ?_
        refine x_last d_Q_sumOfPowers_38 (by omega) (by first | assumption | exact vu_s | exact vu_t (by omega) (by first | assumption | exact vu_s | exact vu_t (by omega) (by first | assumption | exact vu_s | exact vu_t (by omega) (by first | assumption | exact vu_s))) | rfl | (simp only [va_up, Nat.reduceEqDiff, ↓reduceIte]; first | rfl | assumption)) (by assumption) ?_
        refine x_iinc1 d_Q_sumOfPowers_39 rfl (by decide) rfl ?_
        refine x_goto 15 d_Q_sumOfPowers_42 (by decide) ?_
        rw [nI_1, nI_clamp (show v < 2 ^ 31 by omega), bx_uu]
        refine ih (v + 1) _ (by omega) (by omega) (fun j hj => ?_)
        by_cases e : j = v
        · subst e
          exact updL_s
        · rw [updL_n e]
          exact hra j (by omega)
  have := first 7 0 ra0 (by omega) (by omega) (fun j hj => by omega)
  rw [← h5, vu_e] at this
  exact this
/-- over the first k combinations of powers -/
def sumK (co : Nat → Int32) (F : Nat → Int64) : Nat → Int64
  | 0 => 0
  | k + 1 => sumK co F k + (if co k = 0 then 0 else (co k).toInt64 * F k)
def ansC (al : Nat → Int32) (g grp : Int32) (f co : Nat → Int32) (a b : Nat) : Int64 := sumK co (fun k => powS al g grp f k a b) 81
set_option maxRecDepth 100000 in
set_option maxHeartbeats 4000000 in
theorem c_Q_sumOver {N : Nat} {h : xHp} {q : Nat} {n t g cn grp : Int32} {f al co : Nat → Int32} {ra0 rb0 : Nat → Int64} {a b : Nat} (hN : 94 ≤ N) (hq : q + 5 < N) (hq2 : 5 < q) (hab : a ≤ b) (hb : b < 3) (h1 : h 1 = oR n) (h2 : h 2 = aI 108 f) (h3 : h q = oQ q t (nI a) (nI b) g cn) (h4 : h (q + 1) = aI 4 al) (h7 : h (q + 2) = oP (q + 2)) (h8 : h (q + 3) = aI 81 co) (h5 : h (q + 4) = aL 6 ra0) (h6 : h (q + 5) = aL 6 rb0) : XM y_Q_sumOver b_Q_sumOver 7 (some .long) 3 0 0 [.ref q, .ref 1, .int grp] N h (fun r h' => r = some (.long (ansC al g grp f co a b)) ∧ scr q h h') := by
  refine xM_intro [some (.ref q), some (.ref 1), some (.int grp), none, none, none, none] (by decide) (fun _ => rfl) (fun _ => Nat.le_of_ble_eq_true rfl) (fun Γ => ?_)
  generalize hQ : (fun (r : Option Value) (h' : xHp) => r = some (.long (ansC al g grp f co a b)) ∧ scr q h h') = Qp
  refine x_lconst (v := 0) d_Q_sumOver_0 (by decide) ?_
  refine x_lstore_n d_Q_sumOver_1 (by decide) rfl ?_
  refine x_iconst (v := 0) d_Q_sumOver_2 (by decide) ?_
  refine x_istore d_Q_sumOver_3 (by decide) rfl ?_
  have key : ∀ (m k : Nat) (hh : xHp) (x6 : Option Value), k ≤ 81 → 81 - k < m → scr q h hh → XW Γ y_Q_sumOver b_Q_sumOver 7 (some .long) (3, 0, 0) (xQ Γ (N + 0) 0 0 Qp) 0 0 N hh 5 [some (.ref q), some (.ref 1), some (.int grp), some (.long (sumK co (fun k => powS al g grp f k a b) k)), none, some (.int (nI k)), x6] [] := by
    intro m
    induction m with
    | zero => intro k hh x6 _ h0; omega
    | succ m ih =>
      intro k hh x6 hk hkm hs
      have g3 : hh q = oQ q t (nI a) (nI b) g cn := (hs.2 q (by omega) (by omega)).trans h3
      have g4 : hh (q + 1) = aI 4 al := (hs.2 (q + 1) (by omega) (by omega)).trans h4
      have g7 : hh (q + 2) = oP (q + 2) := (hs.2 (q + 2) (by omega) (by omega)).trans h7
      have g8 : hh (q + 3) = aI 81 co := (hs.2 (q + 3) (by omega) (by omega)).trans h8
      have g1 : hh 1 = oR n := (hs.2 1 (by omega) (by omega)).trans h1
      have g2 : hh 2 = aI 108 f := (hs.2 2 (by omega) (by omega)).trans h2
      obtain ⟨⟨ra, rb, g5, g6⟩, -⟩ := id hs
      refine x_iload d_Q_sumOver_5 rfl ?_
      refine x_bipush (v := 81) d_Q_sumOver_7 (by decide) ?_
      refine x_icmp_ge 49 d_Q_sumOver_9 (by decide) (fun c1 => ?_) (fun c1 => ?_)
      · have e := nI_end (n := 81) hk (by decide) c1
        subst e
        refine x_lload_n d_Q_sumOver_49 rfl ?_
        refine x_lret d_Q_sumOver_50 ?_
        rw [← hQ]
        exact ⟨rfl, hs⟩
      · have hlt := nI_more (n := 81) hk (by decide) c1
        have hi : vp_in (nI k) 81 := vp_in_nI hlt (by decide)
        have hck : (nI k).toNatClampNeg = k := nI_clamp (by omega)
        refine x_aload_n d_Q_sumOver_12 rfl ?_
        refine x_get f_Q_18 d_Q_sumOver_13 (by omega) (by first | assumption | exact vu_s | exact vu_t (by omega) (by first | assumption | exact vu_s | exact vu_t (by omega) (by first | assumption | exact vu_s | exact vu_t (by omega) (by first | assumption | exact vu_s))) | rfl | (simp only [va_up, Nat.reduceEqDiff, ↓reduceIte]; first | rfl | assumption)) rfl ?_
        refine x_iload d_Q_sumOver_16 rfl ?_
        refine x_cVe (c_P_at (by omega) g7 g8 hi) k_Q_72 v_P_at d_Q_sumOver_18 rfl (by omega) (by first | assumption | exact vu_s | exact vu_t (by omega) (by first | assumption | exact vu_s | exact vu_t (by omega) (by first | assumption | exact vu_s | exact vu_t (by omega) (by first | assumption | exact vu_s))) | rfl | (simp only [va_up, Nat.reduceEqDiff, ↓reduceIte]; first | rfl | assumption)) rfl (by omega) (Nat.le_of_ble_eq_true rfl) ?_
        rw [hck]
        refine x_istore d_Q_sumOver_21 (by decide) rfl ?_
        refine x_iload d_Q_sumOver_23 rfl ?_
        refine x_if_eq 43 d_Q_sumOver_25 (by decide) (fun c2 => ?_) (fun c2 => ?_)
        · refine x_iinc1 d_Q_sumOver_43 rfl (by decide) rfl ?_
          refine x_goto 5 d_Q_sumOver_46 (by decide) ?_
          rw [nI_1]
          have := ih (k + 1) hh (some (.int (co k))) (by omega) (by omega) hs
          rw [show sumK co (fun k => powS al g grp f k a b) (k + 1) = sumK co (fun k => powS al g grp f k a b) k by simp [sumK, c2]] at this
          exact this
        · refine x_lload_n d_Q_sumOver_28 rfl ?_
          refine x_iload d_Q_sumOver_29 rfl ?_
          refine x_i2l d_Q_sumOver_31 ?_
          refine x_aload_n d_Q_sumOver_32 rfl ?_
          refine x_aload_n d_Q_sumOver_33 rfl ?_
          refine x_iload d_Q_sumOver_34 rfl ?_
          refine x_iload_n d_Q_sumOver_36 rfl ?_
          refine x_cV (c_Q_sumOfPowers hN hq hq2 hab hb hlt g1 g2 g3 g4 g5 g6) k_Q_75 v_Q_sumOfPowers d_Q_sumOver_37 rfl (by omega) (by first | assumption | exact vu_s | exact vu_t (by omega) (by first | assumption | exact vu_s | exact vu_t (by omega) (by first | assumption | exact vu_s | exact vu_t (by omega) (by first | assumption | exact vu_s))) | rfl | (simp only [va_up, Nat.reduceEqDiff, ↓reduceIte]; first | rfl | assumption)) rfl (by omega) (Nat.le_of_ble_eq_true rfl) ?_
          rintro r h' ⟨rfl, hs'⟩
          refine x_lmul d_Q_sumOver_40 ?_
          refine x_ladd d_Q_sumOver_41 ?_
          refine x_lstore_n d_Q_sumOver_42 (by decide) rfl ?_
          refine x_iinc1 d_Q_sumOver_43 rfl (by decide) rfl ?_
          refine x_goto 5 d_Q_sumOver_46 (by decide) ?_
          rw [nI_1]
          have := ih (k + 1) h' (some (.int (co k))) (by omega) (by omega) (hs.tr hs')
          rw [show sumK co (fun k => powS al g grp f k a b) (k + 1) = sumK co (fun k => powS al g grp f k a b) k + (co k).toInt64 * powS al g grp f k a b by simp [sumK, c2]] at this
          exact this
  exact key 82 0 h none (by omega) (by omega) (scr.rf h5 h6)
set_option maxRecDepth 100000 in
set_option maxHeartbeats 4000000 in
theorem c_Q_answerFor {N : Nat} {h : xHp} {q : Nat} {n t g cn grp : Int32} {f al co : Nat → Int32} {ra0 rb0 : Nat → Int64} {a b : Nat} (hN : 94 ≤ N) (hq : q + 5 < N) (hq2 : 5 < q) (hab : a ≤ b) (hb : b < 3) (h1 : h 1 = oR n) (h2 : h 2 = aI 108 f) (h3 : h q = oQ q t (nI a) (nI b) g cn) (h4 : h (q + 1) = aI 4 al) (h7 : h (q + 2) = oP (q + 2)) (h8 : h (q + 3) = aI 81 co) (h5 : h (q + 4) = aL 6 ra0) (h6 : h (q + 5) = aL 6 rb0) : XM y_Q_answerFor b_Q_answerFor 3 (some .long) 4 0 0 [.ref q, .ref 1, .int grp] N h (fun r h' => r = some (.long (if g = -2 then (if grp = 0 then ansC al g (-1) f co a b else 0) else ansC al g grp f co a b)) ∧ scr q h h') := by
  refine xM_intro [some (.ref q), some (.ref 1), some (.int grp)] (by decide) (fun _ => rfl) (fun _ => Nat.le_of_ble_eq_true rfl) (fun Γ => ?_)
  refine x_aload_n d_Q_answerFor_0 rfl ?_
  refine x_get f_Q_50 d_Q_answerFor_1 (by omega) (by first | assumption | exact vu_s | exact vu_t (by omega) (by first | assumption | exact vu_s | exact vu_t (by omega) (by first | assumption | exact vu_s | exact vu_t (by omega) (by first | assumption | exact vu_s))) | rfl | (simp only [va_up, Nat.reduceEqDiff, ↓reduceIte]; first | rfl | assumption)) rfl ?_
  refine x_bipush (v := -2) d_Q_answerFor_4 (by decide) ?_
  refine x_icmp_ne 24 d_Q_answerFor_6 (by decide) (fun c1 => ?_) (fun c1 => ?_)
  · refine x_aload_n d_Q_answerFor_24 rfl ?_
    refine x_aload_n d_Q_answerFor_25 rfl ?_
    refine x_iload_n d_Q_answerFor_26 rfl ?_
    refine x_cV (c_Q_sumOver hN hq hq2 hab hb h1 h2 h3 h4 h7 h8 h5 h6) k_Q_68 v_Q_sumOver d_Q_answerFor_27 rfl (by omega) (by first | assumption | exact vu_s | exact vu_t (by omega) (by first | assumption | exact vu_s | exact vu_t (by omega) (by first | assumption | exact vu_s | exact vu_t (by omega) (by first | assumption | exact vu_s))) | rfl | (simp only [va_up, Nat.reduceEqDiff, ↓reduceIte]; first | rfl | assumption)) rfl (by omega) (Nat.le_of_ble_eq_true rfl) ?_
    rintro r h' ⟨rfl, hs'⟩
    refine x_lret d_Q_answerFor_30 ?_
    exact ⟨by rw [if_neg c1], hs'⟩
  · refine x_iload_n d_Q_answerFor_9 rfl ?_
    refine x_if_ne 22 d_Q_answerFor_10 (by decide) (fun c2 => ?_) (fun c2 => ?_)
    · refine x_lconst (v := 0) d_Q_answerFor_22 (by decide) ?_
      refine x_lret d_Q_answerFor_23 ?_
      exact ⟨by rw [if_pos c1, if_neg c2], scr.rf h5 h6⟩
    · refine x_aload_n d_Q_answerFor_13 rfl ?_
      refine x_aload_n d_Q_answerFor_14 rfl ?_
      refine x_iconst (v := -1) d_Q_answerFor_15 (by decide) ?_
      refine x_cV (c_Q_sumOver hN hq hq2 hab hb h1 h2 h3 h4 h7 h8 h5 h6) k_Q_68 v_Q_sumOver d_Q_answerFor_16 rfl (by omega) (by first | assumption | exact vu_s | exact vu_t (by omega) (by first | assumption | exact vu_s | exact vu_t (by omega) (by first | assumption | exact vu_s | exact vu_t (by omega) (by first | assumption | exact vu_s))) | rfl | (simp only [va_up, Nat.reduceEqDiff, ↓reduceIte]; first | rfl | assumption)) rfl (by omega) (Nat.le_of_ble_eq_true rfl) ?_
      rintro r h' ⟨rfl, hs'⟩
      refine x_goto 23 d_Q_answerFor_19 (by decide) ?_
      refine x_lret d_Q_answerFor_23 ?_
      exact ⟨by rw [if_pos c1, if_pos c2], hs'⟩
end
section
/-! Grammar: object 7, allowed 8. State: step, first, last, open, bits, condition's column and kind, conditions, group, allowed. -/
abbrev GS : Type := Nat × Int32 × Int32 × Nat × Int32 × Int32 × Int32 × Int32 × Int32 × (Nat → Int32)
abbrev oG (σ : GS) : xE := .inr (3, [.int (nI σ.1), .int σ.2.1, .int σ.2.2.1, .int (nI σ.2.2.2.1), .int σ.2.2.2.2.1, .int σ.2.2.2.2.2.1, .int σ.2.2.2.2.2.2.1, .int σ.2.2.2.2.2.2.2.1, .ref 8, .int σ.2.2.2.2.2.2.2.2.1])
def hG (h : xHp) (σ : GS) : xHp := va_up (va_up h 8 (aI 4 σ.2.2.2.2.2.2.2.2.2)) 7 (oG σ)
theorem hG_7 (h : xHp) (σ : GS) : hG h σ 7 = oG σ := vu_s
theorem hG_8 (h : xHp) (σ : GS) : hG h σ 8 = aI 4 σ.2.2.2.2.2.2.2.2.2 := vu_t (by decide) vu_s
theorem hG_n (h : xHp) (σ : GS) {j : Nat} (h7 : j ≠ 7) (h8 : j ≠ 8) : hG h σ j = h j := (vu_n h7).trans (vu_n h8)
theorem hG_put (h : xHp) (σ σ' : GS) (e : σ'.2.2.2.2.2.2.2.2.2 = σ.2.2.2.2.2.2.2.2.2) : va_up (hG h σ) 7 (oG σ') = hG h σ' := by
  unfold hG
  rw [bx_uu, e]
theorem hG_of {h : xHp} {σ : GS} (h7 : h 7 = oG σ) (h8 : h 8 = aI 4 σ.2.2.2.2.2.2.2.2.2) : hG h σ = h := by
  unfold hG
  rw [← h8, vu_e, ← h7, vu_e]
theorem hG_hG (h : xHp) (σ σ' : GS) : hG (hG h σ) σ' = hG h σ' := by
  unfold hG
  rw [vu_c _ _ _ (by decide : (8 : Nat) ≠ 7), bx_uu, bx_uu]
theorem XW_h {Γ : xG} {y : MethodName} {cc : ByteArray} {nL : Nat} {ret : Option FieldType} {dd : Nat × Nat × Nat} {Q : State → Prop} {ce sl N : Nat} {h h' : xHp} {pc : Nat} {lv : List (Option Value)} {st : List Value} (e : h = h') (k : XW Γ y cc nL ret dd Q ce sl N h' pc lv st) : XW Γ y cc nL ret dd Q ce sl N h pc lv st := e ▸ k
def gOut (h : xHp) (σ : GS) (o : Option GS) : Option Value → xHp → Prop := fun r h' => match o with
  | some σ' => r = some (.int 1) ∧ h' = hG h σ'
  | none => r = some (.int 0) ∧ h' = hG h σ
def isCC (fi la c : Int32) : Bool := decide (fi ≤ colOf c) && decide (colOf c ≤ la + 1)
def gend : Nat → Int32 → Nat × Int32
  | 0, b => (0, b)
  | n + 1, b => if b &&& 1 = 0 then gend n (b >>> ((1 : Int32) &&& 31)) else (n + 1, b)
def gEnd : GS → GS
  | (_, fi, la, op, bt, t) => (3, fi, la, (gend op bt).1, (gend op bt).2, t)
def gTail : GS → Int32 → Option GS
  | (_, t), c => if c = 63 then some (4, t) else if c = 47 then some (8, t) else none
def gFactor : GS → Int32 → Option GS
  | (s, fi, la, op, bt, t), c => if c = 40 ∨ c = 45 then (if op < 8 then some (s, fi, la, op + 1, bt <<< ((1 : Int32) &&& 31) ||| (if c = 40 then 1 else 0), t) else none) else if isDig c || isCC fi la c then some (gEnd (s, fi, la, op, bt, t)) else none
def gAfter : GS → Int32 → Option GS
  | (s, fi, la, op, bt, t), c => if c = 43 ∨ c = 45 ∨ c = 42 then some (2, fi, la, op, bt, t) else if op = 0 then gTail (s, fi, la, op, bt, t) c else if c = 41 then some (gEnd (s, fi, la, op - 1, bt >>> ((1 : Int32) &&& 31), t)) else none
def gCh0 : GS → Int32 → Option GS
  | (_, _, _, t), c => if 0 ≤ relOf c then some (1, relOf c, relOf c, t) else none
def gCh1 : GS → Int32 → Option GS
  | (s, fi, la, t), c => if c = 58 then some (2, fi, la, t) else if relOf c = la + 1 then some (s, fi, la + 1, t) else none
def gCol : GS → Int32 → Option GS
  | (_, fi, la, op, bt, _, t), c => if isCC fi la c then some (5, fi, la, op, bt, colOf c, t) else none
def gKind : GS → Int32 → Option GS
  | (_, fi, la, op, bt, cc, _, t), c => if c = 61 ∨ c = 35 ∨ c = 60 ∨ c = 62 then some (6, fi, la, op, bt, cc, c, t) else none
def meetsB (v : Nat) (kind d : Int32) : Bool := if kind = 35 then decide (¬ nI v = d) else if kind = 60 then decide (nI v < d) else if kind = 61 then decide (nI v = d) else decide (d < nI v)
def rst (a kind d : Int32) : Nat → Int32
  | 0 => a
  | v + 1 => if meetsB v kind d then rst a kind d v else rst a kind d v &&& (((1 : Int32) <<< (nI v &&& 31)) ^^^ (-1))
def gDig : GS → Int32 → Option GS
  | (_, fi, la, op, bt, cc, ck, cn, gr, al), c => if isDig c then some (7, fi, la, op, bt, cc, ck, cn + 1, gr, upd al cc.toNatClampNeg (rst (al cc.toNatClampNeg) ck (c - 48) 6)) else none
def gGrp : GS → Int32 → Option GS
  | (_, fi, la, op, bt, cc, ck, cn, _, al), c => if isCC fi la c then some (9, fi, la, op, bt, cc, ck, cn, colOf c, al) else none
def gTake (σ : GS) (c : Int32) : Option GS := match σ.1 with
  | 0 => gCh0 σ c
  | 1 => gCh1 σ c
  | 2 => gFactor σ c
  | 3 => gAfter σ c
  | 4 => gCol σ c
  | 5 => gKind σ c
  | 6 => gDig σ c
  | 7 => gTail σ c
  | 8 => gGrp σ c
  | _ => none
set_option maxRecDepth 100000 in
set_option maxHeartbeats 4000000 in
theorem c_G_isChainColumn {N : Nat} {h : xHp} (σ : GS) (c : Int32) (hN : 94 ≤ N) : XM y_G_isChainColumn b_G_isChainColumn 3 (some .boolean) 1 0 0 [.ref 7, .int c] N (hG h σ) (xR (some (.int (bi (isCC σ.2.1 σ.2.2.1 c)))) (hG h σ)) := by
  have h7 := hG_7 h σ
  refine xM_intro [some (.ref 7), some (.int c), none] (by decide) (fun _ => rfl) (fun _ => Nat.le_of_ble_eq_true rfl) (fun Γ => ?_)
  refine x_iload_n d_G_isChainColumn_0 rfl ?_
  refine x_cSe (c_T_columnOf c) k_G_107 s_T_columnOf d_G_isChainColumn_1 rfl (by omega) (Nat.le_of_ble_eq_true rfl) ?_
  refine x_istore_n d_G_isChainColumn_4 (by decide) rfl ?_
  refine x_iload_n d_G_isChainColumn_5 rfl ?_
  refine x_aload_n d_G_isChainColumn_6 rfl ?_
  refine x_get f_G_36 d_G_isChainColumn_7 (by omega) (by first | assumption | exact vu_s | exact vu_t (by omega) (by first | assumption | exact vu_s | exact vu_t (by omega) (by first | assumption | exact vu_s | exact vu_t (by omega) (by first | assumption | exact vu_s))) | rfl | (simp only [va_up, Nat.reduceEqDiff, ↓reduceIte]; first | rfl | assumption)) rfl ?_
  refine x_icmp_lt 27 d_G_isChainColumn_10 (by decide) (fun c1 => ?_) (fun c1 => ?_)
  · refine x_iconst (v := 0) d_G_isChainColumn_27 (by decide) ?_
    refine x_zret d_G_isChainColumn_28 (by first | rfl | assumption) ?_
    exact ⟨by simp [isCC, bi, Int32.not_le.mpr c1], rfl⟩
  · refine x_iload_n d_G_isChainColumn_13 rfl ?_
    refine x_aload_n d_G_isChainColumn_14 rfl ?_
    refine x_get f_G_40 d_G_isChainColumn_15 (by omega) (by first | assumption | exact vu_s | exact vu_t (by omega) (by first | assumption | exact vu_s | exact vu_t (by omega) (by first | assumption | exact vu_s | exact vu_t (by omega) (by first | assumption | exact vu_s))) | rfl | (simp only [va_up, Nat.reduceEqDiff, ↓reduceIte]; first | rfl | assumption)) rfl ?_
    refine x_iconst (v := 1) d_G_isChainColumn_18 (by decide) ?_
    refine x_iadd d_G_isChainColumn_19 ?_
    refine x_icmp_gt 27 d_G_isChainColumn_20 (by decide) (fun c2 => ?_) (fun c2 => ?_)
    · refine x_iconst (v := 0) d_G_isChainColumn_27 (by decide) ?_
      refine x_zret d_G_isChainColumn_28 (by first | rfl | assumption) ?_
      exact ⟨by simp [isCC, bi, Int32.not_le.mpr c2], rfl⟩
    · refine x_iconst (v := 1) d_G_isChainColumn_23 (by decide) ?_
      refine x_goto 28 d_G_isChainColumn_24 (by decide) ?_
      refine x_zret d_G_isChainColumn_28 (by first | rfl | assumption) ?_
      exact ⟨by simp [isCC, bi, Int32.not_lt.mp c1, Int32.not_lt.mp c2], rfl⟩
set_option maxRecDepth 100000 in
set_option maxHeartbeats 4000000 in
theorem c_G_takeTail {N : Nat} {h : xHp} (σ : GS) (c : Int32) (hN : 94 ≤ N) : XM y_G_takeTail b_G_takeTail 2 (some .boolean) 0 0 0 [.ref 7, .int c] N (hG h σ) (gOut h σ (gTail σ c)) := by
  have h7 := hG_7 h σ
  obtain ⟨s, t⟩ := σ
  refine xM_intro [some (.ref 7), some (.int c)] (by decide) (fun _ => rfl) (fun _ => Nat.le_of_ble_eq_true rfl) (fun Γ => ?_)
  refine x_iload_n d_G_takeTail_0 rfl ?_
  refine x_bipush (v := 63) d_G_takeTail_1 (by decide) ?_
  refine x_icmp_ne 13 d_G_takeTail_3 (by decide) (fun c1 => ?_) (fun c1 => ?_)
  · refine x_iload_n d_G_takeTail_13 rfl ?_
    refine x_bipush (v := 47) d_G_takeTail_14 (by decide) ?_
    refine x_icmp_ne 27 d_G_takeTail_16 (by decide) (fun c2 => ?_) (fun c2 => ?_)
    · refine x_iconst (v := 0) d_G_takeTail_27 (by decide) ?_
      refine x_zret d_G_takeTail_28 (by first | rfl | assumption) ?_
      rw [show gTail (s, t) c = none by simp [gTail, c1, c2]]
      exact ⟨rfl, rfl⟩
    · refine x_aload_n d_G_takeTail_19 rfl ?_
      refine x_bipush (v := 8) d_G_takeTail_20 (by decide) ?_
      refine x_put f_G_49 d_G_takeTail_22 (by omega) (by first | assumption | exact vu_s | exact vu_t (by omega) (by first | assumption | exact vu_s | exact vu_t (by omega) (by first | assumption | exact vu_s | exact vu_t (by omega) (by first | assumption | exact vu_s))) | rfl | (simp only [va_up, Nat.reduceEqDiff, ↓reduceIte]; first | rfl | assumption)) (Nat.le_of_ble_eq_true rfl) (fun _ => ⟨rfl, rfl⟩) ?_
      refine x_iconst (v := 1) d_G_takeTail_25 (by decide) ?_
      refine x_zret d_G_takeTail_26 (by first | rfl | assumption) ?_
      rw [show gTail (s, t) c = some (8, t) by simp [gTail, c1, c2]]
      exact ⟨rfl, hG_put h (s, t) (8, t) rfl⟩
  · refine x_aload_n d_G_takeTail_6 rfl ?_
    refine x_iconst (v := 4) d_G_takeTail_7 (by decide) ?_
    refine x_put f_G_49 d_G_takeTail_8 (by omega) (by first | assumption | exact vu_s | exact vu_t (by omega) (by first | assumption | exact vu_s | exact vu_t (by omega) (by first | assumption | exact vu_s | exact vu_t (by omega) (by first | assumption | exact vu_s))) | rfl | (simp only [va_up, Nat.reduceEqDiff, ↓reduceIte]; first | rfl | assumption)) (Nat.le_of_ble_eq_true rfl) (fun _ => ⟨rfl, rfl⟩) ?_
    refine x_iconst (v := 1) d_G_takeTail_11 (by decide) ?_
    refine x_zret d_G_takeTail_12 (by first | rfl | assumption) ?_
    rw [show gTail (s, t) c = some (4, t) by simp [gTail, c1]]
    exact ⟨rfl, hG_put h (s, t) (4, t) rfl⟩
theorem nI_pos0 {n : Nat} (h : n < 2 ^ 31) : (nI n ≤ 0) ↔ n = 0 := by
  constructor
  · intro q
    rcases Nat.eq_zero_or_pos n with z | z
    · exact z
    · exact absurd q (nI_nle z h)
  · intro q
    subst q
    decide
set_option maxRecDepth 100000 in
set_option maxHeartbeats 4000000 in
theorem c_G_endFactor {N : Nat} {h : xHp} (σ : GS) (hN : 94 ≤ N) (ho : σ.2.2.2.1 ≤ 8) : XM y_G_endFactor b_G_endFactor 1 none 0 0 0 [.ref 7] N (hG h σ) (xR none (hG h (gEnd σ))) := by
  obtain ⟨s, fi, la, op, bt, t⟩ := σ
  refine xM_intro [some (.ref 7)] (by decide) (fun _ => rfl) (fun _ => Nat.le_of_ble_eq_true rfl) (fun Γ => ?_)
  have key : ∀ (n : Nat) (op : Nat) (bt : Int32), op ≤ 8 → op < n → XW Γ y_G_endFactor b_G_endFactor 1 none (0, 0, 0) (xQ Γ (N + 0) 0 0 (xR none (hG h (gEnd (s, fi, la, op, bt, t))))) 0 0 N (hG h (s, fi, la, op, bt, t)) 0 [some (.ref 7)] [] := by
    intro n
    induction n with
    | zero => intro op bt _ h0; omega
    | succ n ih =>
      intro op bt ho hn
      have h7 := hG_7 h (s, fi, la, op, bt, t)
      refine x_aload_n d_G_endFactor_0 rfl ?_
      refine x_get f_G_52 d_G_endFactor_1 (by omega) (by first | assumption | exact vu_s | exact vu_t (by omega) (by first | assumption | exact vu_s | exact vu_t (by omega) (by first | assumption | exact vu_s | exact vu_t (by omega) (by first | assumption | exact vu_s))) | rfl | (simp only [va_up, Nat.reduceEqDiff, ↓reduceIte]; first | rfl | assumption)) rfl ?_
      refine x_if_le 39 d_G_endFactor_4 (by decide) (fun c1 => ?_) (fun c1 => ?_)
      · have e : op = 0 := (nI_pos0 (show op < 2 ^ 31 by omega)).mp c1
        subst e
        refine x_aload_n d_G_endFactor_39 rfl ?_
        refine x_iconst (v := 3) d_G_endFactor_40 (by decide) ?_
        refine x_put f_G_49 d_G_endFactor_41 (by omega) (by first | assumption | exact vu_s | exact vu_t (by omega) (by first | assumption | exact vu_s | exact vu_t (by omega) (by first | assumption | exact vu_s | exact vu_t (by omega) (by first | assumption | exact vu_s))) | rfl | (simp only [va_up, Nat.reduceEqDiff, ↓reduceIte]; first | rfl | assumption)) (Nat.le_of_ble_eq_true rfl) (fun _ => ⟨rfl, rfl⟩) ?_
        refine x_vret d_G_endFactor_44 ?_
        exact ⟨rfl, hG_put h (s, fi, la, 0, bt, t) (3, fi, la, 0, bt, t) rfl⟩
      · obtain ⟨k, rfl⟩ : ∃ k, op = k + 1 := by
          refine ⟨op - 1, ?_⟩
          have : ¬ op = 0 := fun z => c1 ((nI_pos0 (show op < 2 ^ 31 by omega)).mpr z)
          omega
        refine x_aload_n d_G_endFactor_7 rfl ?_
        refine x_get f_G_55 d_G_endFactor_8 (by omega) (by first | assumption | exact vu_s | exact vu_t (by omega) (by first | assumption | exact vu_s | exact vu_t (by omega) (by first | assumption | exact vu_s | exact vu_t (by omega) (by first | assumption | exact vu_s))) | rfl | (simp only [va_up, Nat.reduceEqDiff, ↓reduceIte]; first | rfl | assumption)) rfl ?_
        refine x_iconst (v := 1) d_G_endFactor_11 (by decide) ?_
        refine x_iand d_G_endFactor_12 ?_
        refine x_if_ne 39 d_G_endFactor_13 (by decide) (fun c2 => ?_) (fun c2 => ?_)
        · refine x_aload_n d_G_endFactor_39 rfl ?_
          refine x_iconst (v := 3) d_G_endFactor_40 (by decide) ?_
          refine x_put f_G_49 d_G_endFactor_41 (by omega) (by first | assumption | exact vu_s | exact vu_t (by omega) (by first | assumption | exact vu_s | exact vu_t (by omega) (by first | assumption | exact vu_s | exact vu_t (by omega) (by first | assumption | exact vu_s))) | rfl | (simp only [va_up, Nat.reduceEqDiff, ↓reduceIte]; first | rfl | assumption)) (Nat.le_of_ble_eq_true rfl) (fun _ => ⟨rfl, rfl⟩) ?_
          refine x_vret d_G_endFactor_44 ?_
          have e2 : gEnd (s, fi, la, k + 1, bt, t) = (3, fi, la, k + 1, bt, t) := by simp [gEnd, gend, c2]
          rw [e2]
          exact ⟨rfl, hG_put h (s, fi, la, k + 1, bt, t) (3, fi, la, k + 1, bt, t) rfl⟩
        · have e1 : nI (k + 1) - 1 = nI k := nI_pred k
          refine x_aload_n d_G_endFactor_16 rfl ?_
          refine x_dup d_G_endFactor_17 rfl ?_
          refine x_get f_G_52 d_G_endFactor_18 (by omega) (by first | assumption | exact vu_s | exact vu_t (by omega) (by first | assumption | exact vu_s | exact vu_t (by omega) (by first | assumption | exact vu_s | exact vu_t (by omega) (by first | assumption | exact vu_s))) | rfl | (simp only [va_up, Nat.reduceEqDiff, ↓reduceIte]; first | rfl | assumption)) rfl ?_
          refine x_iconst (v := 1) d_G_endFactor_21 (by decide) ?_
          refine x_isub d_G_endFactor_22 ?_
          rw [e1]
          refine x_put f_G_52 d_G_endFactor_23 (by omega) (by first | assumption | exact vu_s | exact vu_t (by omega) (by first | assumption | exact vu_s | exact vu_t (by omega) (by first | assumption | exact vu_s | exact vu_t (by omega) (by first | assumption | exact vu_s))) | rfl | (simp only [va_up, Nat.reduceEqDiff, ↓reduceIte]; first | rfl | assumption)) (Nat.le_of_ble_eq_true rfl) (fun _ => ⟨rfl, rfl⟩) ?_
          refine x_aload_n d_G_endFactor_26 rfl ?_
          refine x_dup d_G_endFactor_27 rfl ?_
          refine x_get f_G_55 d_G_endFactor_28 (by omega) (by first | assumption | exact vu_s | exact vu_t (by omega) (by first | assumption | exact vu_s | exact vu_t (by omega) (by first | assumption | exact vu_s | exact vu_t (by omega) (by first | assumption | exact vu_s))) | rfl | (simp only [va_up, Nat.reduceEqDiff, ↓reduceIte]; first | rfl | assumption)) rfl ?_
          refine x_iconst (v := 1) d_G_endFactor_31 (by decide) ?_
          refine x_ishr d_G_endFactor_32 ?_
          refine x_put f_G_55 d_G_endFactor_33 (by omega) (by first | assumption | exact vu_s | exact vu_t (by omega) (by first | assumption | exact vu_s | exact vu_t (by omega) (by first | assumption | exact vu_s | exact vu_t (by omega) (by first | assumption | exact vu_s))) | rfl | (simp only [va_up, Nat.reduceEqDiff, ↓reduceIte]; first | rfl | assumption)) (Nat.le_of_ble_eq_true rfl) (fun _ => ⟨rfl, rfl⟩) ?_
          refine x_goto 0 d_G_endFactor_36 (by decide) ?_
          have e2 : gEnd (s, fi, la, k + 1, bt, t) = gEnd (s, fi, la, k, bt >>> ((1 : Int32) &&& 31), t) := by simp [gEnd, gend, c2]
          rw [e2, bx_uu]
          have := ih k (bt >>> ((1 : Int32) &&& 31)) (by omega) (by omega)
          rw [← hG_put h (s, fi, la, k + 1, bt, t) (s, fi, la, k, bt >>> ((1 : Int32) &&& 31), t) rfl] at this
          exact this
  exact key 9 op bt ho (by have : op ≤ 8 := ho; omega)
end
section
/-! Grammar: the steps. -/
set_option maxRecDepth 100000 in
set_option maxHeartbeats 4000000 in
theorem c_G_takeOpening {N : Nat} {h : xHp} (σ : GS) (c : Int32) (hN : 94 ≤ N) (ho : σ.2.2.2.1 ≤ 8) (hc : c = 40 ∨ c = 45) : XM y_G_takeOpening b_G_takeOpening 2 (some .boolean) 0 0 0 [.ref 7, .int c] N (hG h σ) (gOut h σ (gFactor σ c)) := by
  have h7 := hG_7 h σ
  obtain ⟨s, fi, la, op, bt, t⟩ := σ
  refine xM_intro [some (.ref 7), some (.int c)] (by decide) (fun _ => rfl) (fun _ => Nat.le_of_ble_eq_true rfl) (fun Γ => ?_)
  refine x_aload_n d_G_takeOpening_0 rfl ?_
  refine x_get f_G_52 d_G_takeOpening_1 (by omega) (by first | assumption | exact vu_s | exact vu_t (by omega) (by first | assumption | exact vu_s | exact vu_t (by omega) (by first | assumption | exact vu_s | exact vu_t (by omega) (by first | assumption | exact vu_s))) | rfl | (simp only [va_up, Nat.reduceEqDiff, ↓reduceIte]; first | rfl | assumption)) rfl ?_
  refine x_bipush (v := 8) d_G_takeOpening_4 (by decide) ?_
  have ho' : op ≤ 8 := ho
  refine x_icmp_lt 11 d_G_takeOpening_6 (by decide) (fun c1 => ?_) (fun c1 => ?_)
  · have hlt : op < 8 := (nI_ltI (by omega) (by decide)).mp c1
    refine x_aload_n d_G_takeOpening_11 rfl ?_
    refine x_dup d_G_takeOpening_12 rfl ?_
    refine x_get f_G_52 d_G_takeOpening_13 (by omega) (by first | assumption | exact vu_s | exact vu_t (by omega) (by first | assumption | exact vu_s | exact vu_t (by omega) (by first | assumption | exact vu_s | exact vu_t (by omega) (by first | assumption | exact vu_s))) | rfl | (simp only [va_up, Nat.reduceEqDiff, ↓reduceIte]; first | rfl | assumption)) rfl ?_
    refine x_iconst (v := 1) d_G_takeOpening_16 (by decide) ?_
    refine x_iadd d_G_takeOpening_17 ?_
    rw [nI_1]
    refine x_put f_G_52 d_G_takeOpening_18 (by omega) (by first | assumption | exact vu_s | exact vu_t (by omega) (by first | assumption | exact vu_s | exact vu_t (by omega) (by first | assumption | exact vu_s | exact vu_t (by omega) (by first | assumption | exact vu_s))) | rfl | (simp only [va_up, Nat.reduceEqDiff, ↓reduceIte]; first | rfl | assumption)) (Nat.le_of_ble_eq_true rfl) (fun _ => ⟨rfl, rfl⟩) ?_
    refine x_aload_n d_G_takeOpening_21 rfl ?_
    refine x_aload_n d_G_takeOpening_22 rfl ?_
    refine x_get f_G_55 d_G_takeOpening_23 (by omega) (by first | assumption | exact vu_s | exact vu_t (by omega) (by first | assumption | exact vu_s | exact vu_t (by omega) (by first | assumption | exact vu_s | exact vu_t (by omega) (by first | assumption | exact vu_s))) | rfl | (simp only [va_up, Nat.reduceEqDiff, ↓reduceIte]; first | rfl | assumption)) rfl ?_
    refine x_iconst (v := 1) d_G_takeOpening_26 (by decide) ?_
    refine x_ishl d_G_takeOpening_27 ?_
    refine x_iload_n d_G_takeOpening_28 rfl ?_
    refine x_bipush (v := 40) d_G_takeOpening_29 (by decide) ?_
    refine x_icmp_ne 38 d_G_takeOpening_31 (by decide) (fun c2 => ?_) (fun c2 => ?_)
    · refine x_iconst (v := 0) d_G_takeOpening_38 (by decide) ?_
      refine x_ior d_G_takeOpening_39 ?_
      refine x_put f_G_55 d_G_takeOpening_40 (by omega) (by first | assumption | exact vu_s | exact vu_t (by omega) (by first | assumption | exact vu_s | exact vu_t (by omega) (by first | assumption | exact vu_s | exact vu_t (by omega) (by first | assumption | exact vu_s))) | rfl | (simp only [va_up, Nat.reduceEqDiff, ↓reduceIte]; first | rfl | assumption)) (Nat.le_of_ble_eq_true rfl) (fun _ => ⟨rfl, rfl⟩) ?_
      refine x_iconst (v := 1) d_G_takeOpening_43 (by decide) ?_
      refine x_zret d_G_takeOpening_44 (by first | rfl | assumption) ?_
      rw [show gFactor (s, fi, la, op, bt, t) c = some (s, fi, la, op + 1, bt <<< ((1 : Int32) &&& 31) ||| 0, t) by simp only [gFactor, if_pos hc, if_pos hlt, if_neg c2], bx_uu]
      exact ⟨rfl, hG_put h (s, fi, la, op, bt, t) (s, fi, la, op + 1, bt <<< ((1 : Int32) &&& 31) ||| 0, t) rfl⟩
    · refine x_iconst (v := 1) d_G_takeOpening_34 (by decide) ?_
      refine x_goto 39 d_G_takeOpening_35 (by decide) ?_
      refine x_ior d_G_takeOpening_39 ?_
      refine x_put f_G_55 d_G_takeOpening_40 (by omega) (by first | assumption | exact vu_s | exact vu_t (by omega) (by first | assumption | exact vu_s | exact vu_t (by omega) (by first | assumption | exact vu_s | exact vu_t (by omega) (by first | assumption | exact vu_s))) | rfl | (simp only [va_up, Nat.reduceEqDiff, ↓reduceIte]; first | rfl | assumption)) (Nat.le_of_ble_eq_true rfl) (fun _ => ⟨rfl, rfl⟩) ?_
      refine x_iconst (v := 1) d_G_takeOpening_43 (by decide) ?_
      refine x_zret d_G_takeOpening_44 (by first | rfl | assumption) ?_
      rw [show gFactor (s, fi, la, op, bt, t) c = some (s, fi, la, op + 1, bt <<< ((1 : Int32) &&& 31) ||| 1, t) by simp [gFactor, hlt, c2], bx_uu]
      exact ⟨rfl, hG_put h (s, fi, la, op, bt, t) (s, fi, la, op + 1, bt <<< ((1 : Int32) &&& 31) ||| 1, t) rfl⟩
  · have hlt : ¬ op < 8 := fun z => c1 ((nI_ltI (by omega) (by decide)).mpr z)
    refine x_iconst (v := 0) d_G_takeOpening_9 (by decide) ?_
    refine x_zret d_G_takeOpening_10 (by first | rfl | assumption) ?_
    rw [show gFactor (s, fi, la, op, bt, t) c = none by simp [gFactor, hc, hlt]]
    exact ⟨rfl, rfl⟩
set_option maxRecDepth 100000 in
set_option maxHeartbeats 4000000 in
theorem c_G_takeFactor {N : Nat} {h : xHp} (σ : GS) (c : Int32) (hN : 94 ≤ N) (ho : σ.2.2.2.1 ≤ 8) : XM y_G_takeFactor b_G_takeFactor 2 (some .boolean) 2 0 0 [.ref 7, .int c] N (hG h σ) (gOut h σ (gFactor σ c)) := by
  have h7 := hG_7 h σ
  refine xM_intro [some (.ref 7), some (.int c)] (by decide) (fun _ => rfl) (fun _ => Nat.le_of_ble_eq_true rfl) (fun Γ => ?_)
  have op1 : c = 40 ∨ c = 45 → XW Γ y_G_takeFactor b_G_takeFactor 2 (some .boolean) (2, 0, 0) (xQ Γ (N + 0) 0 0 (gOut h σ (gFactor σ c))) 0 0 N (hG h σ) 12 [some (.ref 7), some (.int c)] [] := by
    intro hc
    refine x_aload_n d_G_takeFactor_12 rfl ?_
    refine x_iload_n d_G_takeFactor_13 rfl ?_
    refine x_cV (c_G_takeOpening σ c hN ho hc) k_G_95 v_G_takeOpening d_G_takeFactor_14 rfl (by omega) (by first | assumption | exact vu_s | exact vu_t (by omega) (by first | assumption | exact vu_s | exact vu_t (by omega) (by first | assumption | exact vu_s | exact vu_t (by omega) (by first | assumption | exact vu_s))) | rfl | (simp only [va_up, Nat.reduceEqDiff, ↓reduceIte]; first | rfl | assumption)) rfl (by omega) (Nat.le_of_ble_eq_true rfl) ?_
    intro r h' hq
    cases hg : gFactor σ c with
    | none =>
      rw [hg] at hq
      obtain ⟨rfl, rfl⟩ := hq
      refine x_zret d_G_takeFactor_17 (by first | rfl | assumption) ?_
      exact ⟨rfl, rfl⟩
    | some σ' =>
      rw [hg] at hq
      obtain ⟨rfl, rfl⟩ := hq
      refine x_zret d_G_takeFactor_17 (by first | rfl | assumption) ?_
      exact ⟨rfl, rfl⟩
  have fin : ¬ (c = 40 ∨ c = 45) → (isDig c || isCC σ.2.1 σ.2.2.1 c) = true → XW Γ y_G_takeFactor b_G_takeFactor 2 (some .boolean) (2, 0, 0) (xQ Γ (N + 0) 0 0 (gOut h σ (gFactor σ c))) 0 0 N (hG h σ) 35 [some (.ref 7), some (.int c)] [] := by
    intro h1 h2
    refine x_aload_n d_G_takeFactor_35 rfl ?_
    refine x_cVv (c_G_endFactor σ hN ho) k_G_104 v_G_endFactor d_G_takeFactor_36 rfl (by omega) (by first | assumption | exact vu_s | exact vu_t (by omega) (by first | assumption | exact vu_s | exact vu_t (by omega) (by first | assumption | exact vu_s | exact vu_t (by omega) (by first | assumption | exact vu_s))) | rfl | (simp only [va_up, Nat.reduceEqDiff, ↓reduceIte]; first | rfl | assumption)) rfl (by omega) (Nat.le_of_ble_eq_true rfl) ?_
    refine x_iconst (v := 1) d_G_takeFactor_39 (by decide) ?_
    refine x_zret d_G_takeFactor_40 (by first | rfl | assumption) ?_
    have e : gFactor σ c = some (gEnd σ) := by
      obtain ⟨s, fi, la, op, bt, t⟩ := σ
      simp only [gFactor, if_neg h1]
      exact if_pos h2
    rw [e]
    exact ⟨rfl, rfl⟩
  refine x_iload_n d_G_takeFactor_0 rfl ?_
  refine x_bipush (v := 40) d_G_takeFactor_1 (by decide) ?_
  refine x_icmp_eq 12 d_G_takeFactor_3 (by decide) (fun c1 => ?_) (fun c1 => ?_)
  · exact op1 (Or.inl c1)
  · refine x_iload_n d_G_takeFactor_6 rfl ?_
    refine x_bipush (v := 45) d_G_takeFactor_7 (by decide) ?_
    refine x_icmp_ne 18 d_G_takeFactor_9 (by decide) (fun c2 => ?_) (fun c2 => ?_)
    · refine x_iload_n d_G_takeFactor_18 rfl ?_
      refine x_cSe (c_T_isDigit c) k_G_98 s_T_isDigit d_G_takeFactor_19 rfl (by omega) (Nat.le_of_ble_eq_true rfl) ?_
      refine x_if_ne 35 d_G_takeFactor_22 (by decide) (fun c3 => ?_) (fun c3 => ?_)
      · rw [bi1] at c3
        exact fin (fun z => z.elim c1 c2) (by rw [c3]; rfl)
      · rw [bi0] at c3
        refine x_aload_n d_G_takeFactor_25 rfl ?_
        refine x_iload_n d_G_takeFactor_26 rfl ?_
        refine x_cVe (c_G_isChainColumn σ c hN) k_G_101 v_G_isChainColumn d_G_takeFactor_27 rfl (by omega) (by first | assumption | exact vu_s | exact vu_t (by omega) (by first | assumption | exact vu_s | exact vu_t (by omega) (by first | assumption | exact vu_s | exact vu_t (by omega) (by first | assumption | exact vu_s))) | rfl | (simp only [va_up, Nat.reduceEqDiff, ↓reduceIte]; first | rfl | assumption)) rfl (by omega) (Nat.le_of_ble_eq_true rfl) ?_
        refine x_if_ne 35 d_G_takeFactor_30 (by decide) (fun c4 => ?_) (fun c4 => ?_)
        · rw [bi1] at c4
          exact fin (fun z => z.elim c1 c2) (by rw [c3, c4]; rfl)
        · rw [bi0] at c4
          refine x_iconst (v := 0) d_G_takeFactor_33 (by decide) ?_
          refine x_zret d_G_takeFactor_34 (by first | rfl | assumption) ?_
          have e : gFactor σ c = none := by
            obtain ⟨s, fi, la, op, bt, t⟩ := σ
            have c4' : isCC fi la c = false := c4
            simp [gFactor, c1, c2, c3, c4']
          rw [e]
          exact ⟨rfl, rfl⟩
    · exact op1 (Or.inr c2)
set_option maxRecDepth 100000 in
set_option maxHeartbeats 4000000 in
theorem c_G_takeAfterFactor {N : Nat} {h : xHp} (σ : GS) (c : Int32) (hN : 94 ≤ N) (ho : σ.2.2.2.1 ≤ 8) : XM y_G_takeAfterFactor b_G_takeAfterFactor 2 (some .boolean) 1 0 0 [.ref 7, .int c] N (hG h σ) (gOut h σ (gAfter σ c)) := by
  have h7 := hG_7 h σ
  refine xM_intro [some (.ref 7), some (.int c)] (by decide) (fun _ => rfl) (fun _ => Nat.le_of_ble_eq_true rfl) (fun Γ => ?_)
  have op1 : c = 43 ∨ c = 45 ∨ c = 42 → XW Γ y_G_takeAfterFactor b_G_takeAfterFactor 2 (some .boolean) (1, 0, 0) (xQ Γ (N + 0) 0 0 (gOut h σ (gAfter σ c))) 0 0 N (hG h σ) 18 [some (.ref 7), some (.int c)] [] := by
    intro hc
    obtain ⟨s, fi, la, op, bt, t⟩ := σ
    refine x_aload_n d_G_takeAfterFactor_18 rfl ?_
    refine x_iconst (v := 2) d_G_takeAfterFactor_19 (by decide) ?_
    refine x_put f_G_49 d_G_takeAfterFactor_20 (by omega) (by first | assumption | exact vu_s | exact vu_t (by omega) (by first | assumption | exact vu_s | exact vu_t (by omega) (by first | assumption | exact vu_s | exact vu_t (by omega) (by first | assumption | exact vu_s))) | rfl | (simp only [va_up, Nat.reduceEqDiff, ↓reduceIte]; first | rfl | assumption)) (Nat.le_of_ble_eq_true rfl) (fun _ => ⟨rfl, rfl⟩) ?_
    refine x_iconst (v := 1) d_G_takeAfterFactor_23 (by decide) ?_
    refine x_zret d_G_takeAfterFactor_24 (by first | rfl | assumption) ?_
    rw [show gAfter (s, fi, la, op, bt, t) c = some (2, fi, la, op, bt, t) by simp [gAfter, hc]]
    exact ⟨rfl, hG_put h (s, fi, la, op, bt, t) (2, fi, la, op, bt, t) rfl⟩
  refine x_iload_n d_G_takeAfterFactor_0 rfl ?_
  refine x_bipush (v := 43) d_G_takeAfterFactor_1 (by decide) ?_
  refine x_icmp_eq 18 d_G_takeAfterFactor_3 (by decide) (fun c1 => ?_) (fun c1 => ?_)
  · exact op1 (Or.inl c1)
  · refine x_iload_n d_G_takeAfterFactor_6 rfl ?_
    refine x_bipush (v := 45) d_G_takeAfterFactor_7 (by decide) ?_
    refine x_icmp_eq 18 d_G_takeAfterFactor_9 (by decide) (fun c2 => ?_) (fun c2 => ?_)
    · exact op1 (Or.inr (Or.inl c2))
    · refine x_iload_n d_G_takeAfterFactor_12 rfl ?_
      refine x_bipush (v := 42) d_G_takeAfterFactor_13 (by decide) ?_
      refine x_icmp_ne 25 d_G_takeAfterFactor_15 (by decide) (fun c3 => ?_) (fun c3 => ?_)
      · obtain ⟨s, fi, la, op, bt, t⟩ := σ
        have ho' : op ≤ 8 := ho
        refine x_aload_n d_G_takeAfterFactor_25 rfl ?_
        refine x_get f_G_52 d_G_takeAfterFactor_26 (by omega) (by first | assumption | exact vu_s | exact vu_t (by omega) (by first | assumption | exact vu_s | exact vu_t (by omega) (by first | assumption | exact vu_s | exact vu_t (by omega) (by first | assumption | exact vu_s))) | rfl | (simp only [va_up, Nat.reduceEqDiff, ↓reduceIte]; first | rfl | assumption)) rfl ?_
        refine x_if_ne 38 d_G_takeAfterFactor_29 (by decide) (fun c4 => ?_) (fun c4 => ?_)
        · have hop : ¬ op = 0 := fun z => c4 (by rw [z]; rfl)
          obtain ⟨k, rfl⟩ : ∃ k, op = k + 1 := ⟨op - 1, by omega⟩
          refine x_iload_n d_G_takeAfterFactor_38 rfl ?_
          refine x_bipush (v := 41) d_G_takeAfterFactor_39 (by decide) ?_
          refine x_icmp_eq 46 d_G_takeAfterFactor_41 (by decide) (fun c5 => ?_) (fun c5 => ?_)
          · have e1 : nI (k + 1) - 1 = nI k := nI_pred k
            refine x_aload_n d_G_takeAfterFactor_46 rfl ?_
            refine x_dup d_G_takeAfterFactor_47 rfl ?_
            refine x_get f_G_52 d_G_takeAfterFactor_48 (by omega) (by first | assumption | exact vu_s | exact vu_t (by omega) (by first | assumption | exact vu_s | exact vu_t (by omega) (by first | assumption | exact vu_s | exact vu_t (by omega) (by first | assumption | exact vu_s))) | rfl | (simp only [va_up, Nat.reduceEqDiff, ↓reduceIte]; first | rfl | assumption)) rfl ?_
            refine x_iconst (v := 1) d_G_takeAfterFactor_51 (by decide) ?_
            refine x_isub d_G_takeAfterFactor_52 ?_
            rw [e1]
            refine x_put f_G_52 d_G_takeAfterFactor_53 (by omega) (by first | assumption | exact vu_s | exact vu_t (by omega) (by first | assumption | exact vu_s | exact vu_t (by omega) (by first | assumption | exact vu_s | exact vu_t (by omega) (by first | assumption | exact vu_s))) | rfl | (simp only [va_up, Nat.reduceEqDiff, ↓reduceIte]; first | rfl | assumption)) (Nat.le_of_ble_eq_true rfl) (fun _ => ⟨rfl, rfl⟩) ?_
            refine x_aload_n d_G_takeAfterFactor_56 rfl ?_
            refine x_dup d_G_takeAfterFactor_57 rfl ?_
            refine x_get f_G_55 d_G_takeAfterFactor_58 (by omega) (by first | assumption | exact vu_s | exact vu_t (by omega) (by first | assumption | exact vu_s | exact vu_t (by omega) (by first | assumption | exact vu_s | exact vu_t (by omega) (by first | assumption | exact vu_s))) | rfl | (simp only [va_up, Nat.reduceEqDiff, ↓reduceIte]; first | rfl | assumption)) rfl ?_
            refine x_iconst (v := 1) d_G_takeAfterFactor_61 (by decide) ?_
            refine x_ishr d_G_takeAfterFactor_62 ?_
            refine x_put f_G_55 d_G_takeAfterFactor_63 (by omega) (by first | assumption | exact vu_s | exact vu_t (by omega) (by first | assumption | exact vu_s | exact vu_t (by omega) (by first | assumption | exact vu_s | exact vu_t (by omega) (by first | assumption | exact vu_s))) | rfl | (simp only [va_up, Nat.reduceEqDiff, ↓reduceIte]; first | rfl | assumption)) (Nat.le_of_ble_eq_true rfl) (fun _ => ⟨rfl, rfl⟩) ?_
            refine x_aload_n d_G_takeAfterFactor_66 rfl ?_
            rw [bx_uu]
            have e3 := hG_put h (s, fi, la, k + 1, bt, t) (s, fi, la, k, bt >>> ((1 : Int32) &&& 31), t) rfl
            have h7' := hG_7 h (s, fi, la, k, bt >>> ((1 : Int32) &&& 31), t)
            refine XW_h e3 ?_
            refine x_cVv (c_G_endFactor (s, fi, la, k, bt >>> ((1 : Int32) &&& 31), t) hN (by show k ≤ 8; omega)) k_G_104 v_G_endFactor d_G_takeAfterFactor_67 rfl (by omega) (by first | assumption | exact vu_s | exact vu_t (by omega) (by first | assumption | exact vu_s | exact vu_t (by omega) (by first | assumption | exact vu_s | exact vu_t (by omega) (by first | assumption | exact vu_s))) | rfl | (simp only [va_up, Nat.reduceEqDiff, ↓reduceIte]; first | rfl | assumption)) rfl (by omega) (Nat.le_of_ble_eq_true rfl) ?_
            refine x_iconst (v := 1) d_G_takeAfterFactor_70 (by decide) ?_
            refine x_zret d_G_takeAfterFactor_71 (by first | rfl | assumption) ?_
            rw [show gAfter (s, fi, la, k + 1, bt, t) c = some (gEnd (s, fi, la, k, bt >>> ((1 : Int32) &&& 31), t)) by simp [gAfter, c5]]
            exact ⟨rfl, rfl⟩
          · refine x_iconst (v := 0) d_G_takeAfterFactor_44 (by decide) ?_
            refine x_zret d_G_takeAfterFactor_45 (by first | rfl | assumption) ?_
            rw [show gAfter (s, fi, la, k + 1, bt, t) c = none by simp [gAfter, c1, c2, c3, c5]]
            exact ⟨rfl, rfl⟩
        · have hop : op = 0 := by
            rcases Nat.eq_zero_or_pos op with z | z
            · exact z
            · exact absurd c4 (nI_ne0 z (by omega))
          have e : gAfter (s, fi, la, op, bt, t) c = gTail (s, fi, la, op, bt, t) c := by simp [gAfter, c1, c2, c3, hop]
          rw [e]
          refine x_aload_n d_G_takeAfterFactor_32 rfl ?_
          refine x_iload_n d_G_takeAfterFactor_33 rfl ?_
          refine x_cV (c_G_takeTail (s, fi, la, op, bt, t) c hN) k_G_85 v_G_takeTail d_G_takeAfterFactor_34 rfl (by omega) (by first | assumption | exact vu_s | exact vu_t (by omega) (by first | assumption | exact vu_s | exact vu_t (by omega) (by first | assumption | exact vu_s | exact vu_t (by omega) (by first | assumption | exact vu_s))) | rfl | (simp only [va_up, Nat.reduceEqDiff, ↓reduceIte]; first | rfl | assumption)) rfl (by omega) (Nat.le_of_ble_eq_true rfl) ?_
          intro r h' hq
          cases hg : gTail (s, fi, la, op, bt, t) c with
          | none =>
            rw [hg] at hq
            obtain ⟨rfl, rfl⟩ := hq
            refine x_zret d_G_takeAfterFactor_37 (by first | rfl | assumption) ?_
            exact ⟨rfl, rfl⟩
          | some σ' =>
            rw [hg] at hq
            obtain ⟨rfl, rfl⟩ := hq
            refine x_zret d_G_takeAfterFactor_37 (by first | rfl | assumption) ?_
            exact ⟨rfl, rfl⟩
      · exact op1 (Or.inr (Or.inr c3))
set_option maxRecDepth 100000 in
set_option maxHeartbeats 4000000 in
theorem c_G_takeChainStart {N : Nat} {h : xHp} (σ : GS) (c : Int32) (hN : 94 ≤ N) : XM y_G_takeChainStart b_G_takeChainStart 3 (some .boolean) 1 0 0 [.ref 7, .int c] N (hG h σ) (gOut h σ (gCh0 σ c)) := by
  have h7 := hG_7 h σ
  obtain ⟨s, fi, la, t⟩ := σ
  refine xM_intro [some (.ref 7), some (.int c), none] (by decide) (fun _ => rfl) (fun _ => Nat.le_of_ble_eq_true rfl) (fun Γ => ?_)
  refine x_iload_n d_G_takeChainStart_0 rfl ?_
  refine x_cSe (c_T_relationOf c) k_G_91 s_T_relationOf d_G_takeChainStart_1 rfl (by omega) (Nat.le_of_ble_eq_true rfl) ?_
  refine x_istore_n d_G_takeChainStart_4 (by decide) rfl ?_
  refine x_iload_n d_G_takeChainStart_5 rfl ?_
  refine x_if_ge 11 d_G_takeChainStart_6 (by decide) (fun c1 => ?_) (fun c1 => ?_)
  · refine x_aload_n d_G_takeChainStart_11 rfl ?_
    refine x_iload_n d_G_takeChainStart_12 rfl ?_
    refine x_put f_G_36 d_G_takeChainStart_13 (by omega) (by first | assumption | exact vu_s | exact vu_t (by omega) (by first | assumption | exact vu_s | exact vu_t (by omega) (by first | assumption | exact vu_s | exact vu_t (by omega) (by first | assumption | exact vu_s))) | rfl | (simp only [va_up, Nat.reduceEqDiff, ↓reduceIte]; first | rfl | assumption)) (Nat.le_of_ble_eq_true rfl) (fun _ => ⟨rfl, rfl⟩) ?_
    refine x_aload_n d_G_takeChainStart_16 rfl ?_
    refine x_iload_n d_G_takeChainStart_17 rfl ?_
    refine x_put f_G_40 d_G_takeChainStart_18 (by omega) (by first | assumption | exact vu_s | exact vu_t (by omega) (by first | assumption | exact vu_s | exact vu_t (by omega) (by first | assumption | exact vu_s | exact vu_t (by omega) (by first | assumption | exact vu_s))) | rfl | (simp only [va_up, Nat.reduceEqDiff, ↓reduceIte]; first | rfl | assumption)) (Nat.le_of_ble_eq_true rfl) (fun _ => ⟨rfl, rfl⟩) ?_
    refine x_aload_n d_G_takeChainStart_21 rfl ?_
    refine x_iconst (v := 1) d_G_takeChainStart_22 (by decide) ?_
    refine x_put f_G_49 d_G_takeChainStart_23 (by omega) (by first | assumption | exact vu_s | exact vu_t (by omega) (by first | assumption | exact vu_s | exact vu_t (by omega) (by first | assumption | exact vu_s | exact vu_t (by omega) (by first | assumption | exact vu_s))) | rfl | (simp only [va_up, Nat.reduceEqDiff, ↓reduceIte]; first | rfl | assumption)) (Nat.le_of_ble_eq_true rfl) (fun _ => ⟨rfl, rfl⟩) ?_
    refine x_iconst (v := 1) d_G_takeChainStart_26 (by decide) ?_
    refine x_zret d_G_takeChainStart_27 (by first | rfl | assumption) ?_
    rw [show gCh0 (s, fi, la, t) c = some (1, relOf c, relOf c, t) by simp [gCh0, c1], bx_uu, bx_uu]
    exact ⟨rfl, hG_put h (s, fi, la, t) (1, relOf c, relOf c, t) rfl⟩
  · refine x_iconst (v := 0) d_G_takeChainStart_9 (by decide) ?_
    refine x_zret d_G_takeChainStart_10 (by first | rfl | assumption) ?_
    rw [show gCh0 (s, fi, la, t) c = none by simp only [gCh0, if_neg c1]]
    exact ⟨rfl, rfl⟩
set_option maxRecDepth 100000 in
set_option maxHeartbeats 4000000 in
theorem c_G_takeChainRest {N : Nat} {h : xHp} (σ : GS) (c : Int32) (hN : 94 ≤ N) : XM y_G_takeChainRest b_G_takeChainRest 2 (some .boolean) 1 0 0 [.ref 7, .int c] N (hG h σ) (gOut h σ (gCh1 σ c)) := by
  have h7 := hG_7 h σ
  obtain ⟨s, fi, la, t⟩ := σ
  refine xM_intro [some (.ref 7), some (.int c)] (by decide) (fun _ => rfl) (fun _ => Nat.le_of_ble_eq_true rfl) (fun Γ => ?_)
  refine x_iload_n d_G_takeChainRest_0 rfl ?_
  refine x_bipush (v := 58) d_G_takeChainRest_1 (by decide) ?_
  refine x_icmp_ne 13 d_G_takeChainRest_3 (by decide) (fun c1 => ?_) (fun c1 => ?_)
  · refine x_iload_n d_G_takeChainRest_13 rfl ?_
    refine x_cSe (c_T_relationOf c) k_G_91 s_T_relationOf d_G_takeChainRest_14 rfl (by omega) (Nat.le_of_ble_eq_true rfl) ?_
    refine x_aload_n d_G_takeChainRest_17 rfl ?_
    refine x_get f_G_40 d_G_takeChainRest_18 (by omega) (by first | assumption | exact vu_s | exact vu_t (by omega) (by first | assumption | exact vu_s | exact vu_t (by omega) (by first | assumption | exact vu_s | exact vu_t (by omega) (by first | assumption | exact vu_s))) | rfl | (simp only [va_up, Nat.reduceEqDiff, ↓reduceIte]; first | rfl | assumption)) rfl ?_
    refine x_iconst (v := 1) d_G_takeChainRest_21 (by decide) ?_
    refine x_iadd d_G_takeChainRest_22 ?_
    refine x_icmp_eq 28 d_G_takeChainRest_23 (by decide) (fun c2 => ?_) (fun c2 => ?_)
    · refine x_aload_n d_G_takeChainRest_28 rfl ?_
      refine x_dup d_G_takeChainRest_29 rfl ?_
      refine x_get f_G_40 d_G_takeChainRest_30 (by omega) (by first | assumption | exact vu_s | exact vu_t (by omega) (by first | assumption | exact vu_s | exact vu_t (by omega) (by first | assumption | exact vu_s | exact vu_t (by omega) (by first | assumption | exact vu_s))) | rfl | (simp only [va_up, Nat.reduceEqDiff, ↓reduceIte]; first | rfl | assumption)) rfl ?_
      refine x_iconst (v := 1) d_G_takeChainRest_33 (by decide) ?_
      refine x_iadd d_G_takeChainRest_34 ?_
      refine x_put f_G_40 d_G_takeChainRest_35 (by omega) (by first | assumption | exact vu_s | exact vu_t (by omega) (by first | assumption | exact vu_s | exact vu_t (by omega) (by first | assumption | exact vu_s | exact vu_t (by omega) (by first | assumption | exact vu_s))) | rfl | (simp only [va_up, Nat.reduceEqDiff, ↓reduceIte]; first | rfl | assumption)) (Nat.le_of_ble_eq_true rfl) (fun _ => ⟨rfl, rfl⟩) ?_
      refine x_iconst (v := 1) d_G_takeChainRest_38 (by decide) ?_
      refine x_zret d_G_takeChainRest_39 (by first | rfl | assumption) ?_
      rw [show gCh1 (s, fi, la, t) c = some (s, fi, la + 1, t) by simp [gCh1, c1, c2]]
      exact ⟨rfl, hG_put h (s, fi, la, t) (s, fi, la + 1, t) rfl⟩
    · refine x_iconst (v := 0) d_G_takeChainRest_26 (by decide) ?_
      refine x_zret d_G_takeChainRest_27 (by first | rfl | assumption) ?_
      rw [show gCh1 (s, fi, la, t) c = none by simp [gCh1, c1, c2]]
      exact ⟨rfl, rfl⟩
  · refine x_aload_n d_G_takeChainRest_6 rfl ?_
    refine x_iconst (v := 2) d_G_takeChainRest_7 (by decide) ?_
    refine x_put f_G_49 d_G_takeChainRest_8 (by omega) (by first | assumption | exact vu_s | exact vu_t (by omega) (by first | assumption | exact vu_s | exact vu_t (by omega) (by first | assumption | exact vu_s | exact vu_t (by omega) (by first | assumption | exact vu_s))) | rfl | (simp only [va_up, Nat.reduceEqDiff, ↓reduceIte]; first | rfl | assumption)) (Nat.le_of_ble_eq_true rfl) (fun _ => ⟨rfl, rfl⟩) ?_
    refine x_iconst (v := 1) d_G_takeChainRest_11 (by decide) ?_
    refine x_zret d_G_takeChainRest_12 (by first | rfl | assumption) ?_
    rw [show gCh1 (s, fi, la, t) c = some (2, fi, la, t) by simp [gCh1, c1]]
    exact ⟨rfl, hG_put h (s, fi, la, t) (2, fi, la, t) rfl⟩
set_option maxRecDepth 100000 in
set_option maxHeartbeats 4000000 in
theorem c_G_takeConditionColumn {N : Nat} {h : xHp} (σ : GS) (c : Int32) (hN : 94 ≤ N) : XM y_G_takeConditionColumn b_G_takeConditionColumn 2 (some .boolean) 2 0 0 [.ref 7, .int c] N (hG h σ) (gOut h σ (gCol σ c)) := by
  have h7 := hG_7 h σ
  refine xM_intro [some (.ref 7), some (.int c)] (by decide) (fun _ => rfl) (fun _ => Nat.le_of_ble_eq_true rfl) (fun Γ => ?_)
  refine x_aload_n d_G_takeConditionColumn_0 rfl ?_
  refine x_iload_n d_G_takeConditionColumn_1 rfl ?_
  refine x_cVe (c_G_isChainColumn σ c hN) k_G_101 v_G_isChainColumn d_G_takeConditionColumn_2 rfl (by omega) (by first | assumption | exact vu_s | exact vu_t (by omega) (by first | assumption | exact vu_s | exact vu_t (by omega) (by first | assumption | exact vu_s | exact vu_t (by omega) (by first | assumption | exact vu_s))) | rfl | (simp only [va_up, Nat.reduceEqDiff, ↓reduceIte]; first | rfl | assumption)) rfl (by omega) (Nat.le_of_ble_eq_true rfl) ?_
  obtain ⟨s, fi, la, op, bt, cc, t⟩ := σ
  refine x_if_ne 10 d_G_takeConditionColumn_5 (by decide) (fun c1 => ?_) (fun c1 => ?_)
  · rw [bi1] at c1
    refine x_aload_n d_G_takeConditionColumn_10 rfl ?_
    refine x_iload_n d_G_takeConditionColumn_11 rfl ?_
    refine x_cSe (c_T_columnOf c) k_G_107 s_T_columnOf d_G_takeConditionColumn_12 rfl (by omega) (Nat.le_of_ble_eq_true rfl) ?_
    refine x_put f_G_110 d_G_takeConditionColumn_15 (by omega) (by first | assumption | exact vu_s | exact vu_t (by omega) (by first | assumption | exact vu_s | exact vu_t (by omega) (by first | assumption | exact vu_s | exact vu_t (by omega) (by first | assumption | exact vu_s))) | rfl | (simp only [va_up, Nat.reduceEqDiff, ↓reduceIte]; first | rfl | assumption)) (Nat.le_of_ble_eq_true rfl) (fun _ => ⟨rfl, rfl⟩) ?_
    refine x_aload_n d_G_takeConditionColumn_18 rfl ?_
    refine x_iconst (v := 5) d_G_takeConditionColumn_19 (by decide) ?_
    refine x_put f_G_49 d_G_takeConditionColumn_20 (by omega) (by first | assumption | exact vu_s | exact vu_t (by omega) (by first | assumption | exact vu_s | exact vu_t (by omega) (by first | assumption | exact vu_s | exact vu_t (by omega) (by first | assumption | exact vu_s))) | rfl | (simp only [va_up, Nat.reduceEqDiff, ↓reduceIte]; first | rfl | assumption)) (Nat.le_of_ble_eq_true rfl) (fun _ => ⟨rfl, rfl⟩) ?_
    refine x_iconst (v := 1) d_G_takeConditionColumn_23 (by decide) ?_
    refine x_zret d_G_takeConditionColumn_24 (by first | rfl | assumption) ?_
    rw [show gCol (s, fi, la, op, bt, cc, t) c = some (5, fi, la, op, bt, colOf c, t) from if_pos c1, bx_uu]
    exact ⟨rfl, hG_put h (s, fi, la, op, bt, cc, t) (5, fi, la, op, bt, colOf c, t) rfl⟩
  · rw [bi0] at c1
    refine x_iconst (v := 0) d_G_takeConditionColumn_8 (by decide) ?_
    refine x_zret d_G_takeConditionColumn_9 (by first | rfl | assumption) ?_
    rw [show gCol (s, fi, la, op, bt, cc, t) c = none from if_neg (by rw [show isCC fi la c = false from c1]; decide)]
    exact ⟨rfl, rfl⟩
set_option maxRecDepth 100000 in
set_option maxHeartbeats 4000000 in
theorem c_G_takeConditionKind {N : Nat} {h : xHp} (σ : GS) (c : Int32) (hN : 94 ≤ N) (hn : narrow .char (.int c) = .int c) (hf : fits .char (.int c) = true) : XM y_G_takeConditionKind b_G_takeConditionKind 2 (some .boolean) 0 0 0 [.ref 7, .int c] N (hG h σ) (gOut h σ (gKind σ c)) := by
  have h7 := hG_7 h σ
  obtain ⟨s, fi, la, op, bt, cc, ck, t⟩ := σ
  refine xM_intro [some (.ref 7), some (.int c)] (by decide) (fun _ => rfl) (fun _ => Nat.le_of_ble_eq_true rfl) (fun Γ => ?_)
  have op1 : c = 61 ∨ c = 35 ∨ c = 60 ∨ c = 62 → XW Γ y_G_takeConditionKind b_G_takeConditionKind 2 (some .boolean) (0, 0, 0) (xQ Γ (N + 0) 0 0 (gOut h (s, fi, la, op, bt, cc, ck, t) (gKind (s, fi, la, op, bt, cc, ck, t) c))) 0 0 N (hG h (s, fi, la, op, bt, cc, ck, t)) 26 [some (.ref 7), some (.int c)] [] := by
    intro hc
    refine x_aload_n d_G_takeConditionKind_26 rfl ?_
    refine x_iload_n d_G_takeConditionKind_27 rfl ?_
    refine x_put f_G_113 d_G_takeConditionKind_28 (by omega) h7 (Nat.le_of_ble_eq_true rfl) (fun _ => ⟨hn, hf⟩) ?_
    refine x_aload_n d_G_takeConditionKind_31 rfl ?_
    refine x_bipush (v := 6) d_G_takeConditionKind_32 (by decide) ?_
    refine x_put f_G_49 d_G_takeConditionKind_34 (by omega) (by first | assumption | exact vu_s | exact vu_t (by omega) (by first | assumption | exact vu_s | exact vu_t (by omega) (by first | assumption | exact vu_s | exact vu_t (by omega) (by first | assumption | exact vu_s))) | rfl | (simp only [va_up, Nat.reduceEqDiff, ↓reduceIte]; first | rfl | assumption)) (Nat.le_of_ble_eq_true rfl) (fun _ => ⟨rfl, rfl⟩) ?_
    refine x_iconst (v := 1) d_G_takeConditionKind_37 (by decide) ?_
    refine x_zret d_G_takeConditionKind_38 (by first | rfl | assumption) ?_
    rw [show gKind (s, fi, la, op, bt, cc, ck, t) c = some (6, fi, la, op, bt, cc, c, t) by simp [gKind, hc], bx_uu]
    exact ⟨rfl, hG_put h (s, fi, la, op, bt, cc, ck, t) (6, fi, la, op, bt, cc, c, t) rfl⟩
  refine x_iload_n d_G_takeConditionKind_0 rfl ?_
  refine x_bipush (v := 61) d_G_takeConditionKind_1 (by decide) ?_
  refine x_icmp_eq 26 d_G_takeConditionKind_3 (by decide) (fun c1 => ?_) (fun c1 => ?_)
  · exact op1 (Or.inl c1)
  · refine x_iload_n d_G_takeConditionKind_6 rfl ?_
    refine x_bipush (v := 35) d_G_takeConditionKind_7 (by decide) ?_
    refine x_icmp_eq 26 d_G_takeConditionKind_9 (by decide) (fun c2 => ?_) (fun c2 => ?_)
    · exact op1 (Or.inr (Or.inl c2))
    · refine x_iload_n d_G_takeConditionKind_12 rfl ?_
      refine x_bipush (v := 60) d_G_takeConditionKind_13 (by decide) ?_
      refine x_icmp_eq 26 d_G_takeConditionKind_15 (by decide) (fun c3 => ?_) (fun c3 => ?_)
      · exact op1 (Or.inr (Or.inr (Or.inl c3)))
      · refine x_iload_n d_G_takeConditionKind_18 rfl ?_
        refine x_bipush (v := 62) d_G_takeConditionKind_19 (by decide) ?_
        refine x_icmp_eq 26 d_G_takeConditionKind_21 (by decide) (fun c4 => ?_) (fun c4 => ?_)
        · exact op1 (Or.inr (Or.inr (Or.inr c4)))
        · refine x_iconst (v := 0) d_G_takeConditionKind_24 (by decide) ?_
          refine x_zret d_G_takeConditionKind_25 (by first | rfl | assumption) ?_
          rw [show gKind (s, fi, la, op, bt, cc, ck, t) c = none by simp [gKind, c1, c2, c3, c4]]
          exact ⟨rfl, rfl⟩
set_option maxRecDepth 100000 in
set_option maxHeartbeats 4000000 in
theorem c_G_takeGroupColumn {N : Nat} {h : xHp} (σ : GS) (c : Int32) (hN : 94 ≤ N) : XM y_G_takeGroupColumn b_G_takeGroupColumn 2 (some .boolean) 2 0 0 [.ref 7, .int c] N (hG h σ) (gOut h σ (gGrp σ c)) := by
  have h7 := hG_7 h σ
  refine xM_intro [some (.ref 7), some (.int c)] (by decide) (fun _ => rfl) (fun _ => Nat.le_of_ble_eq_true rfl) (fun Γ => ?_)
  refine x_aload_n d_G_takeGroupColumn_0 rfl ?_
  refine x_iload_n d_G_takeGroupColumn_1 rfl ?_
  refine x_cVe (c_G_isChainColumn σ c hN) k_G_101 v_G_isChainColumn d_G_takeGroupColumn_2 rfl (by omega) (by first | assumption | exact vu_s | exact vu_t (by omega) (by first | assumption | exact vu_s | exact vu_t (by omega) (by first | assumption | exact vu_s | exact vu_t (by omega) (by first | assumption | exact vu_s))) | rfl | (simp only [va_up, Nat.reduceEqDiff, ↓reduceIte]; first | rfl | assumption)) rfl (by omega) (Nat.le_of_ble_eq_true rfl) ?_
  obtain ⟨s, fi, la, op, bt, cc, ck, cn, gr, al⟩ := σ
  refine x_if_ne 10 d_G_takeGroupColumn_5 (by decide) (fun c1 => ?_) (fun c1 => ?_)
  · rw [bi1] at c1
    refine x_aload_n d_G_takeGroupColumn_10 rfl ?_
    refine x_iload_n d_G_takeGroupColumn_11 rfl ?_
    refine x_cSe (c_T_columnOf c) k_G_107 s_T_columnOf d_G_takeGroupColumn_12 rfl (by omega) (Nat.le_of_ble_eq_true rfl) ?_
    refine x_put f_G_46 d_G_takeGroupColumn_15 (by omega) (by first | assumption | exact vu_s | exact vu_t (by omega) (by first | assumption | exact vu_s | exact vu_t (by omega) (by first | assumption | exact vu_s | exact vu_t (by omega) (by first | assumption | exact vu_s))) | rfl | (simp only [va_up, Nat.reduceEqDiff, ↓reduceIte]; first | rfl | assumption)) (Nat.le_of_ble_eq_true rfl) (fun _ => ⟨rfl, rfl⟩) ?_
    refine x_aload_n d_G_takeGroupColumn_18 rfl ?_
    refine x_bipush (v := 9) d_G_takeGroupColumn_19 (by decide) ?_
    refine x_put f_G_49 d_G_takeGroupColumn_21 (by omega) (by first | assumption | exact vu_s | exact vu_t (by omega) (by first | assumption | exact vu_s | exact vu_t (by omega) (by first | assumption | exact vu_s | exact vu_t (by omega) (by first | assumption | exact vu_s))) | rfl | (simp only [va_up, Nat.reduceEqDiff, ↓reduceIte]; first | rfl | assumption)) (Nat.le_of_ble_eq_true rfl) (fun _ => ⟨rfl, rfl⟩) ?_
    refine x_iconst (v := 1) d_G_takeGroupColumn_24 (by decide) ?_
    refine x_zret d_G_takeGroupColumn_25 (by first | rfl | assumption) ?_
    rw [show gGrp (s, fi, la, op, bt, cc, ck, cn, gr, al) c = some (9, fi, la, op, bt, cc, ck, cn, colOf c, al) from if_pos c1, bx_uu]
    exact ⟨rfl, hG_put h (s, fi, la, op, bt, cc, ck, cn, gr, al) (9, fi, la, op, bt, cc, ck, cn, colOf c, al) rfl⟩
  · rw [bi0] at c1
    refine x_iconst (v := 0) d_G_takeGroupColumn_8 (by decide) ?_
    refine x_zret d_G_takeGroupColumn_9 (by first | rfl | assumption) ?_
    rw [show gGrp (s, fi, la, op, bt, cc, ck, cn, gr, al) c = none from if_neg (by rw [show isCC fi la c = false from c1]; decide)]
    exact ⟨rfl, rfl⟩
end
section
/-! Grammar: digits of conditions, take, faultIn. -/
set_option maxRecDepth 100000 in
set_option maxHeartbeats 4000000 in
theorem c_G_meets {N : Nat} {h : xHp} {v : Nat} (kind d : Int32) : XM y_G_meets b_G_meets 3 (some .boolean) 0 0 0 [.int (nI v), .int kind, .int d] N h (xR (some (.int (bi (meetsB v kind d)))) h) := by
  refine xM_intro [some (.int (nI v)), some (.int kind), some (.int d)] (by decide) (fun _ => rfl) (fun _ => Nat.le_of_ble_eq_true rfl) (fun Γ => ?_)
  refine x_iload_n d_G_meets_0 rfl ?_
  by_cases k1 : kind = 35
  · subst k1
    refine x_lookup 47 d_G_meets_1 (by decide) (off := 46) (by decide) (by decide) ?_
    refine x_iload_n d_G_meets_47 rfl ?_
    refine x_iload_n d_G_meets_48 rfl ?_
    refine x_icmp_eq 56 d_G_meets_49 (by decide) (fun c1 => ?_) (fun c1 => ?_)
    · refine x_iconst (v := 0) d_G_meets_56 (by decide) ?_
      refine x_zret d_G_meets_57 (by first | rfl | assumption) ?_
      exact ⟨by simp [meetsB, c1, bi], rfl⟩
    · refine x_iconst (v := 1) d_G_meets_52 (by decide) ?_
      refine x_goto 57 d_G_meets_53 (by decide) ?_
      refine x_zret d_G_meets_57 (by first | rfl | assumption) ?_
      exact ⟨by simp [meetsB, c1, bi], rfl⟩
  · by_cases k2 : kind = 60
    · subst k2
      refine x_lookup 58 d_G_meets_1 (by decide) (off := 57) (by decide) (by decide) ?_
      refine x_iload_n d_G_meets_58 rfl ?_
      refine x_iload_n d_G_meets_59 rfl ?_
      refine x_icmp_ge 67 d_G_meets_60 (by decide) (fun c1 => ?_) (fun c1 => ?_)
      · refine x_iconst (v := 0) d_G_meets_67 (by decide) ?_
        refine x_zret d_G_meets_68 (by first | rfl | assumption) ?_
        exact ⟨by simp [meetsB, Int32.not_lt.mpr c1, bi], rfl⟩
      · refine x_iconst (v := 1) d_G_meets_63 (by decide) ?_
        refine x_goto 68 d_G_meets_64 (by decide) ?_
        refine x_zret d_G_meets_68 (by first | rfl | assumption) ?_
        exact ⟨by simp [meetsB, Int32.not_le.mp c1, bi], rfl⟩
    · by_cases k3 : kind = 61
      · subst k3
        refine x_lookup 36 d_G_meets_1 (by decide) (off := 35) (by decide) (by decide) ?_
        refine x_iload_n d_G_meets_36 rfl ?_
        refine x_iload_n d_G_meets_37 rfl ?_
        refine x_icmp_ne 45 d_G_meets_38 (by decide) (fun c1 => ?_) (fun c1 => ?_)
        · refine x_iconst (v := 0) d_G_meets_45 (by decide) ?_
          refine x_zret d_G_meets_46 (by first | rfl | assumption) ?_
          exact ⟨by simp [meetsB, c1, bi], rfl⟩
        · refine x_iconst (v := 1) d_G_meets_41 (by decide) ?_
          refine x_goto 46 d_G_meets_42 (by decide) ?_
          refine x_zret d_G_meets_46 (by first | rfl | assumption) ?_
          exact ⟨by simp [meetsB, c1, bi], rfl⟩
      · refine x_lookup 69 d_G_meets_1 (by decide) (off := 68) (by show Op.lookupswitch.offset [(35, 46), (60, 57), (61, 35)] 68 kind.toInt = 68; rw [lv_osw (a := 35) k1 (by decide), lv_osw (a := 60) k2 (by decide), lv_osw (a := 61) k3 (by decide)]; rfl) (by decide) ?_
        refine x_iload_n d_G_meets_69 rfl ?_
        refine x_iload_n d_G_meets_70 rfl ?_
        refine x_icmp_le 78 d_G_meets_71 (by decide) (fun c1 => ?_) (fun c1 => ?_)
        · refine x_iconst (v := 0) d_G_meets_78 (by decide) ?_
          refine x_zret d_G_meets_79 (by first | rfl | assumption) ?_
          exact ⟨by simp [meetsB, k1, k2, k3, Int32.not_lt.mpr c1, bi], rfl⟩
        · refine x_iconst (v := 1) d_G_meets_74 (by decide) ?_
          refine x_goto 79 d_G_meets_75 (by decide) ?_
          refine x_zret d_G_meets_79 (by first | rfl | assumption) ?_
          exact ⟨by simp [meetsB, k1, k2, k3, Int32.not_le.mp c1, bi], rfl⟩
theorem upd_e (f : Nat → Int32) (k : Nat) : upd f k (f k) = f := by
  funext j
  by_cases e : j = k
  · subst e
    simp [upd]
  · simp [upd, e]
theorem upd_u (f : Nat → Int32) (k : Nat) (v w : Int32) : upd (upd f k v) k w = upd f k w := by
  funext j
  by_cases e : j = k
  · subst e
    simp [upd]
  · simp [upd, e]
theorem upd_s (f : Nat → Int32) (k : Nat) (v : Int32) : upd f k v k = v := if_pos rfl
set_option maxRecDepth 100000 in
set_option maxHeartbeats 4000000 in
theorem c_G_takeConditionDigit {N : Nat} {h : xHp} (σ : GS) (c : Int32) (hN : 94 ≤ N) (hcc : vp_in σ.2.2.2.2.2.1 4) : XM y_G_takeConditionDigit b_G_takeConditionDigit 3 (some .boolean) 1 0 0 [.ref 7, .int c] N (hG h σ) (gOut h σ (gDig σ c)) := by
  obtain ⟨s, fi, la, op, bt, cc, ck, cn, gr, al⟩ := σ
  refine xM_intro [some (.ref 7), some (.int c), none] (by decide) (fun _ => rfl) (fun _ => Nat.le_of_ble_eq_true rfl) (fun Γ => ?_)
  refine x_iload_n d_G_takeConditionDigit_0 rfl ?_
  refine x_cSe (c_T_isDigit c) k_G_98 s_T_isDigit d_G_takeConditionDigit_1 rfl (by omega) (Nat.le_of_ble_eq_true rfl) ?_
  refine x_if_ne 9 d_G_takeConditionDigit_4 (by decide) (fun c1 => ?_) (fun c1 => ?_)
  · rw [bi1] at c1
    refine x_iconst (v := 0) d_G_takeConditionDigit_9 (by decide) ?_
    refine x_istore_n d_G_takeConditionDigit_10 (by decide) rfl ?_
    have key : ∀ (n v : Nat), v ≤ 6 → 6 - v < n → XW Γ y_G_takeConditionDigit b_G_takeConditionDigit 3 (some .boolean) (1, 0, 0) (xQ Γ (N + 0) 0 0 (gOut h (s, fi, la, op, bt, cc, ck, cn, gr, al) (gDig (s, fi, la, op, bt, cc, ck, cn, gr, al) c))) 0 0 N (hG h (s, fi, la, op, bt, cc, ck, cn, gr, upd al cc.toNatClampNeg (rst (al cc.toNatClampNeg) ck (c - 48) v))) 11 [some (.ref 7), some (.int c), some (.int (nI v))] [] := by
      intro n
      induction n with
      | zero => intro v _ h0; omega
      | succ n ih =>
        intro v hv hvn
        have h7 := hG_7 h (s, fi, la, op, bt, cc, ck, cn, gr, upd al cc.toNatClampNeg (rst (al cc.toNatClampNeg) ck (c - 48) v))
        have h8 := hG_8 h (s, fi, la, op, bt, cc, ck, cn, gr, upd al cc.toNatClampNeg (rst (al cc.toNatClampNeg) ck (c - 48) v))
        refine x_iload_n d_G_takeConditionDigit_11 rfl ?_
        refine x_bipush (v := 6) d_G_takeConditionDigit_12 (by decide) ?_
        refine x_icmp_ge 55 d_G_takeConditionDigit_14 (by decide) (fun c2 => ?_) (fun c2 => ?_)
        · have e := nI_end (n := 6) hv (by decide) c2
          subst e
          refine x_aload_n d_G_takeConditionDigit_55 rfl ?_
          refine x_dup d_G_takeConditionDigit_56 rfl ?_
          refine x_get f_G_43 d_G_takeConditionDigit_57 (by omega) (by first | assumption | exact vu_s | exact vu_t (by omega) (by first | assumption | exact vu_s | exact vu_t (by omega) (by first | assumption | exact vu_s | exact vu_t (by omega) (by first | assumption | exact vu_s))) | rfl | (simp only [va_up, Nat.reduceEqDiff, ↓reduceIte]; first | rfl | assumption)) rfl ?_
          refine x_iconst (v := 1) d_G_takeConditionDigit_60 (by decide) ?_
          refine x_iadd d_G_takeConditionDigit_61 ?_
          refine x_put f_G_43 d_G_takeConditionDigit_62 (by omega) (by first | assumption | exact vu_s | exact vu_t (by omega) (by first | assumption | exact vu_s | exact vu_t (by omega) (by first | assumption | exact vu_s | exact vu_t (by omega) (by first | assumption | exact vu_s))) | rfl | (simp only [va_up, Nat.reduceEqDiff, ↓reduceIte]; first | rfl | assumption)) (Nat.le_of_ble_eq_true rfl) (fun _ => ⟨rfl, rfl⟩) ?_
          refine x_aload_n d_G_takeConditionDigit_65 rfl ?_
          refine x_bipush (v := 7) d_G_takeConditionDigit_66 (by decide) ?_
          refine x_put f_G_49 d_G_takeConditionDigit_68 (by omega) (by first | assumption | exact vu_s | exact vu_t (by omega) (by first | assumption | exact vu_s | exact vu_t (by omega) (by first | assumption | exact vu_s | exact vu_t (by omega) (by first | assumption | exact vu_s))) | rfl | (simp only [va_up, Nat.reduceEqDiff, ↓reduceIte]; first | rfl | assumption)) (Nat.le_of_ble_eq_true rfl) (fun _ => ⟨rfl, rfl⟩) ?_
          refine x_iconst (v := 1) d_G_takeConditionDigit_71 (by decide) ?_
          refine x_zret d_G_takeConditionDigit_72 (by first | rfl | assumption) ?_
          rw [show gDig (s, fi, la, op, bt, cc, ck, cn, gr, al) c = some (7, fi, la, op, bt, cc, ck, cn + 1, gr, upd al cc.toNatClampNeg (rst (al cc.toNatClampNeg) ck (c - 48) 6)) from if_pos c1, bx_uu]
          exact ⟨rfl, hG_put h (s, fi, la, op, bt, cc, ck, cn, gr, upd al cc.toNatClampNeg (rst (al cc.toNatClampNeg) ck (c - 48) 6)) (7, fi, la, op, bt, cc, ck, cn + 1, gr, upd al cc.toNatClampNeg (rst (al cc.toNatClampNeg) ck (c - 48) 6)) rfl⟩
        · have hlt := nI_more (n := 6) hv (by decide) c2
          refine x_iload_n d_G_takeConditionDigit_17 rfl ?_
          refine x_aload_n d_G_takeConditionDigit_18 rfl ?_
          refine x_get f_G_113 d_G_takeConditionDigit_19 (by omega) (by first | assumption | exact vu_s | exact vu_t (by omega) (by first | assumption | exact vu_s | exact vu_t (by omega) (by first | assumption | exact vu_s | exact vu_t (by omega) (by first | assumption | exact vu_s))) | rfl | (simp only [va_up, Nat.reduceEqDiff, ↓reduceIte]; first | rfl | assumption)) rfl ?_
          refine x_iload_n d_G_takeConditionDigit_22 rfl ?_
          refine x_bipush (v := 48) d_G_takeConditionDigit_23 (by decide) ?_
          refine x_isub d_G_takeConditionDigit_25 ?_
          refine x_cSe (c_G_meets ck (c - 48)) k_G_117 s_G_meets d_G_takeConditionDigit_26 rfl (by omega) (Nat.le_of_ble_eq_true rfl) ?_
          refine x_if_ne 49 d_G_takeConditionDigit_29 (by decide) (fun c3 => ?_) (fun c3 => ?_)
          · rw [bi1] at c3
            refine x_iinc1 d_G_takeConditionDigit_49 rfl (by decide) rfl ?_
            refine x_goto 11 d_G_takeConditionDigit_52 (by decide) ?_
            rw [nI_1]
            have := ih (v + 1) (by omega) (by omega)
            rw [show rst (al cc.toNatClampNeg) ck (c - 48) (v + 1) = rst (al cc.toNatClampNeg) ck (c - 48) v by simp [rst, c3]] at this
            exact this
          · rw [bi0] at c3
            refine x_aload_n d_G_takeConditionDigit_32 rfl ?_
            refine x_get f_G_9 d_G_takeConditionDigit_33 (by omega) (by first | assumption | exact vu_s | exact vu_t (by omega) (by first | assumption | exact vu_s | exact vu_t (by omega) (by first | assumption | exact vu_s | exact vu_t (by omega) (by first | assumption | exact vu_s))) | rfl | (simp only [va_up, Nat.reduceEqDiff, ↓reduceIte]; first | rfl | assumption)) rfl ?_
            refine x_aload_n d_G_takeConditionDigit_36 rfl ?_
            refine x_get f_G_110 d_G_takeConditionDigit_37 (by omega) (by first | assumption | exact vu_s | exact vu_t (by omega) (by first | assumption | exact vu_s | exact vu_t (by omega) (by first | assumption | exact vu_s | exact vu_t (by omega) (by first | assumption | exact vu_s))) | rfl | (simp only [va_up, Nat.reduceEqDiff, ↓reduceIte]; first | rfl | assumption)) rfl ?_
            refine x_dup2 d_G_takeConditionDigit_40 rfl rfl ?_
            refine x_iald d_G_takeConditionDigit_41 (by omega) (by first | assumption | exact vu_s | exact vu_t (by omega) (by first | assumption | exact vu_s | exact vu_t (by omega) (by first | assumption | exact vu_s | exact vu_t (by omega) (by first | assumption | exact vu_s))) | rfl | (simp only [va_up, Nat.reduceEqDiff, ↓reduceIte]; first | rfl | assumption)) (by assumption) ?_
            refine x_iconst (v := 1) d_G_takeConditionDigit_42 (by decide) ?_
            refine x_iload_n d_G_takeConditionDigit_43 rfl ?_
            refine x_ishl d_G_takeConditionDigit_44 ?_
            refine x_iconst (v := -1) d_G_takeConditionDigit_45 (by decide) ?_
            refine x_ixor d_G_takeConditionDigit_46 ?_
            refine x_iand d_G_takeConditionDigit_47 ?_
            refine x_iast d_G_takeConditionDigit_48 (by omega) (by first | assumption | exact vu_s | exact vu_t (by omega) (by first | assumption | exact vu_s | exact vu_t (by omega) (by first | assumption | exact vu_s | exact vu_t (by omega) (by first | assumption | exact vu_s))) | rfl | (simp only [va_up, Nat.reduceEqDiff, ↓reduceIte]; first | rfl | assumption)) (by assumption) ?_
            refine x_iinc1 d_G_takeConditionDigit_49 rfl (by decide) rfl ?_
            refine x_goto 11 d_G_takeConditionDigit_52 (by decide) ?_
            rw [nI_1]
            have := ih (v + 1) (by omega) (by omega)
            rw [show rst (al cc.toNatClampNeg) ck (c - 48) (v + 1) = rst (al cc.toNatClampNeg) ck (c - 48) v &&& (((1 : Int32) <<< (nI v &&& 31)) ^^^ (-1)) by simp [rst, c3]] at this
            refine XW_h ?_ this
            simp only [upd_u, upd_s]
            unfold hG
            rw [vu_c _ _ _ (by decide : (8 : Nat) ≠ 7), bx_uu]
    have := key 7 0 (by omega) (by omega)
    rw [show rst (al cc.toNatClampNeg) ck (c - 48) 0 = al cc.toNatClampNeg from rfl, upd_e] at this
    exact this
  · rw [bi0] at c1
    refine x_iconst (v := 0) d_G_takeConditionDigit_7 (by decide) ?_
    refine x_zret d_G_takeConditionDigit_8 (by first | rfl | assumption) ?_
    rw [show gDig (s, fi, la, op, bt, cc, ck, cn, gr, al) c = none from if_neg (by rw [c1]; decide)]
    exact ⟨rfl, rfl⟩
def chOK (c : Int32) : Prop := narrow .char (.int c) = .int c ∧ fits .char (.int c) = true
def gI (σ : GS) : Prop := σ.1 ≤ 9 ∧ σ.2.2.2.1 ≤ 8 ∧ vp_in σ.2.2.2.2.2.1 4 ∧ 0 ≤ σ.2.1
set_option maxRecDepth 100000 in
set_option maxHeartbeats 4000000 in
theorem c_G_take {N : Nat} {h : xHp} (σ : GS) (c : Int32) (hN : 94 ≤ N) (hI : gI σ) (hc : chOK c) : XM y_G_take b_G_take 2 (some .boolean) 3 0 0 [.ref 7, .int c] N (hG h σ) (gOut h σ (gTake σ c)) := by
  have h7 := hG_7 h σ
  obtain ⟨i1, i2, i3, i4⟩ := hI
  refine xM_intro [some (.ref 7), some (.int c)] (by decide) (fun _ => rfl) (fun _ => Nat.le_of_ble_eq_true rfl) (fun Γ => ?_)
  refine x_aload_n d_G_take_0 rfl ?_
  refine x_get f_G_49 d_G_take_1 (by omega) (by first | assumption | exact vu_s | exact vu_t (by omega) (by first | assumption | exact vu_s | exact vu_t (by omega) (by first | assumption | exact vu_s | exact vu_t (by omega) (by first | assumption | exact vu_s))) | rfl | (simp only [va_up, Nat.reduceEqDiff, ↓reduceIte]; first | rfl | assumption)) rfl ?_
  obtain ⟨s, t⟩ := σ
  have i1' : s ≤ 9 := i1
  rcases (show s = 0 ∨ s = 1 ∨ s = 2 ∨ s = 3 ∨ s = 4 ∨ s = 5 ∨ s = 6 ∨ s = 7 ∨ s = 8 ∨ s = 9 by omega) with rfl | rfl | rfl | rfl | rfl | rfl | rfl | rfl | rfl | rfl
  · refine x_tableIn (x := nI 0) 56 d_G_take_4 (by decide) (by decide) (off := 52) (by decide) (by decide) ?_
    refine x_aload_n d_G_take_56 rfl ?_
    refine x_iload_n d_G_take_57 rfl ?_
    refine x_cV (c_G_takeChainStart _ c hN) k_G_64 v_G_takeChainStart d_G_take_58 rfl (by omega) (by first | assumption | exact vu_s | exact vu_t (by omega) (by first | assumption | exact vu_s | exact vu_t (by omega) (by first | assumption | exact vu_s | exact vu_t (by omega) (by first | assumption | exact vu_s))) | rfl | (simp only [va_up, Nat.reduceEqDiff, ↓reduceIte]; first | rfl | assumption)) rfl (by omega) (Nat.le_of_ble_eq_true rfl) ?_
    intro r h' hq
    rw [show gTake (0, t) c = gCh0 (0, t) c from rfl]
    cases hg : gCh0 (0, t) c <;> (rw [hg] at hq; obtain ⟨rfl, rfl⟩ := hq)
    · refine x_zret d_G_take_61 (by first | rfl | assumption) ?_
      exact ⟨rfl, rfl⟩
    · refine x_zret d_G_take_61 (by first | rfl | assumption) ?_
      exact ⟨rfl, rfl⟩
  · refine x_tableIn (x := nI 1) 62 d_G_take_4 (by decide) (by decide) (off := 58) (by decide) (by decide) ?_
    refine x_aload_n d_G_take_62 rfl ?_
    refine x_iload_n d_G_take_63 rfl ?_
    refine x_cV (c_G_takeChainRest _ c hN) k_G_67 v_G_takeChainRest d_G_take_64 rfl (by omega) (by first | assumption | exact vu_s | exact vu_t (by omega) (by first | assumption | exact vu_s | exact vu_t (by omega) (by first | assumption | exact vu_s | exact vu_t (by omega) (by first | assumption | exact vu_s))) | rfl | (simp only [va_up, Nat.reduceEqDiff, ↓reduceIte]; first | rfl | assumption)) rfl (by omega) (Nat.le_of_ble_eq_true rfl) ?_
    intro r h' hq
    rw [show gTake (1, t) c = gCh1 (1, t) c from rfl]
    cases hg : gCh1 (1, t) c <;> (rw [hg] at hq; obtain ⟨rfl, rfl⟩ := hq)
    · refine x_zret d_G_take_67 (by first | rfl | assumption) ?_
      exact ⟨rfl, rfl⟩
    · refine x_zret d_G_take_67 (by first | rfl | assumption) ?_
      exact ⟨rfl, rfl⟩
  · refine x_tableIn (x := nI 2) 68 d_G_take_4 (by decide) (by decide) (off := 64) (by decide) (by decide) ?_
    refine x_aload_n d_G_take_68 rfl ?_
    refine x_iload_n d_G_take_69 rfl ?_
    refine x_cV (c_G_takeFactor _ c hN i2) k_G_70 v_G_takeFactor d_G_take_70 rfl (by omega) (by first | assumption | exact vu_s | exact vu_t (by omega) (by first | assumption | exact vu_s | exact vu_t (by omega) (by first | assumption | exact vu_s | exact vu_t (by omega) (by first | assumption | exact vu_s))) | rfl | (simp only [va_up, Nat.reduceEqDiff, ↓reduceIte]; first | rfl | assumption)) rfl (by omega) (Nat.le_of_ble_eq_true rfl) ?_
    intro r h' hq
    rw [show gTake (2, t) c = gFactor (2, t) c from rfl]
    cases hg : gFactor (2, t) c <;> (rw [hg] at hq; obtain ⟨rfl, rfl⟩ := hq)
    · refine x_zret d_G_take_73 (by first | rfl | assumption) ?_
      exact ⟨rfl, rfl⟩
    · refine x_zret d_G_take_73 (by first | rfl | assumption) ?_
      exact ⟨rfl, rfl⟩
  · refine x_tableIn (x := nI 3) 74 d_G_take_4 (by decide) (by decide) (off := 70) (by decide) (by decide) ?_
    refine x_aload_n d_G_take_74 rfl ?_
    refine x_iload_n d_G_take_75 rfl ?_
    refine x_cV (c_G_takeAfterFactor _ c hN i2) k_G_73 v_G_takeAfterFactor d_G_take_76 rfl (by omega) (by first | assumption | exact vu_s | exact vu_t (by omega) (by first | assumption | exact vu_s | exact vu_t (by omega) (by first | assumption | exact vu_s | exact vu_t (by omega) (by first | assumption | exact vu_s))) | rfl | (simp only [va_up, Nat.reduceEqDiff, ↓reduceIte]; first | rfl | assumption)) rfl (by omega) (Nat.le_of_ble_eq_true rfl) ?_
    intro r h' hq
    rw [show gTake (3, t) c = gAfter (3, t) c from rfl]
    cases hg : gAfter (3, t) c <;> (rw [hg] at hq; obtain ⟨rfl, rfl⟩ := hq)
    · refine x_zret d_G_take_79 (by first | rfl | assumption) ?_
      exact ⟨rfl, rfl⟩
    · refine x_zret d_G_take_79 (by first | rfl | assumption) ?_
      exact ⟨rfl, rfl⟩
  · refine x_tableIn (x := nI 4) 80 d_G_take_4 (by decide) (by decide) (off := 76) (by decide) (by decide) ?_
    refine x_aload_n d_G_take_80 rfl ?_
    refine x_iload_n d_G_take_81 rfl ?_
    refine x_cV (c_G_takeConditionColumn _ c hN) k_G_76 v_G_takeConditionColumn d_G_take_82 rfl (by omega) (by first | assumption | exact vu_s | exact vu_t (by omega) (by first | assumption | exact vu_s | exact vu_t (by omega) (by first | assumption | exact vu_s | exact vu_t (by omega) (by first | assumption | exact vu_s))) | rfl | (simp only [va_up, Nat.reduceEqDiff, ↓reduceIte]; first | rfl | assumption)) rfl (by omega) (Nat.le_of_ble_eq_true rfl) ?_
    intro r h' hq
    rw [show gTake (4, t) c = gCol (4, t) c from rfl]
    cases hg : gCol (4, t) c <;> (rw [hg] at hq; obtain ⟨rfl, rfl⟩ := hq)
    · refine x_zret d_G_take_85 (by first | rfl | assumption) ?_
      exact ⟨rfl, rfl⟩
    · refine x_zret d_G_take_85 (by first | rfl | assumption) ?_
      exact ⟨rfl, rfl⟩
  · refine x_tableIn (x := nI 5) 86 d_G_take_4 (by decide) (by decide) (off := 82) (by decide) (by decide) ?_
    refine x_aload_n d_G_take_86 rfl ?_
    refine x_iload_n d_G_take_87 rfl ?_
    refine x_cV (c_G_takeConditionKind _ c hN hc.1 hc.2) k_G_79 v_G_takeConditionKind d_G_take_88 rfl (by omega) (by first | assumption | exact vu_s | exact vu_t (by omega) (by first | assumption | exact vu_s | exact vu_t (by omega) (by first | assumption | exact vu_s | exact vu_t (by omega) (by first | assumption | exact vu_s))) | rfl | (simp only [va_up, Nat.reduceEqDiff, ↓reduceIte]; first | rfl | assumption)) rfl (by omega) (Nat.le_of_ble_eq_true rfl) ?_
    intro r h' hq
    rw [show gTake (5, t) c = gKind (5, t) c from rfl]
    cases hg : gKind (5, t) c <;> (rw [hg] at hq; obtain ⟨rfl, rfl⟩ := hq)
    · refine x_zret d_G_take_91 (by first | rfl | assumption) ?_
      exact ⟨rfl, rfl⟩
    · refine x_zret d_G_take_91 (by first | rfl | assumption) ?_
      exact ⟨rfl, rfl⟩
  · refine x_tableIn (x := nI 6) 92 d_G_take_4 (by decide) (by decide) (off := 88) (by decide) (by decide) ?_
    refine x_aload_n d_G_take_92 rfl ?_
    refine x_iload_n d_G_take_93 rfl ?_
    refine x_cV (c_G_takeConditionDigit _ c hN i3) k_G_82 v_G_takeConditionDigit d_G_take_94 rfl (by omega) (by first | assumption | exact vu_s | exact vu_t (by omega) (by first | assumption | exact vu_s | exact vu_t (by omega) (by first | assumption | exact vu_s | exact vu_t (by omega) (by first | assumption | exact vu_s))) | rfl | (simp only [va_up, Nat.reduceEqDiff, ↓reduceIte]; first | rfl | assumption)) rfl (by omega) (Nat.le_of_ble_eq_true rfl) ?_
    intro r h' hq
    rw [show gTake (6, t) c = gDig (6, t) c from rfl]
    cases hg : gDig (6, t) c <;> (rw [hg] at hq; obtain ⟨rfl, rfl⟩ := hq)
    · refine x_zret d_G_take_97 (by first | rfl | assumption) ?_
      exact ⟨rfl, rfl⟩
    · refine x_zret d_G_take_97 (by first | rfl | assumption) ?_
      exact ⟨rfl, rfl⟩
  · refine x_tableIn (x := nI 7) 98 d_G_take_4 (by decide) (by decide) (off := 94) (by decide) (by decide) ?_
    refine x_aload_n d_G_take_98 rfl ?_
    refine x_iload_n d_G_take_99 rfl ?_
    refine x_cV (c_G_takeTail _ c hN) k_G_85 v_G_takeTail d_G_take_100 rfl (by omega) (by first | assumption | exact vu_s | exact vu_t (by omega) (by first | assumption | exact vu_s | exact vu_t (by omega) (by first | assumption | exact vu_s | exact vu_t (by omega) (by first | assumption | exact vu_s))) | rfl | (simp only [va_up, Nat.reduceEqDiff, ↓reduceIte]; first | rfl | assumption)) rfl (by omega) (Nat.le_of_ble_eq_true rfl) ?_
    intro r h' hq
    rw [show gTake (7, t) c = gTail (7, t) c from rfl]
    cases hg : gTail (7, t) c <;> (rw [hg] at hq; obtain ⟨rfl, rfl⟩ := hq)
    · refine x_zret d_G_take_103 (by first | rfl | assumption) ?_
      exact ⟨rfl, rfl⟩
    · refine x_zret d_G_take_103 (by first | rfl | assumption) ?_
      exact ⟨rfl, rfl⟩
  · refine x_tableIn (x := nI 8) 104 d_G_take_4 (by decide) (by decide) (off := 100) (by decide) (by decide) ?_
    refine x_aload_n d_G_take_104 rfl ?_
    refine x_iload_n d_G_take_105 rfl ?_
    refine x_cV (c_G_takeGroupColumn _ c hN) k_G_88 v_G_takeGroupColumn d_G_take_106 rfl (by omega) (by first | assumption | exact vu_s | exact vu_t (by omega) (by first | assumption | exact vu_s | exact vu_t (by omega) (by first | assumption | exact vu_s | exact vu_t (by omega) (by first | assumption | exact vu_s))) | rfl | (simp only [va_up, Nat.reduceEqDiff, ↓reduceIte]; first | rfl | assumption)) rfl (by omega) (Nat.le_of_ble_eq_true rfl) ?_
    intro r h' hq
    rw [show gTake (8, t) c = gGrp (8, t) c from rfl]
    cases hg : gGrp (8, t) c <;> (rw [hg] at hq; obtain ⟨rfl, rfl⟩ := hq)
    · refine x_zret d_G_take_109 (by first | rfl | assumption) ?_
      exact ⟨rfl, rfl⟩
    · refine x_zret d_G_take_109 (by first | rfl | assumption) ?_
      exact ⟨rfl, rfl⟩
  · refine x_tableOut (x := nI 9) 110 d_G_take_4 (by decide) (by decide) ?_
    refine x_iconst (v := 0) d_G_take_110 (by decide) ?_
    refine x_zret d_G_take_111 (by first | rfl | assumption) ?_
    exact ⟨rfl, rfl⟩
end
section
/-! Grammar: restart, isWhole, faultIn, what it keeps. -/
def g0 (σ : GS) : GS := (0, 0, 0, 0, 0, σ.2.2.2.2.2.1, σ.2.2.2.2.2.2.1, 0, -2, filF σ.2.2.2.2.2.2.2.2.2 63 4)
set_option maxRecDepth 100000 in
set_option maxHeartbeats 4000000 in
theorem c_G_restart {N : Nat} {h : xHp} (σ : GS) (hN : 94 ≤ N) : XM y_G_restart b_G_restart 1 none 1 0 0 [.ref 7] N (hG h σ) (xR none (hG h (g0 σ))) := by
  have h7 := hG_7 h σ
  have h8 := hG_8 h σ
  obtain ⟨s, fi, la, op, bt, cc, ck, cn, gr, al⟩ := σ
  refine xM_intro [some (.ref 7)] (by decide) (fun _ => rfl) (fun _ => Nat.le_of_ble_eq_true rfl) (fun Γ => ?_)
  refine x_aload_n d_G_restart_0 rfl ?_
  refine x_iconst (v := 0) d_G_restart_1 (by decide) ?_
  refine x_put f_G_49 d_G_restart_2 (by omega) (by first | assumption | exact vu_s | exact vu_t (by omega) (by first | assumption | exact vu_s | exact vu_t (by omega) (by first | assumption | exact vu_s | exact vu_t (by omega) (by first | assumption | exact vu_s))) | rfl | (simp only [va_up, Nat.reduceEqDiff, ↓reduceIte]; first | rfl | assumption)) (Nat.le_of_ble_eq_true rfl) (fun _ => ⟨rfl, rfl⟩) ?_
  refine x_aload_n d_G_restart_5 rfl ?_
  refine x_iconst (v := 0) d_G_restart_6 (by decide) ?_
  refine x_put f_G_36 d_G_restart_7 (by omega) (by first | assumption | exact vu_s | exact vu_t (by omega) (by first | assumption | exact vu_s | exact vu_t (by omega) (by first | assumption | exact vu_s | exact vu_t (by omega) (by first | assumption | exact vu_s))) | rfl | (simp only [va_up, Nat.reduceEqDiff, ↓reduceIte]; first | rfl | assumption)) (Nat.le_of_ble_eq_true rfl) (fun _ => ⟨rfl, rfl⟩) ?_
  refine x_aload_n d_G_restart_10 rfl ?_
  refine x_iconst (v := 0) d_G_restart_11 (by decide) ?_
  refine x_put f_G_40 d_G_restart_12 (by omega) (by first | assumption | exact vu_s | exact vu_t (by omega) (by first | assumption | exact vu_s | exact vu_t (by omega) (by first | assumption | exact vu_s | exact vu_t (by omega) (by first | assumption | exact vu_s))) | rfl | (simp only [va_up, Nat.reduceEqDiff, ↓reduceIte]; first | rfl | assumption)) (Nat.le_of_ble_eq_true rfl) (fun _ => ⟨rfl, rfl⟩) ?_
  refine x_aload_n d_G_restart_15 rfl ?_
  refine x_iconst (v := 0) d_G_restart_16 (by decide) ?_
  refine x_put f_G_52 d_G_restart_17 (by omega) (by first | assumption | exact vu_s | exact vu_t (by omega) (by first | assumption | exact vu_s | exact vu_t (by omega) (by first | assumption | exact vu_s | exact vu_t (by omega) (by first | assumption | exact vu_s))) | rfl | (simp only [va_up, Nat.reduceEqDiff, ↓reduceIte]; first | rfl | assumption)) (Nat.le_of_ble_eq_true rfl) (fun _ => ⟨rfl, rfl⟩) ?_
  refine x_aload_n d_G_restart_20 rfl ?_
  refine x_iconst (v := 0) d_G_restart_21 (by decide) ?_
  refine x_put f_G_55 d_G_restart_22 (by omega) (by first | assumption | exact vu_s | exact vu_t (by omega) (by first | assumption | exact vu_s | exact vu_t (by omega) (by first | assumption | exact vu_s | exact vu_t (by omega) (by first | assumption | exact vu_s))) | rfl | (simp only [va_up, Nat.reduceEqDiff, ↓reduceIte]; first | rfl | assumption)) (Nat.le_of_ble_eq_true rfl) (fun _ => ⟨rfl, rfl⟩) ?_
  refine x_aload_n d_G_restart_25 rfl ?_
  refine x_iconst (v := 0) d_G_restart_26 (by decide) ?_
  refine x_put f_G_43 d_G_restart_27 (by omega) (by first | assumption | exact vu_s | exact vu_t (by omega) (by first | assumption | exact vu_s | exact vu_t (by omega) (by first | assumption | exact vu_s | exact vu_t (by omega) (by first | assumption | exact vu_s))) | rfl | (simp only [va_up, Nat.reduceEqDiff, ↓reduceIte]; first | rfl | assumption)) (Nat.le_of_ble_eq_true rfl) (fun _ => ⟨rfl, rfl⟩) ?_
  refine x_aload_n d_G_restart_30 rfl ?_
  refine x_get f_G_9 d_G_restart_31 (by omega) (by first | assumption | exact vu_s | exact vu_t (by omega) (by first | assumption | exact vu_s | exact vu_t (by omega) (by first | assumption | exact vu_s | exact vu_t (by omega) (by first | assumption | exact vu_s))) | rfl | (simp only [va_up, Nat.reduceEqDiff, ↓reduceIte]; first | rfl | assumption)) rfl ?_
  refine x_bipush (v := 63) d_G_restart_34 (by decide) ?_
  rw [bx_uu, bx_uu, bx_uu, bx_uu, bx_uu]
  refine x_cSv (c_A_fill 63 (by omega) (by decide) (vu_t (by decide) h8)) k_G_58 s_A_fill d_G_restart_36 rfl (by omega) (Nat.le_of_ble_eq_true rfl) ?_
  refine x_aload_n d_G_restart_39 rfl ?_
  refine x_bipush (v := -2) d_G_restart_40 (by decide) ?_
  refine x_put f_G_46 d_G_restart_42 (by omega) (by first | assumption | exact vu_s | exact vu_t (by omega) (by first | assumption | exact vu_s | exact vu_t (by omega) (by first | assumption | exact vu_s | exact vu_t (by omega) (by first | assumption | exact vu_s))) | rfl | (simp only [va_up, Nat.reduceEqDiff, ↓reduceIte]; first | rfl | assumption)) (Nat.le_of_ble_eq_true rfl) (fun _ => ⟨rfl, rfl⟩) ?_
  refine x_vret d_G_restart_45 ?_
  refine ⟨rfl, ?_⟩
  unfold hG
  rw [bx_uu, vu_c _ _ _ (by decide : (8 : Nat) ≠ 7), bx_uu, bx_uu]
  rfl
def gW (σ : GS) : Bool := decide (σ.1 = 3 ∧ σ.2.2.2.1 = 0) || (decide (σ.1 = 7) || decide (σ.1 = 9))
theorem nI_inj {a b : Nat} (ha : a < 2 ^ 31) (hb : b < 2 ^ 31) : nI a = nI b ↔ a = b := nI_eq ha hb
set_option maxRecDepth 100000 in
set_option maxHeartbeats 4000000 in
theorem c_G_isWhole {N : Nat} {h : xHp} (σ : GS) (hN : 94 ≤ N) (hI : gI σ) : XM y_G_isWhole b_G_isWhole 1 (some .boolean) 0 0 0 [.ref 7] N (hG h σ) (xR (some (.int (bi (gW σ)))) (hG h σ)) := by
  have h7 := hG_7 h σ
  obtain ⟨i1, i2, -⟩ := hI
  obtain ⟨s, fi, la, op, bt, t⟩ := σ
  have i1' : s ≤ 9 := i1
  have i2' : op ≤ 8 := i2
  refine xM_intro [some (.ref 7)] (by decide) (fun _ => rfl) (fun _ => Nat.le_of_ble_eq_true rfl) (fun Γ => ?_)
  have yes : gW (s, fi, la, op, bt, t) = true → XW Γ y_G_isWhole b_G_isWhole 1 (some .boolean) (0, 0, 0) (xQ Γ (N + 0) 0 0 (xR (some (.int (bi (gW (s, fi, la, op, bt, t))))) (hG h (s, fi, la, op, bt, t)))) 0 0 N (hG h (s, fi, la, op, bt, t)) 33 [some (.ref 7)] [] := by
    intro e
    rw [e]
    refine x_iconst (v := 1) d_G_isWhole_33 (by decide) ?_
    refine x_goto 38 d_G_isWhole_34 (by decide) ?_
    refine x_zret d_G_isWhole_38 (by first | rfl | assumption) ?_
    exact ⟨rfl, rfl⟩
  have rest : ¬ (s = 3 ∧ op = 0) → XW Γ y_G_isWhole b_G_isWhole 1 (some .boolean) (0, 0, 0) (xQ Γ (N + 0) 0 0 (xR (some (.int (bi (gW (s, fi, la, op, bt, t))))) (hG h (s, fi, la, op, bt, t)))) 0 0 N (hG h (s, fi, la, op, bt, t)) 15 [some (.ref 7)] [] := by
    intro e
    refine x_aload_n d_G_isWhole_15 rfl ?_
    refine x_get f_G_49 d_G_isWhole_16 (by omega) (by first | assumption | exact vu_s | exact vu_t (by omega) (by first | assumption | exact vu_s | exact vu_t (by omega) (by first | assumption | exact vu_s | exact vu_t (by omega) (by first | assumption | exact vu_s))) | rfl | (simp only [va_up, Nat.reduceEqDiff, ↓reduceIte]; first | rfl | assumption)) rfl ?_
    refine x_bipush (v := 7) d_G_isWhole_19 (by decide) ?_
    refine x_icmp_eq 33 d_G_isWhole_21 (by decide) (fun c1 => ?_) (fun c1 => ?_)
    · exact yes (by have := (nI_inj (b := 7) (show s < 2 ^ 31 by omega) (by decide)).mp c1; simp [gW, this])
    · have d1 : ¬ s = 7 := fun z => c1 (by rw [z]; rfl)
      refine x_aload_n d_G_isWhole_24 rfl ?_
      refine x_get f_G_49 d_G_isWhole_25 (by omega) (by first | assumption | exact vu_s | exact vu_t (by omega) (by first | assumption | exact vu_s | exact vu_t (by omega) (by first | assumption | exact vu_s | exact vu_t (by omega) (by first | assumption | exact vu_s))) | rfl | (simp only [va_up, Nat.reduceEqDiff, ↓reduceIte]; first | rfl | assumption)) rfl ?_
      refine x_bipush (v := 9) d_G_isWhole_28 (by decide) ?_
      refine x_icmp_ne 37 d_G_isWhole_30 (by decide) (fun c2 => ?_) (fun c2 => ?_)
      · have d2 : ¬ s = 9 := fun z => c2 (by rw [z]; rfl)
        refine x_iconst (v := 0) d_G_isWhole_37 (by decide) ?_
        refine x_zret d_G_isWhole_38 (by first | rfl | assumption) ?_
        have e3 : gW (s, fi, la, op, bt, t) = false := by
          simp only [gW, d1, d2, decide_false, Bool.or_false]
          exact decide_eq_false e
        rw [e3]
        exact ⟨rfl, rfl⟩
      · exact yes (by have := (nI_inj (b := 9) (show s < 2 ^ 31 by omega) (by decide)).mp c2; simp [gW, this])
  refine x_aload_n d_G_isWhole_0 rfl ?_
  refine x_get f_G_49 d_G_isWhole_1 (by omega) (by first | assumption | exact vu_s | exact vu_t (by omega) (by first | assumption | exact vu_s | exact vu_t (by omega) (by first | assumption | exact vu_s | exact vu_t (by omega) (by first | assumption | exact vu_s))) | rfl | (simp only [va_up, Nat.reduceEqDiff, ↓reduceIte]; first | rfl | assumption)) rfl ?_
  refine x_iconst (v := 3) d_G_isWhole_4 (by decide) ?_
  refine x_icmp_ne 15 d_G_isWhole_5 (by decide) (fun c1 => ?_) (fun c1 => ?_)
  · exact rest (fun z => c1 (by rw [z.1]; rfl))
  · refine x_aload_n d_G_isWhole_8 rfl ?_
    refine x_get f_G_52 d_G_isWhole_9 (by omega) (by first | assumption | exact vu_s | exact vu_t (by omega) (by first | assumption | exact vu_s | exact vu_t (by omega) (by first | assumption | exact vu_s | exact vu_t (by omega) (by first | assumption | exact vu_s))) | rfl | (simp only [va_up, Nat.reduceEqDiff, ↓reduceIte]; first | rfl | assumption)) rfl ?_
    have e3 := (nI_inj (b := 3) (show s < 2 ^ 31 by omega) (by decide)).mp c1
    refine x_if_eq 33 d_G_isWhole_12 (by decide) (fun c2 => ?_) (fun c2 => ?_)
    · have e4 := (nI_inj (b := 0) (show op < 2 ^ 31 by omega) (by decide)).mp c2
      exact yes (by simp [gW, e3, e4])
    · exact rest (fun z => c2 (by rw [z.2]; rfl))
theorem colOf_in {fi la c : Int32} (h0 : 0 ≤ fi) (h : isCC fi la c = true) : vp_in (colOf c) 4 ∧ 0 ≤ colOf c := by
  have h1 : fi ≤ colOf c := by
    simp only [isCC, Bool.and_eq_true, decide_eq_true_eq] at h
    exact h.1
  have h2 : 0 ≤ colOf c := Int32.le_trans h0 h1
  refine ⟨?_, h2⟩
  unfold colOf at h2 ⊢
  by_cases e : 65 ≤ c ∧ c ≤ 68
  · rw [if_pos e]
    have a1 := Int32.le_iff_toInt_le.mp e.1
    have a2 := Int32.le_iff_toInt_le.mp e.2
    refine vp_in_iff.mpr ?_
    have a3 : (c - 65).toInt = c.toInt - 65 := by
      have b1 : (65 : Int32).toInt = 65 := rfl
      have b2 : (68 : Int32).toInt = 68 := rfl
      rw [Int32.toInt_sub, b1]
      apply Int.bmod_eq_of_le
      · omega
      · omega
    have b1 : (65 : Int32).toInt = 65 := rfl
    have b2 : (68 : Int32).toInt = 68 := rfl
    omega
  · rw [if_neg e] at h2
    exact absurd h2 (by decide)
end
section
/-! Grammar: faultIn. -/
theorem gend_le : ∀ (n : Nat) (b : Int32), (gend n b).1 ≤ n
  | 0, b => Nat.le_refl _
  | n + 1, b => by
    unfold gend
    split
    · exact Nat.le_succ_of_le (gend_le n _)
    · exact Nat.le_refl _
theorem relOf_ge {c : Int32} (h : 0 ≤ relOf c) : 0 ≤ relOf c := h
theorem gTake_I {σ σ' : GS} {c : Int32} (hI : gI σ) (h : gTake σ c = some σ') : gI σ' := by
  obtain ⟨i1, i2, i3, i4⟩ := hI
  obtain ⟨s, fi, la, op, bt, cc, ck, cn, gr, al⟩ := σ
  have i1' : s ≤ 9 := i1
  have i2' : op ≤ 8 := i2
  have tail : ∀ {τ : GS}, gTail (s, fi, la, op, bt, cc, ck, cn, gr, al) c = some τ → gI τ := by
    intro τ h
    unfold gTail at h
    dsimp only at h
    split at h
    · cases h
      exact ⟨by show 4 ≤ 9; decide, i2, i3, i4⟩
    · split at h
      · cases h
        exact ⟨by show 8 ≤ 9; decide, i2, i3, i4⟩
      · cases h
  rcases (show s = 0 ∨ s = 1 ∨ s = 2 ∨ s = 3 ∨ s = 4 ∨ s = 5 ∨ s = 6 ∨ s = 7 ∨ s = 8 ∨ s = 9 by omega) with rfl | rfl | rfl | rfl | rfl | rfl | rfl | rfl | rfl | rfl
  · have h : gCh0 (0, fi, la, op, bt, cc, ck, cn, gr, al) c = some σ' := h
    unfold gCh0 at h
    dsimp only at h
    split at h
    · rename_i e
      cases h
      exact ⟨by show 1 ≤ 9; decide, i2, i3, e⟩
    · cases h
  · have h : gCh1 (1, fi, la, op, bt, cc, ck, cn, gr, al) c = some σ' := h
    unfold gCh1 at h
    dsimp only at h
    split at h
    · cases h
      exact ⟨by show 2 ≤ 9; decide, i2, i3, i4⟩
    · split at h
      · cases h
        exact ⟨by show 1 ≤ 9; decide, i2, i3, i4⟩
      · cases h
  · have h : gFactor (2, fi, la, op, bt, cc, ck, cn, gr, al) c = some σ' := h
    unfold gFactor at h
    dsimp only at h
    split at h
    · split at h
      · rename_i e
        cases h
        exact ⟨by show 2 ≤ 9; decide, by show op + 1 ≤ 8; omega, i3, i4⟩
      · cases h
    · split at h
      · cases h
        exact ⟨by show 3 ≤ 9; decide, Nat.le_trans (gend_le op bt) i2, i3, i4⟩
      · cases h
  · have h : gAfter (3, fi, la, op, bt, cc, ck, cn, gr, al) c = some σ' := h
    unfold gAfter at h
    dsimp only at h
    split at h
    · cases h
      exact ⟨by show 2 ≤ 9; decide, i2, i3, i4⟩
    · split at h
      · exact tail h
      · split at h
        · cases h
          exact ⟨by show 3 ≤ 9; decide, Nat.le_trans (gend_le (op - 1) _) (by omega), i3, i4⟩
        · cases h
  · have h : gCol (4, fi, la, op, bt, cc, ck, cn, gr, al) c = some σ' := h
    unfold gCol at h
    dsimp only at h
    split at h
    · rename_i e
      cases h
      exact ⟨by show 5 ≤ 9; decide, i2, (colOf_in i4 e).1, i4⟩
    · cases h
  · have h : gKind (5, fi, la, op, bt, cc, ck, cn, gr, al) c = some σ' := h
    unfold gKind at h
    dsimp only at h
    split at h
    · cases h
      exact ⟨by show 6 ≤ 9; decide, i2, i3, i4⟩
    · cases h
  · have h : gDig (6, fi, la, op, bt, cc, ck, cn, gr, al) c = some σ' := h
    unfold gDig at h
    dsimp only at h
    split at h
    · cases h
      exact ⟨by show 7 ≤ 9; decide, i2, i3, i4⟩
    · cases h
  · exact tail h
  · have h : gGrp (8, fi, la, op, bt, cc, ck, cn, gr, al) c = some σ' := h
    unfold gGrp at h
    dsimp only at h
    split at h
    · cases h
      exact ⟨by show 9 ≤ 9; decide, i2, i3, i4⟩
    · cases h
  · cases h
/-- after n signs: the first place that can't stand, or the state -/
def gRes (σ0 : GS) (f : Nat → Int32) : Nat → Nat ⊕ GS
  | 0 => .inr σ0
  | i + 1 => match gRes σ0 f i with
    | .inl k => .inl k
    | .inr σ => match gTake σ (f i) with
      | none => .inl i
      | some σ' => .inr σ'
theorem gRes_inl {σ0 : GS} {f : Nat → Int32} {k : Nat} : ∀ {i j : Nat}, i ≤ j → gRes σ0 f i = .inl k → gRes σ0 f j = .inl k
  | i, 0, h, e => by
    have : i = 0 := by omega
    subst this
    exact e
  | i, j + 1, h, e => by
    by_cases q : i = j + 1
    · subst q
      exact e
    · have := gRes_inl (show i ≤ j by omega) e
      simp only [gRes, this]
def fltC (σ0 : GS) (f : Nat → Int32) (n : Nat) : Int32 := match gRes σ0 f n with
  | .inl k => nI k
  | .inr σ => if gW σ then -2 else nI n
set_option maxRecDepth 100000 in
set_option maxHeartbeats 4000000 in
theorem c_G_faultIn {N : Nat} {h : xHp} (σ : GS) {n : Nat} {f : Nat → Int32} (hN : 94 ≤ N) (hn : n ≤ 30) (hI : gI (g0 σ)) (hf : ∀ j, chOK (f j)) (h5 : h 5 = .inr (2, [.ref 6, .int (nI n)])) (h6 : h 6 = .inl (1, 30, .inl f)) : XM y_G_faultIn b_G_faultIn 3 (some .int) 4 0 0 [.ref 7, .ref 5] N (hG h σ) (fun r h' => r = some (.int (fltC (g0 σ) f n)) ∧ ∃ σ', gI σ' ∧ h' = hG h σ' ∧ ∀ τ, gRes (g0 σ) f n = .inr τ → σ' = τ) := by
  have h7 := hG_7 h σ
  refine xM_intro [some (.ref 7), some (.ref 5), none] (by decide) (fun _ => rfl) (fun _ => Nat.le_of_ble_eq_true rfl) (fun Γ => ?_)
  refine x_aload_n d_G_faultIn_0 rfl ?_
  refine x_cVv (c_G_restart σ hN) k_G_15 v_G_restart d_G_faultIn_1 rfl (by omega) (by first | assumption | exact vu_s | exact vu_t (by omega) (by first | assumption | exact vu_s | exact vu_t (by omega) (by first | assumption | exact vu_s | exact vu_t (by omega) (by first | assumption | exact vu_s))) | rfl | (simp only [va_up, Nat.reduceEqDiff, ↓reduceIte]; first | rfl | assumption)) rfl (by omega) (Nat.le_of_ble_eq_true rfl) ?_
  refine x_iconst (v := 0) d_G_faultIn_4 (by decide) ?_
  refine x_istore_n d_G_faultIn_5 (by decide) rfl ?_
  generalize hQ : (fun (r : Option Value) (h' : xHp) => r = some (.int (fltC (g0 σ) f n)) ∧ ∃ σ', gI σ' ∧ h' = hG h σ' ∧ ∀ τ, gRes (g0 σ) f n = .inr τ → σ' = τ) = Qp
  have key : ∀ (m i : Nat) (τ : GS), i ≤ n → n - i < m → gI τ → gRes (g0 σ) f i = .inr τ → XW Γ y_G_faultIn b_G_faultIn 3 (some .int) (4, 0, 0) (xQ Γ (N + 0) 0 0 Qp) 0 0 N (hG h τ) 6 [some (.ref 7), some (.ref 5), some (.int (nI i))] [] := by
    intro m
    induction m with
    | zero => intro i τ _ h0; omega
    | succ m ih =>
      intro i τ hi him hIτ hres
      have k7 := hG_7 h τ
      have k5 : hG h τ 5 = .inr (2, [.ref 6, .int (nI n)]) := (hG_n h τ (by decide) (by decide)).trans h5
      have k6 : hG h τ 6 = .inl (1, 30, .inl f) := (hG_n h τ (by decide) (by decide)).trans h6
      refine x_iload_n d_G_faultIn_6 rfl ?_
      refine x_aload_n d_G_faultIn_7 rfl ?_
      refine x_cVe (c_T_length hN k5) k_G_18 v_T_length d_G_faultIn_8 rfl (by omega) (by first | assumption | exact vu_s | exact vu_t (by omega) (by first | assumption | exact vu_s | exact vu_t (by omega) (by first | assumption | exact vu_s | exact vu_t (by omega) (by first | assumption | exact vu_s))) | rfl | (simp only [va_up, Nat.reduceEqDiff, ↓reduceIte]; first | rfl | assumption)) rfl (by omega) (Nat.le_of_ble_eq_true rfl) ?_
      refine x_icmp_ge 34 d_G_faultIn_11 (by decide) (fun c1 => ?_) (fun c1 => ?_)
      · have e := nI_end hi (by omega) c1
        subst e
        refine x_aload_n d_G_faultIn_34 rfl ?_
        refine x_cVe (c_G_isWhole τ hN hIτ) k_G_32 v_G_isWhole d_G_faultIn_35 rfl (by omega) (by first | assumption | exact vu_s | exact vu_t (by omega) (by first | assumption | exact vu_s | exact vu_t (by omega) (by first | assumption | exact vu_s | exact vu_t (by omega) (by first | assumption | exact vu_s))) | rfl | (simp only [va_up, Nat.reduceEqDiff, ↓reduceIte]; first | rfl | assumption)) rfl (by omega) (Nat.le_of_ble_eq_true rfl) ?_
        refine x_if_eq 46 d_G_faultIn_38 (by decide) (fun c2 => ?_) (fun c2 => ?_)
        · rw [bi0] at c2
          refine x_aload_n d_G_faultIn_46 rfl ?_
          refine x_cVe (c_T_length hN k5) k_G_18 v_T_length d_G_faultIn_47 rfl (by omega) (by first | assumption | exact vu_s | exact vu_t (by omega) (by first | assumption | exact vu_s | exact vu_t (by omega) (by first | assumption | exact vu_s | exact vu_t (by omega) (by first | assumption | exact vu_s))) | rfl | (simp only [va_up, Nat.reduceEqDiff, ↓reduceIte]; first | rfl | assumption)) rfl (by omega) (Nat.le_of_ble_eq_true rfl) ?_
          refine x_iret d_G_faultIn_50 ?_
          rw [← hQ]
          refine ⟨by simp only [fltC, hres, c2]; rfl, τ, hIτ, rfl, fun τ' e => ?_⟩
          rw [hres] at e
          exact Sum.inr.inj e
        · rw [bi1] at c2
          refine x_bipush (v := -2) d_G_faultIn_41 (by decide) ?_
          refine x_goto 50 d_G_faultIn_43 (by decide) ?_
          refine x_iret d_G_faultIn_50 ?_
          rw [← hQ]
          refine ⟨by simp only [fltC, hres, c2]; rfl, τ, hIτ, rfl, fun τ' e => ?_⟩
          rw [hres] at e
          exact Sum.inr.inj e
      · have hlt := nI_more hi (by omega) c1
        refine x_aload_n d_G_faultIn_14 rfl ?_
        refine x_aload_n d_G_faultIn_15 rfl ?_
        refine x_iload_n d_G_faultIn_16 rfl ?_
        refine x_cVe (c_T_at (nI i) hN hn (fun j => (hf j).1) k5 k6) k_G_24 v_T_at d_G_faultIn_17 rfl (by omega) (by first | assumption | exact vu_s | exact vu_t (by omega) (by first | assumption | exact vu_s | exact vu_t (by omega) (by first | assumption | exact vu_s | exact vu_t (by omega) (by first | assumption | exact vu_s))) | rfl | (simp only [va_up, Nat.reduceEqDiff, ↓reduceIte]; first | rfl | assumption)) rfl (by omega) (Nat.le_of_ble_eq_true rfl) ?_
        rw [if_pos ⟨nI_pos' (by omega), nI_lt hlt (by omega)⟩, nI_clamp (show i < 2 ^ 31 by omega)]
        refine x_cV (c_G_take τ (f i) hN hIτ (hf i)) k_G_28 v_G_take d_G_faultIn_20 rfl (by omega) (by first | assumption | exact vu_s | exact vu_t (by omega) (by first | assumption | exact vu_s | exact vu_t (by omega) (by first | assumption | exact vu_s | exact vu_t (by omega) (by first | assumption | exact vu_s))) | rfl | (simp only [va_up, Nat.reduceEqDiff, ↓reduceIte]; first | rfl | assumption)) rfl (by omega) (Nat.le_of_ble_eq_true rfl) ?_
        intro r h' hq
        cases hg : gTake τ (f i) with
        | none =>
          rw [hg] at hq
          obtain ⟨rfl, rfl⟩ := hq
          refine x_if_ne 28 d_G_faultIn_23 (by decide) (fun c2 => ?_) (fun c2 => ?_)
          · exact absurd rfl c2
          · refine x_iload_n d_G_faultIn_26 rfl ?_
            refine x_iret d_G_faultIn_27 ?_
            have e1 : gRes (g0 σ) f (i + 1) = .inl i := by simp only [gRes, hres, hg]
            have e2 := gRes_inl (show i + 1 ≤ n by omega) e1
            rw [← hQ]
            refine ⟨by simp only [fltC, e2], τ, hIτ, rfl, fun τ' e => ?_⟩
            rw [e2] at e
            cases e
        | some τ' =>
          rw [hg] at hq
          obtain ⟨rfl, rfl⟩ := hq
          refine x_if_ne 28 d_G_faultIn_23 (by decide) (fun c2 => ?_) (fun c2 => ?_)
          · refine x_iinc1 d_G_faultIn_28 rfl (by decide) rfl ?_
            refine x_goto 6 d_G_faultIn_31 (by decide) ?_
            rw [nI_1]
            exact ih (i + 1) τ' (by omega) (by omega) (gTake_I hIτ hg) (by simp only [gRes, hres, hg])
          · exact absurd c2 (by decide)
  exact key (n + 1) 0 (g0 σ) (by omega) (by omega) hI rfl
set_option maxRecDepth 100000 in
set_option maxHeartbeats 4000000 in
theorem c_G_firstRelation {N : Nat} {h : xHp} (σ : GS) (hN : 94 ≤ N) (h7 : h 7 = oG σ) : XM y_G_firstRelation b_G_firstRelation 1 (some .int) 0 0 0 [.ref 7] N h (xR (some (.int σ.2.1)) h) := by
  refine xM_intro [some (.ref 7)] (by decide) (fun _ => rfl) (fun _ => Nat.le_of_ble_eq_true rfl) (fun Γ => ?_)
  refine x_aload_n d_G_firstRelation_0 rfl ?_
  refine x_get f_G_36 d_G_firstRelation_1 (by omega) (by first | assumption | exact vu_s | exact vu_t (by omega) (by first | assumption | exact vu_s | exact vu_t (by omega) (by first | assumption | exact vu_s | exact vu_t (by omega) (by first | assumption | exact vu_s))) | rfl | (simp only [va_up, Nat.reduceEqDiff, ↓reduceIte]; first | rfl | assumption)) rfl ?_
  refine x_iret d_G_firstRelation_4 ?_
  exact ⟨rfl, rfl⟩
set_option maxRecDepth 100000 in
set_option maxHeartbeats 4000000 in
theorem c_G_lastRelation {N : Nat} {h : xHp} (σ : GS) (hN : 94 ≤ N) (h7 : h 7 = oG σ) : XM y_G_lastRelation b_G_lastRelation 1 (some .int) 0 0 0 [.ref 7] N h (xR (some (.int σ.2.2.1)) h) := by
  refine xM_intro [some (.ref 7)] (by decide) (fun _ => rfl) (fun _ => Nat.le_of_ble_eq_true rfl) (fun Γ => ?_)
  refine x_aload_n d_G_lastRelation_0 rfl ?_
  refine x_get f_G_40 d_G_lastRelation_1 (by omega) (by first | assumption | exact vu_s | exact vu_t (by omega) (by first | assumption | exact vu_s | exact vu_t (by omega) (by first | assumption | exact vu_s | exact vu_t (by omega) (by first | assumption | exact vu_s))) | rfl | (simp only [va_up, Nat.reduceEqDiff, ↓reduceIte]; first | rfl | assumption)) rfl ?_
  refine x_iret d_G_lastRelation_4 ?_
  exact ⟨rfl, rfl⟩
set_option maxRecDepth 100000 in
set_option maxHeartbeats 4000000 in
theorem c_G_conditions {N : Nat} {h : xHp} (σ : GS) (hN : 94 ≤ N) (h7 : h 7 = oG σ) : XM y_G_conditions b_G_conditions 1 (some .int) 0 0 0 [.ref 7] N h (xR (some (.int σ.2.2.2.2.2.2.2.1)) h) := by
  refine xM_intro [some (.ref 7)] (by decide) (fun _ => rfl) (fun _ => Nat.le_of_ble_eq_true rfl) (fun Γ => ?_)
  refine x_aload_n d_G_conditions_0 rfl ?_
  refine x_get f_G_43 d_G_conditions_1 (by omega) (by first | assumption | exact vu_s | exact vu_t (by omega) (by first | assumption | exact vu_s | exact vu_t (by omega) (by first | assumption | exact vu_s | exact vu_t (by omega) (by first | assumption | exact vu_s))) | rfl | (simp only [va_up, Nat.reduceEqDiff, ↓reduceIte]; first | rfl | assumption)) rfl ?_
  refine x_iret d_G_conditions_4 ?_
  exact ⟨rfl, rfl⟩
set_option maxRecDepth 100000 in
set_option maxHeartbeats 4000000 in
theorem c_G_groupColumn {N : Nat} {h : xHp} (σ : GS) (hN : 94 ≤ N) (h7 : h 7 = oG σ) : XM y_G_groupColumn b_G_groupColumn 1 (some .int) 0 0 0 [.ref 7] N h (xR (some (.int σ.2.2.2.2.2.2.2.2.1)) h) := by
  refine xM_intro [some (.ref 7)] (by decide) (fun _ => rfl) (fun _ => Nat.le_of_ble_eq_true rfl) (fun Γ => ?_)
  refine x_aload_n d_G_groupColumn_0 rfl ?_
  refine x_get f_G_46 d_G_groupColumn_1 (by omega) (by first | assumption | exact vu_s | exact vu_t (by omega) (by first | assumption | exact vu_s | exact vu_t (by omega) (by first | assumption | exact vu_s | exact vu_t (by omega) (by first | assumption | exact vu_s))) | rfl | (simp only [va_up, Nat.reduceEqDiff, ↓reduceIte]; first | rfl | assumption)) rfl ?_
  refine x_iret d_G_groupColumn_4 ?_
  exact ⟨rfl, rfl⟩
set_option maxRecDepth 100000 in
set_option maxHeartbeats 4000000 in
theorem c_G_expressionStart {N : Nat} {h : xHp} (σ : GS) (hN : 94 ≤ N) (h7 : h 7 = oG σ) : XM y_G_expressionStart b_G_expressionStart 2 (some .int) 0 0 0 [.ref 7] N h (xR (some (.int (σ.2.2.1 - σ.2.1 + 1 + 1))) h) := by
  refine xM_intro [some (.ref 7), none] (by decide) (fun _ => rfl) (fun _ => Nat.le_of_ble_eq_true rfl) (fun Γ => ?_)
  refine x_aload_n d_G_expressionStart_0 rfl ?_
  refine x_get f_G_40 d_G_expressionStart_1 (by omega) (by first | assumption | exact vu_s | exact vu_t (by omega) (by first | assumption | exact vu_s | exact vu_t (by omega) (by first | assumption | exact vu_s | exact vu_t (by omega) (by first | assumption | exact vu_s))) | rfl | (simp only [va_up, Nat.reduceEqDiff, ↓reduceIte]; first | rfl | assumption)) rfl ?_
  refine x_aload_n d_G_expressionStart_4 rfl ?_
  refine x_get f_G_36 d_G_expressionStart_5 (by omega) (by first | assumption | exact vu_s | exact vu_t (by omega) (by first | assumption | exact vu_s | exact vu_t (by omega) (by first | assumption | exact vu_s | exact vu_t (by omega) (by first | assumption | exact vu_s))) | rfl | (simp only [va_up, Nat.reduceEqDiff, ↓reduceIte]; first | rfl | assumption)) rfl ?_
  refine x_isub d_G_expressionStart_8 ?_
  refine x_iconst (v := 1) d_G_expressionStart_9 (by decide) ?_
  refine x_iadd d_G_expressionStart_10 ?_
  refine x_istore_n d_G_expressionStart_11 (by decide) rfl ?_
  refine x_iload_n d_G_expressionStart_12 rfl ?_
  refine x_iconst (v := 1) d_G_expressionStart_13 (by decide) ?_
  refine x_iadd d_G_expressionStart_14 ?_
  refine x_iret d_G_expressionStart_15 ?_
  exact ⟨rfl, rfl⟩
set_option maxRecDepth 100000 in
set_option maxHeartbeats 4000000 in
theorem c_G_allowedIn {N : Nat} {h : xHp} (σ : GS) {c : Nat} (hN : 94 ≤ N) (hc : c < 4) (h7 : h 7 = oG σ) (h8 : h 8 = aI 4 σ.2.2.2.2.2.2.2.2.2) : XM y_G_allowedIn b_G_allowedIn 2 (some .int) 0 0 0 [.ref 7, .int (nI c)] N h (xR (some (.int (σ.2.2.2.2.2.2.2.2.2 c))) h) := by
  have hi : vp_in (nI c) 4 := vp_in_nI hc (by decide)
  refine xM_intro [some (.ref 7), some (.int (nI c))] (by decide) (fun _ => rfl) (fun _ => Nat.le_of_ble_eq_true rfl) (fun Γ => ?_)
  refine x_aload_n d_G_allowedIn_0 rfl ?_
  refine x_get f_G_9 d_G_allowedIn_1 (by omega) (by first | assumption | exact vu_s | exact vu_t (by omega) (by first | assumption | exact vu_s | exact vu_t (by omega) (by first | assumption | exact vu_s | exact vu_t (by omega) (by first | assumption | exact vu_s))) | rfl | (simp only [va_up, Nat.reduceEqDiff, ↓reduceIte]; first | rfl | assumption)) rfl ?_
  refine x_iload_n d_G_allowedIn_4 rfl ?_
  refine x_iald d_G_allowedIn_5 (by omega) (by first | assumption | exact vu_s | exact vu_t (by omega) (by first | assumption | exact vu_s | exact vu_t (by omega) (by first | assumption | exact vu_s | exact vu_t (by omega) (by first | assumption | exact vu_s))) | rfl | (simp only [va_up, Nat.reduceEqDiff, ↓reduceIte]; first | rfl | assumption)) (by assumption) ?_
  refine x_iret d_G_allowedIn_6 ?_
  exact ⟨by rw [nI_clamp (show c < 2 ^ 31 by omega)], rfl⟩
end
section
/-! Question: become, remove, reads. -/
set_option maxRecDepth 100000 in
set_option maxHeartbeats 4000000 in
theorem c_Q_remove {N : Nat} {h : xHp} {q : Nat} {t a b g cn : Int32} (hN : q + 5 < N) (h1 : h q = oQ q t a b g cn) : XM y_Q_remove b_Q_remove 1 none 0 0 0 [.ref q] N h (xR none (va_up h q (oQ q 0 a b g cn))) := by
  refine xM_intro [some (.ref q)] (by decide) (fun _ => rfl) (fun _ => Nat.le_of_ble_eq_true rfl) (fun Γ => ?_)
  refine x_aload_n d_Q_remove_0 rfl ?_
  refine x_iconst (v := 0) d_Q_remove_1 (by decide) ?_
  refine x_put f_Q_29 d_Q_remove_2 (by omega) (by first | assumption | exact vu_s | exact vu_t (by omega) (by first | assumption | exact vu_s | exact vu_t (by omega) (by first | assumption | exact vu_s | exact vu_t (by omega) (by first | assumption | exact vu_s))) | rfl | (simp only [va_up, Nat.reduceEqDiff, ↓reduceIte]; first | rfl | assumption)) (Nat.le_of_ble_eq_true rfl) (fun _ => ⟨rfl, rfl⟩) ?_
  refine x_vret d_Q_remove_5 ?_
  exact ⟨rfl, rfl⟩
set_option maxRecDepth 100000 in
set_option maxHeartbeats 4000000 in
theorem c_Q_isThere {N : Nat} {h : xHp} {q : Nat} {t : Bool} {a b g cn : Int32} (hN : q + 5 < N) (h1 : h q = oQ q (bi t) a b g cn) : XM y_Q_isThere b_Q_isThere 1 (some .boolean) 0 0 0 [.ref q] N h (xR (some (.int (bi t))) h) := by
  have hn := bi_nar t
  refine xM_intro [some (.ref q)] (by decide) (fun _ => rfl) (fun _ => Nat.le_of_ble_eq_true rfl) (fun Γ => ?_)
  refine x_aload_n d_Q_isThere_0 rfl ?_
  refine x_get f_Q_29 d_Q_isThere_1 (by omega) (by first | assumption | exact vu_s | exact vu_t (by omega) (by first | assumption | exact vu_s | exact vu_t (by omega) (by first | assumption | exact vu_s | exact vu_t (by omega) (by first | assumption | exact vu_s))) | rfl | (simp only [va_up, Nat.reduceEqDiff, ↓reduceIte]; first | rfl | assumption)) rfl ?_
  refine x_zret d_Q_isThere_4 (by first | rfl | assumption) ?_
  exact ⟨rfl, rfl⟩
set_option maxRecDepth 100000 in
set_option maxHeartbeats 4000000 in
theorem c_Q_groupColumn {N : Nat} {h : xHp} {q : Nat} {t a b g cn : Int32} (hN : q + 5 < N) (h1 : h q = oQ q t a b g cn) : XM y_Q_groupColumn b_Q_groupColumn 1 (some .int) 0 0 0 [.ref q] N h (xR (some (.int g)) h) := by
  refine xM_intro [some (.ref q)] (by decide) (fun _ => rfl) (fun _ => Nat.le_of_ble_eq_true rfl) (fun Γ => ?_)
  refine x_aload_n d_Q_groupColumn_0 rfl ?_
  refine x_get f_Q_50 d_Q_groupColumn_1 (by omega) (by first | assumption | exact vu_s | exact vu_t (by omega) (by first | assumption | exact vu_s | exact vu_t (by omega) (by first | assumption | exact vu_s | exact vu_t (by omega) (by first | assumption | exact vu_s))) | rfl | (simp only [va_up, Nat.reduceEqDiff, ↓reduceIte]; first | rfl | assumption)) rfl ?_
  refine x_iret d_Q_groupColumn_4 ?_
  exact ⟨rfl, rfl⟩
set_option maxRecDepth 100000 in
set_option maxHeartbeats 4000000 in
theorem c_Q_conditions {N : Nat} {h : xHp} {q : Nat} {t a b g cn : Int32} (hN : q + 5 < N) (h1 : h q = oQ q t a b g cn) : XM y_Q_conditions b_Q_conditions 1 (some .int) 0 0 0 [.ref q] N h (xR (some (.int cn)) h) := by
  refine xM_intro [some (.ref q)] (by decide) (fun _ => rfl) (fun _ => Nat.le_of_ble_eq_true rfl) (fun Γ => ?_)
  refine x_aload_n d_Q_conditions_0 rfl ?_
  refine x_get f_Q_55 d_Q_conditions_1 (by omega) (by first | assumption | exact vu_s | exact vu_t (by omega) (by first | assumption | exact vu_s | exact vu_t (by omega) (by first | assumption | exact vu_s | exact vu_t (by omega) (by first | assumption | exact vu_s))) | rfl | (simp only [va_up, Nat.reduceEqDiff, ↓reduceIte]; first | rfl | assumption)) rfl ?_
  refine x_iret d_Q_conditions_4 ?_
  exact ⟨rfl, rfl⟩
set_option maxRecDepth 100000 in
set_option maxHeartbeats 4000000 in
theorem c_Q_terms {N : Nat} {h : xHp} {q : Nat} {t a b g cn : Int32} {co : Nat → Int32} (hN : q + 5 < N) (h1 : h q = oQ q t a b g cn) (h7 : h (q + 2) = oP (q + 2)) (h8 : h (q + 3) = aI 81 co) : XM y_Q_terms b_Q_terms 1 (some .int) 1 0 0 [.ref q] N h (xR (some (.int (nI (filN co 81)))) h) := by
  refine xM_intro [some (.ref q)] (by decide) (fun _ => rfl) (fun _ => Nat.le_of_ble_eq_true rfl) (fun Γ => ?_)
  refine x_aload_n d_Q_terms_0 rfl ?_
  refine x_get f_Q_18 d_Q_terms_1 (by omega) (by first | assumption | exact vu_s | exact vu_t (by omega) (by first | assumption | exact vu_s | exact vu_t (by omega) (by first | assumption | exact vu_s | exact vu_t (by omega) (by first | assumption | exact vu_s))) | rfl | (simp only [va_up, Nat.reduceEqDiff, ↓reduceIte]; first | rfl | assumption)) rfl ?_
  refine x_cVe (c_P_terms (by omega) h7 h8) k_Q_65 v_P_terms d_Q_terms_4 rfl (by omega) (by first | assumption | exact vu_s | exact vu_t (by omega) (by first | assumption | exact vu_s | exact vu_t (by omega) (by first | assumption | exact vu_s | exact vu_t (by omega) (by first | assumption | exact vu_s))) | rfl | (simp only [va_up, Nat.reduceEqDiff, ↓reduceIte]; first | rfl | assumption)) rfl (by omega) (Nat.le_of_ble_eq_true rfl) ?_
  refine x_iret d_Q_terms_7 ?_
  exact ⟨rfl, rfl⟩
/-- the bits a .. k-1 -/
def chN (a : Nat) : Nat → Nat
  | 0 => 0
  | k + 1 => chN a k + if a ≤ k then 2 ^ k else 0
theorem sh1 : ∀ k, k < 3 → (1 : Int32) <<< (nI k &&& 31) = nI (2 ^ k) := by decide
set_option maxRecDepth 100000 in
set_option maxHeartbeats 4000000 in
theorem c_Q_chain {N : Nat} {h : xHp} {q : Nat} {t g cn : Int32} {a b : Nat} (hN : q + 5 < N) (hab : a ≤ b) (hb : b < 3) (h1 : h q = oQ q t (nI a) (nI b) g cn) : XM y_Q_chain b_Q_chain 3 (some .int) 0 0 0 [.ref q] N h (xR (some (.int (nI (chN a (b + 1))))) h) := by
  refine xM_intro [some (.ref q), none, none] (by decide) (fun _ => rfl) (fun _ => Nat.le_of_ble_eq_true rfl) (fun Γ => ?_)
  refine x_iconst (v := 0) d_Q_chain_0 (by decide) ?_
  refine x_istore_n d_Q_chain_1 (by decide) rfl ?_
  refine x_aload_n d_Q_chain_2 rfl ?_
  refine x_get f_Q_39 d_Q_chain_3 (by omega) (by first | assumption | exact vu_s | exact vu_t (by omega) (by first | assumption | exact vu_s | exact vu_t (by omega) (by first | assumption | exact vu_s | exact vu_t (by omega) (by first | assumption | exact vu_s))) | rfl | (simp only [va_up, Nat.reduceEqDiff, ↓reduceIte]; first | rfl | assumption)) rfl ?_
  refine x_istore_n d_Q_chain_6 (by decide) rfl ?_
  have key : ∀ (m k : Nat), a ≤ k → k ≤ b + 1 → b + 1 - k < m → XW Γ y_Q_chain b_Q_chain 3 (some .int) (0, 0, 0) (xQ Γ (N + 0) 0 0 (xR (some (.int (nI (chN a (b + 1))))) h)) 0 0 N h 7 [some (.ref q), some (.int (nI (chN a k))), some (.int (nI k))] [] := by
    intro m
    induction m with
    | zero => intro k _ _ h0; omega
    | succ m ih =>
      intro k ha hk hkm
      refine x_iload_n d_Q_chain_7 rfl ?_
      refine x_aload_n d_Q_chain_8 rfl ?_
      refine x_get f_Q_45 d_Q_chain_9 (by omega) (by first | assumption | exact vu_s | exact vu_t (by omega) (by first | assumption | exact vu_s | exact vu_t (by omega) (by first | assumption | exact vu_s | exact vu_t (by omega) (by first | assumption | exact vu_s))) | rfl | (simp only [va_up, Nat.reduceEqDiff, ↓reduceIte]; first | rfl | assumption)) rfl ?_
      refine x_icmp_gt 27 d_Q_chain_12 (by decide) (fun c1 => ?_) (fun c1 => ?_)
      · have e : k = b + 1 := by
          have := (nI_ltI (show b < 2 ^ 31 by omega) (show k < 2 ^ 31 by omega)).mp c1
          omega
        subst e
        refine x_iload_n d_Q_chain_27 rfl ?_
        refine x_iret d_Q_chain_28 ?_
        exact ⟨rfl, rfl⟩
      · have hlt : k ≤ b := by
          rcases Nat.lt_or_ge b k with z | z
          · exact absurd (nI_lt z (by omega)) c1
          · exact z
        refine x_iload_n d_Q_chain_15 rfl ?_
        refine x_iconst (v := 1) d_Q_chain_16 (by decide) ?_
        refine x_iload_n d_Q_chain_17 rfl ?_
        refine x_ishl d_Q_chain_18 ?_
        refine x_iadd d_Q_chain_19 ?_
        refine x_istore_n d_Q_chain_20 (by decide) rfl ?_
        refine x_iinc1 d_Q_chain_21 rfl (by decide) rfl ?_
        refine x_goto 7 d_Q_chain_24 (by decide) ?_
        rw [sh1 k (by omega), nI_add, nI_1]
        have := ih (k + 1) (by omega) (by omega) (by omega)
        rw [show chN a (k + 1) = chN a k + 2 ^ k by simp [chN, ha]] at this
        exact this
  have h0 : ∀ k, k ≤ a → chN a k = 0 := by
    intro k
    induction k with
    | zero => intro _; rfl
    | succ k ih =>
      intro hk
      simp only [chN, ih (by omega), if_neg (show ¬ a ≤ k by omega)]
  have := key (b + 2) a (by omega) (by omega) (by omega)
  rw [h0 a (by omega)] at this
  exact this
def cpA (s d : Nat → Int32) (k : Nat) : Nat → Int32 := fun j => if j < k then s j else d j
theorem cpA_s (s d : Nat → Int32) (k : Nat) : upd (cpA s d k) k (s k) = cpA s d (k + 1) := by
  funext j
  by_cases e : j = k
  · subst e
    simp [upd, cpA]
  · simp only [upd, cpA, if_neg e]
    by_cases e2 : j < k
    · rw [if_pos e2, if_pos (by omega)]
    · rw [if_neg e2, if_neg (by omega)]
set_option maxRecDepth 100000 in
set_option maxHeartbeats 4000000 in
theorem c_Q_become {N : Nat} {h : xHp} {q p : Nat} {t a b g cn : Int32} {al co s : Nat → Int32} (σ : GS) (hN : 94 ≤ N) (hq : q + 5 < N) (hq2 : 10 < q) (hp : p + 1 < N) (hp2 : p + 1 < q) (hp3 : 8 < p) (h7 : h 7 = oG σ) (h8 : h 8 = aI 4 σ.2.2.2.2.2.2.2.2.2) (h1 : h q = oQ q t a b g cn) (h2 : h (q + 1) = aI 4 al) (h3 : h (q + 2) = oP (q + 2)) (h4 : h (q + 3) = aI 81 co) (h5 : h p = oP p) (h6 : h (p + 1) = aI 81 s) : XM y_Q_become b_Q_become 4 none 2 0 0 [.ref q, .ref 7, .ref p] N h (xR none (va_up (va_up (va_up h q (oQ q 1 σ.2.1 σ.2.2.1 σ.2.2.2.2.2.2.2.2.1 σ.2.2.2.2.2.2.2.1)) (q + 1) (aI 4 (cpA σ.2.2.2.2.2.2.2.2.2 al 4))) (q + 3) (aI 81 (va_cpy s co 0 0 81)))) := by
  refine xM_intro [some (.ref q), some (.ref 7), some (.ref p), none] (by decide) (fun _ => rfl) (fun _ => Nat.le_of_ble_eq_true rfl) (fun Γ => ?_)
  refine x_aload_n d_Q_become_0 rfl ?_
  refine x_iconst (v := 1) d_Q_become_1 (by decide) ?_
  refine x_put f_Q_29 d_Q_become_2 (by omega) (by first | assumption | exact vu_s | exact vu_t (by omega) (by first | assumption | exact vu_s | exact vu_t (by omega) (by first | assumption | exact vu_s | exact vu_t (by omega) (by first | assumption | exact vu_s))) | rfl | (simp only [va_up, Nat.reduceEqDiff, ↓reduceIte]; first | rfl | assumption)) (Nat.le_of_ble_eq_true rfl) (fun _ => ⟨rfl, rfl⟩) ?_
  refine x_aload_n d_Q_become_5 rfl ?_
  refine x_aload_n d_Q_become_6 rfl ?_
  refine x_cVe (c_G_firstRelation σ hN (vu_t (by omega) h7)) k_Q_33 v_G_firstRelation d_Q_become_7 rfl (by omega) (by first | assumption | exact vu_s | exact vu_t (by omega) (by first | assumption | exact vu_s | exact vu_t (by omega) (by first | assumption | exact vu_s | exact vu_t (by omega) (by first | assumption | exact vu_s))) | rfl | (simp only [va_up, Nat.reduceEqDiff, ↓reduceIte]; first | rfl | assumption)) rfl (by omega) (Nat.le_of_ble_eq_true rfl) ?_
  refine x_put f_Q_39 d_Q_become_10 (by omega) (by first | assumption | exact vu_s | exact vu_t (by omega) (by first | assumption | exact vu_s | exact vu_t (by omega) (by first | assumption | exact vu_s | exact vu_t (by omega) (by first | assumption | exact vu_s))) | rfl | (simp only [va_up, Nat.reduceEqDiff, ↓reduceIte]; first | rfl | assumption)) (Nat.le_of_ble_eq_true rfl) (fun _ => ⟨rfl, rfl⟩) ?_
  refine x_aload_n d_Q_become_13 rfl ?_
  refine x_aload_n d_Q_become_14 rfl ?_
  rw [bx_uu]
  refine x_cVe (c_G_lastRelation σ hN (vu_t (by omega) h7)) k_Q_42 v_G_lastRelation d_Q_become_15 rfl (by omega) (by first | assumption | exact vu_s | exact vu_t (by omega) (by first | assumption | exact vu_s | exact vu_t (by omega) (by first | assumption | exact vu_s | exact vu_t (by omega) (by first | assumption | exact vu_s))) | rfl | (simp only [va_up, Nat.reduceEqDiff, ↓reduceIte]; first | rfl | assumption)) rfl (by omega) (Nat.le_of_ble_eq_true rfl) ?_
  refine x_put f_Q_45 d_Q_become_18 (by omega) (by first | assumption | exact vu_s | exact vu_t (by omega) (by first | assumption | exact vu_s | exact vu_t (by omega) (by first | assumption | exact vu_s | exact vu_t (by omega) (by first | assumption | exact vu_s))) | rfl | (simp only [va_up, Nat.reduceEqDiff, ↓reduceIte]; first | rfl | assumption)) (Nat.le_of_ble_eq_true rfl) (fun _ => ⟨rfl, rfl⟩) ?_
  refine x_aload_n d_Q_become_21 rfl ?_
  refine x_aload_n d_Q_become_22 rfl ?_
  rw [bx_uu]
  refine x_cVe (c_G_groupColumn σ hN (vu_t (by omega) h7)) k_Q_47 v_G_groupColumn d_Q_become_23 rfl (by omega) (by first | assumption | exact vu_s | exact vu_t (by omega) (by first | assumption | exact vu_s | exact vu_t (by omega) (by first | assumption | exact vu_s | exact vu_t (by omega) (by first | assumption | exact vu_s))) | rfl | (simp only [va_up, Nat.reduceEqDiff, ↓reduceIte]; first | rfl | assumption)) rfl (by omega) (Nat.le_of_ble_eq_true rfl) ?_
  refine x_put f_Q_50 d_Q_become_26 (by omega) (by first | assumption | exact vu_s | exact vu_t (by omega) (by first | assumption | exact vu_s | exact vu_t (by omega) (by first | assumption | exact vu_s | exact vu_t (by omega) (by first | assumption | exact vu_s))) | rfl | (simp only [va_up, Nat.reduceEqDiff, ↓reduceIte]; first | rfl | assumption)) (Nat.le_of_ble_eq_true rfl) (fun _ => ⟨rfl, rfl⟩) ?_
  refine x_aload_n d_Q_become_29 rfl ?_
  refine x_aload_n d_Q_become_30 rfl ?_
  rw [bx_uu]
  refine x_cVe (c_G_conditions σ hN (vu_t (by omega) h7)) k_Q_52 v_G_conditions d_Q_become_31 rfl (by omega) (by first | assumption | exact vu_s | exact vu_t (by omega) (by first | assumption | exact vu_s | exact vu_t (by omega) (by first | assumption | exact vu_s | exact vu_t (by omega) (by first | assumption | exact vu_s))) | rfl | (simp only [va_up, Nat.reduceEqDiff, ↓reduceIte]; first | rfl | assumption)) rfl (by omega) (Nat.le_of_ble_eq_true rfl) ?_
  refine x_put f_Q_55 d_Q_become_34 (by omega) (by first | assumption | exact vu_s | exact vu_t (by omega) (by first | assumption | exact vu_s | exact vu_t (by omega) (by first | assumption | exact vu_s | exact vu_t (by omega) (by first | assumption | exact vu_s))) | rfl | (simp only [va_up, Nat.reduceEqDiff, ↓reduceIte]; first | rfl | assumption)) (Nat.le_of_ble_eq_true rfl) (fun _ => ⟨rfl, rfl⟩) ?_
  refine x_iconst (v := 0) d_Q_become_37 (by decide) ?_
  refine x_istore_n d_Q_become_38 (by decide) rfl ?_
  rw [bx_uu]
  have key : ∀ (m c : Nat), c ≤ 4 → 4 - c < m → XW Γ y_Q_become b_Q_become 4 none (2, 0, 0) (xQ Γ (N + 0) 0 0 (xR none (va_up (va_up (va_up h q (oQ q 1 σ.2.1 σ.2.2.1 σ.2.2.2.2.2.2.2.2.1 σ.2.2.2.2.2.2.2.1)) (q + 1) (aI 4 (cpA σ.2.2.2.2.2.2.2.2.2 al 4))) (q + 3) (aI 81 (va_cpy s co 0 0 81))))) 0 0 N (va_up (va_up h q (oQ q 1 σ.2.1 σ.2.2.1 σ.2.2.2.2.2.2.2.2.1 σ.2.2.2.2.2.2.2.1)) (q + 1) (aI 4 (cpA σ.2.2.2.2.2.2.2.2.2 al c))) 39 [some (.ref q), some (.ref 7), some (.ref p), some (.int (nI c))] [] := by
    intro m
    induction m with
    | zero => intro c _ h0; omega
    | succ m ih =>
      intro c hc hcm
      refine x_iload_n d_Q_become_39 rfl ?_
      refine x_iconst (v := 4) d_Q_become_40 (by decide) ?_
      refine x_icmp_ge 61 d_Q_become_41 (by decide) (fun c1 => ?_) (fun c1 => ?_)
      · have e := nI_end (n := 4) hc (by decide) c1
        subst e
        refine x_aload_n d_Q_become_61 rfl ?_
        refine x_get f_Q_18 d_Q_become_62 (by omega) (by first | assumption | exact vu_s | exact vu_t (by omega) (by first | assumption | exact vu_s | exact vu_t (by omega) (by first | assumption | exact vu_s | exact vu_t (by omega) (by first | assumption | exact vu_s))) | rfl | (simp only [va_up, Nat.reduceEqDiff, ↓reduceIte]; first | rfl | assumption)) rfl ?_
        refine x_aload_n d_Q_become_65 rfl ?_
        refine x_cVv (c_P_becomeCopy (by omega) hp (vu_t (by omega) (vu_t (by omega) h3)) (vu_t (by omega) (vu_t (by omega) h4)) (vu_t (by omega) (vu_t (by omega) h5)) (vu_t (by omega) (vu_t (by omega) h6))) k_Q_61 v_P_becomeCopy d_Q_become_66 rfl (by omega) (by first | assumption | exact vu_s | exact vu_t (by omega) (by first | assumption | exact vu_s | exact vu_t (by omega) (by first | assumption | exact vu_s | exact vu_t (by omega) (by first | assumption | exact vu_s))) | rfl | (simp only [va_up, Nat.reduceEqDiff, ↓reduceIte]; first | rfl | assumption)) rfl (by omega) (Nat.le_of_ble_eq_true rfl) ?_
        refine x_vret d_Q_become_69 ?_
        exact ⟨rfl, rfl⟩
      · have hlt := nI_more (n := 4) hc (by decide) c1
        have hi : vp_in (nI c) 4 := vp_in_nI hlt (by decide)
        refine x_aload_n d_Q_become_44 rfl ?_
        refine x_get f_Q_9 d_Q_become_45 (by omega) (by first | assumption | exact vu_s | exact vu_t (by omega) (by first | assumption | exact vu_s | exact vu_t (by omega) (by first | assumption | exact vu_s | exact vu_t (by omega) (by first | assumption | exact vu_s))) | rfl | (simp only [va_up, Nat.reduceEqDiff, ↓reduceIte]; first | rfl | assumption)) rfl ?_
        refine x_iload_n d_Q_become_48 rfl ?_
        refine x_aload_n d_Q_become_49 rfl ?_
        refine x_iload_n d_Q_become_50 rfl ?_
        refine x_cVe (c_G_allowedIn σ hN hlt (vu_t (by omega) (vu_t (by omega) h7)) (vu_t (by omega) (vu_t (by omega) h8))) k_Q_57 v_G_allowedIn d_Q_become_51 rfl (by omega) (by first | assumption | exact vu_s | exact vu_t (by omega) (by first | assumption | exact vu_s | exact vu_t (by omega) (by first | assumption | exact vu_s | exact vu_t (by omega) (by first | assumption | exact vu_s))) | rfl | (simp only [va_up, Nat.reduceEqDiff, ↓reduceIte]; first | rfl | assumption)) rfl (by omega) (Nat.le_of_ble_eq_true rfl) ?_
        refine x_iast d_Q_become_54 (by omega) (by first | assumption | exact vu_s | exact vu_t (by omega) (by first | assumption | exact vu_s | exact vu_t (by omega) (by first | assumption | exact vu_s | exact vu_t (by omega) (by first | assumption | exact vu_s))) | rfl | (simp only [va_up, Nat.reduceEqDiff, ↓reduceIte]; first | rfl | assumption)) (by assumption) ?_
        refine x_iinc1 d_Q_become_55 rfl (by decide) rfl ?_
        refine x_goto 39 d_Q_become_58 (by decide) ?_
        rw [nI_1, nI_clamp (show c < 2 ^ 31 by omega), cpA_s, bx_uu]
        exact ih (c + 1) (by omega) (by omega)
  have := key 5 0 (by omega) (by omega)
  rw [show cpA σ.2.2.2.2.2.2.2.2.2 al 0 = al by funext j; simp [cpA], show aI 4 al = va_up h q (oQ q 1 σ.2.1 σ.2.2.1 σ.2.2.2.2.2.2.2.2.1 σ.2.2.2.2.2.2.2.1) (q + 1) from ((vu_n (by omega)).trans h2).symm, vu_e] at this
  exact this
end
section
/-! Evaluator: the model of its reading; what of a polynomial counts (places below 81). -/
abbrev Po : Type := Nat → Int32
def pe (f g : Po) : Prop := ∀ j, j < 81 → f j = g j
theorem pe.rf (f : Po) : pe f f := fun _ _ => rfl
theorem pe.sy {f g : Po} (h : pe f g) : pe g f := fun j hj => (h j hj).symm
theorem pe.tr {f g k : Po} (h : pe f g) (h2 : pe g k) : pe f k := fun j hj => (h j hj).trans (h2 j hj)
theorem filN_pe {f g : Po} : ∀ n, (∀ j, j < n → f j = g j) → filN f n = filN g n
  | 0, _ => rfl
  | n + 1, h => by simp only [filN, filN_pe n (fun j hj => h j (by omega)), h n (by omega)]
theorem lgT_pe {f g : Po} : ∀ n, (∀ j, j < n → f j = g j) → lgT f n = lgT g n
  | 0, _ => rfl
  | n + 1, h => by simp only [lgT, lgT_pe n (fun j hj => h j (by omega)), h n (by omega)]
theorem isLg_pe {f g : Po} (h : pe f g) : isLg f = isLg g := by unfold isLg; rw [filN_pe 81 h, lgT_pe 81 h]
theorem AF_pe {l l' r r' : Po} (hl : pe l l') (hr : pe r r') (h : AF l r) : AF l' r' := by
  intro i j hi hj h1 h2
  rw [← hl i hi] at h1
  rw [← hr j hj] at h2
  exact h i j hi hj h1 h2
theorem pin_pe {l l' r r' F F' : Po} (hl : pe l l') (hr : pe r r') (hF : pe F F') {i : Nat} (hi : i < 81) : ∀ n, n ≤ 81 → pe (pin l r i n F) (pin l' r' i n F')
  | 0, _ => hF
  | n + 1, hn => by
    have ih := pin_pe hl hr hF hi n (by omega)
    intro k hk
    simp only [pin]
    rw [hr n (by omega)]
    by_cases e : r' n = 0
    · rw [if_pos e, if_pos e]
      exact ih k hk
    · rw [if_neg e, if_neg e]
      by_cases e2 : k = i + n
      · subst e2
        simp only [upd, if_true]
        rw [ih (i + n) hk, hl i hi]
      · simp only [upd, if_neg e2]
        exact ih k hk
theorem pout_pe {l l' r r' F F' : Po} (hl : pe l l') (hr : pe r r') (hF : pe F F') : ∀ n, n ≤ 81 → pe (pout l r F n) (pout l' r' F' n)
  | 0, _ => hF
  | n + 1, hn => by
    have ih := pout_pe hl hr hF n (by omega)
    intro k hk
    simp only [pout]
    rw [hl n (by omega)]
    by_cases e : l' n = 0
    · rw [if_pos e, if_pos e]
      exact ih k hk
    · rw [if_neg e, if_neg e]
      exact pin_pe hl hr ih (by omega) 81 (Nat.le_refl _) k hk
def pZ : Po := fun _ => 0
def pNum (v : Int32) : Po := upd pZ 0 v
def pCol (c : Nat) : Po := upd pZ (cp c) 1
def pNeg (f : Po) : Po := fun j => -f j
def pAdd (f g : Po) (t : Int32) : Po := fun j => f j + t * g j
def pMul (l r : Po) : Po := pout l r pZ 81
noncomputable def afB (l r : Po) : Bool := @decide (AF l r) (Classical.propDecidable _)
theorem afB_t {l r : Po} (h : AF l r) : afB l r = true := @decide_eq_true _ (Classical.propDecidable _) h
theorem afB_f {l r : Po} (h : ¬ AF l r) : afB l r = false := @decide_eq_false _ (Classical.propDecidable _) h
/-- the sign at a place -/
def tx (f : Nat → Int32) (n : Nat) (p : Int32) : Int32 := if 0 ≤ p ∧ p < nI n then f p.toNatClampNeg else 0
abbrev Rd : Type := Int32 → Option (Po × Int32)
def eFac (f : Nat → Int32) (n : Nat) (S F : Rd) : Rd := fun p =>
  if tx f n p = 40 then (S (p + 1)).map (fun q => (q.1, q.2 + 1))
  else if tx f n p = 45 then (F (p + 1)).map (fun q => (pNeg q.1, q.2))
  else if tx f n p |> colOf |> (· < 0) then some (pNum (tx f n p - 48), p + 1) else some (pCol (colOf (tx f n p)).toNatClampNeg, p + 1)
noncomputable def eProd (f : Nat → Int32) (n : Nat) (fac : Rd) : Nat → Po → Rd
  | 0, _, _ => none
  | m + 1, P, p => match fac p with
    | none => none
    | some (G, q) => if afB P G && !isLg (pMul P G) then (if tx f n q = 42 then eProd f n fac m (pMul P G) (q + 1) else some (pMul P G, q)) else none
noncomputable def eSum (f : Nat → Int32) (n : Nat) (fac : Rd) : Nat → Po → Int32 → Rd
  | 0, _, _, _ => none
  | m + 1, S, t, p => match eProd f n fac 30 (pNum 1) p with
    | none => none
    | some (P, q) => if isLg (pAdd S P t) then none else if tx f n q = 43 then eSum f n fac m (pAdd S P t) 1 (q + 1) else if tx f n q = 45 then eSum f n fac m (pAdd S P t) (-1) (q + 1) else some (pAdd S P t, q)
/-- with d levels left: sum and factor -/
noncomputable def eLev (f : Nat → Int32) (n : Nat) : Nat → Rd × Rd
  | 0 => (fun _ => none, fun _ => none)
  | d + 1 => (fun p => eSum f n (eFac f n (eLev f n d).1 (eLev f n d).2) 30 (pNum 0) 1 p, eFac f n (eLev f n d).1 (eLev f n d).2)
/-! The evaluator's cells: object 9, arrays 10, 11, 12, spare 13 and 14; level l: sums 15 + 6 l, products 17 + 6 l, factors 19 + 6 l, coefficients one behind. -/
abbrev aR (t n : Nat) (s : Nat → Option Nat) : xE := .inl (t, n, .inr (.inr (.inr (.inr s))))
abbrev oE (p : Int32) : xE := .inr (4, [.ref 10, .ref 11, .ref 12, .ref 13, .int p])
def eSt (h : xHp) (p : Int32) : Prop := h 9 = oE p ∧ (∃ s, h 10 = aR 4 9 s ∧ ∀ l, l < 9 → s l = some (15 + 6 * l)) ∧ (∃ s, h 11 = aR 4 9 s ∧ ∀ l, l < 9 → s l = some (17 + 6 * l)) ∧ (∃ s, h 12 = aR 4 9 s ∧ ∀ l, l < 9 → s l = some (19 + 6 * l)) ∧ ∀ k, 13 ≤ k → k ≤ 67 → k % 2 = 1 → h k = oP k ∧ ∃ g, h (k + 1) = aI 81 g
/-- only the place, the spare's and some even cells from b on differ -/
def eFr (b : Nat) (h h' : xHp) : Prop := ∀ k, k ≠ 9 → k ≠ 14 → ¬ (b ≤ k ∧ k ≤ 68 ∧ k % 2 = 0) → h' k = h k
theorem eFr.rf (b : Nat) (h : xHp) : eFr b h h := fun _ _ _ _ => rfl
theorem eFr.tr {b c : Nat} {h h1 h2 : xHp} (hbc : b ≤ c) (a : eFr b h h1) (a2 : eFr c h1 h2) : eFr b h h2 := fun k e1 e2 e3 => (a2 k e1 e2 (fun z => e3 ⟨by omega, z.2⟩)).trans (a k e1 e2 e3)
theorem eFr.mo {b c : Nat} {h h1 : xHp} (hbc : b ≤ c) (a : eFr c h h1) : eFr b h h1 := fun k e1 e2 e3 => a k e1 e2 (fun z => e3 ⟨by omega, z.2⟩)
theorem eFr.up {b k : Nat} {h h1 : xHp} {e : xE} (a : eFr b h h1) (hk : k = 9 ∨ k = 14 ∨ (b ≤ k ∧ k ≤ 68 ∧ k % 2 = 0)) : eFr b h (va_up h1 k e) := by
  intro j e1 e2 e3
  have hj : j ≠ k := by
    intro z
    subst z
    rcases hk with z | z | z
    · exact e1 z
    · exact e2 z
    · exact e3 z
  rw [vu_n hj]
  exact a j e1 e2 e3
theorem eSt.up {h : xHp} {p : Int32} {k : Nat} {g : Nat → Int32} (a : eSt h p) (hk : 14 ≤ k) (hk2 : k ≤ 68) (hk3 : k % 2 = 0) : eSt (va_up h k (aI 81 g)) p := by
  obtain ⟨a1, ⟨s1, a2, a2'⟩, ⟨s2, a3, a3'⟩, ⟨s3, a4, a4'⟩, a5⟩ := a
  refine ⟨vu_t (by omega) a1, ⟨s1, vu_t (by omega) a2, a2'⟩, ⟨s2, vu_t (by omega) a3, a3'⟩, ⟨s3, vu_t (by omega) a4, a4'⟩, fun j h1 h2 h3 => ⟨vu_t (by omega) (a5 j h1 h2 h3).1, ?_⟩⟩
  by_cases e : j + 1 = k
  · subst e
    exact ⟨g, vu_s⟩
  · obtain ⟨g', hg'⟩ := (a5 j h1 h2 h3).2
    exact ⟨g', vu_t e hg'⟩
theorem eSt.pl {h : xHp} {p q : Int32} (a : eSt h p) : eSt (va_up h 9 (oE q)) q := by
  obtain ⟨a1, ⟨s1, a2, a2'⟩, ⟨s2, a3, a3'⟩, ⟨s3, a4, a4'⟩, a5⟩ := a
  refine ⟨vu_s, ⟨s1, vu_t (by omega) a2, a2'⟩, ⟨s2, vu_t (by omega) a3, a3'⟩, ⟨s3, vu_t (by omega) a4, a4'⟩, fun j h1 h2 h3 => ⟨vu_t (by omega) (a5 j h1 h2 h3).1, ?_⟩⟩
  obtain ⟨g', hg'⟩ := (a5 j h1 h2 h3).2
  exact ⟨g', vu_t (by omega) hg'⟩
/-- the text's cells -/
def tSt (h : xHp) (f : Nat → Int32) (n : Nat) : Prop := h 5 = .inr (2, [.ref 6, .int (nI n)]) ∧ h 6 = .inl (1, 30, .inl f)
theorem tSt.fr {h h' : xHp} {f : Nat → Int32} {n b : Nat} (a : tSt h f n) (e : eFr b h h') (hb : 10 ≤ b) : tSt h' f n := ⟨(e 5 (by decide) (by decide) (by omega)).trans a.1, (e 6 (by decide) (by decide) (by omega)).trans a.2⟩
/-- what a reading method answers: cell c has the polynomial -/
def eOut (c : Nat) (h : xHp) (o : Option (Po × Int32)) : Option Value → xHp → Prop := fun r h' => ∃ p', eSt h' p' ∧ eFr c h h' ∧ match o with
  | none => r = some (.int 0)
  | some q => r = some (.int 1) ∧ p' = q.2 ∧ ∃ g, h' c = aI 81 g ∧ pe g q.1
end
section
/-! Evaluator: its methods. -/
theorem XW_c {Γ : xG} {y : MethodName} {cc : ByteArray} {nL : Nat} {ret : Option FieldType} {dd : Nat × Nat × Nat} {Q : State → Prop} {ce sl N : Nat} {h : xHp} {pc : Nat} {lv : List (Option Value)} {st : List Value} {a b : Int32} (e : a = b) (k : XW Γ y cc nL ret dd Q ce sl N h pc lv (.int b :: st)) : XW Γ y cc nL ret dd Q ce sl N h pc lv (.int a :: st) := e ▸ k
theorem pe_num (f : Po) (v : Int32) : pe (upd (filF f 0 81) 0 v) (pNum v) := by
  intro j hj
  by_cases e : j = 0
  · subst e
    simp [upd, pNum]
  · simp [upd, pNum, e, filF, hj, pZ]
theorem pe_col (f : Po) (c : Nat) : pe (upd (filF f 0 81) (cp c) 1) (pCol c) := by
  intro j hj
  by_cases e : j = cp c
  · subst e
    simp [upd, pCol]
  · simp [upd, pCol, e, filF, hj, pZ]
theorem pe_cpy (f g : Po) : pe (va_cpy g f 0 0 81) g := by
  intro j hj
  simp [va_cpy, hj]
theorem pe_neg (f : Po) {g g' : Po} (h : pe g g') : pe (negU f g 81) (pNeg g') := by
  intro j hj
  simp [negU, hj, pNeg, h j hj]
theorem pe_add {f f' g g' : Po} (t : Int32) (h : pe f f') (h2 : pe g g') : pe (addU f g t 81) (pAdd f' g' t) := by
  intro j hj
  simp [addU, hj, pAdd, h j hj, h2 j hj]
theorem pe_mul (f : Po) {l l' r r' : Po} (h : pe l l') (h2 : pe r r') : pe (pout l r (filF f 0 81) 81) (pMul l' r') := pout_pe h h2 (fun j hj => by simp [filF, hj, pZ]) 81 (Nat.le_refl _)
def eM (f : Nat → Int32) (n N D : Nat) : Prop := ∀ (h : xHp) (p : Int32) (L : Nat), D + L = 9 → eSt h p → tSt h f n → XM y_E_readSum b_E_readSum 6 (some .boolean) (4 * D + 5) 0 0 [.ref 9, .ref 5, .int (nI L)] N h (eOut (16 + 6 * L) h ((eLev f n D).1 p)) ∧ XM y_E_readFactor b_E_readFactor 5 (some .boolean) (4 * D + 3) 0 0 [.ref 9, .ref 5, .int (nI L)] N h (eOut (20 + 6 * L) h ((eLev f n D).2 p))
set_option maxRecDepth 100000 in
set_option maxHeartbeats 4000000 in
theorem c_E_zero {N n : Nat} {f : Nat → Int32} : eM f n N 0 := by
  intro h p L hL hs ht
  have e : L = 9 := by omega
  subst e
  constructor
  · refine xM_intro [some (.ref 9), some (.ref 5), some (.int (nI 9)), none, none, none] (by decide) (fun _ => rfl) (fun _ => Nat.le_of_ble_eq_true rfl) (fun Γ => ?_)
    refine x_iload_n d_E_readSum_0 rfl ?_
    refine x_bipush (v := 9) d_E_readSum_1 (by decide) ?_
    refine x_icmp_lt 8 d_E_readSum_3 (by decide) (fun c1 => ?_) (fun c1 => ?_)
    · exact absurd c1 (by decide)
    · refine x_iconst (v := 0) d_E_readSum_6 (by decide) ?_
      refine x_zret d_E_readSum_7 (by first | rfl | assumption) ?_
      exact ⟨p, hs, eFr.rf _ _, rfl⟩
  · refine xM_intro [some (.ref 9), some (.ref 5), some (.int (nI 9)), none, none] (by decide) (fun _ => rfl) (fun _ => Nat.le_of_ble_eq_true rfl) (fun Γ => ?_)
    refine x_iload_n d_E_readFactor_0 rfl ?_
    refine x_bipush (v := 9) d_E_readFactor_1 (by decide) ?_
    refine x_icmp_lt 8 d_E_readFactor_3 (by decide) (fun c1 => ?_) (fun c1 => ?_)
    · exact absurd c1 (by decide)
    · refine x_iconst (v := 0) d_E_readFactor_6 (by decide) ?_
      refine x_zret d_E_readFactor_7 (by first | rfl | assumption) ?_
      exact ⟨p, hs, eFr.rf _ _, rfl⟩
set_option maxRecDepth 100000 in
set_option maxHeartbeats 4000000 in
theorem c_E_brackets {N n D L : Nat} {f : Nat → Int32} {h : xHp} {p : Int32} (hN : 94 ≤ N) (hM : eM f n N D) (hL : D + 1 + L = 9) (hs : eSt h p) (ht : tSt h f n) : XM y_E_readRestOfBrackets b_E_readRestOfBrackets 3 (some .boolean) (4 * D + 6) 0 0 [.ref 9, .ref 5, .int (nI L)] N h (eOut (20 + 6 * L) h (((eLev f n D).1 p).map (fun q => (q.1, q.2 + 1)))) := by
  have h9 := hs.1
  refine xM_intro [some (.ref 9), some (.ref 5), some (.int (nI L))] (by decide) (fun _ => rfl) (fun _ => Nat.le_of_ble_eq_true rfl) (fun Γ => ?_)
  refine x_aload_n d_E_readRestOfBrackets_0 rfl ?_
  refine x_aload_n d_E_readRestOfBrackets_1 rfl ?_
  refine x_iload_n d_E_readRestOfBrackets_2 rfl ?_
  refine x_iconst (v := 1) d_E_readRestOfBrackets_3 (by decide) ?_
  refine x_iadd d_E_readRestOfBrackets_4 ?_
  rw [nI_1]
  refine x_cV ((hM h p (L + 1) (by omega) hs ht).1) k_E_32 v_E_readSum d_E_readRestOfBrackets_5 rfl (by omega) (by first | assumption | exact vu_s | exact vu_t (by omega) (by first | assumption | exact vu_s | exact vu_t (by omega) (by first | assumption | exact vu_s | exact vu_t (by omega) (by first | assumption | exact vu_s))) | rfl | (simp only [va_up, Nat.reduceEqDiff, ↓reduceIte]; first | rfl | assumption)) rfl (by omega) (Nat.le_of_ble_eq_true rfl) ?_
  intro r h' hq
  obtain ⟨p', s', fr', hm⟩ := hq
  have fr2 : eFr (20 + 6 * L) h h' := eFr.mo (by omega) fr'
  cases ho : (eLev f n D).1 p with
  | none =>
    rw [ho] at hm
    obtain rfl := hm
    refine x_if_ne 13 d_E_readRestOfBrackets_8 (by decide) (fun c1 => ?_) (fun c1 => ?_)
    · exact absurd rfl c1
    · refine x_iconst (v := 0) d_E_readRestOfBrackets_11 (by decide) ?_
      refine x_zret d_E_readRestOfBrackets_12 (by first | rfl | assumption) ?_
      exact ⟨p', s', fr2, rfl⟩
  | some q =>
    rw [ho] at hm
    obtain ⟨rfl, rfl, g, hg, hpe⟩ := hm
    obtain ⟨k9, ⟨s1, a2, a2'⟩, -, ⟨s3, a4, a4'⟩, a5⟩ := id s'
    have hD : 1 ≤ D := by
      rcases Nat.eq_zero_or_pos D with z | z
      · subst z
        cases ho
      · exact z
    have hiL : vp_in (nI L) 9 := vp_in_nI (by omega) (by decide)
    have hiL1 : vp_in (nI L + 1) 9 := by rw [nI_1]; exact vp_in_nI (by omega) (by decide)
    obtain ⟨b1, g1, b2⟩ := a5 (19 + 6 * L) (by omega) (by omega) (by omega)
    obtain ⟨b3, -⟩ := a5 (15 + 6 * (L + 1)) (by omega) (by omega) (by omega)
    have hg' : h' (15 + 6 * (L + 1) + 1) = aI 81 g := by rw [show 15 + 6 * (L + 1) + 1 = 16 + 6 * (L + 1) by omega]; exact hg
    refine x_if_ne 13 d_E_readRestOfBrackets_8 (by decide) (fun c1 => ?_) (fun c1 => ?_)
    · refine x_aload_n d_E_readRestOfBrackets_13 rfl ?_
      refine x_dup d_E_readRestOfBrackets_14 rfl ?_
      refine x_get f_E_28 d_E_readRestOfBrackets_15 (by omega) (by first | assumption | exact vu_s | exact vu_t (by omega) (by first | assumption | exact vu_s | exact vu_t (by omega) (by first | assumption | exact vu_s | exact vu_t (by omega) (by first | assumption | exact vu_s))) | rfl | (simp only [va_up, Nat.reduceEqDiff, ↓reduceIte]; first | rfl | assumption)) rfl ?_
      refine x_iconst (v := 1) d_E_readRestOfBrackets_18 (by decide) ?_
      refine x_iadd d_E_readRestOfBrackets_19 ?_
      refine x_put f_E_28 d_E_readRestOfBrackets_20 (by omega) (by first | assumption | exact vu_s | exact vu_t (by omega) (by first | assumption | exact vu_s | exact vu_t (by omega) (by first | assumption | exact vu_s | exact vu_t (by omega) (by first | assumption | exact vu_s))) | rfl | (simp only [va_up, Nat.reduceEqDiff, ↓reduceIte]; first | rfl | assumption)) (Nat.le_of_ble_eq_true rfl) (fun _ => ⟨rfl, rfl⟩) ?_
      refine x_aload_n d_E_readRestOfBrackets_23 rfl ?_
      refine x_get f_E_20 d_E_readRestOfBrackets_24 (by omega) (by first | assumption | exact vu_s | exact vu_t (by omega) (by first | assumption | exact vu_s | exact vu_t (by omega) (by first | assumption | exact vu_s | exact vu_t (by omega) (by first | assumption | exact vu_s))) | rfl | (simp only [va_up, Nat.reduceEqDiff, ↓reduceIte]; first | rfl | assumption)) rfl ?_
      refine x_iload_n d_E_readRestOfBrackets_27 rfl ?_
      refine x_aald (t := 4) (v := 19 + 6 * L) rfl d_E_readRestOfBrackets_28 (by omega) (vu_t (by omega) a4) hiL (by rw [nI_clamp (by omega)]; exact a4' L (by omega)) ?_
      refine x_aload_n d_E_readRestOfBrackets_29 rfl ?_
      refine x_get f_E_13 d_E_readRestOfBrackets_30 (by omega) (by first | assumption | exact vu_s | exact vu_t (by omega) (by first | assumption | exact vu_s | exact vu_t (by omega) (by first | assumption | exact vu_s | exact vu_t (by omega) (by first | assumption | exact vu_s))) | rfl | (simp only [va_up, Nat.reduceEqDiff, ↓reduceIte]; first | rfl | assumption)) rfl ?_
      refine x_iload_n d_E_readRestOfBrackets_33 rfl ?_
      refine x_iconst (v := 1) d_E_readRestOfBrackets_34 (by decide) ?_
      refine x_iadd d_E_readRestOfBrackets_35 ?_
      refine x_aald (t := 4) (v := 15 + 6 * (L + 1)) rfl d_E_readRestOfBrackets_36 (by omega) (vu_t (by omega) a2) hiL1 (by rw [nI_1, nI_clamp (by omega)]; exact a2' (L + 1) (by omega)) ?_
      refine x_cVv (c_P_becomeCopy (by omega) (by omega) (vu_t (by omega) b1) (vu_t (by omega) b2) (vu_t (by omega) b3) (vu_t (by omega) hg')) k_E_60 v_P_becomeCopy d_E_readRestOfBrackets_37 rfl (by omega) (by first | assumption | exact vu_s | exact vu_t (by omega) (by first | assumption | exact vu_s | exact vu_t (by omega) (by first | assumption | exact vu_s | exact vu_t (by omega) (by first | assumption | exact vu_s))) | rfl | (simp only [va_up, Nat.reduceEqDiff, ↓reduceIte]; first | rfl | assumption)) rfl (by omega) (Nat.le_of_ble_eq_true rfl) ?_
      refine x_iconst (v := 1) d_E_readRestOfBrackets_40 (by decide) ?_
      refine x_zret d_E_readRestOfBrackets_41 (by first | rfl | assumption) ?_
      rw [show 19 + 6 * L + 1 = 20 + 6 * L by omega]
      refine ⟨q.2 + 1, ?_, ?_, rfl, rfl, _, vu_s, (pe_cpy _ _).tr hpe⟩
      · exact eSt.up (eSt.pl s') (by omega) (by omega) (by omega)
      · exact (fr2.up (Or.inl rfl)).up (Or.inr (Or.inr (by omega)))
    · exact absurd c1 (by decide)
set_option maxRecDepth 100000 in
set_option maxHeartbeats 4000000 in
theorem c_E_negative {N n D L : Nat} {f : Nat → Int32} {h : xHp} {p : Int32} (hN : 94 ≤ N) (hM : eM f n N D) (hL : D + 1 + L = 9) (hs : eSt h p) (ht : tSt h f n) : XM y_E_readRestOfNegative b_E_readRestOfNegative 3 (some .boolean) (4 * D + 6) 0 0 [.ref 9, .ref 5, .int (nI L)] N h (eOut (20 + 6 * L) h (((eLev f n D).2 p).map (fun q => (pNeg q.1, q.2)))) := by
  have h9 := hs.1
  refine xM_intro [some (.ref 9), some (.ref 5), some (.int (nI L))] (by decide) (fun _ => rfl) (fun _ => Nat.le_of_ble_eq_true rfl) (fun Γ => ?_)
  refine x_aload_n d_E_readRestOfNegative_0 rfl ?_
  refine x_aload_n d_E_readRestOfNegative_1 rfl ?_
  refine x_iload_n d_E_readRestOfNegative_2 rfl ?_
  refine x_iconst (v := 1) d_E_readRestOfNegative_3 (by decide) ?_
  refine x_iadd d_E_readRestOfNegative_4 ?_
  rw [nI_1]
  refine x_cV ((hM h p (L + 1) (by omega) hs ht).2) k_E_53 v_E_readFactor d_E_readRestOfNegative_5 rfl (by omega) (by first | assumption | exact vu_s | exact vu_t (by omega) (by first | assumption | exact vu_s | exact vu_t (by omega) (by first | assumption | exact vu_s | exact vu_t (by omega) (by first | assumption | exact vu_s))) | rfl | (simp only [va_up, Nat.reduceEqDiff, ↓reduceIte]; first | rfl | assumption)) rfl (by omega) (Nat.le_of_ble_eq_true rfl) ?_
  intro r h' hq
  obtain ⟨p', s', fr', hm⟩ := hq
  have fr2 : eFr (20 + 6 * L) h h' := eFr.mo (by omega) fr'
  cases ho : (eLev f n D).2 p with
  | none =>
    rw [ho] at hm
    obtain rfl := hm
    refine x_if_ne 13 d_E_readRestOfNegative_8 (by decide) (fun c1 => ?_) (fun c1 => ?_)
    · exact absurd rfl c1
    · refine x_iconst (v := 0) d_E_readRestOfNegative_11 (by decide) ?_
      refine x_zret d_E_readRestOfNegative_12 (by first | rfl | assumption) ?_
      exact ⟨p', s', fr2, rfl⟩
  | some q =>
    rw [ho] at hm
    obtain ⟨rfl, rfl, g, hg, hpe⟩ := hm
    obtain ⟨k9, -, -, ⟨s3, a4, a4'⟩, a5⟩ := id s'
    have hiL : vp_in (nI L) 9 := vp_in_nI (by omega) (by decide)
    obtain ⟨b1, g1, b2⟩ := a5 (19 + 6 * L) (by omega) (by omega) (by omega)
    refine x_if_ne 13 d_E_readRestOfNegative_8 (by decide) (fun c1 => ?_) (fun c1 => ?_)
    · have hD : 1 ≤ D := by
        rcases Nat.eq_zero_or_pos D with z | z
        · subst z
          cases ho
        · exact z
      have hiL1 : vp_in (nI L + 1) 9 := by rw [nI_1]; exact vp_in_nI (by omega) (by decide)
      obtain ⟨b3, -⟩ := a5 (19 + 6 * (L + 1)) (by omega) (by omega) (by omega)
      have hg' : h' (19 + 6 * (L + 1) + 1) = aI 81 g := by rw [show 19 + 6 * (L + 1) + 1 = 20 + 6 * (L + 1) by omega]; exact hg
      refine x_aload_n d_E_readRestOfNegative_13 rfl ?_
      refine x_get f_E_20 d_E_readRestOfNegative_14 (by omega) (by first | assumption | exact vu_s | exact vu_t (by omega) (by first | assumption | exact vu_s | exact vu_t (by omega) (by first | assumption | exact vu_s | exact vu_t (by omega) (by first | assumption | exact vu_s))) | rfl | (simp only [va_up, Nat.reduceEqDiff, ↓reduceIte]; first | rfl | assumption)) rfl ?_
      refine x_iload_n d_E_readRestOfNegative_17 rfl ?_
      refine x_aald (t := 4) (v := 19 + 6 * L) rfl d_E_readRestOfNegative_18 (by omega) a4 hiL (by rw [nI_clamp (by omega)]; exact a4' L (by omega)) ?_
      refine x_aload_n d_E_readRestOfNegative_19 rfl ?_
      refine x_get f_E_20 d_E_readRestOfNegative_20 (by omega) (by first | assumption | exact vu_s | exact vu_t (by omega) (by first | assumption | exact vu_s | exact vu_t (by omega) (by first | assumption | exact vu_s | exact vu_t (by omega) (by first | assumption | exact vu_s))) | rfl | (simp only [va_up, Nat.reduceEqDiff, ↓reduceIte]; first | rfl | assumption)) rfl ?_
      refine x_iload_n d_E_readRestOfNegative_23 rfl ?_
      refine x_iconst (v := 1) d_E_readRestOfNegative_24 (by decide) ?_
      refine x_iadd d_E_readRestOfNegative_25 ?_
      refine x_aald (t := 4) (v := 19 + 6 * (L + 1)) rfl d_E_readRestOfNegative_26 (by omega) a4 hiL1 (by rw [nI_1, nI_clamp (by omega)]; exact a4' (L + 1) (by omega)) ?_
      refine x_cVv (c_P_becomeNegative (by omega) (by omega) (by omega) b1 b2 b3 hg') k_E_77 v_P_becomeNegative d_E_readRestOfNegative_27 rfl (by omega) (by first | assumption | exact vu_s | exact vu_t (by omega) (by first | assumption | exact vu_s | exact vu_t (by omega) (by first | assumption | exact vu_s | exact vu_t (by omega) (by first | assumption | exact vu_s))) | rfl | (simp only [va_up, Nat.reduceEqDiff, ↓reduceIte]; first | rfl | assumption)) rfl (by omega) (Nat.le_of_ble_eq_true rfl) ?_
      refine x_iconst (v := 1) d_E_readRestOfNegative_30 (by decide) ?_
      refine x_zret d_E_readRestOfNegative_31 (by first | rfl | assumption) ?_
      rw [show 19 + 6 * L + 1 = 20 + 6 * L by omega]
      refine ⟨q.2, ?_, ?_, rfl, rfl, _, vu_s, pe_neg _ hpe⟩
      · exact eSt.up s' (by omega) (by omega) (by omega)
      · exact fr2.up (Or.inr (Or.inr (by omega)))
    · exact absurd c1 (by decide)
set_option maxRecDepth 100000 in
set_option maxHeartbeats 4000000 in
theorem c_E_factor {N n D L : Nat} {f : Nat → Int32} {h : xHp} {p : Int32} (hN : 94 ≤ N) (hn : n ≤ 30) (hf : ∀ j, chOK (f j)) (hM : eM f n N D) (hL : D + 1 + L = 9) (hs : eSt h p) (ht : tSt h f n) : XM y_E_readFactor b_E_readFactor 5 (some .boolean) (4 * (D + 1) + 3) 0 0 [.ref 9, .ref 5, .int (nI L)] N h (eOut (20 + 6 * L) h ((eLev f n (D + 1)).2 p)) := by
  obtain ⟨h9, -, -, ⟨s3, a4, a4'⟩, a5⟩ := id hs
  obtain ⟨h5, h6⟩ := id ht
  obtain ⟨b1, g1, b2⟩ := a5 (19 + 6 * L) (by omega) (by omega) (by omega)
  have hiL : vp_in (nI L) 9 := vp_in_nI (by omega) (by decide)
  refine xM_intro [some (.ref 9), some (.ref 5), some (.int (nI L)), none, none] (by decide) (fun _ => rfl) (fun _ => Nat.le_of_ble_eq_true rfl) (fun Γ => ?_)
  refine x_iload_n d_E_readFactor_0 rfl ?_
  refine x_bipush (v := 9) d_E_readFactor_1 (by decide) ?_
  refine x_icmp_lt 8 d_E_readFactor_3 (by decide) (fun c1 => ?_) (fun c1 => ?_)
  · refine x_aload_n d_E_readFactor_8 rfl ?_
    refine x_aload_n d_E_readFactor_9 rfl ?_
    refine x_get f_E_28 d_E_readFactor_10 (by omega) (by first | assumption | exact vu_s | exact vu_t (by omega) (by first | assumption | exact vu_s | exact vu_t (by omega) (by first | assumption | exact vu_s | exact vu_t (by omega) (by first | assumption | exact vu_s))) | rfl | (simp only [va_up, Nat.reduceEqDiff, ↓reduceIte]; first | rfl | assumption)) rfl ?_
    refine x_cVe (c_T_at p hN hn (fun j => (hf j).1) h5 h6) k_E_49 v_T_at d_E_readFactor_13 rfl (by omega) (by first | assumption | exact vu_s | exact vu_t (by omega) (by first | assumption | exact vu_s | exact vu_t (by omega) (by first | assumption | exact vu_s | exact vu_t (by omega) (by first | assumption | exact vu_s))) | rfl | (simp only [va_up, Nat.reduceEqDiff, ↓reduceIte]; first | rfl | assumption)) rfl (by omega) (Nat.le_of_ble_eq_true rfl) ?_
    refine XW_c (show (if 0 ≤ p ∧ p < nI n then f p.toNatClampNeg else 0) = tx f n p from rfl) ?_
    refine x_istore_n d_E_readFactor_16 (by decide) rfl ?_
    refine x_aload_n d_E_readFactor_17 rfl ?_
    refine x_dup d_E_readFactor_18 rfl ?_
    refine x_get f_E_28 d_E_readFactor_19 (by omega) (by first | assumption | exact vu_s | exact vu_t (by omega) (by first | assumption | exact vu_s | exact vu_t (by omega) (by first | assumption | exact vu_s | exact vu_t (by omega) (by first | assumption | exact vu_s))) | rfl | (simp only [va_up, Nat.reduceEqDiff, ↓reduceIte]; first | rfl | assumption)) rfl ?_
    refine x_iconst (v := 1) d_E_readFactor_22 (by decide) ?_
    refine x_iadd d_E_readFactor_23 ?_
    refine x_put f_E_28 d_E_readFactor_24 (by omega) (by first | assumption | exact vu_s | exact vu_t (by omega) (by first | assumption | exact vu_s | exact vu_t (by omega) (by first | assumption | exact vu_s | exact vu_t (by omega) (by first | assumption | exact vu_s))) | rfl | (simp only [va_up, Nat.reduceEqDiff, ↓reduceIte]; first | rfl | assumption)) (Nat.le_of_ble_eq_true rfl) (fun _ => ⟨rfl, rfl⟩) ?_
    refine x_iload_n d_E_readFactor_27 rfl ?_
    refine x_bipush (v := 40) d_E_readFactor_28 (by decide) ?_
    have s1 : eSt (va_up h 9 (oE (p + 1))) (p + 1) := hs.pl
    have fr1 : eFr (20 + 6 * L) h (va_up h 9 (oE (p + 1))) := (eFr.rf _ h).up (Or.inl rfl)
    have t1 : tSt (va_up h 9 (oE (p + 1))) f n := ht.fr fr1 (by omega)
    have out : ∀ {r : Option Value} {h' : xHp} {o : Option (Po × Int32)}, eOut (20 + 6 * L) (va_up h 9 (oE (p + 1))) o r h' → eOut (20 + 6 * L) h o r h' := by
      intro r h' o hq
      obtain ⟨p', z1, z2, z3⟩ := hq
      exact ⟨p', z1, fr1.tr (Nat.le_refl _) z2, z3⟩
    refine x_icmp_ne 40 d_E_readFactor_30 (by decide) (fun c2 => ?_) (fun c2 => ?_)
    · refine x_iload_n d_E_readFactor_40 rfl ?_
      refine x_bipush (v := 45) d_E_readFactor_41 (by decide) ?_
      refine x_icmp_ne 53 d_E_readFactor_43 (by decide) (fun c3 => ?_) (fun c3 => ?_)
      · refine x_iload_n d_E_readFactor_53 rfl ?_
        refine x_cSe (c_T_columnOf (tx f n p)) k_E_70 s_T_columnOf d_E_readFactor_54 rfl (by omega) (Nat.le_of_ble_eq_true rfl) ?_
        refine x_istore d_E_readFactor_57 (by decide) rfl ?_
        refine x_iload d_E_readFactor_59 rfl ?_
        refine x_if_lt 78 d_E_readFactor_61 (by decide) (fun c4 => ?_) (fun c4 => ?_)
        · have eo : (eLev f n (D + 1)).2 p = some (pNum (tx f n p - 48), p + 1) := by
            show eFac f n _ _ p = _
            unfold eFac
            rw [if_neg c2, if_neg c3]
            exact if_pos c4
          refine x_aload_n d_E_readFactor_78 rfl ?_
          refine x_get f_E_20 d_E_readFactor_79 (by omega) (by first | assumption | exact vu_s | exact vu_t (by omega) (by first | assumption | exact vu_s | exact vu_t (by omega) (by first | assumption | exact vu_s | exact vu_t (by omega) (by first | assumption | exact vu_s))) | rfl | (simp only [va_up, Nat.reduceEqDiff, ↓reduceIte]; first | rfl | assumption)) rfl ?_
          refine x_iload_n d_E_readFactor_82 rfl ?_
          refine x_aald (t := 4) (v := 19 + 6 * L) rfl d_E_readFactor_83 (by omega) (vu_t (by omega) a4) hiL (by rw [nI_clamp (by omega)]; exact a4' L (by omega)) ?_
          refine x_iload_n d_E_readFactor_84 rfl ?_
          refine x_bipush (v := 48) d_E_readFactor_85 (by decide) ?_
          refine x_isub d_E_readFactor_87 ?_
          refine x_cVv (c_P_becomeNumber (tx f n p - 48) (by omega) (vu_t (by omega) b1) (vu_t (by omega) b2)) k_E_36 v_P_becomeNumber d_E_readFactor_88 rfl (by omega) (by first | assumption | exact vu_s | exact vu_t (by omega) (by first | assumption | exact vu_s | exact vu_t (by omega) (by first | assumption | exact vu_s | exact vu_t (by omega) (by first | assumption | exact vu_s))) | rfl | (simp only [va_up, Nat.reduceEqDiff, ↓reduceIte]; first | rfl | assumption)) rfl (by omega) (Nat.le_of_ble_eq_true rfl) ?_
          refine x_iconst (v := 1) d_E_readFactor_91 (by decide) ?_
          refine x_zret d_E_readFactor_92 (by first | rfl | assumption) ?_
          rw [eo, show 19 + 6 * L + 1 = 20 + 6 * L by omega]
          exact ⟨p + 1, eSt.up s1 (by omega) (by omega) (by omega), fr1.up (Or.inr (Or.inr (by omega))), rfl, rfl, _, vu_s, pe_num _ _⟩
        · have eo : (eLev f n (D + 1)).2 p = some (pCol (colOf (tx f n p)).toNatClampNeg, p + 1) := by
            show eFac f n _ _ p = _
            unfold eFac
            rw [if_neg c2, if_neg c3]
            exact if_neg c4
          obtain ⟨c, hc, hcc⟩ : ∃ c : Nat, c < 4 ∧ colOf (tx f n p) = nI c := by
            have := (colOf_in (fi := 0) (la := 3) (c := tx f n p) (by decide) (by
              have z1 := Int32.not_lt.mp c4
              have z2 : colOf (tx f n p) ≤ 4 := by
                unfold colOf
                split
                · rename_i e
                  have a1 := Int32.le_iff_toInt_le.mp e.1
                  have a2 := Int32.le_iff_toInt_le.mp e.2
                  have b1 : (65 : Int32).toInt = 65 := rfl
                  have b2 : (68 : Int32).toInt = 68 := rfl
                  refine Int32.le_iff_toInt_le.mpr ?_
                  have a3 : (tx f n p - 65).toInt = (tx f n p).toInt - 65 := by
                    rw [Int32.toInt_sub, b1]
                    apply Int.bmod_eq_of_le
                    · omega
                    · omega
                  rw [a3]
                  have b3 : (4 : Int32).toInt = 4 := rfl
                  omega
                · decide
              simp [isCC, z1, z2])).1
            exact vp_in_of this (by decide)
          rw [hcc] at eo ⊢
          rw [nI_clamp (show c < 2 ^ 31 by omega)] at eo
          refine x_aload_n d_E_readFactor_64 rfl ?_
          refine x_get f_E_20 d_E_readFactor_65 (by omega) (by first | assumption | exact vu_s | exact vu_t (by omega) (by first | assumption | exact vu_s | exact vu_t (by omega) (by first | assumption | exact vu_s | exact vu_t (by omega) (by first | assumption | exact vu_s))) | rfl | (simp only [va_up, Nat.reduceEqDiff, ↓reduceIte]; first | rfl | assumption)) rfl ?_
          refine x_iload_n d_E_readFactor_68 rfl ?_
          refine x_aald (t := 4) (v := 19 + 6 * L) rfl d_E_readFactor_69 (by omega) (vu_t (by omega) a4) hiL (by rw [nI_clamp (by omega)]; exact a4' L (by omega)) ?_
          refine x_iload d_E_readFactor_70 rfl ?_
          refine x_cVv (c_P_becomeColumn (by omega) hc (vu_t (by omega) b1) (vu_t (by omega) b2)) k_E_74 v_P_becomeColumn d_E_readFactor_72 rfl (by omega) (by first | assumption | exact vu_s | exact vu_t (by omega) (by first | assumption | exact vu_s | exact vu_t (by omega) (by first | assumption | exact vu_s | exact vu_t (by omega) (by first | assumption | exact vu_s))) | rfl | (simp only [va_up, Nat.reduceEqDiff, ↓reduceIte]; first | rfl | assumption)) rfl (by omega) (Nat.le_of_ble_eq_true rfl) ?_
          refine x_goto 91 d_E_readFactor_75 (by decide) ?_
          refine x_iconst (v := 1) d_E_readFactor_91 (by decide) ?_
          refine x_zret d_E_readFactor_92 (by first | rfl | assumption) ?_
          rw [eo, show 19 + 6 * L + 1 = 20 + 6 * L by omega]
          exact ⟨p + 1, eSt.up s1 (by omega) (by omega) (by omega), fr1.up (Or.inr (Or.inr (by omega))), rfl, rfl, _, vu_s, pe_col _ _⟩
      · have eo : (eLev f n (D + 1)).2 p = ((eLev f n D).2 (p + 1)).map (fun q => (pNeg q.1, q.2)) := by
          show eFac f n _ _ p = _
          unfold eFac
          rw [if_neg c2, if_pos c3]
        rw [eo]
        refine x_aload_n d_E_readFactor_46 rfl ?_
        refine x_aload_n d_E_readFactor_47 rfl ?_
        refine x_iload_n d_E_readFactor_48 rfl ?_
        refine x_cV (c_E_negative hN hM hL s1 t1) k_E_67 v_E_readRestOfNegative d_E_readFactor_49 rfl (by omega) (by first | assumption | exact vu_s | exact vu_t (by omega) (by first | assumption | exact vu_s | exact vu_t (by omega) (by first | assumption | exact vu_s | exact vu_t (by omega) (by first | assumption | exact vu_s))) | rfl | (simp only [va_up, Nat.reduceEqDiff, ↓reduceIte]; first | rfl | assumption)) rfl (by omega) (Nat.le_of_ble_eq_true rfl) ?_
        intro r h' hq
        have hq := out hq
        obtain ⟨p', z1, z2, z3⟩ := id hq
        cases ho : ((eLev f n D).2 (p + 1)).map (fun q => (pNeg q.1, q.2)) with
        | none =>
          rw [ho] at z3 hq
          obtain rfl := z3
          refine x_zret d_E_readFactor_52 (by first | rfl | assumption) ?_
          exact hq
        | some q =>
          rw [ho] at z3 hq
          obtain ⟨rfl, -⟩ := z3
          refine x_zret d_E_readFactor_52 (by first | rfl | assumption) ?_
          exact hq
    · have eo : (eLev f n (D + 1)).2 p = ((eLev f n D).1 (p + 1)).map (fun q => (q.1, q.2 + 1)) := by
        show eFac f n _ _ p = _
        unfold eFac
        rw [if_pos c2]
      rw [eo]
      refine x_aload_n d_E_readFactor_33 rfl ?_
      refine x_aload_n d_E_readFactor_34 rfl ?_
      refine x_iload_n d_E_readFactor_35 rfl ?_
      refine x_cV (c_E_brackets hN hM hL s1 t1) k_E_64 v_E_readRestOfBrackets d_E_readFactor_36 rfl (by omega) (by first | assumption | exact vu_s | exact vu_t (by omega) (by first | assumption | exact vu_s | exact vu_t (by omega) (by first | assumption | exact vu_s | exact vu_t (by omega) (by first | assumption | exact vu_s))) | rfl | (simp only [va_up, Nat.reduceEqDiff, ↓reduceIte]; first | rfl | assumption)) rfl (by omega) (Nat.le_of_ble_eq_true rfl) ?_
      intro r h' hq
      have hq := out hq
      obtain ⟨p', z1, z2, z3⟩ := id hq
      cases ho : ((eLev f n D).1 (p + 1)).map (fun q => (q.1, q.2 + 1)) with
      | none =>
        rw [ho] at z3 hq
        obtain rfl := z3
        refine x_zret d_E_readFactor_39 (by first | rfl | assumption) ?_
        exact hq
      | some q =>
        rw [ho] at z3 hq
        obtain ⟨rfl, -⟩ := z3
        refine x_zret d_E_readFactor_39 (by first | rfl | assumption) ?_
        exact hq
  · exact absurd (nI_lt (show L < 9 by omega) (by decide)) c1
end
section
/-! Evaluator: products, sums. -/
set_option maxRecDepth 100000 in
set_option maxHeartbeats 4000000 in
theorem c_E_product {N n D L : Nat} {f : Nat → Int32} {h : xHp} {p : Int32} (hN : 94 ≤ N) (hn : n ≤ 30) (hf : ∀ j, chOK (f j)) (hM : eM f n N D) (hL : D + 1 + L = 9) (hs : eSt h p) (ht : tSt h f n) : XM y_E_readProduct b_E_readProduct 4 (some .boolean) (4 * (D + 1) + 4) 0 0 [.ref 9, .ref 5, .int (nI L)] N h (eOut (18 + 6 * L) h (eProd f n (eLev f n (D + 1)).2 30 (pNum 1) p)) := by
  have hiL : vp_in (nI L) 9 := vp_in_nI (by omega) (by decide)
  have hcL : (nI L).toNatClampNeg = L := nI_clamp (by omega)
  refine xM_intro [some (.ref 9), some (.ref 5), some (.int (nI L)), none] (by decide) (fun _ => rfl) (fun _ => Nat.le_of_ble_eq_true rfl) (fun Γ => ?_)
  generalize ho : eProd f n (eLev f n (D + 1)).2 30 (pNum 1) p = o
  have key : ∀ (m k : Nat) (P g : Po) (p : Int32) (hh : xHp), m + k = 30 → eSt hh p → eFr (18 + 6 * L) h hh → hh (18 + 6 * L) = aI 81 g → pe g P → eProd f n (eLev f n (D + 1)).2 m P p = o → XW Γ y_E_readProduct b_E_readProduct 4 (some .boolean) (4 * (D + 1) + 4, 0, 0) (xQ Γ (N + 0) 0 0 (eOut (18 + 6 * L) h o)) 0 0 N hh 12 [some (.ref 9), some (.ref 5), some (.int (nI L)), some (.int (nI k))] [] := by
    intro m
    induction m with
    | zero =>
      intro k P g p hh hk hs hfr hg hpe ho
      have e : k = 30 := by omega
      subst e
      refine x_iload_n d_E_readProduct_12 rfl ?_
      refine x_bipush (v := 30) d_E_readProduct_13 (by decide) ?_
      refine x_icmp_ge 95 d_E_readProduct_15 (by decide) (fun c1 => ?_) (fun c1 => ?_)
      · refine x_iconst (v := 0) d_E_readProduct_95 (by decide) ?_
        refine x_zret d_E_readProduct_96 (by first | rfl | assumption) ?_
        rw [← ho]
        exact ⟨p, hs, hfr, rfl⟩
      · exact absurd (by decide) c1
    | succ m ih =>
      intro k P g p hh hk hs hfr hg hpe ho
      have h9 := hs.1
      refine x_iload_n d_E_readProduct_12 rfl ?_
      refine x_bipush (v := 30) d_E_readProduct_13 (by decide) ?_
      refine x_icmp_ge 95 d_E_readProduct_15 (by decide) (fun c1 => ?_) (fun c1 => ?_)
      · exact absurd c1 (nI_ge (show k < 30 by omega) (by decide))
      · refine x_aload_n d_E_readProduct_18 rfl ?_
        refine x_aload_n d_E_readProduct_19 rfl ?_
        refine x_iload_n d_E_readProduct_20 rfl ?_
        refine x_cV (c_E_factor hN hn hf hM hL hs (ht.fr hfr (by omega))) k_E_53 v_E_readFactor d_E_readProduct_21 rfl (by omega) (by first | assumption | exact vu_s | exact vu_t (by omega) (by first | assumption | exact vu_s | exact vu_t (by omega) (by first | assumption | exact vu_s | exact vu_t (by omega) (by first | assumption | exact vu_s))) | rfl | (simp only [va_up, Nat.reduceEqDiff, ↓reduceIte]; first | rfl | assumption)) rfl (by omega) (Nat.le_of_ble_eq_true rfl) ?_
        intro r h' hq
        obtain ⟨p', s', fr', hm⟩ := hq
        have fr2 : eFr (18 + 6 * L) h h' := hfr.tr (by omega) fr'
        have t2 : tSt h' f n := ht.fr fr2 (by omega)
        cases hx : (eLev f n (D + 1)).2 p with
        | none =>
          rw [hx] at hm
          obtain rfl := hm
          have eo : o = none := by rw [← ho]; simp only [eProd, hx]
          refine x_if_eq 49 d_E_readProduct_24 (by decide) (fun c2 => ?_) (fun c2 => ?_)
          · refine x_iconst (v := 0) d_E_readProduct_49 (by decide) ?_
            refine x_zret d_E_readProduct_50 (by first | rfl | assumption) ?_
            rw [eo]
            exact ⟨p', s', fr2, rfl⟩
          · exact absurd rfl c2
        | some q =>
          obtain ⟨G, q2⟩ := q
          rw [hx] at hm
          obtain ⟨rfl, rfl, g2, hg2, hpe2⟩ := hm
          obtain ⟨k9, -, ⟨s2, a3, a3'⟩, ⟨s3, a4, a4'⟩, a5⟩ := id s'
          obtain ⟨d1, gs, d2⟩ := a5 13 (by omega) (by omega) (by omega)
          obtain ⟨b1, -⟩ := a5 (17 + 6 * L) (by omega) (by omega) (by omega)
          obtain ⟨b3, -⟩ := a5 (19 + 6 * L) (by omega) (by omega) (by omega)
          have hgp : h' (17 + 6 * L + 1) = aI 81 g := by
            rw [show 17 + 6 * L + 1 = 18 + 6 * L by omega, fr' (18 + 6 * L) (by omega) (by omega) (by omega)]
            exact hg
          have hgf : h' (19 + 6 * L + 1) = aI 81 g2 := by rw [show 19 + 6 * L + 1 = 20 + 6 * L by omega]; exact hg2
          refine x_if_eq 49 d_E_readProduct_24 (by decide) (fun c2 => ?_) (fun c2 => ?_)
          · exact absurd c2 (by decide)
          · refine x_aload_n d_E_readProduct_27 rfl ?_
            refine x_get f_E_24 d_E_readProduct_28 (by omega) (by first | assumption | exact vu_s | exact vu_t (by omega) (by first | assumption | exact vu_s | exact vu_t (by omega) (by first | assumption | exact vu_s | exact vu_t (by omega) (by first | assumption | exact vu_s))) | rfl | (simp only [va_up, Nat.reduceEqDiff, ↓reduceIte]; first | rfl | assumption)) rfl ?_
            refine x_aload_n d_E_readProduct_31 rfl ?_
            refine x_get f_E_17 d_E_readProduct_32 (by omega) (by first | assumption | exact vu_s | exact vu_t (by omega) (by first | assumption | exact vu_s | exact vu_t (by omega) (by first | assumption | exact vu_s | exact vu_t (by omega) (by first | assumption | exact vu_s))) | rfl | (simp only [va_up, Nat.reduceEqDiff, ↓reduceIte]; first | rfl | assumption)) rfl ?_
            refine x_iload_n d_E_readProduct_35 rfl ?_
            refine x_aald (t := 4) (v := 17 + 6 * L) rfl d_E_readProduct_36 (by omega) a3 hiL (by rw [hcL]; exact a3' L (by omega)) ?_
            refine x_aload_n d_E_readProduct_37 rfl ?_
            refine x_get f_E_20 d_E_readProduct_38 (by omega) (by first | assumption | exact vu_s | exact vu_t (by omega) (by first | assumption | exact vu_s | exact vu_t (by omega) (by first | assumption | exact vu_s | exact vu_t (by omega) (by first | assumption | exact vu_s))) | rfl | (simp only [va_up, Nat.reduceEqDiff, ↓reduceIte]; first | rfl | assumption)) rfl ?_
            refine x_iload_n d_E_readProduct_41 rfl ?_
            refine x_aald (t := 4) (v := 19 + 6 * L) rfl d_E_readProduct_42 (by omega) a4 hiL (by rw [hcL]; exact a4' L (by omega)) ?_
            refine x_cV (c_P_becomeProduct (by omega) (by omega) (by omega) (by omega) (by omega) d1 d2 b1 hgp b3 hgf) k_E_56 v_P_becomeProduct d_E_readProduct_43 rfl (by omega) (by first | assumption | exact vu_s | exact vu_t (by omega) (by first | assumption | exact vu_s | exact vu_t (by omega) (by first | assumption | exact vu_s | exact vu_t (by omega) (by first | assumption | exact vu_s))) | rfl | (simp only [va_up, Nat.reduceEqDiff, ↓reduceIte]; first | rfl | assumption)) rfl (by omega) (Nat.le_of_ble_eq_true rfl) ?_
            intro r h2 hq
            rcases hq with ⟨hAF, rfl, rfl⟩ | ⟨hAF, rfl, gx, rfl⟩
            · have hAF' : AF P G := AF_pe hpe hpe2 hAF
              have hpm : pe (pout g g2 (filF gs 0 81) 81) (pMul P G) := pe_mul _ hpe hpe2
              rw [isLg_pe hpm]
              have s3 := eSt.up (g := pout g g2 (filF gs 0 81) 81) s' (k := 14) (by omega) (by omega) (by omega)
              have fr3 : eFr (18 + 6 * L) h (va_up h' 14 (aI 81 (pout g g2 (filF gs 0 81) 81))) := fr2.up (Or.inr (Or.inl rfl))
              refine x_if_ne 51 d_E_readProduct_46 (by decide) (fun c3 => ?_) (fun c3 => ?_)
              · rw [bi1] at c3
                refine x_aload_n d_E_readProduct_51 rfl ?_
                refine x_get f_E_17 d_E_readProduct_52 (by omega) (by first | assumption | exact vu_s | exact vu_t (by omega) (by first | assumption | exact vu_s | exact vu_t (by omega) (by first | assumption | exact vu_s | exact vu_t (by omega) (by first | assumption | exact vu_s))) | rfl | (simp only [va_up, Nat.reduceEqDiff, ↓reduceIte]; first | rfl | assumption)) rfl ?_
                refine x_iload_n d_E_readProduct_55 rfl ?_
                refine x_aald (t := 4) (v := 17 + 6 * L) rfl d_E_readProduct_56 (by omega) (vu_t (by omega) a3) hiL (by rw [hcL]; exact a3' L (by omega)) ?_
                refine x_aload_n d_E_readProduct_57 rfl ?_
                refine x_get f_E_24 d_E_readProduct_58 (by omega) (by first | assumption | exact vu_s | exact vu_t (by omega) (by first | assumption | exact vu_s | exact vu_t (by omega) (by first | assumption | exact vu_s | exact vu_t (by omega) (by first | assumption | exact vu_s))) | rfl | (simp only [va_up, Nat.reduceEqDiff, ↓reduceIte]; first | rfl | assumption)) rfl ?_
                refine x_cVv (c_P_becomeCopy (by omega) (by omega) (vu_t (by omega) b1) (vu_t (by omega) hgp) (vu_t (by omega) d1) vu_s) k_E_60 v_P_becomeCopy d_E_readProduct_61 rfl (by omega) (by first | assumption | exact vu_s | exact vu_t (by omega) (by first | assumption | exact vu_s | exact vu_t (by omega) (by first | assumption | exact vu_s | exact vu_t (by omega) (by first | assumption | exact vu_s))) | rfl | (simp only [va_up, Nat.reduceEqDiff, ↓reduceIte]; first | rfl | assumption)) rfl (by omega) (Nat.le_of_ble_eq_true rfl) ?_
                rw [show 17 + 6 * L + 1 = 18 + 6 * L by omega]
                have s4 := eSt.up (g := va_cpy (pout g g2 (filF gs 0 81) 81) g 0 0 81) s3 (k := 18 + 6 * L) (by omega) (by omega) (by omega)
                have fr4 := fr3.up (k := 18 + 6 * L) (e := aI 81 (va_cpy (pout g g2 (filF gs 0 81) 81) g 0 0 81)) (Or.inr (Or.inr (by omega)))
                have t4 := ht.fr fr4 (by omega)
                have hpe4 : pe (va_cpy (pout g g2 (filF gs 0 81) 81) g 0 0 81) (pMul P G) := (pe_cpy _ _).tr hpm
                generalize hH : va_up (va_up h' 14 (aI 81 (pout g g2 (filF gs 0 81) 81))) (18 + 6 * L) (aI 81 (va_cpy (pout g g2 (filF gs 0 81) 81) g 0 0 81)) = h4 at s4 fr4 t4 ⊢
                have hg4 : h4 (18 + 6 * L) = aI 81 (va_cpy (pout g g2 (filF gs 0 81) 81) g 0 0 81) := by rw [← hH]; exact vu_s
                have h49 := s4.1
                have h45 := t4.1
                refine x_aload_n d_E_readProduct_64 rfl ?_
                refine x_aload_n d_E_readProduct_65 rfl ?_
                refine x_get f_E_28 d_E_readProduct_66 (by omega) (by first | assumption | exact vu_s | exact vu_t (by omega) (by first | assumption | exact vu_s | exact vu_t (by omega) (by first | assumption | exact vu_s | exact vu_t (by omega) (by first | assumption | exact vu_s))) | rfl | (simp only [va_up, Nat.reduceEqDiff, ↓reduceIte]; first | rfl | assumption)) rfl ?_
                refine x_cVe (c_T_at p' hN hn (fun j => (hf j).1) t4.1 t4.2) k_E_49 v_T_at d_E_readProduct_69 rfl (by omega) (by first | assumption | exact vu_s | exact vu_t (by omega) (by first | assumption | exact vu_s | exact vu_t (by omega) (by first | assumption | exact vu_s | exact vu_t (by omega) (by first | assumption | exact vu_s))) | rfl | (simp only [va_up, Nat.reduceEqDiff, ↓reduceIte]; first | rfl | assumption)) rfl (by omega) (Nat.le_of_ble_eq_true rfl) ?_
                refine XW_c (show (if 0 ≤ p' ∧ p' < nI n then f p'.toNatClampNeg else 0) = tx f n p' from rfl) ?_
                refine x_bipush (v := 42) d_E_readProduct_72 (by decide) ?_
                have eo : o = if tx f n p' = 42 then eProd f n (eLev f n (D + 1)).2 m (pMul P G) (p' + 1) else some (pMul P G, p') := by
                  rw [← ho]
                  simp only [eProd, hx, afB_t hAF', c3, Bool.and_true, if_true]
                refine x_icmp_eq 79 d_E_readProduct_74 (by decide) (fun c4 => ?_) (fun c4 => ?_)
                · rw [if_pos c4] at eo
                  refine x_aload_n d_E_readProduct_79 rfl ?_
                  refine x_dup d_E_readProduct_80 rfl ?_
                  refine x_get f_E_28 d_E_readProduct_81 (by omega) (by first | assumption | exact vu_s | exact vu_t (by omega) (by first | assumption | exact vu_s | exact vu_t (by omega) (by first | assumption | exact vu_s | exact vu_t (by omega) (by first | assumption | exact vu_s))) | rfl | (simp only [va_up, Nat.reduceEqDiff, ↓reduceIte]; first | rfl | assumption)) rfl ?_
                  refine x_iconst (v := 1) d_E_readProduct_84 (by decide) ?_
                  refine x_iadd d_E_readProduct_85 ?_
                  refine x_put f_E_28 d_E_readProduct_86 (by omega) (by first | assumption | exact vu_s | exact vu_t (by omega) (by first | assumption | exact vu_s | exact vu_t (by omega) (by first | assumption | exact vu_s | exact vu_t (by omega) (by first | assumption | exact vu_s))) | rfl | (simp only [va_up, Nat.reduceEqDiff, ↓reduceIte]; first | rfl | assumption)) (Nat.le_of_ble_eq_true rfl) (fun _ => ⟨rfl, rfl⟩) ?_
                  refine x_iinc1 d_E_readProduct_89 rfl (by decide) rfl ?_
                  refine x_goto 12 d_E_readProduct_92 (by decide) ?_
                  rw [nI_1]
                  exact ih (k + 1) (pMul P G) _ (p' + 1) _ (by omega) s4.pl (fr4.up (Or.inl rfl)) (vu_t (by omega) hg4) hpe4 eo.symm
                · rw [if_neg c4] at eo
                  refine x_iconst (v := 1) d_E_readProduct_77 (by decide) ?_
                  refine x_zret d_E_readProduct_78 (by first | rfl | assumption) ?_
                  rw [eo]
                  exact ⟨p', s4, fr4, rfl, rfl, _, hg4, hpe4⟩
              · rw [bi0] at c3
                have eo : o = none := by
                  rw [← ho]
                  simp only [eProd, hx, c3, Bool.and_false, Bool.false_eq_true, if_false]
                refine x_iconst (v := 0) d_E_readProduct_49 (by decide) ?_
                refine x_zret d_E_readProduct_50 (by first | rfl | assumption) ?_
                rw [eo]
                exact ⟨p', s3, fr3, rfl⟩
            · have hAF' : ¬ AF P G := fun z => hAF (AF_pe hpe.sy hpe2.sy z)
              have eo : o = none := by
                rw [← ho]
                simp only [eProd, hx, afB_f hAF', Bool.false_and, Bool.false_eq_true, if_false]
              refine x_if_ne 51 d_E_readProduct_46 (by decide) (fun c3 => ?_) (fun c3 => ?_)
              · exact absurd rfl c3
              · refine x_iconst (v := 0) d_E_readProduct_49 (by decide) ?_
                refine x_zret d_E_readProduct_50 (by first | rfl | assumption) ?_
                rw [eo]
                exact ⟨p', eSt.up s' (by omega) (by omega) (by omega), fr2.up (Or.inr (Or.inl rfl)), rfl⟩
  obtain ⟨h9, -, ⟨s2, a3, a3'⟩, -, a5⟩ := id hs
  obtain ⟨b1, g1, b2⟩ := a5 (17 + 6 * L) (by omega) (by omega) (by omega)
  refine x_aload_n d_E_readProduct_0 rfl ?_
  refine x_get f_E_17 d_E_readProduct_1 (by omega) (by first | assumption | exact vu_s | exact vu_t (by omega) (by first | assumption | exact vu_s | exact vu_t (by omega) (by first | assumption | exact vu_s | exact vu_t (by omega) (by first | assumption | exact vu_s))) | rfl | (simp only [va_up, Nat.reduceEqDiff, ↓reduceIte]; first | rfl | assumption)) rfl ?_
  refine x_iload_n d_E_readProduct_4 rfl ?_
  refine x_aald (t := 4) (v := 17 + 6 * L) rfl d_E_readProduct_5 (by omega) a3 hiL (by rw [hcL]; exact a3' L (by omega)) ?_
  refine x_iconst (v := 1) d_E_readProduct_6 (by decide) ?_
  refine x_cVv (c_P_becomeNumber 1 (by omega) b1 b2) k_E_36 v_P_becomeNumber d_E_readProduct_7 rfl (by omega) (by first | assumption | exact vu_s | exact vu_t (by omega) (by first | assumption | exact vu_s | exact vu_t (by omega) (by first | assumption | exact vu_s | exact vu_t (by omega) (by first | assumption | exact vu_s))) | rfl | (simp only [va_up, Nat.reduceEqDiff, ↓reduceIte]; first | rfl | assumption)) rfl (by omega) (Nat.le_of_ble_eq_true rfl) ?_
  rw [show 17 + 6 * L + 1 = 18 + 6 * L by omega]
  refine x_iconst (v := 0) d_E_readProduct_10 (by decide) ?_
  refine x_istore_n d_E_readProduct_11 (by decide) rfl ?_
  exact key 30 0 (pNum 1) _ p _ rfl (eSt.up hs (by omega) (by omega) (by omega)) ((eFr.rf _ h).up (Or.inr (Or.inr (by omega)))) vu_s (pe_num _ _) ho
set_option maxRecDepth 100000 in
set_option maxHeartbeats 4000000 in
theorem c_E_sum {N n D L : Nat} {f : Nat → Int32} {h : xHp} {p : Int32} (hN : 94 ≤ N) (hn : n ≤ 30) (hf : ∀ j, chOK (f j)) (hM : eM f n N D) (hL : D + 1 + L = 9) (hs : eSt h p) (ht : tSt h f n) : XM y_E_readSum b_E_readSum 6 (some .boolean) (4 * (D + 1) + 5) 0 0 [.ref 9, .ref 5, .int (nI L)] N h (eOut (16 + 6 * L) h ((eLev f n (D + 1)).1 p)) := by
  have hiL : vp_in (nI L) 9 := vp_in_nI (by omega) (by decide)
  have hcL : (nI L).toNatClampNeg = L := nI_clamp (by omega)
  refine xM_intro [some (.ref 9), some (.ref 5), some (.int (nI L)), none, none, none] (by decide) (fun _ => rfl) (fun _ => Nat.le_of_ble_eq_true rfl) (fun Γ => ?_)
  have ho : eSum f n (eLev f n (D + 1)).2 30 (pNum 0) 1 p = (eLev f n (D + 1)).1 p := rfl
  generalize (eLev f n (D + 1)).1 p = o at ho ⊢
  have key : ∀ (m k : Nat) (S g : Po) (t : Int32) (p : Int32) (hh : xHp) (x5 : Option Value), m + k = 30 → eSt hh p → eFr (16 + 6 * L) h hh → hh (16 + 6 * L) = aI 81 g → pe g S → eSum f n (eLev f n (D + 1)).2 m S t p = o → XW Γ y_E_readSum b_E_readSum 6 (some .boolean) (4 * (D + 1) + 5, 0, 0) (xQ Γ (N + 0) 0 0 (eOut (16 + 6 * L) h o)) 0 0 N hh 23 [some (.ref 9), some (.ref 5), some (.int (nI L)), some (.int t), some (.int (nI k)), x5] [] := by
    intro m
    induction m with
    | zero =>
      intro k S g t p hh x5 hk hs hfr hg hpe ho
      have e : k = 30 := by omega
      subst e
      refine x_iload d_E_readSum_23 rfl ?_
      refine x_bipush (v := 30) d_E_readSum_25 (by decide) ?_
      refine x_icmp_ge 115 d_E_readSum_27 (by decide) (fun c1 => ?_) (fun c1 => ?_)
      · refine x_iconst (v := 0) d_E_readSum_115 (by decide) ?_
        refine x_zret d_E_readSum_116 (by first | rfl | assumption) ?_
        rw [← ho]
        exact ⟨p, hs, hfr, rfl⟩
      · exact absurd (by decide) c1
    | succ m ih =>
      intro k S g t p hh x5 hk hs hfr hg hpe ho
      have h9 := hs.1
      refine x_iload d_E_readSum_23 rfl ?_
      refine x_bipush (v := 30) d_E_readSum_25 (by decide) ?_
      refine x_icmp_ge 115 d_E_readSum_27 (by decide) (fun c1 => ?_) (fun c1 => ?_)
      · exact absurd c1 (nI_ge (show k < 30 by omega) (by decide))
      · refine x_aload_n d_E_readSum_30 rfl ?_
        refine x_aload_n d_E_readSum_31 rfl ?_
        refine x_iload_n d_E_readSum_32 rfl ?_
        refine x_cV (c_E_product hN hn hf hM hL hs (ht.fr hfr (by omega))) k_E_42 v_E_readProduct d_E_readSum_33 rfl (by omega) (by first | assumption | exact vu_s | exact vu_t (by omega) (by first | assumption | exact vu_s | exact vu_t (by omega) (by first | assumption | exact vu_s | exact vu_t (by omega) (by first | assumption | exact vu_s))) | rfl | (simp only [va_up, Nat.reduceEqDiff, ↓reduceIte]; first | rfl | assumption)) rfl (by omega) (Nat.le_of_ble_eq_true rfl) ?_
        intro r h' hq
        obtain ⟨p', s', fr', hm⟩ := hq
        have fr2 : eFr (16 + 6 * L) h h' := hfr.tr (by omega) fr'
        cases hx : eProd f n (eLev f n (D + 1)).2 30 (pNum 1) p with
        | none =>
          rw [hx] at hm
          obtain rfl := hm
          have eo : o = none := by rw [← ho]; simp only [eSum, hx]
          refine x_if_eq 58 d_E_readSum_36 (by decide) (fun c2 => ?_) (fun c2 => ?_)
          · refine x_iconst (v := 0) d_E_readSum_58 (by decide) ?_
            refine x_zret d_E_readSum_59 (by first | rfl | assumption) ?_
            rw [eo]
            exact ⟨p', s', fr2, rfl⟩
          · exact absurd rfl c2
        | some q =>
          obtain ⟨G, q2⟩ := q
          rw [hx] at hm
          obtain ⟨rfl, rfl, g2, hg2, hpe2⟩ := hm
          obtain ⟨k9, ⟨s1, a2, a2'⟩, ⟨s2, a3, a3'⟩, -, a5⟩ := id s'
          obtain ⟨b1, -⟩ := a5 (15 + 6 * L) (by omega) (by omega) (by omega)
          obtain ⟨b3, -⟩ := a5 (17 + 6 * L) (by omega) (by omega) (by omega)
          have hgs : h' (15 + 6 * L + 1) = aI 81 g := by
            rw [show 15 + 6 * L + 1 = 16 + 6 * L by omega, fr' (16 + 6 * L) (by omega) (by omega) (by omega)]
            exact hg
          have hgp : h' (17 + 6 * L + 1) = aI 81 g2 := by rw [show 17 + 6 * L + 1 = 18 + 6 * L by omega]; exact hg2
          refine x_if_eq 58 d_E_readSum_36 (by decide) (fun c2 => ?_) (fun c2 => ?_)
          · exact absurd c2 (by decide)
          · refine x_aload_n d_E_readSum_39 rfl ?_
            refine x_get f_E_13 d_E_readSum_40 (by omega) (by first | assumption | exact vu_s | exact vu_t (by omega) (by first | assumption | exact vu_s | exact vu_t (by omega) (by first | assumption | exact vu_s | exact vu_t (by omega) (by first | assumption | exact vu_s))) | rfl | (simp only [va_up, Nat.reduceEqDiff, ↓reduceIte]; first | rfl | assumption)) rfl ?_
            refine x_iload_n d_E_readSum_43 rfl ?_
            refine x_aald (t := 4) (v := 15 + 6 * L) rfl d_E_readSum_44 (by omega) a2 hiL (by rw [hcL]; exact a2' L (by omega)) ?_
            refine x_aload_n d_E_readSum_45 rfl ?_
            refine x_get f_E_17 d_E_readSum_46 (by omega) (by first | assumption | exact vu_s | exact vu_t (by omega) (by first | assumption | exact vu_s | exact vu_t (by omega) (by first | assumption | exact vu_s | exact vu_t (by omega) (by first | assumption | exact vu_s))) | rfl | (simp only [va_up, Nat.reduceEqDiff, ↓reduceIte]; first | rfl | assumption)) rfl ?_
            refine x_iload_n d_E_readSum_49 rfl ?_
            refine x_aald (t := 4) (v := 17 + 6 * L) rfl d_E_readSum_50 (by omega) a3 hiL (by rw [hcL]; exact a3' L (by omega)) ?_
            refine x_iload_n d_E_readSum_51 rfl ?_
            refine x_cVe (c_P_add t (by omega) (by omega) (by omega) b1 hgs b3 hgp) k_E_45 v_P_add d_E_readSum_52 rfl (by omega) (by first | assumption | exact vu_s | exact vu_t (by omega) (by first | assumption | exact vu_s | exact vu_t (by omega) (by first | assumption | exact vu_s | exact vu_t (by omega) (by first | assumption | exact vu_s))) | rfl | (simp only [va_up, Nat.reduceEqDiff, ↓reduceIte]; first | rfl | assumption)) rfl (by omega) (Nat.le_of_ble_eq_true rfl) ?_
            rw [show 15 + 6 * L + 1 = 16 + 6 * L by omega]
            have hpa : pe (addU g g2 t 81) (pAdd S G t) := pe_add t hpe hpe2
            rw [isLg_pe hpa]
            have s4 := eSt.up (g := addU g g2 t 81) s' (k := 16 + 6 * L) (by omega) (by omega) (by omega)
            have fr4 := fr2.up (k := 16 + 6 * L) (e := aI 81 (addU g g2 t 81)) (Or.inr (Or.inr (by omega)))
            have t4 := ht.fr fr4 (by omega)
            generalize hH : va_up h' (16 + 6 * L) (aI 81 (addU g g2 t 81)) = h4 at s4 fr4 t4 ⊢
            have hg4 : h4 (16 + 6 * L) = aI 81 (addU g g2 t 81) := by rw [← hH]; exact vu_s
            have h49 := s4.1
            have h45 := t4.1
            refine x_if_ne 60 d_E_readSum_55 (by decide) (fun c3 => ?_) (fun c3 => ?_)
            · rw [bi1] at c3
              have c3' : isLg (pAdd S G t) = false := by simpa using c3
              refine x_aload_n d_E_readSum_60 rfl ?_
              refine x_aload_n d_E_readSum_61 rfl ?_
              refine x_get f_E_28 d_E_readSum_62 (by omega) (by first | assumption | exact vu_s | exact vu_t (by omega) (by first | assumption | exact vu_s | exact vu_t (by omega) (by first | assumption | exact vu_s | exact vu_t (by omega) (by first | assumption | exact vu_s))) | rfl | (simp only [va_up, Nat.reduceEqDiff, ↓reduceIte]; first | rfl | assumption)) rfl ?_
              refine x_cVe (c_T_at p' hN hn (fun j => (hf j).1) t4.1 t4.2) k_E_49 v_T_at d_E_readSum_65 rfl (by omega) (by first | assumption | exact vu_s | exact vu_t (by omega) (by first | assumption | exact vu_s | exact vu_t (by omega) (by first | assumption | exact vu_s | exact vu_t (by omega) (by first | assumption | exact vu_s))) | rfl | (simp only [va_up, Nat.reduceEqDiff, ↓reduceIte]; first | rfl | assumption)) rfl (by omega) (Nat.le_of_ble_eq_true rfl) ?_
              refine XW_c (show (if 0 ≤ p' ∧ p' < nI n then f p'.toNatClampNeg else 0) = tx f n p' from rfl) ?_
              refine x_istore d_E_readSum_68 (by decide) rfl ?_
              refine x_iload d_E_readSum_70 rfl ?_
              refine x_bipush (v := 43) d_E_readSum_72 (by decide) ?_
              have eo : o = if tx f n p' = 43 then eSum f n (eLev f n (D + 1)).2 m (pAdd S G t) 1 (p' + 1) else if tx f n p' = 45 then eSum f n (eLev f n (D + 1)).2 m (pAdd S G t) (-1) (p' + 1) else some (pAdd S G t, p') := by
                rw [← ho]
                simp only [eSum, hx, c3', Bool.false_eq_true, if_false]
              refine x_icmp_eq 86 d_E_readSum_74 (by decide) (fun c4 => ?_) (fun c4 => ?_)
              · rw [if_pos c4] at eo
                refine x_iload d_E_readSum_86 rfl ?_
                refine x_bipush (v := 43) d_E_readSum_88 (by decide) ?_
                refine x_icmp_ne 97 d_E_readSum_90 (by decide) (fun c5 => ?_) (fun c5 => ?_)
                · exact absurd c4 c5
                · refine x_iconst (v := 1) d_E_readSum_93 (by decide) ?_
                  refine x_goto 98 d_E_readSum_94 (by decide) ?_
                  refine x_istore_n d_E_readSum_98 (by decide) rfl ?_
                  refine x_aload_n d_E_readSum_99 rfl ?_
                  refine x_dup d_E_readSum_100 rfl ?_
                  refine x_get f_E_28 d_E_readSum_101 (by omega) (by first | assumption | exact vu_s | exact vu_t (by omega) (by first | assumption | exact vu_s | exact vu_t (by omega) (by first | assumption | exact vu_s | exact vu_t (by omega) (by first | assumption | exact vu_s))) | rfl | (simp only [va_up, Nat.reduceEqDiff, ↓reduceIte]; first | rfl | assumption)) rfl ?_
                  refine x_iconst (v := 1) d_E_readSum_104 (by decide) ?_
                  refine x_iadd d_E_readSum_105 ?_
                  refine x_put f_E_28 d_E_readSum_106 (by omega) (by first | assumption | exact vu_s | exact vu_t (by omega) (by first | assumption | exact vu_s | exact vu_t (by omega) (by first | assumption | exact vu_s | exact vu_t (by omega) (by first | assumption | exact vu_s))) | rfl | (simp only [va_up, Nat.reduceEqDiff, ↓reduceIte]; first | rfl | assumption)) (Nat.le_of_ble_eq_true rfl) (fun _ => ⟨rfl, rfl⟩) ?_
                  refine x_iinc1 d_E_readSum_109 rfl (by decide) rfl ?_
                  refine x_goto 23 d_E_readSum_112 (by decide) ?_
                  rw [nI_1]
                  exact ih (k + 1) (pAdd S G t) _ 1 (p' + 1) _ _ (by omega) s4.pl (fr4.up (Or.inl rfl)) (vu_t (by omega) hg4) hpa eo.symm
              · rw [if_neg c4] at eo
                refine x_iload d_E_readSum_77 rfl ?_
                refine x_bipush (v := 45) d_E_readSum_79 (by decide) ?_
                refine x_icmp_eq 86 d_E_readSum_81 (by decide) (fun c5 => ?_) (fun c5 => ?_)
                · rw [if_pos c5] at eo
                  refine x_iload d_E_readSum_86 rfl ?_
                  refine x_bipush (v := 43) d_E_readSum_88 (by decide) ?_
                  refine x_icmp_ne 97 d_E_readSum_90 (by decide) (fun c6 => ?_) (fun c6 => ?_)
                  · refine x_iconst (v := -1) d_E_readSum_97 (by decide) ?_
                    refine x_istore_n d_E_readSum_98 (by decide) rfl ?_
                    refine x_aload_n d_E_readSum_99 rfl ?_
                    refine x_dup d_E_readSum_100 rfl ?_
                    refine x_get f_E_28 d_E_readSum_101 (by omega) (by first | assumption | exact vu_s | exact vu_t (by omega) (by first | assumption | exact vu_s | exact vu_t (by omega) (by first | assumption | exact vu_s | exact vu_t (by omega) (by first | assumption | exact vu_s))) | rfl | (simp only [va_up, Nat.reduceEqDiff, ↓reduceIte]; first | rfl | assumption)) rfl ?_
                    refine x_iconst (v := 1) d_E_readSum_104 (by decide) ?_
                    refine x_iadd d_E_readSum_105 ?_
                    refine x_put f_E_28 d_E_readSum_106 (by omega) (by first | assumption | exact vu_s | exact vu_t (by omega) (by first | assumption | exact vu_s | exact vu_t (by omega) (by first | assumption | exact vu_s | exact vu_t (by omega) (by first | assumption | exact vu_s))) | rfl | (simp only [va_up, Nat.reduceEqDiff, ↓reduceIte]; first | rfl | assumption)) (Nat.le_of_ble_eq_true rfl) (fun _ => ⟨rfl, rfl⟩) ?_
                    refine x_iinc1 d_E_readSum_109 rfl (by decide) rfl ?_
                    refine x_goto 23 d_E_readSum_112 (by decide) ?_
                    rw [nI_1]
                    exact ih (k + 1) (pAdd S G t) _ (-1) (p' + 1) _ _ (by omega) s4.pl (fr4.up (Or.inl rfl)) (vu_t (by omega) hg4) hpa eo.symm
                  · exact absurd c6 c4
                · rw [if_neg c5] at eo
                  refine x_iconst (v := 1) d_E_readSum_84 (by decide) ?_
                  refine x_zret d_E_readSum_85 (by first | rfl | assumption) ?_
                  rw [eo]
                  exact ⟨p', s4, fr4, rfl, rfl, _, hg4, hpa⟩
            · rw [bi0] at c3
              have c3' : isLg (pAdd S G t) = true := by simpa using c3
              have eo : o = none := by
                rw [← ho]
                simp only [eSum, hx, c3', if_true]
              refine x_iconst (v := 0) d_E_readSum_58 (by decide) ?_
              refine x_zret d_E_readSum_59 (by first | rfl | assumption) ?_
              rw [eo]
              exact ⟨p', s4, fr4, rfl⟩
  obtain ⟨h9, ⟨s1, a2, a2'⟩, -, -, a5⟩ := id hs
  obtain ⟨b1, g1, b2⟩ := a5 (15 + 6 * L) (by omega) (by omega) (by omega)
  refine x_iload_n d_E_readSum_0 rfl ?_
  refine x_bipush (v := 9) d_E_readSum_1 (by decide) ?_
  refine x_icmp_lt 8 d_E_readSum_3 (by decide) (fun c1 => ?_) (fun c1 => ?_)
  · refine x_aload_n d_E_readSum_8 rfl ?_
    refine x_get f_E_13 d_E_readSum_9 (by omega) (by first | assumption | exact vu_s | exact vu_t (by omega) (by first | assumption | exact vu_s | exact vu_t (by omega) (by first | assumption | exact vu_s | exact vu_t (by omega) (by first | assumption | exact vu_s))) | rfl | (simp only [va_up, Nat.reduceEqDiff, ↓reduceIte]; first | rfl | assumption)) rfl ?_
    refine x_iload_n d_E_readSum_12 rfl ?_
    refine x_aald (t := 4) (v := 15 + 6 * L) rfl d_E_readSum_13 (by omega) a2 hiL (by rw [hcL]; exact a2' L (by omega)) ?_
    refine x_iconst (v := 0) d_E_readSum_14 (by decide) ?_
    refine x_cVv (c_P_becomeNumber 0 (by omega) b1 b2) k_E_36 v_P_becomeNumber d_E_readSum_15 rfl (by omega) (by first | assumption | exact vu_s | exact vu_t (by omega) (by first | assumption | exact vu_s | exact vu_t (by omega) (by first | assumption | exact vu_s | exact vu_t (by omega) (by first | assumption | exact vu_s))) | rfl | (simp only [va_up, Nat.reduceEqDiff, ↓reduceIte]; first | rfl | assumption)) rfl (by omega) (Nat.le_of_ble_eq_true rfl) ?_
    rw [show 15 + 6 * L + 1 = 16 + 6 * L by omega]
    refine x_iconst (v := 1) d_E_readSum_18 (by decide) ?_
    refine x_istore_n d_E_readSum_19 (by decide) rfl ?_
    refine x_iconst (v := 0) d_E_readSum_20 (by decide) ?_
    refine x_istore d_E_readSum_21 (by decide) rfl ?_
    exact key 30 0 (pNum 0) _ 1 p _ none rfl (eSt.up hs (by omega) (by omega) (by omega)) ((eFr.rf _ h).up (Or.inr (Or.inr (by omega)))) vu_s (pe_num _ _) ho
  · exact absurd (nI_lt (show L < 9 by omega) (by decide)) c1
theorem c_E_all {N n : Nat} {f : Nat → Int32} (hN : 94 ≤ N) (hn : n ≤ 30) (hf : ∀ j, chOK (f j)) : ∀ D, eM f n N D
  | 0 => c_E_zero
  | D + 1 => fun h p L hL hs ht => ⟨c_E_sum hN hn hf (c_E_all hN hn hf D) hL hs ht, c_E_factor hN hn hf (c_E_all hN hn hf D) hL hs ht⟩
set_option maxRecDepth 100000 in
set_option maxHeartbeats 4000000 in
theorem c_E_evaluate {N n : Nat} {f : Nat → Int32} {h : xHp} {p q : Int32} (hN : 94 ≤ N) (hn : n ≤ 30) (hf : ∀ j, chOK (f j)) (hs : eSt h q) (ht : tSt h f n) : XM y_E_evaluate b_E_evaluate 3 (some .boolean) 42 0 0 [.ref 9, .ref 5, .int p] N h (eOut 16 h ((eLev f n 9).1 p)) := by
  have h9 := hs.1
  have s1 : eSt (va_up h 9 (oE p)) p := hs.pl
  have fr1 : eFr 16 h (va_up h 9 (oE p)) := (eFr.rf _ h).up (Or.inl rfl)
  refine xM_intro [some (.ref 9), some (.ref 5), some (.int p)] (by decide) (fun _ => rfl) (fun _ => Nat.le_of_ble_eq_true rfl) (fun Γ => ?_)
  refine x_aload_n d_E_evaluate_0 rfl ?_
  refine x_iload_n d_E_evaluate_1 rfl ?_
  refine x_put f_E_28 d_E_evaluate_2 (by omega) (by first | assumption | exact vu_s | exact vu_t (by omega) (by first | assumption | exact vu_s | exact vu_t (by omega) (by first | assumption | exact vu_s | exact vu_t (by omega) (by first | assumption | exact vu_s))) | rfl | (simp only [va_up, Nat.reduceEqDiff, ↓reduceIte]; first | rfl | assumption)) (Nat.le_of_ble_eq_true rfl) (fun _ => ⟨rfl, rfl⟩) ?_
  refine x_aload_n d_E_evaluate_5 rfl ?_
  refine x_aload_n d_E_evaluate_6 rfl ?_
  refine x_iconst (v := 0) d_E_evaluate_7 (by decide) ?_
  refine x_cV ((c_E_all hN hn hf 9 _ p 0 rfl s1 (ht.fr fr1 (by omega))).1) k_E_32 v_E_readSum d_E_evaluate_8 rfl (by omega) (by first | assumption | exact vu_s | exact vu_t (by omega) (by first | assumption | exact vu_s | exact vu_t (by omega) (by first | assumption | exact vu_s | exact vu_t (by omega) (by first | assumption | exact vu_s))) | rfl | (simp only [va_up, Nat.reduceEqDiff, ↓reduceIte]; first | rfl | assumption)) rfl (by omega) (Nat.le_of_ble_eq_true rfl) ?_
  intro r h' hq
  obtain ⟨p', z1, z2, z3⟩ := hq
  have z2' : eFr 16 h h' := fr1.tr (Nat.le_refl _) z2
  cases ho : (eLev f n 9).1 p with
  | none =>
    rw [ho] at z3
    obtain rfl := z3
    refine x_zret d_E_evaluate_11 (by first | rfl | assumption) ?_
    exact ⟨p', z1, z2', rfl⟩
  | some q =>
    rw [ho] at z3
    obtain ⟨rfl, z4⟩ := z3
    refine x_zret d_E_evaluate_11 (by first | rfl | assumption) ?_
    exact ⟨p', z1, z2', rfl, z4⟩
set_option maxRecDepth 100000 in
set_option maxHeartbeats 4000000 in
theorem c_E_result {N : Nat} {h : xHp} {p : Int32} (hN : 94 ≤ N) (hs : eSt h p) : XM y_E_result b_E_result 1 (some (.object "JoinKeeper$Polynomial")) 0 0 0 [.ref 9] N h (xR (some (.ref 15)) h) := by
  obtain ⟨h9, ⟨s1, a2, a2'⟩, -⟩ := id hs
  refine xM_intro [some (.ref 9)] (by decide) (fun _ => rfl) (fun _ => Nat.le_of_ble_eq_true rfl) (fun Γ => ?_)
  refine x_aload_n d_E_result_0 rfl ?_
  refine x_get f_E_13 d_E_result_1 (by omega) (by first | assumption | exact vu_s | exact vu_t (by omega) (by first | assumption | exact vu_s | exact vu_t (by omega) (by first | assumption | exact vu_s | exact vu_t (by omega) (by first | assumption | exact vu_s))) | rfl | (simp only [va_up, Nat.reduceEqDiff, ↓reduceIte]; first | rfl | assumption)) rfl ?_
  refine x_iconst (v := 0) d_E_result_4 (by decide) ?_
  refine x_aald (t := 4) (v := 15) rfl d_E_result_5 (by omega) a2 (by unfold vp_in; decide) (a2' 0 (by omega)) ?_
  refine x_aret (Or.inl ⟨_, rfl⟩) d_E_result_6 ?_
  exact ⟨rfl, rfl⟩
end
section
/-! JoinKeeper: its cells 0 .. 93, and its methods. -/
abbrev CQ : Type := Bool × Nat × Nat × Int32 × Int32 × (Nat → Int32) × (Nat → Int32)
abbrev oK : xE := .inr (0, [.ref 1, .ref 5, .ref 7, .ref 9, .ref 69])
def iR (f : Nat → Int32) (n : Nat) (pl bs : Nat → Int32) (h : xHp) : Prop := h 1 = oR (nI n) ∧ h 2 = aI 108 f ∧ h 3 = aI 512 pl ∧ h 4 = aI 512 bs
def iG (h : xHp) : Prop := ∃ σ : GS, vp_in σ.2.2.2.2.2.1 4 ∧ h 7 = oG σ ∧ h 8 = aI 4 σ.2.2.2.2.2.2.2.2.2
def iE (h : xHp) : Prop := ∃ p, eSt h p
def qSt (q : Nat) (Q : CQ) (h : xHp) : Prop := h q = oQ q (bi Q.1) (nI Q.2.1) (nI Q.2.2.1) Q.2.2.2.1 Q.2.2.2.2.1 ∧ h (q + 1) = aI 4 Q.2.2.2.2.2.1 ∧ h (q + 2) = oP (q + 2) ∧ h (q + 3) = aI 81 Q.2.2.2.2.2.2 ∧ (∃ ra, h (q + 4) = aL 6 ra) ∧ ∃ rb, h (q + 5) = aL 6 rb
def iQ (Qs : Nat → CQ) (h : xHp) : Prop := (∃ s, h 69 = aR 5 4 s ∧ ∀ i, i < 4 → s i = some (70 + 6 * i)) ∧ ∀ i, i < 4 → qSt (70 + 6 * i) (Qs i) h
def IC (f : Nat → Int32) (n : Nat) (pl bs tf : Nat → Int32) (tn : Nat) (Qs : Nat → CQ) (h : xHp) : Prop := h 0 = oK ∧ iR f n pl bs h ∧ tSt h tf tn ∧ iG h ∧ iE h ∧ iQ Qs h
def sm (lo hi : Nat) (h h' : xHp) : Prop := ∀ k, lo ≤ k → k ≤ hi → h' k = h k
theorem iR.cg {f pl bs : Nat → Int32} {n : Nat} {h h' : xHp} (a : iR f n pl bs h) (e : sm 1 4 h h') : iR f n pl bs h' := ⟨(e 1 (by decide) (by decide)).trans a.1, (e 2 (by decide) (by decide)).trans a.2.1, (e 3 (by decide) (by decide)).trans a.2.2.1, (e 4 (by decide) (by decide)).trans a.2.2.2⟩
theorem tSt.cg {f : Nat → Int32} {n : Nat} {h h' : xHp} (a : tSt h f n) (e : sm 5 6 h h') : tSt h' f n := ⟨(e 5 (by decide) (by decide)).trans a.1, (e 6 (by decide) (by decide)).trans a.2⟩
theorem iG.cg {h h' : xHp} (a : iG h) (e : sm 7 8 h h') : iG h' := by
  obtain ⟨σ, a1, a2, a3⟩ := a
  exact ⟨σ, a1, (e 7 (by decide) (by decide)).trans a2, (e 8 (by decide) (by decide)).trans a3⟩
theorem eSt.cg {h h' : xHp} {p : Int32} (a : eSt h p) (e : sm 9 68 h h') : eSt h' p := by
  obtain ⟨a1, ⟨s1, a2, a2'⟩, ⟨s2, a3, a3'⟩, ⟨s3, a4, a4'⟩, a5⟩ := a
  refine ⟨(e 9 (by decide) (by decide)).trans a1, ⟨s1, (e 10 (by decide) (by decide)).trans a2, a2'⟩, ⟨s2, (e 11 (by decide) (by decide)).trans a3, a3'⟩, ⟨s3, (e 12 (by decide) (by decide)).trans a4, a4'⟩, fun k h1 h2 h3 => ?_⟩
  obtain ⟨z1, g, z2⟩ := a5 k h1 h2 h3
  exact ⟨(e k (by omega) (by omega)).trans z1, g, (e (k + 1) (by omega) (by omega)).trans z2⟩
theorem iE.cg {h h' : xHp} (a : iE h) (e : sm 9 68 h h') : iE h' := a.elim fun p a => ⟨p, a.cg e⟩
theorem qSt.cg {q : Nat} {Q : CQ} {h h' : xHp} (a : qSt q Q h) (e : sm q (q + 5) h h') : qSt q Q h' := by
  obtain ⟨a1, a2, a3, a4, ⟨ra, a5⟩, rb, a6⟩ := a
  exact ⟨(e _ (by omega) (by omega)).trans a1, (e _ (by omega) (by omega)).trans a2, (e _ (by omega) (by omega)).trans a3, (e _ (by omega) (by omega)).trans a4, ⟨ra, (e _ (by omega) (by omega)).trans a5⟩, rb, (e _ (by omega) (by omega)).trans a6⟩
theorem iQ.cg {Qs : Nat → CQ} {h h' : xHp} (a : iQ Qs h) (e : sm 69 93 h h') : iQ Qs h' := by
  obtain ⟨⟨s, a1, a2⟩, a3⟩ := a
  exact ⟨⟨s, (e 69 (by decide) (by decide)).trans a1, a2⟩, fun i hi => (a3 i hi).cg (fun k h1 h2 => e k (by omega) (by omega))⟩
theorem sm.up {lo hi k : Nat} {h h' : xHp} {e : xE} (a : sm lo hi h h') (hk : k < lo ∨ hi < k) : sm lo hi h (va_up h' k e) := fun j h1 h2 => (vu_n (by omega)).trans (a j h1 h2)
theorem sm.rf {lo hi : Nat} {h : xHp} : sm lo hi h h := fun _ _ _ => rfl
/-- what lies behind the class' cells stays -/
def frm (h h' : xHp) : Prop := ∀ k, 94 ≤ k → h' k = h k
theorem frm.rf {h : xHp} : frm h h := fun _ _ => rfl
theorem frm.up {h h' : xHp} {k : Nat} {e : xE} (a : frm h h') (hk : k < 94) : frm h (va_up h' k e) := fun j hj => (vu_n (by omega)).trans (a j hj)
def isVal (v : Int32) : Bool := decide (0 ≤ v) && decide (v < 6)
def isQn (v : Int32) : Bool := decide (0 ≤ v) && decide (v < 4)
def rowOK (r x y : Int32) : Bool := decide (0 ≤ r) && decide (r < 3) && (isVal x && isVal y)
set_option maxRecDepth 100000 in
set_option maxHeartbeats 4000000 in
theorem c_K_isValue {N : Nat} {h : xHp} (v : Int32) : XM y_K_isValue b_K_isValue 1 (some .boolean) 0 0 0 [.int v] N h (xR (some (.int (bi (isVal v)))) h) := by
  refine xM_intro [some (.int v)] (by decide) (fun _ => rfl) (fun _ => Nat.le_of_ble_eq_true rfl) (fun Γ => ?_)
  refine x_iload_n d_K_isValue_0 rfl ?_
  refine x_if_lt 14 d_K_isValue_1 (by decide) (fun c1 => ?_) (fun c1 => ?_)
  · refine x_iconst (v := 0) d_K_isValue_14 (by decide) ?_
    refine x_zret d_K_isValue_15 (by first | rfl | assumption) ?_
    exact ⟨by simp [isVal, bi, Int32.not_le.mpr c1], rfl⟩
  · refine x_iload_n d_K_isValue_4 rfl ?_
    refine x_bipush (v := 6) d_K_isValue_5 (by decide) ?_
    refine x_icmp_ge 14 d_K_isValue_7 (by decide) (fun c2 => ?_) (fun c2 => ?_)
    · refine x_iconst (v := 0) d_K_isValue_14 (by decide) ?_
      refine x_zret d_K_isValue_15 (by first | rfl | assumption) ?_
      exact ⟨by simp [isVal, bi, Int32.not_lt.mpr c2], rfl⟩
    · refine x_iconst (v := 1) d_K_isValue_10 (by decide) ?_
      refine x_goto 15 d_K_isValue_11 (by decide) ?_
      refine x_zret d_K_isValue_15 (by first | rfl | assumption) ?_
      exact ⟨by simp [isVal, bi, Int32.not_lt.mp c1, Int32.not_le.mp c2], rfl⟩
set_option maxRecDepth 100000 in
set_option maxHeartbeats 4000000 in
theorem c_K_isQuestion {N : Nat} {h : xHp} (v : Int32) : XM y_K_isQuestion b_K_isQuestion 1 (some .boolean) 0 0 0 [.int v] N h (xR (some (.int (bi (isQn v)))) h) := by
  refine xM_intro [some (.int v)] (by decide) (fun _ => rfl) (fun _ => Nat.le_of_ble_eq_true rfl) (fun Γ => ?_)
  refine x_iload_n d_K_isQuestion_0 rfl ?_
  refine x_if_lt 13 d_K_isQuestion_1 (by decide) (fun c1 => ?_) (fun c1 => ?_)
  · refine x_iconst (v := 0) d_K_isQuestion_13 (by decide) ?_
    refine x_zret d_K_isQuestion_14 (by first | rfl | assumption) ?_
    exact ⟨by simp [isQn, bi, Int32.not_le.mpr c1], rfl⟩
  · refine x_iload_n d_K_isQuestion_4 rfl ?_
    refine x_iconst (v := 4) d_K_isQuestion_5 (by decide) ?_
    refine x_icmp_ge 13 d_K_isQuestion_6 (by decide) (fun c2 => ?_) (fun c2 => ?_)
    · refine x_iconst (v := 0) d_K_isQuestion_13 (by decide) ?_
      refine x_zret d_K_isQuestion_14 (by first | rfl | assumption) ?_
      exact ⟨by simp [isQn, bi, Int32.not_lt.mpr c2], rfl⟩
    · refine x_iconst (v := 1) d_K_isQuestion_9 (by decide) ?_
      refine x_goto 14 d_K_isQuestion_10 (by decide) ?_
      refine x_zret d_K_isQuestion_14 (by first | rfl | assumption) ?_
      exact ⟨by simp [isQn, bi, Int32.not_lt.mp c1, Int32.not_le.mp c2], rfl⟩
set_option maxRecDepth 100000 in
set_option maxHeartbeats 4000000 in
theorem c_K_isRow {N : Nat} {h : xHp} (r x y : Int32) : XM y_K_isRow b_K_isRow 3 (some .boolean) 1 0 0 [.int r, .int x, .int y] N h (xR (some (.int (bi (rowOK r x y)))) h) := by
  refine xM_intro [some (.int r), some (.int x), some (.int y)] (by decide) (fun _ => rfl) (fun _ => Nat.le_of_ble_eq_true rfl) (fun Γ => ?_)
  refine x_iload_n d_K_isRow_0 rfl ?_
  refine x_if_lt 27 d_K_isRow_1 (by decide) (fun c1 => ?_) (fun c1 => ?_)
  · refine x_iconst (v := 0) d_K_isRow_27 (by decide) ?_
    refine x_zret d_K_isRow_28 (by first | rfl | assumption) ?_
    exact ⟨by simp [rowOK, bi, Int32.not_le.mpr c1], rfl⟩
  · refine x_iload_n d_K_isRow_4 rfl ?_
    refine x_iconst (v := 3) d_K_isRow_5 (by decide) ?_
    refine x_icmp_ge 27 d_K_isRow_6 (by decide) (fun c2 => ?_) (fun c2 => ?_)
    · refine x_iconst (v := 0) d_K_isRow_27 (by decide) ?_
      refine x_zret d_K_isRow_28 (by first | rfl | assumption) ?_
      exact ⟨by simp [rowOK, bi, Int32.not_lt.mpr c2], rfl⟩
    · refine x_iload_n d_K_isRow_9 rfl ?_
      refine x_cSe (c_K_isValue x) k_K_106 s_K_isValue d_K_isRow_10 rfl (by omega) (Nat.le_of_ble_eq_true rfl) ?_
      refine x_if_eq 27 d_K_isRow_13 (by decide) (fun c3 => ?_) (fun c3 => ?_)
      · rw [bi0] at c3
        refine x_iconst (v := 0) d_K_isRow_27 (by decide) ?_
        refine x_zret d_K_isRow_28 (by first | rfl | assumption) ?_
        exact ⟨by simp [rowOK, bi, c3], rfl⟩
      · rw [bi1] at c3
        refine x_iload_n d_K_isRow_16 rfl ?_
        refine x_cSe (c_K_isValue y) k_K_106 s_K_isValue d_K_isRow_17 rfl (by omega) (Nat.le_of_ble_eq_true rfl) ?_
        refine x_if_eq 27 d_K_isRow_20 (by decide) (fun c4 => ?_) (fun c4 => ?_)
        · rw [bi0] at c4
          refine x_iconst (v := 0) d_K_isRow_27 (by decide) ?_
          refine x_zret d_K_isRow_28 (by first | rfl | assumption) ?_
          exact ⟨by simp [rowOK, bi, c4], rfl⟩
        · rw [bi1] at c4
          refine x_iconst (v := 1) d_K_isRow_23 (by decide) ?_
          refine x_goto 28 d_K_isRow_24 (by decide) ?_
          refine x_zret d_K_isRow_28 (by first | rfl | assumption) ?_
          exact ⟨by simp [rowOK, bi, Int32.not_lt.mp c1, Int32.not_le.mp c2, c3, c4], rfl⟩
theorem i_of {x : Int32} {n : Nat} (hn : n < 2 ^ 31) (h0 : 0 ≤ x) (h : x < nI n) : ∃ j : Nat, j < n ∧ x = nI j := vp_in_of (i_in (Int32.not_lt.mpr h0) hn h) hn
theorem rowOK_n {r x y : Int32} (h : rowOK r x y = true) : ∃ a b c : Nat, a < 3 ∧ b < 6 ∧ c < 6 ∧ r = nI a ∧ x = nI b ∧ y = nI c := by
  simp only [rowOK, isVal, Bool.and_eq_true, decide_eq_true_eq] at h
  obtain ⟨⟨h1, h2⟩, ⟨h3, h4⟩, h5, h6⟩ := h
  obtain ⟨a, ha, ea⟩ := i_of (n := 3) (by decide) h1 h2
  obtain ⟨b, hb, eb⟩ := i_of (n := 6) (by decide) h3 h4
  obtain ⟨c, hc, ec⟩ := i_of (n := 6) (by decide) h5 h6
  exact ⟨a, b, c, ha, hb, hc, ea, eb, ec⟩
theorem isQn_n {q : Int32} (h : isQn q = true) : ∃ a : Nat, a < 4 ∧ q = nI a := by
  simp only [isQn, Bool.and_eq_true, decide_eq_true_eq] at h
  exact i_of (n := 4) (by decide) h.1 h.2
theorem isVal_n {q : Int32} (h : isVal q = true) : ∃ a : Nat, a < 6 ∧ q = nI a := by
  simp only [isVal, Bool.and_eq_true, decide_eq_true_eq] at h
  exact i_of (n := 6) (by decide) h.1 h.2
theorem plOf_in {r x y : Int32} (h : rowOK r x y = true) : vp_in (plOf r x y) 108 := by
  obtain ⟨a, b, c, ha, hb, hc, rfl, rfl, rfl⟩ := rowOK_n h
  rw [plOf_n]
  exact vp_in_nI (by omega) (by decide)
section KM
variable {N : Nat} {h : xHp} {f : Nat → Int32} {n : Nat} {pl bs tf : Nat → Int32} {tn : Nat} {Qs : Nat → CQ}
set_option maxRecDepth 100000 in
set_option maxHeartbeats 4000000 in
theorem c_K_change (r x y b : Int32) (hN : 94 ≤ N) (hI : IC f n pl bs tf tn Qs h) (hn : n < 512) : XM y_K_change b_K_change 5 (some .int) 2 0 0 [.ref 0, .int r, .int x, .int y, .int b] N h (fun v h' => frm h h' ∧ if rowOK r x y = true ∧ outOf (f (plOf r x y).toNatClampNeg) b = false then v = some (.int 0) ∧ IC (upd f (plOf r x y).toNatClampNeg (f (plOf r x y).toNatClampNeg + b)) (n + 1) (upd pl n (plOf r x y)) (upd bs n b) tf tn Qs h' else v = some (.int (-1)) ∧ IC f n pl bs tf tn Qs h') := by
  obtain ⟨h0, ⟨h1, h2, h3, h4⟩, hT, hG', hE, hQ⟩ := id hI
  have h1' := h1
  unfold oR at h1'
  refine xM_intro [some (.ref 0), some (.int r), some (.int x), some (.int y), some (.int b)] (by decide) (fun _ => rfl) (fun _ => Nat.le_of_ble_eq_true rfl) (fun Γ => ?_)
  refine x_iload_n d_K_change_0 rfl ?_
  refine x_iload_n d_K_change_1 rfl ?_
  refine x_iload_n d_K_change_2 rfl ?_
  refine x_cSe (c_K_isRow r x y) k_K_44 s_K_isRow d_K_change_3 rfl (by omega) (Nat.le_of_ble_eq_true rfl) ?_
  refine x_if_ne 11 d_K_change_6 (by decide) (fun c1 => ?_) (fun c1 => ?_)
  · rw [bi1] at c1
    refine x_aload_n d_K_change_11 rfl ?_
    refine x_get f_K_10 d_K_change_12 (by omega) (by first | assumption | exact vu_s | exact vu_t (by omega) (by first | assumption | exact vu_s | exact vu_t (by omega) (by first | assumption | exact vu_s | exact vu_t (by omega) (by first | assumption | exact vu_s))) | rfl | (simp only [va_up, Nat.reduceEqDiff, ↓reduceIte]; first | rfl | assumption)) rfl ?_
    refine x_iload_n d_K_change_15 rfl ?_
    refine x_iload_n d_K_change_16 rfl ?_
    refine x_iload_n d_K_change_17 rfl ?_
    refine x_cSe (c_R_placeOf r x y) k_K_48 s_R_placeOf d_K_change_18 rfl (by omega) (Nat.le_of_ble_eq_true rfl) ?_
    refine x_iload d_K_change_21 rfl ?_
    refine x_cV (c_R_raise hN hn h1 h2 h3 h4 (plOf_in c1)) k_K_52 v_R_raise d_K_change_23 rfl (by omega) (by first | assumption | exact vu_s | exact vu_t (by omega) (by first | assumption | exact vu_s | exact vu_t (by omega) (by first | assumption | exact vu_s | exact vu_t (by omega) (by first | assumption | exact vu_s))) | rfl | (simp only [va_up, Nat.reduceEqDiff, ↓reduceIte]; first | rfl | assumption)) rfl (by omega) (Nat.le_of_ble_eq_true rfl) ?_
    intro v h' hq
    by_cases e : outOf (f (plOf r x y).toNatClampNeg) b = true
    · rw [if_pos e] at hq
      obtain ⟨rfl, rfl⟩ := hq
      refine x_if_eq 33 d_K_change_26 (by decide) (fun c2 => ?_) (fun c2 => ?_)
      · refine x_iconst (v := -1) d_K_change_33 (by decide) ?_
        refine x_iret d_K_change_34 ?_
        refine ⟨frm.rf, ?_⟩
        rw [if_neg (fun z => by rw [e] at z; exact absurd z.2 (by decide))]
        exact ⟨rfl, hI⟩
      · exact absurd rfl c2
    · rw [if_neg e] at hq
      obtain ⟨rfl, rfl⟩ := hq
      refine x_if_eq 33 d_K_change_26 (by decide) (fun c2 => ?_) (fun c2 => ?_)
      · exact absurd c2 (by decide)
      · refine x_iconst (v := 0) d_K_change_29 (by decide) ?_
        refine x_goto 34 d_K_change_30 (by decide) ?_
        refine x_iret d_K_change_34 ?_
        refine ⟨(((frm.rf.up (by decide)).up (by decide)).up (by decide)).up (by decide), ?_⟩
        rw [if_pos ⟨c1, by simpa using e⟩]
        refine ⟨rfl, ?_, ⟨?_, ?_, ?_, ?_⟩, hT.cg ?_, hG'.cg ?_, hE.cg ?_, hQ.cg ?_⟩
        · exact vu_t (by decide) (vu_t (by decide) (vu_t (by decide) (vu_t (by decide) h0)))
        · exact vu_s
        · exact vu_t (by decide) (vu_t (by decide) (vu_t (by decide) vu_s))
        · exact vu_t (by decide) (vu_t (by decide) vu_s)
        · exact vu_t (by decide) vu_s
        all_goals exact (((sm.rf.up (by decide)).up (by decide)).up (by decide)).up (by decide)
  · rw [bi0] at c1
    refine x_iconst (v := -1) d_K_change_9 (by decide) ?_
    refine x_iret d_K_change_10 ?_
    refine ⟨frm.rf, ?_⟩
    rw [if_neg (fun z => by rw [c1] at z; exact absurd z.1 (by decide))]
    exact ⟨rfl, hI⟩
set_option maxRecDepth 100000 in
set_option maxHeartbeats 4000000 in
theorem c_K_back (hN : 94 ≤ N) (hI : IC f n pl bs tf tn Qs h) (hn : n ≤ 512) (hp : ∀ j, j < n → vp_in (pl j) 108) : XM y_K_back b_K_back 1 (some .int) 1 0 0 [.ref 0] N h (fun v h' => frm h h' ∧ if n = 0 then v = some (.int (-1)) ∧ IC f n pl bs tf tn Qs h' else v = some (.int (nI (n - 1))) ∧ IC (upd f (pl (n - 1)).toNatClampNeg (f (pl (n - 1)).toNatClampNeg - bs (n - 1))) (n - 1) pl bs tf tn Qs h') := by
  obtain ⟨h0, ⟨h1, h2, h3, h4⟩, hT, hG', hE, hQ⟩ := id hI
  have h1' := h1
  unfold oR at h1'
  refine xM_intro [some (.ref 0)] (by decide) (fun _ => rfl) (fun _ => Nat.le_of_ble_eq_true rfl) (fun Γ => ?_)
  refine x_aload_n d_K_back_0 rfl ?_
  refine x_get f_K_10 d_K_back_1 (by omega) (by first | assumption | exact vu_s | exact vu_t (by omega) (by first | assumption | exact vu_s | exact vu_t (by omega) (by first | assumption | exact vu_s | exact vu_t (by omega) (by first | assumption | exact vu_s))) | rfl | (simp only [va_up, Nat.reduceEqDiff, ↓reduceIte]; first | rfl | assumption)) rfl ?_
  refine x_cV (c_R_takeBack hN hn h1 h2 h3 h4 hp) k_K_56 v_R_takeBack d_K_back_4 rfl (by omega) (by first | assumption | exact vu_s | exact vu_t (by omega) (by first | assumption | exact vu_s | exact vu_t (by omega) (by first | assumption | exact vu_s | exact vu_t (by omega) (by first | assumption | exact vu_s))) | rfl | (simp only [va_up, Nat.reduceEqDiff, ↓reduceIte]; first | rfl | assumption)) rfl (by omega) (Nat.le_of_ble_eq_true rfl) ?_
  intro v h' hq
  by_cases e : n = 0
  · rw [if_pos e] at hq
    obtain ⟨rfl, rfl⟩ := hq
    refine x_if_eq 20 d_K_back_7 (by decide) (fun c2 => ?_) (fun c2 => ?_)
    · refine x_iconst (v := -1) d_K_back_20 (by decide) ?_
      refine x_iret d_K_back_21 ?_
      refine ⟨frm.rf, ?_⟩
      rw [if_pos e]
      exact ⟨rfl, hI⟩
    · exact absurd rfl c2
  · rw [if_neg e] at hq
    obtain ⟨rfl, rfl⟩ := hq
    refine x_if_eq 20 d_K_back_7 (by decide) (fun c2 => ?_) (fun c2 => ?_)
    · exact absurd c2 (by decide)
    · have k0 : va_up (va_up h 1 (oR (nI (n - 1)))) 2 (aI 108 (upd f (pl (n - 1)).toNatClampNeg (f (pl (n - 1)).toNatClampNeg - bs (n - 1)))) 0 = oK := vu_t (by decide) (vu_t (by decide) h0)
      have k1 : va_up (va_up h 1 (oR (nI (n - 1)))) 2 (aI 108 (upd f (pl (n - 1)).toNatClampNeg (f (pl (n - 1)).toNatClampNeg - bs (n - 1)))) 1 = oR (nI (n - 1)) := vu_t (by decide) vu_s
      have k1' := k1
      unfold oR at k1'
      refine x_aload_n d_K_back_10 rfl ?_
      refine x_get f_K_10 d_K_back_11 (by omega) (by first | assumption | exact vu_s | exact vu_t (by omega) (by first | assumption | exact vu_s | exact vu_t (by omega) (by first | assumption | exact vu_s | exact vu_t (by omega) (by first | assumption | exact vu_s))) | rfl | (simp only [va_up, Nat.reduceEqDiff, ↓reduceIte]; first | rfl | assumption)) rfl ?_
      refine x_cVe (c_R_changesLeft hN k1) k_K_60 v_R_changesLeft d_K_back_14 rfl (by omega) (by first | assumption | exact vu_s | exact vu_t (by omega) (by first | assumption | exact vu_s | exact vu_t (by omega) (by first | assumption | exact vu_s | exact vu_t (by omega) (by first | assumption | exact vu_s))) | rfl | (simp only [va_up, Nat.reduceEqDiff, ↓reduceIte]; first | rfl | assumption)) rfl (by omega) (Nat.le_of_ble_eq_true rfl) ?_
      refine x_goto 21 d_K_back_17 (by decide) ?_
      refine x_iret d_K_back_21 ?_
      refine ⟨(frm.rf.up (by decide)).up (by decide), ?_⟩
      rw [if_neg e]
      refine ⟨rfl, k0, ⟨k1, vu_s, vu_t (by decide) (vu_t (by decide) h3), vu_t (by decide) (vu_t (by decide) h4)⟩, hT.cg ?_, hG'.cg ?_, hE.cg ?_, hQ.cg ?_⟩
      all_goals exact (sm.rf.up (by decide)).up (by decide)
set_option maxRecDepth 100000 in
set_option maxHeartbeats 4000000 in
theorem c_K_clear (hN : 94 ≤ N) (hI : IC f n pl bs tf tn Qs h) : XM y_K_clear b_K_clear 1 (some .int) 1 0 0 [.ref 0] N h (fun v h' => frm h h' ∧ v = some (.int 0) ∧ IC f n pl bs tf 0 Qs h') := by
  obtain ⟨h0, hR, ⟨h5, h6⟩, hG', hE, hQ⟩ := id hI
  refine xM_intro [some (.ref 0)] (by decide) (fun _ => rfl) (fun _ => Nat.le_of_ble_eq_true rfl) (fun Γ => ?_)
  refine x_aload_n d_K_clear_0 rfl ?_
  refine x_get f_K_19 d_K_clear_1 (by omega) (by first | assumption | exact vu_s | exact vu_t (by omega) (by first | assumption | exact vu_s | exact vu_t (by omega) (by first | assumption | exact vu_s | exact vu_t (by omega) (by first | assumption | exact vu_s))) | rfl | (simp only [va_up, Nat.reduceEqDiff, ↓reduceIte]; first | rfl | assumption)) rfl ?_
  refine x_cVv (c_T_empty hN h5) k_K_71 v_T_empty d_K_clear_4 rfl (by omega) (by first | assumption | exact vu_s | exact vu_t (by omega) (by first | assumption | exact vu_s | exact vu_t (by omega) (by first | assumption | exact vu_s | exact vu_t (by omega) (by first | assumption | exact vu_s))) | rfl | (simp only [va_up, Nat.reduceEqDiff, ↓reduceIte]; first | rfl | assumption)) rfl (by omega) (Nat.le_of_ble_eq_true rfl) ?_
  refine x_iconst (v := 0) d_K_clear_7 (by decide) ?_
  refine x_iret d_K_clear_8 ?_
  refine ⟨frm.rf.up (by decide), rfl, vu_t (by decide) h0, hR.cg ?_, ⟨vu_s, vu_t (by decide) h6⟩, hG'.cg ?_, hE.cg ?_, hQ.cg ?_⟩
  all_goals exact sm.rf.up (by decide)
set_option maxRecDepth 100000 in
set_option maxHeartbeats 4000000 in
theorem c_K_count (r x y : Int32) (hN : 94 ≤ N) (hI : IC f n pl bs tf tn Qs h) : XM y_K_count b_K_count 4 (some .long) 2 0 0 [.ref 0, .int r, .int x, .int y] N h (xR (some (.long (if rowOK r x y then (f (plOf r x y).toNatClampNeg).toInt64 else 9000000000000000000))) h) := by
  obtain ⟨h0, ⟨h1, h2, h3, h4⟩, -⟩ := id hI
  have h1' := h1
  unfold oR at h1'
  refine xM_intro [some (.ref 0), some (.int r), some (.int x), some (.int y)] (by decide) (fun _ => rfl) (fun _ => Nat.le_of_ble_eq_true rfl) (fun Γ => ?_)
  refine x_iload_n d_K_count_0 rfl ?_
  refine x_iload_n d_K_count_1 rfl ?_
  refine x_iload_n d_K_count_2 rfl ?_
  refine x_cSe (c_K_isRow r x y) k_K_44 s_K_isRow d_K_count_3 rfl (by omega) (Nat.le_of_ble_eq_true rfl) ?_
  refine x_if_ne 13 d_K_count_6 (by decide) (fun c1 => ?_) (fun c1 => ?_)
  · rw [bi1] at c1
    refine x_aload_n d_K_count_13 rfl ?_
    refine x_get f_K_10 d_K_count_14 (by omega) (by first | assumption | exact vu_s | exact vu_t (by omega) (by first | assumption | exact vu_s | exact vu_t (by omega) (by first | assumption | exact vu_s | exact vu_t (by omega) (by first | assumption | exact vu_s))) | rfl | (simp only [va_up, Nat.reduceEqDiff, ↓reduceIte]; first | rfl | assumption)) rfl ?_
    refine x_iload_n d_K_count_17 rfl ?_
    refine x_iload_n d_K_count_18 rfl ?_
    refine x_iload_n d_K_count_19 rfl ?_
    refine x_cSe (c_R_placeOf r x y) k_K_48 s_R_placeOf d_K_count_20 rfl (by omega) (Nat.le_of_ble_eq_true rfl) ?_
    refine x_cVe (c_R_at hN h1 h2 (plOf_in c1)) k_K_118 v_R_at d_K_count_23 rfl (by omega) (by first | assumption | exact vu_s | exact vu_t (by omega) (by first | assumption | exact vu_s | exact vu_t (by omega) (by first | assumption | exact vu_s | exact vu_t (by omega) (by first | assumption | exact vu_s))) | rfl | (simp only [va_up, Nat.reduceEqDiff, ↓reduceIte]; first | rfl | assumption)) rfl (by omega) (Nat.le_of_ble_eq_true rfl) ?_
    refine x_i2l d_K_count_26 ?_
    refine x_lret d_K_count_27 ?_
    exact ⟨by rw [c1]; rfl, rfl⟩
  · rw [bi0] at c1
    refine x_ldc2 l_K_109 d_K_count_9 ?_
    refine x_lret d_K_count_12 ?_
    exact ⟨by rw [c1]; rfl, rfl⟩
set_option maxRecDepth 100000 in
set_option maxHeartbeats 4000000 in
theorem c_K_state (w : Int32) (hN : 94 ≤ N) (hI : IC f n pl bs tf tn Qs h) : XM y_K_state b_K_state 2 (some .int) 1 0 0 [.ref 0, .int w] N h (xR (some (.int (if w = 0 then nI tn else if w = 1 then nI n else if w = 2 then nI (filN f 108) else -1))) h) := by
  obtain ⟨h0, ⟨h1, h2, h3, h4⟩, ⟨h5, h6⟩, -⟩ := id hI
  have h1' := h1
  unfold oR at h1'
  refine xM_intro [some (.ref 0), some (.int w)] (by decide) (fun _ => rfl) (fun _ => Nat.le_of_ble_eq_true rfl) (fun Γ => ?_)
  refine x_iload_n d_K_state_0 rfl ?_
  by_cases e0 : w = 0
  · subst e0
    refine x_tableIn 28 d_K_state_1 (by decide) (by decide) (off := 27) (by decide) (by decide) ?_
    refine x_aload_n d_K_state_28 rfl ?_
    refine x_get f_K_19 d_K_state_29 (by omega) (by first | assumption | exact vu_s | exact vu_t (by omega) (by first | assumption | exact vu_s | exact vu_t (by omega) (by first | assumption | exact vu_s | exact vu_t (by omega) (by first | assumption | exact vu_s))) | rfl | (simp only [va_up, Nat.reduceEqDiff, ↓reduceIte]; first | rfl | assumption)) rfl ?_
    refine x_cVe (c_T_length hN h5) k_K_68 v_T_length d_K_state_32 rfl (by omega) (by first | assumption | exact vu_s | exact vu_t (by omega) (by first | assumption | exact vu_s | exact vu_t (by omega) (by first | assumption | exact vu_s | exact vu_t (by omega) (by first | assumption | exact vu_s))) | rfl | (simp only [va_up, Nat.reduceEqDiff, ↓reduceIte]; first | rfl | assumption)) rfl (by omega) (Nat.le_of_ble_eq_true rfl) ?_
    refine x_iret d_K_state_35 ?_
    exact ⟨rfl, rfl⟩
  · by_cases e1 : w = 1
    · subst e1
      refine x_tableIn 36 d_K_state_1 (by decide) (by decide) (off := 35) (by decide) (by decide) ?_
      refine x_aload_n d_K_state_36 rfl ?_
      refine x_get f_K_10 d_K_state_37 (by omega) (by first | assumption | exact vu_s | exact vu_t (by omega) (by first | assumption | exact vu_s | exact vu_t (by omega) (by first | assumption | exact vu_s | exact vu_t (by omega) (by first | assumption | exact vu_s))) | rfl | (simp only [va_up, Nat.reduceEqDiff, ↓reduceIte]; first | rfl | assumption)) rfl ?_
      refine x_cVe (c_R_changesLeft hN h1) k_K_60 v_R_changesLeft d_K_state_40 rfl (by omega) (by first | assumption | exact vu_s | exact vu_t (by omega) (by first | assumption | exact vu_s | exact vu_t (by omega) (by first | assumption | exact vu_s | exact vu_t (by omega) (by first | assumption | exact vu_s))) | rfl | (simp only [va_up, Nat.reduceEqDiff, ↓reduceIte]; first | rfl | assumption)) rfl (by omega) (Nat.le_of_ble_eq_true rfl) ?_
      refine x_iret d_K_state_43 ?_
      exact ⟨rfl, rfl⟩
    · by_cases e2 : w = 2
      · subst e2
        refine x_tableIn 44 d_K_state_1 (by decide) (by decide) (off := 43) (by decide) (by decide) ?_
        refine x_aload_n d_K_state_44 rfl ?_
        refine x_get f_K_10 d_K_state_45 (by omega) (by first | assumption | exact vu_s | exact vu_t (by omega) (by first | assumption | exact vu_s | exact vu_t (by omega) (by first | assumption | exact vu_s | exact vu_t (by omega) (by first | assumption | exact vu_s))) | rfl | (simp only [va_up, Nat.reduceEqDiff, ↓reduceIte]; first | rfl | assumption)) rfl ?_
        refine x_cVe (c_R_filled hN h1 h2) k_K_134 v_R_filled d_K_state_48 rfl (by omega) (by first | assumption | exact vu_s | exact vu_t (by omega) (by first | assumption | exact vu_s | exact vu_t (by omega) (by first | assumption | exact vu_s | exact vu_t (by omega) (by first | assumption | exact vu_s))) | rfl | (simp only [va_up, Nat.reduceEqDiff, ↓reduceIte]; first | rfl | assumption)) rfl (by omega) (Nat.le_of_ble_eq_true rfl) ?_
        refine x_iret d_K_state_51 ?_
        exact ⟨rfl, rfl⟩
      · have z0 := lv_neT (a := 0) e0 (by decide)
        have z1 := lv_neT (a := 1) e1 (by decide)
        have z2 := lv_neT (a := 2) e2 (by decide)
        refine x_tableOut 52 d_K_state_1 (by omega) (by decide) ?_
        refine x_iconst (v := -1) d_K_state_52 (by decide) ?_
        refine x_iret d_K_state_53 ?_
        exact ⟨by rw [if_neg e0, if_neg e1, if_neg e2], rfl⟩
end KM
end
section
/-! Grammar, pure: what of the state counts; the chain. -/
/-- the states are alike: what differs is never looked at -/
def gEq (σ τ : GS) : Prop := σ.1 = τ.1 ∧ σ.2.1 = τ.2.1 ∧ σ.2.2.1 = τ.2.2.1 ∧ σ.2.2.2.1 = τ.2.2.2.1 ∧ σ.2.2.2.2.1 = τ.2.2.2.2.1 ∧ σ.2.2.2.2.2.2.2.1 = τ.2.2.2.2.2.2.2.1 ∧ σ.2.2.2.2.2.2.2.2.1 = τ.2.2.2.2.2.2.2.2.1 ∧ (∀ j, j < 4 → σ.2.2.2.2.2.2.2.2.2 j = τ.2.2.2.2.2.2.2.2.2 j) ∧ (σ.1 = 5 ∨ σ.1 = 6 → σ.2.2.2.2.2.1 = τ.2.2.2.2.2.1) ∧ (σ.1 = 6 → σ.2.2.2.2.2.2.1 = τ.2.2.2.2.2.2.1)
def gJ (σ : GS) : Prop := ∃ a b : Nat, σ.2.1 = nI a ∧ σ.2.2.1 = nI b ∧ a ≤ b ∧ b < 3
theorem relOf_n {c : Int32} (h : 0 ≤ relOf c) : ∃ a : Nat, a < 3 ∧ relOf c = nI a := by
  refine i_of (n := 3) (by decide) h ?_
  unfold relOf
  split
  · rename_i e
    have a1 := Int32.le_iff_toInt_le.mp e.1
    have a2 := Int32.le_iff_toInt_le.mp e.2
    have b1 : (82 : Int32).toInt = 82 := rfl
    have b2 : (84 : Int32).toInt = 84 := rfl
    refine Int32.lt_iff_toInt_lt.mpr ?_
    have a3 : (c - 82).toInt = c.toInt - 82 := by
      rw [Int32.toInt_sub, b1]
      apply Int.bmod_eq_of_le
      · omega
      · omega
    rw [a3]
    have b3 : (nI 3).toInt = 3 := rfl
    omega
  · decide
theorem gEq_mk {s : Nat} {fi la : Int32} {op : Nat} {bt cc ck cn gr cc' ck' : Int32} {al al' : Nat → Int32} (e8 : ∀ j, j < 4 → al j = al' j) (h5 : s = 5 ∨ s = 6 → cc = cc') (h6 : s = 6 → ck = ck') : gEq (s, fi, la, op, bt, cc, ck, cn, gr, al) (s, fi, la, op, bt, cc', ck', cn, gr, al') := ⟨rfl, rfl, rfl, rfl, rfl, rfl, rfl, e8, h5, h6⟩
/-- both fail, or both go on alike -/
def gBoth (o o' : Option GS) : Prop := (o = none ∧ o' = none) ∨ ∃ σ τ, o = some σ ∧ o' = some τ ∧ gEq σ τ
theorem gBoth.n : gBoth none none := Or.inl ⟨rfl, rfl⟩
theorem gBoth.s {σ τ : GS} (e : gEq σ τ) : gBoth (some σ) (some τ) := Or.inr ⟨σ, τ, rfl, rfl, e⟩
theorem gBoth.i {c : Prop} [Decidable c] {a b a' b' : Option GS} (h1 : c → gBoth a a') (h2 : ¬ c → gBoth b b') : gBoth (if c then a else b) (if c then a' else b') := by
  by_cases h : c
  · rw [if_pos h, if_pos h]; exact h1 h
  · rw [if_neg h, if_neg h]; exact h2 h
section GB
variable {s : Nat} {fi la : Int32} {op : Nat} {bt cc ck cn gr cc' ck' : Int32} {al al' : Nat → Int32} {c : Int32}
theorem gTail_b (e8 : ∀ j, j < 4 → al j = al' j) : gBoth (gTail (s, fi, la, op, bt, cc, ck, cn, gr, al) c) (gTail (s, fi, la, op, bt, cc', ck', cn, gr, al') c) := gBoth.i (fun _ => gBoth.s (gEq_mk e8 (fun z => by omega) (fun z => by omega))) (fun _ => gBoth.i (fun _ => gBoth.s (gEq_mk e8 (fun z => by omega) (fun z => by omega))) (fun _ => gBoth.n))
theorem gCh0_b (e8 : ∀ j, j < 4 → al j = al' j) : gBoth (gCh0 (0, fi, la, op, bt, cc, ck, cn, gr, al) c) (gCh0 (0, fi, la, op, bt, cc', ck', cn, gr, al') c) := gBoth.i (fun _ => gBoth.s (gEq_mk e8 (fun z => by omega) (fun z => by omega))) (fun _ => gBoth.n)
theorem gCh1_b (e8 : ∀ j, j < 4 → al j = al' j) : gBoth (gCh1 (1, fi, la, op, bt, cc, ck, cn, gr, al) c) (gCh1 (1, fi, la, op, bt, cc', ck', cn, gr, al') c) := gBoth.i (fun _ => gBoth.s (gEq_mk e8 (fun z => by omega) (fun z => by omega))) (fun _ => gBoth.i (fun _ => gBoth.s (gEq_mk e8 (fun z => by omega) (fun z => by omega))) (fun _ => gBoth.n))
theorem gFactor_b (e8 : ∀ j, j < 4 → al j = al' j) : gBoth (gFactor (2, fi, la, op, bt, cc, ck, cn, gr, al) c) (gFactor (2, fi, la, op, bt, cc', ck', cn, gr, al') c) := gBoth.i (fun _ => gBoth.i (fun _ => gBoth.s (gEq_mk e8 (fun z => by omega) (fun z => by omega))) (fun _ => gBoth.n)) (fun _ => gBoth.i (fun _ => gBoth.s (gEq_mk e8 (fun z => by omega) (fun z => by omega))) (fun _ => gBoth.n))
theorem gAfter_b (e8 : ∀ j, j < 4 → al j = al' j) : gBoth (gAfter (3, fi, la, op, bt, cc, ck, cn, gr, al) c) (gAfter (3, fi, la, op, bt, cc', ck', cn, gr, al') c) := gBoth.i (fun _ => gBoth.s (gEq_mk e8 (fun z => by omega) (fun z => by omega))) (fun _ => gBoth.i (fun _ => gTail_b e8) (fun _ => gBoth.i (fun _ => gBoth.s (gEq_mk e8 (fun z => by omega) (fun z => by omega))) (fun _ => gBoth.n)))
theorem gCol_b (e8 : ∀ j, j < 4 → al j = al' j) : gBoth (gCol (4, fi, la, op, bt, cc, ck, cn, gr, al) c) (gCol (4, fi, la, op, bt, cc', ck', cn, gr, al') c) := gBoth.i (fun _ => gBoth.s (gEq_mk e8 (fun _ => rfl) (fun z => by omega))) (fun _ => gBoth.n)
theorem gKind_b (e8 : ∀ j, j < 4 → al j = al' j) (e9 : cc = cc') : gBoth (gKind (5, fi, la, op, bt, cc, ck, cn, gr, al) c) (gKind (5, fi, la, op, bt, cc', ck', cn, gr, al') c) := gBoth.i (fun _ => gBoth.s (gEq_mk e8 (fun _ => e9) (fun _ => rfl))) (fun _ => gBoth.n)
theorem gDig_b (i3 : vp_in cc 4) (e8 : ∀ j, j < 4 → al j = al' j) : gBoth (gDig (6, fi, la, op, bt, cc, ck, cn, gr, al) c) (gDig (6, fi, la, op, bt, cc, ck, cn, gr, al') c) := by
  refine gBoth.i (fun _ => gBoth.s (gEq_mk ?_ (fun z => by omega) (fun z => by omega))) (fun _ => gBoth.n)
  intro j hj
  obtain ⟨k, hk, ek⟩ := vp_in_of i3 (by decide)
  have e11 : cc.toNatClampNeg < 4 := by rw [ek, nI_clamp (by omega)]; exact hk
  rw [e8 _ e11]
  unfold upd
  by_cases h : j = cc.toNatClampNeg
  · rw [if_pos h, if_pos h]
  · rw [if_neg h, if_neg h]; exact e8 j hj
theorem gGrp_b (e8 : ∀ j, j < 4 → al j = al' j) : gBoth (gGrp (8, fi, la, op, bt, cc, ck, cn, gr, al) c) (gGrp (8, fi, la, op, bt, cc', ck', cn, gr, al') c) := gBoth.i (fun _ => gBoth.s (gEq_mk e8 (fun z => by omega) (fun z => by omega))) (fun _ => gBoth.n)
end GB
theorem gTake_eq {σ τ : GS} {c : Int32} (hI : gI σ) (e : gEq σ τ) : gBoth (gTake σ c) (gTake τ c) := by
  obtain ⟨s, fi, la, op, bt, cc, ck, cn, gr, al⟩ := σ
  obtain ⟨s', fi', la', op', bt', cc', ck', cn', gr', al'⟩ := τ
  obtain ⟨e1, e2, e3, e4, e5, e6, e7, e8, e9, e10⟩ := e
  obtain ⟨i1, i2, i3, -⟩ := hI
  dsimp only at e1 e2 e3 e4 e5 e6 e7 e8 e9 e10 i1 i3
  subst e1 e2 e3 e4 e5 e6 e7
  rcases (show s = 0 ∨ s = 1 ∨ s = 2 ∨ s = 3 ∨ s = 4 ∨ s = 5 ∨ s = 6 ∨ s = 7 ∨ s = 8 ∨ s = 9 by omega) with rfl | rfl | rfl | rfl | rfl | rfl | rfl | rfl | rfl | rfl
  · exact gCh0_b (fi := fi) (la := la) e8
  · exact gCh1_b e8
  · exact gFactor_b e8
  · exact gAfter_b e8
  · exact gCol_b (cc := cc) (cc' := cc') e8
  · exact gKind_b (ck := ck) (ck' := ck') e8 (e9 (Or.inl rfl))
  · obtain rfl := e9 (Or.inr rfl)
    obtain rfl := e10 rfl
    exact gDig_b i3 e8
  · exact gTail_b (s := 7) e8
  · exact gGrp_b (gr := gr) e8
  · exact gBoth.n
/-- a start of one's own -/
def gz : GS := (0, 0, 0, 0, 0, 0, 0, 0, -2, fun _ => 63)
theorem gz_eq (σ : GS) : gEq (g0 σ) gz := by
  unfold g0 gz
  exact gEq_mk (fun j hj => by simp [filF, hj]) (fun z => by omega) (fun z => by omega)
theorem g0_I {σ : GS} (h : vp_in σ.2.2.2.2.2.1 4) : gI (g0 σ) := ⟨by show 0 ≤ 9; decide, by show 0 ≤ 8; decide, h, by show (0 : Int32) ≤ 0; decide⟩
theorem gRes_eq {σ τ : GS} {f : Nat → Int32} (hI : gI σ) (e : gEq σ τ) : ∀ n, (∃ k, gRes σ f n = .inl k ∧ gRes τ f n = .inl k) ∨ ∃ σ' τ', gRes σ f n = .inr σ' ∧ gRes τ f n = .inr τ' ∧ gEq σ' τ' ∧ gI σ'
  | 0 => Or.inr ⟨σ, τ, rfl, rfl, e, hI⟩
  | n + 1 => by
    rcases gRes_eq (f := f) hI e n with ⟨k, h1, h2⟩ | ⟨σ', τ', h1, h2, h3, h4⟩
    · exact Or.inl ⟨k, by simp only [gRes, h1], by simp only [gRes, h2]⟩
    · rcases gTake_eq (c := f n) h4 h3 with ⟨z1, z2⟩ | ⟨σ2, τ2, z1, z2, z3⟩
      · exact Or.inl ⟨n, by simp only [gRes, h1, z1], by simp only [gRes, h2, z2]⟩
      · exact Or.inr ⟨σ2, τ2, by simp only [gRes, h1, z1], by simp only [gRes, h2, z2], z3, gTake_I h4 z1⟩
theorem gW_eq {σ τ : GS} (e : gEq σ τ) : gW σ = gW τ := by
  unfold gW
  rw [e.1, e.2.2.2.1]
theorem fltC_eq {σ : GS} {f : Nat → Int32} {n : Nat} (h : vp_in σ.2.2.2.2.2.1 4) : fltC (g0 σ) f n = fltC gz f n := by
  unfold fltC
  rcases gRes_eq (f := f) (g0_I h) (gz_eq σ) n with ⟨k, h1, h2⟩ | ⟨σ', τ', h1, h2, h3, -⟩
  · rw [h1, h2]
  · rw [h1, h2]
    dsimp only
    rw [gW_eq h3]
theorem gTail_J {σ σ' : GS} {c : Int32} (hJ : gJ σ) (h : gTail σ c = some σ') : gJ σ' := by
  obtain ⟨s, t⟩ := σ
  unfold gTail at h
  dsimp only at h
  split at h
  · cases h
    exact hJ
  · split at h
    · cases h
      exact hJ
    · cases h
theorem gTake_J {σ σ' : GS} {c : Int32} (hI : gI σ) (hJ : gJ σ) (h : gTake σ c = some σ') : gJ σ' := by
  obtain ⟨s, fi, la, op, bt, cc, ck, cn, gr, al⟩ := σ
  have i1' : s ≤ 9 := hI.1
  rcases (show s = 0 ∨ s = 1 ∨ s = 2 ∨ s = 3 ∨ s = 4 ∨ s = 5 ∨ s = 6 ∨ s = 7 ∨ s = 8 ∨ s = 9 by omega) with rfl | rfl | rfl | rfl | rfl | rfl | rfl | rfl | rfl | rfl
  · have h : gCh0 (0, fi, la, op, bt, cc, ck, cn, gr, al) c = some σ' := h
    unfold gCh0 at h
    dsimp only at h
    split at h
    · rename_i e
      obtain ⟨k, hk, ek⟩ := relOf_n e
      cases h
      exact ⟨k, k, ek, ek, Nat.le_refl _, hk⟩
    · cases h
  · have h : gCh1 (1, fi, la, op, bt, cc, ck, cn, gr, al) c = some σ' := h
    unfold gCh1 at h
    dsimp only at h
    split at h
    · cases h
      exact hJ
    · split at h
      · rename_i e1 e2
        obtain ⟨a, b, h1, h2, h3, h4⟩ := hJ
        have h2' : la = nI b := h2
        rw [h2'] at e2
        have e3 : 0 ≤ relOf c := by rw [e2, nI_1]; exact nI_pos' (by omega)
        obtain ⟨k, hk, ek⟩ := relOf_n e3
        rw [ek, nI_1] at e2
        have e4 := (nI_eq (by omega) (by omega)).mp e2
        cases h
        exact ⟨a, b + 1, h1, by show la + 1 = _; rw [h2']; exact nI_1 b, by omega, by omega⟩
      · cases h
  · have h : gFactor (2, fi, la, op, bt, cc, ck, cn, gr, al) c = some σ' := h
    unfold gFactor at h
    dsimp only at h
    split at h
    · split at h
      · cases h
        exact hJ
      · cases h
    · split at h
      · cases h
        exact hJ
      · cases h
  · have h : gAfter (3, fi, la, op, bt, cc, ck, cn, gr, al) c = some σ' := h
    unfold gAfter at h
    dsimp only at h
    split at h
    · cases h
      exact hJ
    · split at h
      · exact gTail_J (σ := (3, fi, la, op, bt, cc, ck, cn, gr, al)) hJ h
      · split at h
        · cases h
          exact hJ
        · cases h
  · have h : gCol (4, fi, la, op, bt, cc, ck, cn, gr, al) c = some σ' := h
    unfold gCol at h
    dsimp only at h
    split at h
    · cases h
      exact hJ
    · cases h
  · have h : gKind (5, fi, la, op, bt, cc, ck, cn, gr, al) c = some σ' := h
    unfold gKind at h
    dsimp only at h
    split at h
    · cases h
      exact hJ
    · cases h
  · have h : gDig (6, fi, la, op, bt, cc, ck, cn, gr, al) c = some σ' := h
    unfold gDig at h
    dsimp only at h
    split at h
    · cases h
      exact hJ
    · cases h
  · exact gTail_J (σ := (7, fi, la, op, bt, cc, ck, cn, gr, al)) hJ h
  · have h : gGrp (8, fi, la, op, bt, cc, ck, cn, gr, al) c = some σ' := h
    unfold gGrp at h
    dsimp only at h
    split at h
    · cases h
      exact hJ
    · cases h
  · cases h
theorem gRes_J {σ : GS} {f : Nat → Int32} (hI : gI σ) (hJ : gJ σ) : ∀ n σ', gRes σ f n = .inr σ' → gJ σ' ∧ gI σ'
  | 0, σ', h => by
    cases h
    exact ⟨hJ, hI⟩
  | n + 1, σ', h => by
    simp only [gRes] at h
    split at h
    · cases h
    · rename_i τ hτ
      split at h
      · cases h
      · rename_i τ' hτ'
        cases h
        obtain ⟨z1, z2⟩ := gRes_J hI hJ n τ hτ
        exact ⟨gTake_J z2 z1 hτ', gTake_I z2 hτ'⟩
end
section
/-! JoinKeeper: sign, fault, drop, answer, total, question. -/
theorem chr_n {c : Int32} (h1 : 33 ≤ c) (h2 : c ≤ 126) : (c.toUInt32 % 65536).toInt32 = c ∧ chOK c := by
  obtain ⟨k, hk, rfl⟩ := i_of (n := 127) (x := c) (by decide) (Int32.le_trans (by decide) h1) (Int32.lt_of_le_of_lt h2 (by decide))
  refine ⟨?_, pk_charN (by omega)⟩
  rw [pk_char, pk_tn (by omega), Nat.mod_eq_of_lt (by omega)]
theorem chOK_0 : chOK 0 := pk_charN (q := 0) (by decide)
section KM2
variable {N : Nat} {h : xHp} {f : Nat → Int32} {n : Nat} {pl bs tf : Nat → Int32} {tn : Nat} {Qs : Nat → CQ}
set_option maxRecDepth 100000 in
set_option maxHeartbeats 4000000 in
theorem c_K_sign (c : Int32) (hN : 94 ≤ N) (hI : IC f n pl bs tf tn Qs h) (ht : tn ≤ 30) : XM y_K_sign b_K_sign 2 (some .int) 1 0 0 [.ref 0, .int c] N h (fun v h' => frm h h' ∧ if 33 ≤ c ∧ c ≤ 126 ∧ tn < 30 then v = some (.int (nI (tn + 1))) ∧ IC f n pl bs (upd tf tn c) (tn + 1) Qs h' else v = some (.int (-1)) ∧ IC f n pl bs tf tn Qs h') := by
  obtain ⟨h0, hR, ⟨h5, h6⟩, hG', hE, hQ⟩ := id hI
  refine xM_intro [some (.ref 0), some (.int c)] (by decide) (fun _ => rfl) (fun _ => Nat.le_of_ble_eq_true rfl) (fun Γ => ?_)
  refine x_iload_n d_K_sign_0 rfl ?_
  refine x_bipush (v := 33) d_K_sign_1 (by decide) ?_
  refine x_icmp_lt 12 d_K_sign_3 (by decide) (fun c1 => ?_) (fun c1 => ?_)
  · refine x_iconst (v := -1) d_K_sign_12 (by decide) ?_
    refine x_iret d_K_sign_13 ?_
    refine ⟨frm.rf, ?_⟩
    rw [if_neg (fun z => Int32.not_le.mpr c1 z.1)]
    exact ⟨rfl, hI⟩
  · refine x_iload_n d_K_sign_6 rfl ?_
    refine x_bipush (v := 126) d_K_sign_7 (by decide) ?_
    refine x_icmp_le 14 d_K_sign_9 (by decide) (fun c2 => ?_) (fun c2 => ?_)
    · obtain ⟨e1, e2⟩ := chr_n (Int32.not_lt.mp c1) c2
      refine x_aload_n d_K_sign_14 rfl ?_
      refine x_get f_K_19 d_K_sign_15 (by omega) (by first | assumption | exact vu_s | exact vu_t (by omega) (by first | assumption | exact vu_s | exact vu_t (by omega) (by first | assumption | exact vu_s | exact vu_t (by omega) (by first | assumption | exact vu_s))) | rfl | (simp only [va_up, Nat.reduceEqDiff, ↓reduceIte]; first | rfl | assumption)) rfl ?_
      refine x_iload_n d_K_sign_18 rfl ?_
      refine x_i2c d_K_sign_19 ?_
      rw [e1]
      refine x_cVe (c_T_append c hN ht e2.1 h5 h6) k_K_64 v_T_append d_K_sign_20 rfl (by omega) (by first | assumption | exact vu_s | exact vu_t (by omega) (by first | assumption | exact vu_s | exact vu_t (by omega) (by first | assumption | exact vu_s | exact vu_t (by omega) (by first | assumption | exact vu_s))) | rfl | (simp only [va_up, Nat.reduceEqDiff, ↓reduceIte]; first | rfl | assumption)) rfl (by omega) (Nat.le_of_ble_eq_true rfl) ?_
      by_cases e : tn < 30
      · rw [if_pos e]
        refine x_if_eq 36 d_K_sign_23 (by decide) (fun c3 => ?_) (fun c3 => ?_)
        · rw [bi0] at c3
          exact absurd e (by simpa using c3)
        · have k0 : va_up (va_up h 6 (.inl (1, 30, .inl (upd tf tn c)))) 5 (.inr (2, [.ref 6, .int (nI (tn + 1))])) 0 = oK := vu_t (by decide) (vu_t (by decide) h0)
          have k5 : va_up (va_up h 6 (.inl (1, 30, .inl (upd tf tn c)))) 5 (.inr (2, [.ref 6, .int (nI (tn + 1))])) 5 = .inr (2, [.ref 6, .int (nI (tn + 1))]) := vu_s
          refine x_aload_n d_K_sign_26 rfl ?_
          refine x_get f_K_19 d_K_sign_27 (by omega) (by first | assumption | exact vu_s | exact vu_t (by omega) (by first | assumption | exact vu_s | exact vu_t (by omega) (by first | assumption | exact vu_s | exact vu_t (by omega) (by first | assumption | exact vu_s))) | rfl | (simp only [va_up, Nat.reduceEqDiff, ↓reduceIte]; first | rfl | assumption)) rfl ?_
          refine x_cVe (c_T_length hN k5) k_K_68 v_T_length d_K_sign_30 rfl (by omega) (by first | assumption | exact vu_s | exact vu_t (by omega) (by first | assumption | exact vu_s | exact vu_t (by omega) (by first | assumption | exact vu_s | exact vu_t (by omega) (by first | assumption | exact vu_s))) | rfl | (simp only [va_up, Nat.reduceEqDiff, ↓reduceIte]; first | rfl | assumption)) rfl (by omega) (Nat.le_of_ble_eq_true rfl) ?_
          refine x_goto 37 d_K_sign_33 (by decide) ?_
          refine x_iret d_K_sign_37 ?_
          refine ⟨(frm.rf.up (by decide)).up (by decide), ?_⟩
          rw [if_pos ⟨Int32.not_lt.mp c1, c2, e⟩]
          refine ⟨rfl, k0, hR.cg ?_, ⟨k5, vu_t (by decide) vu_s⟩, hG'.cg ?_, hE.cg ?_, hQ.cg ?_⟩
          all_goals exact (sm.rf.up (by decide)).up (by decide)
      · rw [if_neg e]
        refine x_if_eq 36 d_K_sign_23 (by decide) (fun c3 => ?_) (fun c3 => ?_)
        · refine x_iconst (v := -1) d_K_sign_36 (by decide) ?_
          refine x_iret d_K_sign_37 ?_
          refine ⟨frm.rf, ?_⟩
          rw [if_neg (fun z => e z.2.2)]
          exact ⟨rfl, hI⟩
        · rw [bi1] at c3
          exact absurd (by simpa using c3) e
    · refine x_iconst (v := -1) d_K_sign_12 (by decide) ?_
      refine x_iret d_K_sign_13 ?_
      refine ⟨frm.rf, ?_⟩
      rw [if_neg (fun z => c2 z.2.1)]
      exact ⟨rfl, hI⟩
set_option maxRecDepth 100000 in
set_option maxHeartbeats 4000000 in
theorem c_K_fault (hN : 94 ≤ N) (hI : IC f n pl bs tf tn Qs h) (ht : tn ≤ 30) (hf : ∀ j, chOK (tf j)) : XM y_K_fault b_K_fault 1 (some .int) 5 0 0 [.ref 0] N h (fun v h' => frm h h' ∧ v = some (.int (fltC gz tf tn)) ∧ IC f n pl bs tf tn Qs h') := by
  obtain ⟨h0, hR, ⟨h5, h6⟩, ⟨σ, s1, s2, s3⟩, hE, hQ⟩ := id hI
  have hh := hG_of s2 s3
  refine xM_intro [some (.ref 0)] (by decide) (fun _ => rfl) (fun _ => Nat.le_of_ble_eq_true rfl) (fun Γ => ?_)
  refine x_aload_n d_K_fault_0 rfl ?_
  refine x_get f_K_26 d_K_fault_1 (by omega) (by first | assumption | exact vu_s | exact vu_t (by omega) (by first | assumption | exact vu_s | exact vu_t (by omega) (by first | assumption | exact vu_s | exact vu_t (by omega) (by first | assumption | exact vu_s))) | rfl | (simp only [va_up, Nat.reduceEqDiff, ↓reduceIte]; first | rfl | assumption)) rfl ?_
  refine x_aload_n d_K_fault_4 rfl ?_
  refine x_get f_K_19 d_K_fault_5 (by omega) (by first | assumption | exact vu_s | exact vu_t (by omega) (by first | assumption | exact vu_s | exact vu_t (by omega) (by first | assumption | exact vu_s | exact vu_t (by omega) (by first | assumption | exact vu_s))) | rfl | (simp only [va_up, Nat.reduceEqDiff, ↓reduceIte]; first | rfl | assumption)) rfl ?_
  refine XW_h hh.symm ?_
  have k7 : hG h σ 7 = oG σ := hG_7 h σ
  refine x_cV (c_G_faultIn σ hN ht (g0_I s1) hf h5 h6) k_K_78 v_G_faultIn d_K_fault_8 rfl (by omega) (by first | assumption | exact vu_s | exact vu_t (by omega) (by first | assumption | exact vu_s | exact vu_t (by omega) (by first | assumption | exact vu_s | exact vu_t (by omega) (by first | assumption | exact vu_s))) | rfl | (simp only [va_up, Nat.reduceEqDiff, ↓reduceIte]; first | rfl | assumption)) rfl (by omega) (Nat.le_of_ble_eq_true rfl) ?_
  rintro v h' ⟨rfl, σ', i1, rfl, -⟩
  refine x_iret d_K_fault_11 ?_
  have e1 : ∀ k, k ≠ 7 → k ≠ 8 → hG h σ' k = h k := fun k a b => hG_n h σ' a b
  refine ⟨fun k hk => e1 k (by omega) (by omega), by rw [fltC_eq s1], (e1 0 (by decide) (by decide)).trans h0, hR.cg (fun k a b => e1 k (by omega) (by omega)), ⟨(e1 5 (by decide) (by decide)).trans h5, (e1 6 (by decide) (by decide)).trans h6⟩, ⟨σ', i1.2.2.1, hG_7 h σ', hG_8 h σ'⟩, hE.cg (fun k a b => e1 k (by omega) (by omega)), hQ.cg (fun k a b => e1 k (by omega) (by omega))⟩
set_option maxRecDepth 100000 in
set_option maxHeartbeats 4000000 in
theorem c_K_isAskable (q : Int32) (hN : 94 ≤ N) (hI : IC f n pl bs tf tn Qs h) : XM y_K_isAskable b_K_isAskable 2 (some .boolean) 1 0 0 [.ref 0, .int q] N h (xR (some (.int (bi (isQn q && (Qs q.toNatClampNeg).1)))) h) := by
  obtain ⟨h0, -, -, -, -, ⟨⟨s, a1, a2⟩, a3⟩⟩ := id hI
  refine xM_intro [some (.ref 0), some (.int q)] (by decide) (fun _ => rfl) (fun _ => Nat.le_of_ble_eq_true rfl) (fun Γ => ?_)
  refine x_iload_n d_K_isAskable_0 rfl ?_
  refine x_cSe (c_K_isQuestion q) k_K_74 s_K_isQuestion d_K_isAskable_1 rfl (by omega) (Nat.le_of_ble_eq_true rfl) ?_
  refine x_if_eq 23 d_K_isAskable_4 (by decide) (fun c1 => ?_) (fun c1 => ?_)
  · rw [bi0] at c1
    refine x_iconst (v := 0) d_K_isAskable_23 (by decide) ?_
    refine x_zret d_K_isAskable_24 (by first | rfl | assumption) ?_
    exact ⟨by simp [c1, bi], rfl⟩
  · rw [bi1] at c1
    obtain ⟨k, hk, rfl⟩ := isQn_n c1
    have hi : vp_in (nI k) 4 := vp_in_nI hk (by decide)
    have hck : (nI k).toNatClampNeg = k := nI_clamp (by omega)
    obtain ⟨b1, -⟩ := a3 k hk
    refine x_aload_n d_K_isAskable_7 rfl ?_
    refine x_get f_K_39 d_K_isAskable_8 (by omega) (by first | assumption | exact vu_s | exact vu_t (by omega) (by first | assumption | exact vu_s | exact vu_t (by omega) (by first | assumption | exact vu_s | exact vu_t (by omega) (by first | assumption | exact vu_s))) | rfl | (simp only [va_up, Nat.reduceEqDiff, ↓reduceIte]; first | rfl | assumption)) rfl ?_
    refine x_iload_n d_K_isAskable_11 rfl ?_
    refine x_aald (t := 5) (v := 70 + 6 * k) rfl d_K_isAskable_12 (by omega) a1 hi (by rw [hck]; exact a2 k hk) ?_
    refine x_cVe (c_Q_isThere (by omega) b1) k_K_122 v_Q_isThere d_K_isAskable_13 rfl (by omega) (by first | assumption | exact vu_s | exact vu_t (by omega) (by first | assumption | exact vu_s | exact vu_t (by omega) (by first | assumption | exact vu_s | exact vu_t (by omega) (by first | assumption | exact vu_s))) | rfl | (simp only [va_up, Nat.reduceEqDiff, ↓reduceIte]; first | rfl | assumption)) rfl (by omega) (Nat.le_of_ble_eq_true rfl) ?_
    rw [hck]
    refine x_if_eq 23 d_K_isAskable_16 (by decide) (fun c2 => ?_) (fun c2 => ?_)
    · rw [bi0] at c2
      refine x_iconst (v := 0) d_K_isAskable_23 (by decide) ?_
      refine x_zret d_K_isAskable_24 (by first | rfl | assumption) ?_
      exact ⟨by simp [c2, bi], rfl⟩
    · rw [bi1] at c2
      refine x_iconst (v := 1) d_K_isAskable_19 (by decide) ?_
      refine x_goto 24 d_K_isAskable_20 (by decide) ?_
      refine x_zret d_K_isAskable_24 (by first | rfl | assumption) ?_
      exact ⟨by simp [c1, c2, bi], rfl⟩
def upQ (Qs : Nat → CQ) (k : Nat) (Q : CQ) : Nat → CQ := fun j => if j = k then Q else Qs j
set_option maxRecDepth 100000 in
set_option maxHeartbeats 4000000 in
theorem c_K_drop (q : Int32) (hN : 94 ≤ N) (hI : IC f n pl bs tf tn Qs h) : XM y_K_drop b_K_drop 2 (some .int) 2 0 0 [.ref 0, .int q] N h (fun v h' => frm h h' ∧ if (isQn q && (Qs q.toNatClampNeg).1) = true then v = some (.int 0) ∧ IC f n pl bs tf tn (upQ Qs q.toNatClampNeg (false, (Qs q.toNatClampNeg).2)) h' else v = some (.int (-1)) ∧ IC f n pl bs tf tn Qs h') := by
  obtain ⟨h0, hR, hT, hG', hE, hQ⟩ := id hI
  obtain ⟨⟨s, a1, a2⟩, a3⟩ := id hQ
  refine xM_intro [some (.ref 0), some (.int q)] (by decide) (fun _ => rfl) (fun _ => Nat.le_of_ble_eq_true rfl) (fun Γ => ?_)
  refine x_aload_n d_K_drop_0 rfl ?_
  refine x_iload_n d_K_drop_1 rfl ?_
  refine x_cVe (c_K_isAskable q hN hI) k_K_100 v_K_isAskable d_K_drop_2 rfl (by omega) (by first | assumption | exact vu_s | exact vu_t (by omega) (by first | assumption | exact vu_s | exact vu_t (by omega) (by first | assumption | exact vu_s | exact vu_t (by omega) (by first | assumption | exact vu_s))) | rfl | (simp only [va_up, Nat.reduceEqDiff, ↓reduceIte]; first | rfl | assumption)) rfl (by omega) (Nat.le_of_ble_eq_true rfl) ?_
  refine x_if_ne 10 d_K_drop_5 (by decide) (fun c1 => ?_) (fun c1 => ?_)
  · rw [bi1] at c1
    have c1' := c1
    rw [Bool.and_eq_true] at c1'
    obtain ⟨k, hk, rfl⟩ := isQn_n c1'.1
    have hi : vp_in (nI k) 4 := vp_in_nI hk (by decide)
    have hck : (nI k).toNatClampNeg = k := nI_clamp (by omega)
    obtain ⟨b1, b2, b3, b4, ⟨ra, b5⟩, rb, b6⟩ := a3 k hk
    refine x_aload_n d_K_drop_10 rfl ?_
    refine x_get f_K_39 d_K_drop_11 (by omega) (by first | assumption | exact vu_s | exact vu_t (by omega) (by first | assumption | exact vu_s | exact vu_t (by omega) (by first | assumption | exact vu_s | exact vu_t (by omega) (by first | assumption | exact vu_s))) | rfl | (simp only [va_up, Nat.reduceEqDiff, ↓reduceIte]; first | rfl | assumption)) rfl ?_
    refine x_iload_n d_K_drop_14 rfl ?_
    refine x_aald (t := 5) (v := 70 + 6 * k) rfl d_K_drop_15 (by omega) a1 hi (by rw [hck]; exact a2 k hk) ?_
    refine x_cVv (c_Q_remove (by omega) b1) k_K_103 v_Q_remove d_K_drop_16 rfl (by omega) (by first | assumption | exact vu_s | exact vu_t (by omega) (by first | assumption | exact vu_s | exact vu_t (by omega) (by first | assumption | exact vu_s | exact vu_t (by omega) (by first | assumption | exact vu_s))) | rfl | (simp only [va_up, Nat.reduceEqDiff, ↓reduceIte]; first | rfl | assumption)) rfl (by omega) (Nat.le_of_ble_eq_true rfl) ?_
    refine x_iconst (v := 0) d_K_drop_19 (by decide) ?_
    refine x_iret d_K_drop_20 ?_
    refine ⟨frm.rf.up (by omega), ?_⟩
    rw [if_pos c1, hck]
    refine ⟨rfl, vu_t (by omega) h0, hR.cg ?_, hT.cg ?_, hG'.cg ?_, hE.cg ?_, ⟨s, vu_t (by omega) a1, a2⟩, fun i hi => ?_⟩
    · exact sm.rf.up (by omega)
    · exact sm.rf.up (by omega)
    · exact sm.rf.up (by omega)
    · exact sm.rf.up (by omega)
    · by_cases e : i = k
      · subst e
        rw [show upQ Qs i (false, (Qs i).2) i = (false, (Qs i).2) from if_pos rfl]
        exact ⟨vu_s, vu_t (by omega) b2, vu_t (by omega) b3, vu_t (by omega) b4, ⟨ra, vu_t (by omega) b5⟩, rb, vu_t (by omega) b6⟩
      · rw [show upQ Qs k (false, (Qs k).2) i = Qs i from if_neg e]
        exact (a3 i hi).cg (sm.rf.up (by omega))
  · rw [bi0] at c1
    refine x_iconst (v := -1) d_K_drop_8 (by decide) ?_
    refine x_iret d_K_drop_9 ?_
    refine ⟨frm.rf, ?_⟩
    rw [if_neg (by rw [c1]; decide)]
    exact ⟨rfl, hI⟩
theorem scr_IC {q k : Nat} {h h' : xHp} (hI : IC f n pl bs tf tn Qs h) (hk : k < 4) (hq : q = 70 + 6 * k) (s : scr q h h') : frm h h' ∧ IC f n pl bs tf tn Qs h' := by
  subst hq
  obtain ⟨h0, hR, hT, hG', hE, hQ⟩ := hI
  obtain ⟨⟨s1, a1, a2⟩, a3⟩ := id hQ
  obtain ⟨⟨ra, rb, r1, r2⟩, r3⟩ := s
  refine ⟨fun j hj => r3 j (by omega) (by omega), (r3 0 (by omega) (by omega)).trans h0, hR.cg ?_, hT.cg ?_, hG'.cg ?_, hE.cg ?_, ⟨s1, (r3 69 (by omega) (by omega)).trans a1, a2⟩, fun i hi => ?_⟩
  · exact fun j z1 z2 => r3 j (by omega) (by omega)
  · exact fun j z1 z2 => r3 j (by omega) (by omega)
  · exact fun j z1 z2 => r3 j (by omega) (by omega)
  · exact fun j z1 z2 => r3 j (by omega) (by omega)
  · by_cases e : i = k
    · subst e
      obtain ⟨b1, b2, b3, b4, -⟩ := a3 i hi
      exact ⟨(r3 _ (by omega) (by omega)).trans b1, (r3 _ (by omega) (by omega)).trans b2, (r3 _ (by omega) (by omega)).trans b3, (r3 _ (by omega) (by omega)).trans b4, ⟨ra, r1⟩, rb, r2⟩
    · exact (a3 i hi).cg (fun j z1 z2 => r3 j (by omega) (by omega))
def okQ (Q : CQ) : Prop := Q.2.1 ≤ Q.2.2.1 ∧ Q.2.2.1 < 3
/-- the answer of a question of the class -/
def ansQ (Q : CQ) (f : Nat → Int32) (grp : Int32) : Int64 := ansC Q.2.2.2.2.2.1 Q.2.2.2.1 grp f Q.2.2.2.2.2.2 Q.2.1 Q.2.2.1
set_option maxRecDepth 100000 in
set_option maxHeartbeats 4000000 in
theorem c_K_answer (q grp : Int32) (hN : 94 ≤ N) (hI : IC f n pl bs tf tn Qs h) (hok : ∀ i, i < 4 → okQ (Qs i)) : XM y_K_answer b_K_answer 3 (some .long) 5 0 0 [.ref 0, .int q, .int grp] N h (fun v h' => (frm h h' ∧ IC f n pl bs tf tn Qs h') ∧ v = some (.long (if (isQn q && (Qs q.toNatClampNeg).1) = true ∧ isVal grp = true then (if (Qs q.toNatClampNeg).2.2.2.1 = -2 then (if grp = 0 then ansQ (Qs q.toNatClampNeg) f (-1) else 0) else ansQ (Qs q.toNatClampNeg) f grp) else 9000000000000000000))) := by
  obtain ⟨h0, ⟨h1, h2, -⟩, -, -, -, ⟨⟨s, a1, a2⟩, a3⟩⟩ := id hI
  refine xM_intro [some (.ref 0), some (.int q), some (.int grp)] (by decide) (fun _ => rfl) (fun _ => Nat.le_of_ble_eq_true rfl) (fun Γ => ?_)
  refine x_aload_n d_K_answer_0 rfl ?_
  refine x_iload_n d_K_answer_1 rfl ?_
  refine x_cVe (c_K_isAskable q hN hI) k_K_100 v_K_isAskable d_K_answer_2 rfl (by omega) (by first | assumption | exact vu_s | exact vu_t (by omega) (by first | assumption | exact vu_s | exact vu_t (by omega) (by first | assumption | exact vu_s | exact vu_t (by omega) (by first | assumption | exact vu_s))) | rfl | (simp only [va_up, Nat.reduceEqDiff, ↓reduceIte]; first | rfl | assumption)) rfl (by omega) (Nat.le_of_ble_eq_true rfl) ?_
  refine x_if_eq 15 d_K_answer_5 (by decide) (fun c1 => ?_) (fun c1 => ?_)
  · rw [bi0] at c1
    refine x_ldc2 l_K_109 d_K_answer_15 ?_
    refine x_lret d_K_answer_18 ?_
    exact ⟨⟨frm.rf, hI⟩, by rw [if_neg (fun z => by rw [c1] at z; exact absurd z.1 (by decide))]⟩
  · rw [bi1] at c1
    refine x_iload_n d_K_answer_8 rfl ?_
    refine x_cSe (c_K_isValue grp) k_K_106 s_K_isValue d_K_answer_9 rfl (by omega) (Nat.le_of_ble_eq_true rfl) ?_
    refine x_if_ne 19 d_K_answer_12 (by decide) (fun c2 => ?_) (fun c2 => ?_)
    · rw [bi1] at c2
      have c1' := c1
      rw [Bool.and_eq_true] at c1'
      obtain ⟨k, hk, rfl⟩ := isQn_n c1'.1
      have hi : vp_in (nI k) 4 := vp_in_nI hk (by decide)
      have hck : (nI k).toNatClampNeg = k := nI_clamp (by omega)
      obtain ⟨b1, b2, b3, b4, ⟨ra, b5⟩, rb, b6⟩ := a3 k hk
      refine x_aload_n d_K_answer_19 rfl ?_
      refine x_get f_K_39 d_K_answer_20 (by omega) (by first | assumption | exact vu_s | exact vu_t (by omega) (by first | assumption | exact vu_s | exact vu_t (by omega) (by first | assumption | exact vu_s | exact vu_t (by omega) (by first | assumption | exact vu_s))) | rfl | (simp only [va_up, Nat.reduceEqDiff, ↓reduceIte]; first | rfl | assumption)) rfl ?_
      refine x_iload_n d_K_answer_23 rfl ?_
      refine x_aald (t := 5) (v := 70 + 6 * k) rfl d_K_answer_24 (by omega) a1 hi (by rw [hck]; exact a2 k hk) ?_
      refine x_aload_n d_K_answer_25 rfl ?_
      refine x_get f_K_10 d_K_answer_26 (by omega) (by first | assumption | exact vu_s | exact vu_t (by omega) (by first | assumption | exact vu_s | exact vu_t (by omega) (by first | assumption | exact vu_s | exact vu_t (by omega) (by first | assumption | exact vu_s))) | rfl | (simp only [va_up, Nat.reduceEqDiff, ↓reduceIte]; first | rfl | assumption)) rfl ?_
      refine x_iload_n d_K_answer_29 rfl ?_
      refine x_cV (c_Q_answerFor hN (by omega) (by omega) (hok k hk).1 (hok k hk).2 h1 h2 b1 b2 b3 b4 b5 b6) k_K_111 v_Q_answerFor d_K_answer_30 rfl (by omega) (by first | assumption | exact vu_s | exact vu_t (by omega) (by first | assumption | exact vu_s | exact vu_t (by omega) (by first | assumption | exact vu_s | exact vu_t (by omega) (by first | assumption | exact vu_s))) | rfl | (simp only [va_up, Nat.reduceEqDiff, ↓reduceIte]; first | rfl | assumption)) rfl (by omega) (Nat.le_of_ble_eq_true rfl) ?_
      rintro v h' ⟨rfl, hs⟩
      refine x_lret d_K_answer_33 ?_
      refine ⟨scr_IC hI hk rfl hs, ?_⟩
      rw [if_pos (c := (isQn (nI k) && (Qs (nI k).toNatClampNeg).1) = true ∧ isVal grp = true) ⟨c1, c2⟩, hck]
      rfl
    · rw [bi0] at c2
      refine x_ldc2 l_K_109 d_K_answer_15 ?_
      refine x_lret d_K_answer_18 ?_
      exact ⟨⟨frm.rf, hI⟩, by rw [if_neg (fun z => by rw [c2] at z; exact absurd z.2 (by decide))]⟩
set_option maxRecDepth 100000 in
set_option maxHeartbeats 4000000 in
theorem c_K_total (q : Int32) (hN : 94 ≤ N) (hI : IC f n pl bs tf tn Qs h) (hok : ∀ i, i < 4 → okQ (Qs i)) : XM y_K_total b_K_total 2 (some .long) 4 0 0 [.ref 0, .int q] N h (fun v h' => (frm h h' ∧ IC f n pl bs tf tn Qs h') ∧ v = some (.long (if (isQn q && (Qs q.toNatClampNeg).1) = true then ansQ (Qs q.toNatClampNeg) f (-1) else 9000000000000000000))) := by
  obtain ⟨h0, ⟨h1, h2, -⟩, -, -, -, ⟨⟨s, a1, a2⟩, a3⟩⟩ := id hI
  refine xM_intro [some (.ref 0), some (.int q)] (by decide) (fun _ => rfl) (fun _ => Nat.le_of_ble_eq_true rfl) (fun Γ => ?_)
  refine x_aload_n d_K_total_0 rfl ?_
  refine x_iload_n d_K_total_1 rfl ?_
  refine x_cVe (c_K_isAskable q hN hI) k_K_100 v_K_isAskable d_K_total_2 rfl (by omega) (by first | assumption | exact vu_s | exact vu_t (by omega) (by first | assumption | exact vu_s | exact vu_t (by omega) (by first | assumption | exact vu_s | exact vu_t (by omega) (by first | assumption | exact vu_s))) | rfl | (simp only [va_up, Nat.reduceEqDiff, ↓reduceIte]; first | rfl | assumption)) rfl (by omega) (Nat.le_of_ble_eq_true rfl) ?_
  refine x_if_ne 12 d_K_total_5 (by decide) (fun c1 => ?_) (fun c1 => ?_)
  · rw [bi1] at c1
    have c1' := c1
    rw [Bool.and_eq_true] at c1'
    obtain ⟨k, hk, rfl⟩ := isQn_n c1'.1
    have hi : vp_in (nI k) 4 := vp_in_nI hk (by decide)
    have hck : (nI k).toNatClampNeg = k := nI_clamp (by omega)
    obtain ⟨b1, b2, b3, b4, ⟨ra, b5⟩, rb, b6⟩ := a3 k hk
    refine x_aload_n d_K_total_12 rfl ?_
    refine x_get f_K_39 d_K_total_13 (by omega) (by first | assumption | exact vu_s | exact vu_t (by omega) (by first | assumption | exact vu_s | exact vu_t (by omega) (by first | assumption | exact vu_s | exact vu_t (by omega) (by first | assumption | exact vu_s))) | rfl | (simp only [va_up, Nat.reduceEqDiff, ↓reduceIte]; first | rfl | assumption)) rfl ?_
    refine x_iload_n d_K_total_16 rfl ?_
    refine x_aald (t := 5) (v := 70 + 6 * k) rfl d_K_total_17 (by omega) a1 hi (by rw [hck]; exact a2 k hk) ?_
    refine x_aload_n d_K_total_18 rfl ?_
    refine x_get f_K_10 d_K_total_19 (by omega) (by first | assumption | exact vu_s | exact vu_t (by omega) (by first | assumption | exact vu_s | exact vu_t (by omega) (by first | assumption | exact vu_s | exact vu_t (by omega) (by first | assumption | exact vu_s))) | rfl | (simp only [va_up, Nat.reduceEqDiff, ↓reduceIte]; first | rfl | assumption)) rfl ?_
    refine x_iconst (v := -1) d_K_total_22 (by decide) ?_
    refine x_cV (c_Q_sumOver hN (by omega) (by omega) (hok k hk).1 (hok k hk).2 h1 h2 b1 b2 b3 b4 b5 b6) k_K_115 v_Q_sumOver d_K_total_23 rfl (by omega) (by first | assumption | exact vu_s | exact vu_t (by omega) (by first | assumption | exact vu_s | exact vu_t (by omega) (by first | assumption | exact vu_s | exact vu_t (by omega) (by first | assumption | exact vu_s))) | rfl | (simp only [va_up, Nat.reduceEqDiff, ↓reduceIte]; first | rfl | assumption)) rfl (by omega) (Nat.le_of_ble_eq_true rfl) ?_
    rintro v h' ⟨rfl, hs⟩
    refine x_lret d_K_total_26 ?_
    refine ⟨scr_IC hI hk rfl hs, ?_⟩
    rw [if_pos c1, hck]
    rfl
  · rw [bi0] at c1
    refine x_ldc2 l_K_109 d_K_total_8 ?_
    refine x_lret d_K_total_11 ?_
    exact ⟨⟨frm.rf, hI⟩, by rw [if_neg (by rw [c1]; decide)]⟩
def qstV (Q : CQ) (w : Int32) : Int32 := if w = 0 then bi Q.1 else if Q.1 = false then -1 else if w = 1 then nI (filN Q.2.2.2.2.2.2 81) else if w = 2 then nI (chN Q.2.1 (Q.2.2.1 + 1)) else if w = 3 then Q.2.2.2.1 else if w = 4 then Q.2.2.2.2.1 else -1
set_option maxRecDepth 100000 in
set_option maxHeartbeats 4000000 in
theorem c_K_question (q w : Int32) (hN : 94 ≤ N) (hI : IC f n pl bs tf tn Qs h) (hok : ∀ i, i < 4 → okQ (Qs i)) : XM y_K_question b_K_question 4 (some .int) 2 0 0 [.ref 0, .int q, .int w] N h (xR (some (.int (if isQn q then qstV (Qs q.toNatClampNeg) w else -1))) h) := by
  obtain ⟨h0, -, -, -, -, ⟨⟨s, a1, a2⟩, a3⟩⟩ := id hI
  refine xM_intro [some (.ref 0), some (.int q), some (.int w), none] (by decide) (fun _ => rfl) (fun _ => Nat.le_of_ble_eq_true rfl) (fun Γ => ?_)
  refine x_iload_n d_K_question_0 rfl ?_
  refine x_cSe (c_K_isQuestion q) k_K_74 s_K_isQuestion d_K_question_1 rfl (by omega) (Nat.le_of_ble_eq_true rfl) ?_
  refine x_if_ne 9 d_K_question_4 (by decide) (fun c1 => ?_) (fun c1 => ?_)
  · rw [bi1] at c1
    obtain ⟨k, hk, rfl⟩ := isQn_n c1
    have hi : vp_in (nI k) 4 := vp_in_nI hk (by decide)
    have hck : (nI k).toNatClampNeg = k := nI_clamp (by omega)
    obtain ⟨b1, b2, b3, b4, -⟩ := a3 k hk
    rw [c1, hck, if_pos rfl]
    refine x_aload_n d_K_question_9 rfl ?_
    refine x_get f_K_39 d_K_question_10 (by omega) (by first | assumption | exact vu_s | exact vu_t (by omega) (by first | assumption | exact vu_s | exact vu_t (by omega) (by first | assumption | exact vu_s | exact vu_t (by omega) (by first | assumption | exact vu_s))) | rfl | (simp only [va_up, Nat.reduceEqDiff, ↓reduceIte]; first | rfl | assumption)) rfl ?_
    refine x_iload_n d_K_question_13 rfl ?_
    refine x_aald (t := 5) (v := 70 + 6 * k) rfl d_K_question_14 (by omega) a1 hi (by rw [hck]; exact a2 k hk) ?_
    refine x_astore_n d_K_question_15 (by decide) rfl ?_
    refine x_iload_n d_K_question_16 rfl ?_
    refine x_if_ne 33 d_K_question_17 (by decide) (fun c2 => ?_) (fun c2 => ?_)
    · refine x_aload_n d_K_question_33 rfl ?_
      refine x_cVe (c_Q_isThere (by omega) b1) k_K_122 v_Q_isThere d_K_question_34 rfl (by omega) (by first | assumption | exact vu_s | exact vu_t (by omega) (by first | assumption | exact vu_s | exact vu_t (by omega) (by first | assumption | exact vu_s | exact vu_t (by omega) (by first | assumption | exact vu_s))) | rfl | (simp only [va_up, Nat.reduceEqDiff, ↓reduceIte]; first | rfl | assumption)) rfl (by omega) (Nat.le_of_ble_eq_true rfl) ?_
      refine x_if_ne 42 d_K_question_37 (by decide) (fun c3 => ?_) (fun c3 => ?_)
      · rw [bi1] at c3
        refine x_iload_n d_K_question_42 rfl ?_
        by_cases e1 : w = 1
        · subst e1
          refine x_tableIn 72 d_K_question_43 (by decide) (by decide) (off := 29) (by decide) (by decide) ?_
          refine x_aload_n d_K_question_72 rfl ?_
          refine x_cVe (c_Q_terms (by omega) b1 b3 b4) k_K_97 v_Q_terms d_K_question_73 rfl (by omega) (by first | assumption | exact vu_s | exact vu_t (by omega) (by first | assumption | exact vu_s | exact vu_t (by omega) (by first | assumption | exact vu_s | exact vu_t (by omega) (by first | assumption | exact vu_s))) | rfl | (simp only [va_up, Nat.reduceEqDiff, ↓reduceIte]; first | rfl | assumption)) rfl (by omega) (Nat.le_of_ble_eq_true rfl) ?_
          refine x_iret d_K_question_76 ?_
          exact ⟨by simp [qstV, c3], rfl⟩
        · by_cases e2 : w = 2
          · subst e2
            refine x_tableIn 77 d_K_question_43 (by decide) (by decide) (off := 34) (by decide) (by decide) ?_
            refine x_aload_n d_K_question_77 rfl ?_
            refine x_cVe (c_Q_chain (by omega) (hok k hk).1 (hok k hk).2 b1) k_K_125 v_Q_chain d_K_question_78 rfl (by omega) (by first | assumption | exact vu_s | exact vu_t (by omega) (by first | assumption | exact vu_s | exact vu_t (by omega) (by first | assumption | exact vu_s | exact vu_t (by omega) (by first | assumption | exact vu_s))) | rfl | (simp only [va_up, Nat.reduceEqDiff, ↓reduceIte]; first | rfl | assumption)) rfl (by omega) (Nat.le_of_ble_eq_true rfl) ?_
            refine x_iret d_K_question_81 ?_
            exact ⟨by simp [qstV, c3], rfl⟩
          · by_cases e3 : w = 3
            · subst e3
              refine x_tableIn 82 d_K_question_43 (by decide) (by decide) (off := 39) (by decide) (by decide) ?_
              refine x_aload_n d_K_question_82 rfl ?_
              refine x_cVe (c_Q_groupColumn (by omega) b1) k_K_128 v_Q_groupColumn d_K_question_83 rfl (by omega) (by first | assumption | exact vu_s | exact vu_t (by omega) (by first | assumption | exact vu_s | exact vu_t (by omega) (by first | assumption | exact vu_s | exact vu_t (by omega) (by first | assumption | exact vu_s))) | rfl | (simp only [va_up, Nat.reduceEqDiff, ↓reduceIte]; first | rfl | assumption)) rfl (by omega) (Nat.le_of_ble_eq_true rfl) ?_
              refine x_iret d_K_question_86 ?_
              exact ⟨by simp [qstV, c3], rfl⟩
            · by_cases e4 : w = 4
              · subst e4
                refine x_tableIn 87 d_K_question_43 (by decide) (by decide) (off := 44) (by decide) (by decide) ?_
                refine x_aload_n d_K_question_87 rfl ?_
                refine x_cVe (c_Q_conditions (by omega) b1) k_K_131 v_Q_conditions d_K_question_88 rfl (by omega) (by first | assumption | exact vu_s | exact vu_t (by omega) (by first | assumption | exact vu_s | exact vu_t (by omega) (by first | assumption | exact vu_s | exact vu_t (by omega) (by first | assumption | exact vu_s))) | rfl | (simp only [va_up, Nat.reduceEqDiff, ↓reduceIte]; first | rfl | assumption)) rfl (by omega) (Nat.le_of_ble_eq_true rfl) ?_
                refine x_iret d_K_question_91 ?_
                exact ⟨by simp [qstV, c3], rfl⟩
              · have z1 := lv_neT (a := 1) e1 (by decide)
                have z2 := lv_neT (a := 2) e2 (by decide)
                have z3 := lv_neT (a := 3) e3 (by decide)
                have z4 := lv_neT (a := 4) e4 (by decide)
                refine x_tableOut 92 d_K_question_43 (by omega) (by decide) ?_
                refine x_iconst (v := -1) d_K_question_92 (by decide) ?_
                refine x_iret d_K_question_93 ?_
                exact ⟨by simp [qstV, c2, c3, e1, e2, e3, e4], rfl⟩
      · rw [bi0] at c3
        refine x_iconst (v := -1) d_K_question_40 (by decide) ?_
        refine x_iret d_K_question_41 ?_
        exact ⟨by simp [qstV, c2, c3], rfl⟩
    · refine x_aload_n d_K_question_20 rfl ?_
      refine x_cVe (c_Q_isThere (by omega) b1) k_K_122 v_Q_isThere d_K_question_21 rfl (by omega) (by first | assumption | exact vu_s | exact vu_t (by omega) (by first | assumption | exact vu_s | exact vu_t (by omega) (by first | assumption | exact vu_s | exact vu_t (by omega) (by first | assumption | exact vu_s))) | rfl | (simp only [va_up, Nat.reduceEqDiff, ↓reduceIte]; first | rfl | assumption)) rfl (by omega) (Nat.le_of_ble_eq_true rfl) ?_
      refine x_if_eq 31 d_K_question_24 (by decide) (fun c3 => ?_) (fun c3 => ?_)
      · rw [bi0] at c3
        refine x_iconst (v := 0) d_K_question_31 (by decide) ?_
        refine x_iret d_K_question_32 ?_
        exact ⟨by simp [qstV, c2, c3, bi], rfl⟩
      · rw [bi1] at c3
        refine x_iconst (v := 1) d_K_question_27 (by decide) ?_
        refine x_goto 32 d_K_question_28 (by decide) ?_
        refine x_iret d_K_question_32 ?_
        exact ⟨by simp [qstV, c2, c3, bi], rfl⟩
  · rw [bi0] at c1
    refine x_iconst (v := -1) d_K_question_7 (by decide) ?_
    refine x_iret d_K_question_8 ?_
    exact ⟨by rw [c1]; rfl, rfl⟩
end KM2
end
section
/-! JoinKeeper: define. -/
noncomputable def dfP (tf : Nat → Int32) (tn : Nat) (τ : GS) : Option (Po × Int32) := (eLev tf tn 9).1 (τ.2.2.1 - τ.2.1 + 1 + 1)
theorem nI_m2 {k : Nat} (h : k ≤ 30) : ¬ nI k = -2 := by
  intro e
  have h1 := congrArg Int32.toInt e
  rw [nI_toInt (by omega)] at h1
  have h2 : (-2 : Int32).toInt = -2 := rfl
  omega
theorem gRes_lt {σ : GS} {f : Nat → Int32} {k : Nat} : ∀ n, gRes σ f n = .inl k → k < n
  | 0, h => by cases h
  | n + 1, h => by
    simp only [gRes] at h
    split at h
    · rename_i k' e
      cases h
      have := gRes_lt n e
      omega
    · split at h
      · cases h
        omega
      · cases h
theorem fltC_whole {σ : GS} {f : Nat → Int32} {n : Nat} (hn : n ≤ 30) (h : fltC σ f n = -2) : ∃ τ, gRes σ f n = .inr τ ∧ gW τ = true := by
  unfold fltC at h
  cases e : gRes σ f n with
  | inl k =>
    rw [e] at h
    have := gRes_lt n e
    exact absurd h (nI_m2 (by omega))
  | inr τ =>
    rw [e] at h
    refine ⟨τ, rfl, ?_⟩
    cases hw : gW τ with
    | true => rfl
    | false =>
      dsimp only at h
      rw [hw] at h
      exact absurd h (nI_m2 hn)
def isNew (τ : GS) (P : Po) (Q : CQ) : Prop := Q.1 = true ∧ nI Q.2.1 = τ.2.1 ∧ nI Q.2.2.1 = τ.2.2.1 ∧ Q.2.2.2.1 = τ.2.2.2.2.2.2.2.2.1 ∧ Q.2.2.2.2.1 = τ.2.2.2.2.2.2.2.1 ∧ (∀ c, c < 4 → Q.2.2.2.2.2.1 c = τ.2.2.2.2.2.2.2.2.2 c) ∧ pe Q.2.2.2.2.2.2 P ∧ okQ Q
section KM3
variable {N : Nat} {h : xHp} {f : Nat → Int32} {n : Nat} {pl bs tf : Nat → Int32} {tn : Nat} {Qs : Nat → CQ}
def dOut (f : Nat → Int32) (n : Nat) (pl bs tf : Nat → Int32) (tn : Nat) (Qs : Nat → CQ) (q : Int32) (v : Option Value) (h' : xHp) : Prop :=
  (isQn q = false ∧ v = some (.int (-1)) ∧ IC f n pl bs tf tn Qs h') ∨ (isQn q = true ∧ ¬ fltC gz tf tn = -2 ∧ v = some (.int (-2)) ∧ IC f n pl bs tf tn Qs h') ∨ (isQn q = true ∧ fltC gz tf tn = -2 ∧ ∃ τ, gRes gz tf tn = .inr τ ∧ ((dfP tf tn τ = none ∧ v = some (.int (-3)) ∧ IC f n pl bs tf tn Qs h') ∨ ∃ P e Q', dfP tf tn τ = some (P, e) ∧ v = some (.int (nI (filN P 81))) ∧ isNew τ P Q' ∧ IC f n pl bs tf tn (upQ Qs q.toNatClampNeg Q') h'))
set_option maxRecDepth 100000 in
set_option maxHeartbeats 4000000 in
theorem c_K_define (q : Int32) (hN : 94 ≤ N) (hI : IC f n pl bs tf tn Qs h) (ht : tn ≤ 30) (hf : ∀ j, chOK (tf j)) : XM y_K_define b_K_define 2 (some .int) 43 0 0 [.ref 0, .int q] N h (fun v h' => frm h h' ∧ dOut f n pl bs tf tn Qs q v h') := by
  obtain ⟨h0, hR, ⟨h5, h6⟩, ⟨σ, s1, s2, s3⟩, hE, hQ⟩ := id hI
  have hh := hG_of s2 s3
  refine xM_intro [some (.ref 0), some (.int q)] (by decide) (fun _ => rfl) (fun _ => Nat.le_of_ble_eq_true rfl) (fun Γ => ?_)
  refine x_iload_n d_K_define_0 rfl ?_
  refine x_cSe (c_K_isQuestion q) k_K_74 s_K_isQuestion d_K_define_1 rfl (by omega) (Nat.le_of_ble_eq_true rfl) ?_
  refine x_if_ne 9 d_K_define_4 (by decide) (fun c1 => ?_) (fun c1 => ?_)
  · rw [bi1] at c1
    refine x_aload_n d_K_define_9 rfl ?_
    refine x_get f_K_26 d_K_define_10 (by omega) (by first | assumption | exact vu_s | exact vu_t (by omega) (by first | assumption | exact vu_s | exact vu_t (by omega) (by first | assumption | exact vu_s | exact vu_t (by omega) (by first | assumption | exact vu_s))) | rfl | (simp only [va_up, Nat.reduceEqDiff, ↓reduceIte]; first | rfl | assumption)) rfl ?_
    refine x_aload_n d_K_define_13 rfl ?_
    refine x_get f_K_19 d_K_define_14 (by omega) (by first | assumption | exact vu_s | exact vu_t (by omega) (by first | assumption | exact vu_s | exact vu_t (by omega) (by first | assumption | exact vu_s | exact vu_t (by omega) (by first | assumption | exact vu_s))) | rfl | (simp only [va_up, Nat.reduceEqDiff, ↓reduceIte]; first | rfl | assumption)) rfl ?_
    refine XW_h hh.symm ?_
    have k7 : hG h σ 7 = oG σ := hG_7 h σ
    refine x_cV (c_G_faultIn σ hN ht (g0_I s1) hf h5 h6) k_K_78 v_G_faultIn d_K_define_17 rfl (by omega) (by first | assumption | exact vu_s | exact vu_t (by omega) (by first | assumption | exact vu_s | exact vu_t (by omega) (by first | assumption | exact vu_s | exact vu_t (by omega) (by first | assumption | exact vu_s))) | rfl | (simp only [va_up, Nat.reduceEqDiff, ↓reduceIte]; first | rfl | assumption)) rfl (by omega) (Nat.le_of_ble_eq_true rfl) ?_
    rintro v h' ⟨rfl, σ', i1, rfl, hσ⟩
    have e1 : ∀ k, k ≠ 7 → k ≠ 8 → hG h σ' k = h k := fun k a b => hG_n h σ' a b
    have fr1 : frm h (hG h σ') := fun k hk => e1 k (by omega) (by omega)
    have I1 : IC f n pl bs tf tn Qs (hG h σ') := ⟨(e1 0 (by decide) (by decide)).trans h0, hR.cg (fun k a b => e1 k (by omega) (by omega)), ⟨(e1 5 (by decide) (by decide)).trans h5, (e1 6 (by decide) (by decide)).trans h6⟩, ⟨σ', i1.2.2.1, hG_7 h σ', hG_8 h σ'⟩, hE.cg (fun k a b => e1 k (by omega) (by omega)), hQ.cg (fun k a b => e1 k (by omega) (by omega))⟩
    refine XW_c (fltC_eq s1) ?_
    refine x_bipush (v := -2) d_K_define_20 (by decide) ?_
    refine x_icmp_eq 28 d_K_define_22 (by decide) (fun c2 => ?_) (fun c2 => ?_)
    · obtain ⟨τ, hτ, -⟩ := fltC_whole ht c2
      obtain ⟨τ0, hτ0, hEq⟩ : ∃ τ0, gRes (g0 σ) tf tn = .inr τ0 ∧ gEq τ0 τ := by
        rcases gRes_eq (f := tf) (g0_I s1) (gz_eq σ) tn with ⟨k, z1, z2⟩ | ⟨a, b, z1, z2, z3, -⟩
        · rw [hτ] at z2
          cases z2
        · rw [hτ] at z2
          cases z2
          exact ⟨a, z1, z3⟩
      obtain rfl := hσ τ0 hτ0
      obtain ⟨⟨ja, jb, j1, j2, j3, j4⟩, -⟩ := gRes_J (g0_I s1) ⟨0, 0, rfl, rfl, Nat.le_refl _, by decide⟩ tn σ' hτ0
      generalize hh1 : hG h σ' = h1 at fr1 I1 ⊢
      obtain ⟨k0, kR, kT, -, ⟨p0, kE⟩, kQ⟩ := id I1
      have k7 : h1 7 = oG σ' := by rw [← hh1]; exact hG_7 h σ'
      have k8 : h1 8 = aI 4 σ'.2.2.2.2.2.2.2.2.2 := by rw [← hh1]; exact hG_8 h σ'
      have k9 := kE.1
      refine x_aload_n d_K_define_28 rfl ?_
      refine x_get f_K_33 d_K_define_29 (by omega) (by first | assumption | exact vu_s | exact vu_t (by omega) (by first | assumption | exact vu_s | exact vu_t (by omega) (by first | assumption | exact vu_s | exact vu_t (by omega) (by first | assumption | exact vu_s))) | rfl | (simp only [va_up, Nat.reduceEqDiff, ↓reduceIte]; first | rfl | assumption)) rfl ?_
      refine x_aload_n d_K_define_32 rfl ?_
      refine x_get f_K_19 d_K_define_33 (by omega) (by first | assumption | exact vu_s | exact vu_t (by omega) (by first | assumption | exact vu_s | exact vu_t (by omega) (by first | assumption | exact vu_s | exact vu_t (by omega) (by first | assumption | exact vu_s))) | rfl | (simp only [va_up, Nat.reduceEqDiff, ↓reduceIte]; first | rfl | assumption)) rfl ?_
      refine x_aload_n d_K_define_36 rfl ?_
      refine x_get f_K_26 d_K_define_37 (by omega) (by first | assumption | exact vu_s | exact vu_t (by omega) (by first | assumption | exact vu_s | exact vu_t (by omega) (by first | assumption | exact vu_s | exact vu_t (by omega) (by first | assumption | exact vu_s))) | rfl | (simp only [va_up, Nat.reduceEqDiff, ↓reduceIte]; first | rfl | assumption)) rfl ?_
      refine x_cVe (c_G_expressionStart σ' hN k7) k_K_82 v_G_expressionStart d_K_define_40 rfl (by omega) (by first | assumption | exact vu_s | exact vu_t (by omega) (by first | assumption | exact vu_s | exact vu_t (by omega) (by first | assumption | exact vu_s | exact vu_t (by omega) (by first | assumption | exact vu_s))) | rfl | (simp only [va_up, Nat.reduceEqDiff, ↓reduceIte]; first | rfl | assumption)) rfl (by omega) (Nat.le_of_ble_eq_true rfl) ?_
      refine x_cV (c_E_evaluate hN ht hf kE kT) k_K_85 v_E_evaluate d_K_define_43 rfl (by omega) (by first | assumption | exact vu_s | exact vu_t (by omega) (by first | assumption | exact vu_s | exact vu_t (by omega) (by first | assumption | exact vu_s | exact vu_t (by omega) (by first | assumption | exact vu_s))) | rfl | (simp only [va_up, Nat.reduceEqDiff, ↓reduceIte]; first | rfl | assumption)) rfl (by omega) (Nat.le_of_ble_eq_true rfl) ?_
      rintro v h2 ⟨p', z1, z2, z3⟩
      have ed : (eLev tf tn 9).1 (σ'.2.2.1 - σ'.2.1 + 1 + 1) = dfP tf tn τ := by
        unfold dfP
        rw [hEq.2.1, hEq.2.2.1]
      rw [ed] at z3
      have e2 : ∀ k, k ≤ 8 ∨ 69 ≤ k → h2 k = h1 k := fun k hk => z2 k (by omega) (by omega) (by omega)
      have fr2 : frm h h2 := fun k hk => (e2 k (by omega)).trans (fr1 k hk)
      have g7 : h2 7 = oG σ' := (e2 7 (by omega)).trans k7
      have g8 : h2 8 = aI 4 σ'.2.2.2.2.2.2.2.2.2 := (e2 8 (by omega)).trans k8
      have g0' : h2 0 = oK := (e2 0 (by omega)).trans k0
      have gR := kR.cg (fun k a b => e2 k (by omega))
      have gT := kT.cg (fun k a b => e2 k (by omega))
      have gQ := kQ.cg (fun k a b => e2 k (by omega))
      cases hd : dfP tf tn τ with
      | none =>
        rw [hd] at z3
        obtain rfl := z3
        refine x_if_ne 52 d_K_define_46 (by decide) (fun c3 => ?_) (fun c3 => ?_)
        · exact absurd rfl c3
        · refine x_bipush (v := -3) d_K_define_49 (by decide) ?_
          refine x_iret d_K_define_51 ?_
          exact ⟨fr2, Or.inr (Or.inr ⟨c1, c2, τ, hτ, Or.inl ⟨hd, rfl, g0', gR, gT, ⟨σ', i1.2.2.1, g7, g8⟩, ⟨p', z1⟩, gQ⟩⟩)⟩
      | some PQ =>
        obtain ⟨P, pe'⟩ := PQ
        rw [hd] at z3
        obtain ⟨rfl, -, g, z4, z5⟩ := z3
        obtain ⟨k, hk, rfl⟩ := isQn_n c1
        have hi : vp_in (nI k) 4 := vp_in_nI hk (by decide)
        have hck : (nI k).toNatClampNeg = k := nI_clamp (by omega)
        obtain ⟨⟨s, a1, a2⟩, a3⟩ := id gQ
        obtain ⟨b1, b2, b3, b4, ⟨ra, b5⟩, rb, b6⟩ := a3 k hk
        have g9 := z1.1
        obtain ⟨g15, -⟩ := z1.2.2.2.2 15 (by omega) (by omega) (by omega)
        refine x_if_ne 52 d_K_define_46 (by decide) (fun c3 => ?_) (fun c3 => ?_)
        · refine x_aload_n d_K_define_52 rfl ?_
          refine x_get f_K_39 d_K_define_53 (by omega) (by first | assumption | exact vu_s | exact vu_t (by omega) (by first | assumption | exact vu_s | exact vu_t (by omega) (by first | assumption | exact vu_s | exact vu_t (by omega) (by first | assumption | exact vu_s))) | rfl | (simp only [va_up, Nat.reduceEqDiff, ↓reduceIte]; first | rfl | assumption)) rfl ?_
          refine x_iload_n d_K_define_56 rfl ?_
          refine x_aald (t := 5) (v := 70 + 6 * k) rfl d_K_define_57 (by omega) a1 hi (by rw [hck]; exact a2 k hk) ?_
          refine x_aload_n d_K_define_58 rfl ?_
          refine x_get f_K_26 d_K_define_59 (by omega) (by first | assumption | exact vu_s | exact vu_t (by omega) (by first | assumption | exact vu_s | exact vu_t (by omega) (by first | assumption | exact vu_s | exact vu_t (by omega) (by first | assumption | exact vu_s))) | rfl | (simp only [va_up, Nat.reduceEqDiff, ↓reduceIte]; first | rfl | assumption)) rfl ?_
          refine x_aload_n d_K_define_62 rfl ?_
          refine x_get f_K_33 d_K_define_63 (by omega) (by first | assumption | exact vu_s | exact vu_t (by omega) (by first | assumption | exact vu_s | exact vu_t (by omega) (by first | assumption | exact vu_s | exact vu_t (by omega) (by first | assumption | exact vu_s))) | rfl | (simp only [va_up, Nat.reduceEqDiff, ↓reduceIte]; first | rfl | assumption)) rfl ?_
          refine x_cVe (c_E_result hN z1) k_K_89 v_E_result d_K_define_66 rfl (by omega) (by first | assumption | exact vu_s | exact vu_t (by omega) (by first | assumption | exact vu_s | exact vu_t (by omega) (by first | assumption | exact vu_s | exact vu_t (by omega) (by first | assumption | exact vu_s))) | rfl | (simp only [va_up, Nat.reduceEqDiff, ↓reduceIte]; first | rfl | assumption)) rfl (by omega) (Nat.le_of_ble_eq_true rfl) ?_
          refine x_cVv (c_Q_become σ' hN (by omega) (by omega) (by omega) (by omega) (by omega) g7 g8 b1 b2 b3 b4 g15 z4) k_K_93 v_Q_become d_K_define_69 rfl (by omega) (by first | assumption | exact vu_s | exact vu_t (by omega) (by first | assumption | exact vu_s | exact vu_t (by omega) (by first | assumption | exact vu_s | exact vu_t (by omega) (by first | assumption | exact vu_s))) | rfl | (simp only [va_up, Nat.reduceEqDiff, ↓reduceIte]; first | rfl | assumption)) rfl (by omega) (Nat.le_of_ble_eq_true rfl) ?_
          generalize hh3 : va_up (va_up (va_up h2 (70 + 6 * k) (oQ (70 + 6 * k) 1 σ'.2.1 σ'.2.2.1 σ'.2.2.2.2.2.2.2.2.1 σ'.2.2.2.2.2.2.2.1)) (70 + 6 * k + 1) (aI 4 (cpA σ'.2.2.2.2.2.2.2.2.2 (Qs k).2.2.2.2.2.1 4))) (70 + 6 * k + 3) (aI 81 (va_cpy g (Qs k).2.2.2.2.2.2 0 0 81)) = h3
          have e3 : ∀ j, j ≠ 70 + 6 * k → j ≠ 70 + 6 * k + 1 → j ≠ 70 + 6 * k + 3 → h3 j = h2 j := by
            intro j q1 q2 q3
            rw [← hh3, vu_n q3, vu_n q2, vu_n q1]
          have m0 : h3 0 = oK := (e3 0 (by omega) (by omega) (by omega)).trans g0'
          have m69 : h3 69 = aR 5 4 s := (e3 69 (by omega) (by omega) (by omega)).trans a1
          have c0 : h3 (70 + 6 * k) = oQ (70 + 6 * k) 1 σ'.2.1 σ'.2.2.1 σ'.2.2.2.2.2.2.2.2.1 σ'.2.2.2.2.2.2.2.1 := by rw [← hh3]; exact vu_t (by omega) (vu_t (by omega) vu_s)
          have c0a : h3 (70 + 6 * k + 1) = aI 4 (cpA σ'.2.2.2.2.2.2.2.2.2 (Qs k).2.2.2.2.2.1 4) := by rw [← hh3]; exact vu_t (by omega) vu_s
          have c0b : h3 (70 + 6 * k + 2) = oP (70 + 6 * k + 2) := (e3 _ (by omega) (by omega) (by omega)).trans b3
          have c0c : h3 (70 + 6 * k + 3) = aI 81 (va_cpy g (Qs k).2.2.2.2.2.2 0 0 81) := by rw [← hh3]; exact vu_s
          refine x_aload_n d_K_define_72 rfl ?_
          refine x_get f_K_39 d_K_define_73 (by omega) (by first | assumption | exact vu_s | exact vu_t (by omega) (by first | assumption | exact vu_s | exact vu_t (by omega) (by first | assumption | exact vu_s | exact vu_t (by omega) (by first | assumption | exact vu_s))) | rfl | (simp only [va_up, Nat.reduceEqDiff, ↓reduceIte]; first | rfl | assumption)) rfl ?_
          refine x_iload_n d_K_define_76 rfl ?_
          refine x_aald (t := 5) (v := 70 + 6 * k) rfl d_K_define_77 (by omega) m69 hi (by rw [hck]; exact a2 k hk) ?_
          refine x_cVe (c_Q_terms (by omega) c0 c0b c0c) k_K_97 v_Q_terms d_K_define_78 rfl (by omega) (by first | assumption | exact vu_s | exact vu_t (by omega) (by first | assumption | exact vu_s | exact vu_t (by omega) (by first | assumption | exact vu_s | exact vu_t (by omega) (by first | assumption | exact vu_s))) | rfl | (simp only [va_up, Nat.reduceEqDiff, ↓reduceIte]; first | rfl | assumption)) rfl (by omega) (Nat.le_of_ble_eq_true rfl) ?_
          have hpe : pe (va_cpy g (Qs k).2.2.2.2.2.2 0 0 81) P := (pe_cpy _ _).tr z5
          rw [filN_pe 81 hpe]
          refine x_iret d_K_define_81 ?_
          refine ⟨fun j hj => (e3 j (by omega) (by omega) (by omega)).trans (fr2 j hj), Or.inr (Or.inr ⟨c1, c2, τ, hτ, Or.inr ⟨P, pe', (true, ja, jb, σ'.2.2.2.2.2.2.2.2.1, σ'.2.2.2.2.2.2.2.1, cpA σ'.2.2.2.2.2.2.2.2.2 (Qs k).2.2.2.2.2.1 4, va_cpy g (Qs k).2.2.2.2.2.2 0 0 81), hd, rfl, ⟨rfl, by rw [← hEq.2.1]; exact j1.symm, by rw [← hEq.2.2.1]; exact j2.symm, hEq.2.2.2.2.2.2.1, hEq.2.2.2.2.2.1, fun c hc => ?_, hpe, j3, j4⟩, m0, gR.cg (fun j q1 q2 => e3 j (by omega) (by omega) (by omega)), gT.cg (fun j q1 q2 => e3 j (by omega) (by omega) (by omega)), ⟨σ', i1.2.2.1, (e3 7 (by omega) (by omega) (by omega)).trans g7, (e3 8 (by omega) (by omega) (by omega)).trans g8⟩, ⟨p', z1.cg (fun j q1 q2 => e3 j (by omega) (by omega) (by omega))⟩, ⟨s, m69, a2⟩, fun i hi' => ?_⟩⟩)⟩
          · show cpA σ'.2.2.2.2.2.2.2.2.2 (Qs k).2.2.2.2.2.1 4 c = _
            rw [← hEq.2.2.2.2.2.2.2.1 c hc]
            simp [cpA, hc]
          · rw [hck]
            by_cases e : i = k
            · subst e
              rw [show ∀ Q, upQ Qs i Q i = Q from fun Q => if_pos rfl]
              refine ⟨?_, c0a, c0b, c0c, ⟨ra, (e3 _ (by omega) (by omega) (by omega)).trans b5⟩, rb, (e3 _ (by omega) (by omega) (by omega)).trans b6⟩
              rw [c0, ← j1, ← j2]
              rfl
            · rw [show ∀ Q, upQ Qs k Q i = Qs i from fun Q => if_neg e]
              exact (a3 i hi').cg (fun j q1 q2 => e3 j (by omega) (by omega) (by omega))
        · exact absurd c3 (by decide)
    · refine x_bipush (v := -2) d_K_define_25 (by decide) ?_
      refine x_iret d_K_define_27 ?_
      exact ⟨fr1, Or.inr (Or.inl ⟨c1, c2, rfl, I1⟩)⟩
  · rw [bi0] at c1
    refine x_iconst (v := -1) d_K_define_7 (by decide) ?_
    refine x_iret d_K_define_8 ?_
    exact ⟨frm.rf, Or.inl ⟨c1, rfl, hI⟩⟩
end KM3
end
section
/-! Constructors. -/
abbrev z32 : Nat → Int32 := fun _ => 0
abbrev z64 : Nat → Int64 := fun _ => 0
set_option maxRecDepth 100000 in
set_option maxHeartbeats 4000000 in
theorem c_P_init {h : xHp} {o : Nat} (ho : o < 900000) (h1 : h o = .inr (5, [.null])) : XM y_P_init b_P_init 1 none 1 1 81 [.ref o] (o + 1) h (fun r h' => r = none ∧ h' o = oP o ∧ h' (o + 1) = aI 81 z32 ∧ ∀ k, k < o → h' k = h k) := by
  refine xM_intro [some (.ref o)] (by decide) (fun _ => rfl) (fun _ => Nat.le_of_ble_eq_true rfl) (fun Γ => ?_)
  refine x_aload_n d_P_init_0 rfl ?_
  refine x_objInit o_P_3 d_P_init_1 (by omega) (Nat.le_of_ble_eq_true rfl) ?_
  refine x_aload_n d_P_init_4 rfl ?_
  refine x_bipush (v := 81) d_P_init_5 (by decide) ?_
  refine x_newa (atype := .int) (ty := .int) (t := 0) (n := 81) (a0 := (81, .inl (fun _ => 0))) rfl ac_int rfl (fun _ z => by cases z) (fun _ _ => rfl) d_P_init_7 (by decide) (by decide) (by decide) (by omega) ⟨by first | exact Nat.le_of_ble_eq_true rfl | (dsimp only; omega), by first | exact Nat.le_of_ble_eq_true rfl | (dsimp only; omega)⟩ ?_
  refine x_putF f_P_11 rfl d_P_init_9 (by omega) (by first | assumption | exact vu_s | exact vu_t (by omega) (by first | assumption | exact vu_s | exact vu_t (by omega) (by first | assumption | exact vu_s | exact vu_t (by omega) (by first | assumption | exact vu_s))) | rfl | (simp only [va_up, Nat.reduceEqDiff, ↓reduceIte]; first | rfl | assumption)) (Nat.le_of_ble_eq_true rfl) (fun _ => ⟨rfl, rfl⟩) ?_
  refine x_vret d_P_init_12 ?_
  refine ⟨rfl, vu_s, vu_t (by omega) vu_s, fun k hk => ?_⟩
  rw [vu_n (by omega), vu_n (by omega)]
set_option maxRecDepth 100000 in
set_option maxHeartbeats 4000000 in
theorem c_R_init {h : xHp} (h1 : h 1 = .inr (1, [.null, .null, .null, .int 0])) : XM y_R_init b_R_init 1 none 1 3 1132 [.ref 1] 2 h (fun r h' => r = none ∧ iR z32 0 z32 z32 h' ∧ ∀ k, k < 1 → h' k = h k) := by
  refine xM_intro [some (.ref 1)] (by decide) (fun _ => rfl) (fun _ => Nat.le_of_ble_eq_true rfl) (fun Γ => ?_)
  refine x_aload_n d_R_init_0 rfl ?_
  refine x_objInit o_R_3 d_R_init_1 (by omega) (Nat.le_of_ble_eq_true rfl) ?_
  refine x_aload_n d_R_init_4 rfl ?_
  refine x_bipush (v := 108) d_R_init_5 (by decide) ?_
  refine x_newa (atype := .int) (ty := .int) (t := 0) (n := 108) (a0 := (108, .inl (fun _ => 0))) rfl ac_int rfl (fun _ z => by cases z) (fun _ _ => rfl) d_R_init_7 (by decide) (by decide) (by decide) (by omega) ⟨by first | exact Nat.le_of_ble_eq_true rfl | (dsimp only; omega), by first | exact Nat.le_of_ble_eq_true rfl | (dsimp only; omega)⟩ ?_
  refine x_putF f_R_9 rfl d_R_init_9 (by omega) (by first | assumption | exact vu_s | exact vu_t (by omega) (by first | assumption | exact vu_s | exact vu_t (by omega) (by first | assumption | exact vu_s | exact vu_t (by omega) (by first | assumption | exact vu_s))) | rfl | (simp only [va_up, Nat.reduceEqDiff, ↓reduceIte]; first | rfl | assumption)) (Nat.le_of_ble_eq_true rfl) (fun _ => ⟨rfl, rfl⟩) ?_
  refine x_aload_n d_R_init_12 rfl ?_
  refine x_sipush (v := 512) d_R_init_13 (by decide) ?_
  refine x_newa (atype := .int) (ty := .int) (t := 0) (n := 512) (a0 := (512, .inl (fun _ => 0))) rfl ac_int rfl (fun _ z => by cases z) (fun _ _ => rfl) d_R_init_16 (by decide) (by decide) (by decide) (by omega) ⟨by first | exact Nat.le_of_ble_eq_true rfl | (dsimp only; omega), by first | exact Nat.le_of_ble_eq_true rfl | (dsimp only; omega)⟩ ?_
  refine x_putF f_R_15 rfl d_R_init_18 (by omega) (by first | assumption | exact vu_s | exact vu_t (by omega) (by first | assumption | exact vu_s | exact vu_t (by omega) (by first | assumption | exact vu_s | exact vu_t (by omega) (by first | assumption | exact vu_s))) | rfl | (simp only [va_up, Nat.reduceEqDiff, ↓reduceIte]; first | rfl | assumption)) (Nat.le_of_ble_eq_true rfl) (fun _ => ⟨rfl, rfl⟩) ?_
  refine x_aload_n d_R_init_21 rfl ?_
  refine x_sipush (v := 512) d_R_init_22 (by decide) ?_
  refine x_newa (atype := .int) (ty := .int) (t := 0) (n := 512) (a0 := (512, .inl (fun _ => 0))) rfl ac_int rfl (fun _ z => by cases z) (fun _ _ => rfl) d_R_init_25 (by decide) (by decide) (by decide) (by omega) ⟨by first | exact Nat.le_of_ble_eq_true rfl | (dsimp only; omega), by first | exact Nat.le_of_ble_eq_true rfl | (dsimp only; omega)⟩ ?_
  refine x_putF f_R_18 rfl d_R_init_27 (by omega) (by first | assumption | exact vu_s | exact vu_t (by omega) (by first | assumption | exact vu_s | exact vu_t (by omega) (by first | assumption | exact vu_s | exact vu_t (by omega) (by first | assumption | exact vu_s))) | rfl | (simp only [va_up, Nat.reduceEqDiff, ↓reduceIte]; first | rfl | assumption)) (Nat.le_of_ble_eq_true rfl) (fun _ => ⟨rfl, rfl⟩) ?_
  refine x_vret d_R_init_30 ?_
  refine ⟨rfl, ⟨rfl, rfl, rfl, rfl⟩, fun k hk => ?_⟩
  obtain rfl : k = 0 := by omega
  rfl
set_option maxRecDepth 100000 in
set_option maxHeartbeats 4000000 in
theorem c_T_init {h : xHp} (h1 : h 5 = .inr (2, [.null, .int 0])) : XM y_T_init b_T_init 1 none 1 1 30 [.ref 5] 6 h (fun r h' => r = none ∧ tSt h' z32 0 ∧ ∀ k, k < 5 → h' k = h k) := by
  refine xM_intro [some (.ref 5)] (by decide) (fun _ => rfl) (fun _ => Nat.le_of_ble_eq_true rfl) (fun Γ => ?_)
  refine x_aload_n d_T_init_0 rfl ?_
  refine x_objInit o_T_1 d_T_init_1 (by omega) (Nat.le_of_ble_eq_true rfl) ?_
  refine x_aload_n d_T_init_4 rfl ?_
  refine x_bipush (v := 30) d_T_init_5 (by decide) ?_
  refine x_newa (atype := .char) (ty := .char) (t := 1) (n := 30) (a0 := (30, .inl (fun _ => 0))) rfl ac_char rfl (fun _ z => by cases z) (fun _ _ => rfl) d_T_init_7 (by decide) (by decide) (by decide) (by omega) ⟨by first | exact Nat.le_of_ble_eq_true rfl | (dsimp only; omega), by first | exact Nat.le_of_ble_eq_true rfl | (dsimp only; omega)⟩ ?_
  refine x_putF f_T_9 rfl d_T_init_9 (by omega) (by first | assumption | exact vu_s | exact vu_t (by omega) (by first | assumption | exact vu_s | exact vu_t (by omega) (by first | assumption | exact vu_s | exact vu_t (by omega) (by first | assumption | exact vu_s))) | rfl | (simp only [va_up, Nat.reduceEqDiff, ↓reduceIte]; first | rfl | assumption)) (Nat.le_of_ble_eq_true rfl) (fun _ => ⟨rfl, rfl⟩) ?_
  refine x_vret d_T_init_12 ?_
  refine ⟨rfl, ⟨rfl, rfl⟩, fun k hk => ?_⟩
  rw [vu_n (by omega), vu_n (by omega)]
set_option maxRecDepth 100000 in
set_option maxHeartbeats 4000000 in
theorem c_G_init {h : xHp} (h1 : h 7 = .inr (3, [.int 0, .int 0, .int 0, .int 0, .int 0, .int 0, .int 0, .int 0, .null, .int 0])) : XM y_G_init b_G_init 1 none 1 1 4 [.ref 7] 8 h (fun r h' => r = none ∧ iG h' ∧ ∀ k, k < 7 → h' k = h k) := by
  refine xM_intro [some (.ref 7)] (by decide) (fun _ => rfl) (fun _ => Nat.le_of_ble_eq_true rfl) (fun Γ => ?_)
  refine x_aload_n d_G_init_0 rfl ?_
  refine x_objInit o_G_3 d_G_init_1 (by omega) (Nat.le_of_ble_eq_true rfl) ?_
  refine x_aload_n d_G_init_4 rfl ?_
  refine x_iconst (v := 4) d_G_init_5 (by decide) ?_
  refine x_newa (atype := .int) (ty := .int) (t := 0) (n := 4) (a0 := (4, .inl (fun _ => 0))) rfl ac_int rfl (fun _ z => by cases z) (fun _ _ => rfl) d_G_init_6 (by decide) (by decide) (by decide) (by omega) ⟨by first | exact Nat.le_of_ble_eq_true rfl | (dsimp only; omega), by first | exact Nat.le_of_ble_eq_true rfl | (dsimp only; omega)⟩ ?_
  refine x_putF f_G_9 rfl d_G_init_8 (by omega) (by first | assumption | exact vu_s | exact vu_t (by omega) (by first | assumption | exact vu_s | exact vu_t (by omega) (by first | assumption | exact vu_s | exact vu_t (by omega) (by first | assumption | exact vu_s))) | rfl | (simp only [va_up, Nat.reduceEqDiff, ↓reduceIte]; first | rfl | assumption)) (Nat.le_of_ble_eq_true rfl) (fun _ => ⟨rfl, rfl⟩) ?_
  refine x_vret d_G_init_11 ?_
  refine ⟨rfl, ⟨(0, 0, 0, 0, 0, 0, 0, 0, 0, z32), by unfold vp_in; decide, rfl, rfl⟩, fun k hk => ?_⟩
  rw [vu_n (by omega), vu_n (by omega)]
set_option maxRecDepth 100000 in
set_option maxHeartbeats 4000000 in
theorem c_Q_init {h : xHp} {o : Nat} (ho : o < 800000) (h1 : h o = .inr (6, [.int 0, .int 0, .int 0, .int 0, .int 0, .null, .null, .null, .null])) : XM y_Q_init b_Q_init 1 none 2 5 98 [.ref o] (o + 1) h (fun r h' => r = none ∧ qSt o (false, 0, 0, 0, 0, z32, z32) h' ∧ ∀ k, k < o → h' k = h k) := by
  refine xM_intro [some (.ref o)] (by decide) (fun _ => rfl) (fun _ => Nat.le_of_ble_eq_true rfl) (fun Γ => ?_)
  refine x_aload_n d_Q_init_0 rfl ?_
  refine x_objInit o_Q_3 d_Q_init_1 (by omega) (Nat.le_of_ble_eq_true rfl) ?_
  refine x_aload_n d_Q_init_4 rfl ?_
  refine x_iconst (v := 4) d_Q_init_5 (by decide) ?_
  refine x_newa (atype := .int) (ty := .int) (t := 0) (n := 4) (a0 := (4, .inl (fun _ => 0))) rfl ac_int rfl (fun _ z => by cases z) (fun _ _ => rfl) d_Q_init_6 (by decide) (by decide) (by decide) (by omega) ⟨by first | exact Nat.le_of_ble_eq_true rfl | (dsimp only; omega), by first | exact Nat.le_of_ble_eq_true rfl | (dsimp only; omega)⟩ ?_
  refine x_putF f_Q_9 rfl d_Q_init_8 (by omega) (by first | assumption | exact vu_s | exact vu_t (by omega) (by first | assumption | exact vu_s | exact vu_t (by omega) (by first | assumption | exact vu_s | exact vu_t (by omega) (by first | assumption | exact vu_s))) | rfl | (simp only [va_up, Nat.reduceEqDiff, ↓reduceIte]; first | rfl | assumption)) (Nat.le_of_ble_eq_true rfl) (fun _ => ⟨rfl, rfl⟩) ?_
  refine x_aload_n d_Q_init_11 rfl ?_
  refine x_new n_Q_15 d_Q_init_12 (by omega) ⟨by first | exact Nat.le_of_ble_eq_true rfl | (dsimp only; omega), by first | exact Nat.le_of_ble_eq_true rfl | (dsimp only; omega)⟩ ?_
  refine x_dup d_Q_init_15 rfl ?_
  refine x_callIN (c_P_init (o := o + 2) (by omega) vu_s) k_Q_17 v_P_init d_Q_init_16 rfl (by omega) (by omega) (Nat.le_of_ble_eq_true rfl) ⟨by first | exact Nat.le_of_ble_eq_true rfl | (dsimp only; omega), by first | exact Nat.le_of_ble_eq_true rfl | (dsimp only; omega)⟩ ?_
  rintro r h' ⟨rfl, p1, p2, p3⟩
  have q0 : h' o = .inr (6, [.int 0, .int 0, .int 0, .int 0, .int 0, .ref (o + 1), .null, .null, .null]) := by
    rw [p3 o (by omega)]
    exact vu_t (by omega) vu_s
  have q1 : h' (o + 1) = aI 4 z32 := by
    rw [p3 (o + 1) (by omega)]
    exact vu_t (by omega) (vu_t (by omega) vu_s)
  have q2 : ∀ k, k < o → h' k = h k := by
    intro k hk
    rw [p3 k (by omega), vu_n (by omega), vu_n (by omega), vu_n (by omega)]
  refine x_putF f_Q_18 rfl d_Q_init_19 (by omega) (by first | assumption | exact vu_s | exact vu_t (by omega) (by first | assumption | exact vu_s | exact vu_t (by omega) (by first | assumption | exact vu_s | exact vu_t (by omega) (by first | assumption | exact vu_s))) | rfl | (simp only [va_up, Nat.reduceEqDiff, ↓reduceIte]; first | rfl | assumption)) (Nat.le_of_ble_eq_true rfl) (fun _ => ⟨rfl, rfl⟩) ?_
  refine x_aload_n d_Q_init_22 rfl ?_
  refine x_bipush (v := 6) d_Q_init_23 (by decide) ?_
  refine x_newa (atype := .long) (ty := .long) (t := 2) (n := 6) (a0 := (6, .inr (.inl (fun _ => 0)))) rfl ac_long rfl (fun _ z => by cases z) (fun _ _ => rfl) d_Q_init_25 (by decide) (by decide) (by decide) (by omega) ⟨by first | exact Nat.le_of_ble_eq_true rfl | (dsimp only; omega), by first | exact Nat.le_of_ble_eq_true rfl | (dsimp only; omega)⟩ ?_
  refine x_putF f_Q_22 rfl d_Q_init_27 (by omega) (by first | assumption | exact vu_s | exact vu_t (by omega) (by first | assumption | exact vu_s | exact vu_t (by omega) (by first | assumption | exact vu_s | exact vu_t (by omega) (by first | assumption | exact vu_s))) | rfl | (simp only [va_up, Nat.reduceEqDiff, ↓reduceIte]; first | rfl | assumption)) (Nat.le_of_ble_eq_true rfl) (fun _ => ⟨rfl, rfl⟩) ?_
  refine x_aload_n d_Q_init_30 rfl ?_
  refine x_bipush (v := 6) d_Q_init_31 (by decide) ?_
  refine x_newa (atype := .long) (ty := .long) (t := 2) (n := 6) (a0 := (6, .inr (.inl (fun _ => 0)))) rfl ac_long rfl (fun _ z => by cases z) (fun _ _ => rfl) d_Q_init_33 (by decide) (by decide) (by decide) (by omega) ⟨by first | exact Nat.le_of_ble_eq_true rfl | (dsimp only; omega), by first | exact Nat.le_of_ble_eq_true rfl | (dsimp only; omega)⟩ ?_
  refine x_putF f_Q_26 rfl d_Q_init_35 (by omega) (by first | assumption | exact vu_s | exact vu_t (by omega) (by first | assumption | exact vu_s | exact vu_t (by omega) (by first | assumption | exact vu_s | exact vu_t (by omega) (by first | assumption | exact vu_s))) | rfl | (simp only [va_up, Nat.reduceEqDiff, ↓reduceIte]; first | rfl | assumption)) (Nat.le_of_ble_eq_true rfl) (fun _ => ⟨rfl, rfl⟩) ?_
  refine x_vret d_Q_init_38 ?_
  refine ⟨rfl, ⟨vu_s, ?_, ?_, ?_, ⟨z64, ?_⟩, z64, ?_⟩, fun k hk => ?_⟩
  · exact vu_t (by omega) (vu_t (by omega) (vu_t (by omega) (vu_t (by omega) (vu_t (by omega) q1))))
  · exact vu_t (by omega) (vu_t (by omega) (vu_t (by omega) (vu_t (by omega) (vu_t (by omega) p1))))
  · exact vu_t (by omega) (vu_t (by omega) (vu_t (by omega) (vu_t (by omega) (vu_t (by omega) p2))))
  · exact vu_t (by omega) (vu_t (by omega) (vu_t (by omega) vu_s))
  · exact vu_t (by omega) vu_s
  · rw [vu_n (by omega), vu_n (by omega), vu_n (by omega), vu_n (by omega), vu_n (by omega)]
    exact q2 k hk
end
section
/-! Constructors: Evaluator, JoinKeeper. -/
theorem XW_n {Γ : xG} {y : MethodName} {cc : ByteArray} {nL : Nat} {ret : Option FieldType} {dd : Nat × Nat × Nat} {Q : State → Prop} {ce sl N ce' sl' N' : Nat} {h : xHp} {pc : Nat} {lv : List (Option Value)} {st : List Value} (e1 : ce = ce') (e2 : sl = sl') (e3 : N = N') (k : XW Γ y cc nL ret dd Q ce' sl' N' h pc lv st) : XW Γ y cc nL ret dd Q ce sl N h pc lv st := by
  subst e1 e2 e3
  exact k
set_option maxRecDepth 100000 in
set_option maxHeartbeats 4000000 in
theorem c_E_init {h : xHp} (h1 : h 9 = .inr (4, [.null, .null, .null, .null, .int 0])) : XM y_E_init b_E_init 2 none 2 59 2323 [.ref 9] 10 h (fun r h' => r = none ∧ iE h' ∧ ∀ k, k < 9 → h' k = h k) := by
  refine xM_intro [some (.ref 9), none] (by decide) (fun _ => rfl) (fun _ => Nat.le_of_ble_eq_true rfl) (fun Γ => ?_)
  refine x_aload_n d_E_init_0 rfl ?_
  refine x_objInit o_E_3 d_E_init_1 (by omega) (Nat.le_of_ble_eq_true rfl) ?_
  refine x_aload_n d_E_init_4 rfl ?_
  refine x_bipush (v := 9) d_E_init_5 (by decide) ?_
  refine x_anew (t := 4) (n := 9) ⟨cl_E_11, by decide⟩ rfl d_E_init_7 (by decide) (by decide) (by decide) (by omega) ⟨by first | exact Nat.le_of_ble_eq_true rfl | (dsimp only; omega), by first | exact Nat.le_of_ble_eq_true rfl | (dsimp only; omega)⟩ ?_
  refine x_putF f_E_13 rfl d_E_init_10 (by omega) (by first | assumption | exact vu_s | exact vu_t (by omega) (by first | assumption | exact vu_s | exact vu_t (by omega) (by first | assumption | exact vu_s | exact vu_t (by omega) (by first | assumption | exact vu_s))) | rfl | (simp only [va_up, Nat.reduceEqDiff, ↓reduceIte]; first | rfl | assumption)) (Nat.le_of_ble_eq_true rfl) (fun _ => ⟨rfl, rfl⟩) ?_
  refine x_aload_n d_E_init_13 rfl ?_
  refine x_bipush (v := 9) d_E_init_14 (by decide) ?_
  refine x_anew (t := 4) (n := 9) ⟨cl_E_11, by decide⟩ rfl d_E_init_16 (by decide) (by decide) (by decide) (by omega) ⟨by first | exact Nat.le_of_ble_eq_true rfl | (dsimp only; omega), by first | exact Nat.le_of_ble_eq_true rfl | (dsimp only; omega)⟩ ?_
  refine x_putF f_E_17 rfl d_E_init_19 (by omega) (by first | assumption | exact vu_s | exact vu_t (by omega) (by first | assumption | exact vu_s | exact vu_t (by omega) (by first | assumption | exact vu_s | exact vu_t (by omega) (by first | assumption | exact vu_s))) | rfl | (simp only [va_up, Nat.reduceEqDiff, ↓reduceIte]; first | rfl | assumption)) (Nat.le_of_ble_eq_true rfl) (fun _ => ⟨rfl, rfl⟩) ?_
  refine x_aload_n d_E_init_22 rfl ?_
  refine x_bipush (v := 9) d_E_init_23 (by decide) ?_
  refine x_anew (t := 4) (n := 9) ⟨cl_E_11, by decide⟩ rfl d_E_init_25 (by decide) (by decide) (by decide) (by omega) ⟨by first | exact Nat.le_of_ble_eq_true rfl | (dsimp only; omega), by first | exact Nat.le_of_ble_eq_true rfl | (dsimp only; omega)⟩ ?_
  refine x_putF f_E_20 rfl d_E_init_28 (by omega) (by first | assumption | exact vu_s | exact vu_t (by omega) (by first | assumption | exact vu_s | exact vu_t (by omega) (by first | assumption | exact vu_s | exact vu_t (by omega) (by first | assumption | exact vu_s))) | rfl | (simp only [va_up, Nat.reduceEqDiff, ↓reduceIte]; first | rfl | assumption)) (Nat.le_of_ble_eq_true rfl) (fun _ => ⟨rfl, rfl⟩) ?_
  refine x_aload_n d_E_init_31 rfl ?_
  refine x_new n_E_11 d_E_init_32 (by omega) ⟨by first | exact Nat.le_of_ble_eq_true rfl | (dsimp only; omega), by first | exact Nat.le_of_ble_eq_true rfl | (dsimp only; omega)⟩ ?_
  refine x_dup d_E_init_35 rfl ?_
  refine x_callIN (c_P_init (o := 13) (by omega) vu_s) k_E_23 v_P_init d_E_init_36 rfl (by omega) (by omega) (Nat.le_of_ble_eq_true rfl) ⟨by first | exact Nat.le_of_ble_eq_true rfl | (dsimp only; omega), by first | exact Nat.le_of_ble_eq_true rfl | (dsimp only; omega)⟩ ?_
  rintro r h' ⟨rfl, p1, p2, p3⟩
  have q9 : h' 9 = .inr (4, [.ref 10, .ref 11, .ref 12, .null, .int 0]) := p3 9 (by omega)
  have q10 : h' 10 = aR 4 9 (fun _ => none) := p3 10 (by omega)
  have q11 : h' 11 = aR 4 9 (fun _ => none) := p3 11 (by omega)
  have q12 : h' 12 = aR 4 9 (fun _ => none) := p3 12 (by omega)
  have q0 : ∀ k, k < 9 → h' k = h k := by
    intro k hk
    rw [p3 k (by omega), vu_n (by omega), vu_n (by omega), vu_n (by omega), vu_n (by omega), vu_n (by omega), vu_n (by omega), vu_n (by omega)]
  refine x_putF f_E_24 rfl d_E_init_39 (by omega) (by first | assumption | exact vu_s | exact vu_t (by omega) (by first | assumption | exact vu_s | exact vu_t (by omega) (by first | assumption | exact vu_s | exact vu_t (by omega) (by first | assumption | exact vu_s))) | rfl | (simp only [va_up, Nat.reduceEqDiff, ↓reduceIte]; first | rfl | assumption)) (Nat.le_of_ble_eq_true rfl) (fun _ => ⟨rfl, rfl⟩) ?_
  refine x_iconst (v := 0) d_E_init_42 (by decide) ?_
  refine x_istore_n d_E_init_43 (by decide) rfl ?_
  have key : ∀ (m l : Nat) (hh : xHp) (a b c : Nat → Option Nat), l ≤ 9 → 9 - l < m → hh 9 = oE 0 → hh 10 = aR 4 9 a → hh 11 = aR 4 9 b → hh 12 = aR 4 9 c → (∀ j, j < l → a j = some (15 + 6 * j) ∧ b j = some (17 + 6 * j) ∧ c j = some (19 + 6 * j)) → (∀ k, 13 ≤ k → k < 15 + 6 * l → k % 2 = 1 → hh k = oP k ∧ ∃ g, hh (k + 1) = aI 81 g) → (∀ k, k < 9 → hh k = h k) → XW Γ y_E_init b_E_init 2 none (2, 59, 2323) (xQ Γ (10 + 59) 59 2323 (fun r h' => r = none ∧ iE h' ∧ ∀ k, k < 9 → h' k = h k)) (5 + 6 * l) (109 + 246 * l) (15 + 6 * l) hh 44 [some (.ref 9), some (.int (nI l))] [] := by
    intro m
    induction m with
    | zero => intro l hh a b c _ h0; omega
    | succ m ih =>
      intro l hh a b c hl hlm g9 g10 g11 g12 hj hp hf
      refine x_iload_n d_E_init_44 rfl ?_
      refine x_bipush (v := 9) d_E_init_45 (by decide) ?_
      refine x_icmp_ge 95 d_E_init_47 (by decide) (fun c1 => ?_) (fun c1 => ?_)
      · have e := nI_end (n := 9) hl (by decide) c1
        subst e
        refine x_vret d_E_init_95 ?_
        refine ⟨rfl, ⟨0, g9, ⟨a, g10, fun j z => (hj j z).1⟩, ⟨b, g11, fun j z => (hj j z).2.1⟩, ⟨c, g12, fun j z => (hj j z).2.2⟩, fun k z1 z2 z3 => hp k z1 (by omega) z3⟩, hf⟩
      · have hlt := nI_more (n := 9) hl (by decide) c1
        have hi : vp_in (nI l) 9 := vp_in_nI hlt (by decide)
        have hcl : (nI l).toNatClampNeg = l := nI_clamp (by omega)
        refine x_aload_n d_E_init_50 rfl ?_
        refine x_get f_E_13 d_E_init_51 (by omega) (by first | assumption | exact vu_s | exact vu_t (by omega) (by first | assumption | exact vu_s | exact vu_t (by omega) (by first | assumption | exact vu_s | exact vu_t (by omega) (by first | assumption | exact vu_s))) | rfl | (simp only [va_up, Nat.reduceEqDiff, ↓reduceIte]; first | rfl | assumption)) rfl ?_
        refine x_iload_n d_E_init_54 rfl ?_
        refine x_new n_E_11 d_E_init_55 (by omega) ⟨by first | exact Nat.le_of_ble_eq_true rfl | (dsimp only; omega), by first | exact Nat.le_of_ble_eq_true rfl | (dsimp only; omega)⟩ ?_
        refine x_dup d_E_init_58 rfl ?_
        refine x_callIN (c_P_init (o := 15 + 6 * l) (by omega) vu_s) k_E_23 v_P_init d_E_init_59 rfl (by omega) (by omega) (Nat.le_of_ble_eq_true rfl) ⟨by first | exact Nat.le_of_ble_eq_true rfl | (dsimp only; omega), by first | exact Nat.le_of_ble_eq_true rfl | (dsimp only; omega)⟩ ?_
        rintro r h2 ⟨rfl, p1, p2, p3⟩
        have f9 : h2 9 = oE 0 := (p3 9 (by omega)).trans (vu_t (by omega) g9)
        have f10 : h2 10 = aR 4 9 a := (p3 10 (by omega)).trans (vu_t (by omega) g10)
        have f11 : h2 11 = aR 4 9 b := (p3 11 (by omega)).trans (vu_t (by omega) g11)
        have f12 : h2 12 = aR 4 9 c := (p3 12 (by omega)).trans (vu_t (by omega) g12)
        have ff : ∀ k, k < 15 + 6 * l → h2 k = hh k := fun k hk => (p3 k hk).trans (vu_n (by omega))
        clear p3
        refine x_aast (t := 4) (r := (R_P, F_P, 1)) (ci := 5) rfl d_E_init_62 (by omega) f10 hi (by omega) p1 rfl ?_
        rw [hcl]
        generalize hv3 : va_up h2 10 (aR 4 9 (va_up a l (some (15 + 6 * l)))) = h3
        have e9 : h3 9 = oE 0 := by rw [← hv3]; exact vu_t (by omega) f9
        have e10 : h3 10 = aR 4 9 (va_up a l (some (15 + 6 * l))) := by rw [← hv3]; exact vu_s
        have e11 : h3 11 = aR 4 9 b := by rw [← hv3]; exact vu_t (by omega) f11
        have e12 : h3 12 = aR 4 9 c := by rw [← hv3]; exact vu_t (by omega) f12
        have ep1 : h3 (15 + 6 * l) = oP (15 + 6 * l) := by rw [← hv3]; exact vu_t (by omega) p1
        have ep2 : h3 (16 + 6 * l) = aI 81 z32 := by rw [← hv3, show 16 + 6 * l = 15 + 6 * l + 1 by omega]; exact vu_t (by omega) p2
        have ef : ∀ k, k < 15 + 6 * l → k ≠ 10 → h3 k = hh k := fun k hk hk2 => by rw [← hv3, vu_n hk2]; exact ff k hk
        clear hv3 f9 f10 f11 f12 ff p1 p2
        refine x_aload_n d_E_init_63 rfl ?_
        refine x_get f_E_17 d_E_init_64 (by omega) (by first | assumption | exact vu_s | exact vu_t (by omega) (by first | assumption | exact vu_s | exact vu_t (by omega) (by first | assumption | exact vu_s | exact vu_t (by omega) (by first | assumption | exact vu_s))) | rfl | (simp only [va_up, Nat.reduceEqDiff, ↓reduceIte]; first | rfl | assumption)) rfl ?_
        refine x_iload_n d_E_init_67 rfl ?_
        refine x_new n_E_11 d_E_init_68 (by omega) ⟨by first | exact Nat.le_of_ble_eq_true rfl | (dsimp only; omega), by first | exact Nat.le_of_ble_eq_true rfl | (dsimp only; omega)⟩ ?_
        refine x_dup d_E_init_71 rfl ?_
        refine x_callIN (c_P_init (o := 15 + 6 * l + 1 + 1) (by omega) vu_s) k_E_23 v_P_init d_E_init_72 rfl (by omega) (by omega) (Nat.le_of_ble_eq_true rfl) ⟨by first | exact Nat.le_of_ble_eq_true rfl | (dsimp only; omega), by first | exact Nat.le_of_ble_eq_true rfl | (dsimp only; omega)⟩ ?_
        rintro r h4 ⟨rfl, p1, p2, p3⟩
        have f9 : h4 9 = oE 0 := (p3 9 (by omega)).trans (vu_t (by omega) e9)
        have f10 : h4 10 = aR 4 9 (va_up a l (some (15 + 6 * l))) := (p3 10 (by omega)).trans (vu_t (by omega) e10)
        have f11 : h4 11 = aR 4 9 b := (p3 11 (by omega)).trans (vu_t (by omega) e11)
        have f12 : h4 12 = aR 4 9 c := (p3 12 (by omega)).trans (vu_t (by omega) e12)
        have fp1 : h4 (15 + 6 * l) = oP (15 + 6 * l) := (p3 _ (by omega)).trans (vu_t (by omega) ep1)
        have fp2 : h4 (16 + 6 * l) = aI 81 z32 := (p3 _ (by omega)).trans (vu_t (by omega) ep2)
        have ff : ∀ k, k < 15 + 6 * l → k ≠ 10 → h4 k = hh k := fun k hk hk2 => (p3 k (by omega)).trans ((vu_n (by omega)).trans (ef k hk hk2))
        clear p3 e9 e10 e11 e12 ep1 ep2 ef
        refine x_aast (t := 4) (r := (R_P, F_P, 1)) (ci := 5) rfl d_E_init_75 (by omega) f11 hi (by omega) p1 rfl ?_
        rw [hcl]
        generalize hv3 : va_up h4 11 (aR 4 9 (va_up b l (some (15 + 6 * l + 1 + 1)))) = h5
        have e9 : h5 9 = oE 0 := by rw [← hv3]; exact vu_t (by omega) f9
        have e10 : h5 10 = aR 4 9 (va_up a l (some (15 + 6 * l))) := by rw [← hv3]; exact vu_t (by omega) f10
        have e11 : h5 11 = aR 4 9 (va_up b l (some (15 + 6 * l + 1 + 1))) := by rw [← hv3]; exact vu_s
        have e12 : h5 12 = aR 4 9 c := by rw [← hv3]; exact vu_t (by omega) f12
        have ep1 : h5 (15 + 6 * l) = oP (15 + 6 * l) := by rw [← hv3]; exact vu_t (by omega) fp1
        have ep2 : h5 (16 + 6 * l) = aI 81 z32 := by rw [← hv3]; exact vu_t (by omega) fp2
        have ep3 : h5 (17 + 6 * l) = oP (17 + 6 * l) := by rw [← hv3, show 17 + 6 * l = 15 + 6 * l + 1 + 1 by omega]; exact vu_t (by omega) p1
        have ep4 : h5 (18 + 6 * l) = aI 81 z32 := by rw [← hv3, show 18 + 6 * l = 15 + 6 * l + 1 + 1 + 1 by omega]; exact vu_t (by omega) p2
        have ef : ∀ k, k < 15 + 6 * l → k ≠ 10 → k ≠ 11 → h5 k = hh k := fun k hk hk2 hk3 => by rw [← hv3, vu_n hk3]; exact ff k hk hk2
        clear hv3 f9 f10 f11 f12 ff p1 p2 fp1 fp2
        refine x_aload_n d_E_init_76 rfl ?_
        refine x_get f_E_20 d_E_init_77 (by omega) (by first | assumption | exact vu_s | exact vu_t (by omega) (by first | assumption | exact vu_s | exact vu_t (by omega) (by first | assumption | exact vu_s | exact vu_t (by omega) (by first | assumption | exact vu_s))) | rfl | (simp only [va_up, Nat.reduceEqDiff, ↓reduceIte]; first | rfl | assumption)) rfl ?_
        refine x_iload_n d_E_init_80 rfl ?_
        refine x_new n_E_11 d_E_init_81 (by omega) ⟨by first | exact Nat.le_of_ble_eq_true rfl | (dsimp only; omega), by first | exact Nat.le_of_ble_eq_true rfl | (dsimp only; omega)⟩ ?_
        refine x_dup d_E_init_84 rfl ?_
        refine x_callIN (c_P_init (o := 15 + 6 * l + 1 + 1 + 1 + 1) (by omega) vu_s) k_E_23 v_P_init d_E_init_85 rfl (by omega) (by omega) (Nat.le_of_ble_eq_true rfl) ⟨by first | exact Nat.le_of_ble_eq_true rfl | (dsimp only; omega), by first | exact Nat.le_of_ble_eq_true rfl | (dsimp only; omega)⟩ ?_
        rintro r h6 ⟨rfl, p1, p2, p3⟩
        have f9 : h6 9 = oE 0 := (p3 9 (by omega)).trans (vu_t (by omega) e9)
        have f10 : h6 10 = aR 4 9 (va_up a l (some (15 + 6 * l))) := (p3 10 (by omega)).trans (vu_t (by omega) e10)
        have f11 : h6 11 = aR 4 9 (va_up b l (some (15 + 6 * l + 1 + 1))) := (p3 11 (by omega)).trans (vu_t (by omega) e11)
        have f12 : h6 12 = aR 4 9 c := (p3 12 (by omega)).trans (vu_t (by omega) e12)
        have fp1 : h6 (15 + 6 * l) = oP (15 + 6 * l) := (p3 _ (by omega)).trans (vu_t (by omega) ep1)
        have fp2 : h6 (16 + 6 * l) = aI 81 z32 := (p3 _ (by omega)).trans (vu_t (by omega) ep2)
        have fp3 : h6 (17 + 6 * l) = oP (17 + 6 * l) := (p3 _ (by omega)).trans (vu_t (by omega) ep3)
        have fp4 : h6 (18 + 6 * l) = aI 81 z32 := (p3 _ (by omega)).trans (vu_t (by omega) ep4)
        have ff : ∀ k, k < 15 + 6 * l → k ≠ 10 → k ≠ 11 → h6 k = hh k := fun k hk hk2 hk3 => (p3 k (by omega)).trans ((vu_n (by omega)).trans (ef k hk hk2 hk3))
        clear p3 e9 e10 e11 e12 ep1 ep2 ep3 ep4 ef
        refine x_aast (t := 4) (r := (R_P, F_P, 1)) (ci := 5) rfl d_E_init_88 (by omega) f12 hi (by omega) p1 rfl ?_
        rw [hcl]
        refine x_iinc1 d_E_init_89 rfl (by decide) rfl ?_
        refine x_goto 44 d_E_init_92 (by decide) ?_
        rw [nI_1]
        have := ih (l + 1) (va_up h6 12 (aR 4 9 (va_up c l (some (15 + 6 * l + 1 + 1 + 1 + 1))))) _ _ _ (by omega) (by omega) (vu_t (by omega) f9) (vu_t (by omega) f10) (vu_t (by omega) f11) vu_s (by
          intro j hj'
          by_cases e : j = l
          · subst e
            exact ⟨by rw [vu_s], by rw [vu_s]; congr 1; omega, by rw [vu_s]; congr 1; omega⟩
          · rw [vu_n e, vu_n e, vu_n e]
            exact hj j (by omega)) (by
          intro k z1 z2 z3
          by_cases e1 : k < 15 + 6 * l
          · obtain ⟨w1, g, w2⟩ := hp k z1 e1 z3
            refine ⟨?_, g, ?_⟩
            · rw [vu_n (by omega), ff k e1 (by omega) (by omega)]
              exact w1
            · rw [vu_n (by omega), ff (k + 1) (by omega) (by omega) (by omega)]
              exact w2
          · rcases (show k = 15 + 6 * l ∨ k = 17 + 6 * l ∨ k = 19 + 6 * l by omega) with rfl | rfl | rfl
            · exact ⟨vu_t (by omega) fp1, z32, by rw [show 15 + 6 * l + 1 = 16 + 6 * l by omega]; exact vu_t (by omega) fp2⟩
            · exact ⟨vu_t (by omega) fp3, z32, by rw [show 17 + 6 * l + 1 = 18 + 6 * l by omega]; exact vu_t (by omega) fp4⟩
            · exact ⟨by rw [show 19 + 6 * l = 15 + 6 * l + 1 + 1 + 1 + 1 by omega]; exact vu_t (by omega) p1, z32, by rw [show 19 + 6 * l + 1 = 15 + 6 * l + 1 + 1 + 1 + 1 + 1 by omega]; exact vu_t (by omega) p2⟩) (by
          intro k hk
          rw [vu_n (by omega), ff k (by omega) (by omega) (by omega)]
          exact hf k hk)
        exact XW_n (by omega) (by omega) (by omega) this
  refine XW_n (by omega) (by omega) (by omega) (key 10 0 _ _ _ _ (by omega) (by omega) vu_s (vu_t (by omega) q10) (vu_t (by omega) q11) (vu_t (by omega) q12) (fun j hj => by omega) (fun k z1 z2 z3 => ?_) (fun k hk => (vu_n (by omega)).trans (q0 k hk)))
  obtain rfl : k = 13 := by omega
  exact ⟨vu_t (by omega) p1, z32, vu_t (by omega) p2⟩
end
section
/-! Constructor of JoinKeeper. -/
def zQ : Nat → CQ := fun _ => (false, 0, 0, 0, 0, z32, z32)
set_option maxRecDepth 100000 in
set_option maxHeartbeats 4000000 in
theorem c_K_init {h : xHp} (h1 : h 0 = .inr (0, [.null, .null, .null, .null, .null])) : XM y_K_init b_K_init 2 none 3 93 3942 [.ref 0] 1 h (fun r h' => r = none ∧ IC z32 0 z32 z32 z32 0 zQ h') := by
  refine xM_intro [some (.ref 0), none] (by decide) (fun _ => rfl) (fun _ => Nat.le_of_ble_eq_true rfl) (fun Γ => ?_)
  refine x_aload_n d_K_init_0 rfl ?_
  refine x_objInit o_K_1 d_K_init_1 (by omega) (Nat.le_of_ble_eq_true rfl) ?_
  refine x_aload_n d_K_init_4 rfl ?_
  refine x_new n_K_7 d_K_init_5 (by omega) ⟨by first | exact Nat.le_of_ble_eq_true rfl | (dsimp only; omega), by first | exact Nat.le_of_ble_eq_true rfl | (dsimp only; omega)⟩ ?_
  refine x_dup d_K_init_8 rfl ?_
  refine x_callIN (c_R_init vu_s) k_K_9 v_R_init d_K_init_9 rfl (by omega) (by omega) (Nat.le_of_ble_eq_true rfl) ⟨by first | exact Nat.le_of_ble_eq_true rfl | (dsimp only; omega), by first | exact Nat.le_of_ble_eq_true rfl | (dsimp only; omega)⟩ ?_
  rintro r h2 ⟨rfl, hR, f2⟩
  have a0 : h2 0 = .inr (0, [.null, .null, .null, .null, .null]) := (f2 0 (by omega)).trans (vu_t (by omega) h1)
  clear f2
  refine x_putF f_K_10 rfl d_K_init_12 (by omega) (by first | assumption | exact vu_s | exact vu_t (by omega) (by first | assumption | exact vu_s | exact vu_t (by omega) (by first | assumption | exact vu_s | exact vu_t (by omega) (by first | assumption | exact vu_s))) | rfl | (simp only [va_up, Nat.reduceEqDiff, ↓reduceIte]; first | rfl | assumption)) (Nat.le_of_ble_eq_true rfl) (fun _ => ⟨rfl, rfl⟩) ?_
  refine x_aload_n d_K_init_15 rfl ?_
  refine x_new n_K_16 d_K_init_16 (by omega) ⟨by first | exact Nat.le_of_ble_eq_true rfl | (dsimp only; omega), by first | exact Nat.le_of_ble_eq_true rfl | (dsimp only; omega)⟩ ?_
  refine x_dup d_K_init_19 rfl ?_
  refine x_callIN (c_T_init vu_s) k_K_18 v_T_init d_K_init_20 rfl (by omega) (by omega) (Nat.le_of_ble_eq_true rfl) ⟨by first | exact Nat.le_of_ble_eq_true rfl | (dsimp only; omega), by first | exact Nat.le_of_ble_eq_true rfl | (dsimp only; omega)⟩ ?_
  rintro r h3 ⟨rfl, hT, f3⟩
  have b0 : h3 0 = .inr (0, [.ref 1, .null, .null, .null, .null]) := f3 0 (by omega)
  have bR : iR z32 0 z32 z32 h3 := hR.cg (fun k z1 z2 => (f3 k (by omega)).trans ((vu_n (by omega)).trans (vu_n (by omega))))
  clear f3 hR a0
  refine x_putF f_K_19 rfl d_K_init_23 (by omega) (by first | assumption | exact vu_s | exact vu_t (by omega) (by first | assumption | exact vu_s | exact vu_t (by omega) (by first | assumption | exact vu_s | exact vu_t (by omega) (by first | assumption | exact vu_s))) | rfl | (simp only [va_up, Nat.reduceEqDiff, ↓reduceIte]; first | rfl | assumption)) (Nat.le_of_ble_eq_true rfl) (fun _ => ⟨rfl, rfl⟩) ?_
  refine x_aload_n d_K_init_26 rfl ?_
  refine x_new n_K_23 d_K_init_27 (by omega) ⟨by first | exact Nat.le_of_ble_eq_true rfl | (dsimp only; omega), by first | exact Nat.le_of_ble_eq_true rfl | (dsimp only; omega)⟩ ?_
  refine x_dup d_K_init_30 rfl ?_
  refine x_callIN (c_G_init vu_s) k_K_25 v_G_init d_K_init_31 rfl (by omega) (by omega) (Nat.le_of_ble_eq_true rfl) ⟨by first | exact Nat.le_of_ble_eq_true rfl | (dsimp only; omega), by first | exact Nat.le_of_ble_eq_true rfl | (dsimp only; omega)⟩ ?_
  rintro r h4 ⟨rfl, hG4, f4⟩
  have d0 : h4 0 = .inr (0, [.ref 1, .ref 5, .null, .null, .null]) := f4 0 (by omega)
  have dR : iR z32 0 z32 z32 h4 := bR.cg (fun k z1 z2 => (f4 k (by omega)).trans ((vu_n (by omega)).trans (vu_n (by omega))))
  have dT : tSt h4 z32 0 := hT.cg (fun k z1 z2 => (f4 k (by omega)).trans ((vu_n (by omega)).trans (vu_n (by omega))))
  clear f4 bR b0 hT
  refine x_putF f_K_26 rfl d_K_init_34 (by omega) (by first | assumption | exact vu_s | exact vu_t (by omega) (by first | assumption | exact vu_s | exact vu_t (by omega) (by first | assumption | exact vu_s | exact vu_t (by omega) (by first | assumption | exact vu_s))) | rfl | (simp only [va_up, Nat.reduceEqDiff, ↓reduceIte]; first | rfl | assumption)) (Nat.le_of_ble_eq_true rfl) (fun _ => ⟨rfl, rfl⟩) ?_
  refine x_aload_n d_K_init_37 rfl ?_
  refine x_new n_K_30 d_K_init_38 (by omega) ⟨by first | exact Nat.le_of_ble_eq_true rfl | (dsimp only; omega), by first | exact Nat.le_of_ble_eq_true rfl | (dsimp only; omega)⟩ ?_
  refine x_dup d_K_init_41 rfl ?_
  refine x_callI (c_E_init vu_s) k_K_32 v_E_init d_K_init_42 rfl (by omega) (by omega) (Nat.le_of_ble_eq_true rfl) ⟨by first | exact Nat.le_of_ble_eq_true rfl | (dsimp only; omega), by first | exact Nat.le_of_ble_eq_true rfl | (dsimp only; omega)⟩ ?_
  rintro r h5 ⟨rfl, hE5, f5⟩
  have e0 : h5 0 = .inr (0, [.ref 1, .ref 5, .ref 7, .null, .null]) := f5 0 (by omega)
  have eR : iR z32 0 z32 z32 h5 := dR.cg (fun k z1 z2 => (f5 k (by omega)).trans ((vu_n (by omega)).trans (vu_n (by omega))))
  have eT : tSt h5 z32 0 := dT.cg (fun k z1 z2 => (f5 k (by omega)).trans ((vu_n (by omega)).trans (vu_n (by omega))))
  have eG : iG h5 := hG4.cg (fun k z1 z2 => (f5 k (by omega)).trans ((vu_n (by omega)).trans (vu_n (by omega))))
  clear f5 dR d0 dT hG4
  refine x_putF f_K_33 rfl d_K_init_45 (by omega) (by first | assumption | exact vu_s | exact vu_t (by omega) (by first | assumption | exact vu_s | exact vu_t (by omega) (by first | assumption | exact vu_s | exact vu_t (by omega) (by first | assumption | exact vu_s))) | rfl | (simp only [va_up, Nat.reduceEqDiff, ↓reduceIte]; first | rfl | assumption)) (Nat.le_of_ble_eq_true rfl) (fun _ => ⟨rfl, rfl⟩) ?_
  refine x_aload_n d_K_init_48 rfl ?_
  refine x_iconst (v := 4) d_K_init_49 (by decide) ?_
  refine x_anew (t := 5) (n := 4) ⟨cl_K_37, by decide⟩ rfl d_K_init_50 (by decide) (by decide) (by decide) (by omega) ⟨by first | exact Nat.le_of_ble_eq_true rfl | (dsimp only; omega), by first | exact Nat.le_of_ble_eq_true rfl | (dsimp only; omega)⟩ ?_
  refine x_putF f_K_39 rfl d_K_init_53 (by omega) (by first | assumption | exact vu_s | exact vu_t (by omega) (by first | assumption | exact vu_s | exact vu_t (by omega) (by first | assumption | exact vu_s | exact vu_t (by omega) (by first | assumption | exact vu_s))) | rfl | (simp only [va_up, Nat.reduceEqDiff, ↓reduceIte]; first | rfl | assumption)) (Nat.le_of_ble_eq_true rfl) (fun _ => ⟨rfl, rfl⟩) ?_
  refine x_iconst (v := 0) d_K_init_56 (by decide) ?_
  refine x_istore_n d_K_init_57 (by decide) rfl ?_
  have key : ∀ (m l : Nat) (hh : xHp) (a : Nat → Option Nat), l ≤ 4 → 4 - l < m → hh 0 = oK → iR z32 0 z32 z32 hh → tSt hh z32 0 → iG hh → iE hh → hh 69 = aR 5 4 a → (∀ j, j < l → a j = some (70 + 6 * j) ∧ qSt (70 + 6 * j) (false, 0, 0, 0, 0, z32, z32) hh) → XW Γ y_K_init b_K_init 2 none (3, 93, 3942) (xQ Γ (1 + 93) 93 3942 (fun r h' => r = none ∧ IC z32 0 z32 z32 z32 0 zQ h')) (69 + 6 * l) (3514 + 107 * l) (70 + 6 * l) hh 58 [some (.ref 0), some (.int (nI l))] [] := by
    intro m
    induction m with
    | zero => intro l hh a _ h0; omega
    | succ m ih =>
      intro l hh a hl hlm g0 gR gT gG gE g69 hj
      refine x_iload_n d_K_init_58 rfl ?_
      refine x_iconst (v := 4) d_K_init_59 (by decide) ?_
      refine x_icmp_ge 82 d_K_init_60 (by decide) (fun c1 => ?_) (fun c1 => ?_)
      · have e := nI_end (n := 4) hl (by decide) c1
        subst e
        refine x_vret d_K_init_82 ?_
        exact ⟨rfl, g0, gR, gT, gG, gE, ⟨a, g69, fun i hi => (hj i hi).1⟩, fun i hi => (hj i hi).2⟩
      · have hlt := nI_more (n := 4) hl (by decide) c1
        have hi : vp_in (nI l) 4 := vp_in_nI hlt (by decide)
        have hcl : (nI l).toNatClampNeg = l := nI_clamp (by omega)
        refine x_aload_n d_K_init_63 rfl ?_
        refine x_get f_K_39 d_K_init_64 (by omega) (by first | assumption | exact vu_s | exact vu_t (by omega) (by first | assumption | exact vu_s | exact vu_t (by omega) (by first | assumption | exact vu_s | exact vu_t (by omega) (by first | assumption | exact vu_s))) | rfl | (simp only [va_up, Nat.reduceEqDiff, ↓reduceIte]; first | rfl | assumption)) rfl ?_
        refine x_iload_n d_K_init_67 rfl ?_
        refine x_new n_K_37 d_K_init_68 (by omega) ⟨by first | exact Nat.le_of_ble_eq_true rfl | (dsimp only; omega), by first | exact Nat.le_of_ble_eq_true rfl | (dsimp only; omega)⟩ ?_
        refine x_dup d_K_init_71 rfl ?_
        refine x_callIN (c_Q_init (o := 70 + 6 * l) (by omega) vu_s) k_K_43 v_Q_init d_K_init_72 rfl (by omega) (by omega) (Nat.le_of_ble_eq_true rfl) ⟨by first | exact Nat.le_of_ble_eq_true rfl | (dsimp only; omega), by first | exact Nat.le_of_ble_eq_true rfl | (dsimp only; omega)⟩ ?_
        rintro r h2 ⟨rfl, q1, q2⟩
        have ff : ∀ k, k < 70 + 6 * l → h2 k = hh k := fun k hk => (q2 k hk).trans (vu_n (by omega))
        have f69 : h2 69 = aR 5 4 a := (ff 69 (by omega)).trans g69
        have q0 := q1.1
        refine x_aast (t := 5) (r := (R_Q, F_Q, 9)) (ci := 6) rfl d_K_init_75 (by omega) f69 hi (by omega) q0 rfl ?_
        rw [hcl]
        refine x_iinc1 d_K_init_76 rfl (by decide) rfl ?_
        refine x_goto 58 d_K_init_79 (by decide) ?_
        rw [nI_1]
        have fs : ∀ {lo hi}, hi < 69 → sm lo hi hh (va_up h2 69 (aR 5 4 (va_up a l (some (70 + 6 * l))))) := fun hz k z1 z2 => (vu_n (by omega)).trans (ff k (by omega))
        have := ih (l + 1) (va_up h2 69 (aR 5 4 (va_up a l (some (70 + 6 * l))))) _ (by omega) (by omega) ((fs (lo := 0) (hi := 0) (by decide) 0 (by decide) (by decide)).trans g0) (gR.cg (fs (by decide))) (gT.cg (fs (by decide))) (gG.cg (fs (by decide))) (gE.cg (fs (by decide))) vu_s (by
          intro j hj'
          by_cases e : j = l
          · subst e
            exact ⟨by rw [vu_s], q1.cg (fun k z1 z2 => vu_n (by omega))⟩
          · refine ⟨by rw [vu_n e]; exact (hj j (by omega)).1, (hj j (by omega)).2.cg (fun k z1 z2 => (vu_n (by omega)).trans (ff k (by omega)))⟩)
        exact XW_n (by omega) (by omega) (by omega) this
  have fs : ∀ {lo hi}, 0 < lo → hi < 69 → sm lo hi h5 (va_up (va_up (va_up h5 0 (.inr (0, [.ref 1, .ref 5, .ref 7, .ref 9, .null]))) 69 (aR 5 4 (fun _ => none))) 0 oK) := fun z0 hz k z1 z2 => (vu_n (by omega)).trans ((vu_n (by omega)).trans (vu_n (by omega)))
  exact XW_n (by omega) (by omega) (by omega) (key 5 0 _ _ (by omega) (by omega) vu_s (eR.cg (fs (by decide) (by decide))) (eT.cg (fs (by decide) (by decide))) (eG.cg (fs (by decide) (by decide))) (hE5.cg (fs (by decide) (by decide))) (vu_t (by omega) vu_s) (fun j hj => by omega))
end
