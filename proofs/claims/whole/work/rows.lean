section
-- ===== PART A: goes FIRST, ahead of the names: the tables' words, and 'selects' of the private methods out of them =====
/-- a private method of a class that the tables say can be made, by its rows of tables_1 -/
def lw_okq (q : MethodName × Nat) : Prop := (q.1.cls ≠ "java/lang/invoke/MethodHandle" ∧ q.1.cls ≠ "java/lang/invoke/VarHandle") ∧ Cond.instantiable q.1.cls q.2 ∈ tables_1 ∧ Cond.privateMethod q.1 ∈ tables_1 ∧ Cond.instanceMethod q.1 ∈ tables_1
theorem lw_p0 : lw_okq (⟨"JoinKeeper$Grammar", "restart", "()V"⟩, 10) := ⟨⟨by decide +kernel, by decide +kernel⟩, List.mem_of_getElem? (i := 54) (by decide +kernel), List.mem_of_getElem? (i := 240) (by decide +kernel), List.mem_of_getElem? (i := 241) (by decide +kernel)⟩
theorem lw_p1 : lw_okq (⟨"JoinKeeper$Grammar", "take", "(C)Z"⟩, 10) := ⟨⟨by decide +kernel, by decide +kernel⟩, List.mem_of_getElem? (i := 54) (by decide +kernel), List.mem_of_getElem? (i := 252) (by decide +kernel), List.mem_of_getElem? (i := 253) (by decide +kernel)⟩
theorem lw_p2 : lw_okq (⟨"JoinKeeper$Grammar", "takeChainStart", "(C)Z"⟩, 10) := ⟨⟨by decide +kernel, by decide +kernel⟩, List.mem_of_getElem? (i := 54) (by decide +kernel), List.mem_of_getElem? (i := 256) (by decide +kernel), List.mem_of_getElem? (i := 257) (by decide +kernel)⟩
theorem lw_p3 : lw_okq (⟨"JoinKeeper$Grammar", "takeChainRest", "(C)Z"⟩, 10) := ⟨⟨by decide +kernel, by decide +kernel⟩, List.mem_of_getElem? (i := 54) (by decide +kernel), List.mem_of_getElem? (i := 263) (by decide +kernel), List.mem_of_getElem? (i := 264) (by decide +kernel)⟩
theorem lw_p4 : lw_okq (⟨"JoinKeeper$Grammar", "takeFactor", "(C)Z"⟩, 10) := ⟨⟨by decide +kernel, by decide +kernel⟩, List.mem_of_getElem? (i := 54) (by decide +kernel), List.mem_of_getElem? (i := 267) (by decide +kernel), List.mem_of_getElem? (i := 268) (by decide +kernel)⟩
theorem lw_p5 : lw_okq (⟨"JoinKeeper$Grammar", "takeOpening", "(C)Z"⟩, 10) := ⟨⟨by decide +kernel, by decide +kernel⟩, List.mem_of_getElem? (i := 54) (by decide +kernel), List.mem_of_getElem? (i := 271) (by decide +kernel), List.mem_of_getElem? (i := 272) (by decide +kernel)⟩
theorem lw_p6 : lw_okq (⟨"JoinKeeper$Grammar", "isChainColumn", "(C)Z"⟩, 10) := ⟨⟨by decide +kernel, by decide +kernel⟩, List.mem_of_getElem? (i := 54) (by decide +kernel), List.mem_of_getElem? (i := 278) (by decide +kernel), List.mem_of_getElem? (i := 279) (by decide +kernel)⟩
theorem lw_p7 : lw_okq (⟨"JoinKeeper$Grammar", "endFactor", "()V"⟩, 10) := ⟨⟨by decide +kernel, by decide +kernel⟩, List.mem_of_getElem? (i := 54) (by decide +kernel), List.mem_of_getElem? (i := 285) (by decide +kernel), List.mem_of_getElem? (i := 286) (by decide +kernel)⟩
theorem lw_p8 : lw_okq (⟨"JoinKeeper$Grammar", "takeAfterFactor", "(C)Z"⟩, 10) := ⟨⟨by decide +kernel, by decide +kernel⟩, List.mem_of_getElem? (i := 54) (by decide +kernel), List.mem_of_getElem? (i := 289) (by decide +kernel), List.mem_of_getElem? (i := 290) (by decide +kernel)⟩
theorem lw_p9 : lw_okq (⟨"JoinKeeper$Grammar", "takeTail", "(C)Z"⟩, 10) := ⟨⟨by decide +kernel, by decide +kernel⟩, List.mem_of_getElem? (i := 54) (by decide +kernel), List.mem_of_getElem? (i := 293) (by decide +kernel), List.mem_of_getElem? (i := 294) (by decide +kernel)⟩
theorem lw_p10 : lw_okq (⟨"JoinKeeper$Grammar", "takeConditionColumn", "(C)Z"⟩, 10) := ⟨⟨by decide +kernel, by decide +kernel⟩, List.mem_of_getElem? (i := 54) (by decide +kernel), List.mem_of_getElem? (i := 297) (by decide +kernel), List.mem_of_getElem? (i := 298) (by decide +kernel)⟩
theorem lw_p11 : lw_okq (⟨"JoinKeeper$Grammar", "takeConditionKind", "(C)Z"⟩, 10) := ⟨⟨by decide +kernel, by decide +kernel⟩, List.mem_of_getElem? (i := 54) (by decide +kernel), List.mem_of_getElem? (i := 301) (by decide +kernel), List.mem_of_getElem? (i := 302) (by decide +kernel)⟩
theorem lw_p12 : lw_okq (⟨"JoinKeeper$Grammar", "takeConditionDigit", "(C)Z"⟩, 10) := ⟨⟨by decide +kernel, by decide +kernel⟩, List.mem_of_getElem? (i := 54) (by decide +kernel), List.mem_of_getElem? (i := 305) (by decide +kernel), List.mem_of_getElem? (i := 306) (by decide +kernel)⟩
theorem lw_p13 : lw_okq (⟨"JoinKeeper$Grammar", "takeGroupColumn", "(C)Z"⟩, 10) := ⟨⟨by decide +kernel, by decide +kernel⟩, List.mem_of_getElem? (i := 54) (by decide +kernel), List.mem_of_getElem? (i := 312) (by decide +kernel), List.mem_of_getElem? (i := 313) (by decide +kernel)⟩
theorem lw_p14 : lw_okq (⟨"JoinKeeper$Grammar", "isWhole", "()Z"⟩, 10) := ⟨⟨by decide +kernel, by decide +kernel⟩, List.mem_of_getElem? (i := 54) (by decide +kernel), List.mem_of_getElem? (i := 316) (by decide +kernel), List.mem_of_getElem? (i := 317) (by decide +kernel)⟩
theorem lw_p15 : lw_okq (⟨"JoinKeeper$Evaluator", "readSum", "(LJoinKeeper$Text;I)Z"⟩, 5) := ⟨⟨by decide +kernel, by decide +kernel⟩, List.mem_of_getElem? (i := 91) (by decide +kernel), List.mem_of_getElem? (i := 328) (by decide +kernel), List.mem_of_getElem? (i := 329) (by decide +kernel)⟩
def lw_privs_1 : List (MethodName × Nat) := [(⟨"JoinKeeper$Grammar", "restart", "()V"⟩, 10), (⟨"JoinKeeper$Grammar", "take", "(C)Z"⟩, 10), (⟨"JoinKeeper$Grammar", "takeChainStart", "(C)Z"⟩, 10), (⟨"JoinKeeper$Grammar", "takeChainRest", "(C)Z"⟩, 10), (⟨"JoinKeeper$Grammar", "takeFactor", "(C)Z"⟩, 10), (⟨"JoinKeeper$Grammar", "takeOpening", "(C)Z"⟩, 10), (⟨"JoinKeeper$Grammar", "isChainColumn", "(C)Z"⟩, 10), (⟨"JoinKeeper$Grammar", "endFactor", "()V"⟩, 10), (⟨"JoinKeeper$Grammar", "takeAfterFactor", "(C)Z"⟩, 10), (⟨"JoinKeeper$Grammar", "takeTail", "(C)Z"⟩, 10), (⟨"JoinKeeper$Grammar", "takeConditionColumn", "(C)Z"⟩, 10), (⟨"JoinKeeper$Grammar", "takeConditionKind", "(C)Z"⟩, 10), (⟨"JoinKeeper$Grammar", "takeConditionDigit", "(C)Z"⟩, 10), (⟨"JoinKeeper$Grammar", "takeGroupColumn", "(C)Z"⟩, 10), (⟨"JoinKeeper$Grammar", "isWhole", "()Z"⟩, 10), (⟨"JoinKeeper$Evaluator", "readSum", "(LJoinKeeper$Text;I)Z"⟩, 5)]
theorem lw_r1 : ∀ q ∈ lw_privs_1, lw_okq q := List.forall_mem_cons.mpr ⟨lw_p0, List.forall_mem_cons.mpr ⟨lw_p1, List.forall_mem_cons.mpr ⟨lw_p2, List.forall_mem_cons.mpr ⟨lw_p3, List.forall_mem_cons.mpr ⟨lw_p4, List.forall_mem_cons.mpr ⟨lw_p5, List.forall_mem_cons.mpr ⟨lw_p6, List.forall_mem_cons.mpr ⟨lw_p7, List.forall_mem_cons.mpr ⟨lw_p8, List.forall_mem_cons.mpr ⟨lw_p9, List.forall_mem_cons.mpr ⟨lw_p10, List.forall_mem_cons.mpr ⟨lw_p11, List.forall_mem_cons.mpr ⟨lw_p12, List.forall_mem_cons.mpr ⟨lw_p13, List.forall_mem_cons.mpr ⟨lw_p14, List.forall_mem_cons.mpr ⟨lw_p15, fun _ h => absurd h List.not_mem_nil⟩⟩⟩⟩⟩⟩⟩⟩⟩⟩⟩⟩⟩⟩⟩⟩
theorem lw_p16 : lw_okq (⟨"JoinKeeper$Evaluator", "readProduct", "(LJoinKeeper$Text;I)Z"⟩, 5) := ⟨⟨by decide +kernel, by decide +kernel⟩, List.mem_of_getElem? (i := 91) (by decide +kernel), List.mem_of_getElem? (i := 337) (by decide +kernel), List.mem_of_getElem? (i := 338) (by decide +kernel)⟩
theorem lw_p17 : lw_okq (⟨"JoinKeeper$Evaluator", "readFactor", "(LJoinKeeper$Text;I)Z"⟩, 5) := ⟨⟨by decide +kernel, by decide +kernel⟩, List.mem_of_getElem? (i := 91) (by decide +kernel), List.mem_of_getElem? (i := 341) (by decide +kernel), List.mem_of_getElem? (i := 342) (by decide +kernel)⟩
theorem lw_p18 : lw_okq (⟨"JoinKeeper$Evaluator", "readRestOfBrackets", "(LJoinKeeper$Text;I)Z"⟩, 5) := ⟨⟨by decide +kernel, by decide +kernel⟩, List.mem_of_getElem? (i := 91) (by decide +kernel), List.mem_of_getElem? (i := 346) (by decide +kernel), List.mem_of_getElem? (i := 347) (by decide +kernel)⟩
theorem lw_p19 : lw_okq (⟨"JoinKeeper$Evaluator", "readRestOfNegative", "(LJoinKeeper$Text;I)Z"⟩, 5) := ⟨⟨by decide +kernel, by decide +kernel⟩, List.mem_of_getElem? (i := 91) (by decide +kernel), List.mem_of_getElem? (i := 357) (by decide +kernel), List.mem_of_getElem? (i := 358) (by decide +kernel)⟩
theorem lw_p20 : lw_okq (⟨"JoinKeeper$Polynomial", "hasLargeTerms", "()Z"⟩, 1) := ⟨⟨by decide +kernel, by decide +kernel⟩, List.mem_of_getElem? (i := 98) (by decide +kernel), List.mem_of_getElem? (i := 382) (by decide +kernel), List.mem_of_getElem? (i := 383) (by decide +kernel)⟩
theorem lw_p21 : lw_okq (⟨"JoinKeeper", "isAskable", "(I)Z"⟩, 5) := ⟨⟨by decide +kernel, by decide +kernel⟩, List.mem_of_getElem? (i := 12) (by decide +kernel), List.mem_of_getElem? (i := 436) (by decide +kernel), List.mem_of_getElem? (i := 437) (by decide +kernel)⟩
theorem lw_p22 : lw_okq (⟨"JoinKeeper$Question", "sumOfPowers", "(LJoinKeeper$Rows;II)J"⟩, 9) := ⟨⟨by decide +kernel, by decide +kernel⟩, List.mem_of_getElem? (i := 125) (by decide +kernel), List.mem_of_getElem? (i := 465) (by decide +kernel), List.mem_of_getElem? (i := 466) (by decide +kernel)⟩
theorem lw_p23 : lw_okq (⟨"JoinKeeper$Question", "share", "(IIII)J"⟩, 9) := ⟨⟨by decide +kernel, by decide +kernel⟩, List.mem_of_getElem? (i := 125) (by decide +kernel), List.mem_of_getElem? (i := 469) (by decide +kernel), List.mem_of_getElem? (i := 470) (by decide +kernel)⟩
theorem lw_p24 : lw_okq (⟨"JoinKeeperModel", "read", "()I"⟩, 27) := ⟨⟨by decide +kernel, by decide +kernel⟩, List.mem_of_getElem? (i := 516) (by decide +kernel), List.mem_of_getElem? (i := 633) (by decide +kernel), List.mem_of_getElem? (i := 634) (by decide +kernel)⟩
theorem lw_p25 : lw_okq (⟨"JoinKeeperModel", "readChain", "()I"⟩, 27) := ⟨⟨by decide +kernel, by decide +kernel⟩, List.mem_of_getElem? (i := 516) (by decide +kernel), List.mem_of_getElem? (i := 637) (by decide +kernel), List.mem_of_getElem? (i := 638) (by decide +kernel)⟩
theorem lw_p26 : lw_okq (⟨"JoinKeeperModel", "at", "(I)I"⟩, 27) := ⟨⟨by decide +kernel, by decide +kernel⟩, List.mem_of_getElem? (i := 516) (by decide +kernel), List.mem_of_getElem? (i := 641) (by decide +kernel), List.mem_of_getElem? (i := 642) (by decide +kernel)⟩
theorem lw_p27 : lw_okq (⟨"JoinKeeperModel", "readExpression", "(I)I"⟩, 27) := ⟨⟨by decide +kernel, by decide +kernel⟩, List.mem_of_getElem? (i := 516) (by decide +kernel), List.mem_of_getElem? (i := 645) (by decide +kernel), List.mem_of_getElem? (i := 646) (by decide +kernel)⟩
theorem lw_p28 : lw_okq (⟨"JoinKeeperModel", "begin", "(I)V"⟩, 27) := ⟨⟨by decide +kernel, by decide +kernel⟩, List.mem_of_getElem? (i := 516) (by decide +kernel), List.mem_of_getElem? (i := 649) (by decide +kernel), List.mem_of_getElem? (i := 650) (by decide +kernel)⟩
theorem lw_p29 : lw_okq (⟨"JoinKeeperModel", "has", "(I)Z"⟩, 27) := ⟨⟨by decide +kernel, by decide +kernel⟩, List.mem_of_getElem? (i := 516) (by decide +kernel), List.mem_of_getElem? (i := 653) (by decide +kernel), List.mem_of_getElem? (i := 654) (by decide +kernel)⟩
theorem lw_p30 : lw_okq (⟨"JoinKeeperModel", "simple", "(I)V"⟩, 27) := ⟨⟨by decide +kernel, by decide +kernel⟩, List.mem_of_getElem? (i := 516) (by decide +kernel), List.mem_of_getElem? (i := 660) (by decide +kernel), List.mem_of_getElem? (i := 661) (by decide +kernel)⟩
theorem lw_p31 : lw_okq (⟨"JoinKeeperModel", "endFactor", "(I)V"⟩, 27) := ⟨⟨by decide +kernel, by decide +kernel⟩, List.mem_of_getElem? (i := 516) (by decide +kernel), List.mem_of_getElem? (i := 664) (by decide +kernel), List.mem_of_getElem? (i := 665) (by decide +kernel)⟩
def lw_privs_2 : List (MethodName × Nat) := [(⟨"JoinKeeper$Evaluator", "readProduct", "(LJoinKeeper$Text;I)Z"⟩, 5), (⟨"JoinKeeper$Evaluator", "readFactor", "(LJoinKeeper$Text;I)Z"⟩, 5), (⟨"JoinKeeper$Evaluator", "readRestOfBrackets", "(LJoinKeeper$Text;I)Z"⟩, 5), (⟨"JoinKeeper$Evaluator", "readRestOfNegative", "(LJoinKeeper$Text;I)Z"⟩, 5), (⟨"JoinKeeper$Polynomial", "hasLargeTerms", "()Z"⟩, 1), (⟨"JoinKeeper", "isAskable", "(I)Z"⟩, 5), (⟨"JoinKeeper$Question", "sumOfPowers", "(LJoinKeeper$Rows;II)J"⟩, 9), (⟨"JoinKeeper$Question", "share", "(IIII)J"⟩, 9), (⟨"JoinKeeperModel", "read", "()I"⟩, 27), (⟨"JoinKeeperModel", "readChain", "()I"⟩, 27), (⟨"JoinKeeperModel", "at", "(I)I"⟩, 27), (⟨"JoinKeeperModel", "readExpression", "(I)I"⟩, 27), (⟨"JoinKeeperModel", "begin", "(I)V"⟩, 27), (⟨"JoinKeeperModel", "has", "(I)Z"⟩, 27), (⟨"JoinKeeperModel", "simple", "(I)V"⟩, 27), (⟨"JoinKeeperModel", "endFactor", "(I)V"⟩, 27)]
theorem lw_r2 : ∀ q ∈ lw_privs_2, lw_okq q := List.forall_mem_cons.mpr ⟨lw_p16, List.forall_mem_cons.mpr ⟨lw_p17, List.forall_mem_cons.mpr ⟨lw_p18, List.forall_mem_cons.mpr ⟨lw_p19, List.forall_mem_cons.mpr ⟨lw_p20, List.forall_mem_cons.mpr ⟨lw_p21, List.forall_mem_cons.mpr ⟨lw_p22, List.forall_mem_cons.mpr ⟨lw_p23, List.forall_mem_cons.mpr ⟨lw_p24, List.forall_mem_cons.mpr ⟨lw_p25, List.forall_mem_cons.mpr ⟨lw_p26, List.forall_mem_cons.mpr ⟨lw_p27, List.forall_mem_cons.mpr ⟨lw_p28, List.forall_mem_cons.mpr ⟨lw_p29, List.forall_mem_cons.mpr ⟨lw_p30, List.forall_mem_cons.mpr ⟨lw_p31, fun _ h => absurd h List.not_mem_nil⟩⟩⟩⟩⟩⟩⟩⟩⟩⟩⟩⟩⟩⟩⟩⟩
theorem lw_p32 : lw_okq (⟨"JoinKeeperModel", "multiply", "(I)V"⟩, 27) := ⟨⟨by decide +kernel, by decide +kernel⟩, List.mem_of_getElem? (i := 516) (by decide +kernel), List.mem_of_getElem? (i := 668) (by decide +kernel), List.mem_of_getElem? (i := 669) (by decide +kernel)⟩
theorem lw_p33 : lw_okq (⟨"JoinKeeperModel", "look", "(ZI)V"⟩, 27) := ⟨⟨by decide +kernel, by decide +kernel⟩, List.mem_of_getElem? (i := 516) (by decide +kernel), List.mem_of_getElem? (i := 675) (by decide +kernel), List.mem_of_getElem? (i := 676) (by decide +kernel)⟩
theorem lw_p34 : lw_okq (⟨"JoinKeeperModel", "endTerm", "(I)V"⟩, 27) := ⟨⟨by decide +kernel, by decide +kernel⟩, List.mem_of_getElem? (i := 516) (by decide +kernel), List.mem_of_getElem? (i := 679) (by decide +kernel), List.mem_of_getElem? (i := 680) (by decide +kernel)⟩
theorem lw_p35 : lw_okq (⟨"JoinKeeperModel", "readConditions", "(I)I"⟩, 27) := ⟨⟨by decide +kernel, by decide +kernel⟩, List.mem_of_getElem? (i := 516) (by decide +kernel), List.mem_of_getElem? (i := 683) (by decide +kernel), List.mem_of_getElem? (i := 684) (by decide +kernel)⟩
theorem lw_p36 : lw_okq (⟨"JoinKeeperModel", "shorter", "(I)I"⟩, 27) := ⟨⟨by decide +kernel, by decide +kernel⟩, List.mem_of_getElem? (i := 516) (by decide +kernel), List.mem_of_getElem? (i := 687) (by decide +kernel), List.mem_of_getElem? (i := 688) (by decide +kernel)⟩
theorem lw_p37 : lw_okq (⟨"JoinKeeperModel", "collect", "(IIZ)J"⟩, 27) := ⟨⟨by decide +kernel, by decide +kernel⟩, List.mem_of_getElem? (i := 516) (by decide +kernel), List.mem_of_getElem? (i := 704) (by decide +kernel), List.mem_of_getElem? (i := 705) (by decide +kernel)⟩
theorem lw_p38 : lw_okq (⟨"JoinKeeperModel", "meets", "(II)Z"⟩, 27) := ⟨⟨by decide +kernel, by decide +kernel⟩, List.mem_of_getElem? (i := 516) (by decide +kernel), List.mem_of_getElem? (i := 711) (by decide +kernel), List.mem_of_getElem? (i := 712) (by decide +kernel)⟩
theorem lw_p39 : lw_okq (⟨"JoinKeeperModel", "weight", "(II)J"⟩, 27) := ⟨⟨by decide +kernel, by decide +kernel⟩, List.mem_of_getElem? (i := 516) (by decide +kernel), List.mem_of_getElem? (i := 715) (by decide +kernel), List.mem_of_getElem? (i := 716) (by decide +kernel)⟩
theorem lw_p40 : lw_okq (⟨"JoinKeeperModel", "value", "(II)J"⟩, 27) := ⟨⟨by decide +kernel, by decide +kernel⟩, List.mem_of_getElem? (i := 516) (by decide +kernel), List.mem_of_getElem? (i := 719) (by decide +kernel), List.mem_of_getElem? (i := 720) (by decide +kernel)⟩
def lw_privs_3 : List (MethodName × Nat) := [(⟨"JoinKeeperModel", "multiply", "(I)V"⟩, 27), (⟨"JoinKeeperModel", "look", "(ZI)V"⟩, 27), (⟨"JoinKeeperModel", "endTerm", "(I)V"⟩, 27), (⟨"JoinKeeperModel", "readConditions", "(I)I"⟩, 27), (⟨"JoinKeeperModel", "shorter", "(I)I"⟩, 27), (⟨"JoinKeeperModel", "collect", "(IIZ)J"⟩, 27), (⟨"JoinKeeperModel", "meets", "(II)Z"⟩, 27), (⟨"JoinKeeperModel", "weight", "(II)J"⟩, 27), (⟨"JoinKeeperModel", "value", "(II)J"⟩, 27)]
theorem lw_r3 : ∀ q ∈ lw_privs_3, lw_okq q := List.forall_mem_cons.mpr ⟨lw_p32, List.forall_mem_cons.mpr ⟨lw_p33, List.forall_mem_cons.mpr ⟨lw_p34, List.forall_mem_cons.mpr ⟨lw_p35, List.forall_mem_cons.mpr ⟨lw_p36, List.forall_mem_cons.mpr ⟨lw_p37, List.forall_mem_cons.mpr ⟨lw_p38, List.forall_mem_cons.mpr ⟨lw_p39, List.forall_mem_cons.mpr ⟨lw_p40, fun _ h => absurd h List.not_mem_nil⟩⟩⟩⟩⟩⟩⟩⟩⟩
def lw_privs : List (MethodName × Nat) := lw_privs_1 ++ (lw_privs_2 ++ (lw_privs_3))
def lw_tbl : List Cond := k2_sels lw_privs ++ tables_1
theorem lw_privs_ok : ∀ q ∈ lw_privs, lw_okq q := by
  show ∀ q ∈ lw_privs_1 ++ (lw_privs_2 ++ (lw_privs_3)), lw_okq q
  exact List.forall_mem_append.mpr ⟨lw_r1, List.forall_mem_append.mpr ⟨lw_r2, lw_r3⟩⟩
end
section
/-! Names, field tables, words: printed by wip/whole/gen_names.py out of the task. -/
def xBIG : List Cond := lw_tbl.filter goodWord
theorem xgood : ∀ w ∈ xBIG, (w.onTables && w.keeps) = true ∨ ∃ ty, w = .arrayClass ty := fun _ h => good_of_word (List.mem_filter.mp h).2
theorem xmem {i : Nat} {w : Cond} (h : lw_tbl[i]? = some w) (g : goodWord w = true) : w ∈ xBIG := List.mem_filter.mpr ⟨List.mem_of_getElem? h, g⟩
def R_K : String := "JoinKeeper"
def F_K : u_T := fun k => match k with
  | 0 => ("JoinKeeper", "rows", "LJoinKeeper$Rows;", true)
  | 1 => ("JoinKeeper", "text", "LJoinKeeper$Text;", true)
  | 2 => ("JoinKeeper", "grammar", "LJoinKeeper$Grammar;", true)
  | 3 => ("JoinKeeper", "evaluator", "LJoinKeeper$Evaluator;", true)
  | _ => ("JoinKeeper", "questions", "[LJoinKeeper$Question;", true)
def ft_K : Nat → FieldType := fun k => match k with
  | 0 => .object "JoinKeeper$Rows"
  | 1 => .object "JoinKeeper$Text"
  | 2 => .object "JoinKeeper$Grammar"
  | 3 => .object "JoinKeeper$Evaluator"
  | _ => .array (.object "JoinKeeper$Question")
theorem nm_K : ∀ a, a < 5 → ∀ b, b < 5 → a ≠ b → (F_K a).2.1 ≠ (F_K b).2.1 := by decide +kernel
theorem ty_K : ∀ k, k < 5 → parseFieldDescriptor (F_K k).2.2.1 = some (ft_K k) := by decide +kernel
theorem in_K : ∀ w ∈ u_ws R_K F_K 5, w ∈ xBIG := by
  have h : ∀ w ∈ u_ws R_K F_K 5, w ∈ tables_1 ∧ goodWord w = true := by decide +kernel
  exact fun w hw => List.mem_filter.mpr ⟨List.mem_append_right _ (h w hw).1, (h w hw).2⟩
def R_R : String := "JoinKeeper$Rows"
def F_R : u_T := fun k => match k with
  | 0 => ("JoinKeeper$Rows", "counts", "[I", true)
  | 1 => ("JoinKeeper$Rows", "changedPlaces", "[I", true)
  | 2 => ("JoinKeeper$Rows", "changedBy", "[I", true)
  | _ => ("JoinKeeper$Rows", "changes", "I", false)
def ft_R : Nat → FieldType := fun k => match k with
  | 0 => .array .int
  | 1 => .array .int
  | 2 => .array .int
  | _ => .int
theorem nm_R : ∀ a, a < 4 → ∀ b, b < 4 → a ≠ b → (F_R a).2.1 ≠ (F_R b).2.1 := by decide +kernel
theorem ty_R : ∀ k, k < 4 → parseFieldDescriptor (F_R k).2.2.1 = some (ft_R k) := by decide +kernel
theorem in_R : ∀ w ∈ u_ws R_R F_R 4, w ∈ xBIG := by
  have h : ∀ w ∈ u_ws R_R F_R 4, w ∈ tables_1 ∧ goodWord w = true := by decide +kernel
  exact fun w hw => List.mem_filter.mpr ⟨List.mem_append_right _ (h w hw).1, (h w hw).2⟩
def R_T : String := "JoinKeeper$Text"
def F_T : u_T := fun k => match k with
  | 0 => ("JoinKeeper$Text", "signs", "[C", true)
  | _ => ("JoinKeeper$Text", "length", "I", false)
def ft_T : Nat → FieldType := fun k => match k with
  | 0 => .array .char
  | _ => .int
theorem nm_T : ∀ a, a < 2 → ∀ b, b < 2 → a ≠ b → (F_T a).2.1 ≠ (F_T b).2.1 := by decide +kernel
theorem ty_T : ∀ k, k < 2 → parseFieldDescriptor (F_T k).2.2.1 = some (ft_T k) := by decide +kernel
theorem in_T : ∀ w ∈ u_ws R_T F_T 2, w ∈ xBIG := by
  have h : ∀ w ∈ u_ws R_T F_T 2, w ∈ tables_1 ∧ goodWord w = true := by decide +kernel
  exact fun w hw => List.mem_filter.mpr ⟨List.mem_append_right _ (h w hw).1, (h w hw).2⟩
def R_G : String := "JoinKeeper$Grammar"
def F_G : u_T := fun k => match k with
  | 0 => ("JoinKeeper$Grammar", "step", "I", false)
  | 1 => ("JoinKeeper$Grammar", "firstRelation", "I", false)
  | 2 => ("JoinKeeper$Grammar", "lastRelation", "I", false)
  | 3 => ("JoinKeeper$Grammar", "open", "I", false)
  | 4 => ("JoinKeeper$Grammar", "openBits", "I", false)
  | 5 => ("JoinKeeper$Grammar", "conditionColumn", "I", false)
  | 6 => ("JoinKeeper$Grammar", "conditionKind", "C", false)
  | 7 => ("JoinKeeper$Grammar", "conditions", "I", false)
  | 8 => ("JoinKeeper$Grammar", "allowed", "[I", true)
  | _ => ("JoinKeeper$Grammar", "groupColumn", "I", false)
def ft_G : Nat → FieldType := fun k => match k with
  | 0 => .int
  | 1 => .int
  | 2 => .int
  | 3 => .int
  | 4 => .int
  | 5 => .int
  | 6 => .char
  | 7 => .int
  | 8 => .array .int
  | _ => .int
theorem nm_G : ∀ a, a < 10 → ∀ b, b < 10 → a ≠ b → (F_G a).2.1 ≠ (F_G b).2.1 := by decide +kernel
theorem ty_G : ∀ k, k < 10 → parseFieldDescriptor (F_G k).2.2.1 = some (ft_G k) := by decide +kernel
theorem in_G : ∀ w ∈ u_ws R_G F_G 10, w ∈ xBIG := by
  have h : ∀ w ∈ u_ws R_G F_G 10, w ∈ tables_1 ∧ goodWord w = true := by decide +kernel
  exact fun w hw => List.mem_filter.mpr ⟨List.mem_append_right _ (h w hw).1, (h w hw).2⟩
def R_E : String := "JoinKeeper$Evaluator"
def F_E : u_T := fun k => match k with
  | 0 => ("JoinKeeper$Evaluator", "sums", "[LJoinKeeper$Polynomial;", true)
  | 1 => ("JoinKeeper$Evaluator", "products", "[LJoinKeeper$Polynomial;", true)
  | 2 => ("JoinKeeper$Evaluator", "factors", "[LJoinKeeper$Polynomial;", true)
  | 3 => ("JoinKeeper$Evaluator", "spare", "LJoinKeeper$Polynomial;", true)
  | _ => ("JoinKeeper$Evaluator", "place", "I", false)
def ft_E : Nat → FieldType := fun k => match k with
  | 0 => .array (.object "JoinKeeper$Polynomial")
  | 1 => .array (.object "JoinKeeper$Polynomial")
  | 2 => .array (.object "JoinKeeper$Polynomial")
  | 3 => .object "JoinKeeper$Polynomial"
  | _ => .int
theorem nm_E : ∀ a, a < 5 → ∀ b, b < 5 → a ≠ b → (F_E a).2.1 ≠ (F_E b).2.1 := by decide +kernel
theorem ty_E : ∀ k, k < 5 → parseFieldDescriptor (F_E k).2.2.1 = some (ft_E k) := by decide +kernel
theorem in_E : ∀ w ∈ u_ws R_E F_E 5, w ∈ xBIG := by
  have h : ∀ w ∈ u_ws R_E F_E 5, w ∈ tables_1 ∧ goodWord w = true := by decide +kernel
  exact fun w hw => List.mem_filter.mpr ⟨List.mem_append_right _ (h w hw).1, (h w hw).2⟩
def R_P : String := "JoinKeeper$Polynomial"
def F_P : u_T := fun k => match k with
  | _ => ("JoinKeeper$Polynomial", "coefficients", "[I", true)
def ft_P : Nat → FieldType := fun k => match k with
  | _ => .array .int
theorem nm_P : ∀ a, a < 1 → ∀ b, b < 1 → a ≠ b → (F_P a).2.1 ≠ (F_P b).2.1 := by decide +kernel
theorem ty_P : ∀ k, k < 1 → parseFieldDescriptor (F_P k).2.2.1 = some (ft_P k) := by decide +kernel
theorem in_P : ∀ w ∈ u_ws R_P F_P 1, w ∈ xBIG := by
  have h : ∀ w ∈ u_ws R_P F_P 1, w ∈ tables_1 ∧ goodWord w = true := by decide +kernel
  exact fun w hw => List.mem_filter.mpr ⟨List.mem_append_right _ (h w hw).1, (h w hw).2⟩
def R_Q : String := "JoinKeeper$Question"
def F_Q : u_T := fun k => match k with
  | 0 => ("JoinKeeper$Question", "there", "Z", false)
  | 1 => ("JoinKeeper$Question", "firstRelation", "I", false)
  | 2 => ("JoinKeeper$Question", "lastRelation", "I", false)
  | 3 => ("JoinKeeper$Question", "groupColumn", "I", false)
  | 4 => ("JoinKeeper$Question", "conditions", "I", false)
  | 5 => ("JoinKeeper$Question", "allowed", "[I", true)
  | 6 => ("JoinKeeper$Question", "polynomial", "LJoinKeeper$Polynomial;", true)
  | 7 => ("JoinKeeper$Question", "oneColumn", "[J", true)
  | _ => ("JoinKeeper$Question", "otherColumn", "[J", true)
def ft_Q : Nat → FieldType := fun k => match k with
  | 0 => .boolean
  | 1 => .int
  | 2 => .int
  | 3 => .int
  | 4 => .int
  | 5 => .array .int
  | 6 => .object "JoinKeeper$Polynomial"
  | 7 => .array .long
  | _ => .array .long
theorem nm_Q : ∀ a, a < 9 → ∀ b, b < 9 → a ≠ b → (F_Q a).2.1 ≠ (F_Q b).2.1 := by decide +kernel
theorem ty_Q : ∀ k, k < 9 → parseFieldDescriptor (F_Q k).2.2.1 = some (ft_Q k) := by decide +kernel
theorem in_Q : ∀ w ∈ u_ws R_Q F_Q 9, w ∈ xBIG := by
  have h : ∀ w ∈ u_ws R_Q F_Q 9, w ∈ tables_1 ∧ goodWord w = true := by decide +kernel
  exact fun w hw => List.mem_filter.mpr ⟨List.mem_append_right _ (h w hw).1, (h w hw).2⟩
def R_M : String := "JoinKeeperModel"
def F_M : u_T := fun k => match k with
  | 0 => ("JoinKeeperModel", "counts", "[I", true)
  | 1 => ("JoinKeeperModel", "row", "[I", true)
  | 2 => ("JoinKeeperModel", "by", "[I", true)
  | 3 => ("JoinKeeperModel", "changes", "I", false)
  | 4 => ("JoinKeeperModel", "text", "[I", true)
  | 5 => ("JoinKeeperModel", "length", "I", false)
  | 6 => ("JoinKeeperModel", "chain", "I", false)
  | 7 => ("JoinKeeperModel", "column", "[I", true)
  | 8 => ("JoinKeeperModel", "relation", "[I", true)
  | 9 => ("JoinKeeperModel", "digit", "[I", true)
  | 10 => ("JoinKeeperModel", "conditions", "I", false)
  | 11 => ("JoinKeeperModel", "grouping", "I", false)
  | 12 => ("JoinKeeperModel", "there", "[Z", true)
  | 13 => ("JoinKeeperModel", "terms", "[I", true)
  | 14 => ("JoinKeeperModel", "chainOf", "[I", true)
  | 15 => ("JoinKeeperModel", "groupOf", "[I", true)
  | 16 => ("JoinKeeperModel", "conditionsOf", "[I", true)
  | 17 => ("JoinKeeperModel", "conditionOf", "[I", true)
  | 18 => ("JoinKeeperModel", "poly", "[I", true)
  | 19 => ("JoinKeeperModel", "sum", "[I", true)
  | 20 => ("JoinKeeperModel", "term", "[I", true)
  | 21 => ("JoinKeeperModel", "began", "[Z", true)
  | 22 => ("JoinKeeperModel", "sign", "[I", true)
  | 23 => ("JoinKeeperModel", "minus", "[I", true)
  | 24 => ("JoinKeeperModel", "factor", "[I", true)
  | 25 => ("JoinKeeperModel", "product", "[I", true)
  | _ => ("JoinKeeperModel", "large", "Z", false)
def ft_M : Nat → FieldType := fun k => match k with
  | 0 => .array .int
  | 1 => .array .int
  | 2 => .array .int
  | 3 => .int
  | 4 => .array .int
  | 5 => .int
  | 6 => .int
  | 7 => .array .int
  | 8 => .array .int
  | 9 => .array .int
  | 10 => .int
  | 11 => .int
  | 12 => .array .boolean
  | 13 => .array .int
  | 14 => .array .int
  | 15 => .array .int
  | 16 => .array .int
  | 17 => .array .int
  | 18 => .array .int
  | 19 => .array .int
  | 20 => .array .int
  | 21 => .array .boolean
  | 22 => .array .int
  | 23 => .array .int
  | 24 => .array .int
  | 25 => .array .int
  | _ => .boolean
theorem nm_M : ∀ a, a < 27 → ∀ b, b < 27 → a ≠ b → (F_M a).2.1 ≠ (F_M b).2.1 := by decide +kernel
theorem ty_M : ∀ k, k < 27 → parseFieldDescriptor (F_M k).2.2.1 = some (ft_M k) := by decide +kernel
theorem in_M : ∀ w ∈ u_ws R_M F_M 27, w ∈ xBIG := by
  have h : ∀ w ∈ u_ws R_M F_M 27, w ∈ tables_1 ∧ goodWord w = true := by decide +kernel
  exact fun w hw => List.mem_filter.mpr ⟨List.mem_append_right _ (h w hw).1, (h w hw).2⟩
abbrev xcl : List vw_C := [(R_K, F_K, 5), (R_R, F_R, 4), (R_T, F_T, 2), (R_G, F_G, 10), (R_E, F_E, 5), (R_P, F_P, 1), (R_Q, F_Q, 9), (R_M, F_M, 27)]
/-- array types: tag to type -/
abbrev xtl : List FieldType := [.int, .char, .long, .boolean, .object "JoinKeeper$Polynomial", .object "JoinKeeper$Question"]
abbrev xS : Type := String × String × String × FieldType × Nat × (Nat → Value)
abbrev xsl : List xS := [("JoinKeeper$Polynomial", "COLUMN_PLACES", "[I", .int, 4, fun j => .int (match j with | 0 => 1 | 1 => 3 | 2 => 9 | _ => 27))]
abbrev b_K_init : ByteArray := prog_1_method_1_code
def y_K_init : MethodName := ⟨"JoinKeeper", "<init>", "()V"⟩
abbrev b_R_init : ByteArray := prog_6_method_1_code
def y_R_init : MethodName := ⟨"JoinKeeper$Rows", "<init>", "()V"⟩
abbrev b_T_init : ByteArray := prog_7_method_1_code
def y_T_init : MethodName := ⟨"JoinKeeper$Text", "<init>", "()V"⟩
abbrev b_G_init : ByteArray := prog_3_method_1_code
def y_G_init : MethodName := ⟨"JoinKeeper$Grammar", "<init>", "()V"⟩
abbrev b_E_init : ByteArray := prog_2_method_1_code
def y_E_init : MethodName := ⟨"JoinKeeper$Evaluator", "<init>", "()V"⟩
abbrev b_P_init : ByteArray := prog_4_method_1_code
def y_P_init : MethodName := ⟨"JoinKeeper$Polynomial", "<init>", "()V"⟩
abbrev b_Q_init : ByteArray := prog_5_method_1_code
def y_Q_init : MethodName := ⟨"JoinKeeper$Question", "<init>", "()V"⟩
abbrev b_K_change : ByteArray := prog_1_method_2_code
def y_K_change : MethodName := ⟨"JoinKeeper", "change", "(IIII)I"⟩
abbrev b_K_isRow : ByteArray := prog_1_method_14_code
def y_K_isRow : MethodName := ⟨"JoinKeeper", "isRow", "(III)Z"⟩
abbrev b_K_isValue : ByteArray := prog_1_method_15_code
def y_K_isValue : MethodName := ⟨"JoinKeeper", "isValue", "(I)Z"⟩
abbrev b_R_placeOf : ByteArray := prog_6_method_2_code
def y_R_placeOf : MethodName := ⟨"JoinKeeper$Rows", "placeOf", "(III)I"⟩
abbrev b_R_raise : ByteArray := prog_6_method_4_code
def y_R_raise : MethodName := ⟨"JoinKeeper$Rows", "raise", "(II)Z"⟩
abbrev b_K_back : ByteArray := prog_1_method_3_code
def y_K_back : MethodName := ⟨"JoinKeeper", "back", "()I"⟩
abbrev b_R_takeBack : ByteArray := prog_6_method_5_code
def y_R_takeBack : MethodName := ⟨"JoinKeeper$Rows", "takeBack", "()Z"⟩
abbrev b_R_changesLeft : ByteArray := prog_6_method_6_code
def y_R_changesLeft : MethodName := ⟨"JoinKeeper$Rows", "changesLeft", "()I"⟩
abbrev b_K_sign : ByteArray := prog_1_method_4_code
def y_K_sign : MethodName := ⟨"JoinKeeper", "sign", "(I)I"⟩
abbrev b_T_append : ByteArray := prog_7_method_2_code
def y_T_append : MethodName := ⟨"JoinKeeper$Text", "append", "(C)Z"⟩
abbrev b_T_length : ByteArray := prog_7_method_4_code
def y_T_length : MethodName := ⟨"JoinKeeper$Text", "length", "()I"⟩
abbrev b_K_clear : ByteArray := prog_1_method_5_code
def y_K_clear : MethodName := ⟨"JoinKeeper", "clear", "()I"⟩
abbrev b_T_empty : ByteArray := prog_7_method_3_code
def y_T_empty : MethodName := ⟨"JoinKeeper$Text", "empty", "()V"⟩
abbrev b_K_define : ByteArray := prog_1_method_6_code
def y_K_define : MethodName := ⟨"JoinKeeper", "define", "(I)I"⟩
abbrev b_K_isQuestion : ByteArray := prog_1_method_16_code
def y_K_isQuestion : MethodName := ⟨"JoinKeeper", "isQuestion", "(I)Z"⟩
abbrev b_G_faultIn : ByteArray := prog_3_method_2_code
def y_G_faultIn : MethodName := ⟨"JoinKeeper$Grammar", "faultIn", "(LJoinKeeper$Text;)I"⟩
abbrev b_G_restart : ByteArray := prog_3_method_9_code
def y_G_restart : MethodName := ⟨"JoinKeeper$Grammar", "restart", "()V"⟩
abbrev b_A_fill : ByteArray := prog_11_method_103_code
def y_A_fill : MethodName := ⟨"java/util/Arrays", "fill", "([II)V"⟩
abbrev b_T_at : ByteArray := prog_7_method_5_code
def y_T_at : MethodName := ⟨"JoinKeeper$Text", "at", "(I)C"⟩
abbrev b_G_take : ByteArray := prog_3_method_11_code
def y_G_take : MethodName := ⟨"JoinKeeper$Grammar", "take", "(C)Z"⟩
abbrev b_G_takeChainStart : ByteArray := prog_3_method_12_code
def y_G_takeChainStart : MethodName := ⟨"JoinKeeper$Grammar", "takeChainStart", "(C)Z"⟩
abbrev b_T_relationOf : ByteArray := prog_7_method_7_code
def y_T_relationOf : MethodName := ⟨"JoinKeeper$Text", "relationOf", "(C)I"⟩
abbrev b_G_takeChainRest : ByteArray := prog_3_method_13_code
def y_G_takeChainRest : MethodName := ⟨"JoinKeeper$Grammar", "takeChainRest", "(C)Z"⟩
abbrev b_G_takeFactor : ByteArray := prog_3_method_14_code
def y_G_takeFactor : MethodName := ⟨"JoinKeeper$Grammar", "takeFactor", "(C)Z"⟩
abbrev b_G_takeOpening : ByteArray := prog_3_method_15_code
def y_G_takeOpening : MethodName := ⟨"JoinKeeper$Grammar", "takeOpening", "(C)Z"⟩
abbrev b_T_isDigit : ByteArray := prog_7_method_6_code
def y_T_isDigit : MethodName := ⟨"JoinKeeper$Text", "isDigit", "(C)Z"⟩
abbrev b_G_isChainColumn : ByteArray := prog_3_method_24_code
def y_G_isChainColumn : MethodName := ⟨"JoinKeeper$Grammar", "isChainColumn", "(C)Z"⟩
abbrev b_T_columnOf : ByteArray := prog_7_method_8_code
def y_T_columnOf : MethodName := ⟨"JoinKeeper$Text", "columnOf", "(C)I"⟩
abbrev b_G_endFactor : ByteArray := prog_3_method_17_code
def y_G_endFactor : MethodName := ⟨"JoinKeeper$Grammar", "endFactor", "()V"⟩
abbrev b_G_takeAfterFactor : ByteArray := prog_3_method_16_code
def y_G_takeAfterFactor : MethodName := ⟨"JoinKeeper$Grammar", "takeAfterFactor", "(C)Z"⟩
abbrev b_G_takeTail : ByteArray := prog_3_method_18_code
def y_G_takeTail : MethodName := ⟨"JoinKeeper$Grammar", "takeTail", "(C)Z"⟩
abbrev b_G_takeConditionColumn : ByteArray := prog_3_method_19_code
def y_G_takeConditionColumn : MethodName := ⟨"JoinKeeper$Grammar", "takeConditionColumn", "(C)Z"⟩
abbrev b_G_takeConditionKind : ByteArray := prog_3_method_20_code
def y_G_takeConditionKind : MethodName := ⟨"JoinKeeper$Grammar", "takeConditionKind", "(C)Z"⟩
abbrev b_G_takeConditionDigit : ByteArray := prog_3_method_21_code
def y_G_takeConditionDigit : MethodName := ⟨"JoinKeeper$Grammar", "takeConditionDigit", "(C)Z"⟩
abbrev b_G_meets : ByteArray := prog_3_method_22_code
def y_G_meets : MethodName := ⟨"JoinKeeper$Grammar", "meets", "(ICI)Z"⟩
abbrev b_G_takeGroupColumn : ByteArray := prog_3_method_23_code
def y_G_takeGroupColumn : MethodName := ⟨"JoinKeeper$Grammar", "takeGroupColumn", "(C)Z"⟩
abbrev b_G_isWhole : ByteArray := prog_3_method_10_code
def y_G_isWhole : MethodName := ⟨"JoinKeeper$Grammar", "isWhole", "()Z"⟩
abbrev b_G_expressionStart : ByteArray := prog_3_method_5_code
def y_G_expressionStart : MethodName := ⟨"JoinKeeper$Grammar", "expressionStart", "()I"⟩
abbrev b_E_evaluate : ByteArray := prog_2_method_2_code
def y_E_evaluate : MethodName := ⟨"JoinKeeper$Evaluator", "evaluate", "(LJoinKeeper$Text;I)Z"⟩
abbrev b_E_readSum : ByteArray := prog_2_method_4_code
def y_E_readSum : MethodName := ⟨"JoinKeeper$Evaluator", "readSum", "(LJoinKeeper$Text;I)Z"⟩
abbrev b_P_becomeNumber : ByteArray := prog_4_method_5_code
def y_P_becomeNumber : MethodName := ⟨"JoinKeeper$Polynomial", "becomeNumber", "(I)V"⟩
abbrev b_E_readProduct : ByteArray := prog_2_method_5_code
def y_E_readProduct : MethodName := ⟨"JoinKeeper$Evaluator", "readProduct", "(LJoinKeeper$Text;I)Z"⟩
abbrev b_E_readFactor : ByteArray := prog_2_method_6_code
def y_E_readFactor : MethodName := ⟨"JoinKeeper$Evaluator", "readFactor", "(LJoinKeeper$Text;I)Z"⟩
abbrev b_E_readRestOfBrackets : ByteArray := prog_2_method_7_code
def y_E_readRestOfBrackets : MethodName := ⟨"JoinKeeper$Evaluator", "readRestOfBrackets", "(LJoinKeeper$Text;I)Z"⟩
abbrev b_P_becomeCopy : ByteArray := prog_4_method_7_code
def y_P_becomeCopy : MethodName := ⟨"JoinKeeper$Polynomial", "becomeCopy", "(LJoinKeeper$Polynomial;)V"⟩
abbrev b_E_readRestOfNegative : ByteArray := prog_2_method_8_code
def y_E_readRestOfNegative : MethodName := ⟨"JoinKeeper$Evaluator", "readRestOfNegative", "(LJoinKeeper$Text;I)Z"⟩
abbrev b_P_becomeNegative : ByteArray := prog_4_method_8_code
def y_P_becomeNegative : MethodName := ⟨"JoinKeeper$Polynomial", "becomeNegative", "(LJoinKeeper$Polynomial;)V"⟩
abbrev b_P_becomeColumn : ByteArray := prog_4_method_6_code
def y_P_becomeColumn : MethodName := ⟨"JoinKeeper$Polynomial", "becomeColumn", "(I)V"⟩
abbrev b_P_becomeProduct : ByteArray := prog_4_method_10_code
def y_P_becomeProduct : MethodName := ⟨"JoinKeeper$Polynomial", "becomeProduct", "(LJoinKeeper$Polynomial;LJoinKeeper$Polynomial;)Z"⟩
abbrev b_P_powersFit : ByteArray := prog_4_method_11_code
def y_P_powersFit : MethodName := ⟨"JoinKeeper$Polynomial", "powersFit", "(II)Z"⟩
abbrev b_P_powerAt : ByteArray := prog_4_method_2_code
def y_P_powerAt : MethodName := ⟨"JoinKeeper$Polynomial", "powerAt", "(II)I"⟩
abbrev b_P_hasLargeTerms : ByteArray := prog_4_method_12_code
def y_P_hasLargeTerms : MethodName := ⟨"JoinKeeper$Polynomial", "hasLargeTerms", "()Z"⟩
abbrev b_P_terms : ByteArray := prog_4_method_4_code
def y_P_terms : MethodName := ⟨"JoinKeeper$Polynomial", "terms", "()I"⟩
abbrev b_P_add : ByteArray := prog_4_method_9_code
def y_P_add : MethodName := ⟨"JoinKeeper$Polynomial", "add", "(LJoinKeeper$Polynomial;I)Z"⟩
abbrev b_E_result : ByteArray := prog_2_method_3_code
def y_E_result : MethodName := ⟨"JoinKeeper$Evaluator", "result", "()LJoinKeeper$Polynomial;"⟩
abbrev b_Q_become : ByteArray := prog_5_method_2_code
def y_Q_become : MethodName := ⟨"JoinKeeper$Question", "become", "(LJoinKeeper$Grammar;LJoinKeeper$Polynomial;)V"⟩
abbrev b_G_firstRelation : ByteArray := prog_3_method_3_code
def y_G_firstRelation : MethodName := ⟨"JoinKeeper$Grammar", "firstRelation", "()I"⟩
abbrev b_G_lastRelation : ByteArray := prog_3_method_4_code
def y_G_lastRelation : MethodName := ⟨"JoinKeeper$Grammar", "lastRelation", "()I"⟩
abbrev b_G_groupColumn : ByteArray := prog_3_method_8_code
def y_G_groupColumn : MethodName := ⟨"JoinKeeper$Grammar", "groupColumn", "()I"⟩
abbrev b_G_conditions : ByteArray := prog_3_method_6_code
def y_G_conditions : MethodName := ⟨"JoinKeeper$Grammar", "conditions", "()I"⟩
abbrev b_G_allowedIn : ByteArray := prog_3_method_7_code
def y_G_allowedIn : MethodName := ⟨"JoinKeeper$Grammar", "allowedIn", "(I)I"⟩
abbrev b_Q_terms : ByteArray := prog_5_method_5_code
def y_Q_terms : MethodName := ⟨"JoinKeeper$Question", "terms", "()I"⟩
abbrev b_K_fault : ByteArray := prog_1_method_7_code
def y_K_fault : MethodName := ⟨"JoinKeeper", "fault", "()I"⟩
abbrev b_K_drop : ByteArray := prog_1_method_8_code
def y_K_drop : MethodName := ⟨"JoinKeeper", "drop", "(I)I"⟩
abbrev b_K_isAskable : ByteArray := prog_1_method_17_code
def y_K_isAskable : MethodName := ⟨"JoinKeeper", "isAskable", "(I)Z"⟩
abbrev b_Q_isThere : ByteArray := prog_5_method_4_code
def y_Q_isThere : MethodName := ⟨"JoinKeeper$Question", "isThere", "()Z"⟩
abbrev b_Q_remove : ByteArray := prog_5_method_3_code
def y_Q_remove : MethodName := ⟨"JoinKeeper$Question", "remove", "()V"⟩
abbrev b_K_answer : ByteArray := prog_1_method_9_code
def y_K_answer : MethodName := ⟨"JoinKeeper", "answer", "(II)J"⟩
abbrev b_Q_answerFor : ByteArray := prog_5_method_9_code
def y_Q_answerFor : MethodName := ⟨"JoinKeeper$Question", "answerFor", "(LJoinKeeper$Rows;I)J"⟩
abbrev b_Q_sumOver : ByteArray := prog_5_method_10_code
def y_Q_sumOver : MethodName := ⟨"JoinKeeper$Question", "sumOver", "(LJoinKeeper$Rows;I)J"⟩
abbrev b_P_at : ByteArray := prog_4_method_3_code
def y_P_at : MethodName := ⟨"JoinKeeper$Polynomial", "at", "(I)I"⟩
abbrev b_Q_sumOfPowers : ByteArray := prog_5_method_11_code
def y_Q_sumOfPowers : MethodName := ⟨"JoinKeeper$Question", "sumOfPowers", "(LJoinKeeper$Rows;II)J"⟩
abbrev b_Q_share : ByteArray := prog_5_method_13_code
def y_Q_share : MethodName := ⟨"JoinKeeper$Question", "share", "(IIII)J"⟩
abbrev b_Q_joined : ByteArray := prog_5_method_12_code
def y_Q_joined : MethodName := ⟨"JoinKeeper$Question", "joined", "(LJoinKeeper$Rows;I[JI)J"⟩
abbrev b_R_at : ByteArray := prog_6_method_3_code
def y_R_at : MethodName := ⟨"JoinKeeper$Rows", "at", "(I)I"⟩
abbrev b_K_total : ByteArray := prog_1_method_10_code
def y_K_total : MethodName := ⟨"JoinKeeper", "total", "(I)J"⟩
abbrev b_K_count : ByteArray := prog_1_method_11_code
def y_K_count : MethodName := ⟨"JoinKeeper", "count", "(III)J"⟩
abbrev b_K_question : ByteArray := prog_1_method_12_code
def y_K_question : MethodName := ⟨"JoinKeeper", "question", "(II)I"⟩
abbrev b_Q_chain : ByteArray := prog_5_method_6_code
def y_Q_chain : MethodName := ⟨"JoinKeeper$Question", "chain", "()I"⟩
abbrev b_Q_groupColumn : ByteArray := prog_5_method_7_code
def y_Q_groupColumn : MethodName := ⟨"JoinKeeper$Question", "groupColumn", "()I"⟩
abbrev b_Q_conditions : ByteArray := prog_5_method_8_code
def y_Q_conditions : MethodName := ⟨"JoinKeeper$Question", "conditions", "()I"⟩
abbrev b_K_state : ByteArray := prog_1_method_13_code
def y_K_state : MethodName := ⟨"JoinKeeper", "state", "(I)I"⟩
abbrev b_R_filled : ByteArray := prog_6_method_7_code
def y_R_filled : MethodName := ⟨"JoinKeeper$Rows", "filled", "()I"⟩
abbrev b_M_init : ByteArray := prog_9_method_1_code
def y_M_init : MethodName := ⟨"JoinKeeperModel", "<init>", "()V"⟩
abbrev b_M_change : ByteArray := prog_9_method_19_code
def y_M_change : MethodName := ⟨"JoinKeeperModel", "change", "(IIII)I"⟩
abbrev b_M_cell : ByteArray := prog_9_method_18_code
def y_M_cell : MethodName := ⟨"JoinKeeperModel", "cell", "(III)I"⟩
abbrev b_M_in : ByteArray := prog_9_method_2_code
def y_M_in : MethodName := ⟨"JoinKeeperModel", "in", "(II)Z"⟩
abbrev b_M_back : ByteArray := prog_9_method_20_code
def y_M_back : MethodName := ⟨"JoinKeeperModel", "back", "()I"⟩
abbrev b_M_sign : ByteArray := prog_9_method_21_code
def y_M_sign : MethodName := ⟨"JoinKeeperModel", "sign", "(I)I"⟩
abbrev b_M_clear : ByteArray := prog_9_method_22_code
def y_M_clear : MethodName := ⟨"JoinKeeperModel", "clear", "()I"⟩
abbrev b_M_fault : ByteArray := prog_9_method_23_code
def y_M_fault : MethodName := ⟨"JoinKeeperModel", "fault", "()I"⟩
abbrev b_M_read : ByteArray := prog_9_method_17_code
def y_M_read : MethodName := ⟨"JoinKeeperModel", "read", "()I"⟩
abbrev b_M_readChain : ByteArray := prog_9_method_13_code
def y_M_readChain : MethodName := ⟨"JoinKeeperModel", "readChain", "()I"⟩
abbrev b_M_at : ByteArray := prog_9_method_5_code
def y_M_at : MethodName := ⟨"JoinKeeperModel", "at", "(I)I"⟩
abbrev b_M_readExpression : ByteArray := prog_9_method_14_code
def y_M_readExpression : MethodName := ⟨"JoinKeeperModel", "readExpression", "(I)I"⟩
abbrev b_M_begin : ByteArray := prog_9_method_8_code
def y_M_begin : MethodName := ⟨"JoinKeeperModel", "begin", "(I)V"⟩
abbrev b_M_has : ByteArray := prog_9_method_4_code
def y_M_has : MethodName := ⟨"JoinKeeperModel", "has", "(I)Z"⟩
abbrev b_M_letter : ByteArray := prog_9_method_3_code
def y_M_letter : MethodName := ⟨"JoinKeeperModel", "letter", "(I)I"⟩
abbrev b_M_simple : ByteArray := prog_9_method_12_code
def y_M_simple : MethodName := ⟨"JoinKeeperModel", "simple", "(I)V"⟩
abbrev b_M_endFactor : ByteArray := prog_9_method_10_code
def y_M_endFactor : MethodName := ⟨"JoinKeeperModel", "endFactor", "(I)V"⟩
abbrev b_M_multiply : ByteArray := prog_9_method_9_code
def y_M_multiply : MethodName := ⟨"JoinKeeperModel", "multiply", "(I)V"⟩
abbrev b_M_wide : ByteArray := prog_9_method_7_code
def y_M_wide : MethodName := ⟨"JoinKeeperModel", "wide", "(I)I"⟩
abbrev b_M_look : ByteArray := prog_9_method_6_code
def y_M_look : MethodName := ⟨"JoinKeeperModel", "look", "(ZI)V"⟩
abbrev b_M_endTerm : ByteArray := prog_9_method_11_code
def y_M_endTerm : MethodName := ⟨"JoinKeeperModel", "endTerm", "(I)V"⟩
abbrev b_M_readConditions : ByteArray := prog_9_method_15_code
def y_M_readConditions : MethodName := ⟨"JoinKeeperModel", "readConditions", "(I)I"⟩
abbrev b_M_shorter : ByteArray := prog_9_method_16_code
def y_M_shorter : MethodName := ⟨"JoinKeeperModel", "shorter", "(I)I"⟩
abbrev b_M_define : ByteArray := prog_9_method_24_code
def y_M_define : MethodName := ⟨"JoinKeeperModel", "define", "(I)I"⟩
abbrev b_M_drop : ByteArray := prog_9_method_25_code
def y_M_drop : MethodName := ⟨"JoinKeeperModel", "drop", "(I)I"⟩
abbrev b_M_answer : ByteArray := prog_9_method_32_code
def y_M_answer : MethodName := ⟨"JoinKeeperModel", "answer", "(II)J"⟩
abbrev b_M_collect : ByteArray := prog_9_method_31_code
def y_M_collect : MethodName := ⟨"JoinKeeperModel", "collect", "(IIZ)J"⟩
abbrev b_M_of : ByteArray := prog_9_method_26_code
def y_M_of : MethodName := ⟨"JoinKeeperModel", "of", "(II)I"⟩
abbrev b_M_meets : ByteArray := prog_9_method_27_code
def y_M_meets : MethodName := ⟨"JoinKeeperModel", "meets", "(II)Z"⟩
abbrev b_M_weight : ByteArray := prog_9_method_28_code
def y_M_weight : MethodName := ⟨"JoinKeeperModel", "weight", "(II)J"⟩
abbrev b_M_value : ByteArray := prog_9_method_30_code
def y_M_value : MethodName := ⟨"JoinKeeperModel", "value", "(II)J"⟩
abbrev b_M_power : ByteArray := prog_9_method_29_code
def y_M_power : MethodName := ⟨"JoinKeeperModel", "power", "(II)I"⟩
abbrev b_M_total : ByteArray := prog_9_method_33_code
def y_M_total : MethodName := ⟨"JoinKeeperModel", "total", "(I)J"⟩
abbrev b_M_count : ByteArray := prog_9_method_34_code
def y_M_count : MethodName := ⟨"JoinKeeperModel", "count", "(III)J"⟩
abbrev b_M_question : ByteArray := prog_9_method_35_code
def y_M_question : MethodName := ⟨"JoinKeeperModel", "question", "(II)I"⟩
abbrev b_M_state : ByteArray := prog_9_method_36_code
def y_M_state : MethodName := ⟨"JoinKeeperModel", "state", "(I)I"⟩
abbrev xml : List (String × Nat × MethodName × String) := [("JoinKeeper", 9, y_R_init, "JoinKeeper"), ("JoinKeeper", 18, y_T_init, "JoinKeeper"), ("JoinKeeper", 25, y_G_init, "JoinKeeper"), ("JoinKeeper$Evaluator", 23, y_P_init, "JoinKeeper"), ("JoinKeeper", 43, y_Q_init, "JoinKeeper"), ("JoinKeeper$Question", 17, y_P_init, "JoinKeeper")]
abbrev xao : List String := ["JoinKeeper$Polynomial", "JoinKeeper$Question"]
end
section
/-! X: the machine over NAMED cells. A cell's name is a number below N; values, locals, stack and cells speak of names; xi gives the address. -/
abbrev xE : Type := (Nat × vp_A) ⊕ (Nat × List Value)
abbrev xHp : Type := Nat → xE
/-- what is fixed for a run: classes' numbers and slots, array classes, the first address, the special addresses, the heap at the start -/
abbrev xO : Type := va_G × (Nat → ClassId) × Nat × (Nat → Nat) × Heap
def xi (Ω : xO) (k : Nat) : Nat := if k < 1000000 then Ω.2.2.1 + k else Ω.2.2.2.1 (k - 1000000)
def xv (Ω : xO) : Value → Value
  | .ref k => .ref (xi Ω k)
  | .int x => .int x
  | .long x => .long x
  | .float x => .float x
  | .double x => .double x
  | .null => .null
  | .retAddr x => .retAddr x
def xa (Ω : xO) (a : vp_A) : vp_A := (a.1, match a.2 with
  | .inl f => .inl f
  | .inr (.inl f) => .inr (.inl f)
  | .inr (.inr (.inl f)) => .inr (.inr (.inl f))
  | .inr (.inr (.inr (.inl f))) => .inr (.inr (.inr (.inl f)))
  | .inr (.inr (.inr (.inr f))) => .inr (.inr (.inr (.inr (fun j => (f j).map (xi Ω))))))
def xc (Ω : xO) : xE → va_E
  | .inl (t, a) => .inl (Ω.2.1 t, xa Ω a)
  | .inr (ci, fs) => .inr (ci, fs.map (xv Ω))
/-- the heap holds the cells h 0 .. h (N-1) from the first address on; what lay below is as at the start -/
def xH (Ω : xO) (N : Nat) (h : xHp) (H : Heap) : Prop :=
  N ≤ 1000000 ∧ H.size = Ω.2.2.1 + N ∧ Ω.2.2.2.2.size = Ω.2.2.1 ∧ (∀ q : Nat, q < Ω.2.2.1 → H[q]? = Ω.2.2.2.2[q]?) ∧ ∀ k : Nat, k < N → va_at Ω.1 xcl (Ω.2.2.1 + k, xc Ω (h k)) H
def xl (Ω : xO) : Nat → List (Option Value) → List (Nat × Value)
  | _, [] => []
  | i, none :: t => xl Ω (i + 1) t
  | i, some v :: t => (i, xv Ω v) :: xl Ω (i + 1) t
def xtys (tc : Nat → ClassId) : List (ClassId × FieldType) := xtl.mapIdx (fun t ty => (tc t, ty))
/-- static tables that nobody writes -/
def xst (Ω : xO) (U : State) : Prop := (∀ (i : Nat) (q : xS), xsl[i]? = some q →
  va_Z q.1 q.2.1 q.2.2.1 (.ref (Ω.2.2.2.1 (i + 1))) (fun a => Ω.2.2.1 ≤ a) U Ω.2.2.2.2 ∧ va_T q.2.2.2.1 (Ω.2.2.2.1 (i + 1)) q.2.2.2.2.1 q.2.2.2.2.2 (fun a => Ω.2.2.1 ≤ a) U Ω.2.2.2.2) ∧ (∀ q ∈ xml, va_Nw (.methodLinkNest q.1 q.2.1 q.2.2.1 q.2.2.2) U) ∧ ∀ E ∈ xao, va_AO E U
abbrev xG : Type := Program × Launch × Env × Room × State × MethodId × Array Value × List Frame × Method × Code × xO
def XC (p : Program) (R : Room) (s : State) (m : MethodId) (args : Array Value) (meth : Method) (c : Code) (Ω : xO) (y : MethodName) (cc : ByteArray) (nL : Nat) (ret : Option FieldType) (dd : Nat × Nat × Nat) : Prop :=
  p.tables.exec = Jvm.exec ∧ c.code = cc ∧ c.maxLocals = nL ∧ s.vm.findClass y.cls = some m.cls ∧ (∀ w ∈ xBIG, w.before args s = true) ∧ va_K Ω.1 xcl (xtys Ω.2.1) s ∧ xst Ω s ∧ meth.locks = false ∧ meth.sig.returnType = ret ∧ meth.name = y.name ∧ dd.1 ≤ R.frames ∧ 48 * dd.1 ≤ R.locals ∧ dd.2.1 ≤ R.cells ∧ dd.2.2 ≤ R.slots
section XCP
variable {p : Program} {R : Room} {s : State} {m : MethodId} {args : Array Value} {meth : Method} {c : Code} {Ω : xO} {y : MethodName} {cc : ByteArray} {nL : Nat} {ret : Option FieldType} {dd : Nat × Nat × Nat}
theorem XC.ex (C : XC p R s m args meth c Ω y cc nL ret dd) : p.tables.exec = Jvm.exec := And.left C
theorem XC.co (C : XC p R s m args meth c Ω y cc nL ret dd) : c.code = cc := C.2.1
theorem XC.ml (C : XC p R s m args meth c Ω y cc nL ret dd) : c.maxLocals = nL := C.2.2.1
theorem XC.ow (C : XC p R s m args meth c Ω y cc nL ret dd) : s.vm.findClass y.cls = some m.cls := C.2.2.2.1
theorem XC.ts (C : XC p R s m args meth c Ω y cc nL ret dd) : ∀ w ∈ xBIG, w.before args s = true := C.2.2.2.2.1
theorem XC.K (C : XC p R s m args meth c Ω y cc nL ret dd) : va_K Ω.1 xcl (xtys Ω.2.1) s := C.2.2.2.2.2.1
theorem XC.st (C : XC p R s m args meth c Ω y cc nL ret dd) : xst Ω s := C.2.2.2.2.2.2.1
theorem XC.lk (C : XC p R s m args meth c Ω y cc nL ret dd) : meth.locks = false := C.2.2.2.2.2.2.2.1
theorem XC.rt (C : XC p R s m args meth c Ω y cc nL ret dd) : meth.sig.returnType = ret := C.2.2.2.2.2.2.2.2.1
theorem XC.nm (C : XC p R s m args meth c Ω y cc nL ret dd) : meth.name = y.name := C.2.2.2.2.2.2.2.2.2.1
theorem XC.fr (C : XC p R s m args meth c Ω y cc nL ret dd) : dd.1 ≤ R.frames := C.2.2.2.2.2.2.2.2.2.2.1
theorem XC.lo (C : XC p R s m args meth c Ω y cc nL ret dd) : 48 * dd.1 ≤ R.locals := C.2.2.2.2.2.2.2.2.2.2.2.1
theorem XC.cap (C : XC p R s m args meth c Ω y cc nL ret dd) : dd.2.1 ≤ R.cells ∧ dd.2.2 ≤ R.slots := C.2.2.2.2.2.2.2.2.2.2.2.2
end XCP
def XW (Γ : xG) (y : MethodName) (cc : ByteArray) (nL : Nat) (ret : Option FieldType) (dd : Nat × Nat × Nat) (Q : State → Prop) (ce sl N : Nat) (h : xHp) (pc : Nat) (lv : List (Option Value)) (st : List Value) : Prop :=
  match Γ with
  | (p, l, e, R, s, m, args, below, meth, c, Ω) => XC p R s m args meth c Ω y cc nL ret dd → ∀ (H : Heap) (locs : List Loc) (ls : Array Slot), xH Ω N h H → (∀ q ∈ locs, Ω.2.2.1 ≤ q.base) → lv_has ls nL (xl Ω 0 lv) → W p l e R s m args below meth c H locs ce sl Q (F0 m pc ls (st.map (xv Ω)))
theorem xv_cat (Ω : xO) (v : Value) : (xv Ω v).category = v.category := by cases v <;> rfl
theorem xi_lt {Ω : xO} {k : Nat} (h : k < 1000000) : xi Ω k = Ω.2.2.1 + k := if_pos h
theorem xl_mem {Ω : xO} : ∀ (lv : List (Option Value)) (k i : Nat) (v : Value), lv[i]? = some (some v) → (k + i, xv Ω v) ∈ xl Ω k lv
  | [], k, i, v, h => by simp at h
  | none :: t, k, 0, v, h => by simp at h
  | none :: t, k, i + 1, v, h => by
    have h1 := xl_mem (Ω := Ω) t (k + 1) i v (by simpa using h)
    rw [show k + (i + 1) = k + 1 + i by omega]
    exact h1
  | some w :: t, k, 0, v, h => by
    have h1 : w = v := by simpa using h
    subst h1
    exact List.mem_cons_self
  | some w :: t, k, i + 1, v, h => by
    have h1 := xl_mem (Ω := Ω) t (k + 1) i v (by simpa using h)
    rw [show k + (i + 1) = k + 1 + i by omega]
    exact List.mem_cons_of_mem _ h1
theorem xl_of {Ω : xO} : ∀ (lv : List (Option Value)) (k : Nat) (q : Nat × Value), q ∈ xl Ω k lv → ∃ (i : Nat) (v : Value), q.1 = k + i ∧ lv[i]? = some (some v) ∧ q.2 = xv Ω v
  | [], k, q, h => by simp [xl] at h
  | none :: t, k, q, h => by
    obtain ⟨i, v, h1, h2, h3⟩ := xl_of t (k + 1) q h
    exact ⟨i + 1, v, by omega, by simpa using h2, h3⟩
  | some w :: t, k, q, h => by
    rcases List.mem_cons.mp h with h | h
    · subst h
      exact ⟨0, w, rfl, rfl, rfl⟩
    · obtain ⟨i, v, h1, h2, h3⟩ := xl_of t (k + 1) q h
      exact ⟨i + 1, v, by omega, by simpa using h2, h3⟩
theorem xl_at {Ω : xO} {ls : Array Slot} {nL i : Nat} {lv : List (Option Value)} {v : Value} (h : lv_has ls nL (xl Ω 0 lv)) (hl : lv[i]? = some (some v)) : ls[i]? = some (.val (xv Ω v)) := by
  have h1 := h.2.2 _ (xl_mem lv 0 i v hl)
  simpa using h1
theorem xl_sub {ls : Array Slot} {nL : Nat} {l l' : List (Nat × Value)} (h : lv_has ls nL l) (hs : ∀ q ∈ l', q ∈ l) : lv_has ls nL l' := ⟨h.1, h.2.1, fun q hq => h.2.2 q (hs q hq)⟩
/-- the place before i is no long -/
def xn2 (lv : List (Option Value)) : Nat → Bool
  | 0 => true
  | i + 1 => match lv[i]? with
    | some (some (.long _)) => false
    | some (some (.double _)) => false
    | _ => true
theorem xn2_cat {lv : List (Option Value)} {i : Nat} {v : Value} (h : xn2 lv (i + 1) = true) (hv : lv[i]? = some (some v)) : ¬ v.category = 2 := by
  simp only [xn2, hv] at h
  cases v <;> simp [Value.category] at h ⊢
theorem xl_set1 {Ω : xO} {lv : List (Option Value)} {i : Nat} {v : Value} (hn : xn2 lv i = true) : ∀ q ∈ xl Ω 0 (lv.set i (some v)), q ∈ (i, xv Ω v) :: (xl Ω 0 lv).filter (fun q => !(q.1 == i) && !(q.1 + 1 == i && q.2.category == 2)) := by
  intro q hq
  obtain ⟨j, w, h1, h2, h3⟩ := xl_of _ 0 q hq
  have hq' : q = (j, xv Ω w) := Prod.ext (by simpa using h1) h3
  subst hq'
  by_cases hj : j = i
  · subst hj
    have hl : j < lv.length := by
      have := (List.getElem?_eq_some_iff.mp h2).1
      simpa using this
    rw [List.getElem?_set_self hl] at h2
    cases h2
    exact List.mem_cons_self
  · rw [List.getElem?_set_ne (Ne.symm hj)] at h2
    refine List.mem_cons_of_mem _ (List.mem_filter.mpr ⟨by simpa using xl_mem (Ω := Ω) lv 0 j w h2, ?_⟩)
    have h5 : ¬ (j + 1 = i ∧ (xv Ω w).category = 2) := by
      rintro ⟨e1, e2⟩
      subst e1
      rw [xv_cat] at e2
      exact xn2_cat hn h2 e2
    simp only [Bool.and_eq_true, Bool.not_eq_true', beq_eq_false_iff_ne, ne_eq, Bool.and_eq_false_iff]
    refine ⟨hj, ?_⟩
    by_cases e1 : j + 1 = i
    · exact Or.inr (fun e2 => h5 ⟨e1, e2⟩)
    · exact Or.inl e1
theorem xl_set2 {Ω : xO} {lv : List (Option Value)} {i : Nat} {v : Value} (hn : xn2 lv i = true) : ∀ q ∈ xl Ω 0 ((lv.set i (some v)).set (i + 1) none), q ∈ (i, xv Ω v) :: (xl Ω 0 lv).filter (fun q => !(q.1 == i) && (!(q.1 == i + 1) && !(q.1 + 1 == i && q.2.category == 2))) := by
  intro q hq
  obtain ⟨j, w, h1, h2, h3⟩ := xl_of _ 0 q hq
  have hq' : q = (j, xv Ω w) := Prod.ext (by simpa using h1) h3
  subst hq'
  have hl2 := (List.getElem?_eq_some_iff.mp h2).1
  simp only [List.length_set] at hl2
  by_cases hj1 : j = i + 1
  · subst hj1
    rw [List.getElem?_set_self (by simpa using hl2)] at h2
    cases h2
  · rw [List.getElem?_set_ne (Ne.symm hj1)] at h2
    by_cases hj : j = i
    · subst hj
      rw [List.getElem?_set_self hl2] at h2
      cases h2
      exact List.mem_cons_self
    · rw [List.getElem?_set_ne (Ne.symm hj)] at h2
      refine List.mem_cons_of_mem _ (List.mem_filter.mpr ⟨by simpa using xl_mem (Ω := Ω) lv 0 j w h2, ?_⟩)
      have h5 : ¬ (j + 1 = i ∧ (xv Ω w).category = 2) := by
        rintro ⟨e1, e2⟩
        subst e1
        rw [xv_cat] at e2
        exact xn2_cat hn h2 e2
      simp only [Bool.and_eq_true, Bool.not_eq_true', beq_eq_false_iff_ne, ne_eq, Bool.and_eq_false_iff]
      refine ⟨hj, hj1, ?_⟩
      by_cases e1 : j + 1 = i
      · exact Or.inr (fun e2 => h5 ⟨e1, e2⟩)
      · exact Or.inl e1
section XR
variable {Γ : xG} {y : MethodName} {cc : ByteArray} {nL : Nat} {ret : Option FieldType} {dd : Nat × Nat × Nat} {Q : State → Prop} {ce sl N : Nat} {h : xHp} {pc : Nat} {lv : List (Option Value)} {st : List Value}
theorem x_iconst {n : Int} {v : Int32} (d : decode cc pc = .ok (.iconst n, 1)) (hw : Int32.ofInt n = v) (k : XW Γ y cc nL ret dd Q ce sl N h (pc + 1) lv (.int v :: st)) : XW Γ y cc nL ret dd Q ce sl N h pc lv st := by
  obtain ⟨p, l, e, R, s, m, args, below, meth, c, Ω⟩ := Γ
  intro C H locs ls hH hl hv
  exact lv_iconst C.ex C.co d hw (k C H locs ls hH hl hv)
theorem x_bipush {n : Int} {v : Int32} (d : decode cc pc = .ok (.bipush n, 2)) (hw : (Int8.ofInt n).toInt32 = v) (k : XW Γ y cc nL ret dd Q ce sl N h (pc + 2) lv (.int v :: st)) : XW Γ y cc nL ret dd Q ce sl N h pc lv st := by
  obtain ⟨p, l, e, R, s, m, args, below, meth, c, Ω⟩ := Γ
  intro C H locs ls hH hl hv
  exact lv_bipush C.ex C.co d hw (k C H locs ls hH hl hv)
theorem x_sipush {n : Int} {v : Int32} (d : decode cc pc = .ok (.sipush n, 3)) (hw : (Int16.ofInt n).toInt32 = v) (k : XW Γ y cc nL ret dd Q ce sl N h (pc + 3) lv (.int v :: st)) : XW Γ y cc nL ret dd Q ce sl N h pc lv st := by
  obtain ⟨p, l, e, R, s, m, args, below, meth, c, Ω⟩ := Γ
  intro C H locs ls hH hl hv
  exact lv_sipush C.ex C.co d hw (k C H locs ls hH hl hv)
theorem x_lconst {n : Fin 2} {v : Int64} (d : decode cc pc = .ok (.lconst n, 1)) (hw : Int64.ofNat (n : Nat) = v) (k : XW Γ y cc nL ret dd Q ce sl N h (pc + 1) lv (.long v :: st)) : XW Γ y cc nL ret dd Q ce sl N h pc lv st := by
  obtain ⟨p, l, e, R, s, m, args, below, meth, c, Ω⟩ := Γ
  intro C H locs ls hH hl hv
  exact lv_lconst C.ex C.co d hw (k C H locs ls hH hl hv)
theorem x_null  (d : decode cc pc = .ok (.aconst_null, 1)) (k : XW Γ y cc nL ret dd Q ce sl N h (pc + 1) lv (.null :: st)) : XW Γ y cc nL ret dd Q ce sl N h pc lv st := by
  obtain ⟨p, l, e, R, s, m, args, below, meth, c, Ω⟩ := Γ
  intro C H locs ls hH hl hv
  exact lv_null C.ex C.co d (k C H locs ls hH hl hv)
theorem x_ldc {index : Nat} {v : Int32} (w : Jvm.Cond.constant y.cls index v ∈ xBIG) (d : decode cc pc = .ok (.ldc index, 2)) (k : XW Γ y cc nL ret dd Q ce sl N h (pc + 2) lv (.int v :: st)) : XW Γ y cc nL ret dd Q ce sl N h pc lv st := by
  obtain ⟨p, l, e, R, s, m, args, below, meth, c, Ω⟩ := Γ
  intro C H locs ls hH hl hv
  exact lv_ldc C.ex C.co C.ow (C.ts _ w) d (k C H locs ls hH hl hv)
theorem x_ldc2 {index : Nat} {v : Int64} (w : Jvm.Cond.constantLong y.cls index v ∈ xBIG) (d : decode cc pc = .ok (.ldc2_w index, 3)) (k : XW Γ y cc nL ret dd Q ce sl N h (pc + 3) lv (.long v :: st)) : XW Γ y cc nL ret dd Q ce sl N h pc lv st := by
  obtain ⟨p, l, e, R, s, m, args, below, meth, c, Ω⟩ := Γ
  intro C H locs ls hH hl hv
  exact lv_ldc2 C.ex C.co C.ow (C.ts _ w) d (k C H locs ls hH hl hv)
theorem x_iload_n {j : Fin 4} {x : Int32} (d : decode cc pc = .ok (.iload_n j, 1)) (g : lv[(j : Nat)]? = some (some (.int x))) (k : XW Γ y cc nL ret dd Q ce sl N h (pc + 1) lv (.int x :: st)) : XW Γ y cc nL ret dd Q ce sl N h pc lv st := by
  obtain ⟨p, l, e, R, s, m, args, below, meth, c, Ω⟩ := Γ
  intro C H locs ls hH hl hv
  exact lv_iload_n C.ex C.co d rfl (xl_at hv g) (k C H locs ls hH hl hv)
theorem x_iload {i : Nat} {x : Int32} (d : decode cc pc = .ok (.iload i, 2)) (g : lv[i]? = some (some (.int x))) (k : XW Γ y cc nL ret dd Q ce sl N h (pc + 2) lv (.int x :: st)) : XW Γ y cc nL ret dd Q ce sl N h pc lv st := by
  obtain ⟨p, l, e, R, s, m, args, below, meth, c, Ω⟩ := Γ
  intro C H locs ls hH hl hv
  exact lv_iload C.ex C.co d (xl_at hv g) (k C H locs ls hH hl hv)
theorem x_lload_n {j : Fin 4} {x : Int64} (d : decode cc pc = .ok (.lload_n j, 1)) (g : lv[(j : Nat)]? = some (some (.long x))) (k : XW Γ y cc nL ret dd Q ce sl N h (pc + 1) lv (.long x :: st)) : XW Γ y cc nL ret dd Q ce sl N h pc lv st := by
  obtain ⟨p, l, e, R, s, m, args, below, meth, c, Ω⟩ := Γ
  intro C H locs ls hH hl hv
  exact lv_lload_n C.ex C.co d rfl (xl_at hv g) (k C H locs ls hH hl hv)
theorem x_lload {i : Nat} {x : Int64} (d : decode cc pc = .ok (.lload i, 2)) (g : lv[i]? = some (some (.long x))) (k : XW Γ y cc nL ret dd Q ce sl N h (pc + 2) lv (.long x :: st)) : XW Γ y cc nL ret dd Q ce sl N h pc lv st := by
  obtain ⟨p, l, e, R, s, m, args, below, meth, c, Ω⟩ := Γ
  intro C H locs ls hH hl hv
  exact lv_lload C.ex C.co d (xl_at hv g) (k C H locs ls hH hl hv)
theorem x_aload_n {j : Fin 4} {x : Nat} (d : decode cc pc = .ok (.aload_n j, 1)) (g : lv[(j : Nat)]? = some (some (.ref x))) (k : XW Γ y cc nL ret dd Q ce sl N h (pc + 1) lv (.ref x :: st)) : XW Γ y cc nL ret dd Q ce sl N h pc lv st := by
  obtain ⟨p, l, e, R, s, m, args, below, meth, c, Ω⟩ := Γ
  intro C H locs ls hH hl hv
  exact lv_aload_n C.ex C.co d rfl (xl_at hv g) (k C H locs ls hH hl hv)
theorem x_aload {i : Nat} {x : Nat} (d : decode cc pc = .ok (.aload i, 2)) (g : lv[i]? = some (some (.ref x))) (k : XW Γ y cc nL ret dd Q ce sl N h (pc + 2) lv (.ref x :: st)) : XW Γ y cc nL ret dd Q ce sl N h pc lv st := by
  obtain ⟨p, l, e, R, s, m, args, below, meth, c, Ω⟩ := Γ
  intro C H locs ls hH hl hv
  exact lv_aload C.ex C.co d (xl_at hv g) (k C H locs ls hH hl hv)
theorem x_istore_n {j : Fin 4} {x : Int32} (d : decode cc pc = .ok (.istore_n j, 1)) (hn : (j : Nat) < nL) (g : xn2 lv (j : Nat) = true) (k : XW Γ y cc nL ret dd Q ce sl N h (pc + 1) (lv.set (j : Nat) (some (.int x))) st) : XW Γ y cc nL ret dd Q ce sl N h pc lv (.int x :: st) := by
  obtain ⟨p, l, e, R, s, m, args, below, meth, c, Ω⟩ := Γ
  intro C H locs ls hH hl hv
  exact lv_istore_n C.ex C.co d rfl hv hn rfl (fun ls' hl' => k C H locs ls' hH hl (xl_sub hl' (xl_set1 g)))
theorem x_istore {i : Nat} {x : Int32} (d : decode cc pc = .ok (.istore i, 2)) (hn : i < nL) (g : xn2 lv i = true) (k : XW Γ y cc nL ret dd Q ce sl N h (pc + 2) (lv.set i (some (.int x))) st) : XW Γ y cc nL ret dd Q ce sl N h pc lv (.int x :: st) := by
  obtain ⟨p, l, e, R, s, m, args, below, meth, c, Ω⟩ := Γ
  intro C H locs ls hH hl hv
  exact lv_istore C.ex C.co d hv hn rfl (fun ls' hl' => k C H locs ls' hH hl (xl_sub hl' (xl_set1 g)))
theorem x_astore_n {j : Fin 4} {x : Nat} (d : decode cc pc = .ok (.astore_n j, 1)) (hn : (j : Nat) < nL) (g : xn2 lv (j : Nat) = true) (k : XW Γ y cc nL ret dd Q ce sl N h (pc + 1) (lv.set (j : Nat) (some (.ref x))) st) : XW Γ y cc nL ret dd Q ce sl N h pc lv (.ref x :: st) := by
  obtain ⟨p, l, e, R, s, m, args, below, meth, c, Ω⟩ := Γ
  intro C H locs ls hH hl hv
  exact lv_astore_n C.ex C.co d rfl hv hn rfl (fun ls' hl' => k C H locs ls' hH hl (xl_sub hl' (xl_set1 g)))
theorem x_astore {i : Nat} {x : Nat} (d : decode cc pc = .ok (.astore i, 2)) (hn : i < nL) (g : xn2 lv i = true) (k : XW Γ y cc nL ret dd Q ce sl N h (pc + 2) (lv.set i (some (.ref x))) st) : XW Γ y cc nL ret dd Q ce sl N h pc lv (.ref x :: st) := by
  obtain ⟨p, l, e, R, s, m, args, below, meth, c, Ω⟩ := Γ
  intro C H locs ls hH hl hv
  exact lv_astore C.ex C.co d hv hn rfl (fun ls' hl' => k C H locs ls' hH hl (xl_sub hl' (xl_set1 g)))
theorem x_lstore_n {j : Fin 4} {x : Int64} (d : decode cc pc = .ok (.lstore_n j, 1)) (hn : (j : Nat) + 1 < nL) (g : xn2 lv (j : Nat) = true) (k : XW Γ y cc nL ret dd Q ce sl N h (pc + 1) ((lv.set (j : Nat) (some (.long x))).set ((j : Nat) + 1) none) st) : XW Γ y cc nL ret dd Q ce sl N h pc lv (.long x :: st) := by
  obtain ⟨p, l, e, R, s, m, args, below, meth, c, Ω⟩ := Γ
  intro C H locs ls hH hl hv
  exact lv_lstore_n C.ex C.co d rfl hv hn rfl (fun ls' hl' => k C H locs ls' hH hl (xl_sub hl' (xl_set2 g)))
theorem x_lstore {i : Nat} {x : Int64} (d : decode cc pc = .ok (.lstore i, 2)) (hn : i + 1 < nL) (g : xn2 lv i = true) (k : XW Γ y cc nL ret dd Q ce sl N h (pc + 2) ((lv.set i (some (.long x))).set (i + 1) none) st) : XW Γ y cc nL ret dd Q ce sl N h pc lv (.long x :: st) := by
  obtain ⟨p, l, e, R, s, m, args, below, meth, c, Ω⟩ := Γ
  intro C H locs ls hH hl hv
  exact lv_lstore C.ex C.co d hv hn rfl (fun ls' hl' => k C H locs ls' hH hl (xl_sub hl' (xl_set2 g)))
theorem x_iinc {i : Nat} {n : Int} {x v : Int32} (d : decode cc pc = .ok (.iinc i n, 3)) (g : lv[i]? = some (some (.int x))) (hx : x + Int32.ofInt n = v) (hn : i < nL) (g2 : xn2 lv i = true) (k : XW Γ y cc nL ret dd Q ce sl N h (pc + 3) (lv.set i (some (.int v))) st) : XW Γ y cc nL ret dd Q ce sl N h pc lv st := by
  obtain ⟨p, l, e, R, s, m, args, below, meth, c, Ω⟩ := Γ
  intro C H locs ls hH hl hv
  obtain ⟨j, hj⟩ := List.getElem?_of_mem (xl_mem (Ω := Ω) lv 0 i _ g)
  rw [Nat.zero_add] at hj
  exact lv_iinc C.ex C.co d hv hj hx hn rfl (fun ls' hl' => k C H locs ls' hH hl (xl_sub hl' (xl_set1 g2)))
theorem x_iadd {x y₁ : Int32} (d : decode cc pc = .ok (.iadd, 1)) (k : XW Γ y cc nL ret dd Q ce sl N h (pc + 1) lv (.int (x + y₁) :: st)) : XW Γ y cc nL ret dd Q ce sl N h pc lv (.int y₁ :: .int x :: st) := by
  obtain ⟨p, l, e, R, s, m, args, below, meth, c, Ω⟩ := Γ
  intro C H locs ls hH hl hv
  exact lv_iadd C.ex C.co d (k C H locs ls hH hl hv)
theorem x_isub {x y₁ : Int32} (d : decode cc pc = .ok (.isub, 1)) (k : XW Γ y cc nL ret dd Q ce sl N h (pc + 1) lv (.int (x - y₁) :: st)) : XW Γ y cc nL ret dd Q ce sl N h pc lv (.int y₁ :: .int x :: st) := by
  obtain ⟨p, l, e, R, s, m, args, below, meth, c, Ω⟩ := Γ
  intro C H locs ls hH hl hv
  exact lv_isub C.ex C.co d (k C H locs ls hH hl hv)
theorem x_imul {x y₁ : Int32} (d : decode cc pc = .ok (.imul, 1)) (k : XW Γ y cc nL ret dd Q ce sl N h (pc + 1) lv (.int (x * y₁) :: st)) : XW Γ y cc nL ret dd Q ce sl N h pc lv (.int y₁ :: .int x :: st) := by
  obtain ⟨p, l, e, R, s, m, args, below, meth, c, Ω⟩ := Γ
  intro C H locs ls hH hl hv
  exact lv_imul C.ex C.co d (k C H locs ls hH hl hv)
theorem x_iand {x y₁ : Int32} (d : decode cc pc = .ok (.iand, 1)) (k : XW Γ y cc nL ret dd Q ce sl N h (pc + 1) lv (.int (x &&& y₁) :: st)) : XW Γ y cc nL ret dd Q ce sl N h pc lv (.int y₁ :: .int x :: st) := by
  obtain ⟨p, l, e, R, s, m, args, below, meth, c, Ω⟩ := Γ
  intro C H locs ls hH hl hv
  exact lv_iand C.ex C.co d (k C H locs ls hH hl hv)
theorem x_ior {x y₁ : Int32} (d : decode cc pc = .ok (.ior, 1)) (k : XW Γ y cc nL ret dd Q ce sl N h (pc + 1) lv (.int (x ||| y₁) :: st)) : XW Γ y cc nL ret dd Q ce sl N h pc lv (.int y₁ :: .int x :: st) := by
  obtain ⟨p, l, e, R, s, m, args, below, meth, c, Ω⟩ := Γ
  intro C H locs ls hH hl hv
  exact lv_ior C.ex C.co d (k C H locs ls hH hl hv)
theorem x_ixor {x y₁ : Int32} (d : decode cc pc = .ok (.ixor, 1)) (k : XW Γ y cc nL ret dd Q ce sl N h (pc + 1) lv (.int (x ^^^ y₁) :: st)) : XW Γ y cc nL ret dd Q ce sl N h pc lv (.int y₁ :: .int x :: st) := by
  obtain ⟨p, l, e, R, s, m, args, below, meth, c, Ω⟩ := Γ
  intro C H locs ls hH hl hv
  exact lv_ixor C.ex C.co d (k C H locs ls hH hl hv)
theorem x_ishl {x y₁ : Int32} (d : decode cc pc = .ok (.ishl, 1)) (k : XW Γ y cc nL ret dd Q ce sl N h (pc + 1) lv (.int (x <<< (y₁ &&& 31)) :: st)) : XW Γ y cc nL ret dd Q ce sl N h pc lv (.int y₁ :: .int x :: st) := by
  obtain ⟨p, l, e, R, s, m, args, below, meth, c, Ω⟩ := Γ
  intro C H locs ls hH hl hv
  exact lv_ishl C.ex C.co d (k C H locs ls hH hl hv)
theorem x_ishr {x y₁ : Int32} (d : decode cc pc = .ok (.ishr, 1)) (k : XW Γ y cc nL ret dd Q ce sl N h (pc + 1) lv (.int (x >>> (y₁ &&& 31)) :: st)) : XW Γ y cc nL ret dd Q ce sl N h pc lv (.int y₁ :: .int x :: st) := by
  obtain ⟨p, l, e, R, s, m, args, below, meth, c, Ω⟩ := Γ
  intro C H locs ls hH hl hv
  exact lv_ishr C.ex C.co d (k C H locs ls hH hl hv)
theorem x_idiv {x y₁ : Int32} (d : decode cc pc = .ok (.idiv, 1)) (hz : ¬ y₁ = 0) (k : XW Γ y cc nL ret dd Q ce sl N h (pc + 1) lv (.int (x / y₁) :: st)) : XW Γ y cc nL ret dd Q ce sl N h pc lv (.int y₁ :: .int x :: st) := by
  obtain ⟨p, l, e, R, s, m, args, below, meth, c, Ω⟩ := Γ
  intro C H locs ls hH hl hv
  exact lv_idiv C.ex C.co d hz (k C H locs ls hH hl hv)
theorem x_irem {x y₁ : Int32} (d : decode cc pc = .ok (.irem, 1)) (hz : ¬ y₁ = 0) (k : XW Γ y cc nL ret dd Q ce sl N h (pc + 1) lv (.int (x - x / y₁ * y₁) :: st)) : XW Γ y cc nL ret dd Q ce sl N h pc lv (.int y₁ :: .int x :: st) := by
  obtain ⟨p, l, e, R, s, m, args, below, meth, c, Ω⟩ := Γ
  intro C H locs ls hH hl hv
  exact lv_irem C.ex C.co d hz (k C H locs ls hH hl hv)
theorem x_ladd {x y₁ : Int64} (d : decode cc pc = .ok (.ladd, 1)) (k : XW Γ y cc nL ret dd Q ce sl N h (pc + 1) lv (.long (x + y₁) :: st)) : XW Γ y cc nL ret dd Q ce sl N h pc lv (.long y₁ :: .long x :: st) := by
  obtain ⟨p, l, e, R, s, m, args, below, meth, c, Ω⟩ := Γ
  intro C H locs ls hH hl hv
  exact lv_ladd C.ex C.co d (k C H locs ls hH hl hv)
theorem x_lsub {x y₁ : Int64} (d : decode cc pc = .ok (.lsub, 1)) (k : XW Γ y cc nL ret dd Q ce sl N h (pc + 1) lv (.long (x - y₁) :: st)) : XW Γ y cc nL ret dd Q ce sl N h pc lv (.long y₁ :: .long x :: st) := by
  obtain ⟨p, l, e, R, s, m, args, below, meth, c, Ω⟩ := Γ
  intro C H locs ls hH hl hv
  exact lv_lsub C.ex C.co d (k C H locs ls hH hl hv)
theorem x_lmul {x y₁ : Int64} (d : decode cc pc = .ok (.lmul, 1)) (k : XW Γ y cc nL ret dd Q ce sl N h (pc + 1) lv (.long (x * y₁) :: st)) : XW Γ y cc nL ret dd Q ce sl N h pc lv (.long y₁ :: .long x :: st) := by
  obtain ⟨p, l, e, R, s, m, args, below, meth, c, Ω⟩ := Γ
  intro C H locs ls hH hl hv
  exact lv_lmul C.ex C.co d (k C H locs ls hH hl hv)
theorem x_land {x y₁ : Int64} (d : decode cc pc = .ok (.land, 1)) (k : XW Γ y cc nL ret dd Q ce sl N h (pc + 1) lv (.long (x &&& y₁) :: st)) : XW Γ y cc nL ret dd Q ce sl N h pc lv (.long y₁ :: .long x :: st) := by
  obtain ⟨p, l, e, R, s, m, args, below, meth, c, Ω⟩ := Γ
  intro C H locs ls hH hl hv
  exact lv_land C.ex C.co d (k C H locs ls hH hl hv)
theorem x_lor {x y₁ : Int64} (d : decode cc pc = .ok (.lor, 1)) (k : XW Γ y cc nL ret dd Q ce sl N h (pc + 1) lv (.long (x ||| y₁) :: st)) : XW Γ y cc nL ret dd Q ce sl N h pc lv (.long y₁ :: .long x :: st) := by
  obtain ⟨p, l, e, R, s, m, args, below, meth, c, Ω⟩ := Γ
  intro C H locs ls hH hl hv
  exact lv_lor C.ex C.co d (k C H locs ls hH hl hv)
theorem x_lxor {x y₁ : Int64} (d : decode cc pc = .ok (.lxor, 1)) (k : XW Γ y cc nL ret dd Q ce sl N h (pc + 1) lv (.long (x ^^^ y₁) :: st)) : XW Γ y cc nL ret dd Q ce sl N h pc lv (.long y₁ :: .long x :: st) := by
  obtain ⟨p, l, e, R, s, m, args, below, meth, c, Ω⟩ := Γ
  intro C H locs ls hH hl hv
  exact lv_lxor C.ex C.co d (k C H locs ls hH hl hv)
theorem x_ineg {x : Int32} (d : decode cc pc = .ok (.ineg, 1)) (k : XW Γ y cc nL ret dd Q ce sl N h (pc + 1) lv (.int (-x) :: st)) : XW Γ y cc nL ret dd Q ce sl N h pc lv (.int x :: st) := by
  obtain ⟨p, l, e, R, s, m, args, below, meth, c, Ω⟩ := Γ
  intro C H locs ls hH hl hv
  exact lv_ineg C.ex C.co d (k C H locs ls hH hl hv)
theorem x_lneg {x : Int64} (d : decode cc pc = .ok (.lneg, 1)) (k : XW Γ y cc nL ret dd Q ce sl N h (pc + 1) lv (.long (-x) :: st)) : XW Γ y cc nL ret dd Q ce sl N h pc lv (.long x :: st) := by
  obtain ⟨p, l, e, R, s, m, args, below, meth, c, Ω⟩ := Γ
  intro C H locs ls hH hl hv
  exact lv_lneg C.ex C.co d (k C H locs ls hH hl hv)
theorem x_i2l {x : Int32} (d : decode cc pc = .ok (.i2l, 1)) (k : XW Γ y cc nL ret dd Q ce sl N h (pc + 1) lv (.long x.toInt64 :: st)) : XW Γ y cc nL ret dd Q ce sl N h pc lv (.int x :: st) := by
  obtain ⟨p, l, e, R, s, m, args, below, meth, c, Ω⟩ := Γ
  intro C H locs ls hH hl hv
  exact lv_i2l C.ex C.co d rfl (k C H locs ls hH hl hv)
theorem x_l2i {x : Int64} (d : decode cc pc = .ok (.l2i, 1)) (k : XW Γ y cc nL ret dd Q ce sl N h (pc + 1) lv (.int x.toInt32 :: st)) : XW Γ y cc nL ret dd Q ce sl N h pc lv (.long x :: st) := by
  obtain ⟨p, l, e, R, s, m, args, below, meth, c, Ω⟩ := Γ
  intro C H locs ls hH hl hv
  exact lv_l2i C.ex C.co d rfl (k C H locs ls hH hl hv)
theorem x_i2c {x : Int32} (d : decode cc pc = .ok (.i2c, 1)) (k : XW Γ y cc nL ret dd Q ce sl N h (pc + 1) lv (.int (x.toUInt32 % 65536).toInt32 :: st)) : XW Γ y cc nL ret dd Q ce sl N h pc lv (.int x :: st) := by
  obtain ⟨p, l, e, R, s, m, args, below, meth, c, Ω⟩ := Γ
  intro C H locs ls hH hl hv
  exact lv_i2c C.ex C.co d rfl (k C H locs ls hH hl hv)
theorem x_lcmp {x y₁ : Int64} (d : decode cc pc = .ok (.lcmp, 1)) (k : XW Γ y cc nL ret dd Q ce sl N h (pc + 1) lv (.int (lg_cmp x y₁) :: st)) : XW Γ y cc nL ret dd Q ce sl N h pc lv (.long y₁ :: .long x :: st) := by
  obtain ⟨p, l, e, R, s, m, args, below, meth, c, Ω⟩ := Γ
  intro C H locs ls hH hl hv
  exact W.lcmp C.ex C.co d (k C H locs ls hH hl hv)
theorem x_dup {a : Value} (d : decode cc pc = .ok (.dup, 1)) (ha : a.category = 1) (k : XW Γ y cc nL ret dd Q ce sl N h (pc + 1) lv (a :: a :: st)) : XW Γ y cc nL ret dd Q ce sl N h pc lv (a :: st) := by
  obtain ⟨p, l, e, R, s, m, args, below, meth, c, Ω⟩ := Γ
  intro C H locs ls hH hl hv
  exact lv_dup C.ex C.co d (by rw [xv_cat]; exact ha) (k C H locs ls hH hl hv)
theorem x_pop {a : Value} (d : decode cc pc = .ok (.pop, 1)) (ha : a.category = 1) (k : XW Γ y cc nL ret dd Q ce sl N h (pc + 1) lv st) : XW Γ y cc nL ret dd Q ce sl N h pc lv (a :: st) := by
  obtain ⟨p, l, e, R, s, m, args, below, meth, c, Ω⟩ := Γ
  intro C H locs ls hH hl hv
  exact lv_pop C.ex C.co d (by rw [xv_cat]; exact ha) (k C H locs ls hH hl hv)
theorem x_dup_x1 {a b : Value} (d : decode cc pc = .ok (.dup_x1, 1)) (ha : a.category = 1) (hb : b.category = 1) (k : XW Γ y cc nL ret dd Q ce sl N h (pc + 1) lv (a :: b :: a :: st)) : XW Γ y cc nL ret dd Q ce sl N h pc lv (a :: b :: st) := by
  obtain ⟨p, l, e, R, s, m, args, below, meth, c, Ω⟩ := Γ
  intro C H locs ls hH hl hv
  exact lv_dup_x1 C.ex C.co d (by rw [xv_cat]; exact ha) (by rw [xv_cat]; exact hb) (k C H locs ls hH hl hv)
theorem x_dup_x2 {a b b2 : Value} (d : decode cc pc = .ok (.dup_x2, 1)) (ha : a.category = 1) (hb : b.category = 1) (hb2 : b2.category = 1) (k : XW Γ y cc nL ret dd Q ce sl N h (pc + 1) lv (a :: b :: b2 :: a :: st)) : XW Γ y cc nL ret dd Q ce sl N h pc lv (a :: b :: b2 :: st) := by
  obtain ⟨p, l, e, R, s, m, args, below, meth, c, Ω⟩ := Γ
  intro C H locs ls hH hl hv
  exact lv_dup_x2 C.ex C.co d (by rw [xv_cat]; exact ha) (by rw [xv_cat]; exact hb) (by rw [xv_cat]; exact hb2) (k C H locs ls hH hl hv)
theorem x_dup2 {a b : Value} (d : decode cc pc = .ok (.dup2, 1)) (ha : a.category = 1) (hb : b.category = 1) (k : XW Γ y cc nL ret dd Q ce sl N h (pc + 1) lv (a :: b :: a :: b :: st)) : XW Γ y cc nL ret dd Q ce sl N h pc lv (a :: b :: st) := by
  obtain ⟨p, l, e, R, s, m, args, below, meth, c, Ω⟩ := Γ
  intro C H locs ls hH hl hv
  exact lv_dup2_11 C.ex C.co d (by rw [xv_cat]; exact ha) (by rw [xv_cat]; exact hb) (k C H locs ls hH hl hv)
theorem x_icmp_eq {x y₁ : Int32} {off : Int} (tgt : Nat) (d : decode cc pc = .ok (.if_icmp .eq off, 3)) (g : (pc : Int) + off = (tgt : Int)) (kt : x = y₁ → XW Γ y cc nL ret dd Q ce sl N h tgt lv st) (kf : ¬ x = y₁ → XW Γ y cc nL ret dd Q ce sl N h (pc + 3) lv st) : XW Γ y cc nL ret dd Q ce sl N h pc lv (.int y₁ :: .int x :: st) := by
  obtain ⟨p, l, e, R, s, m, args, below, meth, c, Ω⟩ := Γ
  intro C H locs ls hH hl hv
  exact lv_icmp_eq C.ex C.co d g (fun q => kt q C H locs ls hH hl hv) (fun q => kf q C H locs ls hH hl hv)
theorem x_if_eq {x : Int32} {off : Int} (tgt : Nat) (d : decode cc pc = .ok (.ifCond .eq off, 3)) (g : (pc : Int) + off = (tgt : Int)) (kt : x = 0 → XW Γ y cc nL ret dd Q ce sl N h tgt lv st) (kf : ¬ x = 0 → XW Γ y cc nL ret dd Q ce sl N h (pc + 3) lv st) : XW Γ y cc nL ret dd Q ce sl N h pc lv (.int x :: st) := by
  obtain ⟨p, l, e, R, s, m, args, below, meth, c, Ω⟩ := Γ
  intro C H locs ls hH hl hv
  exact lv_if_eq C.ex C.co d g (fun q => kt q C H locs ls hH hl hv) (fun q => kf q C H locs ls hH hl hv)
theorem x_icmp_ne {x y₁ : Int32} {off : Int} (tgt : Nat) (d : decode cc pc = .ok (.if_icmp .ne off, 3)) (g : (pc : Int) + off = (tgt : Int)) (kt : ¬ x = y₁ → XW Γ y cc nL ret dd Q ce sl N h tgt lv st) (kf : x = y₁ → XW Γ y cc nL ret dd Q ce sl N h (pc + 3) lv st) : XW Γ y cc nL ret dd Q ce sl N h pc lv (.int y₁ :: .int x :: st) := by
  obtain ⟨p, l, e, R, s, m, args, below, meth, c, Ω⟩ := Γ
  intro C H locs ls hH hl hv
  exact lv_icmp_ne C.ex C.co d g (fun q => kt q C H locs ls hH hl hv) (fun q => kf q C H locs ls hH hl hv)
theorem x_if_ne {x : Int32} {off : Int} (tgt : Nat) (d : decode cc pc = .ok (.ifCond .ne off, 3)) (g : (pc : Int) + off = (tgt : Int)) (kt : ¬ x = 0 → XW Γ y cc nL ret dd Q ce sl N h tgt lv st) (kf : x = 0 → XW Γ y cc nL ret dd Q ce sl N h (pc + 3) lv st) : XW Γ y cc nL ret dd Q ce sl N h pc lv (.int x :: st) := by
  obtain ⟨p, l, e, R, s, m, args, below, meth, c, Ω⟩ := Γ
  intro C H locs ls hH hl hv
  exact lv_if_ne C.ex C.co d g (fun q => kt q C H locs ls hH hl hv) (fun q => kf q C H locs ls hH hl hv)
theorem x_icmp_lt {x y₁ : Int32} {off : Int} (tgt : Nat) (d : decode cc pc = .ok (.if_icmp .lt off, 3)) (g : (pc : Int) + off = (tgt : Int)) (kt : x < y₁ → XW Γ y cc nL ret dd Q ce sl N h tgt lv st) (kf : ¬ x < y₁ → XW Γ y cc nL ret dd Q ce sl N h (pc + 3) lv st) : XW Γ y cc nL ret dd Q ce sl N h pc lv (.int y₁ :: .int x :: st) := by
  obtain ⟨p, l, e, R, s, m, args, below, meth, c, Ω⟩ := Γ
  intro C H locs ls hH hl hv
  exact lv_icmp_lt C.ex C.co d g (fun q => kt q C H locs ls hH hl hv) (fun q => kf q C H locs ls hH hl hv)
theorem x_if_lt {x : Int32} {off : Int} (tgt : Nat) (d : decode cc pc = .ok (.ifCond .lt off, 3)) (g : (pc : Int) + off = (tgt : Int)) (kt : x < 0 → XW Γ y cc nL ret dd Q ce sl N h tgt lv st) (kf : ¬ x < 0 → XW Γ y cc nL ret dd Q ce sl N h (pc + 3) lv st) : XW Γ y cc nL ret dd Q ce sl N h pc lv (.int x :: st) := by
  obtain ⟨p, l, e, R, s, m, args, below, meth, c, Ω⟩ := Γ
  intro C H locs ls hH hl hv
  exact lv_if_lt C.ex C.co d g (fun q => kt q C H locs ls hH hl hv) (fun q => kf q C H locs ls hH hl hv)
theorem x_icmp_ge {x y₁ : Int32} {off : Int} (tgt : Nat) (d : decode cc pc = .ok (.if_icmp .ge off, 3)) (g : (pc : Int) + off = (tgt : Int)) (kt : y₁ ≤ x → XW Γ y cc nL ret dd Q ce sl N h tgt lv st) (kf : ¬ y₁ ≤ x → XW Γ y cc nL ret dd Q ce sl N h (pc + 3) lv st) : XW Γ y cc nL ret dd Q ce sl N h pc lv (.int y₁ :: .int x :: st) := by
  obtain ⟨p, l, e, R, s, m, args, below, meth, c, Ω⟩ := Γ
  intro C H locs ls hH hl hv
  exact lv_icmp_ge C.ex C.co d g (fun q => kt q C H locs ls hH hl hv) (fun q => kf q C H locs ls hH hl hv)
theorem x_if_ge {x : Int32} {off : Int} (tgt : Nat) (d : decode cc pc = .ok (.ifCond .ge off, 3)) (g : (pc : Int) + off = (tgt : Int)) (kt : 0 ≤ x → XW Γ y cc nL ret dd Q ce sl N h tgt lv st) (kf : ¬ 0 ≤ x → XW Γ y cc nL ret dd Q ce sl N h (pc + 3) lv st) : XW Γ y cc nL ret dd Q ce sl N h pc lv (.int x :: st) := by
  obtain ⟨p, l, e, R, s, m, args, below, meth, c, Ω⟩ := Γ
  intro C H locs ls hH hl hv
  exact lv_if_ge C.ex C.co d g (fun q => kt q C H locs ls hH hl hv) (fun q => kf q C H locs ls hH hl hv)
theorem x_icmp_gt {x y₁ : Int32} {off : Int} (tgt : Nat) (d : decode cc pc = .ok (.if_icmp .gt off, 3)) (g : (pc : Int) + off = (tgt : Int)) (kt : y₁ < x → XW Γ y cc nL ret dd Q ce sl N h tgt lv st) (kf : ¬ y₁ < x → XW Γ y cc nL ret dd Q ce sl N h (pc + 3) lv st) : XW Γ y cc nL ret dd Q ce sl N h pc lv (.int y₁ :: .int x :: st) := by
  obtain ⟨p, l, e, R, s, m, args, below, meth, c, Ω⟩ := Γ
  intro C H locs ls hH hl hv
  exact lv_icmp_gt C.ex C.co d g (fun q => kt q C H locs ls hH hl hv) (fun q => kf q C H locs ls hH hl hv)
theorem x_if_gt {x : Int32} {off : Int} (tgt : Nat) (d : decode cc pc = .ok (.ifCond .gt off, 3)) (g : (pc : Int) + off = (tgt : Int)) (kt : 0 < x → XW Γ y cc nL ret dd Q ce sl N h tgt lv st) (kf : ¬ 0 < x → XW Γ y cc nL ret dd Q ce sl N h (pc + 3) lv st) : XW Γ y cc nL ret dd Q ce sl N h pc lv (.int x :: st) := by
  obtain ⟨p, l, e, R, s, m, args, below, meth, c, Ω⟩ := Γ
  intro C H locs ls hH hl hv
  exact lv_if_gt C.ex C.co d g (fun q => kt q C H locs ls hH hl hv) (fun q => kf q C H locs ls hH hl hv)
theorem x_icmp_le {x y₁ : Int32} {off : Int} (tgt : Nat) (d : decode cc pc = .ok (.if_icmp .le off, 3)) (g : (pc : Int) + off = (tgt : Int)) (kt : x ≤ y₁ → XW Γ y cc nL ret dd Q ce sl N h tgt lv st) (kf : ¬ x ≤ y₁ → XW Γ y cc nL ret dd Q ce sl N h (pc + 3) lv st) : XW Γ y cc nL ret dd Q ce sl N h pc lv (.int y₁ :: .int x :: st) := by
  obtain ⟨p, l, e, R, s, m, args, below, meth, c, Ω⟩ := Γ
  intro C H locs ls hH hl hv
  exact lv_icmp_le C.ex C.co d g (fun q => kt q C H locs ls hH hl hv) (fun q => kf q C H locs ls hH hl hv)
theorem x_if_le {x : Int32} {off : Int} (tgt : Nat) (d : decode cc pc = .ok (.ifCond .le off, 3)) (g : (pc : Int) + off = (tgt : Int)) (kt : x ≤ 0 → XW Γ y cc nL ret dd Q ce sl N h tgt lv st) (kf : ¬ x ≤ 0 → XW Γ y cc nL ret dd Q ce sl N h (pc + 3) lv st) : XW Γ y cc nL ret dd Q ce sl N h pc lv (.int x :: st) := by
  obtain ⟨p, l, e, R, s, m, args, below, meth, c, Ω⟩ := Γ
  intro C H locs ls hH hl hv
  exact lv_if_le C.ex C.co d g (fun q => kt q C H locs ls hH hl hv) (fun q => kf q C H locs ls hH hl hv)
theorem x_goto {off : Int} (tgt : Nat) (d : decode cc pc = .ok (.goto off, 3)) (g : (pc : Int) + off = (tgt : Int)) (k : XW Γ y cc nL ret dd Q ce sl N h tgt lv st) : XW Γ y cc nL ret dd Q ce sl N h pc lv st := by
  obtain ⟨p, l, e, R, s, m, args, below, meth, c, Ω⟩ := Γ
  intro C H locs ls hH hl hv
  exact lv_goto C.ex C.co d g (k C H locs ls hH hl hv)
theorem x_tableOut {dflt lo hi : Int} {offs : Array Int} {len : Nat} {x : Int32} (tgt : Nat) (d : decode cc pc = .ok (.tableswitch dflt lo hi offs, len)) (g : x.toInt < lo ∨ hi < x.toInt) (ht : (pc : Int) + dflt = (tgt : Int)) (k : XW Γ y cc nL ret dd Q ce sl N h tgt lv st) : XW Γ y cc nL ret dd Q ce sl N h pc lv (.int x :: st) := by
  obtain ⟨p, l, e, R, s, m, args, below, meth, c, Ω⟩ := Γ
  intro C H locs ls hH hl hv
  exact lv_tableOut C.ex C.co d g ht (k C H locs ls hH hl hv)
theorem x_tableIn {dflt lo hi : Int} {offs : Array Int} {len : Nat} {x : Int32} {off : Int} (tgt : Nat) (d : decode cc pc = .ok (.tableswitch dflt lo hi offs, len)) (g1 : ¬ x.toInt < lo) (g2 : ¬ hi < x.toInt) (ho : offs[(x.toInt - lo).toNat]? = some off) (ht : (pc : Int) + off = (tgt : Int)) (k : XW Γ y cc nL ret dd Q ce sl N h tgt lv st) : XW Γ y cc nL ret dd Q ce sl N h pc lv (.int x :: st) := by
  obtain ⟨p, l, e, R, s, m, args, below, meth, c, Ω⟩ := Γ
  intro C H locs ls hH hl hv
  exact lv_tableIn C.ex C.co d g1 g2 ho ht (k C H locs ls hH hl hv)
theorem x_lookup {dflt : Int} {ps : Array (Int × Int)} {len : Nat} {x : Int32} {off : Int} (tgt : Nat) (d : decode cc pc = .ok (.lookupswitch dflt ps, len)) (hp : (ps.toList.zip (ps.toList.drop 1)).all (fun (a, next) => a.1 < next.1) = true) (ho : Op.lookupswitch.offset ps.toList dflt x.toInt = off) (ht : (pc : Int) + off = (tgt : Int)) (k : XW Γ y cc nL ret dd Q ce sl N h tgt lv st) : XW Γ y cc nL ret dd Q ce sl N h pc lv (.int x :: st) := by
  obtain ⟨p, l, e, R, s, m, args, below, meth, c, Ω⟩ := Γ
  intro C H locs ls hH hl hv
  exact lv_lookup C.ex C.co d hp ho ht (k C H locs ls hH hl hv)
end XR
end
section
/-! X: heap, calls, returns. -/
theorem xtys_at {tc : Nat → ClassId} {t : Nat} {ty : FieldType} (h : xtl[t]? = some ty) : (xtys tc)[t]? = some (tc t, ty) := by
  unfold xtys
  rw [List.getElem?_mapIdx, h]
  rfl
theorem xP1 {D : va_G} {cl : List vw_C} {x : Nat × va_E} {H : Heap} (h : va_at D cl x H) : va_P D cl [x] H := by
  intro k q hk
  cases k with
  | zero =>
    cases hk
    exact h
  | succ k => simp at hk
theorem xH_at {Ω : xO} {N : Nat} {h : xHp} {H : Heap} {k : Nat} (hH : xH Ω N h H) (hk : k < N) : va_at Ω.1 xcl (Ω.2.2.1 + k, xc Ω (h k)) H := hH.2.2.2.2 k hk
theorem xH_i {Ω : xO} {N : Nat} {h : xHp} {H : Heap} {k : Nat} (hH : xH Ω N h H) (hk : k < N) : xi Ω k = Ω.2.2.1 + k := xi_lt (Nat.lt_of_lt_of_le hk hH.1)
theorem xH_set {Ω : xO} {N : Nat} {h : xHp} {H H' : Heap} {q : Nat} {e : xE} (hH : xH Ω N h H) (hq : q < N) (hz : H'.size = H.size) (ho : ∀ a : Nat, a ≠ Ω.2.2.1 + q → H'[a]? = H[a]?) (he : va_at Ω.1 xcl (Ω.2.2.1 + q, xc Ω e) H') : xH Ω N (va_up h q e) H' := by
  obtain ⟨h1, h2, h3, h4, h5⟩ := hH
  refine ⟨h1, hz.trans h2, h3, fun a ha => (ho a (by omega)).trans (h4 a ha), fun k hk => ?_⟩
  by_cases e1 : k = q
  · subst e1
    have e2 : va_up h k e k = e := if_pos rfl
    rw [e2]
    exact he
  · have e2 : va_up h q e k = h k := if_neg e1
    rw [e2]
    exact (h5 k hk).kept (ho _ (by show Ω.2.2.1 + k ≠ _; omega))
theorem xH_push {Ω : xO} {N : Nat} {h : xHp} {H H' : Heap} {e : xE} (hH : xH Ω N h H) (hN : N < 1000000) (hz : H'.size = H.size + 1) (ho : ∀ a : Nat, a < H.size → H'[a]? = H[a]?) (he : va_at Ω.1 xcl (Ω.2.2.1 + N, xc Ω e) H') : xH Ω (N + 1) (va_up h N e) H' := by
  obtain ⟨h1, h2, h3, h4, h5⟩ := hH
  refine ⟨hN, by omega, h3, fun a ha => (ho a (by omega)).trans (h4 a ha), fun k hk => ?_⟩
  by_cases e1 : k = N
  · subst e1
    have e2 : va_up h k e k = e := if_pos rfl
    rw [e2]
    exact he
  · have e2 : va_up h N e k = h k := if_neg e1
    rw [e2]
    exact (h5 k (by omega)).kept (ho _ (by show Ω.2.2.1 + k < _; omega))
theorem xst.warm {Ω : xO} {u U : State} (hW : u.WarmedH U.vm) (h : xst Ω u) : xst Ω U := ⟨fun i q hq => ⟨(h.1 i q hq).1.moved hW.alike, (h.1 i q hq).2.moved hW.alike⟩, fun q hq => va_Nw.warmM hW (h.2.1 q hq), fun E hE => va_AO.moved hW.alike (h.2.2 E hE)⟩
theorem xst.same {Ω : xO} {u U : State} (e : u.vm = U.vm) (h : xst Ω u) : xst Ω U := by
  have hvm : u.vm.Alike U.vm := by rw [e]; exact Vm.Alike.refl _
  exact ⟨fun i q hq => ⟨(h.1 i q hq).1.moved hvm, (h.1 i q hq).2.moved hvm⟩, fun q hq => va_Nw.same rfl e (h.2.1 q hq), fun E hE => va_AO.moved hvm (h.2.2 E hE)⟩
theorem xs_i (c : ClassId) (n j : Nat) (f : Nat → Int32) (x : Int32) : (vp_cell c (n, .inl f)).setSlot j (.int x) = vp_cell c (n, .inl (upd f j x)) := by
  rw [vp_cell_i, vp_cell_i, arrV_store]
  congr 1
  funext q
  by_cases hq : q = j
  · subst hq
    simp [updV, upd]
  · simp [updV, upd, hq]
theorem xs_l (c : ClassId) (n j : Nat) (f : Nat → Int64) (x : Int64) : (vp_cell c (n, .inr (.inl f))).setSlot j (.long x) = vp_cell c (n, .inr (.inl (vp_updL f j x))) := by
  rw [vp_cell_l, vp_cell_l, arrV_store]
  congr 1
  funext q
  by_cases hq : q = j
  · subst hq
    simp [updV, vp_updL]
  · simp [updV, vp_updL, hq]
theorem xs_q (c : ClassId) (n j : Nat) (f : Nat → Option Nat) (x : Nat) : (vp_cell c (n, .inr (.inr (.inr (.inr f))))).setSlot j (.ref x) = vp_cell c (n, .inr (.inr (.inr (.inr (va_up f j (some x)))))) := by
  rw [vp_cell_q, vp_cell_q, arrV_store]
  congr 1
  funext q
  by_cases hq : q = j
  · subst hq
    simp [updV, va_up, va_rf]
  · simp [updV, va_up, hq]
theorem xlocs {b : Nat} {locs : List Loc} {a j : Nat} (hl : ∀ q ∈ locs, b ≤ q.base) (ha : b ≤ a) : ∀ q ∈ locs ++ [⟨a, j⟩], b ≤ q.base := by
  intro q hq
  rcases List.mem_append.mp hq with h | h
  · exact hl q h
  · rw [List.mem_singleton.mp h]
    exact ha
/-- a field of a class, by the constant pool of 'own': class number, slot, final, type -/
def xFld (own : String) (idx ci k : Nat) (fin : Bool) (ty : FieldType) : Prop := ∃ (C : String) (T : u_T) (Nf : Nat) (ty0 : Nat → FieldType), xcl[ci]? = some (C, T, Nf) ∧ k < Nf ∧ (∀ w ∈ u_ws C T Nf, w ∈ xBIG) ∧ Jvm.Cond.fieldLink own idx (T k).1 (T k).2.1 (T k).2.2.1 ∈ xBIG ∧ (T k).2.2.2 = fin ∧ (∀ j, j < Nf → parseFieldDescriptor (T j).2.2.1 = some (ty0 j)) ∧ ty0 k = ty ∧ (∀ a, a < Nf → ∀ b, b < Nf → a ≠ b → (T a).2.1 ≠ (T b).2.1) ∧ (fin = true → (T k).1 = own)
/-- a class that is made: its number, its fields at birth -/
def xCls (own : String) (idx ci nf : Nat) (fs : List Value) : Prop := ∃ (C : String) (T : u_T) (ty0 : Nat → FieldType), xcl[ci]? = some (C, T, nf) ∧ (∀ w ∈ u_ws C T nf, w ∈ xBIG) ∧ Jvm.Cond.classLink own idx C ∈ xBIG ∧ Jvm.Cond.instantiable C nf ∈ xBIG ∧ Jvm.Cond.initialized C ∈ xBIG ∧ (∀ j, j < nf → parseFieldDescriptor (T j).2.2.1 = some (ty0 j)) ∧ (∀ j, j < nf → defaultValue (ty0 j) = vp_V fs j) ∧ ∀ (Ω : xO) (j : Nat), vp_V (fs.map (xv Ω)) j = vp_V fs j
section XR2
variable {Γ : xG} {y : MethodName} {cc : ByteArray} {nL : Nat} {ret : Option FieldType} {dd : Nat × Nat × Nat} {Q : State → Prop} {ce sl N : Nat} {h : xHp} {pc : Nat} {lv : List (Option Value)} {st : List Value}
theorem x_get {idx ci j q : Nat} {fin : Bool} {ty : FieldType} {fs : List Value} {v : Value} (F : xFld y.cls idx ci j fin ty) (d : decode cc pc = .ok (.getfield idx, 3)) (hq : q < N) (hh : h q = .inr (ci, fs)) (g : fs[j]? = some v) (k : XW Γ y cc nL ret dd Q ce sl N h (pc + 3) lv (v :: st)) : XW Γ y cc nL ret dd Q ce sl N h pc lv (.ref q :: st) := by
  obtain ⟨p, l, e, R, s, m, args, below, meth, c, Ω⟩ := Γ
  intro C H locs ls hH hl hv
  obtain ⟨C0, T, Nf, ty0, f1, f2, f3, f4, -⟩ := F
  have hc := xH_at hH hq
  rw [hh] at hc
  show W p l e R s m args below meth c H locs ce sl Q (F0 m pc ls (.ref (xi Ω q) :: st.map (xv Ω)))
  rw [xH_i hH hq]
  exact va_get (D := Ω.1) (T := T) C.ex C.co C.ts f3 C.ow C.K (xP1 hc) 0 rfl f1 j f2 (C.ts _ f4) (fun _ h9 => h9) (by rw [List.getElem?_map, g]; rfl) d (k C H locs ls hH hl hv)
theorem x_put {idx ci j q : Nat} {ty : FieldType} {fs : List Value} {v : Value} (F : xFld y.cls idx ci j false ty) (d : decode cc pc = .ok (.putfield idx, 3)) (hq : q < N) (hh : h q = .inr (ci, fs)) (g : j < fs.length) (hn : ∀ Ω, narrow ty (xv Ω v) = xv Ω v ∧ fits ty (xv Ω v) = true) (k : XW Γ y cc nL ret dd Q ce sl N (va_up h q (.inr (ci, fs.set j v))) (pc + 3) lv st) : XW Γ y cc nL ret dd Q ce sl N h pc lv (v :: .ref q :: st) := by
  obtain ⟨p, l, e, R, s, m, args, below, meth, c, Ω⟩ := Γ
  intro C H locs ls hH hl hv
  obtain ⟨C0, T, Nf, ty0, f1, f2, f3, f4, f5, f6, f7, f8, -⟩ := F
  have hts := C.ts
  have hK := C.K
  have hap := va_apart (own := y.cls) hts f3 ty0 f6 f8 hK f1
  have hc := xH_at hH hq
  rw [hh] at hc
  obtain ⟨r, g1, cell, g2, g3, g4, g5⟩ := hc
  have hr : r = (C0, T, Nf) := Option.some.inj (g1.symm.trans f1)
  subst hr
  obtain ⟨hS, hfc, kC, hkC, hkind⟩ := hK.1 ci _ f1
  obtain ⟨cf, kf, fi, f, hi, hsl⟩ := hS j f2
  have hlay := hts _ (f3 _ (u_in_lay f2))
  unfold u_lay at hlay
  rw [if_neg (by rw [f5]; decide)] at hlay
  have hst := (u_facts hfc hkC (u_lays hts f3 f2) hi).1
  have h6 := u_store hfc hkC hkind hlay hi (by rw [f6 j f2, f7]) (hn Ω).1 (hn Ω).2
  show W p l e R s m args below meth c H locs ce sl Q (F0 m pc ls (xv Ω v :: .ref (xi Ω q) :: st.map (xv Ω)))
  rw [xH_i hH hq]
  refine W.putK C.ex C.co (f := f) ⟨C.ow, hts _ f4, ⟨_, _, _, hi⟩, hst⟩ (by rw [g3]; exact h6) g2 g4 (by rw [hsl]; exact k2_hasslot (g5 j f2)) rfl rfl d fun H' e1 e2 e3 => ?_
  rw [hsl] at e1 ⊢
  refine k C H' _ ls (xH_set hH hq e2 e3 ⟨_, f1, t_OB.to (V := updV (vp_V (fs.map (xv Ω))) j (xv Ω v)) ⟨_, e1, g3, g4, t_set g5 hap f2 _⟩ (fun i _ => ?_)⟩) (xlocs hl (Nat.le_add_right _ _)) hv
  rw [vp_updV_set (by simpa using g)]
  show _ = vp_V ((fs.set j v).map (xv Ω)) i
  rw [List.map_set]
theorem x_putF {idx ci j q : Nat} {ty : FieldType} {fs : List Value} {v : Value} (F : xFld y.cls idx ci j true ty) (hin : y.name = "<init>") (d : decode cc pc = .ok (.putfield idx, 3)) (hq : q < N) (hh : h q = .inr (ci, fs)) (g : j < fs.length) (hn : ∀ Ω, narrow ty (xv Ω v) = xv Ω v ∧ fits ty (xv Ω v) = true) (k : XW Γ y cc nL ret dd Q ce sl N (va_up h q (.inr (ci, fs.set j v))) (pc + 3) lv st) : XW Γ y cc nL ret dd Q ce sl N h pc lv (v :: .ref q :: st) := by
  obtain ⟨p, l, e, R, s, m, args, below, meth, c, Ω⟩ := Γ
  intro C H locs ls hH hl hv
  obtain ⟨C0, T, Nf, ty0, f1, f2, f3, f4, f5, f6, f7, f8, f9⟩ := F
  have hts := C.ts
  have hK := C.K
  have hap := va_apart (own := y.cls) hts f3 ty0 f6 f8 hK f1
  have hc := xH_at hH hq
  rw [hh] at hc
  obtain ⟨r, g1, cell, g2, g3, g4, g5⟩ := hc
  have hr : r = (C0, T, Nf) := Option.some.inj (g1.symm.trans f1)
  subst hr
  obtain ⟨hS, hfc, kC, hkC, hkind⟩ := hK.1 ci _ f1
  obtain ⟨cf, kf, fi, f, hi, hsl⟩ := hS j f2
  have hlay := hts _ (f3 _ (u_in_lay f2))
  unfold u_lay at hlay
  rw [if_pos f5] at hlay
  have hst := (u_facts hfc hkC (u_lays hts f3 f2) hi).1
  have hcf : m.cls = cf := by
    obtain ⟨_, _, c', _, _, _, -, -, hf', -, -, -, hown2, -⟩ := Cond.laysFinal_spec hlay
    have e1 : c' = cf := by
      have := hi.symm.trans hf'
      simp at this
      exact this.1.symm
    rw [f9 rfl] at hown2
    rw [← e1]
    exact Option.some.inj (C.ow.symm.trans hown2)
  have h6 := u_fits hfc hkC hkind (Or.inr hlay) hi (by rw [f6 j f2, f7]) (hn Ω).1 (hn Ω).2
  show W p l e R s m args below meth c H locs ce sl Q (F0 m pc ls (xv Ω v :: .ref (xi Ω q) :: st.map (xv Ω)))
  rw [xH_i hH hq]
  refine W.putFinK C.ex C.co C.ow (hts _ f4) hi hst hcf (by rw [C.nm]; exact hin) (by rw [g3]; exact h6) g2 g4 (by rw [hsl]; exact k2_hasslot (g5 j f2)) rfl rfl d fun H' e1 e2 e3 => ?_
  rw [hsl] at e1 ⊢
  refine k C H' _ ls (xH_set hH hq e2 e3 ⟨_, f1, t_OB.to (V := updV (vp_V (fs.map (xv Ω))) j (xv Ω v)) ⟨_, e1, g3, g4, t_set g5 hap f2 _⟩ (fun i _ => ?_)⟩) (xlocs hl (Nat.le_add_right _ _)) hv
  rw [vp_updV_set (by simpa using g)]
  show _ = vp_V ((fs.set j v).map (xv Ω)) i
  rw [List.map_set]
theorem x_iald {q n : Nat} {f : Nat → Int32} {i : Int32} (d : decode cc pc = .ok (.iaload, 1)) (hq : q < N) (hh : h q = .inl (0, n, .inl f)) (hi : vp_in i n) (k : XW Γ y cc nL ret dd Q ce sl N h (pc + 1) lv (.int (f i.toNatClampNeg) :: st)) : XW Γ y cc nL ret dd Q ce sl N h pc lv (.int i :: .ref q :: st) := by
  obtain ⟨p, l, e, R, s, m, args, below, meth, c, Ω⟩ := Γ
  intro C H locs ls hH hl hv
  have hc := xH_at hH hq
  rw [hh] at hc
  show W p l e R s m args below meth c H locs ce sl Q (F0 m pc ls (.int i :: .ref (xi Ω q) :: st.map (xv Ω)))
  rw [xH_i hH hq]
  exact va_iald C.ex C.co C.K (xP1 hc) 0 0 rfl (xtys_at rfl) hi d (k C H locs ls hH hl hv)
theorem x_cald {q n : Nat} {f : Nat → Int32} {i : Int32} (d : decode cc pc = .ok (.caload, 1)) (hq : q < N) (hh : h q = .inl (1, n, .inl f)) (hi : vp_in i n) (k : XW Γ y cc nL ret dd Q ce sl N h (pc + 1) lv (.int (f i.toNatClampNeg) :: st)) : XW Γ y cc nL ret dd Q ce sl N h pc lv (.int i :: .ref q :: st) := by
  obtain ⟨p, l, e, R, s, m, args, below, meth, c, Ω⟩ := Γ
  intro C H locs ls hH hl hv
  have hc := xH_at hH hq
  rw [hh] at hc
  show W p l e R s m args below meth c H locs ce sl Q (F0 m pc ls (.int i :: .ref (xi Ω q) :: st.map (xv Ω)))
  rw [xH_i hH hq]
  exact va_cald C.ex C.co C.K (xP1 hc) 0 1 rfl (xtys_at rfl) hi d (k C H locs ls hH hl hv)
theorem x_lald {q n : Nat} {f : Nat → Int64} {i : Int32} (d : decode cc pc = .ok (.laload, 1)) (hq : q < N) (hh : h q = .inl (2, n, .inr (.inl f))) (hi : vp_in i n) (k : XW Γ y cc nL ret dd Q ce sl N h (pc + 1) lv (.long (f i.toNatClampNeg) :: st)) : XW Γ y cc nL ret dd Q ce sl N h pc lv (.int i :: .ref q :: st) := by
  obtain ⟨p, l, e, R, s, m, args, below, meth, c, Ω⟩ := Γ
  intro C H locs ls hH hl hv
  have hc := xH_at hH hq
  rw [hh] at hc
  show W p l e R s m args below meth c H locs ce sl Q (F0 m pc ls (.int i :: .ref (xi Ω q) :: st.map (xv Ω)))
  rw [xH_i hH hq]
  exact va_lald C.ex C.co C.K (xP1 hc) 0 2 rfl (xtys_at rfl) hi d (k C H locs ls hH hl hv)
/-- an array of references: tag t, class E -/
theorem x_aald {t q n v : Nat} {E : String} {f : Nat → Option Nat} {i : Int32} (ht : xtl[t]? = some (.object E)) (d : decode cc pc = .ok (.aaload, 1)) (hq : q < N) (hh : h q = .inl (t, n, .inr (.inr (.inr (.inr f))))) (hi : vp_in i n) (hf : f i.toNatClampNeg = some v) (k : XW Γ y cc nL ret dd Q ce sl N h (pc + 1) lv (.ref v :: st)) : XW Γ y cc nL ret dd Q ce sl N h pc lv (.int i :: .ref q :: st) := by
  obtain ⟨p, l, e, R, s, m, args, below, meth, c, Ω⟩ := Γ
  intro C H locs ls hH hl hv
  have hc := xH_at hH hq
  rw [hh] at hc
  show W p l e R s m args below meth c H locs ce sl Q (F0 m pc ls (.int i :: .ref (xi Ω q) :: st.map (xv Ω)))
  rw [xH_i hH hq]
  refine va_aldq (f := fun j => (f j).map (xi Ω)) C.ex C.co C.K (xP1 hc) 0 t rfl (xtys_at ht) hi d ?_
  rw [hf]
  exact k C H locs ls hH hl hv
theorem x_alen {t q : Nat} {a : vp_A} {ty : FieldType} {v : Int32} (d : decode cc pc = .ok (.arraylength, 1)) (hq : q < N) (hh : h q = .inl (t, a)) (ht : xtl[t]? = some ty) (g : Int32.ofNat a.1 = v) (k : XW Γ y cc nL ret dd Q ce sl N h (pc + 1) lv (.int v :: st)) : XW Γ y cc nL ret dd Q ce sl N h pc lv (.ref q :: st) := by
  obtain ⟨p, l, e, R, s, m, args, below, meth, c, Ω⟩ := Γ
  intro C H locs ls hH hl hv
  have hc := xH_at hH hq
  rw [hh] at hc
  show W p l e R s m args below meth c H locs ce sl Q (F0 m pc ls (.ref (xi Ω q) :: st.map (xv Ω)))
  rw [xH_i hH hq]
  exact va_alen (x := xa Ω a) C.ex C.co C.K (xP1 hc) 0 t rfl (xtys_at ht) g d (k C H locs ls hH hl hv)
theorem x_iast {q n : Nat} {f : Nat → Int32} {i x : Int32} (d : decode cc pc = .ok (.iastore, 1)) (hq : q < N) (hh : h q = .inl (0, n, .inl f)) (hi : vp_in i n) (k : XW Γ y cc nL ret dd Q ce sl N (va_up h q (.inl (0, n, .inl (upd f i.toNatClampNeg x)))) (pc + 1) lv st) : XW Γ y cc nL ret dd Q ce sl N h pc lv (.int x :: .int i :: .ref q :: st) := by
  obtain ⟨p, l, e, R, s, m, args, below, meth, c, Ω⟩ := Γ
  intro C H locs ls hH hl hv
  have hc := xH_at hH hq
  rw [hh] at hc
  have hA := (C.K.2 0 _ (xtys_at rfl)).1 n (fun j => .int (f j))
  show W p l e R s m args below meth c H locs ce sl Q (F0 m pc ls (.int x :: .int i :: .ref (xi Ω q) :: st.map (xv Ω)))
  rw [xH_i hH hq]
  refine W.iast C.ex C.co hc hA (fun z => by cases z) (by show ¬ (i < 0 ∨ (arrV _ _ _).slots.size ≤ _); rw [arrV_size]; exact hi) rfl rfl d fun H' e1 e2 e3 => ?_
  refine k C H' _ ls (xH_set hH hq e2 e3 ?_) (xlocs hl (Nat.le_add_right _ _)) hv
  show H'[_]? = some (vp_cell _ (n, .inl _))
  rw [e1]
  exact congrArg some (xs_i _ _ _ _ _)
theorem x_cast {q n : Nat} {f : Nat → Int32} {i x : Int32} (d : decode cc pc = .ok (.castore, 1)) (hq : q < N) (hh : h q = .inl (1, n, .inl f)) (hi : vp_in i n) (hx : narrow .char (.int x) = .int x) (k : XW Γ y cc nL ret dd Q ce sl N (va_up h q (.inl (1, n, .inl (upd f i.toNatClampNeg x)))) (pc + 1) lv st) : XW Γ y cc nL ret dd Q ce sl N h pc lv (.int x :: .int i :: .ref q :: st) := by
  obtain ⟨p, l, e, R, s, m, args, below, meth, c, Ω⟩ := Γ
  intro C H locs ls hH hl hv
  have hc := xH_at hH hq
  rw [hh] at hc
  have hA := (C.K.2 1 _ (xtys_at rfl)).1 n (fun j => .int (f j))
  show W p l e R s m args below meth c H locs ce sl Q (F0 m pc ls (.int x :: .int i :: .ref (xi Ω q) :: st.map (xv Ω)))
  rw [xH_i hH hq]
  refine W.cast C.ex C.co hc hA (fun z => by cases z) (by show ¬ (i < 0 ∨ (arrV _ _ _).slots.size ≤ _); rw [arrV_size]; exact hi) rfl rfl d fun H' e1 e2 e3 => ?_
  rw [hx] at e1
  refine k C H' _ ls (xH_set hH hq e2 e3 ?_) (xlocs hl (Nat.le_add_right _ _)) hv
  show H'[_]? = some (vp_cell _ (n, .inl _))
  rw [e1]
  exact congrArg some (xs_i _ _ _ _ _)
theorem x_last {q n : Nat} {f : Nat → Int64} {i : Int32} {x : Int64} (d : decode cc pc = .ok (.lastore, 1)) (hq : q < N) (hh : h q = .inl (2, n, .inr (.inl f))) (hi : vp_in i n) (k : XW Γ y cc nL ret dd Q ce sl N (va_up h q (.inl (2, n, .inr (.inl (vp_updL f i.toNatClampNeg x))))) (pc + 1) lv st) : XW Γ y cc nL ret dd Q ce sl N h pc lv (.long x :: .int i :: .ref q :: st) := by
  obtain ⟨p, l, e, R, s, m, args, below, meth, c, Ω⟩ := Γ
  intro C H locs ls hH hl hv
  have hc := xH_at hH hq
  rw [hh] at hc
  have hA := (C.K.2 2 _ (xtys_at rfl)).1 n (fun j => .long (f j))
  show W p l e R s m args below meth c H locs ce sl Q (F0 m pc ls (.long x :: .int i :: .ref (xi Ω q) :: st.map (xv Ω)))
  rw [xH_i hH hq]
  refine W.last C.ex C.co hc hA (fun z => by cases z) (by show ¬ (i < 0 ∨ (arrV _ _ _).slots.size ≤ _); rw [arrV_size]; exact hi) rfl rfl d fun H' e1 e2 e3 => ?_
  refine k C H' _ ls (xH_set hH hq e2 e3 ?_) (xlocs hl (Nat.le_add_right _ _)) hv
  show H'[_]? = some (vp_cell _ (n, .inr (.inl _)))
  rw [e1]
  exact congrArg some (xs_l _ _ _ _ _)
theorem x_aast {t q n v ci : Nat} {r : vw_C} {vs : List Value} {f : Nat → Option Nat} {i : Int32} (ht : xtl[t]? = some (.object r.1)) (d : decode cc pc = .ok (.aastore, 1)) (hq : q < N) (hh : h q = .inl (t, n, .inr (.inr (.inr (.inr f))))) (hi : vp_in i n) (hv0 : v < N) (hhv : h v = .inr (ci, vs)) (hci : xcl[ci]? = some r) (k : XW Γ y cc nL ret dd Q ce sl N (va_up h q (.inl (t, n, .inr (.inr (.inr (.inr (va_up f i.toNatClampNeg (some v)))))))) (pc + 1) lv st) : XW Γ y cc nL ret dd Q ce sl N h pc lv (.ref v :: .int i :: .ref q :: st) := by
  obtain ⟨p, l, e, R, s, m, args, below, meth, c, Ω⟩ := Γ
  intro C H locs ls hH hl hv
  have hlt : i.toNatClampNeg < n := Nat.not_le.mp fun z => hi (Or.inr z)
  have h0 : ¬ i < 0 := fun z => hi (Or.inl z)
  have hc := xH_at hH hq
  rw [hh] at hc
  have hcv := xH_at hH hv0
  rw [hhv] at hcv
  have hK := C.K
  obtain ⟨r', -, cellV, g1, g2, g3, -⟩ := hcv
  have hcls := (hK.1 ci r hci).2
  obtain ⟨kA, comp, k1, k2, k3, -⟩ := (hK.2 t _ (xtys_at ht)).2
  have hcomp : comp = Ω.1.1 ci := Option.some.inj (k3.symm.trans hcls.1)
  subst hcomp
  obtain ⟨kC, hkC, -⟩ := hcls.2
  show W p l e R s m args below meth c H locs ce sl Q (F0 m pc ls (.ref (xi Ω v) :: .int i :: .ref (xi Ω q) :: st.map (xv Ω)))
  rw [xH_i hH hq, xH_i hH hv0]
  refine W.aast C.ex C.co hc (fun z w => by cases w) (fun w => by cases w) k1 k2 rfl hkC ⟨h0, by show _ < (arrV _ _ _).slots.size; rw [arrV_size]; exact hlt⟩ g1 (fun z w => by rw [g3] at w; cases w) (by rw [g2]; exact hkC) (by rw [g2]; exact va_assign hcls) rfl rfl d fun H' e1 e2 e3 => ?_
  refine k C H' _ ls (xH_set hH hq e2 e3 ?_) (xlocs hl (Nat.le_add_right _ _)) hv
  show H'[_]? = some (vp_cell _ (n, .inr (.inr (.inr (.inr _)))))
  rw [e1]
  refine congrArg some ((xs_q _ _ _ _ _).trans ?_)
  congr 6
  funext z
  by_cases hz : z = i.toNatClampNeg
  · subst hz
    simp [va_up, xH_i hH hv0]
  · simp [va_up, hz]
theorem x_new {idx ci nf : Nat} {fs : List Value} (F : xCls y.cls idx ci nf fs) (d : decode cc pc = .ok (.new idx, 3)) (hN : N < 1000000) (hce : ce + 1 ≤ dd.2.1 ∧ sl + nf ≤ dd.2.2) (k : XW Γ y cc nL ret dd Q (ce + 1) (sl + nf) (N + 1) (va_up h N (.inr (ci, fs))) (pc + 3) lv (.ref N :: st)) : XW Γ y cc nL ret dd Q ce sl N h pc lv st := by
  obtain ⟨p, l, e, R, s, m, args, below, meth, c, Ω⟩ := Γ
  intro C H locs ls hH hl hv
  obtain ⟨C0, T, ty0, f1, f2, f3, f4, f5, f6, f7, f8⟩ := F
  have hts := C.ts
  have hKn := C.K.1 ci _ f1
  have hcap := C.cap
  refine W.newcK C.ex C.co C.ow (hts _ f3) (hts _ f4) (hts _ f5) rfl d (Nat.le_trans hce.1 hcap.1) (Nat.le_trans hce.2 hcap.2) hKn.2.1 rfl fun H1 kC hkC e1 z1 o1 => ?_
  have e0 : H.size = Ω.2.2.1 + N := hH.2.1
  rw [e0] at e1 z1 o1 ⊢
  have hx : xi Ω N = Ω.2.2.1 + N := xi_lt hN
  have := k C H1 locs ls (xH_push hH hN (by rw [z1, e0]) (fun a ha => o1 a (by rw [← e0]; exact ha)) ⟨_, f1, (u_born ty0 hts f2 hKn hkC e1 f6).to (fun j hj => (f7 j hj).trans (f8 Ω j).symm)⟩) hl hv
  rw [← hx]
  exact this
theorem x_newa {t n : Nat} {i : Int32} {atype : ArrayType} {ty : FieldType} {a0 : vp_A} (hty : newarray.typeOf atype = ty) (hw : Jvm.Cond.arrayClass ty ∈ xBIG) (ht : xtl[t]? = some ty) (hobj : ∀ E, ty ≠ .object E) (ha : ∀ (Ω : xO) (cA : ClassId), vp_cell cA (xa Ω a0) = arrV cA n (fun _ => defaultValue ty)) (d : decode cc pc = .ok (.newarray atype, 2)) (hn : ¬ i < 0) (hi : i.toNatClampNeg = n) (hb : n * componentBytes ty ≤ 536870912) (hN : N < 1000000) (hce : ce + 1 ≤ dd.2.1 ∧ sl + n ≤ dd.2.2) (k : XW Γ y cc nL ret dd Q (ce + 1) (sl + n) (N + 1) (va_up h N (.inl (t, a0))) (pc + 2) lv (.ref N :: st)) : XW Γ y cc nL ret dd Q ce sl N h pc lv (.int i :: st) := by
  obtain ⟨p, l, e, R, s, m, args, below, meth, c, Ω⟩ := Γ
  intro C H locs ls hH hl hv
  have hcap := C.cap
  have hra := (C.K.2 t _ (xtys_at ht)).2
  subst hty
  refine va_newaK C.ex C.co (C.ts _ hw) rfl d rfl hn hi hb (Nat.le_trans hce.1 hcap.1) (Nat.le_trans hce.2 hcap.2) rfl fun H1 cA e1 z1 o1 hAr hNm => ?_
  have hcA : cA = Ω.2.1 t := by
    have e9 : s.vm.findClass ("[" ++ (newarray.typeOf atype).toString) = some (Ω.2.1 t) := by
      cases atype <;> exact hra
    exact Option.some.inj (hNm.symm.trans e9)
  subst hcA
  have e0 : H.size = Ω.2.2.1 + N := hH.2.1
  rw [e0] at e1 z1 o1 ⊢
  have hx : xi Ω N = Ω.2.2.1 + N := xi_lt hN
  have := k C H1 locs ls (xH_push hH hN (by rw [z1, e0]) (fun a h9 => o1 a (by rw [← e0]; exact h9)) (by
    show H1[_]? = some (vp_cell _ (xa Ω a0))
    rw [ha]
    exact e1)) hl hv
  rw [← hx]
  exact this
theorem x_anew {t n idx : Nat} {i : Int32} {E : String} (hw : Jvm.Cond.classLink y.cls idx E ∈ xBIG ∧ E ∈ xao) (ht : xtl[t]? = some (.object E)) (d : decode cc pc = .ok (.anewarray idx, 3)) (hn : ¬ i < 0) (hi : i.toNatClampNeg = n) (hb : n * 4 ≤ 536870912) (hN : N < 1000000) (hce : ce + 1 ≤ dd.2.1 ∧ sl + n ≤ dd.2.2) (k : XW Γ y cc nL ret dd Q (ce + 1) (sl + n) (N + 1) (va_up h N (.inl (t, n, .inr (.inr (.inr (.inr (fun _ => none))))))) (pc + 3) lv (.ref N :: st)) : XW Γ y cc nL ret dd Q ce sl N h pc lv (.int i :: st) := by
  obtain ⟨p, l, e, R, s, m, args, below, meth, c, Ω⟩ := Γ
  intro C H locs ls hH hl hv
  have hcap := C.cap
  obtain ⟨kA', comp', -, -, -, hNm⟩ := (C.K.2 t _ (xtys_at ht)).2
  subst hi
  refine W.anew C.ex C.co C.ow (C.ts _ hw.1) (va_AO.use (C.st.2.2 _ hw.2)) rfl d rfl hn hb (Nat.le_trans hce.1 hcap.1) (Nat.le_trans hce.2 hcap.2) fun cA kA comp f1 f2 f3 f4 => ?_
  have hcA : cA = Ω.2.1 t := Option.some.inj (f1.symm.trans hNm)
  subst hcA
  generalize hH1 : H.push ({ cls := Ω.2.1 t, slots := Array.replicate i.toNatClampNeg .null, vm := .none } : Cell) = H1
  have z1 : H1.size = H.size + 1 := by rw [← hH1, Array.size_push]
  have e1 : H1[H.size]? = some (arrV (Ω.2.1 t) i.toNatClampNeg (fun _ => .null)) := by rw [← hH1, Array.getElem?_push_size, ← arrV_new]
  have o1 : ∀ q : Nat, q < H.size → H1[q]? = H[q]? := fun q hq => by rw [← hH1, Array.getElem?_push, if_neg (Nat.ne_of_lt hq)]
  have e0 : H.size = Ω.2.2.1 + N := hH.2.1
  have hx : xi Ω N = H.size := by rw [e0]; exact xi_lt hN
  have := k C H1 locs ls (xH_push hH hN z1 o1 (by
    show H1[Ω.2.2.1 + N]? = some (vp_cell _ (_, .inr (.inr (.inr (.inr _)))))
    rw [← e0, vp_cell_q]
    exact e1)) hl hv
  show W p l e R s m args below meth c H1 locs _ _ Q (F0 m (pc + 3) ls (.ref H.size :: st.map (xv Ω)))
  rw [← hx]
  exact this
/-- a static table -/
theorem x_gets {idx i : Nat} {q : xS} (hq : xsl[i]? = some q) (w : Jvm.Cond.fieldLink y.cls idx q.1 q.2.1 q.2.2.1 ∈ xBIG) (d : decode cc pc = .ok (.getstatic idx, 3)) (k : XW Γ y cc nL ret dd Q ce sl N h (pc + 3) lv (.ref (1000001 + i) :: st)) : XW Γ y cc nL ret dd Q ce sl N h pc lv st := by
  obtain ⟨p, l, e, R, s, m, args, below, meth, c, Ω⟩ := Γ
  intro C H locs ls hH hl hv
  obtain ⟨cf, kf, fi, f, a, cell, h1, h2, h3, h4, h5, h6, h7, h8⟩ := (C.st.1 i q hq).1
  have e9 : xi Ω (1000001 + i) = Ω.2.2.2.1 (i + 1) := by
    unfold xi
    rw [if_neg (by omega), show 1000001 + i - 1000000 = i + 1 by omega]
  have hk := k C H locs ls hH hl hv
  have hk2 : W p l e R s m args below meth c H locs ce sl Q (F0 m (pc + 3) ls (.ref (xi Ω (1000001 + i)) :: st.map (xv Ω))) := hk
  rw [e9] at hk2
  exact W.gets C.ex C.co C.ow (C.ts _ w) h1 h2 h3 h4 (by rw [hH.2.2.2.1 a (Nat.not_le.mp h8)]; exact h5) (fun z => by rw [z] at h6; cases h6) h7 rfl d hk2
theorem x_tald {j : Nat} {q : xS} {i v : Int32} (hq : xsl[j]? = some q) (hty : q.2.2.2.1 = .int) (d : decode cc pc = .ok (.iaload, 1)) (hi : vp_in i q.2.2.2.2.1) (hf : q.2.2.2.2.2 i.toNatClampNeg = .int v) (k : XW Γ y cc nL ret dd Q ce sl N h (pc + 1) lv (.int v :: st)) : XW Γ y cc nL ret dd Q ce sl N h pc lv (.int i :: .ref (1000001 + j) :: st) := by
  obtain ⟨p, l, e, R, s, m, args, below, meth, c, Ω⟩ := Γ
  intro C H locs ls hH hl hv
  obtain ⟨cell, h1, h2, h3, h4, h5, h6, h7⟩ := (C.st.1 j q hq).2
  rw [hty] at h2
  have e9 : xi Ω (1000001 + j) = Ω.2.2.2.1 (j + 1) := by
    unfold xi
    rw [if_neg (by omega), show 1000001 + j - 1000000 = j + 1 by omega]
  show W p l e R s m args below meth c H locs ce sl Q (F0 m pc ls (.int i :: .ref (xi Ω (1000001 + j)) :: st.map (xv Ω)))
  rw [e9]
  have hlt : i.toNatClampNeg < q.2.2.2.2.1 := Nat.not_le.mp fun z => hi (Or.inr z)
  have hin' : ¬ (i < 0 ∨ cell.slots.size ≤ i.toNatClampNeg) := by
    intro z
    rcases z with z | z
    · exact hi (Or.inl z)
    · omega
  exact W.iald (v := .int v) C.ex C.co (by rw [hH.2.2.2.1 _ (Nat.not_le.mp h7)]; exact h1) h2 h3 hin' (by rw [h6 _ hlt, hf]) rfl rfl d (k C H locs ls hH hl hv)
end XR2
end
section
/-! X: contracts (XM), calls, returns. -/
def xPc (Ω : xO) (av : List Value) (N : Nat) (h : xHp) : Array Value → State → Prop := va_Pc (av.map (xv Ω)) (fun U => xH Ω N h U.heap ∧ va_K Ω.1 xcl (xtys Ω.2.1) U ∧ xst Ω U)
def xQc (Ω : xO) (N : Nat) (Qp : Option Value → xHp → Prop) : Array Value → State → Outcome → State → Prop := fun _ _ o t => ∃ (r : Option Value) (h' : xHp), o = .returned (r.map (xv Ω)) ∧ Qp r h' ∧ xH Ω N h' t.heap
def xroom (d mc ms : Nat) : Room := { frames := d, cells := mc, slots := ms, locals := 48 * d }
/-- method y's contract: with arguments av over the cells h it returns r, and the cells are h', so that Qp r h'; it nests d deep at most; it makes mc cells of ms slots -/
def XM (y : MethodName) (bytes : ByteArray) (maxL : Nat) (ret : Option FieldType) (d mc ms : Nat) (av : List Value) (N : Nat) (h : xHp) (Qp : Option Value → xHp → Prop) : Prop :=
  ∀ (l : Launch) (Ω : xO), Met l y (Jvm.Cond.code y bytes maxL ret :: xBIG) (xroom d mc ms) (xPc Ω av N h) (xQc Ω (N + mc) Qp) mc ms (fun q => Ω.2.2.1 ≤ q)
def xQ (Γ : xG) (N mc ms : Nat) (Qp : Option Value → xHp → Prop) : State → Prop :=
  match Γ with
  | (_, _, _, _, s, _, args, below, _, _, Ω) => MQ below (xQc Ω N Qp) args s mc ms (fun q => Ω.2.2.1 ≤ q)
theorem xPc_blind (Ω : xO) (av : List Value) (N : Nat) (h : xHp) : FrameBlind (xPc Ω av N h) := by
  intro a U g mk q
  obtain ⟨q0, q1, q2, q3⟩ := q
  exact ⟨q0, q1, va_K.moved (u := U) (U := U.calling g mk a) (Vm.Alike.refl U.vm) q2, xst.same (u := U) (U := U.calling g mk a) rfl q3⟩
theorem xM_intro {y : MethodName} {cc : ByteArray} {nL : Nat} {ret : Option FieldType} {d mc ms : Nat} {av : List Value} {N : Nat} {h : xHp} {Qp : Option Value → xHp → Prop} (lv0 : List (Option Value)) (hy : plainName y.cls = true) (hlv : ∀ Ω, xl Ω 0 lv0 = lv_args 0 (av.map (xv Ω))) (hlen : ∀ Ω, (lg_sl (av.map (xv Ω))).length ≤ nL) (body : ∀ Γ, XW Γ y cc nL ret (d, mc, ms) (xQ Γ (N + mc) mc ms Qp) 0 0 N h 0 lv0 []) : XM y cc nL ret d mc ms av N h Qp := by
  intro l Ω
  refine Met.ofW (cc := cc) (maxL := nL) (ret := ret) hy rfl ?_
  intro p e s m args below meth c s₁ B hml hP
  obtain ⟨rfl, hH, hK, hS⟩ := hP
  have hts := atoms_spec (ws := Jvm.Cond.code y cc nL ret :: xBIG) B.pre
  have hb := body (p, l, e, (headSpec (Jvm.Cond.code y cc nL ret :: xBIG) (xroom d mc ms)).room, s, m, (av.map (xv Ω)).toArray, below, meth, c, Ω)
  rw [lg_entry_eq]
  exact hb ⟨B.exec, B.bytes, hml, findClass_of_methodNamed B.named, fun w hw => hts w (List.mem_cons_of_mem _ hw), hK, hS, B.notSynchronized, B.returns, (name_of_methodNamed B.named B.method).1, Nat.le_refl _, Nat.le_refl _, Nat.le_refl _, Nat.le_refl _⟩ s.heap [] _ hH (fun q h => by cases h) (by rw [hlv Ω]; exact lv_entry _ (hlen Ω))
theorem xM_mono {y : MethodName} {cc : ByteArray} {nL : Nat} {ret : Option FieldType} {d mc ms : Nat} {av : List Value} {N : Nat} {h : xHp} {Qp Qp' : Option Value → xHp → Prop} (M : XM y cc nL ret d mc ms av N h Qp) (hq : ∀ r h', Qp r h' → Qp' r h') : XM y cc nL ret d mc ms av N h Qp' := by
  intro l Ω p e ha hc hk s m args below h1 h2 h3 h4
  obtain ⟨t, o, a1, a2, a3, ⟨r, h', b1, b2, b3⟩, b4⟩ := M l Ω p e ha hc hk s m args below h1 h2 h3 h4
  exact ⟨t, o, a1, a2, a3, ⟨r, h', b1, hq r h' b2, b3⟩, b4⟩
theorem xgoodIn {y : MethodName} {cc : ByteArray} {nL : Nat} {ret : Option FieldType} (hc : Jvm.Cond.code y cc nL ret ∈ xBIG) : GoodIn xBIG (Jvm.Cond.code y cc nL ret :: xBIG) := by
  intro w hw
  rcases List.mem_cons.mp hw with h | h
  · subst h
    exact ⟨hc, xgood _ hc⟩
  · exact ⟨h, xgood _ h⟩
/-- the words of a call -/
def xcB (own : String) (idx : Nat) (y : MethodName) (bytes : ByteArray) (maxL : Nat) (ret : Option FieldType) (n : Nat) : Prop :=
  Jvm.Cond.methodLink own idx y ∈ xBIG ∧ Jvm.Cond.initialized y.cls ∈ xBIG ∧ Jvm.Cond.code y bytes maxL ret ∈ xBIG ∧ (y.cls ≠ "java/lang/invoke/MethodHandle" ∧ y.cls ≠ "java/lang/invoke/VarHandle" ∧ (parseMethodDescriptor y.desc).map (fun d => d.parameters.length) = some n) ∧ maxL ≤ 28
def xcN (own : String) (idx : Nat) (y : MethodName) (host : String) (bytes : ByteArray) (maxL : Nat) (ret : Option FieldType) (n : Nat) : Prop :=
  (own, idx, y, host) ∈ xml ∧ Jvm.Cond.initialized y.cls ∈ xBIG ∧ Jvm.Cond.code y bytes maxL ret ∈ xBIG ∧ (y.cls ≠ "java/lang/invoke/MethodHandle" ∧ y.cls ≠ "java/lang/invoke/VarHandle" ∧ (parseMethodDescriptor y.desc).map (fun d => d.parameters.length) = some n) ∧ maxL ≤ 28
section XR3
variable {Γ : xG} {y : MethodName} {cc : ByteArray} {nL : Nat} {ret : Option FieldType} {dd : Nat × Nat × Nat} {Q : State → Prop} {ce sl N : Nat} {h : xHp} {pc : Nat} {lv : List (Option Value)} {st : List Value}
variable {y2 : MethodName} {b2 : ByteArray} {n2 : Nat} {ret2 : Option FieldType} {d2 mc ms idx q : Nat} {As : List Value} {Qp : Option Value → xHp → Prop} {stk : List Value}
theorem x_room {R : Room} (hfr : dd.1 ≤ R.frames) (hlo : 48 * dd.1 ≤ R.locals) (hd : d2 < dd.1) (hn : n2 ≤ 28) : (xroom d2 mc ms).frames + 1 ≤ R.frames ∧ 8 + (n2 + 11) + (xroom d2 mc ms).locals ≤ R.locals := by
  show d2 + 1 ≤ R.frames ∧ 8 + (n2 + 11) + 48 * d2 ≤ R.locals
  omega
theorem x_sum (Ω : xO) (st : List Value) : ((st.map (xv Ω)).map fun v => v.category).sum = (st.map fun v => v.category).sum := by
  rw [List.map_map]
  congr 1
  exact List.map_congr_left (fun v _ => xv_cat Ω v)
theorem x_run {p : Program} {l : Launch} {e : Env} {R : Room} {s : State} {m : MethodId} {args : Array Value} {below : List Frame} {meth : Method} {c : Code} {Ω : xO} {H : Heap} {locs : List Loc} {ls : Array Slot} {a : Array Value} {stk : List Value}
    (run : va_Run p l e R s m args below meth c H locs ce sl mc ms (F0 m pc ls stk) (st.map (xv Ω)) (xQc Ω (N + mc) Qp a) (fun q => Ω.2.2.1 ≤ q)) (C : XC p R s m args meth c Ω y cc nL ret dd) (hl : ∀ q ∈ locs, Ω.2.2.1 ≤ q.base) (hv : lv_has ls nL (xl Ω 0 lv))
    (k : ∀ r h', Qp r h' → XW (p, l, e, R, s, m, args, below, meth, c, Ω) y cc nL ret dd Q (ce + mc) (sl + ms) (N + mc) h' (pc + 3) lv (r.toList ++ st)) : W p l e R s m args below meth c H locs ce sl Q (F0 m pc ls stk) := by
  intro T hT X
  obtain ⟨v, st₀, t, T', L, h0, X', hL, e1, e2, ⟨r, h', ho, hq, hH'⟩, stp⟩ := run T hT X
  have hvr : v = r.map (xv Ω) := Outcome.returned.inj ho
  subst hvr
  have hk := k r h' hq C T'.heap (locs ++ L) ls (by rw [e1]; exact hH') (fun q hq => by
    rcases List.mem_append.mp hq with z | z
    · exact hl q z
    · exact hL q z) hv
  obtain ⟨t2, a1, b1⟩ := hk T' rfl X'
  refine ⟨t2, stp t2 ?_, b1⟩
  have e5 : (r.map (xv Ω)).toList ++ st.map (xv Ω) = (r.toList ++ st).map (xv Ω) := by cases r <;> simp
  rw [e5]
  exact a1
theorem x_mapst (Ω : xO) (hst : stk = As.reverse ++ .ref q :: st) : stk.map (xv Ω) = (As.map (xv Ω)).reverse ++ .ref (xi Ω q) :: st.map (xv Ω) := by
  rw [hst, List.map_append, List.map_reverse]
  rfl
theorem x_mapst0 (Ω : xO) (hst : stk = As.reverse ++ st) : stk.map (xv Ω) = (As.map (xv Ω)).reverse ++ st.map (xv Ω) := by
  rw [hst, List.map_append, List.map_reverse]
theorem x_callV {ci : Nat} {fs : List Value} (M : XM y2 b2 n2 ret2 d2 mc ms (.ref q :: As) N h Qp) (F : xcB y.cls idx y2 b2 n2 ret2 As.length) (F2 : Jvm.Cond.instanceMethod y2 ∈ xBIG ∧ Jvm.Cond.selects y2.cls y2 y2 ∈ xBIG) (d : decode cc pc = .ok (.invokevirtual idx, 3)) (hst : stk = As.reverse ++ .ref q :: st) (hq : q < N) (hh : h q = .inr (ci, fs)) (hci : (xcl[ci]?).map (fun r => r.1) = some y2.cls) (hd : d2 < dd.1) (hr : (st.map fun v => v.category).sum ≤ 8) (hce : ce + mc ≤ dd.2.1 ∧ sl + ms ≤ dd.2.2)
    (k : ∀ r h', Qp r h' → XW Γ y cc nL ret dd Q (ce + mc) (sl + ms) (N + mc) h' (pc + 3) lv (r.toList ++ st)) : XW Γ y cc nL ret dd Q ce sl N h pc lv stk := by
  obtain ⟨p, l, e, R, s, m, args, below, meth, c, Ω⟩ := Γ
  intro C H locs ls hH hl hv
  obtain ⟨w1, w2, w3, w4, w5⟩ := F
  have hc := xH_at hH hq
  rw [hh] at hc
  obtain ⟨rc, g1, cell, g2, g3, g4, g5⟩ := hc
  rw [x_mapst Ω hst, xH_i hH hq]
  have hrc : rc.1 = y2.cls := by
    have g1' : xcl[ci]? = some rc := g1
    rw [g1'] at hci
    exact Option.some.inj hci
  refine x_run (va_runV (C := y2.cls) (b := Ω.2.2.1 + q) (As := As.map (xv Ω)) (rest := st.map (xv Ω)) ⟨C.ex, C.co, C.ml, C.ow, C.ts⟩ (M l Ω) ⟨callB_of As.length C.ts (xgoodIn w3) rfl rfl rfl (C.ts _ w2) (C.ts _ w1) w4 (x_room C.fr C.lo hd w5), C.ts _ F2.1, C.ts _ F2.2⟩ ⟨xPc_blind _ _ _ _, ⟨cell, g2, by rw [g4]; rfl, ?_⟩, fun U hU hW => ⟨?_, by rw [hU]; exact hH, va_K.moved hW.alike C.K, xst.warm hW C.st⟩⟩ rfl (by simp) hv.1 rfl (lv_room (by rw [x_sum]; exact hr)) d ⟨Nat.le_trans hce.1 C.cap.1, Nat.le_trans hce.2 C.cap.2⟩) C hl hv k
  · have := (C.K.1 ci rc g1).2.1
    rw [hrc] at this
    rw [g3]
    exact this
  · show _ = ((Value.ref q :: As).map (xv Ω)).toArray
    rw [List.map_cons]
    show _ = (Value.ref (xi Ω q) :: As.map (xv Ω)).toArray
    rw [xH_i hH hq]
theorem x_callS (M : XM y2 b2 n2 ret2 d2 mc ms As N h Qp) (F : xcB y.cls idx y2 b2 n2 ret2 As.length) (F2 : Jvm.Cond.static y2 ∈ xBIG) (d : decode cc pc = .ok (.invokestatic idx, 3)) (hst : stk = As.reverse ++ st) (hd : d2 < dd.1) (hr : (st.map fun v => v.category).sum ≤ 8) (hce : ce + mc ≤ dd.2.1 ∧ sl + ms ≤ dd.2.2)
    (k : ∀ r h', Qp r h' → XW Γ y cc nL ret dd Q (ce + mc) (sl + ms) (N + mc) h' (pc + 3) lv (r.toList ++ st)) : XW Γ y cc nL ret dd Q ce sl N h pc lv stk := by
  obtain ⟨p, l, e, R, s, m, args, below, meth, c, Ω⟩ := Γ
  intro C H locs ls hH hl hv
  obtain ⟨w1, w2, w3, w4, w5⟩ := F
  rw [x_mapst0 Ω hst]
  exact x_run (va_runS (As := As.map (xv Ω)) (rest := st.map (xv Ω)) ⟨C.ex, C.co, C.ml, C.ow, C.ts⟩ (M l Ω) ⟨callB_of As.length C.ts (xgoodIn w3) rfl rfl rfl (C.ts _ w2) (C.ts _ w1) w4 (x_room C.fr C.lo hd w5), C.ts _ F2⟩ ⟨xPc_blind _ _ _ _, fun U hU hW => ⟨rfl, by rw [hU]; exact hH, va_K.moved hW.alike C.K, xst.warm hW C.st⟩⟩ rfl (by simp) hv.1 rfl (lv_room (by rw [x_sum]; exact hr)) d ⟨Nat.le_trans hce.1 C.cap.1, Nat.le_trans hce.2 C.cap.2⟩) C hl hv k
theorem x_callI (M : XM y2 b2 n2 none d2 mc ms (.ref q :: As) N h Qp) (F : xcB y.cls idx y2 b2 n2 none As.length) (F2 : y2.name = "<init>" ∧ Jvm.Cond.instanceMethod y2 ∈ xBIG) (d : decode cc pc = .ok (.invokespecial idx, 3)) (hst : stk = As.reverse ++ .ref q :: st) (hq : q < N) (hd : d2 < dd.1) (hr : (st.map fun v => v.category).sum ≤ 8) (hce : ce + mc ≤ dd.2.1 ∧ sl + ms ≤ dd.2.2)
    (k : ∀ r h', Qp r h' → XW Γ y cc nL ret dd Q (ce + mc) (sl + ms) (N + mc) h' (pc + 3) lv (r.toList ++ st)) : XW Γ y cc nL ret dd Q ce sl N h pc lv stk := by
  obtain ⟨p, l, e, R, s, m, args, below, meth, c, Ω⟩ := Γ
  intro C H locs ls hH hl hv
  obtain ⟨w1, w2, w3, w4, w5⟩ := F
  rw [x_mapst Ω hst, xH_i hH hq]
  refine x_run (va_runI (b := Ω.2.2.1 + q) (As := As.map (xv Ω)) (rest := st.map (xv Ω)) ⟨C.ex, C.co, C.ml, C.ow, C.ts⟩ (M l Ω) ⟨callB_of As.length C.ts (xgoodIn w3) rfl rfl rfl (C.ts _ w2) (C.ts _ w1) w4 (x_room C.fr C.lo hd w5), F2.1, C.ts _ F2.2⟩ ⟨xPc_blind _ _ _ _, fun U hU hW => ⟨?_, by rw [hU]; exact hH, va_K.moved hW.alike C.K, xst.warm hW C.st⟩⟩ rfl (by simp) hv.1 rfl (lv_room (by rw [x_sum]; exact hr)) d ⟨Nat.le_trans hce.1 C.cap.1, Nat.le_trans hce.2 C.cap.2⟩) C hl hv k
  show _ = ((Value.ref q :: As).map (xv Ω)).toArray
  rw [List.map_cons]
  show _ = (Value.ref (xi Ω q) :: As.map (xv Ω)).toArray
  rw [xH_i hH hq]
theorem x_callIN {host : String} (M : XM y2 b2 n2 none d2 mc ms (.ref q :: As) N h Qp) (F : xcN y.cls idx y2 host b2 n2 none As.length) (F2 : y2.name = "<init>" ∧ Jvm.Cond.instanceMethod y2 ∈ xBIG) (d : decode cc pc = .ok (.invokespecial idx, 3)) (hst : stk = As.reverse ++ .ref q :: st) (hq : q < N) (hd : d2 < dd.1) (hr : (st.map fun v => v.category).sum ≤ 8) (hce : ce + mc ≤ dd.2.1 ∧ sl + ms ≤ dd.2.2)
    (k : ∀ r h', Qp r h' → XW Γ y cc nL ret dd Q (ce + mc) (sl + ms) (N + mc) h' (pc + 3) lv (r.toList ++ st)) : XW Γ y cc nL ret dd Q ce sl N h pc lv stk := by
  obtain ⟨p, l, e, R, s, m, args, below, meth, c, Ω⟩ := Γ
  intro C H locs ls hH hl hv
  obtain ⟨w1, w2, w3, w4, w5⟩ := F
  rw [x_mapst Ω hst, xH_i hH hq]
  refine x_run (va_runIN (b := Ω.2.2.1 + q) (As := As.map (xv Ω)) (rest := st.map (xv Ω)) ⟨C.ex, C.co, C.ml, C.ow, C.ts⟩ (M l Ω) ⟨va_cnB As.length C.ts (xgoodIn w3) rfl rfl rfl (C.st.2.1 _ w1) (C.ts _ w2) w4 (x_room C.fr C.lo hd w5), F2.1, C.ts _ F2.2⟩ ⟨xPc_blind _ _ _ _, fun U hU hW => ⟨?_, by rw [hU]; exact hH, va_K.moved hW.alike C.K, xst.warm hW C.st⟩⟩ rfl (by simp) hv.1 rfl (lv_room (by rw [x_sum]; exact hr)) d ⟨Nat.le_trans hce.1 C.cap.1, Nat.le_trans hce.2 C.cap.2⟩) C hl hv k
  show _ = ((Value.ref q :: As).map (xv Ω)).toArray
  rw [List.map_cons]
  show _ = (Value.ref (xi Ω q) :: As.map (xv Ω)).toArray
  rw [xH_i hH hq]
theorem x_objInit (F : Jvm.Cond.methodLink y.cls idx Lib.objectInit ∈ xBIG ∧ Jvm.Cond.instanceMethod Lib.objectInit ∈ xBIG ∧ Jvm.Cond.code Lib.objectInit ⟨#[0xb1]⟩ 1 none ∈ xBIG) (d : decode cc pc = .ok (.invokespecial idx, 3)) (hd : 0 < dd.1) (hr : (st.map fun v => v.category).sum ≤ 8) (k : XW Γ y cc nL ret dd Q ce sl N h (pc + 3) lv st) : XW Γ y cc nL ret dd Q ce sl N h pc lv (.ref q :: st) := by
  obtain ⟨p, l, e, R, s, m, args, below, meth, c, Ω⟩ := Γ
  intro C H locs ls hH hl hv
  have h1 := C.fr
  have h2 := C.lo
  have h3 := lv_room (m := m) (pc := pc) (ls := ls) (rest := ((Value.ref q :: st).map (xv Ω))) (st := st.map (xv Ω)) (by rw [x_sum]; exact hr)
  exact W.objInit C.ex C.co C.ow (C.ts _ F.1) (C.ts _ F.2.1) (C.ts _ F.2.2) rfl (by rw [C.ml]; exact hv.1) rfl d (by omega) (by omega) (k C H locs ls hH hl hv)
theorem x_iret {v : Int32} (d : decode cc pc = .ok (.ireturn, 1)) (hq : Qp (some (.int v)) h) : XW Γ y cc nL (some .int) dd (xQ Γ N ce sl Qp) ce sl N h pc lv [.int v] := by
  obtain ⟨p, l, e, R, s, m, args, below, meth, c, Ω⟩ := Γ
  intro C H locs ls hH hl hv
  exact W.iret C.ex C.co C.rt (fun t ht hW => ⟨some (.int v), h, rfl, hq, by rw [ht]; exact hH⟩) hl d C.lk
theorem x_zret {v : Int32} {ty : FieldType} (d : decode cc pc = .ok (.ireturn, 1)) (hn : narrow ty (.int v) = .int v) (hq : Qp (some (.int v)) h) : XW Γ y cc nL (some ty) dd (xQ Γ N ce sl Qp) ce sl N h pc lv [.int v] := by
  obtain ⟨p, l, e, R, s, m, args, below, meth, c, Ω⟩ := Γ
  intro C H locs ls hH hl hv
  exact W.zret C.ex C.co C.rt hn (fun t ht hW => ⟨some (.int v), h, rfl, hq, by rw [ht]; exact hH⟩) hl d C.lk
theorem x_lret {v : Int64} (d : decode cc pc = .ok (.lreturn, 1)) (hq : Qp (some (.long v)) h) : XW Γ y cc nL (some .long) dd (xQ Γ N ce sl Qp) ce sl N h pc lv [.long v] := by
  obtain ⟨p, l, e, R, s, m, args, below, meth, c, Ω⟩ := Γ
  intro C H locs ls hH hl hv
  exact W.lret C.ex C.co C.rt (fun t ht hW => ⟨some (.long v), h, rfl, hq, by rw [ht]; exact hH⟩) hl d C.lk
theorem x_vret (d : decode cc pc = .ok (.return_, 1)) (hq : Qp none h) : XW Γ y cc nL none dd (xQ Γ N ce sl Qp) ce sl N h pc lv [] := by
  obtain ⟨p, l, e, R, s, m, args, below, meth, c, Ω⟩ := Γ
  intro C H locs ls hH hl hv
  exact W.vret C.ex C.co C.rt (fun t ht hW => ⟨none, h, rfl, hq, by rw [ht]; exact hH⟩) hl d C.lk
theorem x_aret {v : Nat} {rt : FieldType} (hrt : (∃ n, rt = .object n) ∨ ∃ t, rt = .array t) (d : decode cc pc = .ok (.areturn, 1)) (hq : Qp (some (.ref v)) h) : XW Γ y cc nL (some rt) dd (xQ Γ N ce sl Qp) ce sl N h pc lv [.ref v] := by
  obtain ⟨p, l, e, R, s, m, args, below, meth, c, Ω⟩ := Γ
  intro C H locs ls hH hl hv
  exact W.aret C.ex C.co C.rt hrt (Or.inr ⟨_, rfl⟩) (fun t ht hW => ⟨some (.ref v), h, rfl, hq, by rw [ht]; exact hH⟩) hl d C.lk
end XR3
end
section
/-! X: System.arraycopy of ints; small rows for scripts. -/
theorem xnn {z : Int32} (hz : ¬ z < 0) : z.toInt = (z.toNatClampNeg : Int) := by
  have h0 : (0 : Int) ≤ z.toInt := by
    have h1 := Int32.not_lt.mp hz
    simpa using Int32.le_iff_toInt_le.mp h1
  show z.toInt = ((z.toInt.toNat : Nat) : Int)
  omega
section XR4
variable {Γ : xG} {y : MethodName} {cc : ByteArray} {nL : Nat} {ret : Option FieldType} {dd : Nat × Nat × Nat} {Q : State → Prop} {ce sl N : Nat} {h : xHp} {pc : Nat} {lv : List (Option Value)} {st : List Value}
theorem x_copyi {idx q0 q1 n0 n1 : Nat} {f g : Nat → Int32} {sp dp n : Int32} (F : Jvm.Cond.methodLink y.cls idx arraycopyName ∈ xBIG ∧ Jvm.Cond.native arraycopyName ∈ xBIG ∧ Jvm.Cond.static arraycopyName ∈ xBIG ∧ Jvm.Cond.initialized "java/lang/System" ∈ xBIG) (d : decode cc pc = .ok (.invokestatic idx, 3)) (hq0 : q0 < N) (hh0 : h q0 = .inl (0, n0, .inl f)) (hq1 : q1 < N) (hh1 : h q1 = .inl (0, n1, .inl g)) (h1 : ¬ sp < 0) (h2 : ¬ dp < 0) (h3 : ¬ n < 0) (h4 : sp.toNatClampNeg + n.toNatClampNeg ≤ n0) (h5 : dp.toNatClampNeg + n.toNatClampNeg ≤ n1) (hd : 0 < dd.1) (hr : (st.map fun v => v.category).sum ≤ 8) (k : XW Γ y cc nL ret dd Q ce sl N (va_up h q1 (.inl (0, n1, .inl (va_cpy f g sp.toNatClampNeg dp.toNatClampNeg n.toNatClampNeg)))) (pc + 3) lv st) : XW Γ y cc nL ret dd Q ce sl N h pc lv (.int n :: .int dp :: .ref q1 :: .int sp :: .ref q0 :: st) := by
  obtain ⟨p, l, e, R, s, m, args, below, meth, c, Ω⟩ := Γ
  intro C H locs ls hH hl hv T hT X
  have hc0 := xH_at hH hq0
  rw [hh0] at hc0
  have hc1 := xH_at hH hq1
  rw [hh1] at hc1
  have g0 : H[Ω.2.2.1 + q0]? = some (vp_cell (Ω.2.1 0) (n0, .inl f)) := hc0
  have g1 : H[Ω.2.2.1 + q1]? = some (vp_cell (Ω.2.1 0) (n1, .inl g)) := hc1
  have hA := (C.K.2 0 _ (xtys_at (tc := Ω.2.1) (t := 0) (ty := .int) rfl)).1
  obtain ⟨-, k0, hk0, cm0, hkk0⟩ := hA n0 (fun j => .int (f j))
  obtain ⟨-, k1, hk1, cm1, hkk1⟩ := hA n1 (fun j => .int (g j))
  have hfr := C.fr
  have hlo := C.lo
  obtain ⟨vm', X', step⟩ := X.arraycopy C.ex C.ow (C.ts _ F.1) (C.ts _ F.2.1) (C.ts _ F.2.2.1) (C.ts _ F.2.2.2) (src := Ω.2.2.1 + q0) (dst := Ω.2.2.1 + q1) (cs := vp_cell (Ω.2.1 0) (n0, .inl f)) (cd := vp_cell (Ω.2.1 0) (n1, .inl g)) (srcPos := sp) (destPos := dp) (n := n) (by rw [hT]; exact g0) (by rw [hT]; exact g1)
    (fun _ h => by cases h) (fun _ h => by cases h) (fun h => by cases h) (fun h => by cases h) hk0 hk1 hkk0 hkk1 (by simp [refKind]) h1 h2 h3
    (by rw [xnn h1, xnn h3]; show ¬ _ > ((arrV _ n0 (fun j => .int (f j))).slots.size : Int); rw [arrV_size]; omega)
    (by rw [xnn h2, xnn h3]; show ¬ _ > ((arrV _ n1 (fun j => .int (g j))).slots.size : Int); rw [arrV_size]; omega)
    (fun vm₁ _ i hi => by
      have e : (vp_cell (Ω.2.1 0) (n0, .inl f)).slots.getD (sp.toNatClampNeg + i) .null = .int (f (sp.toNatClampNeg + i)) := by
        show (arrV _ n0 (fun j => .int (f j))).slots.getD _ _ = _
        rw [Array.getD_eq_getD_getElem?, arrV_read _ _ (by omega)]
        rfl
      refine ⟨?_, ?_⟩
      · rw [e]
        rfl
      · rw [e]
        exact trivial)
    (g := F0 m pc ls (.int n :: .int dp :: .ref (Ω.2.2.1 + q1) :: .int sp :: .ref (Ω.2.2.1 + q0) :: st.map (xv Ω))) rfl (by rw [C.ml]; exact hv.1) (rest := st.map (xv Ω)) rfl (by rw [C.co]; exact d) (by omega) (by
      have e8 : nativeFrameWords "java/lang/System" "arraycopy" 5 = 7 := by decide +kernel
      rw [e8, x_sum]
      show 2 * 0 + _ + _ ≤ _
      omega)
  have e1 : copied (vp_cell (Ω.2.1 0) (n0, .inl f)) (vp_cell (Ω.2.1 0) (n1, .inl g)) sp dp n = vp_cell (Ω.2.1 0) (n1, .inl (va_cpy f g sp.toNatClampNeg dp.toNatClampNeg n.toNatClampNeg)) := va_copied (fun z => .int z) _ _ f g h4
  rw [e1] at X' step
  have hlt : Ω.2.2.1 + q1 < H.size := (Array.getElem?_eq_some_iff.mp g1).1
  generalize hH1 : H.setIfInBounds (Ω.2.2.1 + q1) (vp_cell (Ω.2.1 0) (n1, .inl (va_cpy f g sp.toNatClampNeg dp.toNatClampNeg n.toNatClampNeg))) = H1
  have hheap : ((T.setVm vm').setCell (Ω.2.2.1 + q1) (vp_cell (Ω.2.1 0) (n1, .inl (va_cpy f g sp.toNatClampNeg dp.toNatClampNeg n.toNatClampNeg)))).heap = H1 := by rw [← hH1, ← hT]; rfl
  obtain ⟨t, a1, b1⟩ := k C H1 _ ls (xH_set hH hq1 (by rw [← hH1]; simp) (fun a ha => by rw [← hH1]; simp [Array.getElem?_setIfInBounds, Ne.symm ha]) (by
    show H1[_]? = some (vp_cell _ (n1, .inl _))
    rw [← hH1]
    simp [Array.getElem?_setIfInBounds, hlt])) (fun q hq => by
      rcases List.mem_append.mp hq with z | z
      · exact hl q z
      · obtain ⟨w, -, hw⟩ := List.mem_map.mp z
        rw [← hw]
        exact Nat.le_add_right _ _) hv _ hheap X'
  refine ⟨t, ?_, b1⟩
  have h9 := step t a1
  have e3 : (.int n :: .int dp :: .ref q1 :: .int sp :: .ref q0 :: st : List Value).map (xv Ω) = .int n :: .int dp :: .ref (Ω.2.2.1 + q1) :: .int sp :: .ref (Ω.2.2.1 + q0) :: st.map (xv Ω) := by
    show (.int n :: .int dp :: .ref (xi Ω q1) :: .int sp :: .ref (xi Ω q0) :: st.map (xv Ω) : List Value) = _
    rw [xH_i hH hq0, xH_i hH hq1]
  rw [e3]
  exact h9
end XR4
theorem vu_s {α : Type} {f : Nat → α} {k : Nat} {v : α} : va_up f k v k = v := if_pos rfl
theorem vu_n {α : Type} {f : Nat → α} {k j : Nat} {v : α} (h : j ≠ k) : va_up f k v j = f j := if_neg h
theorem vu_t {α : Type} {f : Nat → α} {k j : Nat} {v w : α} (h : j ≠ k) (e : f j = w) : va_up f k v j = w := (if_neg h).trans e
theorem vu_c {α : Type} (f : Nat → α) {k j : Nat} (v w : α) (h : j ≠ k) : va_up (va_up f k v) j w = va_up (va_up f j w) k v := by
  funext i
  by_cases e1 : i = j
  · subst e1
    simp [va_up, h]
  · by_cases e2 : i = k
    · subst e2
      simp [va_up, e1]
    · simp [va_up, e1, e2]
theorem vu_e {α : Type} (f : Nat → α) (k : Nat) : va_up f k (f k) = f := by
  funext i
  by_cases e1 : i = k
  · subst e1
    simp [va_up]
  · simp [va_up, e1]
end
