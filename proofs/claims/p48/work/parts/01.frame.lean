section
-- 00.tables
-- ===== PART A: goes FIRST, ahead of the names: the tables' words, and 'selects' of the private methods out of them =====
/-- a private method of a class that the tables say can be made, by its rows of tables_1 -/
def lw_okq (q : MethodName × Nat) : Prop := (q.1.cls ≠ "java/lang/invoke/MethodHandle" ∧ q.1.cls ≠ "java/lang/invoke/VarHandle") ∧ Cond.instantiable q.1.cls q.2 ∈ tables_1 ∧ Cond.privateMethod q.1 ∈ tables_1 ∧ Cond.instanceMethod q.1 ∈ tables_1
theorem lw_p0 : lw_okq (⟨"WhoeverHeard$Reader", "cut", "()V"⟩, 10) := ⟨⟨by decide +kernel, by decide +kernel⟩, List.mem_of_getElem? (i := 165) (by decide +kernel), List.mem_of_getElem? (i := 400) (by decide +kernel), List.mem_of_getElem? (i := 401) (by decide +kernel)⟩
theorem lw_p1 : lw_okq (⟨"WhoeverHeard$Reader", "lettersEnd", "(I)I"⟩, 10) := ⟨⟨by decide +kernel, by decide +kernel⟩, List.mem_of_getElem? (i := 165) (by decide +kernel), List.mem_of_getElem? (i := 410) (by decide +kernel), List.mem_of_getElem? (i := 411) (by decide +kernel)⟩
theorem lw_p2 : lw_okq (⟨"WhoeverHeard$Reader", "putWord", "(II)V"⟩, 10) := ⟨⟨by decide +kernel, by decide +kernel⟩, List.mem_of_getElem? (i := 165) (by decide +kernel), List.mem_of_getElem? (i := 414) (by decide +kernel), List.mem_of_getElem? (i := 415) (by decide +kernel)⟩
theorem lw_p3 : lw_okq (⟨"WhoeverHeard$Reader", "nameAt", "(II)I"⟩, 10) := ⟨⟨by decide +kernel, by decide +kernel⟩, List.mem_of_getElem? (i := 165) (by decide +kernel), List.mem_of_getElem? (i := 418) (by decide +kernel), List.mem_of_getElem? (i := 419) (by decide +kernel)⟩
theorem lw_p4 : lw_okq (⟨"WhoeverHeard$Reader", "spells", "(Ljava/lang/String;II)Z"⟩, 10) := ⟨⟨by decide +kernel, by decide +kernel⟩, List.mem_of_getElem? (i := 165) (by decide +kernel), List.mem_of_getElem? (i := 423) (by decide +kernel), List.mem_of_getElem? (i := 424) (by decide +kernel)⟩
theorem lw_p5 : lw_okq (⟨"WhoeverHeard$Reader", "putToken", "(III)V"⟩, 10) := ⟨⟨by decide +kernel, by decide +kernel⟩, List.mem_of_getElem? (i := 165) (by decide +kernel), List.mem_of_getElem? (i := 434) (by decide +kernel), List.mem_of_getElem? (i := 435) (by decide +kernel)⟩
theorem lw_p6 : lw_okq (⟨"WhoeverHeard$Reader", "keyAt", "(II)I"⟩, 10) := ⟨⟨by decide +kernel, by decide +kernel⟩, List.mem_of_getElem? (i := 165) (by decide +kernel), List.mem_of_getElem? (i := 438) (by decide +kernel), List.mem_of_getElem? (i := 439) (by decide +kernel)⟩
theorem lw_p7 : lw_okq (⟨"WhoeverHeard$Reader", "digitsEnd", "(I)I"⟩, 10) := ⟨⟨by decide +kernel, by decide +kernel⟩, List.mem_of_getElem? (i := 165) (by decide +kernel), List.mem_of_getElem? (i := 451) (by decide +kernel), List.mem_of_getElem? (i := 452) (by decide +kernel)⟩
theorem lw_p8 : lw_okq (⟨"WhoeverHeard$Reader", "putNumber", "(II)V"⟩, 10) := ⟨⟨by decide +kernel, by decide +kernel⟩, List.mem_of_getElem? (i := 165) (by decide +kernel), List.mem_of_getElem? (i := 455) (by decide +kernel), List.mem_of_getElem? (i := 456) (by decide +kernel)⟩
theorem lw_p9 : lw_okq (⟨"WhoeverHeard$Reader", "passes", "(I)Z"⟩, 10) := ⟨⟨by decide +kernel, by decide +kernel⟩, List.mem_of_getElem? (i := 165) (by decide +kernel), List.mem_of_getElem? (i := 462) (by decide +kernel), List.mem_of_getElem? (i := 463) (by decide +kernel)⟩
theorem lw_p10 : lw_okq (⟨"WhoeverHeard$Reader", "level", "(II)Z"⟩, 10) := ⟨⟨by decide +kernel, by decide +kernel⟩, List.mem_of_getElem? (i := 165) (by decide +kernel), List.mem_of_getElem? (i := 466) (by decide +kernel), List.mem_of_getElem? (i := 467) (by decide +kernel)⟩
theorem lw_p11 : lw_okq (⟨"WhoeverHeard$Reader", "negation", "(I)Z"⟩, 10) := ⟨⟨by decide +kernel, by decide +kernel⟩, List.mem_of_getElem? (i := 165) (by decide +kernel), List.mem_of_getElem? (i := 470) (by decide +kernel), List.mem_of_getElem? (i := 471) (by decide +kernel)⟩
theorem lw_p12 : lw_okq (⟨"WhoeverHeard$Reader", "opens", "(II)Z"⟩, 10) := ⟨⟨by decide +kernel, by decide +kernel⟩, List.mem_of_getElem? (i := 165) (by decide +kernel), List.mem_of_getElem? (i := 474) (by decide +kernel), List.mem_of_getElem? (i := 475) (by decide +kernel)⟩
theorem lw_p13 : lw_okq (⟨"WhoeverHeard$Reader", "did", "(I)Z"⟩, 10) := ⟨⟨by decide +kernel, by decide +kernel⟩, List.mem_of_getElem? (i := 165) (by decide +kernel), List.mem_of_getElem? (i := 478) (by decide +kernel), List.mem_of_getElem? (i := 479) (by decide +kernel)⟩
theorem lw_p14 : lw_okq (⟨"WhoeverHeard$Reader", "step", "(I)V"⟩, 10) := ⟨⟨by decide +kernel, by decide +kernel⟩, List.mem_of_getElem? (i := 165) (by decide +kernel), List.mem_of_getElem? (i := 482) (by decide +kernel), List.mem_of_getElem? (i := 483) (by decide +kernel)⟩
theorem lw_p15 : lw_okq (⟨"WhoeverHeard$Reader", "one", "(I)Z"⟩, 10) := ⟨⟨by decide +kernel, by decide +kernel⟩, List.mem_of_getElem? (i := 165) (by decide +kernel), List.mem_of_getElem? (i := 486) (by decide +kernel), List.mem_of_getElem? (i := 487) (by decide +kernel)⟩
def lw_privs_1 : List (MethodName × Nat) := [(⟨"WhoeverHeard$Reader", "cut", "()V"⟩, 10), (⟨"WhoeverHeard$Reader", "lettersEnd", "(I)I"⟩, 10), (⟨"WhoeverHeard$Reader", "putWord", "(II)V"⟩, 10), (⟨"WhoeverHeard$Reader", "nameAt", "(II)I"⟩, 10), (⟨"WhoeverHeard$Reader", "spells", "(Ljava/lang/String;II)Z"⟩, 10), (⟨"WhoeverHeard$Reader", "putToken", "(III)V"⟩, 10), (⟨"WhoeverHeard$Reader", "keyAt", "(II)I"⟩, 10), (⟨"WhoeverHeard$Reader", "digitsEnd", "(I)I"⟩, 10), (⟨"WhoeverHeard$Reader", "putNumber", "(II)V"⟩, 10), (⟨"WhoeverHeard$Reader", "passes", "(I)Z"⟩, 10), (⟨"WhoeverHeard$Reader", "level", "(II)Z"⟩, 10), (⟨"WhoeverHeard$Reader", "negation", "(I)Z"⟩, 10), (⟨"WhoeverHeard$Reader", "opens", "(II)Z"⟩, 10), (⟨"WhoeverHeard$Reader", "did", "(I)Z"⟩, 10), (⟨"WhoeverHeard$Reader", "step", "(I)V"⟩, 10), (⟨"WhoeverHeard$Reader", "one", "(I)Z"⟩, 10)]
theorem lw_r1 : ∀ q ∈ lw_privs_1, lw_okq q := List.forall_mem_cons.mpr ⟨lw_p0, List.forall_mem_cons.mpr ⟨lw_p1, List.forall_mem_cons.mpr ⟨lw_p2, List.forall_mem_cons.mpr ⟨lw_p3, List.forall_mem_cons.mpr ⟨lw_p4, List.forall_mem_cons.mpr ⟨lw_p5, List.forall_mem_cons.mpr ⟨lw_p6, List.forall_mem_cons.mpr ⟨lw_p7, List.forall_mem_cons.mpr ⟨lw_p8, List.forall_mem_cons.mpr ⟨lw_p9, List.forall_mem_cons.mpr ⟨lw_p10, List.forall_mem_cons.mpr ⟨lw_p11, List.forall_mem_cons.mpr ⟨lw_p12, List.forall_mem_cons.mpr ⟨lw_p13, List.forall_mem_cons.mpr ⟨lw_p14, List.forall_mem_cons.mpr ⟨lw_p15, fun _ h => absurd h List.not_mem_nil⟩⟩⟩⟩⟩⟩⟩⟩⟩⟩⟩⟩⟩⟩⟩⟩
theorem lw_p16 : lw_okq (⟨"WhoeverHeard$Ledger", "listenTo", "(I)V"⟩, 15) := ⟨⟨by decide +kernel, by decide +kernel⟩, List.mem_of_getElem? (i := 234) (by decide +kernel), List.mem_of_getElem? (i := 664) (by decide +kernel), List.mem_of_getElem? (i := 665) (by decide +kernel)⟩
theorem lw_p17 : lw_okq (⟨"WhoeverHeard$Ledger", "listenOne", "(II)V"⟩, 15) := ⟨⟨by decide +kernel, by decide +kernel⟩, List.mem_of_getElem? (i := 234) (by decide +kernel), List.mem_of_getElem? (i := 668) (by decide +kernel), List.mem_of_getElem? (i := 669) (by decide +kernel)⟩
theorem lw_p18 : lw_okq (⟨"WhoeverHeard$Ledger", "setClear", "(IIZ)V"⟩, 15) := ⟨⟨by decide +kernel, by decide +kernel⟩, List.mem_of_getElem? (i := 234) (by decide +kernel), List.mem_of_getElem? (i := 697) (by decide +kernel), List.mem_of_getElem? (i := 698) (by decide +kernel)⟩
theorem lw_p19 : lw_okq (⟨"WhoeverHeard$Ledger", "bindAll", "()V"⟩, 15) := ⟨⟨by decide +kernel, by decide +kernel⟩, List.mem_of_getElem? (i := 234) (by decide +kernel), List.mem_of_getElem? (i := 718) (by decide +kernel), List.mem_of_getElem? (i := 719) (by decide +kernel)⟩
theorem lw_p20 : lw_okq (⟨"WhoeverHeard$Ledger", "bindBy", "(I)V"⟩, 15) := ⟨⟨by decide +kernel, by decide +kernel⟩, List.mem_of_getElem? (i := 234) (by decide +kernel), List.mem_of_getElem? (i := 722) (by decide +kernel), List.mem_of_getElem? (i := 723) (by decide +kernel)⟩
theorem lw_p21 : lw_okq (⟨"WhoeverHeard$Ledger", "shareOf", "(II)I"⟩, 15) := ⟨⟨by decide +kernel, by decide +kernel⟩, List.mem_of_getElem? (i := 234) (by decide +kernel), List.mem_of_getElem? (i := 726) (by decide +kernel), List.mem_of_getElem? (i := 727) (by decide +kernel)⟩
theorem lw_p22 : lw_okq (⟨"WhoeverHeard$Ledger", "settleOne", "(III)V"⟩, 15) := ⟨⟨by decide +kernel, by decide +kernel⟩, List.mem_of_getElem? (i := 234) (by decide +kernel), List.mem_of_getElem? (i := 748) (by decide +kernel), List.mem_of_getElem? (i := 749) (by decide +kernel)⟩
theorem lw_p23 : lw_okq (⟨"WhoeverHeard$Ledger", "strikeOut", "(I)V"⟩, 15) := ⟨⟨by decide +kernel, by decide +kernel⟩, List.mem_of_getElem? (i := 234) (by decide +kernel), List.mem_of_getElem? (i := 753) (by decide +kernel), List.mem_of_getElem? (i := 754) (by decide +kernel)⟩
theorem lw_p24 : lw_okq (⟨"WhoeverHeard$Ledger", "cutToRoom", "(I)V"⟩, 15) := ⟨⟨by decide +kernel, by decide +kernel⟩, List.mem_of_getElem? (i := 234) (by decide +kernel), List.mem_of_getElem? (i := 758) (by decide +kernel), List.mem_of_getElem? (i := 759) (by decide +kernel)⟩
theorem lw_p25 : lw_okq (⟨"WhoeverHeard$Ledger", "worthKept", "()I"⟩, 15) := ⟨⟨by decide +kernel, by decide +kernel⟩, List.mem_of_getElem? (i := 234) (by decide +kernel), List.mem_of_getElem? (i := 799) (by decide +kernel), List.mem_of_getElem? (i := 800) (by decide +kernel)⟩
theorem lw_p26 : lw_okq (⟨"WhoeverHeard", "wayTo", "(I)I"⟩, 9) := ⟨⟨by decide +kernel, by decide +kernel⟩, List.mem_of_getElem? (i := 20) (by decide +kernel), List.mem_of_getElem? (i := 812) (by decide +kernel), List.mem_of_getElem? (i := 813) (by decide +kernel)⟩
theorem lw_p27 : lw_okq (⟨"WhoeverHeard$Ledger", "evenBits", "(I)I"⟩, 15) := ⟨⟨by decide +kernel, by decide +kernel⟩, List.mem_of_getElem? (i := 234) (by decide +kernel), List.mem_of_getElem? (i := 853) (by decide +kernel), List.mem_of_getElem? (i := 854) (by decide +kernel)⟩
theorem lw_p28 : lw_okq (⟨"WhoeverHeard$Ledger", "lightest", "(I)I"⟩, 15) := ⟨⟨by decide +kernel, by decide +kernel⟩, List.mem_of_getElem? (i := 234) (by decide +kernel), List.mem_of_getElem? (i := 857) (by decide +kernel), List.mem_of_getElem? (i := 858) (by decide +kernel)⟩
theorem lw_p29 : lw_okq (⟨"WhoeverHeard", "movesAway", "(I)Z"⟩, 9) := ⟨⟨by decide +kernel, by decide +kernel⟩, List.mem_of_getElem? (i := 20) (by decide +kernel), List.mem_of_getElem? (i := 891) (by decide +kernel), List.mem_of_getElem? (i := 892) (by decide +kernel)⟩
theorem lw_p30 : lw_okq (⟨"WhoeverHeard", "witnessRefusal", "(I)I"⟩, 9) := ⟨⟨by decide +kernel, by decide +kernel⟩, List.mem_of_getElem? (i := 20) (by decide +kernel), List.mem_of_getElem? (i := 922) (by decide +kernel), List.mem_of_getElem? (i := 923) (by decide +kernel)⟩
theorem lw_p31 : lw_okq (⟨"WhoeverHeard", "firstHeardByOthers", "(I)I"⟩, 9) := ⟨⟨by decide +kernel, by decide +kernel⟩, List.mem_of_getElem? (i := 20) (by decide +kernel), List.mem_of_getElem? (i := 930) (by decide +kernel), List.mem_of_getElem? (i := 931) (by decide +kernel)⟩
def lw_privs_2 : List (MethodName × Nat) := [(⟨"WhoeverHeard$Ledger", "listenTo", "(I)V"⟩, 15), (⟨"WhoeverHeard$Ledger", "listenOne", "(II)V"⟩, 15), (⟨"WhoeverHeard$Ledger", "setClear", "(IIZ)V"⟩, 15), (⟨"WhoeverHeard$Ledger", "bindAll", "()V"⟩, 15), (⟨"WhoeverHeard$Ledger", "bindBy", "(I)V"⟩, 15), (⟨"WhoeverHeard$Ledger", "shareOf", "(II)I"⟩, 15), (⟨"WhoeverHeard$Ledger", "settleOne", "(III)V"⟩, 15), (⟨"WhoeverHeard$Ledger", "strikeOut", "(I)V"⟩, 15), (⟨"WhoeverHeard$Ledger", "cutToRoom", "(I)V"⟩, 15), (⟨"WhoeverHeard$Ledger", "worthKept", "()I"⟩, 15), (⟨"WhoeverHeard", "wayTo", "(I)I"⟩, 9), (⟨"WhoeverHeard$Ledger", "evenBits", "(I)I"⟩, 15), (⟨"WhoeverHeard$Ledger", "lightest", "(I)I"⟩, 15), (⟨"WhoeverHeard", "movesAway", "(I)Z"⟩, 9), (⟨"WhoeverHeard", "witnessRefusal", "(I)I"⟩, 9), (⟨"WhoeverHeard", "firstHeardByOthers", "(I)I"⟩, 9)]
theorem lw_r2 : ∀ q ∈ lw_privs_2, lw_okq q := List.forall_mem_cons.mpr ⟨lw_p16, List.forall_mem_cons.mpr ⟨lw_p17, List.forall_mem_cons.mpr ⟨lw_p18, List.forall_mem_cons.mpr ⟨lw_p19, List.forall_mem_cons.mpr ⟨lw_p20, List.forall_mem_cons.mpr ⟨lw_p21, List.forall_mem_cons.mpr ⟨lw_p22, List.forall_mem_cons.mpr ⟨lw_p23, List.forall_mem_cons.mpr ⟨lw_p24, List.forall_mem_cons.mpr ⟨lw_p25, List.forall_mem_cons.mpr ⟨lw_p26, List.forall_mem_cons.mpr ⟨lw_p27, List.forall_mem_cons.mpr ⟨lw_p28, List.forall_mem_cons.mpr ⟨lw_p29, List.forall_mem_cons.mpr ⟨lw_p30, List.forall_mem_cons.mpr ⟨lw_p31, fun _ h => absurd h List.not_mem_nil⟩⟩⟩⟩⟩⟩⟩⟩⟩⟩⟩⟩⟩⟩⟩⟩
theorem lw_p32 : lw_okq (⟨"WhoeverHeardModel", "next", "()V"⟩, 62) := ⟨⟨by decide +kernel, by decide +kernel⟩, List.mem_of_getElem? (i := 1019) (by decide +kernel), List.mem_of_getElem? (i := 1029) (by decide +kernel), List.mem_of_getElem? (i := 1030) (by decide +kernel)⟩
theorem lw_p33 : lw_okq (⟨"WhoeverHeardModel", "wordFrom", "(II)I"⟩, 62) := ⟨⟨by decide +kernel, by decide +kernel⟩, List.mem_of_getElem? (i := 1019) (by decide +kernel), List.mem_of_getElem? (i := 1036) (by decide +kernel), List.mem_of_getElem? (i := 1037) (by decide +kernel)⟩
theorem lw_p34 : lw_okq (⟨"WhoeverHeardModel", "eRead", "()Z"⟩, 62) := ⟨⟨by decide +kernel, by decide +kernel⟩, List.mem_of_getElem? (i := 1019) (by decide +kernel), List.mem_of_getElem? (i := 1040) (by decide +kernel), List.mem_of_getElem? (i := 1041) (by decide +kernel)⟩
theorem lw_p35 : lw_okq (⟨"WhoeverHeardModel", "puts", "(I)V"⟩, 62) := ⟨⟨by decide +kernel, by decide +kernel⟩, List.mem_of_getElem? (i := 1019) (by decide +kernel), List.mem_of_getElem? (i := 1045) (by decide +kernel), List.mem_of_getElem? (i := 1046) (by decide +kernel)⟩
theorem lw_p36 : lw_okq (⟨"WhoeverHeardModel", "unwinds", "(I)V"⟩, 62) := ⟨⟨by decide +kernel, by decide +kernel⟩, List.mem_of_getElem? (i := 1019) (by decide +kernel), List.mem_of_getElem? (i := 1049) (by decide +kernel), List.mem_of_getElem? (i := 1050) (by decide +kernel)⟩
theorem lw_p37 : lw_okq (⟨"WhoeverHeardModel", "opensOne", "(I)Z"⟩, 62) := ⟨⟨by decide +kernel, by decide +kernel⟩, List.mem_of_getElem? (i := 1019) (by decide +kernel), List.mem_of_getElem? (i := 1056) (by decide +kernel), List.mem_of_getElem? (i := 1057) (by decide +kernel)⟩
theorem lw_p38 : lw_okq (⟨"WhoeverHeardModel", "holds", "(I)V"⟩, 62) := ⟨⟨by decide +kernel, by decide +kernel⟩, List.mem_of_getElem? (i := 1019) (by decide +kernel), List.mem_of_getElem? (i := 1060) (by decide +kernel), List.mem_of_getElem? (i := 1061) (by decide +kernel)⟩
theorem lw_p39 : lw_okq (⟨"WhoeverHeardModel", "signOf", "()I"⟩, 62) := ⟨⟨by decide +kernel, by decide +kernel⟩, List.mem_of_getElem? (i := 1019) (by decide +kernel), List.mem_of_getElem? (i := 1064) (by decide +kernel), List.mem_of_getElem? (i := 1065) (by decide +kernel)⟩
theorem lw_p40 : lw_okq (⟨"WhoeverHeardModel", "between", "(I)Z"⟩, 62) := ⟨⟨by decide +kernel, by decide +kernel⟩, List.mem_of_getElem? (i := 1019) (by decide +kernel), List.mem_of_getElem? (i := 1068) (by decide +kernel), List.mem_of_getElem? (i := 1069) (by decide +kernel)⟩
theorem lw_p41 : lw_okq (⟨"WhoeverHeardModel", "isOne", "(I)Z"⟩, 62) := ⟨⟨by decide +kernel, by decide +kernel⟩, List.mem_of_getElem? (i := 1019) (by decide +kernel), List.mem_of_getElem? (i := 1298) (by decide +kernel), List.mem_of_getElem? (i := 1299) (by decide +kernel)⟩
theorem lw_p42 : lw_okq (⟨"WhoeverHeardModel", "whereIs", "(II)I"⟩, 62) := ⟨⟨by decide +kernel, by decide +kernel⟩, List.mem_of_getElem? (i := 1019) (by decide +kernel), List.mem_of_getElem? (i := 1306) (by decide +kernel), List.mem_of_getElem? (i := 1307) (by decide +kernel)⟩
theorem lw_p43 : lw_okq (⟨"WhoeverHeardModel", "isPromise", "(I)Z"⟩, 62) := ⟨⟨by decide +kernel, by decide +kernel⟩, List.mem_of_getElem? (i := 1019) (by decide +kernel), List.mem_of_getElem? (i := 1318) (by decide +kernel), List.mem_of_getElem? (i := 1319) (by decide +kernel)⟩
theorem lw_p44 : lw_okq (⟨"WhoeverHeardModel", "says", "(III)V"⟩, 62) := ⟨⟨by decide +kernel, by decide +kernel⟩, List.mem_of_getElem? (i := 1019) (by decide +kernel), List.mem_of_getElem? (i := 1326) (by decide +kernel), List.mem_of_getElem? (i := 1327) (by decide +kernel)⟩
theorem lw_p45 : lw_okq (⟨"WhoeverHeardModel", "isSaying", "(I)Z"⟩, 62) := ⟨⟨by decide +kernel, by decide +kernel⟩, List.mem_of_getElem? (i := 1019) (by decide +kernel), List.mem_of_getElem? (i := 1338) (by decide +kernel), List.mem_of_getElem? (i := 1339) (by decide +kernel)⟩
theorem lw_p46 : lw_okq (⟨"WhoeverHeardModel", "hearsOf", "(II)I"⟩, 62) := ⟨⟨by decide +kernel, by decide +kernel⟩, List.mem_of_getElem? (i := 1019) (by decide +kernel), List.mem_of_getElem? (i := 1346) (by decide +kernel), List.mem_of_getElem? (i := 1347) (by decide +kernel)⟩
theorem lw_p47 : lw_okq (⟨"WhoeverHeardModel", "names", "(IIIIII)V"⟩, 62) := ⟨⟨by decide +kernel, by decide +kernel⟩, List.mem_of_getElem? (i := 1019) (by decide +kernel), List.mem_of_getElem? (i := 1350) (by decide +kernel), List.mem_of_getElem? (i := 1351) (by decide +kernel)⟩
def lw_privs_3 : List (MethodName × Nat) := [(⟨"WhoeverHeardModel", "next", "()V"⟩, 62), (⟨"WhoeverHeardModel", "wordFrom", "(II)I"⟩, 62), (⟨"WhoeverHeardModel", "eRead", "()Z"⟩, 62), (⟨"WhoeverHeardModel", "puts", "(I)V"⟩, 62), (⟨"WhoeverHeardModel", "unwinds", "(I)V"⟩, 62), (⟨"WhoeverHeardModel", "opensOne", "(I)Z"⟩, 62), (⟨"WhoeverHeardModel", "holds", "(I)V"⟩, 62), (⟨"WhoeverHeardModel", "signOf", "()I"⟩, 62), (⟨"WhoeverHeardModel", "between", "(I)Z"⟩, 62), (⟨"WhoeverHeardModel", "isOne", "(I)Z"⟩, 62), (⟨"WhoeverHeardModel", "whereIs", "(II)I"⟩, 62), (⟨"WhoeverHeardModel", "isPromise", "(I)Z"⟩, 62), (⟨"WhoeverHeardModel", "says", "(III)V"⟩, 62), (⟨"WhoeverHeardModel", "isSaying", "(I)Z"⟩, 62), (⟨"WhoeverHeardModel", "hearsOf", "(II)I"⟩, 62), (⟨"WhoeverHeardModel", "names", "(IIIIII)V"⟩, 62)]
theorem lw_r3 : ∀ q ∈ lw_privs_3, lw_okq q := List.forall_mem_cons.mpr ⟨lw_p32, List.forall_mem_cons.mpr ⟨lw_p33, List.forall_mem_cons.mpr ⟨lw_p34, List.forall_mem_cons.mpr ⟨lw_p35, List.forall_mem_cons.mpr ⟨lw_p36, List.forall_mem_cons.mpr ⟨lw_p37, List.forall_mem_cons.mpr ⟨lw_p38, List.forall_mem_cons.mpr ⟨lw_p39, List.forall_mem_cons.mpr ⟨lw_p40, List.forall_mem_cons.mpr ⟨lw_p41, List.forall_mem_cons.mpr ⟨lw_p42, List.forall_mem_cons.mpr ⟨lw_p43, List.forall_mem_cons.mpr ⟨lw_p44, List.forall_mem_cons.mpr ⟨lw_p45, List.forall_mem_cons.mpr ⟨lw_p46, List.forall_mem_cons.mpr ⟨lw_p47, fun _ h => absurd h List.not_mem_nil⟩⟩⟩⟩⟩⟩⟩⟩⟩⟩⟩⟩⟩⟩⟩⟩
theorem lw_p48 : lw_okq (⟨"WhoeverHeardModel", "worthOf", "(I)I"⟩, 62) := ⟨⟨by decide +kernel, by decide +kernel⟩, List.mem_of_getElem? (i := 1019) (by decide +kernel), List.mem_of_getElem? (i := 1354) (by decide +kernel), List.mem_of_getElem? (i := 1355) (by decide +kernel)⟩
theorem lw_p49 : lw_okq (⟨"WhoeverHeardModel", "clearTo", "(I)I"⟩, 62) := ⟨⟨by decide +kernel, by decide +kernel⟩, List.mem_of_getElem? (i := 1019) (by decide +kernel), List.mem_of_getElem? (i := 1368) (by decide +kernel), List.mem_of_getElem? (i := 1369) (by decide +kernel)⟩
theorem lw_p50 : lw_okq (⟨"WhoeverHeardModel", "isClear", "(II)Z"⟩, 62) := ⟨⟨by decide +kernel, by decide +kernel⟩, List.mem_of_getElem? (i := 1019) (by decide +kernel), List.mem_of_getElem? (i := 1372) (by decide +kernel), List.mem_of_getElem? (i := 1373) (by decide +kernel)⟩
theorem lw_p51 : lw_okq (⟨"WhoeverHeardModel", "owes", "(I)V"⟩, 62) := ⟨⟨by decide +kernel, by decide +kernel⟩, List.mem_of_getElem? (i := 1019) (by decide +kernel), List.mem_of_getElem? (i := 1387) (by decide +kernel), List.mem_of_getElem? (i := 1388) (by decide +kernel)⟩
theorem lw_p52 : lw_okq (⟨"WhoeverHeardModel", "owesBy", "(I)V"⟩, 62) := ⟨⟨by decide +kernel, by decide +kernel⟩, List.mem_of_getElem? (i := 1019) (by decide +kernel), List.mem_of_getElem? (i := 1391) (by decide +kernel), List.mem_of_getElem? (i := 1392) (by decide +kernel)⟩
theorem lw_p53 : lw_okq (⟨"WhoeverHeardModel", "can", "(II)Z"⟩, 62) := ⟨⟨by decide +kernel, by decide +kernel⟩, List.mem_of_getElem? (i := 1019) (by decide +kernel), List.mem_of_getElem? (i := 1398) (by decide +kernel), List.mem_of_getElem? (i := 1399) (by decide +kernel)⟩
theorem lw_p54 : lw_okq (⟨"WhoeverHeardModel", "strikes", "(I)V"⟩, 62) := ⟨⟨by decide +kernel, by decide +kernel⟩, List.mem_of_getElem? (i := 1019) (by decide +kernel), List.mem_of_getElem? (i := 1402) (by decide +kernel), List.mem_of_getElem? (i := 1403) (by decide +kernel)⟩
theorem lw_p55 : lw_okq (⟨"WhoeverHeardModel", "fits", "(I)V"⟩, 62) := ⟨⟨by decide +kernel, by decide +kernel⟩, List.mem_of_getElem? (i := 1019) (by decide +kernel), List.mem_of_getElem? (i := 1406) (by decide +kernel), List.mem_of_getElem? (i := 1407) (by decide +kernel)⟩
theorem lw_p56 : lw_okq (⟨"WhoeverHeardModel", "owedBy", "(I)I"⟩, 62) := ⟨⟨by decide +kernel, by decide +kernel⟩, List.mem_of_getElem? (i := 1019) (by decide +kernel), List.mem_of_getElem? (i := 1414) (by decide +kernel), List.mem_of_getElem? (i := 1415) (by decide +kernel)⟩
theorem lw_p57 : lw_okq (⟨"WhoeverHeardModel", "painOf", "(I)I"⟩, 62) := ⟨⟨by decide +kernel, by decide +kernel⟩, List.mem_of_getElem? (i := 1019) (by decide +kernel), List.mem_of_getElem? (i := 1418) (by decide +kernel), List.mem_of_getElem? (i := 1419) (by decide +kernel)⟩
theorem lw_p58 : lw_okq (⟨"WhoeverHeardModel", "doneOf", "(I)I"⟩, 62) := ⟨⟨by decide +kernel, by decide +kernel⟩, List.mem_of_getElem? (i := 1019) (by decide +kernel), List.mem_of_getElem? (i := 1426) (by decide +kernel), List.mem_of_getElem? (i := 1427) (by decide +kernel)⟩
theorem lw_p59 : lw_okq (⟨"WhoeverHeardModel", "keptNow", "()I"⟩, 62) := ⟨⟨by decide +kernel, by decide +kernel⟩, List.mem_of_getElem? (i := 1019) (by decide +kernel), List.mem_of_getElem? (i := 1434) (by decide +kernel), List.mem_of_getElem? (i := 1435) (by decide +kernel)⟩
theorem lw_p60 : lw_okq (⟨"WhoeverHeardModel", "isKept", "(I)Z"⟩, 62) := ⟨⟨by decide +kernel, by decide +kernel⟩, List.mem_of_getElem? (i := 1019) (by decide +kernel), List.mem_of_getElem? (i := 1438) (by decide +kernel), List.mem_of_getElem? (i := 1439) (by decide +kernel)⟩
theorem lw_p61 : lw_okq (⟨"WhoeverHeardModel", "worthNow", "()I"⟩, 62) := ⟨⟨by decide +kernel, by decide +kernel⟩, List.mem_of_getElem? (i := 1019) (by decide +kernel), List.mem_of_getElem? (i := 1442) (by decide +kernel), List.mem_of_getElem? (i := 1443) (by decide +kernel)⟩
theorem lw_p62 : lw_okq (⟨"WhoeverHeardModel", "painNow", "()I"⟩, 62) := ⟨⟨by decide +kernel, by decide +kernel⟩, List.mem_of_getElem? (i := 1019) (by decide +kernel), List.mem_of_getElem? (i := 1446) (by decide +kernel), List.mem_of_getElem? (i := 1447) (by decide +kernel)⟩
theorem lw_p63 : lw_okq (⟨"WhoeverHeardModel", "wayTo", "(I)I"⟩, 62) := ⟨⟨by decide +kernel, by decide +kernel⟩, List.mem_of_getElem? (i := 1019) (by decide +kernel), List.mem_of_getElem? (i := 1454) (by decide +kernel), List.mem_of_getElem? (i := 1455) (by decide +kernel)⟩
def lw_privs_4 : List (MethodName × Nat) := [(⟨"WhoeverHeardModel", "worthOf", "(I)I"⟩, 62), (⟨"WhoeverHeardModel", "clearTo", "(I)I"⟩, 62), (⟨"WhoeverHeardModel", "isClear", "(II)Z"⟩, 62), (⟨"WhoeverHeardModel", "owes", "(I)V"⟩, 62), (⟨"WhoeverHeardModel", "owesBy", "(I)V"⟩, 62), (⟨"WhoeverHeardModel", "can", "(II)Z"⟩, 62), (⟨"WhoeverHeardModel", "strikes", "(I)V"⟩, 62), (⟨"WhoeverHeardModel", "fits", "(I)V"⟩, 62), (⟨"WhoeverHeardModel", "owedBy", "(I)I"⟩, 62), (⟨"WhoeverHeardModel", "painOf", "(I)I"⟩, 62), (⟨"WhoeverHeardModel", "doneOf", "(I)I"⟩, 62), (⟨"WhoeverHeardModel", "keptNow", "()I"⟩, 62), (⟨"WhoeverHeardModel", "isKept", "(I)Z"⟩, 62), (⟨"WhoeverHeardModel", "worthNow", "()I"⟩, 62), (⟨"WhoeverHeardModel", "painNow", "()I"⟩, 62), (⟨"WhoeverHeardModel", "wayTo", "(I)I"⟩, 62)]
theorem lw_r4 : ∀ q ∈ lw_privs_4, lw_okq q := List.forall_mem_cons.mpr ⟨lw_p48, List.forall_mem_cons.mpr ⟨lw_p49, List.forall_mem_cons.mpr ⟨lw_p50, List.forall_mem_cons.mpr ⟨lw_p51, List.forall_mem_cons.mpr ⟨lw_p52, List.forall_mem_cons.mpr ⟨lw_p53, List.forall_mem_cons.mpr ⟨lw_p54, List.forall_mem_cons.mpr ⟨lw_p55, List.forall_mem_cons.mpr ⟨lw_p56, List.forall_mem_cons.mpr ⟨lw_p57, List.forall_mem_cons.mpr ⟨lw_p58, List.forall_mem_cons.mpr ⟨lw_p59, List.forall_mem_cons.mpr ⟨lw_p60, List.forall_mem_cons.mpr ⟨lw_p61, List.forall_mem_cons.mpr ⟨lw_p62, List.forall_mem_cons.mpr ⟨lw_p63, fun _ h => absurd h List.not_mem_nil⟩⟩⟩⟩⟩⟩⟩⟩⟩⟩⟩⟩⟩⟩⟩⟩
theorem lw_p64 : lw_okq (⟨"WhoeverHeardModel", "owesWith", "(II)V"⟩, 62) := ⟨⟨by decide +kernel, by decide +kernel⟩, List.mem_of_getElem? (i := 1019) (by decide +kernel), List.mem_of_getElem? (i := 1469) (by decide +kernel), List.mem_of_getElem? (i := 1470) (by decide +kernel)⟩
theorem lw_p65 : lw_okq (⟨"WhoeverHeardModel", "shares", "(I)Z"⟩, 62) := ⟨⟨by decide +kernel, by decide +kernel⟩, List.mem_of_getElem? (i := 1019) (by decide +kernel), List.mem_of_getElem? (i := 1489) (by decide +kernel), List.mem_of_getElem? (i := 1490) (by decide +kernel)⟩
theorem lw_p66 : lw_okq (⟨"WhoeverHeardModel", "goesTo", "(IZ)I"⟩, 62) := ⟨⟨by decide +kernel, by decide +kernel⟩, List.mem_of_getElem? (i := 1019) (by decide +kernel), List.mem_of_getElem? (i := 1501) (by decide +kernel), List.mem_of_getElem? (i := 1502) (by decide +kernel)⟩
theorem lw_p67 : lw_okq (⟨"WhoeverHeardModel", "owedAt", "(II)I"⟩, 62) := ⟨⟨by decide +kernel, by decide +kernel⟩, List.mem_of_getElem? (i := 1019) (by decide +kernel), List.mem_of_getElem? (i := 1505) (by decide +kernel), List.mem_of_getElem? (i := 1506) (by decide +kernel)⟩
theorem lw_p68 : lw_okq (⟨"WhoeverHeardModel", "chanceOf", "(II)J"⟩, 62) := ⟨⟨by decide +kernel, by decide +kernel⟩, List.mem_of_getElem? (i := 1019) (by decide +kernel), List.mem_of_getElem? (i := 1521) (by decide +kernel), List.mem_of_getElem? (i := 1522) (by decide +kernel)⟩
theorem lw_p69 : lw_okq (⟨"WhoeverHeardModel", "sheetWrong", "(I)I"⟩, 62) := ⟨⟨by decide +kernel, by decide +kernel⟩, List.mem_of_getElem? (i := 1019) (by decide +kernel), List.mem_of_getElem? (i := 1539) (by decide +kernel), List.mem_of_getElem? (i := 1540) (by decide +kernel)⟩
theorem lw_p70 : lw_okq (⟨"WhoeverHeardModel", "unlike", "(I)I"⟩, 62) := ⟨⟨by decide +kernel, by decide +kernel⟩, List.mem_of_getElem? (i := 1019) (by decide +kernel), List.mem_of_getElem? (i := 1543) (by decide +kernel), List.mem_of_getElem? (i := 1544) (by decide +kernel)⟩
theorem lw_p71 : lw_okq (⟨"WhoeverHeardModel", "draws", "(I)V"⟩, 62) := ⟨⟨by decide +kernel, by decide +kernel⟩, List.mem_of_getElem? (i := 1019) (by decide +kernel), List.mem_of_getElem? (i := 1556) (by decide +kernel), List.mem_of_getElem? (i := 1557) (by decide +kernel)⟩
def lw_privs_5 : List (MethodName × Nat) := [(⟨"WhoeverHeardModel", "owesWith", "(II)V"⟩, 62), (⟨"WhoeverHeardModel", "shares", "(I)Z"⟩, 62), (⟨"WhoeverHeardModel", "goesTo", "(IZ)I"⟩, 62), (⟨"WhoeverHeardModel", "owedAt", "(II)I"⟩, 62), (⟨"WhoeverHeardModel", "chanceOf", "(II)J"⟩, 62), (⟨"WhoeverHeardModel", "sheetWrong", "(I)I"⟩, 62), (⟨"WhoeverHeardModel", "unlike", "(I)I"⟩, 62), (⟨"WhoeverHeardModel", "draws", "(I)V"⟩, 62)]
theorem lw_r5 : ∀ q ∈ lw_privs_5, lw_okq q := List.forall_mem_cons.mpr ⟨lw_p64, List.forall_mem_cons.mpr ⟨lw_p65, List.forall_mem_cons.mpr ⟨lw_p66, List.forall_mem_cons.mpr ⟨lw_p67, List.forall_mem_cons.mpr ⟨lw_p68, List.forall_mem_cons.mpr ⟨lw_p69, List.forall_mem_cons.mpr ⟨lw_p70, List.forall_mem_cons.mpr ⟨lw_p71, fun _ h => absurd h List.not_mem_nil⟩⟩⟩⟩⟩⟩⟩⟩
def lw_privs : List (MethodName × Nat) := lw_privs_1 ++ (lw_privs_2 ++ (lw_privs_3 ++ (lw_privs_4 ++ (lw_privs_5))))
def lw_tbl : List Cond := k2_sels lw_privs ++ tables_1
theorem lw_privs_ok : ∀ q ∈ lw_privs, lw_okq q := by
  show ∀ q ∈ lw_privs_1 ++ (lw_privs_2 ++ (lw_privs_3 ++ (lw_privs_4 ++ (lw_privs_5)))), lw_okq q
  exact List.forall_mem_append.mpr ⟨lw_r1, List.forall_mem_append.mpr ⟨lw_r2, List.forall_mem_append.mpr ⟨lw_r3, List.forall_mem_append.mpr ⟨lw_r4, lw_r5⟩⟩⟩⟩
end
section
-- 01.names
abbrev MI : Type := MethodName × ByteArray × Nat × Option FieldType
def my (M : MI) : MethodName := M.1
def mcc (M : MI) : ByteArray := M.2.1
def mnl (M : MI) : Nat := M.2.2.1
def mret (M : MI) : Option FieldType := M.2.2.2
def RX0 : String := "WhoeverHeard$Folk"
def TX0 : u_T := fun k => match k with
  | 0 => ("WhoeverHeard$Folk", "kind", "[I", true)
  | 1 => ("WhoeverHeard$Folk", "home", "[I", true)
  | 2 => ("WhoeverHeard$Folk", "ear", "[I", true)
  | 3 => ("WhoeverHeard$Folk", "more", "[I", true)
  | 4 => ("WhoeverHeard$Folk", "works", "[I", true)
  | 5 => ("WhoeverHeard$Folk", "pains", "[I", true)
  | 6 => ("WhoeverHeard$Folk", "room", "[I", true)
  | 7 => ("WhoeverHeard$Folk", "moved", "[I", true)
  | _ => ("WhoeverHeard$Folk", "many", "I", false)
def RX1 : String := "WhoeverHeard$Image"
def TX1 : u_T := fun k => match k with
  | 0 => ("WhoeverHeard$Image", "town", "LWhoeverHeard$Town;", true)
  | 1 => ("WhoeverHeard$Image", "sayings", "LWhoeverHeard$Sayings;", true)
  | 2 => ("WhoeverHeard$Image", "moved", "[I", true)
  | 3 => ("WhoeverHeard$Image", "people", "I", false)
  | 4 => ("WhoeverHeard$Image", "law", "I", false)
  | _ => ("WhoeverHeard$Image", "isThere", "Z", false)
def RX2 : String := "WhoeverHeard$Ledger"
def TX2 : u_T := fun k => match k with
  | 0 => ("WhoeverHeard$Ledger", "town", "LWhoeverHeard$Town;", true)
  | 1 => ("WhoeverHeard$Ledger", "folk", "LWhoeverHeard$Folk;", true)
  | 2 => ("WhoeverHeard$Ledger", "vows", "LWhoeverHeard$Vows;", true)
  | 3 => ("WhoeverHeard$Ledger", "sayings", "LWhoeverHeard$Sayings;", true)
  | 4 => ("WhoeverHeard$Ledger", "texts", "LWhoeverHeard$Texts;", true)
  | 5 => ("WhoeverHeard$Ledger", "law", "I", false)
  | 6 => ("WhoeverHeard$Ledger", "hearing", "[I", true)
  | 7 => ("WhoeverHeard$Ledger", "clear", "[I", true)
  | 8 => ("WhoeverHeard$Ledger", "due", "[I", true)
  | 9 => ("WhoeverHeard$Ledger", "owed", "[I", true)
  | 10 => ("WhoeverHeard$Ledger", "total", "[I", true)
  | 11 => ("WhoeverHeard$Ledger", "struck", "[I", true)
  | 12 => ("WhoeverHeard$Ledger", "beyond", "[I", true)
  | 13 => ("WhoeverHeard$Ledger", "even", "[I", true)
  | _ => ("WhoeverHeard$Ledger", "byPlace", "[I", true)
def RX3 : String := "WhoeverHeard$Reader"
def TX3 : u_T := fun k => match k with
  | 0 => ("WhoeverHeard$Reader", "tape", "[I", true)
  | 1 => ("WhoeverHeard$Reader", "size", "I", false)
  | 2 => ("WhoeverHeard$Reader", "sort", "[I", true)
  | 3 => ("WhoeverHeard$Reader", "place", "[I", true)
  | 4 => ("WhoeverHeard$Reader", "value", "[I", true)
  | 5 => ("WhoeverHeard$Reader", "tokens", "I", false)
  | 6 => ("WhoeverHeard$Reader", "next", "I", false)
  | 7 => ("WhoeverHeard$Reader", "steps", "[I", true)
  | 8 => ("WhoeverHeard$Reader", "starts", "[I", true)
  | _ => ("WhoeverHeard$Reader", "used", "I", false)
def RX4 : String := "WhoeverHeard$Sayings"
def TX4 : u_T := fun k => match k with
  | 0 => ("WhoeverHeard$Sayings", "vow", "[I", true)
  | 1 => ("WhoeverHeard$Sayings", "place", "[I", true)
  | 2 => ("WhoeverHeard$Sayings", "minute", "[I", true)
  | 3 => ("WhoeverHeard$Sayings", "volume", "[I", true)
  | _ => ("WhoeverHeard$Sayings", "many", "I", false)
def RX5 : String := "WhoeverHeard$Sheets"
def TX5 : u_T := fun k => match k with
  | 0 => ("WhoeverHeard$Sheets", "sort", "[I", true)
  | 1 => ("WhoeverHeard$Sheets", "size", "[I", true)
  | _ => ("WhoeverHeard$Sheets", "cells", "[I", true)
def RX6 : String := "WhoeverHeard$Texts"
def TX6 : u_T := fun k => match k with
  | 0 => ("WhoeverHeard$Texts", "steps", "[I", true)
  | 1 => ("WhoeverHeard$Texts", "starts", "[I", true)
  | 2 => ("WhoeverHeard$Texts", "many", "I", false)
  | 3 => ("WhoeverHeard$Texts", "law", "I", false)
  | 4 => ("WhoeverHeard$Texts", "given", "[I", true)
  | _ => ("WhoeverHeard$Texts", "stack", "[I", true)
def RX7 : String := "WhoeverHeard$Town"
def TX7 : u_T := fun k => match k with
  | 0 => ("WhoeverHeard$Town", "apart", "[I", true)
  | 1 => ("WhoeverHeard$Town", "noise", "[I", true)
  | _ => ("WhoeverHeard$Town", "step", "I", false)
def RX8 : String := "WhoeverHeard$Vows"
def TX8 : u_T := fun k => match k with
  | 0 => ("WhoeverHeard$Vows", "work", "[I", true)
  | 1 => ("WhoeverHeard$Vows", "needs", "[I", true)
  | 2 => ("WhoeverHeard$Vows", "worth", "[I", true)
  | 3 => ("WhoeverHeard$Vows", "contrary", "[I", true)
  | _ => ("WhoeverHeard$Vows", "many", "I", false)
def RX9 : String := "WhoeverHeard"
def TX9 : u_T := fun k => match k with
  | 0 => ("WhoeverHeard", "town", "LWhoeverHeard$Town;", true)
  | 1 => ("WhoeverHeard", "folk", "LWhoeverHeard$Folk;", true)
  | 2 => ("WhoeverHeard", "vows", "LWhoeverHeard$Vows;", true)
  | 3 => ("WhoeverHeard", "sayings", "LWhoeverHeard$Sayings;", true)
  | 4 => ("WhoeverHeard", "reader", "LWhoeverHeard$Reader;", true)
  | 5 => ("WhoeverHeard", "texts", "LWhoeverHeard$Texts;", true)
  | 6 => ("WhoeverHeard", "ledger", "LWhoeverHeard$Ledger;", true)
  | 7 => ("WhoeverHeard", "kept", "LWhoeverHeard$Image;", true)
  | _ => ("WhoeverHeard", "sheets", "LWhoeverHeard$Sheets;", true)
def RX10 : String := "WhoeverHeardModel"
def TX10 : u_T := fun k => match k with
  | 0 => ("WhoeverHeardModel", "farness", "[I", true)
  | 1 => ("WhoeverHeardModel", "noise", "[I", true)
  | 2 => ("WhoeverHeardModel", "stride", "I", false)
  | 3 => ("WhoeverHeardModel", "people", "I", false)
  | 4 => ("WhoeverHeardModel", "kind", "[I", true)
  | 5 => ("WhoeverHeardModel", "home", "[I", true)
  | 6 => ("WhoeverHeardModel", "ear", "[I", true)
  | 7 => ("WhoeverHeardModel", "more", "[I", true)
  | 8 => ("WhoeverHeardModel", "works", "[I", true)
  | 9 => ("WhoeverHeardModel", "pains", "[I", true)
  | 10 => ("WhoeverHeardModel", "room", "[I", true)
  | 11 => ("WhoeverHeardModel", "moved", "[I", true)
  | 12 => ("WhoeverHeardModel", "promises", "I", false)
  | 13 => ("WhoeverHeardModel", "work", "[I", true)
  | 14 => ("WhoeverHeardModel", "needs", "[I", true)
  | 15 => ("WhoeverHeardModel", "prize", "[I", true)
  | 16 => ("WhoeverHeardModel", "against", "[I", true)
  | 17 => ("WhoeverHeardModel", "sayings", "I", false)
  | 18 => ("WhoeverHeardModel", "sayOf", "[I", true)
  | 19 => ("WhoeverHeardModel", "sayPlace", "[I", true)
  | 20 => ("WhoeverHeardModel", "sayMinute", "[I", true)
  | 21 => ("WhoeverHeardModel", "sayLoud", "[I", true)
  | 22 => ("WhoeverHeardModel", "tape", "[I", true)
  | 23 => ("WhoeverHeardModel", "taped", "I", false)
  | 24 => ("WhoeverHeardModel", "codes", "[I", true)
  | 25 => ("WhoeverHeardModel", "starts", "[I", true)
  | 26 => ("WhoeverHeardModel", "texts", "I", false)
  | 27 => ("WhoeverHeardModel", "rule", "I", false)
  | 28 => ("WhoeverHeardModel", "hasImage", "Z", false)
  | 29 => ("WhoeverHeardModel", "imageStride", "I", false)
  | 30 => ("WhoeverHeardModel", "imagePeople", "I", false)
  | 31 => ("WhoeverHeardModel", "imageSayings", "I", false)
  | 32 => ("WhoeverHeardModel", "imageRule", "I", false)
  | 33 => ("WhoeverHeardModel", "imageFar", "[I", true)
  | 34 => ("WhoeverHeardModel", "imageNoise", "[I", true)
  | 35 => ("WhoeverHeardModel", "imageMoved", "[I", true)
  | 36 => ("WhoeverHeardModel", "imageOf", "[I", true)
  | 37 => ("WhoeverHeardModel", "imagePlace", "[I", true)
  | 38 => ("WhoeverHeardModel", "imageMinute", "[I", true)
  | 39 => ("WhoeverHeardModel", "imageLoud", "[I", true)
  | 40 => ("WhoeverHeardModel", "sheetSort", "[I", true)
  | 41 => ("WhoeverHeardModel", "sheetSize", "[I", true)
  | 42 => ("WhoeverHeardModel", "cells", "[I", true)
  | 43 => ("WhoeverHeardModel", "law", "[I", true)
  | 44 => ("WhoeverHeardModel", "at", "I", false)
  | 45 => ("WhoeverHeardModel", "begun", "I", false)
  | 46 => ("WhoeverHeardModel", "token", "I", false)
  | 47 => ("WhoeverHeardModel", "value", "I", false)
  | 48 => ("WhoeverHeardModel", "words", "[I", true)
  | 49 => ("WhoeverHeardModel", "held", "[I", true)
  | 50 => ("WhoeverHeardModel", "heldMany", "I", false)
  | 51 => ("WhoeverHeardModel", "opens", "I", false)
  | 52 => ("WhoeverHeardModel", "out", "I", false)
  | 53 => ("WhoeverHeardModel", "stack", "[I", true)
  | 54 => ("WhoeverHeardModel", "named", "[I", true)
  | 55 => ("WhoeverHeardModel", "isDrawn", "Z", false)
  | 56 => ("WhoeverHeardModel", "lot", "J", false)
  | 57 => ("WhoeverHeardModel", "owed", "[I", true)
  | 58 => ("WhoeverHeardModel", "struck", "[I", true)
  | 59 => ("WhoeverHeardModel", "beyond", "[I", true)
  | 60 => ("WhoeverHeardModel", "but", "I", false)
  | _ => ("WhoeverHeardModel", "has", "[I", true)
abbrev vwCl : List vw_C := [(RX0, TX0, 9), (RX1, TX1, 6), (RX2, TX2, 15), (RX3, TX3, 10), (RX4, TX4, 5), (RX5, TX5, 3), (RX6, TX6, 6), (RX7, TX7, 3), (RX8, TX8, 5), (RX9, TX9, 9), (RX10, TX10, 62)]
def tyX0 : Nat → FieldType := fun k => match k with
  | 0 => .array .int
  | 1 => .array .int
  | 2 => .array .int
  | 3 => .array .int
  | 4 => .array .int
  | 5 => .array .int
  | 6 => .array .int
  | 7 => .array .int
  | _ => .int
def tyX1 : Nat → FieldType := fun k => match k with
  | 0 => .object "WhoeverHeard$Town"
  | 1 => .object "WhoeverHeard$Sayings"
  | 2 => .array .int
  | 3 => .int
  | 4 => .int
  | _ => .boolean
def tyX2 : Nat → FieldType := fun k => match k with
  | 0 => .object "WhoeverHeard$Town"
  | 1 => .object "WhoeverHeard$Folk"
  | 2 => .object "WhoeverHeard$Vows"
  | 3 => .object "WhoeverHeard$Sayings"
  | 4 => .object "WhoeverHeard$Texts"
  | 5 => .int
  | 6 => .array .int
  | 7 => .array .int
  | 8 => .array .int
  | 9 => .array .int
  | 10 => .array .int
  | 11 => .array .int
  | 12 => .array .int
  | 13 => .array .int
  | _ => .array .int
def tyX3 : Nat → FieldType := fun k => match k with
  | 0 => .array .int
  | 1 => .int
  | 2 => .array .int
  | 3 => .array .int
  | 4 => .array .int
  | 5 => .int
  | 6 => .int
  | 7 => .array .int
  | 8 => .array .int
  | _ => .int
def tyX4 : Nat → FieldType := fun k => match k with
  | 0 => .array .int
  | 1 => .array .int
  | 2 => .array .int
  | 3 => .array .int
  | _ => .int
def tyX5 : Nat → FieldType := fun k => match k with
  | 0 => .array .int
  | 1 => .array .int
  | _ => .array .int
def tyX6 : Nat → FieldType := fun k => match k with
  | 0 => .array .int
  | 1 => .array .int
  | 2 => .int
  | 3 => .int
  | 4 => .array .int
  | _ => .array .int
def tyX7 : Nat → FieldType := fun k => match k with
  | 0 => .array .int
  | 1 => .array .int
  | _ => .int
def tyX8 : Nat → FieldType := fun k => match k with
  | 0 => .array .int
  | 1 => .array .int
  | 2 => .array .int
  | 3 => .array .int
  | _ => .int
def tyX9 : Nat → FieldType := fun k => match k with
  | 0 => .object "WhoeverHeard$Town"
  | 1 => .object "WhoeverHeard$Folk"
  | 2 => .object "WhoeverHeard$Vows"
  | 3 => .object "WhoeverHeard$Sayings"
  | 4 => .object "WhoeverHeard$Reader"
  | 5 => .object "WhoeverHeard$Texts"
  | 6 => .object "WhoeverHeard$Ledger"
  | 7 => .object "WhoeverHeard$Image"
  | _ => .object "WhoeverHeard$Sheets"
def tyX10 : Nat → FieldType := fun k => match k with
  | 0 => .array .int
  | 1 => .array .int
  | 2 => .int
  | 3 => .int
  | 4 => .array .int
  | 5 => .array .int
  | 6 => .array .int
  | 7 => .array .int
  | 8 => .array .int
  | 9 => .array .int
  | 10 => .array .int
  | 11 => .array .int
  | 12 => .int
  | 13 => .array .int
  | 14 => .array .int
  | 15 => .array .int
  | 16 => .array .int
  | 17 => .int
  | 18 => .array .int
  | 19 => .array .int
  | 20 => .array .int
  | 21 => .array .int
  | 22 => .array .int
  | 23 => .int
  | 24 => .array .int
  | 25 => .array .int
  | 26 => .int
  | 27 => .int
  | 28 => .boolean
  | 29 => .int
  | 30 => .int
  | 31 => .int
  | 32 => .int
  | 33 => .array .int
  | 34 => .array .int
  | 35 => .array .int
  | 36 => .array .int
  | 37 => .array .int
  | 38 => .array .int
  | 39 => .array .int
  | 40 => .array .int
  | 41 => .array .int
  | 42 => .array .int
  | 43 => .array .int
  | 44 => .int
  | 45 => .int
  | 46 => .int
  | 47 => .int
  | 48 => .array .int
  | 49 => .array .int
  | 50 => .int
  | 51 => .int
  | 52 => .int
  | 53 => .array .int
  | 54 => .array .int
  | 55 => .boolean
  | 56 => .long
  | 57 => .array .int
  | 58 => .array .int
  | 59 => .array .int
  | 60 => .int
  | _ => .array .int
def ftab : List (List Nat) := [[2, 2, 2, 2, 2, 2, 2, 2, 0], [2, 2, 2, 0, 0, 0], [2, 2, 2, 2, 2, 0, 2, 2, 2, 2, 2, 2, 2, 2, 2], [2, 0, 2, 2, 2, 0, 0, 2, 2, 0], [2, 2, 2, 2, 0], [2, 2, 2], [2, 2, 0, 0, 2, 2], [2, 2, 0], [2, 2, 2, 2, 0], [2, 2, 2, 2, 2, 2, 2, 2, 2], [2, 2, 0, 0, 2, 2, 2, 2, 2, 2, 2, 2, 0, 2, 2, 2, 2, 0, 2, 2, 2, 2, 2, 0, 2, 2, 0, 0, 0, 0, 0, 0, 0, 2, 2, 2, 2, 2, 2, 2, 2, 2, 2, 2, 0, 0, 0, 0, 2, 2, 0, 0, 0, 2, 2, 0, 1, 2, 2, 2, 0, 2]]
def mFolk_init : MI := (⟨"WhoeverHeard$Folk", "<init>", "()V"⟩, prog_2_method_1_code, 1, none)
def mFolk_has : MI := (⟨"WhoeverHeard$Folk", "has", "(I)Z"⟩, prog_2_method_2_code, 2, (some .boolean))
def mFolk_add : MI := (⟨"WhoeverHeard$Folk", "add", "(IIII)I"⟩, prog_2_method_3_code, 6, (some .int))
def mFolk_isA : MI := (⟨"WhoeverHeard$Folk", "isA", "(II)Z"⟩, prog_2_method_4_code, 5, (some .boolean))
def mFolk_startOf : MI := (⟨"WhoeverHeard$Folk", "startOf", "(I)I"⟩, prog_2_method_5_code, 2, (some .int))
def mFolk_placeOf : MI := (⟨"WhoeverHeard$Folk", "placeOf", "(II)I"⟩, prog_2_method_6_code, 4, (some .int))
def mFolk_isBound : MI := (⟨"WhoeverHeard$Folk", "isBound", "(I)Z"⟩, prog_2_method_7_code, 2, (some .boolean))
def mFolk_canDo : MI := (⟨"WhoeverHeard$Folk", "canDo", "(II)Z"⟩, prog_2_method_8_code, 3, (some .boolean))
def mFolk_hearingOf : MI := (⟨"WhoeverHeard$Folk", "hearingOf", "(III)I"⟩, prog_2_method_9_code, 4, (some .int))
def mImage_init : MI := (⟨"WhoeverHeard$Image", "<init>", "()V"⟩, prog_3_method_1_code, 1, none)
def mImage_keep : MI := (⟨"WhoeverHeard$Image", "keep", "(LWhoeverHeard$Town;LWhoeverHeard$Folk;LWhoeverHeard$Sayings;LWhoeverHeard$Texts;)V"⟩, prog_3_method_2_code, 5, none)
def mImage_giveBack : MI := (⟨"WhoeverHeard$Image", "giveBack", "(LWhoeverHeard$Town;LWhoeverHeard$Folk;LWhoeverHeard$Sayings;LWhoeverHeard$Texts;)V"⟩, prog_3_method_3_code, 5, none)
def mLedger_init : MI := (⟨"WhoeverHeard$Ledger", "<init>", "(LWhoeverHeard$Town;LWhoeverHeard$Folk;LWhoeverHeard$Vows;LWhoeverHeard$Sayings;LWhoeverHeard$Texts;)V"⟩, prog_4_method_1_code, 6, none)
def mLedger_reckon : MI := (⟨"WhoeverHeard$Ledger", "reckon", "(I)V"⟩, prog_4_method_2_code, 2, none)
def mLedger_listen : MI := (⟨"WhoeverHeard$Ledger", "listen", "(I)V"⟩, prog_4_method_3_code, 3, none)
def mLedger_listenBy : MI := (⟨"WhoeverHeard$Ledger", "listenBy", "(I)V"⟩, prog_4_method_4_code, 3, none)
def mLedger_listenTo : MI := (⟨"WhoeverHeard$Ledger", "listenTo", "(I)V"⟩, prog_4_method_5_code, 3, none)
def mLedger_listenOne : MI := (⟨"WhoeverHeard$Ledger", "listenOne", "(II)V"⟩, prog_4_method_6_code, 6, none)
def mLedger_setClear : MI := (⟨"WhoeverHeard$Ledger", "setClear", "(IIZ)V"⟩, prog_4_method_7_code, 4, none)
def mLedger_bindAll : MI := (⟨"WhoeverHeard$Ledger", "bindAll", "()V"⟩, prog_4_method_8_code, 2, none)
def mLedger_bindBy : MI := (⟨"WhoeverHeard$Ledger", "bindBy", "(I)V"⟩, prog_4_method_9_code, 3, none)
def mLedger_shareOf : MI := (⟨"WhoeverHeard$Ledger", "shareOf", "(II)I"⟩, prog_4_method_10_code, 4, (some .int))
def mLedger_settle : MI := (⟨"WhoeverHeard$Ledger", "settle", "(II)V"⟩, prog_4_method_11_code, 4, none)
def mLedger_settleOne : MI := (⟨"WhoeverHeard$Ledger", "settleOne", "(III)V"⟩, prog_4_method_12_code, 6, none)
def mLedger_strikeOut : MI := (⟨"WhoeverHeard$Ledger", "strikeOut", "(I)V"⟩, prog_4_method_13_code, 6, none)
def mLedger_cutToRoom : MI := (⟨"WhoeverHeard$Ledger", "cutToRoom", "(I)V"⟩, prog_4_method_14_code, 6, none)
def mLedger_doneOf : MI := (⟨"WhoeverHeard$Ledger", "doneOf", "(I)I"⟩, prog_4_method_15_code, 4, (some .int))
def mLedger_keeps : MI := (⟨"WhoeverHeard$Ledger", "keeps", "(I)Z"⟩, prog_4_method_16_code, 2, (some .boolean))
def mLedger_keptBits : MI := (⟨"WhoeverHeard$Ledger", "keptBits", "()I"⟩, prog_4_method_17_code, 3, (some .int))
def mLedger_worthKept : MI := (⟨"WhoeverHeard$Ledger", "worthKept", "()I"⟩, prog_4_method_18_code, 3, (some .int))
def mLedger_painOf : MI := (⟨"WhoeverHeard$Ledger", "painOf", "(I)I"⟩, prog_4_method_19_code, 2, (some .int))
def mLedger_painOfAll : MI := (⟨"WhoeverHeard$Ledger", "painOfAll", "()I"⟩, prog_4_method_20_code, 3, (some .int))
def mLedger_outcome : MI := (⟨"WhoeverHeard$Ledger", "outcome", "(I)I"⟩, prog_4_method_21_code, 2, (some .int))
def mLedger_fullBits : MI := (⟨"WhoeverHeard$Ledger", "fullBits", "()I"⟩, prog_4_method_22_code, 3, (some .int))
def mLedger_sayMore : MI := (⟨"WhoeverHeard$Ledger", "sayMore", "(II)V"⟩, prog_4_method_23_code, 4, none)
def mLedger_draw : MI := (⟨"WhoeverHeard$Ledger", "draw", "(I)V"⟩, prog_4_method_24_code, 6, none)
def mLedger_tryPlaces : MI := (⟨"WhoeverHeard$Ledger", "tryPlaces", "(I)V"⟩, prog_4_method_25_code, 5, none)
def mLedger_sharesOut : MI := (⟨"WhoeverHeard$Ledger", "sharesOut", "(I)Z"⟩, prog_4_method_26_code, 5, (some .boolean))
def mLedger_evenBits : MI := (⟨"WhoeverHeard$Ledger", "evenBits", "(I)I"⟩, prog_4_method_27_code, 4, (some .int))
def mLedger_lightest : MI := (⟨"WhoeverHeard$Ledger", "lightest", "(I)I"⟩, prog_4_method_28_code, 7, (some .int))
def mLedger_chanceOf : MI := (⟨"WhoeverHeard$Ledger", "chanceOf", "(II)J"⟩, prog_4_method_29_code, 6, (some .long))
def mReader_init : MI := (⟨"WhoeverHeard$Reader", "<init>", "()V"⟩, prog_5_method_1_code, 1, none)
def mReader_put : MI := (⟨"WhoeverHeard$Reader", "put", "(I)V"⟩, prog_5_method_2_code, 2, none)
def mReader_clear : MI := (⟨"WhoeverHeard$Reader", "clear", "()V"⟩, prog_5_method_3_code, 1, none)
def mReader_fault : MI := (⟨"WhoeverHeard$Reader", "fault", "()I"⟩, prog_5_method_4_code, 1, (some .int))
def mReader_reads : MI := (⟨"WhoeverHeard$Reader", "reads", "()Z"⟩, prog_5_method_5_code, 2, (some .boolean))
def mReader_cut : MI := (⟨"WhoeverHeard$Reader", "cut", "()V"⟩, prog_5_method_6_code, 5, none)
def mReader_putToken : MI := (⟨"WhoeverHeard$Reader", "putToken", "(III)V"⟩, prog_5_method_7_code, 4, none)
def mReader_putNumber : MI := (⟨"WhoeverHeard$Reader", "putNumber", "(II)V"⟩, prog_5_method_8_code, 5, none)
def mReader_putWord : MI := (⟨"WhoeverHeard$Reader", "putWord", "(II)V"⟩, prog_5_method_9_code, 4, none)
def mReader_nameAt : MI := (⟨"WhoeverHeard$Reader", "nameAt", "(II)I"⟩, prog_5_method_10_code, 3, (some .int))
def mReader_keyAt : MI := (⟨"WhoeverHeard$Reader", "keyAt", "(II)I"⟩, prog_5_method_11_code, 3, (some .int))
def mReader_spells : MI := (⟨"WhoeverHeard$Reader", "spells", "(Ljava/lang/String;II)Z"⟩, prog_5_method_12_code, 5, (some .boolean))
def mReader_lettersEnd : MI := (⟨"WhoeverHeard$Reader", "lettersEnd", "(I)I"⟩, prog_5_method_13_code, 3, (some .int))
def mReader_digitsEnd : MI := (⟨"WhoeverHeard$Reader", "digitsEnd", "(I)I"⟩, prog_5_method_14_code, 3, (some .int))
def mReader_isLetter : MI := (⟨"WhoeverHeard$Reader", "isLetter", "(I)Z"⟩, prog_5_method_15_code, 1, (some .boolean))
def mReader_isDigit : MI := (⟨"WhoeverHeard$Reader", "isDigit", "(I)Z"⟩, prog_5_method_16_code, 1, (some .boolean))
def mReader_isSign : MI := (⟨"WhoeverHeard$Reader", "isSign", "(I)Z"⟩, prog_5_method_17_code, 1, (some .boolean))
def mReader_passes : MI := (⟨"WhoeverHeard$Reader", "passes", "(I)Z"⟩, prog_5_method_18_code, 2, (some .boolean))
def mReader_step : MI := (⟨"WhoeverHeard$Reader", "step", "(I)V"⟩, prog_5_method_19_code, 2, none)
def mReader_joins : MI := (⟨"WhoeverHeard$Reader", "joins", "(II)Z"⟩, prog_5_method_20_code, 2, (some .boolean))
def mReader_level : MI := (⟨"WhoeverHeard$Reader", "level", "(II)Z"⟩, prog_5_method_21_code, 5, (some .boolean))
def mReader_negation : MI := (⟨"WhoeverHeard$Reader", "negation", "(I)Z"⟩, prog_5_method_22_code, 3, (some .boolean))
def mReader_one : MI := (⟨"WhoeverHeard$Reader", "one", "(I)Z"⟩, prog_5_method_23_code, 3, (some .boolean))
def mReader_opens : MI := (⟨"WhoeverHeard$Reader", "opens", "(II)Z"⟩, prog_5_method_24_code, 3, (some .boolean))
def mReader_did : MI := (⟨"WhoeverHeard$Reader", "did", "(I)Z"⟩, prog_5_method_25_code, 2, (some .boolean))
def mSayings_init : MI := (⟨"WhoeverHeard$Sayings", "<init>", "()V"⟩, prog_6_method_1_code, 1, none)
def mSayings_has : MI := (⟨"WhoeverHeard$Sayings", "has", "(I)Z"⟩, prog_6_method_2_code, 2, (some .boolean))
def mSayings_put : MI := (⟨"WhoeverHeard$Sayings", "put", "(III)V"⟩, prog_6_method_3_code, 4, none)
def mSayings_become : MI := (⟨"WhoeverHeard$Sayings", "become", "(LWhoeverHeard$Sayings;)V"⟩, prog_6_method_4_code, 2, none)
def mSheets_init : MI := (⟨"WhoeverHeard$Sheets", "<init>", "()V"⟩, prog_7_method_1_code, 1, none)
def mSheets_isMissing : MI := (⟨"WhoeverHeard$Sheets", "isMissing", "(I)Z"⟩, prog_7_method_2_code, 2, (some .boolean))
def mSheets_become : MI := (⟨"WhoeverHeard$Sheets", "become", "(III)V"⟩, prog_7_method_3_code, 5, none)
def mSheets_set : MI := (⟨"WhoeverHeard$Sheets", "set", "(III)V"⟩, prog_7_method_4_code, 4, none)
def mSheets_bitsAt : MI := (⟨"WhoeverHeard$Sheets", "bitsAt", "(II)I"⟩, prog_7_method_5_code, 4, (some .int))
def mTexts_init : MI := (⟨"WhoeverHeard$Texts", "<init>", "()V"⟩, prog_8_method_1_code, 1, none)
def mTexts_add : MI := (⟨"WhoeverHeard$Texts", "add", "(LWhoeverHeard$Reader;)I"⟩, prog_8_method_2_code, 3, (some .int))
def mTexts_giveNothing : MI := (⟨"WhoeverHeard$Texts", "giveNothing", "()V"⟩, prog_8_method_3_code, 2, none)
def mTexts_value : MI := (⟨"WhoeverHeard$Texts", "value", "(II)I"⟩, prog_8_method_4_code, 9, (some .int))
def mTexts_joined : MI := (⟨"WhoeverHeard$Texts", "joined", "(III)I"⟩, prog_8_method_5_code, 3, (some .int))
def mTown_init : MI := (⟨"WhoeverHeard$Town", "<init>", "()V"⟩, prog_9_method_1_code, 3, none)
def mTown_between : MI := (⟨"WhoeverHeard$Town", "between", "(II)I"⟩, prog_9_method_2_code, 3, (some .int))
def mTown_setBetween : MI := (⟨"WhoeverHeard$Town", "setBetween", "(III)V"⟩, prog_9_method_3_code, 4, none)
def mTown_become : MI := (⟨"WhoeverHeard$Town", "become", "(LWhoeverHeard$Town;)V"⟩, prog_9_method_4_code, 2, none)
def mVows_init : MI := (⟨"WhoeverHeard$Vows", "<init>", "()V"⟩, prog_10_method_1_code, 1, none)
def mVows_has : MI := (⟨"WhoeverHeard$Vows", "has", "(I)Z"⟩, prog_10_method_2_code, 2, (some .boolean))
def mVows_add : MI := (⟨"WhoeverHeard$Vows", "add", "(IIII)I"⟩, prog_10_method_3_code, 6, (some .int))
def mW_init : MI := (⟨"WhoeverHeard", "<init>", "()V"⟩, prog_1_method_1_code, 2, none)
def mW_far : MI := (⟨"WhoeverHeard", "far", "(III)I"⟩, prog_1_method_2_code, 5, (some .int))
def mW_hush : MI := (⟨"WhoeverHeard", "hush", "(II)I"⟩, prog_1_method_3_code, 4, (some .int))
def mW_stride : MI := (⟨"WhoeverHeard", "stride", "(I)I"⟩, prog_1_method_4_code, 3, (some .int))
def mW_count : MI := (⟨"WhoeverHeard", "count", "(I)I"⟩, prog_1_method_5_code, 2, (some .int))
def mW_feed : MI := (⟨"WhoeverHeard", "feed", "(IIIIII)I"⟩, prog_1_method_6_code, 8, (some .int))
def mW_text : MI := (⟨"WhoeverHeard", "text", "()I"⟩, prog_1_method_7_code, 2, (some .int))
def mW_force : MI := (⟨"WhoeverHeard", "force", "(I)I"⟩, prog_1_method_8_code, 3, (some .int))
def mW_person : MI := (⟨"WhoeverHeard", "person", "(IIII)I"⟩, prog_1_method_9_code, 5, (some .int))
def mW_move : MI := (⟨"WhoeverHeard", "move", "(II)I"⟩, prog_1_method_10_code, 4, (some .int))
def mW_told : MI := (⟨"WhoeverHeard", "told", "(II)I"⟩, prog_1_method_11_code, 3, (some .int))
def mW_promise : MI := (⟨"WhoeverHeard", "promise", "(IIII)I"⟩, prog_1_method_12_code, 5, (some .int))
def mW_promised : MI := (⟨"WhoeverHeard", "promised", "(II)I"⟩, prog_1_method_13_code, 3, (some .int))
def mW_say : MI := (⟨"WhoeverHeard", "say", "(II)I"⟩, prog_1_method_14_code, 4, (some .int))
def mW_unsay : MI := (⟨"WhoeverHeard", "unsay", "()I"⟩, prog_1_method_15_code, 1, (some .int))
def mW_said : MI := (⟨"WhoeverHeard", "said", "(II)I"⟩, prog_1_method_16_code, 3, (some .int))
def mW_hears : MI := (⟨"WhoeverHeard", "hears", "(II)I"⟩, prog_1_method_17_code, 3, (some .int))
def mW_heard : MI := (⟨"WhoeverHeard", "heard", "(I)I"⟩, prog_1_method_18_code, 2, (some .int))
def mW_nobody : MI := (⟨"WhoeverHeard", "nobody", "()I"⟩, prog_1_method_19_code, 3, (some .int))
def mW_owe : MI := (⟨"WhoeverHeard", "owe", "(II)I"⟩, prog_1_method_20_code, 3, (some .int))
def mW_load : MI := (⟨"WhoeverHeard", "load", "(II)I"⟩, prog_1_method_21_code, 3, (some .int))
def mW_done : MI := (⟨"WhoeverHeard", "done", "(I)I"⟩, prog_1_method_22_code, 2, (some .int))
def mW_sum : MI := (⟨"WhoeverHeard", "sum", "(I)I"⟩, prog_1_method_23_code, 2, (some .int))
def mW_judge : MI := (⟨"WhoeverHeard", "judge", "()I"⟩, prog_1_method_24_code, 3, (some .int))
def mW_walk : MI := (⟨"WhoeverHeard", "walk", "()I"⟩, prog_1_method_25_code, 3, (some .int))
def mW_best : MI := (⟨"WhoeverHeard", "best", "(II)I"⟩, prog_1_method_26_code, 7, (some .int))
def mW_foe : MI := (⟨"WhoeverHeard", "foe", "(III)I"⟩, prog_1_method_27_code, 7, (some .int))
def mW_loud : MI := (⟨"WhoeverHeard", "loud", "(III)I"⟩, prog_1_method_28_code, 5, (some .int))
def mW_spare : MI := (⟨"WhoeverHeard", "spare", "()I"⟩, prog_1_method_29_code, 4, (some .int))
def mW_even : MI := (⟨"WhoeverHeard", "even", "(II)I"⟩, prog_1_method_30_code, 3, (some .int))
def mW_hardest : MI := (⟨"WhoeverHeard", "hardest", "(I)I"⟩, prog_1_method_31_code, 4, (some .int))
def mW_flee : MI := (⟨"WhoeverHeard", "flee", "(II)I"⟩, prog_1_method_32_code, 4, (some .int))
def mW_send : MI := (⟨"WhoeverHeard", "send", "(II)I"⟩, prog_1_method_33_code, 4, (some .int))
def mW_rest : MI := (⟨"WhoeverHeard", "rest", "(I)I"⟩, prog_1_method_34_code, 6, (some .int))
def mW_chance : MI := (⟨"WhoeverHeard", "chance", "(II)J"⟩, prog_1_method_35_code, 3, (some .long))
def mW_lost : MI := (⟨"WhoeverHeard", "lost", "(I)J"⟩, prog_1_method_36_code, 5, (some .long))
def mW_laws : MI := (⟨"WhoeverHeard", "laws", "(I)I"⟩, prog_1_method_37_code, 8, (some .int))
def mW_witness : MI := (⟨"WhoeverHeard", "witness", "(I)I"⟩, prog_1_method_38_code, 3, (some .int))
def mW_alibi : MI := (⟨"WhoeverHeard", "alibi", "(II)I"⟩, prog_1_method_39_code, 7, (some .int))
def mW_drawn : MI := (⟨"WhoeverHeard", "drawn", "(II)I"⟩, prog_1_method_40_code, 3, (some .int))
def mW_odds : MI := (⟨"WhoeverHeard", "odds", "(IIII)J"⟩, prog_1_method_41_code, 7, (some .long))
def mW_image : MI := (⟨"WhoeverHeard", "image", "()I"⟩, prog_1_method_42_code, 1, (some .int))
def mW_back : MI := (⟨"WhoeverHeard", "back", "()I"⟩, prog_1_method_43_code, 1, (some .int))
def mW_sheet : MI := (⟨"WhoeverHeard", "sheet", "(III)I"⟩, prog_1_method_44_code, 4, (some .int))
def mW_cell : MI := (⟨"WhoeverHeard", "cell", "(III)I"⟩, prog_1_method_45_code, 4, (some .int))
def mW_copy : MI := (⟨"WhoeverHeard", "copy", "(IIIII)I"⟩, prog_1_method_46_code, 6, (some .int))
def mW_promisesBy : MI := (⟨"WhoeverHeard", "promisesBy", "(IIII)I"⟩, prog_1_method_47_code, 10, (some .int))
def mW_taken : MI := (⟨"WhoeverHeard", "taken", "(II)I"⟩, prog_1_method_48_code, 4, (some .int))
def mW_within : MI := (⟨"WhoeverHeard", "within", "(III)Z"⟩, prog_1_method_49_code, 3, (some .boolean))
def mW_isByte : MI := (⟨"WhoeverHeard", "isByte", "(I)Z"⟩, prog_1_method_50_code, 1, (some .boolean))
def mW_isHow : MI := (⟨"WhoeverHeard", "isHow", "(I)Z"⟩, prog_1_method_51_code, 1, (some .boolean))
def mW_bounded : MI := (⟨"WhoeverHeard", "bounded", "(II)I"⟩, prog_1_method_52_code, 2, (some .int))
def mW_leastOf : MI := (⟨"WhoeverHeard", "leastOf", "([I)I"⟩, prog_1_method_53_code, 3, (some .int))
def mW_mostOf : MI := (⟨"WhoeverHeard", "mostOf", "([I)I"⟩, prog_1_method_54_code, 3, (some .int))
def mW_commonDivisor : MI := (⟨"WhoeverHeard", "commonDivisor", "(II)I"⟩, prog_1_method_55_code, 6, (some .int))
def mW_wayTo : MI := (⟨"WhoeverHeard", "wayTo", "(I)I"⟩, prog_1_method_56_code, 2, (some .int))
def mW_movesAway : MI := (⟨"WhoeverHeard", "movesAway", "(I)Z"⟩, prog_1_method_57_code, 3, (some .boolean))
def mW_witnessRefusal : MI := (⟨"WhoeverHeard", "witnessRefusal", "(I)I"⟩, prog_1_method_58_code, 2, (some .int))
def mW_firstHeardByOthers : MI := (⟨"WhoeverHeard", "firstHeardByOthers", "(I)I"⟩, prog_1_method_59_code, 3, (some .int))
def mR_init : MI := (⟨"WhoeverHeardModel", "<init>", "()V"⟩, prog_12_method_1_code, 2, none)
def mR_in : MI := (⟨"WhoeverHeardModel", "in", "(III)Z"⟩, prog_12_method_3_code, 3, (some .boolean))
def mR_size : MI := (⟨"WhoeverHeardModel", "size", "(I)I"⟩, prog_12_method_4_code, 1, (some .int))
def mR_within : MI := (⟨"WhoeverHeardModel", "within", "(III)I"⟩, prog_12_method_5_code, 3, (some .int))
def mR_isOne : MI := (⟨"WhoeverHeardModel", "isOne", "(I)Z"⟩, prog_12_method_6_code, 2, (some .boolean))
def mR_isPromise : MI := (⟨"WhoeverHeardModel", "isPromise", "(I)Z"⟩, prog_12_method_7_code, 2, (some .boolean))
def mR_isSaying : MI := (⟨"WhoeverHeardModel", "isSaying", "(I)Z"⟩, prog_12_method_8_code, 2, (some .boolean))
def mR_far : MI := (⟨"WhoeverHeardModel", "far", "(III)I"⟩, prog_12_method_9_code, 5, (some .int))
def mR_hush : MI := (⟨"WhoeverHeardModel", "hush", "(II)I"⟩, prog_12_method_10_code, 4, (some .int))
def mR_stride : MI := (⟨"WhoeverHeardModel", "stride", "(I)I"⟩, prog_12_method_11_code, 3, (some .int))
def mR_count : MI := (⟨"WhoeverHeardModel", "count", "(I)I"⟩, prog_12_method_12_code, 2, (some .int))
def mR_isByte : MI := (⟨"WhoeverHeardModel", "isByte", "(I)Z"⟩, prog_12_method_13_code, 1, (some .boolean))
def mR_feed : MI := (⟨"WhoeverHeardModel", "feed", "(IIIIII)I"⟩, prog_12_method_14_code, 8, (some .int))
def mR_wordFrom : MI := (⟨"WhoeverHeardModel", "wordFrom", "(II)I"⟩, prog_12_method_15_code, 6, (some .int))
def mR_next : MI := (⟨"WhoeverHeardModel", "next", "()V"⟩, prog_12_method_16_code, 3, none)
def mR_rank : MI := (⟨"WhoeverHeardModel", "rank", "(I)I"⟩, prog_12_method_17_code, 1, (some .int))
def mR_puts : MI := (⟨"WhoeverHeardModel", "puts", "(I)V"⟩, prog_12_method_18_code, 2, none)
def mR_unwinds : MI := (⟨"WhoeverHeardModel", "unwinds", "(I)V"⟩, prog_12_method_19_code, 3, none)
def mR_holds : MI := (⟨"WhoeverHeardModel", "holds", "(I)V"⟩, prog_12_method_20_code, 2, none)
def mR_opensOne : MI := (⟨"WhoeverHeardModel", "opensOne", "(I)Z"⟩, prog_12_method_21_code, 2, (some .boolean))
def mR_between : MI := (⟨"WhoeverHeardModel", "between", "(I)Z"⟩, prog_12_method_22_code, 2, (some .boolean))
def mR_signOf : MI := (⟨"WhoeverHeardModel", "signOf", "()I"⟩, prog_12_method_23_code, 1, (some .int))
def mR_eRead : MI := (⟨"WhoeverHeardModel", "eRead", "()Z"⟩, prog_12_method_24_code, 4, (some .boolean))
def mR_text : MI := (⟨"WhoeverHeardModel", "text", "()I"⟩, prog_12_method_25_code, 3, (some .int))
def mR_two : MI := (⟨"WhoeverHeardModel", "two", "(III)I"⟩, prog_12_method_26_code, 3, (some .int))
def mR_worthOf : MI := (⟨"WhoeverHeardModel", "worthOf", "(I)I"⟩, prog_12_method_27_code, 5, (some .int))
def mR_names : MI := (⟨"WhoeverHeardModel", "names", "(IIIIII)V"⟩, prog_12_method_28_code, 7, none)
def mR_force : MI := (⟨"WhoeverHeardModel", "force", "(I)I"⟩, prog_12_method_29_code, 3, (some .int))
def mR_person : MI := (⟨"WhoeverHeardModel", "person", "(IIII)I"⟩, prog_12_method_30_code, 6, (some .int))
def mR_move : MI := (⟨"WhoeverHeardModel", "move", "(II)I"⟩, prog_12_method_31_code, 4, (some .int))
def mR_whereIs : MI := (⟨"WhoeverHeardModel", "whereIs", "(II)I"⟩, prog_12_method_32_code, 5, (some .int))
def mR_told : MI := (⟨"WhoeverHeardModel", "told", "(II)I"⟩, prog_12_method_33_code, 3, (some .int))
def mR_promise : MI := (⟨"WhoeverHeardModel", "promise", "(IIII)I"⟩, prog_12_method_34_code, 5, (some .int))
def mR_promised : MI := (⟨"WhoeverHeardModel", "promised", "(II)I"⟩, prog_12_method_35_code, 3, (some .int))
def mR_says : MI := (⟨"WhoeverHeardModel", "says", "(III)V"⟩, prog_12_method_36_code, 4, none)
def mR_say : MI := (⟨"WhoeverHeardModel", "say", "(II)I"⟩, prog_12_method_37_code, 4, (some .int))
def mR_unsay : MI := (⟨"WhoeverHeardModel", "unsay", "()I"⟩, prog_12_method_38_code, 1, (some .int))
def mR_said : MI := (⟨"WhoeverHeardModel", "said", "(II)I"⟩, prog_12_method_39_code, 3, (some .int))
def mR_hearsOf : MI := (⟨"WhoeverHeardModel", "hearsOf", "(II)I"⟩, prog_12_method_40_code, 5, (some .int))
def mR_hears : MI := (⟨"WhoeverHeardModel", "hears", "(II)I"⟩, prog_12_method_41_code, 3, (some .int))
def mR_isClear : MI := (⟨"WhoeverHeardModel", "isClear", "(II)Z"⟩, prog_12_method_42_code, 4, (some .boolean))
def mR_clearTo : MI := (⟨"WhoeverHeardModel", "clearTo", "(I)I"⟩, prog_12_method_43_code, 4, (some .int))
def mR_heard : MI := (⟨"WhoeverHeardModel", "heard", "(I)I"⟩, prog_12_method_44_code, 2, (some .int))
def mR_nobody : MI := (⟨"WhoeverHeardModel", "nobody", "()I"⟩, prog_12_method_45_code, 3, (some .int))
def mR_can : MI := (⟨"WhoeverHeardModel", "can", "(II)Z"⟩, prog_12_method_46_code, 3, (some .boolean))
def mR_ones : MI := (⟨"WhoeverHeardModel", "ones", "(I)I"⟩, prog_12_method_47_code, 3, (some .int))
def mR_owesBy : MI := (⟨"WhoeverHeardModel", "owesBy", "(I)V"⟩, prog_12_method_48_code, 7, none)
def mR_strikes : MI := (⟨"WhoeverHeardModel", "strikes", "(I)V"⟩, prog_12_method_49_code, 5, none)
def mR_fits : MI := (⟨"WhoeverHeardModel", "fits", "(I)V"⟩, prog_12_method_50_code, 5, none)
def mR_owes : MI := (⟨"WhoeverHeardModel", "owes", "(I)V"⟩, prog_12_method_51_code, 3, none)
def mR_owe : MI := (⟨"WhoeverHeardModel", "owe", "(II)I"⟩, prog_12_method_52_code, 3, (some .int))
def mR_owedBy : MI := (⟨"WhoeverHeardModel", "owedBy", "(I)I"⟩, prog_12_method_53_code, 4, (some .int))
def mR_painOf : MI := (⟨"WhoeverHeardModel", "painOf", "(I)I"⟩, prog_12_method_54_code, 2, (some .int))
def mR_load : MI := (⟨"WhoeverHeardModel", "load", "(II)I"⟩, prog_12_method_55_code, 3, (some .int))
def mR_doneOf : MI := (⟨"WhoeverHeardModel", "doneOf", "(I)I"⟩, prog_12_method_56_code, 4, (some .int))
def mR_isKept : MI := (⟨"WhoeverHeardModel", "isKept", "(I)Z"⟩, prog_12_method_57_code, 2, (some .boolean))
def mR_done : MI := (⟨"WhoeverHeardModel", "done", "(I)I"⟩, prog_12_method_58_code, 2, (some .int))
def mR_keptNow : MI := (⟨"WhoeverHeardModel", "keptNow", "()I"⟩, prog_12_method_59_code, 3, (some .int))
def mR_worthNow : MI := (⟨"WhoeverHeardModel", "worthNow", "()I"⟩, prog_12_method_60_code, 3, (some .int))
def mR_painNow : MI := (⟨"WhoeverHeardModel", "painNow", "()I"⟩, prog_12_method_61_code, 3, (some .int))
def mR_sum : MI := (⟨"WhoeverHeardModel", "sum", "(I)I"⟩, prog_12_method_62_code, 4, (some .int))
def mR_wayTo : MI := (⟨"WhoeverHeardModel", "wayTo", "(I)I"⟩, prog_12_method_63_code, 2, (some .int))
def mR_judge : MI := (⟨"WhoeverHeardModel", "judge", "()I"⟩, prog_12_method_64_code, 3, (some .int))
def mR_walk : MI := (⟨"WhoeverHeardModel", "walk", "()I"⟩, prog_12_method_65_code, 3, (some .int))
def mR_owesWith : MI := (⟨"WhoeverHeardModel", "owesWith", "(II)V"⟩, prog_12_method_66_code, 3, none)
def mR_isHow : MI := (⟨"WhoeverHeardModel", "isHow", "(I)Z"⟩, prog_12_method_67_code, 1, (some .boolean))
def mR_best : MI := (⟨"WhoeverHeardModel", "best", "(II)I"⟩, prog_12_method_68_code, 6, (some .int))
def mR_foe : MI := (⟨"WhoeverHeardModel", "foe", "(III)I"⟩, prog_12_method_69_code, 7, (some .int))
def mR_loud : MI := (⟨"WhoeverHeardModel", "loud", "(III)I"⟩, prog_12_method_70_code, 5, (some .int))
def mR_spare : MI := (⟨"WhoeverHeardModel", "spare", "()I"⟩, prog_12_method_71_code, 4, (some .int))
def mR_shares : MI := (⟨"WhoeverHeardModel", "shares", "(I)Z"⟩, prog_12_method_72_code, 7, (some .boolean))
def mR_even : MI := (⟨"WhoeverHeardModel", "even", "(II)I"⟩, prog_12_method_73_code, 3, (some .int))
def mR_hardest : MI := (⟨"WhoeverHeardModel", "hardest", "(I)I"⟩, prog_12_method_74_code, 4, (some .int))
def mR_owedAt : MI := (⟨"WhoeverHeardModel", "owedAt", "(II)I"⟩, prog_12_method_75_code, 4, (some .int))
def mR_goesTo : MI := (⟨"WhoeverHeardModel", "goesTo", "(IZ)I"⟩, prog_12_method_76_code, 7, (some .int))
def mR_flee : MI := (⟨"WhoeverHeardModel", "flee", "(II)I"⟩, prog_12_method_77_code, 4, (some .int))
def mR_send : MI := (⟨"WhoeverHeardModel", "send", "(II)I"⟩, prog_12_method_78_code, 4, (some .int))
def mR_rest : MI := (⟨"WhoeverHeardModel", "rest", "(I)I"⟩, prog_12_method_79_code, 6, (some .int))
def mR_chanceOf : MI := (⟨"WhoeverHeardModel", "chanceOf", "(II)J"⟩, prog_12_method_80_code, 6, (some .long))
def mR_chance : MI := (⟨"WhoeverHeardModel", "chance", "(II)J"⟩, prog_12_method_81_code, 3, (some .long))
def mR_lost : MI := (⟨"WhoeverHeardModel", "lost", "(I)J"⟩, prog_12_method_82_code, 5, (some .long))
def mR_laws : MI := (⟨"WhoeverHeardModel", "laws", "(I)I"⟩, prog_12_method_83_code, 8, (some .int))
def mR_sheetWrong : MI := (⟨"WhoeverHeardModel", "sheetWrong", "(I)I"⟩, prog_12_method_84_code, 2, (some .int))
def mR_unlike : MI := (⟨"WhoeverHeardModel", "unlike", "(I)I"⟩, prog_12_method_85_code, 3, (some .int))
def mR_witness : MI := (⟨"WhoeverHeardModel", "witness", "(I)I"⟩, prog_12_method_86_code, 3, (some .int))
def mR_alibi : MI := (⟨"WhoeverHeardModel", "alibi", "(II)I"⟩, prog_12_method_87_code, 7, (some .int))
def mR_draws : MI := (⟨"WhoeverHeardModel", "draws", "(I)V"⟩, prog_12_method_88_code, 2, none)
def mR_drawn : MI := (⟨"WhoeverHeardModel", "drawn", "(II)I"⟩, prog_12_method_89_code, 3, (some .int))
def mR_lowest : MI := (⟨"WhoeverHeardModel", "lowest", "(JJI)J"⟩, prog_12_method_90_code, 11, (some .long))
def mR_odds : MI := (⟨"WhoeverHeardModel", "odds", "(IIII)J"⟩, prog_12_method_91_code, 9, (some .long))
def mR_image : MI := (⟨"WhoeverHeardModel", "image", "()I"⟩, prog_12_method_92_code, 2, (some .int))
def mR_back : MI := (⟨"WhoeverHeardModel", "back", "()I"⟩, prog_12_method_93_code, 2, (some .int))
def mR_sheet : MI := (⟨"WhoeverHeardModel", "sheet", "(III)I"⟩, prog_12_method_94_code, 5, (some .int))
def mR_cell : MI := (⟨"WhoeverHeardModel", "cell", "(III)I"⟩, prog_12_method_95_code, 4, (some .int))
def mR_copy : MI := (⟨"WhoeverHeardModel", "copy", "(IIIII)I"⟩, prog_12_method_96_code, 10, (some .int))
def mR_promisesBy : MI := (⟨"WhoeverHeardModel", "promisesBy", "(IIII)I"⟩, prog_12_method_97_code, 9, (some .int))
def mR_isUnder : MI := (⟨"WhoeverHeardModel", "isUnder", "(II)Z"⟩, prog_12_method_98_code, 2, (some .boolean))
def mR_taken : MI := (⟨"WhoeverHeardModel", "taken", "(II)I"⟩, prog_12_method_99_code, 3, (some .int))
def mInteger_bitCount : MI := (⟨"java/lang/Integer", "bitCount", "(I)I"⟩, prog_13_method_49_code, 1, (some .int))
def mMath_abs : MI := (⟨"java/lang/Math", "abs", "(I)I"⟩, prog_14_method_59_code, 1, (some .int))
def mMath_max : MI := (⟨"java/lang/Math", "max", "(II)I"⟩, prog_14_method_65_code, 2, (some .int))
def mMath_min : MI := (⟨"java/lang/Math", "min", "(II)I"⟩, prog_14_method_69_code, 2, (some .int))
def mString_length : MI := (⟨"java/lang/String", "length", "()I"⟩, prog_15_method_54_code, 1, (some .int))
def mString_charAt : MI := (⟨"java/lang/String", "charAt", "(I)C"⟩, prog_15_method_56_code, 2, (some .char))
def mString_coder : MI := (⟨"java/lang/String", "coder", "()B"⟩, prog_15_method_152_code, 1, (some .byte))
def mString_isLatin1 : MI := (⟨"java/lang/String", "isLatin1", "()Z"⟩, prog_15_method_154_code, 1, (some .boolean))
def mString_checkIndex : MI := (⟨"java/lang/String", "checkIndex", "(II)V"⟩, prog_15_method_155_code, 2, none)
def mStringLatin1_charAt : MI := (⟨"java/lang/StringLatin1", "charAt", "([BI)C"⟩, prog_16_method_2_code, 2, (some .char))
def mStringUTF16_getChar : MI := (⟨"java/lang/StringUTF16", "getChar", "([BI)C"⟩, prog_17_method_5_code, 2, (some .char))
def mStringUTF16_length : MI := (⟨"java/lang/StringUTF16", "length", "([B)I"⟩, prog_17_method_6_code, 1, (some .int))
def mStringUTF16_charAt : MI := (⟨"java/lang/StringUTF16", "charAt", "([BI)C"⟩, prog_17_method_83_code, 2, (some .char))
def mStringUTF16_checkIndex : MI := (⟨"java/lang/StringUTF16", "checkIndex", "(I[B)V"⟩, prog_17_method_91_code, 2, none)
def mPreconditions_checkIndex : MI := (⟨"jdk/internal/util/Preconditions", "checkIndex", "(IILjava/util/function/BiFunction;)I"⟩, prog_19_method_11_code, 3, (some .int))
def mLaw_law : MI := (⟨"WhoeverHeardLaw", "law", "([I)Z"⟩, code, 4, ret)
def nStr : Nat := 13
def stO : List String := ["WhoeverHeard", "WhoeverHeard$Reader", "WhoeverHeard$Reader", "WhoeverHeard$Reader", "WhoeverHeard$Reader", "WhoeverHeard$Reader", "WhoeverHeard$Reader", "WhoeverHeard$Reader", "WhoeverHeard$Reader", "WhoeverHeard$Reader", "WhoeverHeard$Reader", "WhoeverHeard$Reader", "WhoeverHeard$Reader"]
def stK : List Nat := [74, 88, 94, 96, 98, 100, 102, 104, 106, 108, 110, 112, 114]
def stT : List String := ["heard 40 + loud * 12 - far * 15 + ear * 3 ; share need ; pain need * base ;", "loud", "far", "ear", "need", "many", "base", "heard", "share", "pain", "or", "and", "not"]
def stL : List Nat := [75, 4, 3, 3, 4, 4, 4, 5, 5, 4, 2, 3, 3]
def stB : List (List Int32) := [[104, 101, 97, 114, 100, 32, 52, 48, 32, 43, 32, 108, 111, 117, 100, 32, 42, 32, 49, 50, 32, 45, 32, 102, 97, 114, 32, 42, 32, 49, 53, 32, 43, 32, 101, 97, 114, 32, 42, 32, 51, 32, 59, 32, 115, 104, 97, 114, 101, 32, 110, 101, 101, 100, 32, 59, 32, 112, 97, 105, 110, 32, 110, 101, 101, 100, 32, 42, 32, 98, 97, 115, 101, 32, 59], [108, 111, 117, 100], [102, 97, 114], [101, 97, 114], [110, 101, 101, 100], [109, 97, 110, 121], [98, 97, 115, 101], [104, 101, 97, 114, 100], [115, 104, 97, 114, 101], [112, 97, 105, 110], [111, 114], [97, 110, 100], [110, 111, 116]]
def nwM : List (String × Nat × MethodName × String) := [("WhoeverHeard", 18, ⟨"WhoeverHeard$Folk", "<init>", "()V"⟩, "WhoeverHeard"), ("WhoeverHeard", 25, ⟨"WhoeverHeard$Vows", "<init>", "()V"⟩, "WhoeverHeard"), ("WhoeverHeard", 32, ⟨"WhoeverHeard$Sayings", "<init>", "()V"⟩, "WhoeverHeard"), ("WhoeverHeard", 39, ⟨"WhoeverHeard$Reader", "<init>", "()V"⟩, "WhoeverHeard"), ("WhoeverHeard", 46, ⟨"WhoeverHeard$Texts", "<init>", "()V"⟩, "WhoeverHeard"), ("WhoeverHeard", 62, ⟨"WhoeverHeard$Image", "<init>", "()V"⟩, "WhoeverHeard"), ("WhoeverHeard$Image", 20, ⟨"WhoeverHeard$Sayings", "<init>", "()V"⟩, "WhoeverHeard"), ("WhoeverHeard", 69, ⟨"WhoeverHeard$Sheets", "<init>", "()V"⟩, "WhoeverHeard"), ("WhoeverHeard$Reader", 126, ⟨"WhoeverHeard", "within", "(III)Z"⟩, "WhoeverHeard"), ("WhoeverHeard$Folk", 40, ⟨"WhoeverHeard", "within", "(III)Z"⟩, "WhoeverHeard"), ("WhoeverHeard$Vows", 28, ⟨"WhoeverHeard", "within", "(III)Z"⟩, "WhoeverHeard"), ("WhoeverHeard$Sayings", 28, ⟨"WhoeverHeard", "within", "(III)Z"⟩, "WhoeverHeard"), ("WhoeverHeard$Ledger", 120, ⟨"WhoeverHeard", "bounded", "(II)I"⟩, "WhoeverHeard")]
def nwF : List (String × Nat × String × String × String × String) := [("WhoeverHeard$Folk", 44, "WhoeverHeard", "KIND_ABOVE", "[I", "WhoeverHeard")]
def kaL : List Int32 := [-1, 0, 0, 1, 0, 1]
def arrIntAt : Nat := 121
end
section
-- 02.frame
/-- the words that a method may rest on -/
def lwT : List Cond := lw_tbl.filter goodWord
theorem lwT_of {w : Cond} (h : w ∈ lw_tbl) (hg : goodWord w = true) : w ∈ lwT := List.mem_filter.mpr ⟨h, hg⟩
/-! the frame: a method over a pure picture of the heap (cells by their number since the law began), any instruction a row -/
abbrev IM : Type := Nat → Nat → Int32
abbrev LM : Type := Nat → Nat → Int64
/-- the shape: how many cells, what each is (below 100: an object of that class; else an int array, its length and 100), references (0 null, else the cell's number and 1) -/
abbrev Shp : Type := Nat × (Nat → Nat) × (Nat → Nat → Nat)
def sn (S : Shp) : Nat := S.1
def kd (S : Shp) : Nat → Nat := S.2.1
def rr (S : Shp) : Nat → Nat → Nat := S.2.2
/-- the world: class ids and slots, int[]'s class, the first new address, foreign addresses, the script's length and ints -/
abbrev WG : Type := va_G × ClassId × Nat × (Nat → Nat) × Nat × (Nat → Int32)
def gD (G : WG) : va_G := G.1
def gA (G : WG) : ClassId := G.2.1
def gb (G : WG) : Nat := G.2.2.1
def gf (G : WG) : Nat → Nat := G.2.2.2.1
def gL (G : WG) : Nat := G.2.2.2.2.1
def gx (G : WG) : Nat → Int32 := G.2.2.2.2.2
def adr (G : WG) (k : Nat) : Nat := if k < 1000000 then gb G + k else gf G (k - 1000000)
def vmap (G : WG) (v : Value) : Value := match v with
  | .ref k => .ref (adr G k)
  | w => w
def rv (G : WG) (r : Nat) : Value := match r with
  | 0 => .null
  | k + 1 => .ref (adr G k)
def ft (c j : Nat) : Nat := (ftab.getD c []).getD j 0
def nf (c : Nat) : Nat := (ftab.getD c []).length
def fval (G : WG) (S : Shp) (I : IM) (L : LM) (c k j : Nat) : Value := match ft c j with
  | 0 => .int (I k j)
  | 1 => .long (L k j)
  | _ => rv G (rr S k j)
def cellE (G : WG) (S : Shp) (I : IM) (L : LM) (k : Nat) : va_E :=
  if kd S k < 100 then .inr (kd S k, (List.range (nf (kd S k))).map (fval G S I L (kd S k) k)) else .inl (gA G, (kd S k - 100, .inl (I k)))
def wsl (G : WG) (S : Shp) (I : IM) (L : LM) : va_W := (List.range (sn S)).map fun k => (gb G + k, cellE G S I L k)
def AA (G : WG) : Nat → Prop := fun q => gb G ≤ q
def Rep (G : WG) (S : Shp) (I : IM) (L : LM) (H : Heap) : Prop := H.size = gb G + sn S ∧ sn S < 1000000 ∧ va_P (gD G) vwCl (wsl G S I L) H
/-- one row of a picture anew, one cell of it -/
def upr {α : Type} (I : Nat → Nat → α) (k : Nat) (f : Nat → α) : Nat → Nat → α := fun i => if i = k then f else I i
def up1 {α : Type} (f : Nat → α) (j : Nat) (x : α) : Nat → α := fun i => if i = j then x else f i
def up2 {α : Type} (I : Nat → Nat → α) (k j : Nat) (x : α) : Nat → Nat → α := upr I k (up1 (I k) j x)
theorem upr_s {α : Type} (I : Nat → Nat → α) (k : Nat) (f : Nat → α) : upr I k f k = f := by simp [upr]
theorem upr_n {α : Type} (I : Nat → Nat → α) {k i : Nat} (f : Nat → α) (h : i ≠ k) : upr I k f i = I i := by simp [upr, h]
theorem up2_s {α : Type} (I : Nat → Nat → α) (k j : Nat) (x : α) : up2 I k j x k = up1 (I k) j x := upr_s I k _
theorem up2_n {α : Type} (I : Nat → Nat → α) {k i : Nat} (j : Nat) (x : α) (h : i ≠ k) : up2 I k j x i = I i := upr_n I _ h
theorem up1_upd (f : Nat → Int32) (j : Nat) (x : Int32) : up1 f j x = upd f j x := by
  funext i; simp [up1, upd]
theorem wsl_get (G : WG) (S : Shp) (I : IM) (L : LM) {k : Nat} (h : k < sn S) : (wsl G S I L)[k]? = some (gb G + k, cellE G S I L k) := by
  simp [wsl, h]
theorem wsl_len (G : WG) (S : Shp) (I : IM) (L : LM) : (wsl G S I L).length = sn S := by simp [wsl]
theorem wsl_none (G : WG) (S : Shp) (I : IM) (L : LM) {k : Nat} (h : ¬ k < sn S) : (wsl G S I L)[k]? = none := by
  simp [wsl, h]
theorem wsl_at (G : WG) (S : Shp) (I : IM) (L : LM) {k : Nat} {q : Nat × va_E} (h : (wsl G S I L)[k]? = some q) : k < sn S ∧ q = (gb G + k, cellE G S I L k) := by
  by_cases hk : k < sn S
  · rw [wsl_get G S I L hk] at h
    exact ⟨hk, (Option.some.inj h).symm⟩
  · rw [wsl_none G S I L hk] at h
    cases h
theorem wsl_D (G : WG) (S : Shp) (I : IM) (L : LM) : va_D (AA G) (wsl G S I L) := by
  refine ⟨fun i j p q hi hj h => ?_, fun k q hk => ?_⟩
  · obtain ⟨-, rfl⟩ := wsl_at G S I L hi
    obtain ⟨-, rfl⟩ := wsl_at G S I L hj
    have h' : gb G + i = gb G + j := h
    omega
  · obtain ⟨-, rfl⟩ := wsl_at G S I L hk
    exact Nat.le_add_right _ _
theorem wsl_set (G : WG) (S : Shp) (I I' : IM) (L L' : LM) (S' : Shp) {k : Nat} (hk : k < sn S) (hn : sn S' = sn S) (e : va_E) (he : cellE G S' I' L' k = e) (ho : ∀ i, i ≠ k → cellE G S' I' L' i = cellE G S I L i) : (wsl G S I L).set k (gb G + k, e) = wsl G S' I' L' := by
  apply List.ext_getElem?
  intro i
  by_cases hi : i < sn S
  · rw [wsl_get G S' I' L' (by rw [hn]; exact hi)]
    by_cases hik : i = k
    · subst hik
      rw [List.getElem?_set_self (by rw [wsl_len]; exact hk), he]
    · rw [List.getElem?_set_ne (fun h => hik h.symm), wsl_get G S I L hi, ho i hik]
  · rw [wsl_none G S' I' L' (by rw [hn]; exact hi)]
    simp [List.getElem?_set, wsl_none G S I L hi, wsl_len]
    omega
theorem wsl_push (G : WG) (S S' : Shp) (I I' : IM) (L L' : LM) (hn : sn S' = sn S + 1) (e : va_E) (he : cellE G S' I' L' (sn S) = e) (ho : ∀ i, i < sn S → cellE G S' I' L' i = cellE G S I L i) : wsl G S I L ++ [(gb G + sn S, e)] = wsl G S' I' L' := by
  apply List.ext_getElem?
  intro i
  by_cases hi : i < sn S
  · rw [wsl_get G S' I' L' (by omega), List.getElem?_append_left (by rw [wsl_len]; exact hi), wsl_get G S I L hi, ho i hi]
  · rw [List.getElem?_append_right (by rw [wsl_len]; omega), wsl_len]
    by_cases h2 : i = sn S
    · subst h2
      rw [wsl_get G S' I' L' (by omega), he]
      simp
    · rw [wsl_none G S' I' L' (by omega)]
      simp
      omega
theorem cellE_o (G : WG) (S : Shp) (I : IM) (L : LM) {k c : Nat} (h : kd S k = c) (hc : c < 100) : cellE G S I L k = .inr (c, (List.range (nf c)).map (fval G S I L c k)) := by
  subst h
  simp [cellE, hc]
theorem cellE_a (G : WG) (S : Shp) (I : IM) (L : LM) {k n : Nat} (h : kd S k = n + 100) : cellE G S I L k = .inl (gA G, (n, .inl (I k))) := by
  have h2 : ¬ kd S k < 100 := by omega
  rw [cellE, if_neg h2]
  rw [h, Nat.add_sub_cancel]
theorem cellE_c (G : WG) (S S' : Shp) (I I' : IM) (L L' : LM) {i : Nat} (h1 : kd S' i = kd S i) (h2 : rr S' i = rr S i) (h3 : I' i = I i) (h4 : L' i = L i) : cellE G S' I' L' i = cellE G S I L i := by
  unfold cellE
  have hf : fval G S' I' L' (kd S i) i = fval G S I L (kd S i) i := by
    funext j
    simp [fval, h2, h3, h4]
  rw [h1, h3, hf]
theorem wsl_arr (G : WG) (S : Shp) (I : IM) (L : LM) {k n : Nat} (hk : k < sn S) (h : kd S k = n + 100) : (wsl G S I L)[k]? = some (gb G + k, .inl (gA G, (n, .inl (I k)))) := by
  rw [wsl_get G S I L hk, cellE_a G S I L h]
theorem wsl_obj (G : WG) (S : Shp) (I : IM) (L : LM) {k c : Nat} (hk : k < sn S) (h : kd S k = c) (hc : c < 100) : (wsl G S I L)[k]? = some (gb G + k, .inr (c, (List.range (nf c)).map (fval G S I L c k))) := by
  rw [wsl_get G S I L hk, cellE_o G S I L h hc]
theorem adr_o (G : WG) {k : Nat} (h : k < 1000000) : adr G k = gb G + k := by simp [adr, h]
theorem adr_f (G : WG) (i : Nat) : adr G (1000000 + i) = gf G i := by
  have h : ¬ (1000000 + i < 1000000) := by omega
  rw [adr, if_neg h, Nat.add_sub_cancel_left]
/-! what stands outside: KIND_ABOVE, string constants, the script -/
def FF (G : WG) (s : State) : Prop :=
  va_Z "WhoeverHeard" "KIND_ABOVE" "[I" (.ref (gf G 100)) (AA G) s s.heap ∧
  va_T .int (gf G 100) 6 (fun j => .int (kaL.getD j 0)) (AA G) s s.heap ∧
  (∀ i, i < nStr → vk_R (stO.getD i "") (stK.getD i 0) (stT.getD i "") (gf G i) s) ∧
  vk_S nStr stL stB (fun i => gf G i) (fun i => gf G (50 + i)) (AA G) s s.heap ∧
  va_Z "java/lang/String" "COMPACT_STRINGS" "Z" (.int 1) (AA G) s s.heap ∧
  (va_Z "jdk/internal/util/Preconditions" "SIOOBE_FORMATTER" "Ljava/util/function/BiFunction;" .null (AA G) s s.heap ∨ va_Z "jdk/internal/util/Preconditions" "SIOOBE_FORMATTER" "Ljava/util/function/BiFunction;" (.ref (gf G 150)) (AA G) s s.heap) ∧
  va_X (gf G 200) (gL G) (gx G) s s.heap ∧ gf G 200 < s.heap.size ∧ gf G 200 < gb G ∧
  (∀ q ∈ nwM, va_Nw (.methodLinkNest q.1 q.2.1 q.2.2.1 q.2.2.2) s) ∧ (∀ q ∈ nwF, va_Nw (.fieldLinkNest q.1 q.2.1 q.2.2.1 q.2.2.2.1 q.2.2.2.2.1 q.2.2.2.2.2) s)
theorem FF.go {G : WG} {s U : State} {H : Heap} (h : FF G s) (hW : s.WarmedH U.vm) (hU : U.heap = H) (hz : s.heap.size ≤ H.size) (hk : ∀ q : Nat, q < s.heap.size → ¬ AA G q → H[q]? = s.heap[q]?) : FF G U := by
  obtain ⟨h1, h2, h3, h4, h5, h6, h7, h8, h9, h10, h11⟩ := h
  subst hU
  refine ⟨(va_Z.moved hW.alike h1).kept hk, (va_T.moved hW.alike h2).kept hk, fun i hi => (h3 i hi).warm hW, (vk_S.moved hW.alike h4).kept hk, (va_Z.moved hW.alike h5).kept hk, ?_, (va_X.moved hW.alike h7).kept (hk _ h8 (by show ¬ (gb G ≤ gf G 200); omega)), Nat.lt_of_lt_of_le h8 hz, h9, fun q hq => va_Nw.warmM hW (h10 q hq), fun q hq => va_Nw.warmF hW (h11 q hq)⟩
  rcases h6 with h6 | h6
  · exact Or.inl ((va_Z.moved hW.alike h6).kept hk)
  · exact Or.inr ((va_Z.moved hW.alike h6).kept hk)
theorem FF.blind {G : WG} {U : State} (g : JFrame) (mk : MethodId) (a : Array Value) (h : FF G U) : FF G (U.calling g mk a) := by
  obtain ⟨h1, h2, h3, h4, h5, h6, h7, h8, h9, h10, h11⟩ := h
  have hv : U.vm.Alike (U.calling g mk a).vm := Vm.Alike.refl U.vm
  refine ⟨va_Z.moved hv h1, va_T.moved hv h2, fun i hi => vk_R.same (u := U) rfl (h3 i hi), vk_S.moved hv h4, va_Z.moved hv h5, ?_, va_X.moved hv h7, h8, h9, fun q hq => va_Nw.same rfl (u := U) rfl (h10 q hq), fun q hq => va_Nw.same rfl (u := U) rfl (h11 q hq)⟩
  rcases h6 with h6 | h6
  · exact Or.inl (va_Z.moved hv h6)
  · exact Or.inr (va_Z.moved hv h6)
/-! the judgement -/
abbrev PostT : Type := Option Value → Shp → IM → LM → Prop
def Cx (M : MI) (p : Program) (s : State) (m : MethodId) (args : Array Value) (meth : Method) (c : Code) : Prop :=
  p.tables.exec = Jvm.exec ∧ c.code = mcc M ∧ c.maxLocals = mnl M ∧ s.vm.findClass (my M).cls = some m.cls ∧ (∀ w ∈ lwT, w.before args s = true) ∧ meth.name = (my M).name
def LH (G : WG) (ls : Array Slot) (nL : Nat) (loc : List Value) : Prop :=
  ls.size = nL ∧ lv_wf ls ∧ ∀ (j : Nat) (v : Value), loc[j]? = some v → v ≠ .null → ls[j]? = some (.val (vmap G v))
/-- how a return instruction fits an answer -/
def RetI (M : MI) (pc : Nat) (v : Option Value) : Prop :=
  (∃ (x : Int32) (ty : FieldType), v = some (.int x) ∧ mret M = some ty ∧ narrow ty (.int x) = .int x ∧ decode (mcc M) pc = .ok (.ireturn, 1)) ∨
  (∃ x : Int64, v = some (.long x) ∧ mret M = some .long ∧ decode (mcc M) pc = .ok (.lreturn, 1)) ∨ (v = none ∧ mret M = none ∧ decode (mcc M) pc = .ok (.return_, 1))
def Ret (G : WG) (M : MI) (Post : PostT) (p : Program) (l : Launch) (e : Env) (R : Room) (s : State) (m : MethodId) (args : Array Value) (below : List Frame) (meth : Method) (c : Code) (Q : State → Prop) : Prop :=
  ∀ (v : Option Value) (S : Shp) (I : IM) (L : LM) (H : Heap) (locs : List Loc) (cells slots pc : Nat) (ls : Array Slot), Post v S I L → RetI M pc v → Rep G S I L H → va_S (AA G) s.heap H locs → cells ≤ R.cells → slots ≤ R.slots →
    W p l e R s m args below meth c H locs cells slots Q (F0 m pc ls ((v.map (vmap G)).toList))
/-- the unchanging part of a walk -/
def BX (M : MI) (G : WG) (d : Nat) (Post : PostT) (p : Program) (l : Launch) (e : Env) (R : Room) (s : State) (m : MethodId) (args : Array Value) (below : List Frame) (meth : Method) (c : Code) (Q : State → Prop) : Prop :=
  Cx M p s m args meth c ∧ FF G s ∧ va_K (gD G) vwCl [(gA G, .int)] s ∧ gb G ≤ s.heap.size ∧ Ret G M Post p l e R s m args below meth c Q ∧ d ≤ R.frames ∧ 500 * d ≤ R.locals
/-- from here the method comes to a return with Post -/
def X (M : MI) (G : WG) (r : Nat × Nat × Nat) (S : Shp) (I : IM) (L : LM) (pc : Nat) (loc st : List Value) (Post : PostT) : Prop :=
  ∀ (p : Program) (l : Launch) (e : Env) (R : Room) (s : State) (m : MethodId) (args : Array Value) (below : List Frame) (meth : Method) (c : Code) (Q : State → Prop), BX M G r.1 Post p l e R s m args below meth c Q →
  ∀ (H : Heap) (locs : List Loc) (cells slots : Nat) (ls : Array Slot), cells + r.2.1 ≤ R.cells → slots + r.2.2 ≤ R.slots → Rep G S I L H → va_S (AA G) s.heap H locs → LH G ls (mnl M) loc →
    W p l e R s m args below meth c H locs cells slots Q (F0 m pc ls (st.map (vmap G)))
end
section
-- 02b.classes
/-! the classes of the tables -/
theorem memIx {l t : List Cond} {ix : List Nat} (h : l.map some = ix.map (fun i => t[i]?)) : ∀ w ∈ l, w ∈ t := by
  intro w hw
  have h1 : some w ∈ l.map some := List.mem_map.mpr ⟨w, hw, rfl⟩
  rw [h] at h1
  obtain ⟨i, -, hi⟩ := List.mem_map.mp h1
  exact List.mem_of_getElem? hi
/-! the classes of the tables -/
/-- the classes of the tables: their rows are there, names differ, kinds of fields are as ftab has them -/
def tyF (c j : Nat) : FieldType := match c with
  | 0 => tyX0 j | 1 => tyX1 j | 2 => tyX2 j | 3 => tyX3 j | 4 => tyX4 j | 5 => tyX5 j | 6 => tyX6 j | 7 => tyX7 j | 8 => tyX8 j | 9 => tyX9 j | _ => tyX10 j
def ClsOk (ci : Nat) (q : vw_C) : Prop := (∀ w ∈ u_ws q.1 q.2.1 q.2.2, w ∈ lwT) ∧ (∀ a, a < q.2.2 → ∀ b, b < q.2.2 → a ≠ b → (q.2.1 a).2.1 ≠ (q.2.1 b).2.1) ∧ (∀ k, k < q.2.2 → parseFieldDescriptor (q.2.1 k).2.2.1 = some (tyF ci k)) ∧ nf ci = q.2.2 ∧
  (∀ k, k < q.2.2 → (ft ci k = 0 ∧ (tyF ci k = .int ∨ tyF ci k = .boolean)) ∨ (ft ci k = 1 ∧ tyF ci k = .long) ∨ (ft ci k = 2 ∧ refKind (tyF ci k) = true)) ∧ ci < 100
theorem cls_ok : ∀ (ci : Nat) (q : vw_C), vwCl[ci]? = some q → ClsOk ci q := by
  intro ci q h
  match ci, h with
  | 0, h => cases h; exact ⟨fun w hw => lwT_of (memIx (t := lw_tbl) (ix := [153, 155, 157, 159, 161, 163, 165, 167, 169]) (by decide +kernel) w hw) ((by decide +kernel : ∀ w ∈ u_ws RX0 TX0 9, goodWord w = true) w hw), by decide +kernel, by decide +kernel, by decide +kernel, by decide +kernel, by decide +kernel⟩
  | 1, h => cases h; exact ⟨fun w hw => lwT_of (memIx (t := lw_tbl) (ix := [382, 384, 386, 388, 390, 392]) (by decide +kernel) w hw) ((by decide +kernel : ∀ w ∈ u_ws RX1 TX1 6, goodWord w = true) w hw), by decide +kernel, by decide +kernel, by decide +kernel, by decide +kernel, by decide +kernel⟩
  | 2, h => cases h; exact ⟨fun w hw => lwT_of (memIx (t := lw_tbl) (ix := [334, 336, 338, 340, 342, 344, 346, 348, 350, 352, 354, 356, 358, 360, 362]) (by decide +kernel) w hw) ((by decide +kernel : ∀ w ∈ u_ws RX2 TX2 15, goodWord w = true) w hw), by decide +kernel, by decide +kernel, by decide +kernel, by decide +kernel, by decide +kernel⟩
  | 3, h => cases h; exact ⟨fun w hw => lwT_of (memIx (t := lw_tbl) (ix := [255, 257, 259, 261, 263, 265, 267, 269, 271, 273]) (by decide +kernel) w hw) ((by decide +kernel : ∀ w ∈ u_ws RX3 TX3 10, goodWord w = true) w hw), by decide +kernel, by decide +kernel, by decide +kernel, by decide +kernel, by decide +kernel⟩
  | 4, h => cases h; exact ⟨fun w hw => lwT_of (memIx (t := lw_tbl) (ix := [225, 227, 229, 231, 233]) (by decide +kernel) w hw) ((by decide +kernel : ∀ w ∈ u_ws RX4 TX4 5, goodWord w = true) w hw), by decide +kernel, by decide +kernel, by decide +kernel, by decide +kernel, by decide +kernel⟩
  | 5, h => cases h; exact ⟨fun w hw => lwT_of (memIx (t := lw_tbl) (ix := [407, 409, 411]) (by decide +kernel) w hw) ((by decide +kernel : ∀ w ∈ u_ws RX5 TX5 3, goodWord w = true) w hw), by decide +kernel, by decide +kernel, by decide +kernel, by decide +kernel, by decide +kernel⟩
  | 6, h => cases h; exact ⟨fun w hw => lwT_of (memIx (t := lw_tbl) (ix := [292, 294, 296, 298, 300, 302]) (by decide +kernel) w hw) ((by decide +kernel : ∀ w ∈ u_ws RX6 TX6 6, goodWord w = true) w hw), by decide +kernel, by decide +kernel, by decide +kernel, by decide +kernel, by decide +kernel⟩
  | 7, h => cases h; exact ⟨fun w hw => lwT_of (memIx (t := lw_tbl) (ix := [114, 116, 118]) (by decide +kernel) w hw) ((by decide +kernel : ∀ w ∈ u_ws RX7 TX7 3, goodWord w = true) w hw), by decide +kernel, by decide +kernel, by decide +kernel, by decide +kernel, by decide +kernel⟩
  | 8, h => cases h; exact ⟨fun w hw => lwT_of (memIx (t := lw_tbl) (ix := [193, 195, 197, 199, 201]) (by decide +kernel) w hw) ((by decide +kernel : ∀ w ∈ u_ws RX8 TX8 5, goodWord w = true) w hw), by decide +kernel, by decide +kernel, by decide +kernel, by decide +kernel, by decide +kernel⟩
  | 9, h => cases h; exact ⟨fun w hw => lwT_of (memIx (t := lw_tbl) (ix := [584, 586, 588, 590, 592, 594, 596, 598, 600]) (by decide +kernel) w hw) ((by decide +kernel : ∀ w ∈ u_ws RX9 TX9 9, goodWord w = true) w hw), by decide +kernel, by decide +kernel, by decide +kernel, by decide +kernel, by decide +kernel⟩
  | 10, h => cases h; exact ⟨fun w hw => lwT_of (memIx (t := lw_tbl) (ix := [1208, 1210, 1212, 1214, 1216, 1218, 1220, 1222, 1224, 1226, 1228, 1230, 1232, 1234, 1236, 1238, 1240, 1242, 1244, 1246, 1248, 1250, 1252, 1254, 1256, 1258, 1260, 1262, 1264, 1266, 1268, 1270, 1272, 1274, 1276, 1278, 1280, 1282, 1284, 1286, 1288, 1290, 1292, 1294, 1296, 1298, 1300, 1302, 1304, 1306, 1308, 1310, 1312, 1314, 1316, 1318, 1320, 1322, 1324, 1326, 1328, 1330]) (by decide +kernel) w hw) ((by decide +kernel : ∀ w ∈ u_ws RX10 TX10 62, goodWord w = true) w hw), by decide +kernel, by decide +kernel, by decide +kernel, by decide +kernel, by decide +kernel⟩
  | n + 11, h => simp [vwCl] at h
end
section
-- 03.rules
/-! an instruction, a row -/
theorem x_iconst {M : MI} {G : WG} {r : Nat × Nat × Nat} {S : Shp} {I : IM} {L : LM} {pc : Nat} {loc rest : List Value} {Post : PostT} {n : Int} {v : Int32} (hd : decode (mcc M) pc = .ok (.iconst n, 1)) (hv : Int32.ofInt n = v) (k : X M G r S I L (pc + 1) loc (.int v :: rest) Post) : X M G r S I L pc loc rest Post := by
  intro p l e R s m args below meth c Q B H locs cells slots ls hc hs hR hS hL
  exact lv_iconst B.1.1 B.1.2.1 hd hv (k p l e R s m args below meth c Q B H locs cells slots ls hc hs hR hS hL)
theorem x_bipush {M : MI} {G : WG} {r : Nat × Nat × Nat} {S : Shp} {I : IM} {L : LM} {pc : Nat} {loc rest : List Value} {Post : PostT} {n : Int} {v : Int32} (hd : decode (mcc M) pc = .ok (.bipush n, 2)) (hv : (Int8.ofInt n).toInt32 = v) (k : X M G r S I L (pc + 2) loc (.int v :: rest) Post) : X M G r S I L pc loc rest Post := by
  intro p l e R s m args below meth c Q B H locs cells slots ls hc hs hR hS hL
  exact lv_bipush B.1.1 B.1.2.1 hd hv (k p l e R s m args below meth c Q B H locs cells slots ls hc hs hR hS hL)
theorem x_sipush {M : MI} {G : WG} {r : Nat × Nat × Nat} {S : Shp} {I : IM} {L : LM} {pc : Nat} {loc rest : List Value} {Post : PostT} {n : Int} {v : Int32} (hd : decode (mcc M) pc = .ok (.sipush n, 3)) (hv : (Int16.ofInt n).toInt32 = v) (k : X M G r S I L (pc + 3) loc (.int v :: rest) Post) : X M G r S I L pc loc rest Post := by
  intro p l e R s m args below meth c Q B H locs cells slots ls hc hs hR hS hL
  exact lv_sipush B.1.1 B.1.2.1 hd hv (k p l e R s m args below meth c Q B H locs cells slots ls hc hs hR hS hL)
theorem x_lconst {M : MI} {G : WG} {r : Nat × Nat × Nat} {S : Shp} {I : IM} {L : LM} {pc : Nat} {loc rest : List Value} {Post : PostT} {n : Fin 2} {v : Int64} (hd : decode (mcc M) pc = .ok (.lconst n, 1)) (hv : Int64.ofNat (n : Nat) = v) (k : X M G r S I L (pc + 1) loc (.long v :: rest) Post) : X M G r S I L pc loc rest Post := by
  intro p l e R s m args below meth c Q B H locs cells slots ls hc hs hR hS hL
  exact lv_lconst B.1.1 B.1.2.1 hd hv (k p l e R s m args below meth c Q B H locs cells slots ls hc hs hR hS hL)
theorem x_ldc {M : MI} {G : WG} {r : Nat × Nat × Nat} {S : Shp} {I : IM} {L : LM} {pc : Nat} {loc rest : List Value} {Post : PostT} {i : Nat} {v : Int32} (hd : decode (mcc M) pc = .ok (.ldc i, 2)) (hw : Cond.constant (my M).cls i v ∈ lwT) (k : X M G r S I L (pc + 2) loc (.int v :: rest) Post) : X M G r S I L pc loc rest Post := by
  intro p l e R s m args below meth c Q B H locs cells slots ls hc hs hR hS hL
  exact lv_ldc B.1.1 B.1.2.1 B.1.2.2.2.1 (B.1.2.2.2.2.1 _ hw) hd (k p l e R s m args below meth c Q B H locs cells slots ls hc hs hR hS hL)
theorem x_ldc2 {M : MI} {G : WG} {r : Nat × Nat × Nat} {S : Shp} {I : IM} {L : LM} {pc : Nat} {loc rest : List Value} {Post : PostT} {i : Nat} {v : Int64} (hd : decode (mcc M) pc = .ok (.ldc2_w i, 3)) (hw : Cond.constantLong (my M).cls i v ∈ lwT) (k : X M G r S I L (pc + 3) loc (.long v :: rest) Post) : X M G r S I L pc loc rest Post := by
  intro p l e R s m args below meth c Q B H locs cells slots ls hc hs hR hS hL
  exact lv_ldc2 B.1.1 B.1.2.1 B.1.2.2.2.1 (B.1.2.2.2.2.1 _ hw) hd (k p l e R s m args below meth c Q B H locs cells slots ls hc hs hR hS hL)
theorem x_iload_n {M : MI} {G : WG} {r : Nat × Nat × Nat} {S : Shp} {I : IM} {L : LM} {pc : Nat} {loc rest : List Value} {Post : PostT} {k0 : Fin 4} {x : Int32} (hd : decode (mcc M) pc = .ok (.iload_n k0, 1)) (hl : loc[(k0 : Nat)]? = some (.int x)) (k : X M G r S I L (pc + 1) loc (.int x :: rest) Post) : X M G r S I L pc loc rest Post := by
  intro p l e R s m args below meth c Q B H locs cells slots ls hc hs hR hS hL
  exact lv_iload_n B.1.1 B.1.2.1 hd rfl (hL.2.2 _ _ hl (by simp)) (k p l e R s m args below meth c Q B H locs cells slots ls hc hs hR hS hL)
theorem x_iload {M : MI} {G : WG} {r : Nat × Nat × Nat} {S : Shp} {I : IM} {L : LM} {pc : Nat} {loc rest : List Value} {Post : PostT} {k0 : Nat} {x : Int32} (hd : decode (mcc M) pc = .ok (.iload k0, 2)) (hl : loc[k0]? = some (.int x)) (k : X M G r S I L (pc + 2) loc (.int x :: rest) Post) : X M G r S I L pc loc rest Post := by
  intro p l e R s m args below meth c Q B H locs cells slots ls hc hs hR hS hL
  exact lv_iload B.1.1 B.1.2.1 hd (hL.2.2 _ _ hl (by simp)) (k p l e R s m args below meth c Q B H locs cells slots ls hc hs hR hS hL)
theorem x_lload_n {M : MI} {G : WG} {r : Nat × Nat × Nat} {S : Shp} {I : IM} {L : LM} {pc : Nat} {loc rest : List Value} {Post : PostT} {k0 : Fin 4} {x : Int64} (hd : decode (mcc M) pc = .ok (.lload_n k0, 1)) (hl : loc[(k0 : Nat)]? = some (.long x)) (k : X M G r S I L (pc + 1) loc (.long x :: rest) Post) : X M G r S I L pc loc rest Post := by
  intro p l e R s m args below meth c Q B H locs cells slots ls hc hs hR hS hL
  exact lv_lload_n B.1.1 B.1.2.1 hd rfl (hL.2.2 _ _ hl (by simp)) (k p l e R s m args below meth c Q B H locs cells slots ls hc hs hR hS hL)
theorem x_lload {M : MI} {G : WG} {r : Nat × Nat × Nat} {S : Shp} {I : IM} {L : LM} {pc : Nat} {loc rest : List Value} {Post : PostT} {k0 : Nat} {x : Int64} (hd : decode (mcc M) pc = .ok (.lload k0, 2)) (hl : loc[k0]? = some (.long x)) (k : X M G r S I L (pc + 2) loc (.long x :: rest) Post) : X M G r S I L pc loc rest Post := by
  intro p l e R s m args below meth c Q B H locs cells slots ls hc hs hR hS hL
  exact lv_lload B.1.1 B.1.2.1 hd (hL.2.2 _ _ hl (by simp)) (k p l e R s m args below meth c Q B H locs cells slots ls hc hs hR hS hL)
theorem x_aload_n {M : MI} {G : WG} {r : Nat × Nat × Nat} {S : Shp} {I : IM} {L : LM} {pc : Nat} {loc rest : List Value} {Post : PostT} {k0 : Fin 4} {x : Nat} (hd : decode (mcc M) pc = .ok (.aload_n k0, 1)) (hl : loc[(k0 : Nat)]? = some (.ref x)) (k : X M G r S I L (pc + 1) loc (.ref x :: rest) Post) : X M G r S I L pc loc rest Post := by
  intro p l e R s m args below meth c Q B H locs cells slots ls hc hs hR hS hL
  exact lv_aload_n B.1.1 B.1.2.1 hd rfl (hL.2.2 _ _ hl (by simp)) (k p l e R s m args below meth c Q B H locs cells slots ls hc hs hR hS hL)
theorem x_aload {M : MI} {G : WG} {r : Nat × Nat × Nat} {S : Shp} {I : IM} {L : LM} {pc : Nat} {loc rest : List Value} {Post : PostT} {k0 : Nat} {x : Nat} (hd : decode (mcc M) pc = .ok (.aload k0, 2)) (hl : loc[k0]? = some (.ref x)) (k : X M G r S I L (pc + 2) loc (.ref x :: rest) Post) : X M G r S I L pc loc rest Post := by
  intro p l e R s m args below meth c Q B H locs cells slots ls hc hs hR hS hL
  exact lv_aload B.1.1 B.1.2.1 hd (hL.2.2 _ _ hl (by simp)) (k p l e R s m args below meth c Q B H locs cells slots ls hc hs hR hS hL)
theorem x_iadd {M : MI} {G : WG} {r : Nat × Nat × Nat} {S : Shp} {I : IM} {L : LM} {pc : Nat} {loc rest : List Value} {Post : PostT} {x y : Int32} (hd : decode (mcc M) pc = .ok (.iadd, 1))  (k : X M G r S I L (pc + 1) loc (.int (x + y) :: rest) Post) : X M G r S I L pc loc (.int y :: .int x :: rest) Post := by
  intro p l e R s m args below meth c Q B H locs cells slots ls hc hs hR hS hL
  exact lv_iadd B.1.1 B.1.2.1 hd (k p l e R s m args below meth c Q B H locs cells slots ls hc hs hR hS hL)
theorem x_isub {M : MI} {G : WG} {r : Nat × Nat × Nat} {S : Shp} {I : IM} {L : LM} {pc : Nat} {loc rest : List Value} {Post : PostT} {x y : Int32} (hd : decode (mcc M) pc = .ok (.isub, 1))  (k : X M G r S I L (pc + 1) loc (.int (x - y) :: rest) Post) : X M G r S I L pc loc (.int y :: .int x :: rest) Post := by
  intro p l e R s m args below meth c Q B H locs cells slots ls hc hs hR hS hL
  exact lv_isub B.1.1 B.1.2.1 hd (k p l e R s m args below meth c Q B H locs cells slots ls hc hs hR hS hL)
theorem x_imul {M : MI} {G : WG} {r : Nat × Nat × Nat} {S : Shp} {I : IM} {L : LM} {pc : Nat} {loc rest : List Value} {Post : PostT} {x y : Int32} (hd : decode (mcc M) pc = .ok (.imul, 1))  (k : X M G r S I L (pc + 1) loc (.int (x * y) :: rest) Post) : X M G r S I L pc loc (.int y :: .int x :: rest) Post := by
  intro p l e R s m args below meth c Q B H locs cells slots ls hc hs hR hS hL
  exact lv_imul B.1.1 B.1.2.1 hd (k p l e R s m args below meth c Q B H locs cells slots ls hc hs hR hS hL)
theorem x_iand {M : MI} {G : WG} {r : Nat × Nat × Nat} {S : Shp} {I : IM} {L : LM} {pc : Nat} {loc rest : List Value} {Post : PostT} {x y : Int32} (hd : decode (mcc M) pc = .ok (.iand, 1))  (k : X M G r S I L (pc + 1) loc (.int (x &&& y) :: rest) Post) : X M G r S I L pc loc (.int y :: .int x :: rest) Post := by
  intro p l e R s m args below meth c Q B H locs cells slots ls hc hs hR hS hL
  exact lv_iand B.1.1 B.1.2.1 hd (k p l e R s m args below meth c Q B H locs cells slots ls hc hs hR hS hL)
theorem x_ior {M : MI} {G : WG} {r : Nat × Nat × Nat} {S : Shp} {I : IM} {L : LM} {pc : Nat} {loc rest : List Value} {Post : PostT} {x y : Int32} (hd : decode (mcc M) pc = .ok (.ior, 1))  (k : X M G r S I L (pc + 1) loc (.int (x ||| y) :: rest) Post) : X M G r S I L pc loc (.int y :: .int x :: rest) Post := by
  intro p l e R s m args below meth c Q B H locs cells slots ls hc hs hR hS hL
  exact lv_ior B.1.1 B.1.2.1 hd (k p l e R s m args below meth c Q B H locs cells slots ls hc hs hR hS hL)
theorem x_ixor {M : MI} {G : WG} {r : Nat × Nat × Nat} {S : Shp} {I : IM} {L : LM} {pc : Nat} {loc rest : List Value} {Post : PostT} {x y : Int32} (hd : decode (mcc M) pc = .ok (.ixor, 1))  (k : X M G r S I L (pc + 1) loc (.int (x ^^^ y) :: rest) Post) : X M G r S I L pc loc (.int y :: .int x :: rest) Post := by
  intro p l e R s m args below meth c Q B H locs cells slots ls hc hs hR hS hL
  exact lv_ixor B.1.1 B.1.2.1 hd (k p l e R s m args below meth c Q B H locs cells slots ls hc hs hR hS hL)
theorem x_ishl {M : MI} {G : WG} {r : Nat × Nat × Nat} {S : Shp} {I : IM} {L : LM} {pc : Nat} {loc rest : List Value} {Post : PostT} {x y : Int32} (hd : decode (mcc M) pc = .ok (.ishl, 1))  (k : X M G r S I L (pc + 1) loc (.int (x <<< (y &&& 31)) :: rest) Post) : X M G r S I L pc loc (.int y :: .int x :: rest) Post := by
  intro p l e R s m args below meth c Q B H locs cells slots ls hc hs hR hS hL
  exact lv_ishl B.1.1 B.1.2.1 hd (k p l e R s m args below meth c Q B H locs cells slots ls hc hs hR hS hL)
theorem x_ishr {M : MI} {G : WG} {r : Nat × Nat × Nat} {S : Shp} {I : IM} {L : LM} {pc : Nat} {loc rest : List Value} {Post : PostT} {x y : Int32} (hd : decode (mcc M) pc = .ok (.ishr, 1))  (k : X M G r S I L (pc + 1) loc (.int (x >>> (y &&& 31)) :: rest) Post) : X M G r S I L pc loc (.int y :: .int x :: rest) Post := by
  intro p l e R s m args below meth c Q B H locs cells slots ls hc hs hR hS hL
  exact lv_ishr B.1.1 B.1.2.1 hd (k p l e R s m args below meth c Q B H locs cells slots ls hc hs hR hS hL)
theorem x_idiv {M : MI} {G : WG} {r : Nat × Nat × Nat} {S : Shp} {I : IM} {L : LM} {pc : Nat} {loc rest : List Value} {Post : PostT} {x y : Int32} (hd : decode (mcc M) pc = .ok (.idiv, 1)) (hne : ¬ y = 0) (k : X M G r S I L (pc + 1) loc (.int (x / y) :: rest) Post) : X M G r S I L pc loc (.int y :: .int x :: rest) Post := by
  intro p l e R s m args below meth c Q B H locs cells slots ls hc hs hR hS hL
  exact lv_idiv B.1.1 B.1.2.1 hd hne (k p l e R s m args below meth c Q B H locs cells slots ls hc hs hR hS hL)
theorem x_irem {M : MI} {G : WG} {r : Nat × Nat × Nat} {S : Shp} {I : IM} {L : LM} {pc : Nat} {loc rest : List Value} {Post : PostT} {x y : Int32} (hd : decode (mcc M) pc = .ok (.irem, 1)) (hne : ¬ y = 0) (k : X M G r S I L (pc + 1) loc (.int (x - x / y * y) :: rest) Post) : X M G r S I L pc loc (.int y :: .int x :: rest) Post := by
  intro p l e R s m args below meth c Q B H locs cells slots ls hc hs hR hS hL
  exact lv_irem B.1.1 B.1.2.1 hd hne (k p l e R s m args below meth c Q B H locs cells slots ls hc hs hR hS hL)
theorem x_ineg {M : MI} {G : WG} {r : Nat × Nat × Nat} {S : Shp} {I : IM} {L : LM} {pc : Nat} {loc rest : List Value} {Post : PostT} {x : Int32} (hd : decode (mcc M) pc = .ok (.ineg, 1))  (k : X M G r S I L (pc + 1) loc (.int (-x) :: rest) Post) : X M G r S I L pc loc (.int x :: rest) Post := by
  intro p l e R s m args below meth c Q B H locs cells slots ls hc hs hR hS hL
  exact lv_ineg B.1.1 B.1.2.1 hd (k p l e R s m args below meth c Q B H locs cells slots ls hc hs hR hS hL)
theorem x_ladd {M : MI} {G : WG} {r : Nat × Nat × Nat} {S : Shp} {I : IM} {L : LM} {pc : Nat} {loc rest : List Value} {Post : PostT} {x y : Int64} (hd : decode (mcc M) pc = .ok (.ladd, 1))  (k : X M G r S I L (pc + 1) loc (.long (x + y) :: rest) Post) : X M G r S I L pc loc (.long y :: .long x :: rest) Post := by
  intro p l e R s m args below meth c Q B H locs cells slots ls hc hs hR hS hL
  exact lv_ladd B.1.1 B.1.2.1 hd (k p l e R s m args below meth c Q B H locs cells slots ls hc hs hR hS hL)
theorem x_lsub {M : MI} {G : WG} {r : Nat × Nat × Nat} {S : Shp} {I : IM} {L : LM} {pc : Nat} {loc rest : List Value} {Post : PostT} {x y : Int64} (hd : decode (mcc M) pc = .ok (.lsub, 1))  (k : X M G r S I L (pc + 1) loc (.long (x - y) :: rest) Post) : X M G r S I L pc loc (.long y :: .long x :: rest) Post := by
  intro p l e R s m args below meth c Q B H locs cells slots ls hc hs hR hS hL
  exact lv_lsub B.1.1 B.1.2.1 hd (k p l e R s m args below meth c Q B H locs cells slots ls hc hs hR hS hL)
theorem x_lmul {M : MI} {G : WG} {r : Nat × Nat × Nat} {S : Shp} {I : IM} {L : LM} {pc : Nat} {loc rest : List Value} {Post : PostT} {x y : Int64} (hd : decode (mcc M) pc = .ok (.lmul, 1))  (k : X M G r S I L (pc + 1) loc (.long (x * y) :: rest) Post) : X M G r S I L pc loc (.long y :: .long x :: rest) Post := by
  intro p l e R s m args below meth c Q B H locs cells slots ls hc hs hR hS hL
  exact lv_lmul B.1.1 B.1.2.1 hd (k p l e R s m args below meth c Q B H locs cells slots ls hc hs hR hS hL)
theorem x_ldiv {M : MI} {G : WG} {r : Nat × Nat × Nat} {S : Shp} {I : IM} {L : LM} {pc : Nat} {loc rest : List Value} {Post : PostT} {x y : Int64} (hd : decode (mcc M) pc = .ok (.ldiv, 1)) (hne : ¬ y = 0) (k : X M G r S I L (pc + 1) loc (.long (x / y) :: rest) Post) : X M G r S I L pc loc (.long y :: .long x :: rest) Post := by
  intro p l e R s m args below meth c Q B H locs cells slots ls hc hs hR hS hL
  exact lv_ldiv B.1.1 B.1.2.1 hd hne (k p l e R s m args below meth c Q B H locs cells slots ls hc hs hR hS hL)
theorem x_lrem {M : MI} {G : WG} {r : Nat × Nat × Nat} {S : Shp} {I : IM} {L : LM} {pc : Nat} {loc rest : List Value} {Post : PostT} {x y : Int64} (hd : decode (mcc M) pc = .ok (.lrem, 1)) (hne : ¬ y = 0) (k : X M G r S I L (pc + 1) loc (.long (x - x / y * y) :: rest) Post) : X M G r S I L pc loc (.long y :: .long x :: rest) Post := by
  intro p l e R s m args below meth c Q B H locs cells slots ls hc hs hR hS hL
  exact lv_lrem B.1.1 B.1.2.1 hd hne (k p l e R s m args below meth c Q B H locs cells slots ls hc hs hR hS hL)
theorem x_i2l {M : MI} {G : WG} {r : Nat × Nat × Nat} {S : Shp} {I : IM} {L : LM} {pc : Nat} {loc rest : List Value} {Post : PostT} {x : Int32} (hd : decode (mcc M) pc = .ok (.i2l, 1))  (k : X M G r S I L (pc + 1) loc (.long x.toInt64 :: rest) Post) : X M G r S I L pc loc (.int x :: rest) Post := by
  intro p l e R s m args below meth c Q B H locs cells slots ls hc hs hR hS hL
  exact lv_i2l B.1.1 B.1.2.1 hd rfl (k p l e R s m args below meth c Q B H locs cells slots ls hc hs hR hS hL)
theorem x_l2i {M : MI} {G : WG} {r : Nat × Nat × Nat} {S : Shp} {I : IM} {L : LM} {pc : Nat} {loc rest : List Value} {Post : PostT} {x : Int64} (hd : decode (mcc M) pc = .ok (.l2i, 1))  (k : X M G r S I L (pc + 1) loc (.int x.toInt32 :: rest) Post) : X M G r S I L pc loc (.long x :: rest) Post := by
  intro p l e R s m args below meth c Q B H locs cells slots ls hc hs hR hS hL
  exact lv_l2i B.1.1 B.1.2.1 hd rfl (k p l e R s m args below meth c Q B H locs cells slots ls hc hs hR hS hL)
theorem x_i2b {M : MI} {G : WG} {r : Nat × Nat × Nat} {S : Shp} {I : IM} {L : LM} {pc : Nat} {loc rest : List Value} {Post : PostT} {x : Int32} (hd : decode (mcc M) pc = .ok (.i2b, 1))  (k : X M G r S I L (pc + 1) loc (.int x.toInt8.toInt32 :: rest) Post) : X M G r S I L pc loc (.int x :: rest) Post := by
  intro p l e R s m args below meth c Q B H locs cells slots ls hc hs hR hS hL
  exact lv_i2b B.1.1 B.1.2.1 hd rfl (k p l e R s m args below meth c Q B H locs cells slots ls hc hs hR hS hL)
theorem x_i2s {M : MI} {G : WG} {r : Nat × Nat × Nat} {S : Shp} {I : IM} {L : LM} {pc : Nat} {loc rest : List Value} {Post : PostT} {x : Int32} (hd : decode (mcc M) pc = .ok (.i2s, 1))  (k : X M G r S I L (pc + 1) loc (.int x.toInt16.toInt32 :: rest) Post) : X M G r S I L pc loc (.int x :: rest) Post := by
  intro p l e R s m args below meth c Q B H locs cells slots ls hc hs hR hS hL
  exact lv_i2s B.1.1 B.1.2.1 hd rfl (k p l e R s m args below meth c Q B H locs cells slots ls hc hs hR hS hL)
theorem x_lcmp {M : MI} {G : WG} {r : Nat × Nat × Nat} {S : Shp} {I : IM} {L : LM} {pc : Nat} {loc rest : List Value} {Post : PostT} {x y : Int64} (hd : decode (mcc M) pc = .ok (.lcmp, 1))  (k : X M G r S I L (pc + 1) loc (.int (lg_cmp x y) :: rest) Post) : X M G r S I L pc loc (.long y :: .long x :: rest) Post := by
  intro p l e R s m args below meth c Q B H locs cells slots ls hc hs hR hS hL
  exact W.lcmp B.1.1 B.1.2.1 hd (k p l e R s m args below meth c Q B H locs cells slots ls hc hs hR hS hL)
theorem x_iushr {M : MI} {G : WG} {r : Nat × Nat × Nat} {S : Shp} {I : IM} {L : LM} {pc : Nat} {loc rest : List Value} {Post : PostT} {x y : Int32} (hd : decode (mcc M) pc = .ok (.iushr, 1))  (k : X M G r S I L (pc + 1) loc (.int (x.toUInt32 >>> (y.toUInt32 &&& Int32.toUInt32 31)).toInt32 :: rest) Post) : X M G r S I L pc loc (.int y :: .int x :: rest) Post := by
  intro p l e R s m args below meth c Q B H locs cells slots ls hc hs hR hS hL
  exact lv_iushr B.1.1 B.1.2.1 hd rfl (k p l e R s m args below meth c Q B H locs cells slots ls hc hs hR hS hL)
theorem vcat (G : WG) (v : Value) : (vmap G v).category = v.category := by cases v <;> rfl
theorem x_dup {M : MI} {G : WG} {r : Nat × Nat × Nat} {S : Shp} {I : IM} {L : LM} {pc : Nat} {loc rest : List Value} {Post : PostT} {v : Value} (hd : decode (mcc M) pc = .ok (.dup, 1)) (hv : v.category = 1) (k : X M G r S I L (pc + 1) loc (v :: v :: rest) Post) : X M G r S I L pc loc (v :: rest) Post := by
  intro p l e R s m args below meth c Q B H locs cells slots ls hc hs hR hS hL
  exact lv_dup B.1.1 B.1.2.1 hd ((vcat G v).trans hv) (k p l e R s m args below meth c Q B H locs cells slots ls hc hs hR hS hL)
theorem x_pop {M : MI} {G : WG} {r : Nat × Nat × Nat} {S : Shp} {I : IM} {L : LM} {pc : Nat} {loc rest : List Value} {Post : PostT} {v : Value} (hd : decode (mcc M) pc = .ok (.pop, 1)) (hv : v.category = 1) (k : X M G r S I L (pc + 1) loc rest Post) : X M G r S I L pc loc (v :: rest) Post := by
  intro p l e R s m args below meth c Q B H locs cells slots ls hc hs hR hS hL
  exact lv_pop B.1.1 B.1.2.1 hd ((vcat G v).trans hv) (k p l e R s m args below meth c Q B H locs cells slots ls hc hs hR hS hL)
theorem x_pop2 {M : MI} {G : WG} {r : Nat × Nat × Nat} {S : Shp} {I : IM} {L : LM} {pc : Nat} {loc rest : List Value} {Post : PostT} {v : Value} (hd : decode (mcc M) pc = .ok (.pop2, 1)) (hv : v.category = 2) (k : X M G r S I L (pc + 1) loc rest Post) : X M G r S I L pc loc (v :: rest) Post := by
  intro p l e R s m args below meth c Q B H locs cells slots ls hc hs hR hS hL
  exact lv_pop2_2 B.1.1 B.1.2.1 hd ((vcat G v).trans hv) (k p l e R s m args below meth c Q B H locs cells slots ls hc hs hR hS hL)
theorem x_dup_x1 {M : MI} {G : WG} {r : Nat × Nat × Nat} {S : Shp} {I : IM} {L : LM} {pc : Nat} {loc rest : List Value} {Post : PostT} {v w : Value} (hd : decode (mcc M) pc = .ok (.dup_x1, 1)) (hv : v.category = 1) (hw : w.category = 1) (k : X M G r S I L (pc + 1) loc (v :: w :: v :: rest) Post) : X M G r S I L pc loc (v :: w :: rest) Post := by
  intro p l e R s m args below meth c Q B H locs cells slots ls hc hs hR hS hL
  exact lv_dup_x1 B.1.1 B.1.2.1 hd ((vcat G v).trans hv) ((vcat G w).trans hw) (k p l e R s m args below meth c Q B H locs cells slots ls hc hs hR hS hL)
theorem x_dup2 {M : MI} {G : WG} {r : Nat × Nat × Nat} {S : Shp} {I : IM} {L : LM} {pc : Nat} {loc rest : List Value} {Post : PostT} {v w : Value} (hd : decode (mcc M) pc = .ok (.dup2, 1)) (hv : v.category = 1) (hw : w.category = 1) (k : X M G r S I L (pc + 1) loc (v :: w :: v :: w :: rest) Post) : X M G r S I L pc loc (v :: w :: rest) Post := by
  intro p l e R s m args below meth c Q B H locs cells slots ls hc hs hR hS hL
  exact lv_dup2_11 B.1.1 B.1.2.1 hd ((vcat G v).trans hv) ((vcat G w).trans hw) (k p l e R s m args below meth c Q B H locs cells slots ls hc hs hR hS hL)
theorem x_if_eq {M : MI} {G : WG} {r : Nat × Nat × Nat} {S : Shp} {I : IM} {L : LM} {pc : Nat} {loc rest : List Value} {Post : PostT} {x : Int32} {off : Int} {tgt : Nat} (hd : decode (mcc M) pc = .ok (.ifCond .eq off, 3)) (ht : (pc : Int) + off = (tgt : Int)) (kt : x = 0 → X M G r S I L tgt loc rest Post) (kf : ¬ x = 0 → X M G r S I L (pc + 3) loc rest Post) : X M G r S I L pc loc (.int x :: rest) Post := by
  intro p l e R s m args below meth c Q B H locs cells slots ls hc hs hR hS hL
  exact lv_if_eq B.1.1 B.1.2.1 hd ht (fun q => kt q p l e R s m args below meth c Q B H locs cells slots ls hc hs hR hS hL) (fun q => kf q p l e R s m args below meth c Q B H locs cells slots ls hc hs hR hS hL)
theorem x_icmp_eq {M : MI} {G : WG} {r : Nat × Nat × Nat} {S : Shp} {I : IM} {L : LM} {pc : Nat} {loc rest : List Value} {Post : PostT} {x y : Int32} {off : Int} {tgt : Nat} (hd : decode (mcc M) pc = .ok (.if_icmp .eq off, 3)) (ht : (pc : Int) + off = (tgt : Int)) (kt : x = y → X M G r S I L tgt loc rest Post) (kf : ¬ x = y → X M G r S I L (pc + 3) loc rest Post) : X M G r S I L pc loc (.int y :: .int x :: rest) Post := by
  intro p l e R s m args below meth c Q B H locs cells slots ls hc hs hR hS hL
  exact lv_icmp_eq B.1.1 B.1.2.1 hd ht (fun q => kt q p l e R s m args below meth c Q B H locs cells slots ls hc hs hR hS hL) (fun q => kf q p l e R s m args below meth c Q B H locs cells slots ls hc hs hR hS hL)
theorem x_if_ne {M : MI} {G : WG} {r : Nat × Nat × Nat} {S : Shp} {I : IM} {L : LM} {pc : Nat} {loc rest : List Value} {Post : PostT} {x : Int32} {off : Int} {tgt : Nat} (hd : decode (mcc M) pc = .ok (.ifCond .ne off, 3)) (ht : (pc : Int) + off = (tgt : Int)) (kt : ¬ x = 0 → X M G r S I L tgt loc rest Post) (kf : x = 0 → X M G r S I L (pc + 3) loc rest Post) : X M G r S I L pc loc (.int x :: rest) Post := by
  intro p l e R s m args below meth c Q B H locs cells slots ls hc hs hR hS hL
  exact lv_if_ne B.1.1 B.1.2.1 hd ht (fun q => kt q p l e R s m args below meth c Q B H locs cells slots ls hc hs hR hS hL) (fun q => kf q p l e R s m args below meth c Q B H locs cells slots ls hc hs hR hS hL)
theorem x_icmp_ne {M : MI} {G : WG} {r : Nat × Nat × Nat} {S : Shp} {I : IM} {L : LM} {pc : Nat} {loc rest : List Value} {Post : PostT} {x y : Int32} {off : Int} {tgt : Nat} (hd : decode (mcc M) pc = .ok (.if_icmp .ne off, 3)) (ht : (pc : Int) + off = (tgt : Int)) (kt : ¬ x = y → X M G r S I L tgt loc rest Post) (kf : x = y → X M G r S I L (pc + 3) loc rest Post) : X M G r S I L pc loc (.int y :: .int x :: rest) Post := by
  intro p l e R s m args below meth c Q B H locs cells slots ls hc hs hR hS hL
  exact lv_icmp_ne B.1.1 B.1.2.1 hd ht (fun q => kt q p l e R s m args below meth c Q B H locs cells slots ls hc hs hR hS hL) (fun q => kf q p l e R s m args below meth c Q B H locs cells slots ls hc hs hR hS hL)
theorem x_if_lt {M : MI} {G : WG} {r : Nat × Nat × Nat} {S : Shp} {I : IM} {L : LM} {pc : Nat} {loc rest : List Value} {Post : PostT} {x : Int32} {off : Int} {tgt : Nat} (hd : decode (mcc M) pc = .ok (.ifCond .lt off, 3)) (ht : (pc : Int) + off = (tgt : Int)) (kt : x < 0 → X M G r S I L tgt loc rest Post) (kf : ¬ x < 0 → X M G r S I L (pc + 3) loc rest Post) : X M G r S I L pc loc (.int x :: rest) Post := by
  intro p l e R s m args below meth c Q B H locs cells slots ls hc hs hR hS hL
  exact lv_if_lt B.1.1 B.1.2.1 hd ht (fun q => kt q p l e R s m args below meth c Q B H locs cells slots ls hc hs hR hS hL) (fun q => kf q p l e R s m args below meth c Q B H locs cells slots ls hc hs hR hS hL)
theorem x_icmp_lt {M : MI} {G : WG} {r : Nat × Nat × Nat} {S : Shp} {I : IM} {L : LM} {pc : Nat} {loc rest : List Value} {Post : PostT} {x y : Int32} {off : Int} {tgt : Nat} (hd : decode (mcc M) pc = .ok (.if_icmp .lt off, 3)) (ht : (pc : Int) + off = (tgt : Int)) (kt : x < y → X M G r S I L tgt loc rest Post) (kf : ¬ x < y → X M G r S I L (pc + 3) loc rest Post) : X M G r S I L pc loc (.int y :: .int x :: rest) Post := by
  intro p l e R s m args below meth c Q B H locs cells slots ls hc hs hR hS hL
  exact lv_icmp_lt B.1.1 B.1.2.1 hd ht (fun q => kt q p l e R s m args below meth c Q B H locs cells slots ls hc hs hR hS hL) (fun q => kf q p l e R s m args below meth c Q B H locs cells slots ls hc hs hR hS hL)
theorem x_if_ge {M : MI} {G : WG} {r : Nat × Nat × Nat} {S : Shp} {I : IM} {L : LM} {pc : Nat} {loc rest : List Value} {Post : PostT} {x : Int32} {off : Int} {tgt : Nat} (hd : decode (mcc M) pc = .ok (.ifCond .ge off, 3)) (ht : (pc : Int) + off = (tgt : Int)) (kt : 0 ≤ x → X M G r S I L tgt loc rest Post) (kf : ¬ 0 ≤ x → X M G r S I L (pc + 3) loc rest Post) : X M G r S I L pc loc (.int x :: rest) Post := by
  intro p l e R s m args below meth c Q B H locs cells slots ls hc hs hR hS hL
  exact lv_if_ge B.1.1 B.1.2.1 hd ht (fun q => kt q p l e R s m args below meth c Q B H locs cells slots ls hc hs hR hS hL) (fun q => kf q p l e R s m args below meth c Q B H locs cells slots ls hc hs hR hS hL)
theorem x_icmp_ge {M : MI} {G : WG} {r : Nat × Nat × Nat} {S : Shp} {I : IM} {L : LM} {pc : Nat} {loc rest : List Value} {Post : PostT} {x y : Int32} {off : Int} {tgt : Nat} (hd : decode (mcc M) pc = .ok (.if_icmp .ge off, 3)) (ht : (pc : Int) + off = (tgt : Int)) (kt : y ≤ x → X M G r S I L tgt loc rest Post) (kf : ¬ y ≤ x → X M G r S I L (pc + 3) loc rest Post) : X M G r S I L pc loc (.int y :: .int x :: rest) Post := by
  intro p l e R s m args below meth c Q B H locs cells slots ls hc hs hR hS hL
  exact lv_icmp_ge B.1.1 B.1.2.1 hd ht (fun q => kt q p l e R s m args below meth c Q B H locs cells slots ls hc hs hR hS hL) (fun q => kf q p l e R s m args below meth c Q B H locs cells slots ls hc hs hR hS hL)
theorem x_if_gt {M : MI} {G : WG} {r : Nat × Nat × Nat} {S : Shp} {I : IM} {L : LM} {pc : Nat} {loc rest : List Value} {Post : PostT} {x : Int32} {off : Int} {tgt : Nat} (hd : decode (mcc M) pc = .ok (.ifCond .gt off, 3)) (ht : (pc : Int) + off = (tgt : Int)) (kt : 0 < x → X M G r S I L tgt loc rest Post) (kf : ¬ 0 < x → X M G r S I L (pc + 3) loc rest Post) : X M G r S I L pc loc (.int x :: rest) Post := by
  intro p l e R s m args below meth c Q B H locs cells slots ls hc hs hR hS hL
  exact lv_if_gt B.1.1 B.1.2.1 hd ht (fun q => kt q p l e R s m args below meth c Q B H locs cells slots ls hc hs hR hS hL) (fun q => kf q p l e R s m args below meth c Q B H locs cells slots ls hc hs hR hS hL)
theorem x_icmp_gt {M : MI} {G : WG} {r : Nat × Nat × Nat} {S : Shp} {I : IM} {L : LM} {pc : Nat} {loc rest : List Value} {Post : PostT} {x y : Int32} {off : Int} {tgt : Nat} (hd : decode (mcc M) pc = .ok (.if_icmp .gt off, 3)) (ht : (pc : Int) + off = (tgt : Int)) (kt : y < x → X M G r S I L tgt loc rest Post) (kf : ¬ y < x → X M G r S I L (pc + 3) loc rest Post) : X M G r S I L pc loc (.int y :: .int x :: rest) Post := by
  intro p l e R s m args below meth c Q B H locs cells slots ls hc hs hR hS hL
  exact lv_icmp_gt B.1.1 B.1.2.1 hd ht (fun q => kt q p l e R s m args below meth c Q B H locs cells slots ls hc hs hR hS hL) (fun q => kf q p l e R s m args below meth c Q B H locs cells slots ls hc hs hR hS hL)
theorem x_if_le {M : MI} {G : WG} {r : Nat × Nat × Nat} {S : Shp} {I : IM} {L : LM} {pc : Nat} {loc rest : List Value} {Post : PostT} {x : Int32} {off : Int} {tgt : Nat} (hd : decode (mcc M) pc = .ok (.ifCond .le off, 3)) (ht : (pc : Int) + off = (tgt : Int)) (kt : x ≤ 0 → X M G r S I L tgt loc rest Post) (kf : ¬ x ≤ 0 → X M G r S I L (pc + 3) loc rest Post) : X M G r S I L pc loc (.int x :: rest) Post := by
  intro p l e R s m args below meth c Q B H locs cells slots ls hc hs hR hS hL
  exact lv_if_le B.1.1 B.1.2.1 hd ht (fun q => kt q p l e R s m args below meth c Q B H locs cells slots ls hc hs hR hS hL) (fun q => kf q p l e R s m args below meth c Q B H locs cells slots ls hc hs hR hS hL)
theorem x_icmp_le {M : MI} {G : WG} {r : Nat × Nat × Nat} {S : Shp} {I : IM} {L : LM} {pc : Nat} {loc rest : List Value} {Post : PostT} {x y : Int32} {off : Int} {tgt : Nat} (hd : decode (mcc M) pc = .ok (.if_icmp .le off, 3)) (ht : (pc : Int) + off = (tgt : Int)) (kt : x ≤ y → X M G r S I L tgt loc rest Post) (kf : ¬ x ≤ y → X M G r S I L (pc + 3) loc rest Post) : X M G r S I L pc loc (.int y :: .int x :: rest) Post := by
  intro p l e R s m args below meth c Q B H locs cells slots ls hc hs hR hS hL
  exact lv_icmp_le B.1.1 B.1.2.1 hd ht (fun q => kt q p l e R s m args below meth c Q B H locs cells slots ls hc hs hR hS hL) (fun q => kf q p l e R s m args below meth c Q B H locs cells slots ls hc hs hR hS hL)
theorem x_goto {M : MI} {G : WG} {r : Nat × Nat × Nat} {S : Shp} {I : IM} {L : LM} {pc : Nat} {loc rest : List Value} {Post : PostT} {off : Int} {tgt : Nat} (hd : decode (mcc M) pc = .ok (.goto off, 3)) (ht : (pc : Int) + off = (tgt : Int)) (k : X M G r S I L tgt loc rest Post) : X M G r S I L pc loc rest Post := by
  intro p l e R s m args below meth c Q B H locs cells slots ls hc hs hR hS hL
  exact lv_goto B.1.1 B.1.2.1 hd ht (k p l e R s m args below meth c Q B H locs cells slots ls hc hs hR hS hL)
theorem x_tableIn {M : MI} {G : WG} {r : Nat × Nat × Nat} {S : Shp} {I : IM} {L : LM} {pc : Nat} {loc rest : List Value} {Post : PostT} {dflt lo hi : Int} {offs : Array Int} {len : Nat} {x : Int32} {off : Int} {tgt : Nat} (hd : decode (mcc M) pc = .ok (.tableswitch dflt lo hi offs, len)) (h1 : ¬ x.toInt < lo) (h2 : ¬ hi < x.toInt) (ho : offs[(x.toInt - lo).toNat]? = some off) (ht : (pc : Int) + off = (tgt : Int)) (k : X M G r S I L tgt loc rest Post) : X M G r S I L pc loc (.int x :: rest) Post := by
  intro p l e R s m args below meth c Q B H locs cells slots ls hc hs hR hS hL
  exact lv_tableIn B.1.1 B.1.2.1 hd h1 h2 ho ht (k p l e R s m args below meth c Q B H locs cells slots ls hc hs hR hS hL)
theorem x_tableOut {M : MI} {G : WG} {r : Nat × Nat × Nat} {S : Shp} {I : IM} {L : LM} {pc : Nat} {loc rest : List Value} {Post : PostT} {dflt lo hi : Int} {offs : Array Int} {len : Nat} {x : Int32} {tgt : Nat} (hd : decode (mcc M) pc = .ok (.tableswitch dflt lo hi offs, len)) (h : x.toInt < lo ∨ hi < x.toInt) (ht : (pc : Int) + dflt = (tgt : Int)) (k : X M G r S I L tgt loc rest Post) : X M G r S I L pc loc (.int x :: rest) Post := by
  intro p l e R s m args below meth c Q B H locs cells slots ls hc hs hR hS hL
  exact lv_tableOut B.1.1 B.1.2.1 hd h ht (k p l e R s m args below meth c Q B H locs cells slots ls hc hs hR hS hL)
theorem x_lookup {M : MI} {G : WG} {r : Nat × Nat × Nat} {S : Shp} {I : IM} {L : LM} {pc : Nat} {loc rest : List Value} {Post : PostT} {dflt : Int} {ps : Array (Int × Int)} {len : Nat} {x : Int32} {off : Int} {tgt : Nat} (hd : decode (mcc M) pc = .ok (.lookupswitch dflt ps, len)) (hp : (ps.toList.zip (ps.toList.drop 1)).all (fun (a, next) => a.1 < next.1) = true) (ho : Op.lookupswitch.offset ps.toList dflt x.toInt = off) (ht : (pc : Int) + off = (tgt : Int)) (k : X M G r S I L tgt loc rest Post) : X M G r S I L pc loc (.int x :: rest) Post := by
  intro p l e R s m args below meth c Q B H locs cells slots ls hc hs hR hS hL
  exact lv_lookup B.1.1 B.1.2.1 hd hp ho ht (k p l e R s m args below meth c Q B H locs cells slots ls hc hs hR hS hL)
theorem x_nm {M : MI} {G : WG} {r : Nat × Nat × Nat} {S : Shp} {I : IM} {L : LM} {pc : Nat} {loc rest : List Value} {Post : PostT} {x : Int32} (k : ∀ y : Int32, y = x → X M G r S I L pc loc (.int y :: rest) Post) : X M G r S I L pc loc (.int x :: rest) Post := k x rfl
theorem x_eqi {M : MI} {G : WG} {r : Nat × Nat × Nat} {S : Shp} {I : IM} {L : LM} {pc : Nat} {loc rest : List Value} {Post : PostT} {x y : Int32} (h : x = y) (k : X M G r S I L pc loc (.int y :: rest) Post) : X M G r S I L pc loc (.int x :: rest) Post := h ▸ k
def cat1at (loc : List Value) (k : Nat) : Bool := match k with
  | 0 => true
  | j + 1 => match loc[j]? with
    | some (.long _) => false
    | some (.double _) => false
    | _ => true
def lzf (G : WG) (loc : List Value) : List (Nat × Value) := (List.range loc.length).filterMap fun (j : Nat) => match (loc[j]? : Option Value) with
  | some .null => none
  | some v => some (j, vmap G v)
  | none => none
theorem lzf_mem {G : WG} {loc : List Value} {j : Nat} {v : Value} (h : loc[j]? = some v) (hv : v ≠ .null) : (j, vmap G v) ∈ lzf G loc := by
  refine List.mem_filterMap.mpr ⟨j, List.mem_range.mpr (List.getElem?_eq_some_iff.mp h).1, ?_⟩
  rw [h]
  cases v <;> first | exact absurd rfl hv | rfl
theorem lzf_has {G : WG} {ls : Array Slot} {nL : Nat} {loc : List Value} (h : LH G ls nL loc) : lv_has ls nL (lzf G loc) := by
  refine ⟨h.1, h.2.1, fun q hq => ?_⟩
  obtain ⟨j, -, hj⟩ := List.mem_filterMap.mp hq
  cases hl : loc[j]? with
  | none => rw [hl] at hj; cases hj
  | some v =>
    rw [hl] at hj
    cases v <;> first | (cases hj; done) | (cases hj; exact h.2.2 j _ hl (by simp))
/-- what a store of a value of one word leaves -/
theorem LH_put {G : WG} {ls' : Array Slot} {nL k : Nat} {loc : List Value} {v : Value} (hv : v ≠ .null) (hk : k < loc.length) (h1 : cat1at loc k = true)
    (h : lv_has ls' nL ((k, vmap G v) :: (lzf G loc).filter (fun q => !(q.1 == k) && !(q.1 + 1 == k && q.2.category == 2)))) : LH G ls' nL (loc.set k v) := by
  refine ⟨h.1, h.2.1, fun j w hj hw => ?_⟩
  by_cases hjk : j = k
  · subst hjk
    rw [List.getElem?_set_self hk] at hj
    cases hj
    exact h.2.2 (j, vmap G v) List.mem_cons_self
  · rw [List.getElem?_set_ne (fun q => hjk q.symm)] at hj
    refine h.2.2 (j, vmap G w) (List.mem_cons_of_mem _ (List.mem_filter.mpr ⟨lzf_mem hj hw, ?_⟩))
    have hjk' : (j == k) = false := by simpa using hjk
    simp only [hjk', Bool.not_false, Bool.true_and, vcat]
    by_cases h2 : j + 1 = k
    · subst h2
      simp only [cat1at, hj] at h1
      cases w <;> simp_all [Value.category]
    · simp [h2]

theorem x_istore0n {M : MI} {G : WG} {r : Nat × Nat × Nat} {S : Shp} {I : IM} {L : LM} {pc : Nat} {loc rest : List Value} {Post : PostT} {k0 : Fin 4} {x : Int32} (hd : decode (mcc M) pc = .ok (.istore_n k0, 1)) (hk : (k0 : Nat) < loc.length) (hn : (k0 : Nat) < mnl M) (h1 : cat1at loc (k0 : Nat) = true) (k : X M G r S I L (pc + 1) (loc.set (k0 : Nat) (.int x)) rest Post) : X M G r S I L pc loc (.int x :: rest) Post := by
  intro p l e R s m args below meth c Q B H locs cells slots ls hc hs hR hS hL
  exact lv_istore_n B.1.1 B.1.2.1 hd rfl (lzf_has hL) hn rfl (fun ls2 h2 => k p l e R s m args below meth c Q B H locs cells slots ls2 hc hs hR hS (LH_put (v := .int x) (by simp) hk h1 h2))
theorem x_istore0 {M : MI} {G : WG} {r : Nat × Nat × Nat} {S : Shp} {I : IM} {L : LM} {pc : Nat} {loc rest : List Value} {Post : PostT} {k0 : Nat} {x : Int32} (hd : decode (mcc M) pc = .ok (.istore k0, 2)) (hk : k0 < loc.length) (hn : k0 < mnl M) (h1 : cat1at loc k0 = true) (k : X M G r S I L (pc + 2) (loc.set k0 (.int x)) rest Post) : X M G r S I L pc loc (.int x :: rest) Post := by
  intro p l e R s m args below meth c Q B H locs cells slots ls hc hs hR hS hL
  exact lv_istore B.1.1 B.1.2.1 hd (lzf_has hL) hn rfl (fun ls2 h2 => k p l e R s m args below meth c Q B H locs cells slots ls2 hc hs hR hS (LH_put (v := .int x) (by simp) hk h1 h2))
theorem x_astore0n {M : MI} {G : WG} {r : Nat × Nat × Nat} {S : Shp} {I : IM} {L : LM} {pc : Nat} {loc rest : List Value} {Post : PostT} {k0 : Fin 4} {x : Nat} (hd : decode (mcc M) pc = .ok (.astore_n k0, 1)) (hk : (k0 : Nat) < loc.length) (hn : (k0 : Nat) < mnl M) (h1 : cat1at loc (k0 : Nat) = true) (k : X M G r S I L (pc + 1) (loc.set (k0 : Nat) (.ref x)) rest Post) : X M G r S I L pc loc (.ref x :: rest) Post := by
  intro p l e R s m args below meth c Q B H locs cells slots ls hc hs hR hS hL
  exact lv_astore_n B.1.1 B.1.2.1 hd rfl (lzf_has hL) hn rfl (fun ls2 h2 => k p l e R s m args below meth c Q B H locs cells slots ls2 hc hs hR hS (LH_put (v := .ref x) (by simp) hk h1 h2))
theorem x_astore0 {M : MI} {G : WG} {r : Nat × Nat × Nat} {S : Shp} {I : IM} {L : LM} {pc : Nat} {loc rest : List Value} {Post : PostT} {k0 : Nat} {x : Nat} (hd : decode (mcc M) pc = .ok (.astore k0, 2)) (hk : k0 < loc.length) (hn : k0 < mnl M) (h1 : cat1at loc k0 = true) (k : X M G r S I L (pc + 2) (loc.set k0 (.ref x)) rest Post) : X M G r S I L pc loc (.ref x :: rest) Post := by
  intro p l e R s m args below meth c Q B H locs cells slots ls hc hs hR hS hL
  exact lv_astore B.1.1 B.1.2.1 hd (lzf_has hL) hn rfl (fun ls2 h2 => k p l e R s m args below meth c Q B H locs cells slots ls2 hc hs hR hS (LH_put (v := .ref x) (by simp) hk h1 h2))
theorem LH_putL {G : WG} {ls' : Array Slot} {nL k : Nat} {loc : List Value} {x : Int64} (hk : k + 1 < loc.length) (h1 : cat1at loc k = true)
    (h : lv_has ls' nL ((k, Value.long x) :: (lzf G loc).filter (fun q => !(q.1 == k) && (!(q.1 == k + 1) && !(q.1 + 1 == k && q.2.category == 2))))) : LH G ls' nL ((loc.set k (.long x)).set (k + 1) .null) := by
  refine ⟨h.1, h.2.1, fun j w hj hw => ?_⟩
  by_cases hj1 : j = k + 1
  · subst hj1
    rw [List.getElem?_set_self (by simpa using hk)] at hj
    cases hj
    exact absurd rfl hw
  rw [List.getElem?_set_ne (fun q => hj1 q.symm)] at hj
  by_cases hjk : j = k
  · subst hjk
    rw [List.getElem?_set_self (by omega)] at hj
    cases hj
    exact h.2.2 (j, .long x) List.mem_cons_self
  · rw [List.getElem?_set_ne (fun q => hjk q.symm)] at hj
    refine h.2.2 (j, vmap G w) (List.mem_cons_of_mem _ (List.mem_filter.mpr ⟨lzf_mem hj hw, ?_⟩))
    have hjk' : (j == k) = false := by simpa using hjk
    have hj1' : (j == k + 1) = false := by simpa using hj1
    simp only [hjk', hj1', Bool.not_false, Bool.true_and, vcat]
    by_cases h2 : j + 1 = k
    · subst h2
      simp only [cat1at, hj] at h1
      cases w <;> simp_all [Value.category]
    · simp [h2]
theorem x_lstore0n {M : MI} {G : WG} {r : Nat × Nat × Nat} {S : Shp} {I : IM} {L : LM} {pc : Nat} {loc rest : List Value} {Post : PostT} {k0 : Fin 4} {x : Int64} (hd : decode (mcc M) pc = .ok (.lstore_n k0, 1)) (hk : (k0 : Nat) + 1 < loc.length) (hn : (k0 : Nat) + 1 < mnl M) (h1 : cat1at loc (k0 : Nat) = true) (k : X M G r S I L (pc + 1) ((loc.set (k0 : Nat) (.long x)).set ((k0 : Nat) + 1) .null) rest Post) : X M G r S I L pc loc (.long x :: rest) Post := by
  intro p l e R s m args below meth c Q B H locs cells slots ls hc hs hR hS hL
  exact lv_lstore_n B.1.1 B.1.2.1 hd rfl (lzf_has hL) hn rfl (fun ls2 h2 => k p l e R s m args below meth c Q B H locs cells slots ls2 hc hs hR hS (LH_putL hk h1 h2))
theorem x_lstore0 {M : MI} {G : WG} {r : Nat × Nat × Nat} {S : Shp} {I : IM} {L : LM} {pc : Nat} {loc rest : List Value} {Post : PostT} {k0 : Nat} {x : Int64} (hd : decode (mcc M) pc = .ok (.lstore k0, 2)) (hk : k0 + 1 < loc.length) (hn : k0 + 1 < mnl M) (h1 : cat1at loc k0 = true) (k : X M G r S I L (pc + 2) ((loc.set k0 (.long x)).set (k0 + 1) .null) rest Post) : X M G r S I L pc loc (.long x :: rest) Post := by
  intro p l e R s m args below meth c Q B H locs cells slots ls hc hs hR hS hL
  exact lv_lstore B.1.1 B.1.2.1 hd (lzf_has hL) hn rfl (fun ls2 h2 => k p l e R s m args below meth c Q B H locs cells slots ls2 hc hs hR hS (LH_putL hk h1 h2))
theorem x_iinc0 {M : MI} {G : WG} {r : Nat × Nat × Nat} {S : Shp} {I : IM} {L : LM} {pc : Nat} {loc rest : List Value} {Post : PostT} {k0 : Nat} {n : Int} {x v : Int32} (hd : decode (mcc M) pc = .ok (.iinc k0 n, 3)) (hl : loc[k0]? = some (.int x)) (hv : x + Int32.ofInt n = v) (hn : k0 < mnl M) (h1 : cat1at loc k0 = true) (k : X M G r S I L (pc + 3) (loc.set k0 (.int v)) rest Post) : X M G r S I L pc loc rest Post := by
  intro p l e R s m args below meth c Q B H locs cells slots ls hc hs hR hS hL
  obtain ⟨k1, hk1⟩ := List.getElem?_of_mem (lzf_mem (G := G) hl (by simp))
  exact lv_iinc B.1.1 B.1.2.1 hd (lzf_has hL) hk1 hv hn rfl (fun ls2 h2 => k p l e R s m args below meth c Q B H locs cells slots ls2 hc hs hR hS (LH_put (v := .int v) (by simp) (List.getElem?_eq_some_iff.mp hl).1 h1 h2))
theorem x_istoren_0 {M : MI} {G : WG} {r : Nat × Nat × Nat} {S : Shp} {I : IM} {L : LM} {pc : Nat} {rest : List Value} {Post : PostT} {t0 : Value} {t : List Value} {x : Int32} (hd : decode (mcc M) pc = .ok (.istore_n 0, 1)) (hn : Nat.ble 1 (mnl M) = true) (h1 : cat1at (t0 :: t) 0 = true) (k : X M G r S I L (pc + 1) (.int x :: t) rest Post) : X M G r S I L pc (t0 :: t) (.int x :: rest) Post := x_istore0n hd (show (0 : Nat) < _ by simp) (Nat.le_of_ble_eq_true hn) h1 k
theorem x_istore_0 {M : MI} {G : WG} {r : Nat × Nat × Nat} {S : Shp} {I : IM} {L : LM} {pc : Nat} {rest : List Value} {Post : PostT} {t0 : Value} {t : List Value} {x : Int32} (hd : decode (mcc M) pc = .ok (.istore 0, 2)) (hn : Nat.ble 1 (mnl M) = true) (h1 : cat1at (t0 :: t) 0 = true) (k : X M G r S I L (pc + 2) (.int x :: t) rest Post) : X M G r S I L pc (t0 :: t) (.int x :: rest) Post := x_istore0 hd (show (0 : Nat) < _ by simp) (Nat.le_of_ble_eq_true hn) h1 k
theorem x_astoren_0 {M : MI} {G : WG} {r : Nat × Nat × Nat} {S : Shp} {I : IM} {L : LM} {pc : Nat} {rest : List Value} {Post : PostT} {t0 : Value} {t : List Value} {x : Nat} (hd : decode (mcc M) pc = .ok (.astore_n 0, 1)) (hn : Nat.ble 1 (mnl M) = true) (h1 : cat1at (t0 :: t) 0 = true) (k : X M G r S I L (pc + 1) (.ref x :: t) rest Post) : X M G r S I L pc (t0 :: t) (.ref x :: rest) Post := x_astore0n hd (show (0 : Nat) < _ by simp) (Nat.le_of_ble_eq_true hn) h1 k
theorem x_astore_0 {M : MI} {G : WG} {r : Nat × Nat × Nat} {S : Shp} {I : IM} {L : LM} {pc : Nat} {rest : List Value} {Post : PostT} {t0 : Value} {t : List Value} {x : Nat} (hd : decode (mcc M) pc = .ok (.astore 0, 2)) (hn : Nat.ble 1 (mnl M) = true) (h1 : cat1at (t0 :: t) 0 = true) (k : X M G r S I L (pc + 2) (.ref x :: t) rest Post) : X M G r S I L pc (t0 :: t) (.ref x :: rest) Post := x_astore0 hd (show (0 : Nat) < _ by simp) (Nat.le_of_ble_eq_true hn) h1 k
theorem x_iinc_0 {M : MI} {G : WG} {r : Nat × Nat × Nat} {S : Shp} {I : IM} {L : LM} {pc : Nat} {rest : List Value} {Post : PostT} {t : List Value} {n : Int} {x v : Int32} (hd : decode (mcc M) pc = .ok (.iinc 0 n, 3)) (hv : x + Int32.ofInt n = v) (hn : Nat.ble 1 (mnl M) = true) (h1 : cat1at (.int x :: t) 0 = true) (k : X M G r S I L (pc + 3) (.int v :: t) rest Post) : X M G r S I L pc (.int x :: t) rest Post := x_iinc0 hd rfl hv (Nat.le_of_ble_eq_true hn) h1 k
theorem x_lstoren_0 {M : MI} {G : WG} {r : Nat × Nat × Nat} {S : Shp} {I : IM} {L : LM} {pc : Nat} {rest : List Value} {Post : PostT} {t0 : Value} {t : List Value} {t1 : Value} {x : Int64} (hd : decode (mcc M) pc = .ok (.lstore_n 0, 1)) (hn : Nat.ble 2 (mnl M) = true) (h1 : cat1at (t0 :: t1 :: t) 0 = true) (k : X M G r S I L (pc + 1) (.long x :: .null :: t) rest Post) : X M G r S I L pc (t0 :: t1 :: t) (.long x :: rest) Post := x_lstore0n hd (show (0 : Nat) + 1 < _ by simp) (Nat.le_of_ble_eq_true hn) h1 k
theorem x_lstore_0 {M : MI} {G : WG} {r : Nat × Nat × Nat} {S : Shp} {I : IM} {L : LM} {pc : Nat} {rest : List Value} {Post : PostT} {t0 : Value} {t : List Value} {t1 : Value} {x : Int64} (hd : decode (mcc M) pc = .ok (.lstore 0, 2)) (hn : Nat.ble 2 (mnl M) = true) (h1 : cat1at (t0 :: t1 :: t) 0 = true) (k : X M G r S I L (pc + 2) (.long x :: .null :: t) rest Post) : X M G r S I L pc (t0 :: t1 :: t) (.long x :: rest) Post := x_lstore0 hd (show (0 : Nat) + 1 < _ by simp) (Nat.le_of_ble_eq_true hn) h1 k
theorem x_istoren_1 {M : MI} {G : WG} {r : Nat × Nat × Nat} {S : Shp} {I : IM} {L : LM} {pc : Nat} {rest : List Value} {Post : PostT} {a0 t0 : Value} {t : List Value} {x : Int32} (hd : decode (mcc M) pc = .ok (.istore_n 1, 1)) (hn : Nat.ble 2 (mnl M) = true) (h1 : cat1at (a0 :: t0 :: t) 1 = true) (k : X M G r S I L (pc + 1) (a0 :: .int x :: t) rest Post) : X M G r S I L pc (a0 :: t0 :: t) (.int x :: rest) Post := x_istore0n hd (show (1 : Nat) < _ by simp) (Nat.le_of_ble_eq_true hn) h1 k
theorem x_istore_1 {M : MI} {G : WG} {r : Nat × Nat × Nat} {S : Shp} {I : IM} {L : LM} {pc : Nat} {rest : List Value} {Post : PostT} {a0 t0 : Value} {t : List Value} {x : Int32} (hd : decode (mcc M) pc = .ok (.istore 1, 2)) (hn : Nat.ble 2 (mnl M) = true) (h1 : cat1at (a0 :: t0 :: t) 1 = true) (k : X M G r S I L (pc + 2) (a0 :: .int x :: t) rest Post) : X M G r S I L pc (a0 :: t0 :: t) (.int x :: rest) Post := x_istore0 hd (show (1 : Nat) < _ by simp) (Nat.le_of_ble_eq_true hn) h1 k
theorem x_astoren_1 {M : MI} {G : WG} {r : Nat × Nat × Nat} {S : Shp} {I : IM} {L : LM} {pc : Nat} {rest : List Value} {Post : PostT} {a0 t0 : Value} {t : List Value} {x : Nat} (hd : decode (mcc M) pc = .ok (.astore_n 1, 1)) (hn : Nat.ble 2 (mnl M) = true) (h1 : cat1at (a0 :: t0 :: t) 1 = true) (k : X M G r S I L (pc + 1) (a0 :: .ref x :: t) rest Post) : X M G r S I L pc (a0 :: t0 :: t) (.ref x :: rest) Post := x_astore0n hd (show (1 : Nat) < _ by simp) (Nat.le_of_ble_eq_true hn) h1 k
theorem x_astore_1 {M : MI} {G : WG} {r : Nat × Nat × Nat} {S : Shp} {I : IM} {L : LM} {pc : Nat} {rest : List Value} {Post : PostT} {a0 t0 : Value} {t : List Value} {x : Nat} (hd : decode (mcc M) pc = .ok (.astore 1, 2)) (hn : Nat.ble 2 (mnl M) = true) (h1 : cat1at (a0 :: t0 :: t) 1 = true) (k : X M G r S I L (pc + 2) (a0 :: .ref x :: t) rest Post) : X M G r S I L pc (a0 :: t0 :: t) (.ref x :: rest) Post := x_astore0 hd (show (1 : Nat) < _ by simp) (Nat.le_of_ble_eq_true hn) h1 k
theorem x_iinc_1 {M : MI} {G : WG} {r : Nat × Nat × Nat} {S : Shp} {I : IM} {L : LM} {pc : Nat} {rest : List Value} {Post : PostT} {a0 : Value} {t : List Value} {n : Int} {x v : Int32} (hd : decode (mcc M) pc = .ok (.iinc 1 n, 3)) (hv : x + Int32.ofInt n = v) (hn : Nat.ble 2 (mnl M) = true) (h1 : cat1at (a0 :: .int x :: t) 1 = true) (k : X M G r S I L (pc + 3) (a0 :: .int v :: t) rest Post) : X M G r S I L pc (a0 :: .int x :: t) rest Post := x_iinc0 hd rfl hv (Nat.le_of_ble_eq_true hn) h1 k
theorem x_lstoren_1 {M : MI} {G : WG} {r : Nat × Nat × Nat} {S : Shp} {I : IM} {L : LM} {pc : Nat} {rest : List Value} {Post : PostT} {a0 t0 : Value} {t : List Value} {t1 : Value} {x : Int64} (hd : decode (mcc M) pc = .ok (.lstore_n 1, 1)) (hn : Nat.ble 3 (mnl M) = true) (h1 : cat1at (a0 :: t0 :: t1 :: t) 1 = true) (k : X M G r S I L (pc + 1) (a0 :: .long x :: .null :: t) rest Post) : X M G r S I L pc (a0 :: t0 :: t1 :: t) (.long x :: rest) Post := x_lstore0n hd (show (1 : Nat) + 1 < _ by simp) (Nat.le_of_ble_eq_true hn) h1 k
theorem x_lstore_1 {M : MI} {G : WG} {r : Nat × Nat × Nat} {S : Shp} {I : IM} {L : LM} {pc : Nat} {rest : List Value} {Post : PostT} {a0 t0 : Value} {t : List Value} {t1 : Value} {x : Int64} (hd : decode (mcc M) pc = .ok (.lstore 1, 2)) (hn : Nat.ble 3 (mnl M) = true) (h1 : cat1at (a0 :: t0 :: t1 :: t) 1 = true) (k : X M G r S I L (pc + 2) (a0 :: .long x :: .null :: t) rest Post) : X M G r S I L pc (a0 :: t0 :: t1 :: t) (.long x :: rest) Post := x_lstore0 hd (show (1 : Nat) + 1 < _ by simp) (Nat.le_of_ble_eq_true hn) h1 k
theorem x_istoren_2 {M : MI} {G : WG} {r : Nat × Nat × Nat} {S : Shp} {I : IM} {L : LM} {pc : Nat} {rest : List Value} {Post : PostT} {a0 a1 t0 : Value} {t : List Value} {x : Int32} (hd : decode (mcc M) pc = .ok (.istore_n 2, 1)) (hn : Nat.ble 3 (mnl M) = true) (h1 : cat1at (a0 :: a1 :: t0 :: t) 2 = true) (k : X M G r S I L (pc + 1) (a0 :: a1 :: .int x :: t) rest Post) : X M G r S I L pc (a0 :: a1 :: t0 :: t) (.int x :: rest) Post := x_istore0n hd (show (2 : Nat) < _ by simp) (Nat.le_of_ble_eq_true hn) h1 k
theorem x_istore_2 {M : MI} {G : WG} {r : Nat × Nat × Nat} {S : Shp} {I : IM} {L : LM} {pc : Nat} {rest : List Value} {Post : PostT} {a0 a1 t0 : Value} {t : List Value} {x : Int32} (hd : decode (mcc M) pc = .ok (.istore 2, 2)) (hn : Nat.ble 3 (mnl M) = true) (h1 : cat1at (a0 :: a1 :: t0 :: t) 2 = true) (k : X M G r S I L (pc + 2) (a0 :: a1 :: .int x :: t) rest Post) : X M G r S I L pc (a0 :: a1 :: t0 :: t) (.int x :: rest) Post := x_istore0 hd (show (2 : Nat) < _ by simp) (Nat.le_of_ble_eq_true hn) h1 k
theorem x_astoren_2 {M : MI} {G : WG} {r : Nat × Nat × Nat} {S : Shp} {I : IM} {L : LM} {pc : Nat} {rest : List Value} {Post : PostT} {a0 a1 t0 : Value} {t : List Value} {x : Nat} (hd : decode (mcc M) pc = .ok (.astore_n 2, 1)) (hn : Nat.ble 3 (mnl M) = true) (h1 : cat1at (a0 :: a1 :: t0 :: t) 2 = true) (k : X M G r S I L (pc + 1) (a0 :: a1 :: .ref x :: t) rest Post) : X M G r S I L pc (a0 :: a1 :: t0 :: t) (.ref x :: rest) Post := x_astore0n hd (show (2 : Nat) < _ by simp) (Nat.le_of_ble_eq_true hn) h1 k
theorem x_astore_2 {M : MI} {G : WG} {r : Nat × Nat × Nat} {S : Shp} {I : IM} {L : LM} {pc : Nat} {rest : List Value} {Post : PostT} {a0 a1 t0 : Value} {t : List Value} {x : Nat} (hd : decode (mcc M) pc = .ok (.astore 2, 2)) (hn : Nat.ble 3 (mnl M) = true) (h1 : cat1at (a0 :: a1 :: t0 :: t) 2 = true) (k : X M G r S I L (pc + 2) (a0 :: a1 :: .ref x :: t) rest Post) : X M G r S I L pc (a0 :: a1 :: t0 :: t) (.ref x :: rest) Post := x_astore0 hd (show (2 : Nat) < _ by simp) (Nat.le_of_ble_eq_true hn) h1 k
theorem x_iinc_2 {M : MI} {G : WG} {r : Nat × Nat × Nat} {S : Shp} {I : IM} {L : LM} {pc : Nat} {rest : List Value} {Post : PostT} {a0 a1 : Value} {t : List Value} {n : Int} {x v : Int32} (hd : decode (mcc M) pc = .ok (.iinc 2 n, 3)) (hv : x + Int32.ofInt n = v) (hn : Nat.ble 3 (mnl M) = true) (h1 : cat1at (a0 :: a1 :: .int x :: t) 2 = true) (k : X M G r S I L (pc + 3) (a0 :: a1 :: .int v :: t) rest Post) : X M G r S I L pc (a0 :: a1 :: .int x :: t) rest Post := x_iinc0 hd rfl hv (Nat.le_of_ble_eq_true hn) h1 k
theorem x_lstoren_2 {M : MI} {G : WG} {r : Nat × Nat × Nat} {S : Shp} {I : IM} {L : LM} {pc : Nat} {rest : List Value} {Post : PostT} {a0 a1 t0 : Value} {t : List Value} {t1 : Value} {x : Int64} (hd : decode (mcc M) pc = .ok (.lstore_n 2, 1)) (hn : Nat.ble 4 (mnl M) = true) (h1 : cat1at (a0 :: a1 :: t0 :: t1 :: t) 2 = true) (k : X M G r S I L (pc + 1) (a0 :: a1 :: .long x :: .null :: t) rest Post) : X M G r S I L pc (a0 :: a1 :: t0 :: t1 :: t) (.long x :: rest) Post := x_lstore0n hd (show (2 : Nat) + 1 < _ by simp) (Nat.le_of_ble_eq_true hn) h1 k
theorem x_lstore_2 {M : MI} {G : WG} {r : Nat × Nat × Nat} {S : Shp} {I : IM} {L : LM} {pc : Nat} {rest : List Value} {Post : PostT} {a0 a1 t0 : Value} {t : List Value} {t1 : Value} {x : Int64} (hd : decode (mcc M) pc = .ok (.lstore 2, 2)) (hn : Nat.ble 4 (mnl M) = true) (h1 : cat1at (a0 :: a1 :: t0 :: t1 :: t) 2 = true) (k : X M G r S I L (pc + 2) (a0 :: a1 :: .long x :: .null :: t) rest Post) : X M G r S I L pc (a0 :: a1 :: t0 :: t1 :: t) (.long x :: rest) Post := x_lstore0 hd (show (2 : Nat) + 1 < _ by simp) (Nat.le_of_ble_eq_true hn) h1 k
theorem x_istoren_3 {M : MI} {G : WG} {r : Nat × Nat × Nat} {S : Shp} {I : IM} {L : LM} {pc : Nat} {rest : List Value} {Post : PostT} {a0 a1 a2 t0 : Value} {t : List Value} {x : Int32} (hd : decode (mcc M) pc = .ok (.istore_n 3, 1)) (hn : Nat.ble 4 (mnl M) = true) (h1 : cat1at (a0 :: a1 :: a2 :: t0 :: t) 3 = true) (k : X M G r S I L (pc + 1) (a0 :: a1 :: a2 :: .int x :: t) rest Post) : X M G r S I L pc (a0 :: a1 :: a2 :: t0 :: t) (.int x :: rest) Post := x_istore0n hd (show (3 : Nat) < _ by simp) (Nat.le_of_ble_eq_true hn) h1 k
theorem x_istore_3 {M : MI} {G : WG} {r : Nat × Nat × Nat} {S : Shp} {I : IM} {L : LM} {pc : Nat} {rest : List Value} {Post : PostT} {a0 a1 a2 t0 : Value} {t : List Value} {x : Int32} (hd : decode (mcc M) pc = .ok (.istore 3, 2)) (hn : Nat.ble 4 (mnl M) = true) (h1 : cat1at (a0 :: a1 :: a2 :: t0 :: t) 3 = true) (k : X M G r S I L (pc + 2) (a0 :: a1 :: a2 :: .int x :: t) rest Post) : X M G r S I L pc (a0 :: a1 :: a2 :: t0 :: t) (.int x :: rest) Post := x_istore0 hd (show (3 : Nat) < _ by simp) (Nat.le_of_ble_eq_true hn) h1 k
theorem x_astoren_3 {M : MI} {G : WG} {r : Nat × Nat × Nat} {S : Shp} {I : IM} {L : LM} {pc : Nat} {rest : List Value} {Post : PostT} {a0 a1 a2 t0 : Value} {t : List Value} {x : Nat} (hd : decode (mcc M) pc = .ok (.astore_n 3, 1)) (hn : Nat.ble 4 (mnl M) = true) (h1 : cat1at (a0 :: a1 :: a2 :: t0 :: t) 3 = true) (k : X M G r S I L (pc + 1) (a0 :: a1 :: a2 :: .ref x :: t) rest Post) : X M G r S I L pc (a0 :: a1 :: a2 :: t0 :: t) (.ref x :: rest) Post := x_astore0n hd (show (3 : Nat) < _ by simp) (Nat.le_of_ble_eq_true hn) h1 k
theorem x_astore_3 {M : MI} {G : WG} {r : Nat × Nat × Nat} {S : Shp} {I : IM} {L : LM} {pc : Nat} {rest : List Value} {Post : PostT} {a0 a1 a2 t0 : Value} {t : List Value} {x : Nat} (hd : decode (mcc M) pc = .ok (.astore 3, 2)) (hn : Nat.ble 4 (mnl M) = true) (h1 : cat1at (a0 :: a1 :: a2 :: t0 :: t) 3 = true) (k : X M G r S I L (pc + 2) (a0 :: a1 :: a2 :: .ref x :: t) rest Post) : X M G r S I L pc (a0 :: a1 :: a2 :: t0 :: t) (.ref x :: rest) Post := x_astore0 hd (show (3 : Nat) < _ by simp) (Nat.le_of_ble_eq_true hn) h1 k
theorem x_iinc_3 {M : MI} {G : WG} {r : Nat × Nat × Nat} {S : Shp} {I : IM} {L : LM} {pc : Nat} {rest : List Value} {Post : PostT} {a0 a1 a2 : Value} {t : List Value} {n : Int} {x v : Int32} (hd : decode (mcc M) pc = .ok (.iinc 3 n, 3)) (hv : x + Int32.ofInt n = v) (hn : Nat.ble 4 (mnl M) = true) (h1 : cat1at (a0 :: a1 :: a2 :: .int x :: t) 3 = true) (k : X M G r S I L (pc + 3) (a0 :: a1 :: a2 :: .int v :: t) rest Post) : X M G r S I L pc (a0 :: a1 :: a2 :: .int x :: t) rest Post := x_iinc0 hd rfl hv (Nat.le_of_ble_eq_true hn) h1 k
theorem x_lstoren_3 {M : MI} {G : WG} {r : Nat × Nat × Nat} {S : Shp} {I : IM} {L : LM} {pc : Nat} {rest : List Value} {Post : PostT} {a0 a1 a2 t0 : Value} {t : List Value} {t1 : Value} {x : Int64} (hd : decode (mcc M) pc = .ok (.lstore_n 3, 1)) (hn : Nat.ble 5 (mnl M) = true) (h1 : cat1at (a0 :: a1 :: a2 :: t0 :: t1 :: t) 3 = true) (k : X M G r S I L (pc + 1) (a0 :: a1 :: a2 :: .long x :: .null :: t) rest Post) : X M G r S I L pc (a0 :: a1 :: a2 :: t0 :: t1 :: t) (.long x :: rest) Post := x_lstore0n hd (show (3 : Nat) + 1 < _ by simp) (Nat.le_of_ble_eq_true hn) h1 k
theorem x_lstore_3 {M : MI} {G : WG} {r : Nat × Nat × Nat} {S : Shp} {I : IM} {L : LM} {pc : Nat} {rest : List Value} {Post : PostT} {a0 a1 a2 t0 : Value} {t : List Value} {t1 : Value} {x : Int64} (hd : decode (mcc M) pc = .ok (.lstore 3, 2)) (hn : Nat.ble 5 (mnl M) = true) (h1 : cat1at (a0 :: a1 :: a2 :: t0 :: t1 :: t) 3 = true) (k : X M G r S I L (pc + 2) (a0 :: a1 :: a2 :: .long x :: .null :: t) rest Post) : X M G r S I L pc (a0 :: a1 :: a2 :: t0 :: t1 :: t) (.long x :: rest) Post := x_lstore0 hd (show (3 : Nat) + 1 < _ by simp) (Nat.le_of_ble_eq_true hn) h1 k
theorem x_istore_4 {M : MI} {G : WG} {r : Nat × Nat × Nat} {S : Shp} {I : IM} {L : LM} {pc : Nat} {rest : List Value} {Post : PostT} {a0 a1 a2 a3 t0 : Value} {t : List Value} {x : Int32} (hd : decode (mcc M) pc = .ok (.istore 4, 2)) (hn : Nat.ble 5 (mnl M) = true) (h1 : cat1at (a0 :: a1 :: a2 :: a3 :: t0 :: t) 4 = true) (k : X M G r S I L (pc + 2) (a0 :: a1 :: a2 :: a3 :: .int x :: t) rest Post) : X M G r S I L pc (a0 :: a1 :: a2 :: a3 :: t0 :: t) (.int x :: rest) Post := x_istore0 hd (show (4 : Nat) < _ by simp) (Nat.le_of_ble_eq_true hn) h1 k
theorem x_astore_4 {M : MI} {G : WG} {r : Nat × Nat × Nat} {S : Shp} {I : IM} {L : LM} {pc : Nat} {rest : List Value} {Post : PostT} {a0 a1 a2 a3 t0 : Value} {t : List Value} {x : Nat} (hd : decode (mcc M) pc = .ok (.astore 4, 2)) (hn : Nat.ble 5 (mnl M) = true) (h1 : cat1at (a0 :: a1 :: a2 :: a3 :: t0 :: t) 4 = true) (k : X M G r S I L (pc + 2) (a0 :: a1 :: a2 :: a3 :: .ref x :: t) rest Post) : X M G r S I L pc (a0 :: a1 :: a2 :: a3 :: t0 :: t) (.ref x :: rest) Post := x_astore0 hd (show (4 : Nat) < _ by simp) (Nat.le_of_ble_eq_true hn) h1 k
theorem x_iinc_4 {M : MI} {G : WG} {r : Nat × Nat × Nat} {S : Shp} {I : IM} {L : LM} {pc : Nat} {rest : List Value} {Post : PostT} {a0 a1 a2 a3 : Value} {t : List Value} {n : Int} {x v : Int32} (hd : decode (mcc M) pc = .ok (.iinc 4 n, 3)) (hv : x + Int32.ofInt n = v) (hn : Nat.ble 5 (mnl M) = true) (h1 : cat1at (a0 :: a1 :: a2 :: a3 :: .int x :: t) 4 = true) (k : X M G r S I L (pc + 3) (a0 :: a1 :: a2 :: a3 :: .int v :: t) rest Post) : X M G r S I L pc (a0 :: a1 :: a2 :: a3 :: .int x :: t) rest Post := x_iinc0 hd rfl hv (Nat.le_of_ble_eq_true hn) h1 k
theorem x_lstore_4 {M : MI} {G : WG} {r : Nat × Nat × Nat} {S : Shp} {I : IM} {L : LM} {pc : Nat} {rest : List Value} {Post : PostT} {a0 a1 a2 a3 t0 : Value} {t : List Value} {t1 : Value} {x : Int64} (hd : decode (mcc M) pc = .ok (.lstore 4, 2)) (hn : Nat.ble 6 (mnl M) = true) (h1 : cat1at (a0 :: a1 :: a2 :: a3 :: t0 :: t1 :: t) 4 = true) (k : X M G r S I L (pc + 2) (a0 :: a1 :: a2 :: a3 :: .long x :: .null :: t) rest Post) : X M G r S I L pc (a0 :: a1 :: a2 :: a3 :: t0 :: t1 :: t) (.long x :: rest) Post := x_lstore0 hd (show (4 : Nat) + 1 < _ by simp) (Nat.le_of_ble_eq_true hn) h1 k
theorem x_istore_5 {M : MI} {G : WG} {r : Nat × Nat × Nat} {S : Shp} {I : IM} {L : LM} {pc : Nat} {rest : List Value} {Post : PostT} {a0 a1 a2 a3 a4 t0 : Value} {t : List Value} {x : Int32} (hd : decode (mcc M) pc = .ok (.istore 5, 2)) (hn : Nat.ble 6 (mnl M) = true) (h1 : cat1at (a0 :: a1 :: a2 :: a3 :: a4 :: t0 :: t) 5 = true) (k : X M G r S I L (pc + 2) (a0 :: a1 :: a2 :: a3 :: a4 :: .int x :: t) rest Post) : X M G r S I L pc (a0 :: a1 :: a2 :: a3 :: a4 :: t0 :: t) (.int x :: rest) Post := x_istore0 hd (show (5 : Nat) < _ by simp) (Nat.le_of_ble_eq_true hn) h1 k
theorem x_astore_5 {M : MI} {G : WG} {r : Nat × Nat × Nat} {S : Shp} {I : IM} {L : LM} {pc : Nat} {rest : List Value} {Post : PostT} {a0 a1 a2 a3 a4 t0 : Value} {t : List Value} {x : Nat} (hd : decode (mcc M) pc = .ok (.astore 5, 2)) (hn : Nat.ble 6 (mnl M) = true) (h1 : cat1at (a0 :: a1 :: a2 :: a3 :: a4 :: t0 :: t) 5 = true) (k : X M G r S I L (pc + 2) (a0 :: a1 :: a2 :: a3 :: a4 :: .ref x :: t) rest Post) : X M G r S I L pc (a0 :: a1 :: a2 :: a3 :: a4 :: t0 :: t) (.ref x :: rest) Post := x_astore0 hd (show (5 : Nat) < _ by simp) (Nat.le_of_ble_eq_true hn) h1 k
theorem x_iinc_5 {M : MI} {G : WG} {r : Nat × Nat × Nat} {S : Shp} {I : IM} {L : LM} {pc : Nat} {rest : List Value} {Post : PostT} {a0 a1 a2 a3 a4 : Value} {t : List Value} {n : Int} {x v : Int32} (hd : decode (mcc M) pc = .ok (.iinc 5 n, 3)) (hv : x + Int32.ofInt n = v) (hn : Nat.ble 6 (mnl M) = true) (h1 : cat1at (a0 :: a1 :: a2 :: a3 :: a4 :: .int x :: t) 5 = true) (k : X M G r S I L (pc + 3) (a0 :: a1 :: a2 :: a3 :: a4 :: .int v :: t) rest Post) : X M G r S I L pc (a0 :: a1 :: a2 :: a3 :: a4 :: .int x :: t) rest Post := x_iinc0 hd rfl hv (Nat.le_of_ble_eq_true hn) h1 k
theorem x_lstore_5 {M : MI} {G : WG} {r : Nat × Nat × Nat} {S : Shp} {I : IM} {L : LM} {pc : Nat} {rest : List Value} {Post : PostT} {a0 a1 a2 a3 a4 t0 : Value} {t : List Value} {t1 : Value} {x : Int64} (hd : decode (mcc M) pc = .ok (.lstore 5, 2)) (hn : Nat.ble 7 (mnl M) = true) (h1 : cat1at (a0 :: a1 :: a2 :: a3 :: a4 :: t0 :: t1 :: t) 5 = true) (k : X M G r S I L (pc + 2) (a0 :: a1 :: a2 :: a3 :: a4 :: .long x :: .null :: t) rest Post) : X M G r S I L pc (a0 :: a1 :: a2 :: a3 :: a4 :: t0 :: t1 :: t) (.long x :: rest) Post := x_lstore0 hd (show (5 : Nat) + 1 < _ by simp) (Nat.le_of_ble_eq_true hn) h1 k
theorem x_istore_6 {M : MI} {G : WG} {r : Nat × Nat × Nat} {S : Shp} {I : IM} {L : LM} {pc : Nat} {rest : List Value} {Post : PostT} {a0 a1 a2 a3 a4 a5 t0 : Value} {t : List Value} {x : Int32} (hd : decode (mcc M) pc = .ok (.istore 6, 2)) (hn : Nat.ble 7 (mnl M) = true) (h1 : cat1at (a0 :: a1 :: a2 :: a3 :: a4 :: a5 :: t0 :: t) 6 = true) (k : X M G r S I L (pc + 2) (a0 :: a1 :: a2 :: a3 :: a4 :: a5 :: .int x :: t) rest Post) : X M G r S I L pc (a0 :: a1 :: a2 :: a3 :: a4 :: a5 :: t0 :: t) (.int x :: rest) Post := x_istore0 hd (show (6 : Nat) < _ by simp) (Nat.le_of_ble_eq_true hn) h1 k
theorem x_astore_6 {M : MI} {G : WG} {r : Nat × Nat × Nat} {S : Shp} {I : IM} {L : LM} {pc : Nat} {rest : List Value} {Post : PostT} {a0 a1 a2 a3 a4 a5 t0 : Value} {t : List Value} {x : Nat} (hd : decode (mcc M) pc = .ok (.astore 6, 2)) (hn : Nat.ble 7 (mnl M) = true) (h1 : cat1at (a0 :: a1 :: a2 :: a3 :: a4 :: a5 :: t0 :: t) 6 = true) (k : X M G r S I L (pc + 2) (a0 :: a1 :: a2 :: a3 :: a4 :: a5 :: .ref x :: t) rest Post) : X M G r S I L pc (a0 :: a1 :: a2 :: a3 :: a4 :: a5 :: t0 :: t) (.ref x :: rest) Post := x_astore0 hd (show (6 : Nat) < _ by simp) (Nat.le_of_ble_eq_true hn) h1 k
theorem x_iinc_6 {M : MI} {G : WG} {r : Nat × Nat × Nat} {S : Shp} {I : IM} {L : LM} {pc : Nat} {rest : List Value} {Post : PostT} {a0 a1 a2 a3 a4 a5 : Value} {t : List Value} {n : Int} {x v : Int32} (hd : decode (mcc M) pc = .ok (.iinc 6 n, 3)) (hv : x + Int32.ofInt n = v) (hn : Nat.ble 7 (mnl M) = true) (h1 : cat1at (a0 :: a1 :: a2 :: a3 :: a4 :: a5 :: .int x :: t) 6 = true) (k : X M G r S I L (pc + 3) (a0 :: a1 :: a2 :: a3 :: a4 :: a5 :: .int v :: t) rest Post) : X M G r S I L pc (a0 :: a1 :: a2 :: a3 :: a4 :: a5 :: .int x :: t) rest Post := x_iinc0 hd rfl hv (Nat.le_of_ble_eq_true hn) h1 k
theorem x_lstore_6 {M : MI} {G : WG} {r : Nat × Nat × Nat} {S : Shp} {I : IM} {L : LM} {pc : Nat} {rest : List Value} {Post : PostT} {a0 a1 a2 a3 a4 a5 t0 : Value} {t : List Value} {t1 : Value} {x : Int64} (hd : decode (mcc M) pc = .ok (.lstore 6, 2)) (hn : Nat.ble 8 (mnl M) = true) (h1 : cat1at (a0 :: a1 :: a2 :: a3 :: a4 :: a5 :: t0 :: t1 :: t) 6 = true) (k : X M G r S I L (pc + 2) (a0 :: a1 :: a2 :: a3 :: a4 :: a5 :: .long x :: .null :: t) rest Post) : X M G r S I L pc (a0 :: a1 :: a2 :: a3 :: a4 :: a5 :: t0 :: t1 :: t) (.long x :: rest) Post := x_lstore0 hd (show (6 : Nat) + 1 < _ by simp) (Nat.le_of_ble_eq_true hn) h1 k
theorem x_istore_7 {M : MI} {G : WG} {r : Nat × Nat × Nat} {S : Shp} {I : IM} {L : LM} {pc : Nat} {rest : List Value} {Post : PostT} {a0 a1 a2 a3 a4 a5 a6 t0 : Value} {t : List Value} {x : Int32} (hd : decode (mcc M) pc = .ok (.istore 7, 2)) (hn : Nat.ble 8 (mnl M) = true) (h1 : cat1at (a0 :: a1 :: a2 :: a3 :: a4 :: a5 :: a6 :: t0 :: t) 7 = true) (k : X M G r S I L (pc + 2) (a0 :: a1 :: a2 :: a3 :: a4 :: a5 :: a6 :: .int x :: t) rest Post) : X M G r S I L pc (a0 :: a1 :: a2 :: a3 :: a4 :: a5 :: a6 :: t0 :: t) (.int x :: rest) Post := x_istore0 hd (show (7 : Nat) < _ by simp) (Nat.le_of_ble_eq_true hn) h1 k
theorem x_astore_7 {M : MI} {G : WG} {r : Nat × Nat × Nat} {S : Shp} {I : IM} {L : LM} {pc : Nat} {rest : List Value} {Post : PostT} {a0 a1 a2 a3 a4 a5 a6 t0 : Value} {t : List Value} {x : Nat} (hd : decode (mcc M) pc = .ok (.astore 7, 2)) (hn : Nat.ble 8 (mnl M) = true) (h1 : cat1at (a0 :: a1 :: a2 :: a3 :: a4 :: a5 :: a6 :: t0 :: t) 7 = true) (k : X M G r S I L (pc + 2) (a0 :: a1 :: a2 :: a3 :: a4 :: a5 :: a6 :: .ref x :: t) rest Post) : X M G r S I L pc (a0 :: a1 :: a2 :: a3 :: a4 :: a5 :: a6 :: t0 :: t) (.ref x :: rest) Post := x_astore0 hd (show (7 : Nat) < _ by simp) (Nat.le_of_ble_eq_true hn) h1 k
theorem x_iinc_7 {M : MI} {G : WG} {r : Nat × Nat × Nat} {S : Shp} {I : IM} {L : LM} {pc : Nat} {rest : List Value} {Post : PostT} {a0 a1 a2 a3 a4 a5 a6 : Value} {t : List Value} {n : Int} {x v : Int32} (hd : decode (mcc M) pc = .ok (.iinc 7 n, 3)) (hv : x + Int32.ofInt n = v) (hn : Nat.ble 8 (mnl M) = true) (h1 : cat1at (a0 :: a1 :: a2 :: a3 :: a4 :: a5 :: a6 :: .int x :: t) 7 = true) (k : X M G r S I L (pc + 3) (a0 :: a1 :: a2 :: a3 :: a4 :: a5 :: a6 :: .int v :: t) rest Post) : X M G r S I L pc (a0 :: a1 :: a2 :: a3 :: a4 :: a5 :: a6 :: .int x :: t) rest Post := x_iinc0 hd rfl hv (Nat.le_of_ble_eq_true hn) h1 k
theorem x_lstore_7 {M : MI} {G : WG} {r : Nat × Nat × Nat} {S : Shp} {I : IM} {L : LM} {pc : Nat} {rest : List Value} {Post : PostT} {a0 a1 a2 a3 a4 a5 a6 t0 : Value} {t : List Value} {t1 : Value} {x : Int64} (hd : decode (mcc M) pc = .ok (.lstore 7, 2)) (hn : Nat.ble 9 (mnl M) = true) (h1 : cat1at (a0 :: a1 :: a2 :: a3 :: a4 :: a5 :: a6 :: t0 :: t1 :: t) 7 = true) (k : X M G r S I L (pc + 2) (a0 :: a1 :: a2 :: a3 :: a4 :: a5 :: a6 :: .long x :: .null :: t) rest Post) : X M G r S I L pc (a0 :: a1 :: a2 :: a3 :: a4 :: a5 :: a6 :: t0 :: t1 :: t) (.long x :: rest) Post := x_lstore0 hd (show (7 : Nat) + 1 < _ by simp) (Nat.le_of_ble_eq_true hn) h1 k
theorem x_istore_8 {M : MI} {G : WG} {r : Nat × Nat × Nat} {S : Shp} {I : IM} {L : LM} {pc : Nat} {rest : List Value} {Post : PostT} {a0 a1 a2 a3 a4 a5 a6 a7 t0 : Value} {t : List Value} {x : Int32} (hd : decode (mcc M) pc = .ok (.istore 8, 2)) (hn : Nat.ble 9 (mnl M) = true) (h1 : cat1at (a0 :: a1 :: a2 :: a3 :: a4 :: a5 :: a6 :: a7 :: t0 :: t) 8 = true) (k : X M G r S I L (pc + 2) (a0 :: a1 :: a2 :: a3 :: a4 :: a5 :: a6 :: a7 :: .int x :: t) rest Post) : X M G r S I L pc (a0 :: a1 :: a2 :: a3 :: a4 :: a5 :: a6 :: a7 :: t0 :: t) (.int x :: rest) Post := x_istore0 hd (show (8 : Nat) < _ by simp) (Nat.le_of_ble_eq_true hn) h1 k
theorem x_astore_8 {M : MI} {G : WG} {r : Nat × Nat × Nat} {S : Shp} {I : IM} {L : LM} {pc : Nat} {rest : List Value} {Post : PostT} {a0 a1 a2 a3 a4 a5 a6 a7 t0 : Value} {t : List Value} {x : Nat} (hd : decode (mcc M) pc = .ok (.astore 8, 2)) (hn : Nat.ble 9 (mnl M) = true) (h1 : cat1at (a0 :: a1 :: a2 :: a3 :: a4 :: a5 :: a6 :: a7 :: t0 :: t) 8 = true) (k : X M G r S I L (pc + 2) (a0 :: a1 :: a2 :: a3 :: a4 :: a5 :: a6 :: a7 :: .ref x :: t) rest Post) : X M G r S I L pc (a0 :: a1 :: a2 :: a3 :: a4 :: a5 :: a6 :: a7 :: t0 :: t) (.ref x :: rest) Post := x_astore0 hd (show (8 : Nat) < _ by simp) (Nat.le_of_ble_eq_true hn) h1 k
theorem x_iinc_8 {M : MI} {G : WG} {r : Nat × Nat × Nat} {S : Shp} {I : IM} {L : LM} {pc : Nat} {rest : List Value} {Post : PostT} {a0 a1 a2 a3 a4 a5 a6 a7 : Value} {t : List Value} {n : Int} {x v : Int32} (hd : decode (mcc M) pc = .ok (.iinc 8 n, 3)) (hv : x + Int32.ofInt n = v) (hn : Nat.ble 9 (mnl M) = true) (h1 : cat1at (a0 :: a1 :: a2 :: a3 :: a4 :: a5 :: a6 :: a7 :: .int x :: t) 8 = true) (k : X M G r S I L (pc + 3) (a0 :: a1 :: a2 :: a3 :: a4 :: a5 :: a6 :: a7 :: .int v :: t) rest Post) : X M G r S I L pc (a0 :: a1 :: a2 :: a3 :: a4 :: a5 :: a6 :: a7 :: .int x :: t) rest Post := x_iinc0 hd rfl hv (Nat.le_of_ble_eq_true hn) h1 k
theorem x_lstore_8 {M : MI} {G : WG} {r : Nat × Nat × Nat} {S : Shp} {I : IM} {L : LM} {pc : Nat} {rest : List Value} {Post : PostT} {a0 a1 a2 a3 a4 a5 a6 a7 t0 : Value} {t : List Value} {t1 : Value} {x : Int64} (hd : decode (mcc M) pc = .ok (.lstore 8, 2)) (hn : Nat.ble 10 (mnl M) = true) (h1 : cat1at (a0 :: a1 :: a2 :: a3 :: a4 :: a5 :: a6 :: a7 :: t0 :: t1 :: t) 8 = true) (k : X M G r S I L (pc + 2) (a0 :: a1 :: a2 :: a3 :: a4 :: a5 :: a6 :: a7 :: .long x :: .null :: t) rest Post) : X M G r S I L pc (a0 :: a1 :: a2 :: a3 :: a4 :: a5 :: a6 :: a7 :: t0 :: t1 :: t) (.long x :: rest) Post := x_lstore0 hd (show (8 : Nat) + 1 < _ by simp) (Nat.le_of_ble_eq_true hn) h1 k
theorem x_istore_9 {M : MI} {G : WG} {r : Nat × Nat × Nat} {S : Shp} {I : IM} {L : LM} {pc : Nat} {rest : List Value} {Post : PostT} {a0 a1 a2 a3 a4 a5 a6 a7 a8 t0 : Value} {t : List Value} {x : Int32} (hd : decode (mcc M) pc = .ok (.istore 9, 2)) (hn : Nat.ble 10 (mnl M) = true) (h1 : cat1at (a0 :: a1 :: a2 :: a3 :: a4 :: a5 :: a6 :: a7 :: a8 :: t0 :: t) 9 = true) (k : X M G r S I L (pc + 2) (a0 :: a1 :: a2 :: a3 :: a4 :: a5 :: a6 :: a7 :: a8 :: .int x :: t) rest Post) : X M G r S I L pc (a0 :: a1 :: a2 :: a3 :: a4 :: a5 :: a6 :: a7 :: a8 :: t0 :: t) (.int x :: rest) Post := x_istore0 hd (show (9 : Nat) < _ by simp) (Nat.le_of_ble_eq_true hn) h1 k
theorem x_astore_9 {M : MI} {G : WG} {r : Nat × Nat × Nat} {S : Shp} {I : IM} {L : LM} {pc : Nat} {rest : List Value} {Post : PostT} {a0 a1 a2 a3 a4 a5 a6 a7 a8 t0 : Value} {t : List Value} {x : Nat} (hd : decode (mcc M) pc = .ok (.astore 9, 2)) (hn : Nat.ble 10 (mnl M) = true) (h1 : cat1at (a0 :: a1 :: a2 :: a3 :: a4 :: a5 :: a6 :: a7 :: a8 :: t0 :: t) 9 = true) (k : X M G r S I L (pc + 2) (a0 :: a1 :: a2 :: a3 :: a4 :: a5 :: a6 :: a7 :: a8 :: .ref x :: t) rest Post) : X M G r S I L pc (a0 :: a1 :: a2 :: a3 :: a4 :: a5 :: a6 :: a7 :: a8 :: t0 :: t) (.ref x :: rest) Post := x_astore0 hd (show (9 : Nat) < _ by simp) (Nat.le_of_ble_eq_true hn) h1 k
theorem x_iinc_9 {M : MI} {G : WG} {r : Nat × Nat × Nat} {S : Shp} {I : IM} {L : LM} {pc : Nat} {rest : List Value} {Post : PostT} {a0 a1 a2 a3 a4 a5 a6 a7 a8 : Value} {t : List Value} {n : Int} {x v : Int32} (hd : decode (mcc M) pc = .ok (.iinc 9 n, 3)) (hv : x + Int32.ofInt n = v) (hn : Nat.ble 10 (mnl M) = true) (h1 : cat1at (a0 :: a1 :: a2 :: a3 :: a4 :: a5 :: a6 :: a7 :: a8 :: .int x :: t) 9 = true) (k : X M G r S I L (pc + 3) (a0 :: a1 :: a2 :: a3 :: a4 :: a5 :: a6 :: a7 :: a8 :: .int v :: t) rest Post) : X M G r S I L pc (a0 :: a1 :: a2 :: a3 :: a4 :: a5 :: a6 :: a7 :: a8 :: .int x :: t) rest Post := x_iinc0 hd rfl hv (Nat.le_of_ble_eq_true hn) h1 k
theorem x_lstore_9 {M : MI} {G : WG} {r : Nat × Nat × Nat} {S : Shp} {I : IM} {L : LM} {pc : Nat} {rest : List Value} {Post : PostT} {a0 a1 a2 a3 a4 a5 a6 a7 a8 t0 : Value} {t : List Value} {t1 : Value} {x : Int64} (hd : decode (mcc M) pc = .ok (.lstore 9, 2)) (hn : Nat.ble 11 (mnl M) = true) (h1 : cat1at (a0 :: a1 :: a2 :: a3 :: a4 :: a5 :: a6 :: a7 :: a8 :: t0 :: t1 :: t) 9 = true) (k : X M G r S I L (pc + 2) (a0 :: a1 :: a2 :: a3 :: a4 :: a5 :: a6 :: a7 :: a8 :: .long x :: .null :: t) rest Post) : X M G r S I L pc (a0 :: a1 :: a2 :: a3 :: a4 :: a5 :: a6 :: a7 :: a8 :: t0 :: t1 :: t) (.long x :: rest) Post := x_lstore0 hd (show (9 : Nat) + 1 < _ by simp) (Nat.le_of_ble_eq_true hn) h1 k
theorem x_istore_10 {M : MI} {G : WG} {r : Nat × Nat × Nat} {S : Shp} {I : IM} {L : LM} {pc : Nat} {rest : List Value} {Post : PostT} {a0 a1 a2 a3 a4 a5 a6 a7 a8 a9 t0 : Value} {t : List Value} {x : Int32} (hd : decode (mcc M) pc = .ok (.istore 10, 2)) (hn : Nat.ble 11 (mnl M) = true) (h1 : cat1at (a0 :: a1 :: a2 :: a3 :: a4 :: a5 :: a6 :: a7 :: a8 :: a9 :: t0 :: t) 10 = true) (k : X M G r S I L (pc + 2) (a0 :: a1 :: a2 :: a3 :: a4 :: a5 :: a6 :: a7 :: a8 :: a9 :: .int x :: t) rest Post) : X M G r S I L pc (a0 :: a1 :: a2 :: a3 :: a4 :: a5 :: a6 :: a7 :: a8 :: a9 :: t0 :: t) (.int x :: rest) Post := x_istore0 hd (show (10 : Nat) < _ by simp) (Nat.le_of_ble_eq_true hn) h1 k
theorem x_astore_10 {M : MI} {G : WG} {r : Nat × Nat × Nat} {S : Shp} {I : IM} {L : LM} {pc : Nat} {rest : List Value} {Post : PostT} {a0 a1 a2 a3 a4 a5 a6 a7 a8 a9 t0 : Value} {t : List Value} {x : Nat} (hd : decode (mcc M) pc = .ok (.astore 10, 2)) (hn : Nat.ble 11 (mnl M) = true) (h1 : cat1at (a0 :: a1 :: a2 :: a3 :: a4 :: a5 :: a6 :: a7 :: a8 :: a9 :: t0 :: t) 10 = true) (k : X M G r S I L (pc + 2) (a0 :: a1 :: a2 :: a3 :: a4 :: a5 :: a6 :: a7 :: a8 :: a9 :: .ref x :: t) rest Post) : X M G r S I L pc (a0 :: a1 :: a2 :: a3 :: a4 :: a5 :: a6 :: a7 :: a8 :: a9 :: t0 :: t) (.ref x :: rest) Post := x_astore0 hd (show (10 : Nat) < _ by simp) (Nat.le_of_ble_eq_true hn) h1 k
theorem x_iinc_10 {M : MI} {G : WG} {r : Nat × Nat × Nat} {S : Shp} {I : IM} {L : LM} {pc : Nat} {rest : List Value} {Post : PostT} {a0 a1 a2 a3 a4 a5 a6 a7 a8 a9 : Value} {t : List Value} {n : Int} {x v : Int32} (hd : decode (mcc M) pc = .ok (.iinc 10 n, 3)) (hv : x + Int32.ofInt n = v) (hn : Nat.ble 11 (mnl M) = true) (h1 : cat1at (a0 :: a1 :: a2 :: a3 :: a4 :: a5 :: a6 :: a7 :: a8 :: a9 :: .int x :: t) 10 = true) (k : X M G r S I L (pc + 3) (a0 :: a1 :: a2 :: a3 :: a4 :: a5 :: a6 :: a7 :: a8 :: a9 :: .int v :: t) rest Post) : X M G r S I L pc (a0 :: a1 :: a2 :: a3 :: a4 :: a5 :: a6 :: a7 :: a8 :: a9 :: .int x :: t) rest Post := x_iinc0 hd rfl hv (Nat.le_of_ble_eq_true hn) h1 k
theorem x_lstore_10 {M : MI} {G : WG} {r : Nat × Nat × Nat} {S : Shp} {I : IM} {L : LM} {pc : Nat} {rest : List Value} {Post : PostT} {a0 a1 a2 a3 a4 a5 a6 a7 a8 a9 t0 : Value} {t : List Value} {t1 : Value} {x : Int64} (hd : decode (mcc M) pc = .ok (.lstore 10, 2)) (hn : Nat.ble 12 (mnl M) = true) (h1 : cat1at (a0 :: a1 :: a2 :: a3 :: a4 :: a5 :: a6 :: a7 :: a8 :: a9 :: t0 :: t1 :: t) 10 = true) (k : X M G r S I L (pc + 2) (a0 :: a1 :: a2 :: a3 :: a4 :: a5 :: a6 :: a7 :: a8 :: a9 :: .long x :: .null :: t) rest Post) : X M G r S I L pc (a0 :: a1 :: a2 :: a3 :: a4 :: a5 :: a6 :: a7 :: a8 :: a9 :: t0 :: t1 :: t) (.long x :: rest) Post := x_lstore0 hd (show (10 : Nat) + 1 < _ by simp) (Nat.le_of_ble_eq_true hn) h1 k
theorem x_istore_11 {M : MI} {G : WG} {r : Nat × Nat × Nat} {S : Shp} {I : IM} {L : LM} {pc : Nat} {rest : List Value} {Post : PostT} {a0 a1 a2 a3 a4 a5 a6 a7 a8 a9 a10 t0 : Value} {t : List Value} {x : Int32} (hd : decode (mcc M) pc = .ok (.istore 11, 2)) (hn : Nat.ble 12 (mnl M) = true) (h1 : cat1at (a0 :: a1 :: a2 :: a3 :: a4 :: a5 :: a6 :: a7 :: a8 :: a9 :: a10 :: t0 :: t) 11 = true) (k : X M G r S I L (pc + 2) (a0 :: a1 :: a2 :: a3 :: a4 :: a5 :: a6 :: a7 :: a8 :: a9 :: a10 :: .int x :: t) rest Post) : X M G r S I L pc (a0 :: a1 :: a2 :: a3 :: a4 :: a5 :: a6 :: a7 :: a8 :: a9 :: a10 :: t0 :: t) (.int x :: rest) Post := x_istore0 hd (show (11 : Nat) < _ by simp) (Nat.le_of_ble_eq_true hn) h1 k
theorem x_astore_11 {M : MI} {G : WG} {r : Nat × Nat × Nat} {S : Shp} {I : IM} {L : LM} {pc : Nat} {rest : List Value} {Post : PostT} {a0 a1 a2 a3 a4 a5 a6 a7 a8 a9 a10 t0 : Value} {t : List Value} {x : Nat} (hd : decode (mcc M) pc = .ok (.astore 11, 2)) (hn : Nat.ble 12 (mnl M) = true) (h1 : cat1at (a0 :: a1 :: a2 :: a3 :: a4 :: a5 :: a6 :: a7 :: a8 :: a9 :: a10 :: t0 :: t) 11 = true) (k : X M G r S I L (pc + 2) (a0 :: a1 :: a2 :: a3 :: a4 :: a5 :: a6 :: a7 :: a8 :: a9 :: a10 :: .ref x :: t) rest Post) : X M G r S I L pc (a0 :: a1 :: a2 :: a3 :: a4 :: a5 :: a6 :: a7 :: a8 :: a9 :: a10 :: t0 :: t) (.ref x :: rest) Post := x_astore0 hd (show (11 : Nat) < _ by simp) (Nat.le_of_ble_eq_true hn) h1 k
theorem x_iinc_11 {M : MI} {G : WG} {r : Nat × Nat × Nat} {S : Shp} {I : IM} {L : LM} {pc : Nat} {rest : List Value} {Post : PostT} {a0 a1 a2 a3 a4 a5 a6 a7 a8 a9 a10 : Value} {t : List Value} {n : Int} {x v : Int32} (hd : decode (mcc M) pc = .ok (.iinc 11 n, 3)) (hv : x + Int32.ofInt n = v) (hn : Nat.ble 12 (mnl M) = true) (h1 : cat1at (a0 :: a1 :: a2 :: a3 :: a4 :: a5 :: a6 :: a7 :: a8 :: a9 :: a10 :: .int x :: t) 11 = true) (k : X M G r S I L (pc + 3) (a0 :: a1 :: a2 :: a3 :: a4 :: a5 :: a6 :: a7 :: a8 :: a9 :: a10 :: .int v :: t) rest Post) : X M G r S I L pc (a0 :: a1 :: a2 :: a3 :: a4 :: a5 :: a6 :: a7 :: a8 :: a9 :: a10 :: .int x :: t) rest Post := x_iinc0 hd rfl hv (Nat.le_of_ble_eq_true hn) h1 k
theorem x_lstore_11 {M : MI} {G : WG} {r : Nat × Nat × Nat} {S : Shp} {I : IM} {L : LM} {pc : Nat} {rest : List Value} {Post : PostT} {a0 a1 a2 a3 a4 a5 a6 a7 a8 a9 a10 t0 : Value} {t : List Value} {t1 : Value} {x : Int64} (hd : decode (mcc M) pc = .ok (.lstore 11, 2)) (hn : Nat.ble 13 (mnl M) = true) (h1 : cat1at (a0 :: a1 :: a2 :: a3 :: a4 :: a5 :: a6 :: a7 :: a8 :: a9 :: a10 :: t0 :: t1 :: t) 11 = true) (k : X M G r S I L (pc + 2) (a0 :: a1 :: a2 :: a3 :: a4 :: a5 :: a6 :: a7 :: a8 :: a9 :: a10 :: .long x :: .null :: t) rest Post) : X M G r S I L pc (a0 :: a1 :: a2 :: a3 :: a4 :: a5 :: a6 :: a7 :: a8 :: a9 :: a10 :: t0 :: t1 :: t) (.long x :: rest) Post := x_lstore0 hd (show (11 : Nat) + 1 < _ by simp) (Nat.le_of_ble_eq_true hn) h1 k
theorem x_istore_12 {M : MI} {G : WG} {r : Nat × Nat × Nat} {S : Shp} {I : IM} {L : LM} {pc : Nat} {rest : List Value} {Post : PostT} {a0 a1 a2 a3 a4 a5 a6 a7 a8 a9 a10 a11 t0 : Value} {t : List Value} {x : Int32} (hd : decode (mcc M) pc = .ok (.istore 12, 2)) (hn : Nat.ble 13 (mnl M) = true) (h1 : cat1at (a0 :: a1 :: a2 :: a3 :: a4 :: a5 :: a6 :: a7 :: a8 :: a9 :: a10 :: a11 :: t0 :: t) 12 = true) (k : X M G r S I L (pc + 2) (a0 :: a1 :: a2 :: a3 :: a4 :: a5 :: a6 :: a7 :: a8 :: a9 :: a10 :: a11 :: .int x :: t) rest Post) : X M G r S I L pc (a0 :: a1 :: a2 :: a3 :: a4 :: a5 :: a6 :: a7 :: a8 :: a9 :: a10 :: a11 :: t0 :: t) (.int x :: rest) Post := x_istore0 hd (show (12 : Nat) < _ by simp) (Nat.le_of_ble_eq_true hn) h1 k
theorem x_astore_12 {M : MI} {G : WG} {r : Nat × Nat × Nat} {S : Shp} {I : IM} {L : LM} {pc : Nat} {rest : List Value} {Post : PostT} {a0 a1 a2 a3 a4 a5 a6 a7 a8 a9 a10 a11 t0 : Value} {t : List Value} {x : Nat} (hd : decode (mcc M) pc = .ok (.astore 12, 2)) (hn : Nat.ble 13 (mnl M) = true) (h1 : cat1at (a0 :: a1 :: a2 :: a3 :: a4 :: a5 :: a6 :: a7 :: a8 :: a9 :: a10 :: a11 :: t0 :: t) 12 = true) (k : X M G r S I L (pc + 2) (a0 :: a1 :: a2 :: a3 :: a4 :: a5 :: a6 :: a7 :: a8 :: a9 :: a10 :: a11 :: .ref x :: t) rest Post) : X M G r S I L pc (a0 :: a1 :: a2 :: a3 :: a4 :: a5 :: a6 :: a7 :: a8 :: a9 :: a10 :: a11 :: t0 :: t) (.ref x :: rest) Post := x_astore0 hd (show (12 : Nat) < _ by simp) (Nat.le_of_ble_eq_true hn) h1 k
theorem x_iinc_12 {M : MI} {G : WG} {r : Nat × Nat × Nat} {S : Shp} {I : IM} {L : LM} {pc : Nat} {rest : List Value} {Post : PostT} {a0 a1 a2 a3 a4 a5 a6 a7 a8 a9 a10 a11 : Value} {t : List Value} {n : Int} {x v : Int32} (hd : decode (mcc M) pc = .ok (.iinc 12 n, 3)) (hv : x + Int32.ofInt n = v) (hn : Nat.ble 13 (mnl M) = true) (h1 : cat1at (a0 :: a1 :: a2 :: a3 :: a4 :: a5 :: a6 :: a7 :: a8 :: a9 :: a10 :: a11 :: .int x :: t) 12 = true) (k : X M G r S I L (pc + 3) (a0 :: a1 :: a2 :: a3 :: a4 :: a5 :: a6 :: a7 :: a8 :: a9 :: a10 :: a11 :: .int v :: t) rest Post) : X M G r S I L pc (a0 :: a1 :: a2 :: a3 :: a4 :: a5 :: a6 :: a7 :: a8 :: a9 :: a10 :: a11 :: .int x :: t) rest Post := x_iinc0 hd rfl hv (Nat.le_of_ble_eq_true hn) h1 k
theorem x_lstore_12 {M : MI} {G : WG} {r : Nat × Nat × Nat} {S : Shp} {I : IM} {L : LM} {pc : Nat} {rest : List Value} {Post : PostT} {a0 a1 a2 a3 a4 a5 a6 a7 a8 a9 a10 a11 t0 : Value} {t : List Value} {t1 : Value} {x : Int64} (hd : decode (mcc M) pc = .ok (.lstore 12, 2)) (hn : Nat.ble 14 (mnl M) = true) (h1 : cat1at (a0 :: a1 :: a2 :: a3 :: a4 :: a5 :: a6 :: a7 :: a8 :: a9 :: a10 :: a11 :: t0 :: t1 :: t) 12 = true) (k : X M G r S I L (pc + 2) (a0 :: a1 :: a2 :: a3 :: a4 :: a5 :: a6 :: a7 :: a8 :: a9 :: a10 :: a11 :: .long x :: .null :: t) rest Post) : X M G r S I L pc (a0 :: a1 :: a2 :: a3 :: a4 :: a5 :: a6 :: a7 :: a8 :: a9 :: a10 :: a11 :: t0 :: t1 :: t) (.long x :: rest) Post := x_lstore0 hd (show (12 : Nat) + 1 < _ by simp) (Nat.le_of_ble_eq_true hn) h1 k
theorem x_istore_13 {M : MI} {G : WG} {r : Nat × Nat × Nat} {S : Shp} {I : IM} {L : LM} {pc : Nat} {rest : List Value} {Post : PostT} {a0 a1 a2 a3 a4 a5 a6 a7 a8 a9 a10 a11 a12 t0 : Value} {t : List Value} {x : Int32} (hd : decode (mcc M) pc = .ok (.istore 13, 2)) (hn : Nat.ble 14 (mnl M) = true) (h1 : cat1at (a0 :: a1 :: a2 :: a3 :: a4 :: a5 :: a6 :: a7 :: a8 :: a9 :: a10 :: a11 :: a12 :: t0 :: t) 13 = true) (k : X M G r S I L (pc + 2) (a0 :: a1 :: a2 :: a3 :: a4 :: a5 :: a6 :: a7 :: a8 :: a9 :: a10 :: a11 :: a12 :: .int x :: t) rest Post) : X M G r S I L pc (a0 :: a1 :: a2 :: a3 :: a4 :: a5 :: a6 :: a7 :: a8 :: a9 :: a10 :: a11 :: a12 :: t0 :: t) (.int x :: rest) Post := x_istore0 hd (show (13 : Nat) < _ by simp) (Nat.le_of_ble_eq_true hn) h1 k
theorem x_astore_13 {M : MI} {G : WG} {r : Nat × Nat × Nat} {S : Shp} {I : IM} {L : LM} {pc : Nat} {rest : List Value} {Post : PostT} {a0 a1 a2 a3 a4 a5 a6 a7 a8 a9 a10 a11 a12 t0 : Value} {t : List Value} {x : Nat} (hd : decode (mcc M) pc = .ok (.astore 13, 2)) (hn : Nat.ble 14 (mnl M) = true) (h1 : cat1at (a0 :: a1 :: a2 :: a3 :: a4 :: a5 :: a6 :: a7 :: a8 :: a9 :: a10 :: a11 :: a12 :: t0 :: t) 13 = true) (k : X M G r S I L (pc + 2) (a0 :: a1 :: a2 :: a3 :: a4 :: a5 :: a6 :: a7 :: a8 :: a9 :: a10 :: a11 :: a12 :: .ref x :: t) rest Post) : X M G r S I L pc (a0 :: a1 :: a2 :: a3 :: a4 :: a5 :: a6 :: a7 :: a8 :: a9 :: a10 :: a11 :: a12 :: t0 :: t) (.ref x :: rest) Post := x_astore0 hd (show (13 : Nat) < _ by simp) (Nat.le_of_ble_eq_true hn) h1 k
theorem x_iinc_13 {M : MI} {G : WG} {r : Nat × Nat × Nat} {S : Shp} {I : IM} {L : LM} {pc : Nat} {rest : List Value} {Post : PostT} {a0 a1 a2 a3 a4 a5 a6 a7 a8 a9 a10 a11 a12 : Value} {t : List Value} {n : Int} {x v : Int32} (hd : decode (mcc M) pc = .ok (.iinc 13 n, 3)) (hv : x + Int32.ofInt n = v) (hn : Nat.ble 14 (mnl M) = true) (h1 : cat1at (a0 :: a1 :: a2 :: a3 :: a4 :: a5 :: a6 :: a7 :: a8 :: a9 :: a10 :: a11 :: a12 :: .int x :: t) 13 = true) (k : X M G r S I L (pc + 3) (a0 :: a1 :: a2 :: a3 :: a4 :: a5 :: a6 :: a7 :: a8 :: a9 :: a10 :: a11 :: a12 :: .int v :: t) rest Post) : X M G r S I L pc (a0 :: a1 :: a2 :: a3 :: a4 :: a5 :: a6 :: a7 :: a8 :: a9 :: a10 :: a11 :: a12 :: .int x :: t) rest Post := x_iinc0 hd rfl hv (Nat.le_of_ble_eq_true hn) h1 k
theorem x_lstore_13 {M : MI} {G : WG} {r : Nat × Nat × Nat} {S : Shp} {I : IM} {L : LM} {pc : Nat} {rest : List Value} {Post : PostT} {a0 a1 a2 a3 a4 a5 a6 a7 a8 a9 a10 a11 a12 t0 : Value} {t : List Value} {t1 : Value} {x : Int64} (hd : decode (mcc M) pc = .ok (.lstore 13, 2)) (hn : Nat.ble 15 (mnl M) = true) (h1 : cat1at (a0 :: a1 :: a2 :: a3 :: a4 :: a5 :: a6 :: a7 :: a8 :: a9 :: a10 :: a11 :: a12 :: t0 :: t1 :: t) 13 = true) (k : X M G r S I L (pc + 2) (a0 :: a1 :: a2 :: a3 :: a4 :: a5 :: a6 :: a7 :: a8 :: a9 :: a10 :: a11 :: a12 :: .long x :: .null :: t) rest Post) : X M G r S I L pc (a0 :: a1 :: a2 :: a3 :: a4 :: a5 :: a6 :: a7 :: a8 :: a9 :: a10 :: a11 :: a12 :: t0 :: t1 :: t) (.long x :: rest) Post := x_lstore0 hd (show (13 : Nat) + 1 < _ by simp) (Nat.le_of_ble_eq_true hn) h1 k
theorem x_istore_14 {M : MI} {G : WG} {r : Nat × Nat × Nat} {S : Shp} {I : IM} {L : LM} {pc : Nat} {rest : List Value} {Post : PostT} {a0 a1 a2 a3 a4 a5 a6 a7 a8 a9 a10 a11 a12 a13 t0 : Value} {t : List Value} {x : Int32} (hd : decode (mcc M) pc = .ok (.istore 14, 2)) (hn : Nat.ble 15 (mnl M) = true) (h1 : cat1at (a0 :: a1 :: a2 :: a3 :: a4 :: a5 :: a6 :: a7 :: a8 :: a9 :: a10 :: a11 :: a12 :: a13 :: t0 :: t) 14 = true) (k : X M G r S I L (pc + 2) (a0 :: a1 :: a2 :: a3 :: a4 :: a5 :: a6 :: a7 :: a8 :: a9 :: a10 :: a11 :: a12 :: a13 :: .int x :: t) rest Post) : X M G r S I L pc (a0 :: a1 :: a2 :: a3 :: a4 :: a5 :: a6 :: a7 :: a8 :: a9 :: a10 :: a11 :: a12 :: a13 :: t0 :: t) (.int x :: rest) Post := x_istore0 hd (show (14 : Nat) < _ by simp) (Nat.le_of_ble_eq_true hn) h1 k
theorem x_astore_14 {M : MI} {G : WG} {r : Nat × Nat × Nat} {S : Shp} {I : IM} {L : LM} {pc : Nat} {rest : List Value} {Post : PostT} {a0 a1 a2 a3 a4 a5 a6 a7 a8 a9 a10 a11 a12 a13 t0 : Value} {t : List Value} {x : Nat} (hd : decode (mcc M) pc = .ok (.astore 14, 2)) (hn : Nat.ble 15 (mnl M) = true) (h1 : cat1at (a0 :: a1 :: a2 :: a3 :: a4 :: a5 :: a6 :: a7 :: a8 :: a9 :: a10 :: a11 :: a12 :: a13 :: t0 :: t) 14 = true) (k : X M G r S I L (pc + 2) (a0 :: a1 :: a2 :: a3 :: a4 :: a5 :: a6 :: a7 :: a8 :: a9 :: a10 :: a11 :: a12 :: a13 :: .ref x :: t) rest Post) : X M G r S I L pc (a0 :: a1 :: a2 :: a3 :: a4 :: a5 :: a6 :: a7 :: a8 :: a9 :: a10 :: a11 :: a12 :: a13 :: t0 :: t) (.ref x :: rest) Post := x_astore0 hd (show (14 : Nat) < _ by simp) (Nat.le_of_ble_eq_true hn) h1 k
theorem x_iinc_14 {M : MI} {G : WG} {r : Nat × Nat × Nat} {S : Shp} {I : IM} {L : LM} {pc : Nat} {rest : List Value} {Post : PostT} {a0 a1 a2 a3 a4 a5 a6 a7 a8 a9 a10 a11 a12 a13 : Value} {t : List Value} {n : Int} {x v : Int32} (hd : decode (mcc M) pc = .ok (.iinc 14 n, 3)) (hv : x + Int32.ofInt n = v) (hn : Nat.ble 15 (mnl M) = true) (h1 : cat1at (a0 :: a1 :: a2 :: a3 :: a4 :: a5 :: a6 :: a7 :: a8 :: a9 :: a10 :: a11 :: a12 :: a13 :: .int x :: t) 14 = true) (k : X M G r S I L (pc + 3) (a0 :: a1 :: a2 :: a3 :: a4 :: a5 :: a6 :: a7 :: a8 :: a9 :: a10 :: a11 :: a12 :: a13 :: .int v :: t) rest Post) : X M G r S I L pc (a0 :: a1 :: a2 :: a3 :: a4 :: a5 :: a6 :: a7 :: a8 :: a9 :: a10 :: a11 :: a12 :: a13 :: .int x :: t) rest Post := x_iinc0 hd rfl hv (Nat.le_of_ble_eq_true hn) h1 k
theorem x_lstore_14 {M : MI} {G : WG} {r : Nat × Nat × Nat} {S : Shp} {I : IM} {L : LM} {pc : Nat} {rest : List Value} {Post : PostT} {a0 a1 a2 a3 a4 a5 a6 a7 a8 a9 a10 a11 a12 a13 t0 : Value} {t : List Value} {t1 : Value} {x : Int64} (hd : decode (mcc M) pc = .ok (.lstore 14, 2)) (hn : Nat.ble 16 (mnl M) = true) (h1 : cat1at (a0 :: a1 :: a2 :: a3 :: a4 :: a5 :: a6 :: a7 :: a8 :: a9 :: a10 :: a11 :: a12 :: a13 :: t0 :: t1 :: t) 14 = true) (k : X M G r S I L (pc + 2) (a0 :: a1 :: a2 :: a3 :: a4 :: a5 :: a6 :: a7 :: a8 :: a9 :: a10 :: a11 :: a12 :: a13 :: .long x :: .null :: t) rest Post) : X M G r S I L pc (a0 :: a1 :: a2 :: a3 :: a4 :: a5 :: a6 :: a7 :: a8 :: a9 :: a10 :: a11 :: a12 :: a13 :: t0 :: t1 :: t) (.long x :: rest) Post := x_lstore0 hd (show (14 : Nat) + 1 < _ by simp) (Nat.le_of_ble_eq_true hn) h1 k
end
section
-- 04.heap
/-! returns, fields, arrays -/
theorem x_ret {M : MI} {G : WG} {r : Nat × Nat × Nat} {S : Shp} {I : IM} {L : LM} {pc : Nat} {loc : List Value} {Post : PostT} {v : Option Value} (hR : RetI M pc v) (hp : Post v S I L) : X M G r S I L pc loc v.toList Post := by
  intro p l e R s m args below meth c Q B H locs cells slots ls hc hs hRp hS hL
  have h := B.2.2.2.2.1 v S I L H locs cells slots pc ls hp hR hRp hS (by omega) (by omega)
  have e : (v.map (vmap G)).toList = v.toList.map (vmap G) := by cases v <;> rfl
  rw [e] at h
  exact h
theorem x_ireturn {M : MI} {G : WG} {r : Nat × Nat × Nat} {S : Shp} {I : IM} {L : LM} {pc : Nat} {loc : List Value} {Post : PostT} {x : Int32} {ty : FieldType} (hd : decode (mcc M) pc = .ok (.ireturn, 1)) (hm : mret M = some ty) (hn : narrow ty (.int x) = .int x) (hp : Post (some (.int x)) S I L) : X M G r S I L pc loc [.int x] Post :=
  x_ret (v := some (.int x)) (Or.inl ⟨x, ty, rfl, hm, hn, hd⟩) hp
theorem x_lreturn {M : MI} {G : WG} {r : Nat × Nat × Nat} {S : Shp} {I : IM} {L : LM} {pc : Nat} {loc : List Value} {Post : PostT} {x : Int64} (hd : decode (mcc M) pc = .ok (.lreturn, 1)) (hm : mret M = some .long) (hp : Post (some (.long x)) S I L) : X M G r S I L pc loc [.long x] Post :=
  x_ret (v := some (.long x)) (Or.inr (Or.inl ⟨x, rfl, hm, hd⟩)) hp
theorem x_return {M : MI} {G : WG} {r : Nat × Nat × Nat} {S : Shp} {I : IM} {L : LM} {pc : Nat} {loc : List Value} {Post : PostT} (hd : decode (mcc M) pc = .ok (.return_, 1)) (hm : mret M = none) (hp : Post none S I L) : X M G r S I L pc loc [] Post :=
  x_ret (v := none) (Or.inr (Or.inr ⟨rfl, hm, hd⟩)) hp
def FLink (own : String) (idx ci j : Nat) : Prop := ∃ q : vw_C, vwCl[ci]? = some q ∧ j < q.2.2 ∧ Cond.fieldLink own idx (q.2.1 j).1 (q.2.1 j).2.1 (q.2.1 j).2.2.1 ∈ lwT
theorem fs_get {α : Type} (f : Nat → α) {n j : Nat} (h : j < n) : ((List.range n).map f)[j]? = some (f j) := by simp [h]
theorem fs_set {α : Type} (f g : Nat → α) {n j : Nat} (h : j < n) (ho : ∀ i, i ≠ j → g i = f i) : ((List.range n).map f).set j (g j) = (List.range n).map g := by
  apply List.ext_getElem?
  intro i
  by_cases hi : i = j
  · subst hi
    rw [List.getElem?_set_self (by simpa using h)]
    simp [h]
  · rw [List.getElem?_set_ne (fun q => hi q.symm)]
    simp only [List.getElem?_map, List.getElem?_range]
    by_cases h2 : i < n
    · simp [h2, ho i hi]
    · simp [h2]
theorem Rep.lt {G : WG} {S : Shp} {I : IM} {L : LM} {H : Heap} (h : Rep G S I L H) {k : Nat} (hk : Nat.ble (k + 1) (sn S) = true) : k < sn S ∧ adr G k = gb G + k := by
  have h1 : k < sn S := Nat.le_of_ble_eq_true hk
  exact ⟨h1, adr_o G (Nat.lt_trans h1 h.2.1)⟩
section FLD
variable {M : MI} {G : WG} {r : Nat × Nat × Nat} {S : Shp} {I : IM} {L : LM} {pc : Nat} {loc rest : List Value} {Post : PostT}
theorem x_get {ci j k idx : Nat} {v : Value} (hf : FLink (my M).cls idx ci j) (hk : kd S k = ci) (hn : Nat.ble (k + 1) (sn S) = true) (hv : fval G S I L ci k j = vmap G v) (hd : decode (mcc M) pc = .ok (.getfield idx, 3)) (kk : X M G r S I L (pc + 3) loc (v :: rest) Post) : X M G r S I L pc loc (.ref k :: rest) Post := by
  intro p l e R s m args below meth c Q B H locs cells slots ls hc hs hR hS hL
  obtain ⟨q, hq, hj, hw⟩ := hf
  obtain ⟨c1, c2, c3, c4, c5, c6⟩ := cls_ok ci q hq
  obtain ⟨hkn, ha⟩ := hR.lt hn
  have ee : (Value.ref k :: rest).map (vmap G) = .ref (gb G + k) :: rest.map (vmap G) := by
    show Value.ref (adr G k) :: _ = _
    rw [ha]
  rw [ee]
  exact va_get B.1.1 B.1.2.1 B.1.2.2.2.2.1 c1 B.1.2.2.2.1 B.2.2.1 hR.2.2 k (wsl_obj G S I L hkn hk c6) hq j hj (B.1.2.2.2.2.1 _ hw) (fun x hx => hx) (v := vmap G v) (by rw [fs_get _ (by rw [c4]; exact hj), hv]) hd (kk p l e R s m args below meth c Q B H locs cells slots ls hc hs hR hS hL)
theorem x_getI {ci j k idx : Nat} (hf : FLink (my M).cls idx ci j) (ht : ft ci j = 0) (hd : decode (mcc M) pc = .ok (.getfield idx, 3)) (hk : kd S k = ci) (hn : Nat.ble (k + 1) (sn S) = true) (kk : X M G r S I L (pc + 3) loc (.int (I k j) :: rest) Post) : X M G r S I L pc loc (.ref k :: rest) Post :=
  x_get hf hk hn (v := .int (I k j)) (by simp [fval, ht, vmap]) hd kk
theorem x_getJ {ci j k idx : Nat} (hf : FLink (my M).cls idx ci j) (ht : ft ci j = 1) (hd : decode (mcc M) pc = .ok (.getfield idx, 3)) (hk : kd S k = ci) (hn : Nat.ble (k + 1) (sn S) = true) (kk : X M G r S I L (pc + 3) loc (.long (L k j) :: rest) Post) : X M G r S I L pc loc (.ref k :: rest) Post :=
  x_get hf hk hn (v := .long (L k j)) (by simp [fval, ht, vmap]) hd kk
theorem x_getR {ci j k idx a : Nat} (hf : FLink (my M).cls idx ci j) (ht : ft ci j = 2) (hd : decode (mcc M) pc = .ok (.getfield idx, 3)) (hk : kd S k = ci) (hn : Nat.ble (k + 1) (sn S) = true) (hr : rr S k j = a + 1) (kk : X M G r S I L (pc + 3) loc (.ref a :: rest) Post) : X M G r S I L pc loc (.ref k :: rest) Post :=
  x_get hf hk hn (v := .ref a) (by simp [fval, ht, vmap, hr, rv]) hd kk
/-- a field written: the picture is another -/
theorem x_put {ci j k idx : Nat} {S' : Shp} {I' : IM} {L' : LM} {v : Value} (hf : FLink (my M).cls idx ci j) (hk : kd S k = ci) (hn : Nat.ble (k + 1) (sn S) = true) (hsn : sn S' = sn S) (hkd : kd S' = kd S)
    (ho : ∀ i, i ≠ k → rr S' i = rr S i ∧ I' i = I i ∧ L' i = L i) (hv : fval G S' I' L' ci k j = vmap G v) (hj0 : ∀ i, i ≠ j → fval G S' I' L' ci k i = fval G S I L ci k i) (hnr : narrow (tyF ci j) (vmap G v) = vmap G v) (hft : fits (tyF ci j) (vmap G v) = true)
    (hfi : ∀ q : vw_C, vwCl[ci]? = some q → (q.2.1 j).2.2.2 = false ∨ ((q.2.1 j).2.2.2 = true ∧ (my M).name = "<init>" ∧ (q.2.1 j).1 = (my M).cls))
    (hd : decode (mcc M) pc = .ok (.putfield idx, 3)) (kk : X M G r S' I' L' (pc + 3) loc rest Post) : X M G r S I L pc loc (v :: .ref k :: rest) Post := by
  intro p l e R s m args below meth c Q B H locs cells slots ls hc hs hR hS hL
  obtain ⟨q, hq, hj, hw⟩ := hf
  obtain ⟨c1, c2, c3, c4, c5, c6⟩ := cls_ok ci q hq
  obtain ⟨hkn, ha⟩ := hR.lt hn
  have ee : (v :: Value.ref k :: rest).map (vmap G) = vmap G v :: .ref (gb G + k) :: rest.map (vmap G) := by
    show vmap G v :: Value.ref (adr G k) :: _ = _
    rw [ha]
  rw [ee]
  have hset : (wsl G S I L).set k (gb G + k, .inr (ci, ((List.range (nf ci)).map (fval G S I L ci k)).set j (vmap G v))) = wsl G S' I' L' := by
    refine wsl_set G S I I' L L' S' hkn hsn _ ?_ (fun i hi => cellE_c G S S' I I' L L' (by rw [hkd]) (ho i hi).1 (ho i hi).2.1 (ho i hi).2.2)
    rw [cellE_o G S' I' L' (by rw [hkd]; exact hk) c6, ← hv, fs_set _ _ (by rw [c4]; exact hj) hj0]
  have kk' : ∀ (H1 : Heap) (locs1 : List Loc), H1.size = H.size → va_P (gD G) vwCl (wsl G S' I' L') H1 → va_S (AA G) s.heap H1 locs1 → W p l e R s m args below meth c H1 locs1 cells slots Q (F0 m (pc + 3) ls (rest.map (vmap G))) := fun H1 locs1 hz hP1 hS1 =>
    kk p l e R s m args below meth c Q B H1 locs1 cells slots ls hc hs ⟨by rw [hz, hsn]; exact hR.1, by rw [hsn]; exact hR.2.1, hP1⟩ hS1 hL
  have hN : narrow (tyF ci j) (vmap G v) = vmap G v := hnr
  have hhe := wsl_obj G S I L hkn hk c6
  have hD := wsl_D G S I L
  have hl : j < ((List.range (nf ci)).map (fval G S I L ci k)).length := by simp [c4]; exact hj
  have hap := va_apart (own := (my M).cls) B.1.2.2.2.2.1 c1 (tyF ci) c3 c2 B.2.2.1 hq
  obtain ⟨r0, h1, cell, q1, q2, q3, q4⟩ := hR.2.2 k _ hhe
  have hr : q = r0 := Option.some.inj (hq.symm.trans h1)
  subst hr
  obtain ⟨hS1, hfc, kC, hkC, hkind⟩ := B.2.2.1.1 ci _ hq
  obtain ⟨cf, kf, fi, f, hi, hsl⟩ := hS1 j hj
  have hlay := B.1.2.2.2.2.1 _ (c1 _ (u_in_lay hj))
  have hst := (u_facts hfc hkC (u_lays B.1.2.2.2.2.1 c1 hj) hi).1
  have fin : ∀ H' : Heap, H'[gb G + k]? = some (cell.setSlot ((gD G).2 ci j) (vmap G v)) → H'.size = H.size → (∀ q, q ≠ gb G + k → H'[q]? = H[q]?) → W p l e R s m args below meth c H' (locs ++ [⟨gb G + k, (gD G).2 ci j⟩]) cells slots Q (F0 m (pc + 3) ls (rest.map (vmap G))) := by
    intro H' e1 e2 e3
    refine kk' H' _ e2 ?_ (hS.put e2 e3 (hD.2 k _ hhe))
    rw [← hset]
    exact hR.2.2.set hD hhe ⟨_, hq, t_OB.to (V := updV (vp_V ((List.range (nf ci)).map (fval G S I L ci k))) j (vmap G v)) ⟨_, e1, q2, q3, t_set q4 hap hj (vmap G v)⟩ (fun i _ => vp_updV_set hl (vmap G v) i)⟩ e3
  rcases hfi q hq with hfin | ⟨hfin, hin2, hdecl⟩
  · unfold u_lay at hlay
    rw [if_neg (by rw [hfin]; decide)] at hlay
    have h6 := u_store hfc hkC hkind hlay hi (c3 j hj) hN hft
    refine W.putK B.1.1 B.1.2.1 (f := f) ⟨B.1.2.2.2.1, B.1.2.2.2.2.1 _ hw, ⟨_, _, _, hi⟩, hst⟩ (by rw [q2]; exact h6) q1 q3 (by rw [hsl]; exact k2_hasslot (q4 j hj)) rfl rfl hd fun H' e1 e2 e3 => ?_
    rw [hsl] at e1 ⊢
    exact fin H' e1 e2 e3
  · unfold u_lay at hlay
    rw [if_pos hfin] at hlay
    have hcf : m.cls = cf := by
      obtain ⟨_, _, c', _, _, _, -, -, hf', -, -, -, hown2, -⟩ := Cond.laysFinal_spec hlay
      have e1 : c' = cf := by have := hi.symm.trans hf'; simp at this; exact this.1.symm
      rw [hdecl] at hown2
      rw [← e1]; exact Option.some.inj (B.1.2.2.2.1.symm.trans hown2)
    have h6 := u_fits hfc hkC hkind (Or.inr hlay) hi (c3 j hj) hN hft
    refine W.putFinK B.1.1 B.1.2.1 B.1.2.2.2.1 (B.1.2.2.2.2.1 _ hw) hi hst hcf (B.1.2.2.2.2.2.trans hin2) (by rw [q2]; exact h6) q1 q3 (by rw [hsl]; exact k2_hasslot (q4 j hj)) rfl rfl hd fun H' e1 e2 e3 => ?_
    rw [hsl] at e1 ⊢
    exact fin H' e1 e2 e3
theorem fval_c (G : WG) (S S' : Shp) (I I' : IM) (L L' : LM) (c k i : Nat) (h1 : rr S' k i = rr S k i) (h2 : I' k i = I k i) (h3 : L' k i = L k i) : fval G S' I' L' c k i = fval G S I L c k i := by
  simp [fval, h1, h2, h3]
def FinOk (M : MI) (ci j : Nat) : Bool := match vwCl[ci]? with
  | none => true
  | some q => !(q.2.1 j).2.2.2 || ((my M).name == "<init>" && (q.2.1 j).1 == (my M).cls)
theorem FinOk.use {M : MI} {ci j : Nat} (h : FinOk M ci j = true) : ∀ q : vw_C, vwCl[ci]? = some q → (q.2.1 j).2.2.2 = false ∨ ((q.2.1 j).2.2.2 = true ∧ (my M).name = "<init>" ∧ (q.2.1 j).1 = (my M).cls) := by
  intro q hq
  unfold FinOk at h
  rw [hq] at h
  by_cases hf : (q.2.1 j).2.2.2 = true
  · right
    simp [hf] at h
    exact ⟨hf, h.1, h.2⟩
  · left
    simpa using hf
theorem x_putI {ci j k idx : Nat} {x : Int32} (hf : FLink (my M).cls idx ci j) (ht : ft ci j = 0) (hd : decode (mcc M) pc = .ok (.putfield idx, 3)) (hfi : FinOk M ci j = true) (hk : kd S k = ci) (hn : Nat.ble (k + 1) (sn S) = true) (hnr : narrow (tyF ci j) (.int x) = .int x) (hft : fits (tyF ci j) (.int x) = true) (kk : X M G r S (up2 I k j x) L (pc + 3) loc rest Post) : X M G r S I L pc loc (.int x :: .ref k :: rest) Post :=
  x_put (I' := up2 I k j x) (S' := S) (L' := L) (v := .int x) hf hk hn rfl rfl (fun i hi => ⟨rfl, up2_n I j x hi, rfl⟩) (by simp [fval, ht, vmap, up2_s, up1]) (fun i hi => fval_c G S S I _ L L ci k i rfl (by rw [up2_s]; simp [up1, hi]) rfl) hnr hft (FinOk.use hfi) hd kk
theorem x_putJ {ci j k idx : Nat} {x : Int64} (hf : FLink (my M).cls idx ci j) (ht : ft ci j = 1) (hd : decode (mcc M) pc = .ok (.putfield idx, 3)) (hfi : FinOk M ci j = true) (hk : kd S k = ci) (hn : Nat.ble (k + 1) (sn S) = true) (hnr : narrow (tyF ci j) (.long x) = .long x) (hft : fits (tyF ci j) (.long x) = true) (kk : X M G r S I (up2 L k j x) (pc + 3) loc rest Post) : X M G r S I L pc loc (.long x :: .ref k :: rest) Post :=
  x_put (I' := I) (S' := S) (L' := up2 L k j x) (v := .long x) hf hk hn rfl rfl (fun i hi => ⟨rfl, rfl, up2_n L j x hi⟩) (by simp [fval, ht, vmap, up2_s, up1]) (fun i hi => fval_c G S S I I L _ ci k i rfl rfl (by rw [up2_s]; simp [up1, hi])) hnr hft (FinOk.use hfi) hd kk
theorem x_putR {ci j k idx a : Nat} {n : Nat} {kf : Nat → Nat} {rf : Nat → Nat → Nat} (hf : FLink (my M).cls idx ci j) (ht : ft ci j = 2) (hd : decode (mcc M) pc = .ok (.putfield idx, 3)) (hfi : FinOk M ci j = true) (hk : kf k = ci) (hn : Nat.ble (k + 1) n = true) (hnr : ∀ b, narrow (tyF ci j) (.ref b) = .ref b) (hft : ∀ b, fits (tyF ci j) (.ref b) = true) (kk : X M G r (n, kf, up2 rf k j (a + 1)) I L (pc + 3) loc rest Post) : X M G r (n, kf, rf) I L pc loc (.ref a :: .ref k :: rest) Post :=
  x_put (S := (n, kf, rf)) (I' := I) (S' := (n, kf, up2 rf k j (a + 1))) (L' := L) (v := .ref a) hf hk hn rfl rfl (fun i hi => ⟨up2_n rf j (a + 1) hi, rfl, rfl⟩) (by simp [fval, ht, vmap, rr, up2_s, up1, rv]) (fun i hi => fval_c G (n, kf, rf) _ I I L L ci k i (by simp [rr, up2_s, up1, hi]) rfl rfl) (hnr _) (hft _) (FinOk.use hfi) hd kk
/-! int arrays -/
theorem x_iald {k n : Nat} {i : Int32} (hd : decode (mcc M) pc = .ok (.iaload, 1)) (hk : kd S k = n + 100) (hn : Nat.ble (k + 1) (sn S) = true) (hi : vp_in i n) (kk : X M G r S I L (pc + 1) loc (.int (I k i.toNatClampNeg) :: rest) Post) : X M G r S I L pc loc (.int i :: .ref k :: rest) Post := by
  intro p l e R s m args below meth c Q B H locs cells slots ls hc hs hR hS hL
  obtain ⟨hkn, ha⟩ := hR.lt hn
  have ee : (Value.int i :: Value.ref k :: rest).map (vmap G) = .int i :: .ref (gb G + k) :: rest.map (vmap G) := by
    show Value.int i :: Value.ref (adr G k) :: _ = _
    rw [ha]
  rw [ee]
  exact va_iald B.1.1 B.1.2.1 B.2.2.1 hR.2.2 k 0 (wsl_arr G S I L hkn hk) rfl hi hd (kk p l e R s m args below meth c Q B H locs cells slots ls hc hs hR hS hL)
theorem x_iast {k n : Nat} {i x : Int32} (hd : decode (mcc M) pc = .ok (.iastore, 1)) (hk : kd S k = n + 100) (hn : Nat.ble (k + 1) (sn S) = true) (hi : vp_in i n) (kk : X M G r S (up2 I k i.toNatClampNeg x) L (pc + 1) loc rest Post) : X M G r S I L pc loc (.int x :: .int i :: .ref k :: rest) Post := by
  intro p l e R s m args below meth c Q B H locs cells slots ls hc hs hR hS hL
  obtain ⟨hkn, ha⟩ := hR.lt hn
  have ee : (Value.int x :: Value.int i :: Value.ref k :: rest).map (vmap G) = .int x :: .int i :: .ref (gb G + k) :: rest.map (vmap G) := by
    show Value.int x :: Value.int i :: Value.ref (adr G k) :: _ = _
    rw [ha]
  rw [ee]
  have hhe := wsl_arr G S I L hkn hk
  have hD := wsl_D G S I L
  have hset : (wsl G S I L).set k (gb G + k, .inl (gA G, (n, .inl (upd (I k) i.toNatClampNeg x)))) = wsl G S (up2 I k i.toNatClampNeg x) L := by
    refine wsl_set G S I _ L L S hkn rfl _ ?_ (fun j hj => cellE_c G S S I _ L L rfl rfl (up2_n I _ x hj) rfl)
    rw [cellE_a G S _ L hk, up2_s, up1_upd]
  refine W.iast B.1.1 B.1.2.1 (hR.2.2 k _ hhe) ((B.2.2.1.2 0 _ rfl).1 n (fun j => .int (I k j))) (fun q => by cases q) (by show ¬ (i < 0 ∨ (arrV _ _ _).slots.size ≤ _); rw [arrV_size]; exact hi) rfl rfl hd fun H1 e1 z oq => ?_
  refine kk p l e R s m args below meth c Q B H1 _ cells slots ls hc hs ⟨by rw [z]; exact hR.1, hR.2.1, ?_⟩ (hS.put z oq (hD.2 k _ hhe)) hL
  rw [← hset]
  refine hR.2.2.set hD hhe ?_ oq
  show H1[gb G + k]? = some (vp_cell _ _)
  rw [e1]
  rw [vp_cell_i, vp_cell_i, arrV_store]
  congr 2
  funext j
  simp only [updV, upd]
  split <;> rfl
theorem x_alen {k n : Nat} {v : Int32} (hd : decode (mcc M) pc = .ok (.arraylength, 1)) (hk : kd S k = n + 100) (hn : Nat.ble (k + 1) (sn S) = true) (hv : Int32.ofNat n = v) (kk : X M G r S I L (pc + 1) loc (.int v :: rest) Post) : X M G r S I L pc loc (.ref k :: rest) Post := by
  intro p l e R s m args below meth c Q B H locs cells slots ls hc hs hR hS hL
  obtain ⟨hkn, ha⟩ := hR.lt hn
  have ee : (Value.ref k :: rest).map (vmap G) = .ref (gb G + k) :: rest.map (vmap G) := by
    show Value.ref (adr G k) :: _ = _
    rw [ha]
  rw [ee]
  exact va_alen B.1.1 B.1.2.1 B.2.2.1 hR.2.2 k 0 (wsl_arr G S I L hkn hk) rfl hv hd (kk p l e R s m args below meth c Q B H locs cells slots ls hc hs hR hS hL)
/-! new cells -/
theorem x_newarr {N : Nat} {n : Nat} {kf : Nat → Nat} {rf : Nat → Nat → Nat} {d rc rs : Nat} {i : Int32} (hd : decode (mcc M) pc = .ok (.newarray .int, 2)) (hi : i = Int32.ofNat N) (hN : N ≤ 100000) (hn : n + 1 < 1000000)
    (kk : X M G (d, rc, rs) (n + 1, up1 kf n (N + 100), rf) (upr I n (fun _ => 0)) L (pc + 2) loc (.ref n :: rest) Post) : X M G (d, rc + 1, rs + N) (n, kf, rf) I L pc loc (.int i :: rest) Post := by
  intro p l e R s m args below meth c Q B H locs cells slots ls hc hs hR hS hL
  subst hi
  dsimp only at hc hs
  have hNn : (Int32.ofNat N).toNatClampNeg = N := nI_clamp (n := N) (by omega)
  refine va_newaK B.1.1 B.1.2.1 (atype := .int) (B.1.2.2.2.2.1 _ (lwT_of (List.mem_of_getElem? (i := arrIntAt) (by decide +kernel)) rfl)) (g := F0 m pc ls ((Value.int (Int32.ofNat N) :: rest).map (vmap G))) rfl hd rfl (nI_pos (n := N) (by omega)) hNn (by show N * 4 ≤ 536870912; omega) (by omega) (by omega) rfl fun H1 cA e1 z1 o1 hAr hNm => ?_
  have hcA : cA = gA G := by
    have h1 := (B.2.2.1.2 0 _ rfl).2
    have h2 : s.vm.findClass ("[" ++ (FieldType.int).toString) = some (gA G) := h1
    exact Option.some.inj (hNm.symm.trans h2)
  subst hcA
  have hsz : H.size = gb G + n := hR.1
  have e2 : (Value.ref n :: rest).map (vmap G) = .ref H.size :: rest.map (vmap G) := by
    show Value.ref (adr G n) :: _ = _
    rw [adr_o G (by omega), hsz]
  have K := kk p l e R s m args below meth c Q B H1 locs (cells + 1) (slots + N) ls (by dsimp only; omega) (by dsimp only; omega) ⟨by rw [z1, hsz]; rfl, hn, ?_⟩ ⟨Nat.le_trans hS.1 (by omega), fun x h1 h2 => (o1 x (Nat.lt_of_lt_of_le h1 hS.1)).trans (hS.2.1 x h1 h2), hS.2.2⟩ hL
  · rw [e2] at K
    exact K
  · rw [← wsl_push G (n, kf, rf) (n + 1, up1 kf n (N + 100), rf) I (upr I n (fun _ => 0)) L L rfl (.inl (gA G, (N, .inl (fun _ => 0)))) ?_ ?_]
    · refine (hR.2.2.kept (fun k x hx => o1 x.1 ((hR.2.2 k x hx).lt))).app (fun k x hx => ?_)
      have hz : k < 1 := (List.getElem?_eq_some_iff.mp hx).1
      rw [show k = 0 by omega] at hx
      cases hx
      show H1[gb G + n]? = some (vp_cell _ _)
      rw [vp_cell_i, ← hsz]
      exact e1
    · rw [cellE_a G _ _ L (n := N) (by simp [kd, sn, up1])]
      rw [show upr I n (fun _ => (0 : Int32)) (sn (n, kf, rf)) = fun _ => 0 from upr_s I n _]
    · intro j hj
      have hj' : j < n := hj
      exact cellE_c G _ _ I _ L L (by simp [kd, up1]; omega) rfl (upr_n I _ (by omega)) rfl
theorem x_new {ci n idx : Nat} {kf : Nat → Nat} {rf : Nat → Nat → Nat} {d rc rs : Nat} {q : vw_C} (hd : decode (mcc M) pc = .ok (.new idx, 3)) (hq : vwCl[ci]? = some q) (hw1 : Cond.classLink (my M).cls idx q.1 ∈ lwT) (hw2 : Cond.instantiable q.1 q.2.2 ∈ lwT) (hw3 : Cond.initialized q.1 ∈ lwT) (hn : n + 1 < 1000000)
    (kk : X M G (d, rc, rs) (n + 1, up1 kf n ci, upr rf n (fun _ => 0)) (upr I n (fun _ => 0)) (upr L n (fun _ => 0)) (pc + 3) loc (.ref n :: rest) Post) : X M G (d, rc + 1, rs + q.2.2) (n, kf, rf) I L pc loc rest Post := by
  intro p l e R s m args below meth c Q B H locs cells slots ls hc hs hR hS hL
  dsimp only at hc hs
  obtain ⟨c1, c2, c3, c4, c5, c6⟩ := cls_ok ci q hq
  have hKn := B.2.2.1.1 ci _ hq
  have hsz : H.size = gb G + n := hR.1
  refine W.newcK B.1.1 B.1.2.1 B.1.2.2.2.1 (B.1.2.2.2.2.1 _ hw1) (B.1.2.2.2.2.1 _ hw2) (B.1.2.2.2.2.1 _ hw3) rfl hd (by omega) (by omega) hKn.2.1 rfl fun H1 kC hkC e1 z1 o1 => ?_
  have e2 : (Value.ref n :: rest).map (vmap G) = .ref H.size :: rest.map (vmap G) := by
    show Value.ref (adr G n) :: _ = _
    rw [adr_o G (by omega), hsz]
  have K := kk p l e R s m args below meth c Q B H1 locs (cells + 1) (slots + q.2.2) ls (by dsimp only; omega) (by dsimp only; omega) ⟨by rw [z1, hsz]; rfl, hn, ?_⟩ ⟨Nat.le_trans hS.1 (by omega), fun x h1 h2 => (o1 x (Nat.lt_of_lt_of_le h1 hS.1)).trans (hS.2.1 x h1 h2), hS.2.2⟩ hL
  · rw [e2] at K
    exact K
  · rw [← wsl_push G (n, kf, rf) (n + 1, up1 kf n ci, upr rf n (fun _ => 0)) I (upr I n (fun _ => 0)) L (upr L n (fun _ => 0)) rfl (.inr (ci, (List.range (nf ci)).map (fun j => defaultValue (tyF ci j)))) ?_ ?_]
    · refine (hR.2.2.kept (fun k x hx => o1 x.1 ((hR.2.2 k x hx).lt))).app (fun k x hx => ?_)
      have hz : k < 1 := (List.getElem?_eq_some_iff.mp hx).1
      rw [show k = 0 by omega] at hx
      cases hx
      refine ⟨q, hq, ?_⟩
      have hb := u_born (tyF ci) B.1.2.2.2.2.1 c1 hKn hkC e1 c3
      rw [hsz] at hb
      refine hb.to fun j hj => ?_
      have hj2 : j < nf ci := by rw [c4]; exact hj
      simp [vp_V, hj2]
    · rw [cellE_o G _ _ _ (c := ci) (by simp [kd, sn, up1]) c6]
      congr 2
      refine List.map_congr_left fun j hj => ?_
      have hj' : j < q.2.2 := by rw [← c4]; exact List.mem_range.mp hj
      rcases c5 j hj' with ⟨h1, h2⟩ | ⟨h1, h2⟩ | ⟨h1, h2⟩
      · simp only [fval, h1, sn, upr_s]
        rcases h2 with h2 | h2 <;> rw [h2] <;> rfl
      · simp only [fval, h1, sn, upr_s, h2]
        rfl
      · simp only [fval, h1, sn, rr, upr_s, rv]
        cases hty : tyF ci j <;> rw [hty] at h2 <;> first | rfl | (cases h2)
    · intro j hj
      have hj' : j < n := hj
      exact cellE_c G _ _ I _ L _ (by simp [kd, up1]; omega) (upr_n rf _ (by omega)) (upr_n I _ (by omega)) (upr_n L _ (by omega))
end FLD
end
section
-- 05.calls
/-! contracts and calls -/
abbrev SpT : Type := List Value → Shp → IM → LM → PostT → Prop
def rmO (d mc ms : Nat) : Room := { frames := d, cells := mc, slots := ms, locals := 500 * d }
def ATC (G : WG) (S : Shp) (I : IM) (L : LM) (U : State) : Prop := Rep G S I L U.heap ∧ FF G U ∧ va_K (gD G) vwCl [(gA G, .int)] U
def PP (G : WG) (as : List Value) (S : Shp) (I : IM) (L : LM) : Array Value → State → Prop := fun a U => a = (as.map (vmap G)).toArray ∧ ATC G S I L U
def QQ (G : WG) (Post : PostT) : Array Value → State → Outcome → State → Prop := fun _ st o t =>
  ∃ (v : Option Value) (S : Shp) (I : IM) (L : LM), o = .returned (v.map (vmap G)) ∧ Post v S I L ∧ Rep G S I L t.heap ∧ va_F (AA G) st t
def mws (M : MI) : List Cond := Cond.code (my M) (mcc M) (mnl M) (mret M) :: lwT
/-- the contract of a method: depth, new cells, their slots -/
def Con (M : MI) (d mc ms : Nat) (Sp : SpT) : Prop := ∀ (G : WG) (l : Launch) (as : List Value) (S : Shp) (I : IM) (L : LM) (Post : PostT), Sp as S I L Post → Met l (my M) (mws M) (rmO d mc ms) (PP G as S I L) (QQ G Post) mc ms (AA G)
def lz (i : Nat) (loc : List Value) : List (Nat × Value) := match loc with
  | [] => []
  | .null :: t => lz (i + 1) t
  | v :: t => (i, v) :: lz (i + 1) t
def ent (as : List Value) : List Value := match as with
  | [] => []
  | .long x :: t => .long x :: .null :: ent t
  | .double x :: t => .double x :: .null :: ent t
  | v :: t => v :: ent t
theorem ent_args (G : WG) : ∀ (as : List Value) (i j : Nat) (v : Value), (ent as)[j]? = some v → v ≠ .null → (i + j, vmap G v) ∈ lv_args i (as.map (vmap G)) := by
  intro as
  induction as with
  | nil => intro i j v h; simp [ent] at h
  | cons a t ih =>
    intro i j v h hv
    cases a with
    | long x =>
      match j, h with
      | 0, h => cases h; exact List.mem_cons_self
      | 1, h => cases h; exact absurd rfl hv
      | j + 2, h =>
        have h2 := ih (i + 2) j v h hv
        rw [show i + (j + 2) = i + 2 + j by omega]
        exact List.mem_cons_of_mem _ h2
    | double x =>
      match j, h with
      | 0, h => cases h; exact List.mem_cons_self
      | 1, h => cases h; exact absurd rfl hv
      | j + 2, h =>
        have h2 := ih (i + 2) j v h hv
        rw [show i + (j + 2) = i + 2 + j by omega]
        exact List.mem_cons_of_mem _ h2
    | _ =>
      match j, h with
      | 0, h => cases h; exact List.mem_cons_self
      | j + 1, h =>
        have h2 := ih (i + 1) j v h hv
        rw [show i + (j + 1) = i + 1 + j by omega]
        exact List.mem_cons_of_mem _ h2
theorem ent_len (G : WG) : ∀ as : List Value, (lg_sl (as.map (vmap G))).length = (ent as).length := by
  intro as
  induction as with
  | nil => rfl
  | cons a t ih =>
    have h1 : (lg_sl ((a :: t).map (vmap G))).length = (if a.category = 2 then 2 else 1) + (lg_sl (t.map (vmap G))).length := by
      simp only [lg_sl, List.map_cons, List.flatMap_cons, List.length_append, vcat]
      split <;> simp
    rw [h1, ih]
    cases a <;> simp [ent, Value.category] <;> omega
theorem con_of_X {M : MI} {d mc ms : Nat} {Sp : SpT} (hpl : plainName (my M).cls = true)
    (h : ∀ (G : WG) (as : List Value) (S : Shp) (I : IM) (L : LM) (Post : PostT), Sp as S I L Post → ∃ k, (ent as).length ≤ mnl M ∧ X M G (d, mc, ms) S I L 0 (ent as ++ List.replicate k .null) [] Post) : Con M d mc ms Sp := by
  intro G l as S I L Post hSp
  obtain ⟨k, hlen, hX⟩ := h G as S I L Post hSp
  refine Met.ofW (cc := mcc M) (maxL := mnl M) (ret := mret M) hpl rfl ?_
  intro p e s m args below meth c s₁ B hml hv
  obtain ⟨rfl, hRp, hFF, hK⟩ := hv
  have hts : ∀ w ∈ lwT, w.before _ s = true := fun w hw => atoms_spec (ws := mws M) B.pre w (List.mem_cons_of_mem _ hw)
  have hl := lv_entry (as.map (vmap G)) (n := mnl M) (by rw [ent_len]; exact hlen)
  rw [lg_entry_eq]
  generalize (lg_sl (as.map (vmap G)) ++ List.replicate (mnl M - (lg_sl (as.map (vmap G))).length) Slot.unset).toArray = ls at hl ⊢
  refine hX p l e _ s m _ below meth c _ ⟨⟨B.exec, B.bytes, hml, findClass_of_methodNamed B.named, hts, (name_of_methodNamed B.named B.method).1⟩, hFF, hK, by rw [hRp.1]; exact Nat.le_add_right _ _, ?_, Nat.le_refl _, Nat.le_refl _⟩ s.heap [] 0 0 ls (by show 0 + mc ≤ mc; omega) (by show 0 + ms ≤ ms; omega) hRp va_S.rf ⟨hl.1, hl.2.1, fun j v hj hv => ?_⟩
  · intro v S' I' L' H locs cells slots pc ls' hp hRet hR' hS' hc hs
    refine W.widen (k := mc) (n := ms) hc hs ?_
    have hq : ∀ t : State, t.heap = H → QQ G Post (as.map (vmap G)).toArray s (.returned (v.map (vmap G))) t := fun t ht => ⟨v, S', I', L', rfl, hp, by rw [ht]; exact hR', hS'.F ht⟩
    rcases hRet with ⟨x, ty, rfl, hm, hn, hd⟩ | ⟨x, rfl, hm, hd⟩ | ⟨rfl, hm, hd⟩
    · exact W.zret B.exec B.bytes (B.returns.trans hm) hn (fun t ht _ => hq t ht) hS'.2.2 hd B.notSynchronized
    · exact W.lret B.exec B.bytes (B.returns.trans hm) (fun t ht _ => hq t ht) hS'.2.2 hd B.notSynchronized
    · exact W.vret B.exec B.bytes (B.returns.trans hm) (fun t ht _ => hq t ht) hS'.2.2 hd B.notSynchronized
  · have hj2 : (ent as)[j]? = some v := by
      by_cases h1 : j < (ent as).length
      · rwa [List.getElem?_append_left h1] at hj
      · rw [List.getElem?_append_right (by omega), List.getElem?_replicate] at hj
        split at hj
        · exact absurd (Option.some.inj hj).symm hv
        · cases hj
    have h2 := ent_args G as 0 j v hj2 hv
    rw [Nat.zero_add] at h2
    exact hl.2.2 _ h2
theorem good_tbl : ∀ w ∈ lwT, ((w.onTables && w.keeps) = true ∨ ∃ ty, w = .arrayClass ty) := fun w hw => good_of_word (List.mem_filter.mp hw).2
theorem good_in {ws : List Cond} (h : ∀ w ∈ ws, w ∈ lwT) : GoodIn lwT ws := fun w hw => ⟨h w hw, good_tbl w (h w hw)⟩
theorem mws_in {M : MI} (h : Cond.code (my M) (mcc M) (mnl M) (mret M) ∈ lwT) : ∀ w ∈ mws M, w ∈ lwT := by
  intro w hw
  rcases List.mem_cons.mp hw with rfl | hw
  · exact h
  · exact hw
/-- what a call of M needs of the tables: n parameters -/
def MOk (M : MI) (n : Nat) : Prop := Cond.code (my M) (mcc M) (mnl M) (mret M) ∈ lwT ∧ Cond.initialized (my M).cls ∈ lwT ∧ ((my M).cls ≠ "java/lang/invoke/MethodHandle" ∧ (my M).cls ≠ "java/lang/invoke/VarHandle" ∧ (parseMethodDescriptor (my M).desc).map (fun d => d.parameters.length) = some n) ∧ mnl M ≤ 400
def VOk (M : MI) (n : Nat) : Prop := MOk M n ∧ Cond.instanceMethod (my M) ∈ lwT ∧ Cond.selects (my M).cls (my M) (my M) ∈ lwT
def IOk (M : MI) (n : Nat) : Prop := MOk M n ∧ Cond.instanceMethod (my M) ∈ lwT ∧ (my M).name = "<init>"
def SOk (M : MI) (n : Nat) : Prop := MOk M n ∧ Cond.static (my M) ∈ lwT
theorem PP.blind {G : WG} {as : List Value} {S : Shp} {I : IM} {L : LM} : FrameBlind (PP G as S I L) := fun a U g mk q =>
  ⟨q.1, q.2.1, q.2.2.1.blind g mk a, va_K.moved (u := U) (U := U.calling g mk a) (Vm.Alike.refl U.vm) q.2.2.2⟩
theorem cat_map (G : WG) (st : List Value) : ((st.map (vmap G)).map fun v => v.category) = st.map fun v => v.category := by
  rw [List.map_map]
  exact List.map_congr_left fun v _ => vcat G v
theorem x_back {M : MI} {G : WG} {d rc rs mc ms : Nat} {pc : Nat} {loc rest : List Value} {st : List Value} {Post : PostT} {p : Program} {l : Launch} {e : Env} {R : Room} {s : State} {m : MethodId} {args : Array Value} {below : List Frame} {meth : Method} {c : Code} {Q : State → Prop} {H : Heap} {locs : List Loc} {cells slots : Nat} {ls : Array Slot}
    (B : BX M G d Post p l e R s m args below meth c Q) (hc : cells + (rc + mc) ≤ R.cells) (hs : slots + (rs + ms) ≤ R.slots) (hS : va_S (AA G) s.heap H locs) (hL : LH G ls (mnl M) loc) {a : Array Value}
    (hr : va_Run p l e R s m args below meth c H locs cells slots mc ms (F0 m pc ls st) (rest.map (vmap G)) (QQ G (fun v S' I' L' => X M G (d, rc, rs) S' I' L' (pc + 3) loc (v.toList ++ rest) Post) a) (AA G)) :
    W p l e R s m args below meth c H locs cells slots Q (F0 m pc ls st) := by
  intro T hT X0
  obtain ⟨v, st₀, t, T', Lc, h0, X', hLc, e1, e2, ⟨v', S', I', L', hv, hp, hRp, hz, hk⟩, hst⟩ := hr T hT X0
  have hv' : v = v'.map (vmap G) := by cases hv; rfl
  subst hv'
  rw [h0] at hz hk
  obtain ⟨t2, a1, b1⟩ := hp p l e R s m args below meth c Q B T'.heap (locs ++ Lc) (cells + mc) (slots + ms) ls (by dsimp only; omega) (by dsimp only; omega) (by rw [e1]; exact hRp)
    ⟨Nat.le_trans hS.1 (by rw [e1]; exact hz), fun q h1 h2 => by rw [e1, hk q (Nat.lt_of_lt_of_le h1 hS.1) h2]; exact hS.2.1 q h1 h2, fun q hq => by
      rcases List.mem_append.mp hq with h | h
      · exact hS.2.2 q h
      · exact hLc q h⟩ hL T' rfl X'
  refine ⟨t2, hst t2 ?_, b1⟩
  have ee : (v'.toList ++ rest).map (vmap G) = (v'.map (vmap G)).toList ++ rest.map (vmap G) := by cases v' <;> rfl
  rw [ee] at a1
  exact a1
theorem x_pre {M : MI} {G : WG} {d : Nat} {S : Shp} {I : IM} {L : LM} {As : List Value} {Post : PostT} {p : Program} {l : Launch} {e : Env} {R : Room} {s : State} {m : MethodId} {args : Array Value} {below : List Frame} {meth : Method} {c : Code} {Q : State → Prop} {H : Heap} {locs : List Loc}
    (B : BX M G d Post p l e R s m args below meth c Q) (hR : Rep G S I L H) (hS : va_S (AA G) s.heap H locs) : ∀ U : State, U.heap = H → s.WarmedH U.vm → PP G As S I L (As.map (vmap G)).toArray U :=
  fun U hU hW => ⟨rfl, by rw [hU]; exact hR, B.2.1.go hW hU hS.1 hS.2.1, va_K.moved hW.alike B.2.2.1⟩
section CALLS
variable {M M2 : MI} {G : WG} {d rc rs mc ms d2 : Nat} {S : Shp} {I : IM} {L : LM} {pc : Nat} {loc rest As : List Value} {Post : PostT} {Sp : SpT} {n idx : Nat}
theorem x_callV {k ci : Nat} {st : List Value} (hM : Con M2 d2 mc ms Sp) (ho : VOk M2 n) (hl : Cond.methodLink (my M).cls idx (my M2) ∈ lwT) (hd : decode (mcc M) pc = .ok (.invokevirtual idx, 3)) (hdd : Nat.ble (d2 + 1) d = true) (hst : st = As.reverse ++ .ref k :: rest) (hn : As.length = n) (hk : kd S k = ci) (hkn : Nat.ble (k + 1) (sn S) = true) (hci : (vwCl[ci]?).map (fun q => q.1) = some (my M2).cls) (hrest : Nat.ble (rest.map Value.category).sum 8 = true)
    (hSp : Sp (.ref k :: As) S I L (fun v S' I' L' => X M G (d, rc, rs) S' I' L' (pc + 3) loc (v.toList ++ rest) Post)) : X M G (d, rc + mc, rs + ms) S I L pc loc st Post := by
  intro p l e R s m args below meth c Q B H locs cells slots ls hc hs hR hS hL
  subst hst
  obtain ⟨⟨o1, o2, o3, o4⟩, o5, o6⟩ := ho
  have hdd' : d2 + 1 ≤ d := Nat.le_of_ble_eq_true hdd
  obtain ⟨hkn', ha⟩ := hR.lt hkn
  have hf1 : d ≤ R.frames := B.2.2.2.2.2.1
  have hf2 : 500 * d ≤ R.locals := B.2.2.2.2.2.2
  dsimp only at hc hs
  cases hq : vwCl[ci]? with
  | none => rw [hq] at hci; cases hci
  | some q =>
    rw [hq] at hci
    have hqc : q.1 = (my M2).cls := Option.some.inj hci
    obtain ⟨-, -, -, -, -, c6⟩ := cls_ok ci q hq
    have hrecv := va_recv B.2.2.1 hR.2.2 hq (wsl_obj G S I L hkn' hk c6)
    rw [hqc] at hrecv
    have e0 : (As.reverse ++ Value.ref k :: rest).map (vmap G) = (As.map (vmap G)).reverse ++ .ref (gb G + k) :: rest.map (vmap G) := by
      rw [List.map_append, List.map_reverse, List.map_cons]
      show _ ++ Value.ref (adr G k) :: _ = _
      rw [ha]
    have hpre := x_pre (As := .ref k :: As) B hR hS
    have e1 : ((Value.ref k :: As).map (vmap G)) = .ref (gb G + k) :: As.map (vmap G) := by
      show Value.ref (adr G k) :: _ = _
      rw [ha]
    rw [e1] at hpre
    rw [e0]
    refine x_back B (by omega) (by omega) hS hL (va_runV (nL := mnl M) (As := As.map (vmap G)) (rest := rest.map (vmap G)) (n := n) (Ts := lwT) (own := (my M).cls) (C := (my M2).cls) ⟨B.1.1, B.1.2.1, B.1.2.2.1, B.1.2.2.2.1, B.1.2.2.2.2.1⟩ (hM G l _ S I L _ hSp) (cwV n B.1.2.2.2.2.1 (good_in ?_) rfl rfl rfl ⟨rfl, o3⟩ ⟨by show d2 + 1 ≤ R.frames; omega, by show 8 + (mnl M2 + 11) + 500 * d2 ≤ R.locals; omega⟩) ⟨PP.blind, hrecv, hpre⟩ rfl (by rw [List.length_map]; exact hn) hL.1 rfl ?_ hd ⟨by omega, by omega⟩)
    · intro w hw
      rcases List.mem_append.mp hw with hw | hw
      · simp only [List.mem_cons, List.not_mem_nil, or_false] at hw
        rcases hw with rfl | rfl | rfl | rfl
        · exact hl
        · exact o5
        · exact o6
        · exact o2
      · exact mws_in o1 w hw
    · rw [cat_map]
      exact lv_room (pc := pc) (ls := ls) (m := m) (Nat.le_of_ble_eq_true hrest)
theorem x_callVN {k ci : Nat} {st : List Value} (hM : Con M2 d2 mc ms Sp) (ho : VOk M2 n) {host : String} (hl : ((my M).cls, idx, my M2, host) ∈ nwM) (hd : decode (mcc M) pc = .ok (.invokevirtual idx, 3)) (hdd : Nat.ble (d2 + 1) d = true) (hst : st = As.reverse ++ .ref k :: rest) (hn : As.length = n) (hk : kd S k = ci) (hkn : Nat.ble (k + 1) (sn S) = true) (hci : (vwCl[ci]?).map (fun q => q.1) = some (my M2).cls) (hrest : Nat.ble (rest.map Value.category).sum 8 = true)
    (hSp : Sp (.ref k :: As) S I L (fun v S' I' L' => X M G (d, rc, rs) S' I' L' (pc + 3) loc (v.toList ++ rest) Post)) : X M G (d, rc + mc, rs + ms) S I L pc loc st Post := by
  intro p l e R s m args below meth c Q B H locs cells slots ls hc hs hR hS hL
  subst hst
  obtain ⟨⟨o1, o2, o3, o4⟩, o5, o6⟩ := ho
  have hdd' : d2 + 1 ≤ d := Nat.le_of_ble_eq_true hdd
  obtain ⟨hkn', ha⟩ := hR.lt hkn
  have hf1 : d ≤ R.frames := B.2.2.2.2.2.1
  have hf2 : 500 * d ≤ R.locals := B.2.2.2.2.2.2
  dsimp only at hc hs
  cases hq : vwCl[ci]? with
  | none => rw [hq] at hci; cases hci
  | some q =>
    rw [hq] at hci
    have hqc : q.1 = (my M2).cls := Option.some.inj hci
    obtain ⟨-, -, -, -, -, c6⟩ := cls_ok ci q hq
    have hrecv := va_recv B.2.2.1 hR.2.2 hq (wsl_obj G S I L hkn' hk c6)
    rw [hqc] at hrecv
    have e0 : (As.reverse ++ Value.ref k :: rest).map (vmap G) = (As.map (vmap G)).reverse ++ .ref (gb G + k) :: rest.map (vmap G) := by
      rw [List.map_append, List.map_reverse, List.map_cons]
      show _ ++ Value.ref (adr G k) :: _ = _
      rw [ha]
    have hpre := x_pre (As := .ref k :: As) B hR hS
    have e1 : ((Value.ref k :: As).map (vmap G)) = .ref (gb G + k) :: As.map (vmap G) := by
      show Value.ref (adr G k) :: _ = _
      rw [ha]
    rw [e1] at hpre
    rw [e0]
    refine x_back B (by omega) (by omega) hS hL (va_runVN (nL := mnl M) (As := As.map (vmap G)) (rest := rest.map (vmap G)) (n := n) (Ts := lwT) (own := (my M).cls) (C := (my M2).cls) ⟨B.1.1, B.1.2.1, B.1.2.2.1, B.1.2.2.2.1, B.1.2.2.2.2.1⟩ (hM G l _ S I L _ hSp) ⟨va_cnB n B.1.2.2.2.2.1 (good_in (mws_in o1)) rfl rfl rfl (B.2.1.2.2.2.2.2.2.2.2.2.1 _ hl) (B.1.2.2.2.2.1 _ o2) o3 ⟨by show d2 + 1 ≤ R.frames; omega, by show 8 + (mnl M2 + 11) + 500 * d2 ≤ R.locals; omega⟩, B.1.2.2.2.2.1 _ o5, B.1.2.2.2.2.1 _ o6⟩ ⟨PP.blind, hrecv, hpre⟩ rfl (by rw [List.length_map]; exact hn) hL.1 rfl ?_ hd ⟨by omega, by omega⟩)
    · rw [cat_map]
      exact lv_room (pc := pc) (ls := ls) (m := m) (Nat.le_of_ble_eq_true hrest)
theorem x_callS {st : List Value} (hM : Con M2 d2 mc ms Sp) (ho : SOk M2 n) (hl : Cond.methodLink (my M).cls idx (my M2) ∈ lwT) (hd : decode (mcc M) pc = .ok (.invokestatic idx, 3)) (hdd : Nat.ble (d2 + 1) d = true) (hst : st = As.reverse ++ rest) (hn : As.length = n) (hrest : Nat.ble (rest.map Value.category).sum 8 = true)
    (hSp : Sp As S I L (fun v S' I' L' => X M G (d, rc, rs) S' I' L' (pc + 3) loc (v.toList ++ rest) Post)) : X M G (d, rc + mc, rs + ms) S I L pc loc st Post := by
  intro p l e R s m args below meth c Q B H locs cells slots ls hc hs hR hS hL
  subst hst
  obtain ⟨⟨o1, o2, o3, o4⟩, o5⟩ := ho
  have hdd' : d2 + 1 ≤ d := Nat.le_of_ble_eq_true hdd
  have hf1 : d ≤ R.frames := B.2.2.2.2.2.1
  have hf2 : 500 * d ≤ R.locals := B.2.2.2.2.2.2
  dsimp only at hc hs
  have e0 : (As.reverse ++ rest).map (vmap G) = (As.map (vmap G)).reverse ++ rest.map (vmap G) := by
    rw [List.map_append, List.map_reverse]
  have hpre := x_pre (As := As) B hR hS
  rw [e0]
  refine x_back B (by omega) (by omega) hS hL (va_runS (nL := mnl M) (As := As.map (vmap G)) (rest := rest.map (vmap G)) (n := n) (Ts := lwT) (own := (my M).cls) ⟨B.1.1, B.1.2.1, B.1.2.2.1, B.1.2.2.2.1, B.1.2.2.2.2.1⟩ (hM G l _ S I L _ hSp) (va_cwS n B.1.2.2.2.2.1 (good_in ?_) rfl rfl rfl o3 ⟨by show d2 + 1 ≤ R.frames; omega, by show 8 + (mnl M2 + 11) + 500 * d2 ≤ R.locals; omega⟩) ⟨PP.blind, hpre⟩ rfl (by rw [List.length_map]; exact hn) hL.1 rfl ?_ hd ⟨by omega, by omega⟩)
  · intro w hw
    rcases List.mem_append.mp hw with hw | hw
    · simp only [List.mem_cons, List.not_mem_nil, or_false] at hw
      rcases hw with rfl | rfl | rfl
      · exact hl
      · exact o5
      · exact o2
    · exact mws_in o1 w hw
  · rw [cat_map]
    exact lv_room (pc := pc) (ls := ls) (m := m) (Nat.le_of_ble_eq_true hrest)
theorem x_callSN {st : List Value} (hM : Con M2 d2 mc ms Sp) (ho : SOk M2 n) {host : String} (hl : ((my M).cls, idx, my M2, host) ∈ nwM) (hd : decode (mcc M) pc = .ok (.invokestatic idx, 3)) (hdd : Nat.ble (d2 + 1) d = true) (hst : st = As.reverse ++ rest) (hn : As.length = n) (hrest : Nat.ble (rest.map Value.category).sum 8 = true)
    (hSp : Sp As S I L (fun v S' I' L' => X M G (d, rc, rs) S' I' L' (pc + 3) loc (v.toList ++ rest) Post)) : X M G (d, rc + mc, rs + ms) S I L pc loc st Post := by
  intro p l e R s m args below meth c Q B H locs cells slots ls hc hs hR hS hL
  subst hst
  obtain ⟨⟨o1, o2, o3, o4⟩, o5⟩ := ho
  have hdd' : d2 + 1 ≤ d := Nat.le_of_ble_eq_true hdd
  have hf1 : d ≤ R.frames := B.2.2.2.2.2.1
  have hf2 : 500 * d ≤ R.locals := B.2.2.2.2.2.2
  dsimp only at hc hs
  have e0 : (As.reverse ++ rest).map (vmap G) = (As.map (vmap G)).reverse ++ rest.map (vmap G) := by
    rw [List.map_append, List.map_reverse]
  have hpre := x_pre (As := As) B hR hS
  rw [e0]
  refine x_back B (by omega) (by omega) hS hL (va_runSN (nL := mnl M) (As := As.map (vmap G)) (rest := rest.map (vmap G)) (n := n) (Ts := lwT) (own := (my M).cls) ⟨B.1.1, B.1.2.1, B.1.2.2.1, B.1.2.2.2.1, B.1.2.2.2.2.1⟩ (hM G l _ S I L _ hSp) ⟨va_cnB n B.1.2.2.2.2.1 (good_in (mws_in o1)) rfl rfl rfl (B.2.1.2.2.2.2.2.2.2.2.2.1 _ hl) (B.1.2.2.2.2.1 _ o2) o3 ⟨by show d2 + 1 ≤ R.frames; omega, by show 8 + (mnl M2 + 11) + 500 * d2 ≤ R.locals; omega⟩, B.1.2.2.2.2.1 _ o5, trivial⟩ ⟨PP.blind, hpre⟩ rfl (by rw [List.length_map]; exact hn) hL.1 rfl ?_ hd ⟨by omega, by omega⟩)
  · rw [cat_map]
    exact lv_room (pc := pc) (ls := ls) (m := m) (Nat.le_of_ble_eq_true hrest)
theorem x_callI {k ci : Nat} {st : List Value} (hM : Con M2 d2 mc ms Sp) (ho : IOk M2 n) (hrt : mret M2 = none) (hl : Cond.methodLink (my M).cls idx (my M2) ∈ lwT) (hd : decode (mcc M) pc = .ok (.invokespecial idx, 3)) (hdd : Nat.ble (d2 + 1) d = true) (hst : st = As.reverse ++ .ref k :: rest) (hn : As.length = n) (hk : kd S k = ci) (hkn : Nat.ble (k + 1) (sn S) = true) (hci : (vwCl[ci]?).map (fun q => q.1) = some (my M2).cls) (hrest : Nat.ble (rest.map Value.category).sum 8 = true)
    (hSp : Sp (.ref k :: As) S I L (fun v S' I' L' => X M G (d, rc, rs) S' I' L' (pc + 3) loc (v.toList ++ rest) Post)) : X M G (d, rc + mc, rs + ms) S I L pc loc st Post := by
  intro p l e R s m args below meth c Q B H locs cells slots ls hc hs hR hS hL
  subst hst
  obtain ⟨⟨o1, o2, o3, o4⟩, o5, o6⟩ := ho
  have hdd' : d2 + 1 ≤ d := Nat.le_of_ble_eq_true hdd
  obtain ⟨hkn', ha⟩ := hR.lt hkn
  have hf1 : d ≤ R.frames := B.2.2.2.2.2.1
  have hf2 : 500 * d ≤ R.locals := B.2.2.2.2.2.2
  dsimp only at hc hs
  cases hq : vwCl[ci]? with
  | none => rw [hq] at hci; cases hci
  | some q =>
    rw [hq] at hci
    have hqc : q.1 = (my M2).cls := Option.some.inj hci
    obtain ⟨-, -, -, -, -, c6⟩ := cls_ok ci q hq
    have hrecv := va_recv B.2.2.1 hR.2.2 hq (wsl_obj G S I L hkn' hk c6)
    rw [hqc] at hrecv
    have e0 : (As.reverse ++ Value.ref k :: rest).map (vmap G) = (As.map (vmap G)).reverse ++ .ref (gb G + k) :: rest.map (vmap G) := by
      rw [List.map_append, List.map_reverse, List.map_cons]
      show _ ++ Value.ref (adr G k) :: _ = _
      rw [ha]
    have hpre := x_pre (As := .ref k :: As) B hR hS
    have e1 : ((Value.ref k :: As).map (vmap G)) = .ref (gb G + k) :: As.map (vmap G) := by
      show Value.ref (adr G k) :: _ = _
      rw [ha]
    rw [e1] at hpre
    rw [e0]
    refine x_back B (by omega) (by omega) hS hL (va_runI (nL := mnl M) (As := As.map (vmap G)) (rest := rest.map (vmap G)) (n := n) (Ts := lwT) (own := (my M).cls) ⟨B.1.1, B.1.2.1, B.1.2.2.1, B.1.2.2.2.1, B.1.2.2.2.2.1⟩ (hM G l _ S I L _ hSp) (cwI n B.1.2.2.2.2.1 (good_in (mws_in o1)) (show mws M2 = Cond.code (my M2) (mcc M2) (mnl M2) none :: lwT by rw [mws, hrt]) rfl rfl (B.1.2.2.2.2.1 _ o2) (B.1.2.2.2.2.1 _ hl) (B.1.2.2.2.2.1 _ o5) o6 o3 ⟨by show d2 + 1 ≤ R.frames; omega, by show 8 + (mnl M2 + 11) + 500 * d2 ≤ R.locals; omega⟩) ⟨PP.blind, hpre⟩ rfl (by rw [List.length_map]; exact hn) hL.1 rfl ?_ hd ⟨by omega, by omega⟩)
    · rw [cat_map]
      exact lv_room (pc := pc) (ls := ls) (m := m) (Nat.le_of_ble_eq_true hrest)
theorem x_callIN {k ci : Nat} {st : List Value} (hM : Con M2 d2 mc ms Sp) (ho : IOk M2 n) (hrt : mret M2 = none) {host : String} (hl : ((my M).cls, idx, my M2, host) ∈ nwM) (hd : decode (mcc M) pc = .ok (.invokespecial idx, 3)) (hdd : Nat.ble (d2 + 1) d = true) (hst : st = As.reverse ++ .ref k :: rest) (hn : As.length = n) (hk : kd S k = ci) (hkn : Nat.ble (k + 1) (sn S) = true) (hci : (vwCl[ci]?).map (fun q => q.1) = some (my M2).cls) (hrest : Nat.ble (rest.map Value.category).sum 8 = true)
    (hSp : Sp (.ref k :: As) S I L (fun v S' I' L' => X M G (d, rc, rs) S' I' L' (pc + 3) loc (v.toList ++ rest) Post)) : X M G (d, rc + mc, rs + ms) S I L pc loc st Post := by
  intro p l e R s m args below meth c Q B H locs cells slots ls hc hs hR hS hL
  subst hst
  obtain ⟨⟨o1, o2, o3, o4⟩, o5, o6⟩ := ho
  have hdd' : d2 + 1 ≤ d := Nat.le_of_ble_eq_true hdd
  obtain ⟨hkn', ha⟩ := hR.lt hkn
  have hf1 : d ≤ R.frames := B.2.2.2.2.2.1
  have hf2 : 500 * d ≤ R.locals := B.2.2.2.2.2.2
  dsimp only at hc hs
  cases hq : vwCl[ci]? with
  | none => rw [hq] at hci; cases hci
  | some q =>
    rw [hq] at hci
    have hqc : q.1 = (my M2).cls := Option.some.inj hci
    obtain ⟨-, -, -, -, -, c6⟩ := cls_ok ci q hq
    have hrecv := va_recv B.2.2.1 hR.2.2 hq (wsl_obj G S I L hkn' hk c6)
    rw [hqc] at hrecv
    have e0 : (As.reverse ++ Value.ref k :: rest).map (vmap G) = (As.map (vmap G)).reverse ++ .ref (gb G + k) :: rest.map (vmap G) := by
      rw [List.map_append, List.map_reverse, List.map_cons]
      show _ ++ Value.ref (adr G k) :: _ = _
      rw [ha]
    have hpre := x_pre (As := .ref k :: As) B hR hS
    have e1 : ((Value.ref k :: As).map (vmap G)) = .ref (gb G + k) :: As.map (vmap G) := by
      show Value.ref (adr G k) :: _ = _
      rw [ha]
    rw [e1] at hpre
    rw [e0]
    refine x_back B (by omega) (by omega) hS hL (va_runIN (nL := mnl M) (As := As.map (vmap G)) (rest := rest.map (vmap G)) (n := n) (Ts := lwT) (own := (my M).cls) ⟨B.1.1, B.1.2.1, B.1.2.2.1, B.1.2.2.2.1, B.1.2.2.2.2.1⟩ (hM G l _ S I L _ hSp) ⟨va_cnB n B.1.2.2.2.2.1 (good_in (mws_in o1)) (show mws M2 = Cond.code (my M2) (mcc M2) (mnl M2) none :: lwT by rw [mws, hrt]) rfl rfl (B.2.1.2.2.2.2.2.2.2.2.2.1 _ hl) (B.1.2.2.2.2.1 _ o2) o3 ⟨by show d2 + 1 ≤ R.frames; omega, by show 8 + (mnl M2 + 11) + 500 * d2 ≤ R.locals; omega⟩, o6, B.1.2.2.2.2.1 _ o5⟩ ⟨PP.blind, hpre⟩ rfl (by rw [List.length_map]; exact hn) hL.1 rfl ?_ hd ⟨by omega, by omega⟩)
    · rw [cat_map]
      exact lv_room (pc := pc) (ls := ls) (m := m) (Nat.le_of_ble_eq_true hrest)
end CALLS
end
section
-- 06.more
/-! the machine's own methods, statics, what stands outside -/
section MORE
variable {M : MI} {G : WG} {r : Nat × Nat × Nat} {S : Shp} {I : IM} {L : LM} {pc : Nat} {loc rest : List Value} {Post : PostT}
theorem x_objInit {idx k : Nat} (hd : decode (mcc M) pc = .ok (.invokespecial idx, 3)) (hl : Cond.methodLink (my M).cls idx Lib.objectInit ∈ lwT) (h2 : Cond.instanceMethod Lib.objectInit ∈ lwT) (h3 : Cond.code Lib.objectInit ⟨#[0xb1]⟩ 1 none ∈ lwT) (hr1 : Nat.ble 1 r.1 = true) (hrest : Nat.ble (rest.map Value.category).sum 8 = true)
    (kk : X M G r S I L (pc + 3) loc rest Post) : X M G r S I L pc loc (.ref k :: rest) Post := by
  intro p l e R s m args below meth c Q B H locs cells slots ls hc hs hR hS hL
  have hf1 : r.1 ≤ R.frames := B.2.2.2.2.2.1
  have hf2 : 500 * r.1 ≤ R.locals := B.2.2.2.2.2.2
  have h1 : 1 ≤ r.1 := Nat.le_of_ble_eq_true hr1
  refine W.objInit B.1.1 B.1.2.1 B.1.2.2.2.1 (B.1.2.2.2.2.1 _ hl) (B.1.2.2.2.2.1 _ h2) (B.1.2.2.2.2.1 _ h3) (g := F0 m pc ls ((Value.ref k :: rest).map (vmap G))) rfl (hL.1.trans B.1.2.2.1.symm) rfl hd (by omega) ?_ (kk p l e R s m args below meth c Q B H locs cells slots ls hc hs hR hS hL)
  have h4 := lv_room (pc := pc) (ls := ls) (m := m) (rest := (Value.ref k :: rest).map (vmap G)) (st := rest) (Nat.le_of_ble_eq_true hrest)
  rw [cat_map]
  omega
theorem x_mmax {idx : Nat} {x y : Int32} (hd : decode (mcc M) pc = .ok (.invokestatic idx, 3)) (hl : Cond.methodLink (my M).cls idx Lib.Math.max.name ∈ lwT) (h2 : Cond.static Lib.Math.max.name ∈ lwT) (h3 : Cond.initialized "java/lang/Math" ∈ lwT) (h4 : Cond.code Lib.Math.max.name Lib.Math.max.code 2 (some .int) ∈ lwT) (hr1 : Nat.ble 1 r.1 = true) (hrest : Nat.ble (rest.map Value.category).sum 8 = true)
    (kk : X M G r S I L (pc + 3) loc (.int (if x < y then y else x) :: rest) Post) : X M G r S I L pc loc (.int y :: .int x :: rest) Post := by
  intro p l e R s m args below meth c Q B H locs cells slots ls hc hs hR hS hL
  have hf1 : r.1 ≤ R.frames := B.2.2.2.2.2.1
  have hf2 : 500 * r.1 ≤ R.locals := B.2.2.2.2.2.2
  have h1 : 1 ≤ r.1 := Nat.le_of_ble_eq_true hr1
  have h5 := Nat.le_of_ble_eq_true hrest
  exact va_mmax B.1.1 B.1.2.1 (B.1.2.2.1.trans hL.1.symm) B.1.2.2.2.1 (B.1.2.2.2.2.1 _ hl) (B.1.2.2.2.2.1 _ h2) (B.1.2.2.2.2.1 _ h3) (B.1.2.2.2.2.1 _ h4) (by omega) (by rw [cat_map]; show (rest.map Value.category).sum + 13 ≤ _; omega) (by omega) (by omega) hd (kk p l e R s m args below meth c Q B H locs cells slots ls hc hs hR hS hL)
theorem x_mmin {idx : Nat} {x y : Int32} (hd : decode (mcc M) pc = .ok (.invokestatic idx, 3)) (hl : Cond.methodLink (my M).cls idx Lib.Math.min.name ∈ lwT) (h2 : Cond.static Lib.Math.min.name ∈ lwT) (h3 : Cond.initialized "java/lang/Math" ∈ lwT) (h4 : Cond.code Lib.Math.min.name Lib.Math.min.code 2 (some .int) ∈ lwT) (hr1 : Nat.ble 1 r.1 = true) (hrest : Nat.ble (rest.map Value.category).sum 8 = true)
    (kk : X M G r S I L (pc + 3) loc (.int (if y < x then y else x) :: rest) Post) : X M G r S I L pc loc (.int y :: .int x :: rest) Post := by
  intro p l e R s m args below meth c Q B H locs cells slots ls hc hs hR hS hL
  have hf1 : r.1 ≤ R.frames := B.2.2.2.2.2.1
  have hf2 : 500 * r.1 ≤ R.locals := B.2.2.2.2.2.2
  have h1 : 1 ≤ r.1 := Nat.le_of_ble_eq_true hr1
  have h5 := Nat.le_of_ble_eq_true hrest
  exact va_mmin B.1.1 B.1.2.1 (B.1.2.2.1.trans hL.1.symm) B.1.2.2.2.1 (B.1.2.2.2.2.1 _ hl) (B.1.2.2.2.2.1 _ h2) (B.1.2.2.2.2.1 _ h3) (B.1.2.2.2.2.1 _ h4) (by omega) (by rw [cat_map]; show (rest.map Value.category).sum + 13 ≤ _; omega) (by omega) (by omega) hd (kk p l e R s m args below meth c Q B H locs cells slots ls hc hs hR hS hL)
theorem x_mabs {idx : Nat} {x : Int32} (hd : decode (mcc M) pc = .ok (.invokestatic idx, 3)) (hl : Cond.methodLink (my M).cls idx Lib.Math.abs.name ∈ lwT) (h2 : Cond.static Lib.Math.abs.name ∈ lwT) (h3 : Cond.initialized "java/lang/Math" ∈ lwT) (h4 : Cond.code Lib.Math.abs.name Lib.Math.abs.code 1 (some .int) ∈ lwT) (hr1 : Nat.ble 1 r.1 = true) (hrest : Nat.ble (rest.map Value.category).sum 8 = true)
    (kk : X M G r S I L (pc + 3) loc (.int (if 0 ≤ x then x else 0 - x) :: rest) Post) : X M G r S I L pc loc (.int x :: rest) Post := by
  intro p l e R s m args below meth c Q B H locs cells slots ls hc hs hR hS hL
  have hf1 : r.1 ≤ R.frames := B.2.2.2.2.2.1
  have hf2 : 500 * r.1 ≤ R.locals := B.2.2.2.2.2.2
  have h1 : 1 ≤ r.1 := Nat.le_of_ble_eq_true hr1
  have h5 := Nat.le_of_ble_eq_true hrest
  exact va_mabs B.1.1 B.1.2.1 (B.1.2.2.1.trans hL.1.symm) B.1.2.2.2.1 (B.1.2.2.2.2.1 _ hl) (B.1.2.2.2.2.1 _ h2) (B.1.2.2.2.2.1 _ h3) (B.1.2.2.2.2.1 _ h4) (by omega) (by rw [cat_map]; show (rest.map Value.category).sum + 13 ≤ _; omega) (by omega) (by omega) hd (kk p l e R s m args below meth c Q B H locs cells slots ls hc hs hR hS hL)
/-- KIND_ABOVE: the reference, and a cell of it -/
theorem x_getsKA {idx : Nat} (hd : decode (mcc M) pc = .ok (.getstatic idx, 3)) (hl : ((my M).cls, idx, "WhoeverHeard", "KIND_ABOVE", "[I", "WhoeverHeard") ∈ nwF) (kk : X M G r S I L (pc + 3) loc (.ref (1000000 + 100) :: rest) Post) : X M G r S I L pc loc rest Post := by
  intro p l e R s m args below meth c Q B H locs cells slots ls hc hs hR hS hL
  have K := kk p l e R s m args below meth c Q B H locs cells slots ls hc hs hR hS hL
  have e0 : (Value.ref (1000000 + 100) :: rest).map (vmap G) = .ref (gf G 100) :: rest.map (vmap G) := by
    show Value.ref (adr G (1000000 + 100)) :: _ = _
    rw [adr_f]
  rw [e0] at K
  exact va_getsN B.1.1 B.1.2.1 B.2.1.1 hS B.1.2.2.2.1 (va_Nw.use rfl (B.2.1.2.2.2.2.2.2.2.2.2.2 _ hl)) (fun x hx => hx) hd K
theorem x_ialdKA {i v : Int32} (hd : decode (mcc M) pc = .ok (.iaload, 1)) (hi : vp_in i 6) (hv : kaL.getD i.toNatClampNeg 0 = v) (kk : X M G r S I L (pc + 1) loc (.int v :: rest) Post) : X M G r S I L pc loc (.int i :: .ref (1000000 + 100) :: rest) Post := by
  intro p l e R s m args below meth c Q B H locs cells slots ls hc hs hR hS hL
  have e0 : (Value.int i :: Value.ref (1000000 + 100) :: rest).map (vmap G) = .int i :: .ref (gf G 100) :: rest.map (vmap G) := by
    show Value.int i :: Value.ref (adr G (1000000 + 100)) :: _ = _
    rw [adr_f]
  rw [e0]
  exact va_ti B.1.1 B.1.2.1 B.2.1.2.1 hS hi (v := .int v) (by rw [hv]) hd (kk p l e R s m args below meth c Q B H locs cells slots ls hc hs hR hS hL)
/-- the script -/
theorem x_ialdS {i : Int32} (hd : decode (mcc M) pc = .ok (.iaload, 1)) (hi : vp_in i (gL G)) (kk : X M G r S I L (pc + 1) loc (.int (gx G i.toNatClampNeg) :: rest) Post) : X M G r S I L pc loc (.int i :: .ref (1000000 + 200) :: rest) Post := by
  intro p l e R s m args below meth c Q B H locs cells slots ls hc hs hR hS hL
  have e0 : (Value.int i :: Value.ref (1000000 + 200) :: rest).map (vmap G) = .int i :: .ref (gf G 200) :: rest.map (vmap G) := by
    show Value.int i :: Value.ref (adr G (1000000 + 200)) :: _ = _
    rw [adr_f]
  rw [e0]
  have h9 : ¬ AA G (gf G 200) := by
    have := B.2.1.2.2.2.2.2.2.2.2.1
    show ¬ (gb G ≤ gf G 200)
    omega
  exact va_sld B.1.1 B.1.2.1 B.2.1.2.2.2.2.2.2.1 B.2.1.2.2.2.2.2.2.2.1 h9 hS hi hd (kk p l e R s m args below meth c Q B H locs cells slots ls hc hs hR hS hL)
theorem x_alenS {v : Int32} (hd : decode (mcc M) pc = .ok (.arraylength, 1)) (hv : nI (gL G) = v) (kk : X M G r S I L (pc + 1) loc (.int v :: rest) Post) : X M G r S I L pc loc (.ref (1000000 + 200) :: rest) Post := by
  intro p l e R s m args below meth c Q B H locs cells slots ls hc hs hR hS hL
  have K := kk p l e R s m args below meth c Q B H locs cells slots ls hc hs hR hS hL
  have e0 : (Value.ref (1000000 + 200) :: rest).map (vmap G) = .ref (gf G 200) :: rest.map (vmap G) := by
    show Value.ref (adr G (1000000 + 200)) :: _ = _
    rw [adr_f]
  rw [e0]
  have h9 : ¬ AA G (gf G 200) := by
    have := B.2.1.2.2.2.2.2.2.2.2.1
    show ¬ (gb G ≤ gf G 200)
    omega
  subst hv
  exact va_slen B.1.1 B.1.2.1 B.2.1.2.2.2.2.2.2.1 B.2.1.2.2.2.2.2.2.2.1 h9 hS hd K
/-- a string constant -/
theorem x_ldcS {i idx : Nat} (hd : decode (mcc M) pc = .ok (.ldc idx, 2)) (hi : Nat.ble (i + 1) nStr = true) (ho : stO.getD i "" = (my M).cls) (hk : stK.getD i 0 = idx) (kk : X M G r S I L (pc + 2) loc (.ref (1000000 + i) :: rest) Post) : X M G r S I L pc loc rest Post := by
  intro p l e R s m args below meth c Q B H locs cells slots ls hc hs hR hS hL
  have K := kk p l e R s m args below meth c Q B H locs cells slots ls hc hs hR hS hL
  have e0 : (Value.ref (1000000 + i) :: rest).map (vmap G) = .ref (gf G i) :: rest.map (vmap G) := by
    show Value.ref (adr G (1000000 + i)) :: _ = _
    rw [adr_f]
  rw [e0] at K
  have hz := B.2.1.2.2.1 i (Nat.le_of_ble_eq_true hi)
  rw [ho, hk] at hz
  exact va_ldcS B.1.1 B.1.2.1 B.1.2.2.2.1 hz hd K
theorem clampT (z : Int32) (hz : ¬ z < 0) : z.toInt = (z.toNatClampNeg : Int) := by
  have hz0 : (0 : Int) ≤ z.toInt := by
    have := Int32.not_lt.mp hz
    simpa using Int32.le_iff_toInt_le.mp this
  show z.toInt = ((z.toInt.toNat : Nat) : Int)
  omega
/-- System.arraycopy between two int arrays (or one) -/
theorem x_acopy {idx k0 k1 n0 n1 : Nat} {sp dp n : Int32} (hd : decode (mcc M) pc = .ok (.invokestatic idx, 3)) (hl : Cond.methodLink (my M).cls idx arraycopyName ∈ lwT) (h2 : Cond.native arraycopyName ∈ lwT) (h3 : Cond.static arraycopyName ∈ lwT) (h4 : Cond.initialized "java/lang/System" ∈ lwT)
    (hk0 : kd S k0 = n0 + 100) (hn0 : Nat.ble (k0 + 1) (sn S) = true) (hk1 : kd S k1 = n1 + 100) (hn1 : Nat.ble (k1 + 1) (sn S) = true) (hr1 : Nat.ble 1 r.1 = true) (hrest : Nat.ble (rest.map Value.category).sum 8 = true)
    (hs1 : ¬ sp < 0) (hs2 : ¬ dp < 0) (hs3 : ¬ n < 0) (hs4 : sp.toNatClampNeg + n.toNatClampNeg ≤ n0) (hs5 : dp.toNatClampNeg + n.toNatClampNeg ≤ n1)
    (kk : X M G r S (upr I k1 (va_cpy (I k0) (I k1) sp.toNatClampNeg dp.toNatClampNeg n.toNatClampNeg)) L (pc + 3) loc rest Post) : X M G r S I L pc loc (.int n :: .int dp :: .ref k1 :: .int sp :: .ref k0 :: rest) Post := by
  intro p l e R s m args below meth c Q B H locs cells slots ls hc hs hR hS hL
  have hf1 : r.1 ≤ R.frames := B.2.2.2.2.2.1
  have hf2 : 500 * r.1 ≤ R.locals := B.2.2.2.2.2.2
  have h1 : 1 ≤ r.1 := Nat.le_of_ble_eq_true hr1
  have h5 := Nat.le_of_ble_eq_true hrest
  obtain ⟨hkn0, ha0⟩ := hR.lt hn0
  obtain ⟨hkn1, ha1⟩ := hR.lt hn1
  have e0 : (Value.int n :: Value.int dp :: Value.ref k1 :: Value.int sp :: Value.ref k0 :: rest).map (vmap G) = .int n :: .int dp :: .ref (gb G + k1) :: .int sp :: .ref (gb G + k0) :: rest.map (vmap G) := by
    show Value.int n :: Value.int dp :: Value.ref (adr G k1) :: Value.int sp :: Value.ref (adr G k0) :: _ = _
    rw [ha0, ha1]
  rw [e0]
  have w0 := wsl_arr G S I L hkn0 hk0
  have w1 := wsl_arr G S I L hkn1 hk1
  have hD := wsl_D G S I L
  have hc0 : H[gb G + k0]? = some (vp_cell (gA G) (n0, .inl (I k0))) := hR.2.2 k0 _ w0
  have hc1 : H[gb G + k1]? = some (vp_cell (gA G) (n1, .inl (I k1))) := hR.2.2 k1 _ w1
  obtain ⟨-, c0, d0, m0, f0⟩ := (B.2.2.1.2 0 _ rfl).1 n0 (fun j => .int (I k0 j))
  obtain ⟨-, c1, d1, m1, f1⟩ := (B.2.2.1.2 0 _ rfl).1 n1 (fun j => .int (I k1 j))
  have hset : (wsl G S I L).set k1 (gb G + k1, .inl (gA G, (n1, .inl (va_cpy (I k0) (I k1) sp.toNatClampNeg dp.toNatClampNeg n.toNatClampNeg)))) = wsl G S (upr I k1 (va_cpy (I k0) (I k1) sp.toNatClampNeg dp.toNatClampNeg n.toNatClampNeg)) L := by
    refine wsl_set G S I _ L L S hkn1 rfl _ ?_ (fun j hj => cellE_c G S S I _ L L rfl rfl (upr_n I _ hj) rfl)
    rw [cellE_a G S _ L hk1, upr_s]
  intro T hT Y
  obtain ⟨vm', Y', stp⟩ := Y.arraycopy B.1.1 B.1.2.2.2.1 (B.1.2.2.2.2.1 _ hl) (B.1.2.2.2.2.1 _ h2) (B.1.2.2.2.2.1 _ h3) (B.1.2.2.2.2.1 _ h4) (src := gb G + k0) (dst := gb G + k1) (cs := vp_cell (gA G) (n0, .inl (I k0))) (cd := vp_cell (gA G) (n1, .inl (I k1))) (srcPos := sp) (destPos := dp) (n := n) (by rw [hT]; exact hc0) (by rw [hT]; exact hc1)
    (fun _ q => by cases q) (fun _ q => by cases q) (fun q => by cases q) (fun q => by cases q) d0 d1 f0 f1 (by simp [refKind]) hs1 hs2 hs3
    (by rw [clampT sp hs1, clampT n hs3]; show ¬ _ > ((arrV (gA G) n0 (fun j => .int (I k0 j))).slots.size : Int); rw [arrV_size]; omega)
    (by rw [clampT dp hs2, clampT n hs3]; show ¬ _ > ((arrV (gA G) n1 (fun j => .int (I k1 j))).slots.size : Int); rw [arrV_size]; omega)
    (fun vm₁ _ i hi => by
      have e : (vp_cell (gA G) (n0, .inl (I k0))).slots.getD (sp.toNatClampNeg + i) .null = .int (I k0 (sp.toNatClampNeg + i)) := by
        show (arrV (gA G) n0 (fun j => .int (I k0 j))).slots.getD _ _ = _
        rw [Array.getD_eq_getD_getElem?, arrV_read _ _ (by omega)]
        rfl
      rw [e]
      exact ⟨rfl, trivial⟩)
    (g := F0 m pc ls (.int n :: .int dp :: .ref (gb G + k1) :: .int sp :: .ref (gb G + k0) :: rest.map (vmap G))) rfl (hL.1.trans B.1.2.2.1.symm) (rest := rest.map (vmap G)) rfl (by rw [B.1.2.1]; exact hd) (by omega) (by show 2 * 0 + _ + (7 + 11) ≤ _; rw [cat_map]; show 2 * 0 + (rest.map Value.category).sum + _ ≤ _; omega)
  have e1 : copied (vp_cell (gA G) (n0, .inl (I k0))) (vp_cell (gA G) (n1, .inl (I k1))) sp dp n = vp_cell (gA G) (n1, .inl (va_cpy (I k0) (I k1) sp.toNatClampNeg dp.toNatClampNeg n.toNatClampNeg)) := va_copied (fun z => .int z) (gA G) (gA G) (I k0) (I k1) hs4
  rw [e1] at Y' stp
  have hlt : gb G + k1 < H.size := (Array.getElem?_eq_some_iff.mp hc1).1
  have hP1 : va_P (gD G) vwCl (wsl G S (upr I k1 (va_cpy (I k0) (I k1) sp.toNatClampNeg dp.toNatClampNeg n.toNatClampNeg)) L) (H.setIfInBounds (gb G + k1) (vp_cell (gA G) (n1, .inl (va_cpy (I k0) (I k1) sp.toNatClampNeg dp.toNatClampNeg n.toNatClampNeg)))) := by
    rw [← hset]
    exact hR.2.2.set hD w1 (show (H.setIfInBounds (gb G + k1) _)[gb G + k1]? = some _ by simp [Array.getElem?_setIfInBounds, hlt]) (fun q hq => by simp [Array.getElem?_setIfInBounds, Ne.symm hq])
  obtain ⟨t, a1, b1⟩ := kk p l e R s m args below meth c Q B _ _ cells slots ls hc hs ⟨by simp; exact hR.1, hR.2.1, hP1⟩ ⟨by simp; exact hS.1, fun q g1 g2 => by
      have hq : ¬ gb G + k1 = q := fun e => g2 (by rw [← e]; exact Nat.le_add_right _ _)
      rw [show (H.setIfInBounds (gb G + k1) (vp_cell (gA G) (n1, .inl (va_cpy (I k0) (I k1) sp.toNatClampNeg dp.toNatClampNeg n.toNatClampNeg))))[q]? = H[q]? by simp [Array.getElem?_setIfInBounds, hq]]
      exact hS.2.1 q g1 g2, fun q hq => by
      rcases List.mem_append.mp hq with h | h
      · exact hS.2.2 q h
      · obtain ⟨z, -, hz⟩ := List.mem_map.mp h
        rw [← hz]
        exact Nat.le_add_right _ _⟩ hL _ (by rw [← hT]; rfl) Y'
  exact ⟨t, stp t a1, b1⟩
end MORE
end
