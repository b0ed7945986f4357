section
-- ===== PART A: goes FIRST, ahead of the names: the tables' words, and 'selects' of the private methods out of them =====
/-- a private method of a class that the tables say can be made, by its rows of tables_1 -/
def lw_okq (q : MethodName × Nat) : Prop := (q.1.cls ≠ "java/lang/invoke/MethodHandle" ∧ q.1.cls ≠ "java/lang/invoke/VarHandle") ∧ Cond.instantiable q.1.cls q.2 ∈ tables_1 ∧ Cond.privateMethod q.1 ∈ tables_1 ∧ Cond.instanceMethod q.1 ∈ tables_1
theorem lw_p0 : lw_okq (⟨"WhoeverHeard$Reader", "cut", "()V"⟩, 10) := ⟨⟨by decide +kernel, by decide +kernel⟩, List.mem_of_getElem? (i := 165) (by decide +kernel), List.mem_of_getElem? (i := 400) (by decide +kernel), List.mem_of_getElem? (i := 401) (by decide +kernel)⟩
theorem lw_p1 : lw_okq (⟨"WhoeverHeard$Reader", "lettersEnd", "(I)I"⟩, 10) := ⟨⟨by decide +kernel, by decide +kernel⟩, List.mem_of_getElem? (i := 165) (by decide +kernel), List.mem_of_getElem? (i := 410) (by decide +kernel), List.mem_of_getElem? (i := 411) (by decide +kernel)⟩
theorem lw_p2 : lw_okq (⟨"WhoeverHeard$Reader", "putWord", "(II)V"⟩, 10) := ⟨⟨by decide +kernel, by decide +kernel⟩, List.mem_of_getElem? (i := 165) (by decide +kernel), List.mem_of_getElem? (i := 414) (by decide +kernel), List.mem_of_getElem? (i := 415) (by decide +kernel)⟩
theorem lw_p3 : lw_okq (⟨"WhoeverHeard$Reader", "nameAt", "(II)I"⟩, 10) := ⟨⟨by decide +kernel, by decide +kernel⟩, List.mem_of_getElem? (i := 165) (by decide +kernel), List.mem_of_getElem? (i := 418) (by decide +kernel), List.mem_of_getElem? (i := 419) (by decide +kernel)⟩
theorem lw_p4 : lw_okq (⟨"WhoeverHeard$Reader", "spells", "(Ljava/lang/String;II)Z"⟩, 10) := ⟨⟨by decide +kernel, by decide +kernel⟩, List.mem_of_getElem? (i := 165) (by decide +kernel), List.mem_of_getElem? (i := 423) (by decide +kernel), List.mem_of_getElem? (i := 424) (by decide +kernel)⟩
theorem lw_p5 : lw_okq (⟨"WhoeverHeard$Reader", "putToken", "(III)V"⟩, 10) := ⟨⟨by decide +kernel, by decide +kernel⟩, List.mem_of_getElem? (i := 165) (by decide +kernel), List.mem_of_getElem? (i := 434) (by decide +kernel), List.mem_of_getElem? (i := 435) (by decide +kernel)⟩
theorem lw_p6 : lw_okq (⟨"WhoeverHeard$Reader", "keyAt", "(II)I"⟩, 10) := ⟨⟨by decide +kernel, by decide +kernel⟩, List.mem_of_getElem? (i := 165) (by decide +kernel), List.mem_of_getElem? (i := 438) (by decide +kernel), List.mem_of_getElem? (i := 439) (by decide +kernel)⟩
theorem lw_p7 : lw_okq (⟨"WhoeverHeard$Reader", "digitsEnd", "(I)I"⟩, 10) := ⟨⟨by decide +kernel, by decide +kernel⟩, List.mem_of_getElem? (i := 165) (by decide +kernel), List.mem_of_getElem? (i := 451) (by decide +kernel), List.mem_of_getElem? (i := 452) (by decide +kernel)⟩
theorem lw_p8 : lw_okq (⟨"WhoeverHeard$Reader", "putNumber", "(II)V"⟩, 10) := ⟨⟨by decide +kernel, by decide +kernel⟩, List.mem_of_getElem? (i := 165) (by decide +kernel), List.mem_of_getElem? (i := 455) (by decide +kernel), List.mem_of_getElem? (i := 456) (by decide +kernel)⟩
theorem lw_p9 : lw_okq (⟨"WhoeverHeard$Reader", "passes", "(I)Z"⟩, 10) := ⟨⟨by decide +kernel, by decide +kernel⟩, List.mem_of_getElem? (i := 165) (by decide +kernel), List.mem_of_getElem? (i := 462) (by decide +kernel), List.mem_of_getElem? (i := 463) (by decide +kernel)⟩
theorem lw_p10 : lw_okq (⟨"WhoeverHeard$Reader", "level", "(II)Z"⟩, 10) := ⟨⟨by decide +kernel, by decide +kernel⟩, List.mem_of_getElem? (i := 165) (by decide +kernel), List.mem_of_getElem? (i := 466) (by decide +kernel), List.mem_of_getElem? (i := 467) (by decide +kernel)⟩
theorem lw_p11 : lw_okq (⟨"WhoeverHeard$Reader", "negation", "(I)Z"⟩, 10) := ⟨⟨by decide +kernel, by decide +kernel⟩, List.mem_of_getElem? (i := 165) (by decide +kernel), List.mem_of_getElem? (i := 470) (by decide +kernel), List.mem_of_getElem? (i := 471) (by decide +kernel)⟩
theorem lw_p12 : lw_okq (⟨"WhoeverHeard$Reader", "opens", "(II)Z"⟩, 10) := ⟨⟨by decide +kernel, by decide +kernel⟩, List.mem_of_getElem? (i := 165) (by decide +kernel), List.mem_of_getElem? (i := 474) (by decide +kernel), List.mem_of_getElem? (i := 475) (by decide +kernel)⟩
theorem lw_p13 : lw_okq (⟨"WhoeverHeard$Reader", "did", "(I)Z"⟩, 10) := ⟨⟨by decide +kernel, by decide +kernel⟩, List.mem_of_getElem? (i := 165) (by decide +kernel), List.mem_of_getElem? (i := 478) (by decide +kernel), List.mem_of_getElem? (i := 479) (by decide +kernel)⟩
theorem lw_p14 : lw_okq (⟨"WhoeverHeard$Reader", "step", "(I)V"⟩, 10) := ⟨⟨by decide +kernel, by decide +kernel⟩, List.mem_of_getElem? (i := 165) (by decide +kernel), List.mem_of_getElem? (i := 482) (by decide +kernel), List.mem_of_getElem? (i := 483) (by decide +kernel)⟩
theorem lw_p15 : lw_okq (⟨"WhoeverHeard$Reader", "one", "(I)Z"⟩, 10) := ⟨⟨by decide +kernel, by decide +kernel⟩, List.mem_of_getElem? (i := 165) (by decide +kernel), List.mem_of_getElem? (i := 486) (by decide +kernel), List.mem_of_getElem? (i := 487) (by decide +kernel)⟩
def lw_privs_1 : List (MethodName × Nat) := [(⟨"WhoeverHeard$Reader", "cut", "()V"⟩, 10), (⟨"WhoeverHeard$Reader", "lettersEnd", "(I)I"⟩, 10), (⟨"WhoeverHeard$Reader", "putWord", "(II)V"⟩, 10), (⟨"WhoeverHeard$Reader", "nameAt", "(II)I"⟩, 10), (⟨"WhoeverHeard$Reader", "spells", "(Ljava/lang/String;II)Z"⟩, 10), (⟨"WhoeverHeard$Reader", "putToken", "(III)V"⟩, 10), (⟨"WhoeverHeard$Reader", "keyAt", "(II)I"⟩, 10), (⟨"WhoeverHeard$Reader", "digitsEnd", "(I)I"⟩, 10), (⟨"WhoeverHeard$Reader", "putNumber", "(II)V"⟩, 10), (⟨"WhoeverHeard$Reader", "passes", "(I)Z"⟩, 10), (⟨"WhoeverHeard$Reader", "level", "(II)Z"⟩, 10), (⟨"WhoeverHeard$Reader", "negation", "(I)Z"⟩, 10), (⟨"WhoeverHeard$Reader", "opens", "(II)Z"⟩, 10), (⟨"WhoeverHeard$Reader", "did", "(I)Z"⟩, 10), (⟨"WhoeverHeard$Reader", "step", "(I)V"⟩, 10), (⟨"WhoeverHeard$Reader", "one", "(I)Z"⟩, 10)]
theorem lw_r1 : ∀ q ∈ lw_privs_1, lw_okq q := List.forall_mem_cons.mpr ⟨lw_p0, List.forall_mem_cons.mpr ⟨lw_p1, List.forall_mem_cons.mpr ⟨lw_p2, List.forall_mem_cons.mpr ⟨lw_p3, List.forall_mem_cons.mpr ⟨lw_p4, List.forall_mem_cons.mpr ⟨lw_p5, List.forall_mem_cons.mpr ⟨lw_p6, List.forall_mem_cons.mpr ⟨lw_p7, List.forall_mem_cons.mpr ⟨lw_p8, List.forall_mem_cons.mpr ⟨lw_p9, List.forall_mem_cons.mpr ⟨lw_p10, List.forall_mem_cons.mpr ⟨lw_p11, List.forall_mem_cons.mpr ⟨lw_p12, List.forall_mem_cons.mpr ⟨lw_p13, List.forall_mem_cons.mpr ⟨lw_p14, List.forall_mem_cons.mpr ⟨lw_p15, fun _ h => absurd h List.not_mem_nil⟩⟩⟩⟩⟩⟩⟩⟩⟩⟩⟩⟩⟩⟩⟩⟩
theorem lw_p16 : lw_okq (⟨"WhoeverHeard$Ledger", "listenTo", "(I)V"⟩, 15) := ⟨⟨by decide +kernel, by decide +kernel⟩, List.mem_of_getElem? (i := 234) (by decide +kernel), List.mem_of_getElem? (i := 664) (by decide +kernel), List.mem_of_getElem? (i := 665) (by decide +kernel)⟩
theorem lw_p17 : lw_okq (⟨"WhoeverHeard$Ledger", "listenOne", "(II)V"⟩, 15) := ⟨⟨by decide +kernel, by decide +kernel⟩, List.mem_of_getElem? (i := 234) (by decide +kernel), List.mem_of_getElem? (i := 668) (by decide +kernel), List.mem_of_getElem? (i := 669) (by decide +kernel)⟩
theorem lw_p18 : lw_okq (⟨"WhoeverHeard$Ledger", "setClear", "(IIZ)V"⟩, 15) := ⟨⟨by decide +kernel, by decide +kernel⟩, List.mem_of_getElem? (i := 234) (by decide +kernel), List.mem_of_getElem? (i := 697) (by decide +kernel), List.mem_of_getElem? (i := 698) (by decide +kernel)⟩
theorem lw_p19 : lw_okq (⟨"WhoeverHeard$Ledger", "bindAll", "()V"⟩, 15) := ⟨⟨by decide +kernel, by decide +kernel⟩, List.mem_of_getElem? (i := 234) (by decide +kernel), List.mem_of_getElem? (i := 718) (by decide +kernel), List.mem_of_getElem? (i := 719) (by decide +kernel)⟩
theorem lw_p20 : lw_okq (⟨"WhoeverHeard$Ledger", "bindBy", "(I)V"⟩, 15) := ⟨⟨by decide +kernel, by decide +kernel⟩, List.mem_of_getElem? (i := 234) (by decide +kernel), List.mem_of_getElem? (i := 722) (by decide +kernel), List.mem_of_getElem? (i := 723) (by decide +kernel)⟩
theorem lw_p21 : lw_okq (⟨"WhoeverHeard$Ledger", "shareOf", "(II)I"⟩, 15) := ⟨⟨by decide +kernel, by decide +kernel⟩, List.mem_of_getElem? (i := 234) (by decide +kernel), List.mem_of_getElem? (i := 726) (by decide +kernel), List.mem_of_getElem? (i := 727) (by decide +kernel)⟩
theorem lw_p22 : lw_okq (⟨"WhoeverHeard$Ledger", "settleOne", "(III)V"⟩, 15) := ⟨⟨by decide +kernel, by decide +kernel⟩, List.mem_of_getElem? (i := 234) (by decide +kernel), List.mem_of_getElem? (i := 748) (by decide +kernel), List.mem_of_getElem? (i := 749) (by decide +kernel)⟩
theorem lw_p23 : lw_okq (⟨"WhoeverHeard$Ledger", "strikeOut", "(I)V"⟩, 15) := ⟨⟨by decide +kernel, by decide +kernel⟩, List.mem_of_getElem? (i := 234) (by decide +kernel), List.mem_of_getElem? (i := 753) (by decide +kernel), List.mem_of_getElem? (i := 754) (by decide +kernel)⟩
theorem lw_p24 : lw_okq (⟨"WhoeverHeard$Ledger", "cutToRoom", "(I)V"⟩, 15) := ⟨⟨by decide +kernel, by decide +kernel⟩, List.mem_of_getElem? (i := 234) (by decide +kernel), List.mem_of_getElem? (i := 758) (by decide +kernel), List.mem_of_getElem? (i := 759) (by decide +kernel)⟩
theorem lw_p25 : lw_okq (⟨"WhoeverHeard$Ledger", "worthKept", "()I"⟩, 15) := ⟨⟨by decide +kernel, by decide +kernel⟩, List.mem_of_getElem? (i := 234) (by decide +kernel), List.mem_of_getElem? (i := 799) (by decide +kernel), List.mem_of_getElem? (i := 800) (by decide +kernel)⟩
theorem lw_p26 : lw_okq (⟨"WhoeverHeard", "wayTo", "(I)I"⟩, 9) := ⟨⟨by decide +kernel, by decide +kernel⟩, List.mem_of_getElem? (i := 20) (by decide +kernel), List.mem_of_getElem? (i := 812) (by decide +kernel), List.mem_of_getElem? (i := 813) (by decide +kernel)⟩
theorem lw_p27 : lw_okq (⟨"WhoeverHeard$Ledger", "evenBits", "(I)I"⟩, 15) := ⟨⟨by decide +kernel, by decide +kernel⟩, List.mem_of_getElem? (i := 234) (by decide +kernel), List.mem_of_getElem? (i := 853) (by decide +kernel), List.mem_of_getElem? (i := 854) (by decide +kernel)⟩
theorem lw_p28 : lw_okq (⟨"WhoeverHeard$Ledger", "lightest", "(I)I"⟩, 15) := ⟨⟨by decide +kernel, by decide +kernel⟩, List.mem_of_getElem? (i := 234) (by decide +kernel), List.mem_of_getElem? (i := 857) (by decide +kernel), List.mem_of_getElem? (i := 858) (by decide +kernel)⟩
theorem lw_p29 : lw_okq (⟨"WhoeverHeard", "movesAway", "(I)Z"⟩, 9) := ⟨⟨by decide +kernel, by decide +kernel⟩, List.mem_of_getElem? (i := 20) (by decide +kernel), List.mem_of_getElem? (i := 891) (by decide +kernel), List.mem_of_getElem? (i := 892) (by decide +kernel)⟩
theorem lw_p30 : lw_okq (⟨"WhoeverHeard", "witnessRefusal", "(I)I"⟩, 9) := ⟨⟨by decide +kernel, by decide +kernel⟩, List.mem_of_getElem? (i := 20) (by decide +kernel), List.mem_of_getElem? (i := 922) (by decide +kernel), List.mem_of_getElem? (i := 923) (by decide +kernel)⟩
theorem lw_p31 : lw_okq (⟨"WhoeverHeard", "firstHeardByOthers", "(I)I"⟩, 9) := ⟨⟨by decide +kernel, by decide +kernel⟩, List.mem_of_getElem? (i := 20) (by decide +kernel), List.mem_of_getElem? (i := 930) (by decide +kernel), List.mem_of_getElem? (i := 931) (by decide +kernel)⟩
def lw_privs_2 : List (MethodName × Nat) := [(⟨"WhoeverHeard$Ledger", "listenTo", "(I)V"⟩, 15), (⟨"WhoeverHeard$Ledger", "listenOne", "(II)V"⟩, 15), (⟨"WhoeverHeard$Ledger", "setClear", "(IIZ)V"⟩, 15), (⟨"WhoeverHeard$Ledger", "bindAll", "()V"⟩, 15), (⟨"WhoeverHeard$Ledger", "bindBy", "(I)V"⟩, 15), (⟨"WhoeverHeard$Ledger", "shareOf", "(II)I"⟩, 15), (⟨"WhoeverHeard$Ledger", "settleOne", "(III)V"⟩, 15), (⟨"WhoeverHeard$Ledger", "strikeOut", "(I)V"⟩, 15), (⟨"WhoeverHeard$Ledger", "cutToRoom", "(I)V"⟩, 15), (⟨"WhoeverHeard$Ledger", "worthKept", "()I"⟩, 15), (⟨"WhoeverHeard", "wayTo", "(I)I"⟩, 9), (⟨"WhoeverHeard$Ledger", "evenBits", "(I)I"⟩, 15), (⟨"WhoeverHeard$Ledger", "lightest", "(I)I"⟩, 15), (⟨"WhoeverHeard", "movesAway", "(I)Z"⟩, 9), (⟨"WhoeverHeard", "witnessRefusal", "(I)I"⟩, 9), (⟨"WhoeverHeard", "firstHeardByOthers", "(I)I"⟩, 9)]
theorem lw_r2 : ∀ q ∈ lw_privs_2, lw_okq q := List.forall_mem_cons.mpr ⟨lw_p16, List.forall_mem_cons.mpr ⟨lw_p17, List.forall_mem_cons.mpr ⟨lw_p18, List.forall_mem_cons.mpr ⟨lw_p19, List.forall_mem_cons.mpr ⟨lw_p20, List.forall_mem_cons.mpr ⟨lw_p21, List.forall_mem_cons.mpr ⟨lw_p22, List.forall_mem_cons.mpr ⟨lw_p23, List.forall_mem_cons.mpr ⟨lw_p24, List.forall_mem_cons.mpr ⟨lw_p25, List.forall_mem_cons.mpr ⟨lw_p26, List.forall_mem_cons.mpr ⟨lw_p27, List.forall_mem_cons.mpr ⟨lw_p28, List.forall_mem_cons.mpr ⟨lw_p29, List.forall_mem_cons.mpr ⟨lw_p30, List.forall_mem_cons.mpr ⟨lw_p31, fun _ h => absurd h List.not_mem_nil⟩⟩⟩⟩⟩⟩⟩⟩⟩⟩⟩⟩⟩⟩⟩⟩
theorem lw_p32 : lw_okq (⟨"WhoeverHeardModel", "next", "()V"⟩, 62) := ⟨⟨by decide +kernel, by decide +kernel⟩, List.mem_of_getElem? (i := 1019) (by decide +kernel), List.mem_of_getElem? (i := 1029) (by decide +kernel), List.mem_of_getElem? (i := 1030) (by decide +kernel)⟩
theorem lw_p33 : lw_okq (⟨"WhoeverHeardModel", "wordFrom", "(II)I"⟩, 62) := ⟨⟨by decide +kernel, by decide +kernel⟩, List.mem_of_getElem? (i := 1019) (by decide +kernel), List.mem_of_getElem? (i := 1036) (by decide +kernel), List.mem_of_getElem? (i := 1037) (by decide +kernel)⟩
theorem lw_p34 : lw_okq (⟨"WhoeverHeardModel", "eRead", "()Z"⟩, 62) := ⟨⟨by decide +kernel, by decide +kernel⟩, List.mem_of_getElem? (i := 1019) (by decide +kernel), List.mem_of_getElem? (i := 1040) (by decide +kernel), List.mem_of_getElem? (i := 1041) (by decide +kernel)⟩
theorem lw_p35 : lw_okq (⟨"WhoeverHeardModel", "puts", "(I)V"⟩, 62) := ⟨⟨by decide +kernel, by decide +kernel⟩, List.mem_of_getElem? (i := 1019) (by decide +kernel), List.mem_of_getElem? (i := 1045) (by decide +kernel), List.mem_of_getElem? (i := 1046) (by decide +kernel)⟩
theorem lw_p36 : lw_okq (⟨"WhoeverHeardModel", "unwinds", "(I)V"⟩, 62) := ⟨⟨by decide +kernel, by decide +kernel⟩, List.mem_of_getElem? (i := 1019) (by decide +kernel), List.mem_of_getElem? (i := 1049) (by decide +kernel), List.mem_of_getElem? (i := 1050) (by decide +kernel)⟩
theorem lw_p37 : lw_okq (⟨"WhoeverHeardModel", "opensOne", "(I)Z"⟩, 62) := ⟨⟨by decide +kernel, by decide +kernel⟩, List.mem_of_getElem? (i := 1019) (by decide +kernel), List.mem_of_getElem? (i := 1056) (by decide +kernel), List.mem_of_getElem? (i := 1057) (by decide +kernel)⟩
theorem lw_p38 : lw_okq (⟨"WhoeverHeardModel", "holds", "(I)V"⟩, 62) := ⟨⟨by decide +kernel, by decide +kernel⟩, List.mem_of_getElem? (i := 1019) (by decide +kernel), List.mem_of_getElem? (i := 1060) (by decide +kernel), List.mem_of_getElem? (i := 1061) (by decide +kernel)⟩
theorem lw_p39 : lw_okq (⟨"WhoeverHeardModel", "signOf", "()I"⟩, 62) := ⟨⟨by decide +kernel, by decide +kernel⟩, List.mem_of_getElem? (i := 1019) (by decide +kernel), List.mem_of_getElem? (i := 1064) (by decide +kernel), List.mem_of_getElem? (i := 1065) (by decide +kernel)⟩
theorem lw_p40 : lw_okq (⟨"WhoeverHeardModel", "between", "(I)Z"⟩, 62) := ⟨⟨by decide +kernel, by decide +kernel⟩, List.mem_of_getElem? (i := 1019) (by decide +kernel), List.mem_of_getElem? (i := 1068) (by decide +kernel), List.mem_of_getElem? (i := 1069) (by decide +kernel)⟩
theorem lw_p41 : lw_okq (⟨"WhoeverHeardModel", "isOne", "(I)Z"⟩, 62) := ⟨⟨by decide +kernel, by decide +kernel⟩, List.mem_of_getElem? (i := 1019) (by decide +kernel), List.mem_of_getElem? (i := 1298) (by decide +kernel), List.mem_of_getElem? (i := 1299) (by decide +kernel)⟩
theorem lw_p42 : lw_okq (⟨"WhoeverHeardModel", "whereIs", "(II)I"⟩, 62) := ⟨⟨by decide +kernel, by decide +kernel⟩, List.mem_of_getElem? (i := 1019) (by decide +kernel), List.mem_of_getElem? (i := 1306) (by decide +kernel), List.mem_of_getElem? (i := 1307) (by decide +kernel)⟩
theorem lw_p43 : lw_okq (⟨"WhoeverHeardModel", "isPromise", "(I)Z"⟩, 62) := ⟨⟨by decide +kernel, by decide +kernel⟩, List.mem_of_getElem? (i := 1019) (by decide +kernel), List.mem_of_getElem? (i := 1318) (by decide +kernel), List.mem_of_getElem? (i := 1319) (by decide +kernel)⟩
theorem lw_p44 : lw_okq (⟨"WhoeverHeardModel", "says", "(III)V"⟩, 62) := ⟨⟨by decide +kernel, by decide +kernel⟩, List.mem_of_getElem? (i := 1019) (by decide +kernel), List.mem_of_getElem? (i := 1326) (by decide +kernel), List.mem_of_getElem? (i := 1327) (by decide +kernel)⟩
theorem lw_p45 : lw_okq (⟨"WhoeverHeardModel", "isSaying", "(I)Z"⟩, 62) := ⟨⟨by decide +kernel, by decide +kernel⟩, List.mem_of_getElem? (i := 1019) (by decide +kernel), List.mem_of_getElem? (i := 1338) (by decide +kernel), List.mem_of_getElem? (i := 1339) (by decide +kernel)⟩
theorem lw_p46 : lw_okq (⟨"WhoeverHeardModel", "hearsOf", "(II)I"⟩, 62) := ⟨⟨by decide +kernel, by decide +kernel⟩, List.mem_of_getElem? (i := 1019) (by decide +kernel), List.mem_of_getElem? (i := 1346) (by decide +kernel), List.mem_of_getElem? (i := 1347) (by decide +kernel)⟩
theorem lw_p47 : lw_okq (⟨"WhoeverHeardModel", "names", "(IIIIII)V"⟩, 62) := ⟨⟨by decide +kernel, by decide +kernel⟩, List.mem_of_getElem? (i := 1019) (by decide +kernel), List.mem_of_getElem? (i := 1350) (by decide +kernel), List.mem_of_getElem? (i := 1351) (by decide +kernel)⟩
def lw_privs_3 : List (MethodName × Nat) := [(⟨"WhoeverHeardModel", "next", "()V"⟩, 62), (⟨"WhoeverHeardModel", "wordFrom", "(II)I"⟩, 62), (⟨"WhoeverHeardModel", "eRead", "()Z"⟩, 62), (⟨"WhoeverHeardModel", "puts", "(I)V"⟩, 62), (⟨"WhoeverHeardModel", "unwinds", "(I)V"⟩, 62), (⟨"WhoeverHeardModel", "opensOne", "(I)Z"⟩, 62), (⟨"WhoeverHeardModel", "holds", "(I)V"⟩, 62), (⟨"WhoeverHeardModel", "signOf", "()I"⟩, 62), (⟨"WhoeverHeardModel", "between", "(I)Z"⟩, 62), (⟨"WhoeverHeardModel", "isOne", "(I)Z"⟩, 62), (⟨"WhoeverHeardModel", "whereIs", "(II)I"⟩, 62), (⟨"WhoeverHeardModel", "isPromise", "(I)Z"⟩, 62), (⟨"WhoeverHeardModel", "says", "(III)V"⟩, 62), (⟨"WhoeverHeardModel", "isSaying", "(I)Z"⟩, 62), (⟨"WhoeverHeardModel", "hearsOf", "(II)I"⟩, 62), (⟨"WhoeverHeardModel", "names", "(IIIIII)V"⟩, 62)]
theorem lw_r3 : ∀ q ∈ lw_privs_3, lw_okq q := List.forall_mem_cons.mpr ⟨lw_p32, List.forall_mem_cons.mpr ⟨lw_p33, List.forall_mem_cons.mpr ⟨lw_p34, List.forall_mem_cons.mpr ⟨lw_p35, List.forall_mem_cons.mpr ⟨lw_p36, List.forall_mem_cons.mpr ⟨lw_p37, List.forall_mem_cons.mpr ⟨lw_p38, List.forall_mem_cons.mpr ⟨lw_p39, List.forall_mem_cons.mpr ⟨lw_p40, List.forall_mem_cons.mpr ⟨lw_p41, List.forall_mem_cons.mpr ⟨lw_p42, List.forall_mem_cons.mpr ⟨lw_p43, List.forall_mem_cons.mpr ⟨lw_p44, List.forall_mem_cons.mpr ⟨lw_p45, List.forall_mem_cons.mpr ⟨lw_p46, List.forall_mem_cons.mpr ⟨lw_p47, fun _ h => absurd h List.not_mem_nil⟩⟩⟩⟩⟩⟩⟩⟩⟩⟩⟩⟩⟩⟩⟩⟩
theorem lw_p48 : lw_okq (⟨"WhoeverHeardModel", "worthOf", "(I)I"⟩, 62) := ⟨⟨by decide +kernel, by decide +kernel⟩, List.mem_of_getElem? (i := 1019) (by decide +kernel), List.mem_of_getElem? (i := 1354) (by decide +kernel), List.mem_of_getElem? (i := 1355) (by decide +kernel)⟩
theorem lw_p49 : lw_okq (⟨"WhoeverHeardModel", "clearTo", "(I)I"⟩, 62) := ⟨⟨by decide +kernel, by decide +kernel⟩, List.mem_of_getElem? (i := 1019) (by decide +kernel), List.mem_of_getElem? (i := 1368) (by decide +kernel), List.mem_of_getElem? (i := 1369) (by decide +kernel)⟩
theorem lw_p50 : lw_okq (⟨"WhoeverHeardModel", "isClear", "(II)Z"⟩, 62) := ⟨⟨by decide +kernel, by decide +kernel⟩, List.mem_of_getElem? (i := 1019) (by decide +kernel), List.mem_of_getElem? (i := 1372) (by decide +kernel), List.mem_of_getElem? (i := 1373) (by decide +kernel)⟩
theorem lw_p51 : lw_okq (⟨"WhoeverHeardModel", "owes", "(I)V"⟩, 62) := ⟨⟨by decide +kernel, by decide +kernel⟩, List.mem_of_getElem? (i := 1019) (by decide +kernel), List.mem_of_getElem? (i := 1387) (by decide +kernel), List.mem_of_getElem? (i := 1388) (by decide +kernel)⟩
theorem lw_p52 : lw_okq (⟨"WhoeverHeardModel", "owesBy", "(I)V"⟩, 62) := ⟨⟨by decide +kernel, by decide +kernel⟩, List.mem_of_getElem? (i := 1019) (by decide +kernel), List.mem_of_getElem? (i := 1391) (by decide +kernel), List.mem_of_getElem? (i := 1392) (by decide +kernel)⟩
theorem lw_p53 : lw_okq (⟨"WhoeverHeardModel", "can", "(II)Z"⟩, 62) := ⟨⟨by decide +kernel, by decide +kernel⟩, List.mem_of_getElem? (i := 1019) (by decide +kernel), List.mem_of_getElem? (i := 1398) (by decide +kernel), List.mem_of_getElem? (i := 1399) (by decide +kernel)⟩
theorem lw_p54 : lw_okq (⟨"WhoeverHeardModel", "strikes", "(I)V"⟩, 62) := ⟨⟨by decide +kernel, by decide +kernel⟩, List.mem_of_getElem? (i := 1019) (by decide +kernel), List.mem_of_getElem? (i := 1402) (by decide +kernel), List.mem_of_getElem? (i := 1403) (by decide +kernel)⟩
theorem lw_p55 : lw_okq (⟨"WhoeverHeardModel", "fits", "(I)V"⟩, 62) := ⟨⟨by decide +kernel, by decide +kernel⟩, List.mem_of_getElem? (i := 1019) (by decide +kernel), List.mem_of_getElem? (i := 1406) (by decide +kernel), List.mem_of_getElem? (i := 1407) (by decide +kernel)⟩
theorem lw_p56 : lw_okq (⟨"WhoeverHeardModel", "owedBy", "(I)I"⟩, 62) := ⟨⟨by decide +kernel, by decide +kernel⟩, List.mem_of_getElem? (i := 1019) (by decide +kernel), List.mem_of_getElem? (i := 1414) (by decide +kernel), List.mem_of_getElem? (i := 1415) (by decide +kernel)⟩
theorem lw_p57 : lw_okq (⟨"WhoeverHeardModel", "painOf", "(I)I"⟩, 62) := ⟨⟨by decide +kernel, by decide +kernel⟩, List.mem_of_getElem? (i := 1019) (by decide +kernel), List.mem_of_getElem? (i := 1418) (by decide +kernel), List.mem_of_getElem? (i := 1419) (by decide +kernel)⟩
theorem lw_p58 : lw_okq (⟨"WhoeverHeardModel", "doneOf", "(I)I"⟩, 62) := ⟨⟨by decide +kernel, by decide +kernel⟩, List.mem_of_getElem? (i := 1019) (by decide +kernel), List.mem_of_getElem? (i := 1426) (by decide +kernel), List.mem_of_getElem? (i := 1427) (by decide +kernel)⟩
theorem lw_p59 : lw_okq (⟨"WhoeverHeardModel", "keptNow", "()I"⟩, 62) := ⟨⟨by decide +kernel, by decide +kernel⟩, List.mem_of_getElem? (i := 1019) (by decide +kernel), List.mem_of_getElem? (i := 1434) (by decide +kernel), List.mem_of_getElem? (i := 1435) (by decide +kernel)⟩
theorem lw_p60 : lw_okq (⟨"WhoeverHeardModel", "isKept", "(I)Z"⟩, 62) := ⟨⟨by decide +kernel, by decide +kernel⟩, List.mem_of_getElem? (i := 1019) (by decide +kernel), List.mem_of_getElem? (i := 1438) (by decide +kernel), List.mem_of_getElem? (i := 1439) (by decide +kernel)⟩
theorem lw_p61 : lw_okq (⟨"WhoeverHeardModel", "worthNow", "()I"⟩, 62) := ⟨⟨by decide +kernel, by decide +kernel⟩, List.mem_of_getElem? (i := 1019) (by decide +kernel), List.mem_of_getElem? (i := 1442) (by decide +kernel), List.mem_of_getElem? (i := 1443) (by decide +kernel)⟩
theorem lw_p62 : lw_okq (⟨"WhoeverHeardModel", "painNow", "()I"⟩, 62) := ⟨⟨by decide +kernel, by decide +kernel⟩, List.mem_of_getElem? (i := 1019) (by decide +kernel), List.mem_of_getElem? (i := 1446) (by decide +kernel), List.mem_of_getElem? (i := 1447) (by decide +kernel)⟩
theorem lw_p63 : lw_okq (⟨"WhoeverHeardModel", "wayTo", "(I)I"⟩, 62) := ⟨⟨by decide +kernel, by decide +kernel⟩, List.mem_of_getElem? (i := 1019) (by decide +kernel), List.mem_of_getElem? (i := 1454) (by decide +kernel), List.mem_of_getElem? (i := 1455) (by decide +kernel)⟩
def lw_privs_4 : List (MethodName × Nat) := [(⟨"WhoeverHeardModel", "worthOf", "(I)I"⟩, 62), (⟨"WhoeverHeardModel", "clearTo", "(I)I"⟩, 62), (⟨"WhoeverHeardModel", "isClear", "(II)Z"⟩, 62), (⟨"WhoeverHeardModel", "owes", "(I)V"⟩, 62), (⟨"WhoeverHeardModel", "owesBy", "(I)V"⟩, 62), (⟨"WhoeverHeardModel", "can", "(II)Z"⟩, 62), (⟨"WhoeverHeardModel", "strikes", "(I)V"⟩, 62), (⟨"WhoeverHeardModel", "fits", "(I)V"⟩, 62), (⟨"WhoeverHeardModel", "owedBy", "(I)I"⟩, 62), (⟨"WhoeverHeardModel", "painOf", "(I)I"⟩, 62), (⟨"WhoeverHeardModel", "doneOf", "(I)I"⟩, 62), (⟨"WhoeverHeardModel", "keptNow", "()I"⟩, 62), (⟨"WhoeverHeardModel", "isKept", "(I)Z"⟩, 62), (⟨"WhoeverHeardModel", "worthNow", "()I"⟩, 62), (⟨"WhoeverHeardModel", "painNow", "()I"⟩, 62), (⟨"WhoeverHeardModel", "wayTo", "(I)I"⟩, 62)]
theorem lw_r4 : ∀ q ∈ lw_privs_4, lw_okq q := List.forall_mem_cons.mpr ⟨lw_p48, List.forall_mem_cons.mpr ⟨lw_p49, List.forall_mem_cons.mpr ⟨lw_p50, List.forall_mem_cons.mpr ⟨lw_p51, List.forall_mem_cons.mpr ⟨lw_p52, List.forall_mem_cons.mpr ⟨lw_p53, List.forall_mem_cons.mpr ⟨lw_p54, List.forall_mem_cons.mpr ⟨lw_p55, List.forall_mem_cons.mpr ⟨lw_p56, List.forall_mem_cons.mpr ⟨lw_p57, List.forall_mem_cons.mpr ⟨lw_p58, List.forall_mem_cons.mpr ⟨lw_p59, List.forall_mem_cons.mpr ⟨lw_p60, List.forall_mem_cons.mpr ⟨lw_p61, List.forall_mem_cons.mpr ⟨lw_p62, List.forall_mem_cons.mpr ⟨lw_p63, fun _ h => absurd h List.not_mem_nil⟩⟩⟩⟩⟩⟩⟩⟩⟩⟩⟩⟩⟩⟩⟩⟩
theorem lw_p64 : lw_okq (⟨"WhoeverHeardModel", "owesWith", "(II)V"⟩, 62) := ⟨⟨by decide +kernel, by decide +kernel⟩, List.mem_of_getElem? (i := 1019) (by decide +kernel), List.mem_of_getElem? (i := 1469) (by decide +kernel), List.mem_of_getElem? (i := 1470) (by decide +kernel)⟩
theorem lw_p65 : lw_okq (⟨"WhoeverHeardModel", "shares", "(I)Z"⟩, 62) := ⟨⟨by decide +kernel, by decide +kernel⟩, List.mem_of_getElem? (i := 1019) (by decide +kernel), List.mem_of_getElem? (i := 1489) (by decide +kernel), List.mem_of_getElem? (i := 1490) (by decide +kernel)⟩
theorem lw_p66 : lw_okq (⟨"WhoeverHeardModel", "goesTo", "(IZ)I"⟩, 62) := ⟨⟨by decide +kernel, by decide +kernel⟩, List.mem_of_getElem? (i := 1019) (by decide +kernel), List.mem_of_getElem? (i := 1501) (by decide +kernel), List.mem_of_getElem? (i := 1502) (by decide +kernel)⟩
theorem lw_p67 : lw_okq (⟨"WhoeverHeardModel", "owedAt", "(II)I"⟩, 62) := ⟨⟨by decide +kernel, by decide +kernel⟩, List.mem_of_getElem? (i := 1019) (by decide +kernel), List.mem_of_getElem? (i := 1505) (by decide +kernel), List.mem_of_getElem? (i := 1506) (by decide +kernel)⟩
theorem lw_p68 : lw_okq (⟨"WhoeverHeardModel", "chanceOf", "(II)J"⟩, 62) := ⟨⟨by decide +kernel, by decide +kernel⟩, List.mem_of_getElem? (i := 1019) (by decide +kernel), List.mem_of_getElem? (i := 1521) (by decide +kernel), List.mem_of_getElem? (i := 1522) (by decide +kernel)⟩
theorem lw_p69 : lw_okq (⟨"WhoeverHeardModel", "sheetWrong", "(I)I"⟩, 62) := ⟨⟨by decide +kernel, by decide +kernel⟩, List.mem_of_getElem? (i := 1019) (by decide +kernel), List.mem_of_getElem? (i := 1539) (by decide +kernel), List.mem_of_getElem? (i := 1540) (by decide +kernel)⟩
theorem lw_p70 : lw_okq (⟨"WhoeverHeardModel", "unlike", "(I)I"⟩, 62) := ⟨⟨by decide +kernel, by decide +kernel⟩, List.mem_of_getElem? (i := 1019) (by decide +kernel), List.mem_of_getElem? (i := 1543) (by decide +kernel), List.mem_of_getElem? (i := 1544) (by decide +kernel)⟩
theorem lw_p71 : lw_okq (⟨"WhoeverHeardModel", "draws", "(I)V"⟩, 62) := ⟨⟨by decide +kernel, by decide +kernel⟩, List.mem_of_getElem? (i := 1019) (by decide +kernel), List.mem_of_getElem? (i := 1556) (by decide +kernel), List.mem_of_getElem? (i := 1557) (by decide +kernel)⟩
def lw_privs_5 : List (MethodName × Nat) := [(⟨"WhoeverHeardModel", "owesWith", "(II)V"⟩, 62), (⟨"WhoeverHeardModel", "shares", "(I)Z"⟩, 62), (⟨"WhoeverHeardModel", "goesTo", "(IZ)I"⟩, 62), (⟨"WhoeverHeardModel", "owedAt", "(II)I"⟩, 62), (⟨"WhoeverHeardModel", "chanceOf", "(II)J"⟩, 62), (⟨"WhoeverHeardModel", "sheetWrong", "(I)I"⟩, 62), (⟨"WhoeverHeardModel", "unlike", "(I)I"⟩, 62), (⟨"WhoeverHeardModel", "draws", "(I)V"⟩, 62)]
theorem lw_r5 : ∀ q ∈ lw_privs_5, lw_okq q := List.forall_mem_cons.mpr ⟨lw_p64, List.forall_mem_cons.mpr ⟨lw_p65, List.forall_mem_cons.mpr ⟨lw_p66, List.forall_mem_cons.mpr ⟨lw_p67, List.forall_mem_cons.mpr ⟨lw_p68, List.forall_mem_cons.mpr ⟨lw_p69, List.forall_mem_cons.mpr ⟨lw_p70, List.forall_mem_cons.mpr ⟨lw_p71, fun _ h => absurd h List.not_mem_nil⟩⟩⟩⟩⟩⟩⟩⟩
def lw_privs : List (MethodName × Nat) := lw_privs_1 ++ (lw_privs_2 ++ (lw_privs_3 ++ (lw_privs_4 ++ (lw_privs_5))))
def lw_tbl : List Cond := k2_sels lw_privs ++ tables_1
theorem lw_privs_ok : ∀ q ∈ lw_privs, lw_okq q := by
  show ∀ q ∈ lw_privs_1 ++ (lw_privs_2 ++ (lw_privs_3 ++ (lw_privs_4 ++ (lw_privs_5)))), lw_okq q
  exact List.forall_mem_append.mpr ⟨lw_r1, List.forall_mem_append.mpr ⟨lw_r2, List.forall_mem_append.mpr ⟨lw_r3, List.forall_mem_append.mpr ⟨lw_r4, lw_r5⟩⟩⟩⟩
end
section
abbrev MI : Type := MethodName × ByteArray × Nat × Option FieldType
def my (M : MI) : MethodName := M.1
def mcc (M : MI) : ByteArray := M.2.1
def mnl (M : MI) : Nat := M.2.2.1
def mret (M : MI) : Option FieldType := M.2.2.2
def RX0 : String := "WhoeverHeard$Folk"
def TX0 : u_T := fun k => match k with
  | 0 => ("WhoeverHeard$Folk", "kind", "[I", true)
  | 1 => ("WhoeverHeard$Folk", "home", "[I", true)
  | 2 => ("WhoeverHeard$Folk", "ear", "[I", true)
  | 3 => ("WhoeverHeard$Folk", "more", "[I", true)
  | 4 => ("WhoeverHeard$Folk", "works", "[I", true)
  | 5 => ("WhoeverHeard$Folk", "pains", "[I", true)
  | 6 => ("WhoeverHeard$Folk", "room", "[I", true)
  | 7 => ("WhoeverHeard$Folk", "moved", "[I", true)
  | _ => ("WhoeverHeard$Folk", "many", "I", false)
def RX1 : String := "WhoeverHeard$Image"
def TX1 : u_T := fun k => match k with
  | 0 => ("WhoeverHeard$Image", "town", "LWhoeverHeard$Town;", true)
  | 1 => ("WhoeverHeard$Image", "sayings", "LWhoeverHeard$Sayings;", true)
  | 2 => ("WhoeverHeard$Image", "moved", "[I", true)
  | 3 => ("WhoeverHeard$Image", "people", "I", false)
  | 4 => ("WhoeverHeard$Image", "law", "I", false)
  | _ => ("WhoeverHeard$Image", "isThere", "Z", false)
def RX2 : String := "WhoeverHeard$Ledger"
def TX2 : u_T := fun k => match k with
  | 0 => ("WhoeverHeard$Ledger", "town", "LWhoeverHeard$Town;", true)
  | 1 => ("WhoeverHeard$Ledger", "folk", "LWhoeverHeard$Folk;", true)
  | 2 => ("WhoeverHeard$Ledger", "vows", "LWhoeverHeard$Vows;", true)
  | 3 => ("WhoeverHeard$Ledger", "sayings", "LWhoeverHeard$Sayings;", true)
  | 4 => ("WhoeverHeard$Ledger", "texts", "LWhoeverHeard$Texts;", true)
  | 5 => ("WhoeverHeard$Ledger", "law", "I", false)
  | 6 => ("WhoeverHeard$Ledger", "hearing", "[I", true)
  | 7 => ("WhoeverHeard$Ledger", "clear", "[I", true)
  | 8 => ("WhoeverHeard$Ledger", "due", "[I", true)
  | 9 => ("WhoeverHeard$Ledger", "owed", "[I", true)
  | 10 => ("WhoeverHeard$Ledger", "total", "[I", true)
  | 11 => ("WhoeverHeard$Ledger", "struck", "[I", true)
  | 12 => ("WhoeverHeard$Ledger", "beyond", "[I", true)
  | 13 => ("WhoeverHeard$Ledger", "even", "[I", true)
  | _ => ("WhoeverHeard$Ledger", "byPlace", "[I", true)
def RX3 : String := "WhoeverHeard$Reader"
def TX3 : u_T := fun k => match k with
  | 0 => ("WhoeverHeard$Reader", "tape", "[I", true)
  | 1 => ("WhoeverHeard$Reader", "size", "I", false)
  | 2 => ("WhoeverHeard$Reader", "sort", "[I", true)
  | 3 => ("WhoeverHeard$Reader", "place", "[I", true)
  | 4 => ("WhoeverHeard$Reader", "value", "[I", true)
  | 5 => ("WhoeverHeard$Reader", "tokens", "I", false)
  | 6 => ("WhoeverHeard$Reader", "next", "I", false)
  | 7 => ("WhoeverHeard$Reader", "steps", "[I", true)
  | 8 => ("WhoeverHeard$Reader", "starts", "[I", true)
  | _ => ("WhoeverHeard$Reader", "used", "I", false)
def RX4 : String := "WhoeverHeard$Sayings"
def TX4 : u_T := fun k => match k with
  | 0 => ("WhoeverHeard$Sayings", "vow", "[I", true)
  | 1 => ("WhoeverHeard$Sayings", "place", "[I", true)
  | 2 => ("WhoeverHeard$Sayings", "minute", "[I", true)
  | 3 => ("WhoeverHeard$Sayings", "volume", "[I", true)
  | _ => ("WhoeverHeard$Sayings", "many", "I", false)
def RX5 : String := "WhoeverHeard$Sheets"
def TX5 : u_T := fun k => match k with
  | 0 => ("WhoeverHeard$Sheets", "sort", "[I", true)
  | 1 => ("WhoeverHeard$Sheets", "size", "[I", true)
  | _ => ("WhoeverHeard$Sheets", "cells", "[I", true)
def RX6 : String := "WhoeverHeard$Texts"
def TX6 : u_T := fun k => match k with
  | 0 => ("WhoeverHeard$Texts", "steps", "[I", true)
  | 1 => ("WhoeverHeard$Texts", "starts", "[I", true)
  | 2 => ("WhoeverHeard$Texts", "many", "I", false)
  | 3 => ("WhoeverHeard$Texts", "law", "I", false)
  | 4 => ("WhoeverHeard$Texts", "given", "[I", true)
  | _ => ("WhoeverHeard$Texts", "stack", "[I", true)
def RX7 : String := "WhoeverHeard$Town"
def TX7 : u_T := fun k => match k with
  | 0 => ("WhoeverHeard$Town", "apart", "[I", true)
  | 1 => ("WhoeverHeard$Town", "noise", "[I", true)
  | _ => ("WhoeverHeard$Town", "step", "I", false)
def RX8 : String := "WhoeverHeard$Vows"
def TX8 : u_T := fun k => match k with
  | 0 => ("WhoeverHeard$Vows", "work", "[I", true)
  | 1 => ("WhoeverHeard$Vows", "needs", "[I", true)
  | 2 => ("WhoeverHeard$Vows", "worth", "[I", true)
  | 3 => ("WhoeverHeard$Vows", "contrary", "[I", true)
  | _ => ("WhoeverHeard$Vows", "many", "I", false)
def RX9 : String := "WhoeverHeard"
def TX9 : u_T := fun k => match k with
  | 0 => ("WhoeverHeard", "town", "LWhoeverHeard$Town;", true)
  | 1 => ("WhoeverHeard", "folk", "LWhoeverHeard$Folk;", true)
  | 2 => ("WhoeverHeard", "vows", "LWhoeverHeard$Vows;", true)
  | 3 => ("WhoeverHeard", "sayings", "LWhoeverHeard$Sayings;", true)
  | 4 => ("WhoeverHeard", "reader", "LWhoeverHeard$Reader;", true)
  | 5 => ("WhoeverHeard", "texts", "LWhoeverHeard$Texts;", true)
  | 6 => ("WhoeverHeard", "ledger", "LWhoeverHeard$Ledger;", true)
  | 7 => ("WhoeverHeard", "kept", "LWhoeverHeard$Image;", true)
  | _ => ("WhoeverHeard", "sheets", "LWhoeverHeard$Sheets;", true)
def RX10 : String := "WhoeverHeardModel"
def TX10 : u_T := fun k => match k with
  | 0 => ("WhoeverHeardModel", "farness", "[I", true)
  | 1 => ("WhoeverHeardModel", "noise", "[I", true)
  | 2 => ("WhoeverHeardModel", "stride", "I", false)
  | 3 => ("WhoeverHeardModel", "people", "I", false)
  | 4 => ("WhoeverHeardModel", "kind", "[I", true)
  | 5 => ("WhoeverHeardModel", "home", "[I", true)
  | 6 => ("WhoeverHeardModel", "ear", "[I", true)
  | 7 => ("WhoeverHeardModel", "more", "[I", true)
  | 8 => ("WhoeverHeardModel", "works", "[I", true)
  | 9 => ("WhoeverHeardModel", "pains", "[I", true)
  | 10 => ("WhoeverHeardModel", "room", "[I", true)
  | 11 => ("WhoeverHeardModel", "moved", "[I", true)
  | 12 => ("WhoeverHeardModel", "promises", "I", false)
  | 13 => ("WhoeverHeardModel", "work", "[I", true)
  | 14 => ("WhoeverHeardModel", "needs", "[I", true)
  | 15 => ("WhoeverHeardModel", "prize", "[I", true)
  | 16 => ("WhoeverHeardModel", "against", "[I", true)
  | 17 => ("WhoeverHeardModel", "sayings", "I", false)
  | 18 => ("WhoeverHeardModel", "sayOf", "[I", true)
  | 19 => ("WhoeverHeardModel", "sayPlace", "[I", true)
  | 20 => ("WhoeverHeardModel", "sayMinute", "[I", true)
  | 21 => ("WhoeverHeardModel", "sayLoud", "[I", true)
  | 22 => ("WhoeverHeardModel", "tape", "[I", true)
  | 23 => ("WhoeverHeardModel", "taped", "I", false)
  | 24 => ("WhoeverHeardModel", "codes", "[I", true)
  | 25 => ("WhoeverHeardModel", "starts", "[I", true)
  | 26 => ("WhoeverHeardModel", "texts", "I", false)
  | 27 => ("WhoeverHeardModel", "rule", "I", false)
  | 28 => ("WhoeverHeardModel", "hasImage", "Z", false)
  | 29 => ("WhoeverHeardModel", "imageStride", "I", false)
  | 30 => ("WhoeverHeardModel", "imagePeople", "I", false)
  | 31 => ("WhoeverHeardModel", "imageSayings", "I", false)
  | 32 => ("WhoeverHeardModel", "imageRule", "I", false)
  | 33 => ("WhoeverHeardModel", "imageFar", "[I", true)
  | 34 => ("WhoeverHeardModel", "imageNoise", "[I", true)
  | 35 => ("WhoeverHeardModel", "imageMoved", "[I", true)
  | 36 => ("WhoeverHeardModel", "imageOf", "[I", true)
  | 37 => ("WhoeverHeardModel", "imagePlace", "[I", true)
  | 38 => ("WhoeverHeardModel", "imageMinute", "[I", true)
  | 39 => ("WhoeverHeardModel", "imageLoud", "[I", true)
  | 40 => ("WhoeverHeardModel", "sheetSort", "[I", true)
  | 41 => ("WhoeverHeardModel", "sheetSize", "[I", true)
  | 42 => ("WhoeverHeardModel", "cells", "[I", true)
  | 43 => ("WhoeverHeardModel", "law", "[I", true)
  | 44 => ("WhoeverHeardModel", "at", "I", false)
  | 45 => ("WhoeverHeardModel", "begun", "I", false)
  | 46 => ("WhoeverHeardModel", "token", "I", false)
  | 47 => ("WhoeverHeardModel", "value", "I", false)
  | 48 => ("WhoeverHeardModel", "words", "[I", true)
  | 49 => ("WhoeverHeardModel", "held", "[I", true)
  | 50 => ("WhoeverHeardModel", "heldMany", "I", false)
  | 51 => ("WhoeverHeardModel", "opens", "I", false)
  | 52 => ("WhoeverHeardModel", "out", "I", false)
  | 53 => ("WhoeverHeardModel", "stack", "[I", true)
  | 54 => ("WhoeverHeardModel", "named", "[I", true)
  | 55 => ("WhoeverHeardModel", "isDrawn", "Z", false)
  | 56 => ("WhoeverHeardModel", "lot", "J", false)
  | 57 => ("WhoeverHeardModel", "owed", "[I", true)
  | 58 => ("WhoeverHeardModel", "struck", "[I", true)
  | 59 => ("WhoeverHeardModel", "beyond", "[I", true)
  | 60 => ("WhoeverHeardModel", "but", "I", false)
  | _ => ("WhoeverHeardModel", "has", "[I", true)
abbrev vwCl : List vw_C := [(RX0, TX0, 9), (RX1, TX1, 6), (RX2, TX2, 15), (RX3, TX3, 10), (RX4, TX4, 5), (RX5, TX5, 3), (RX6, TX6, 6), (RX7, TX7, 3), (RX8, TX8, 5), (RX9, TX9, 9), (RX10, TX10, 62)]
def tyX0 : Nat → FieldType := fun k => match k with
  | 0 => .array .int
  | 1 => .array .int
  | 2 => .array .int
  | 3 => .array .int
  | 4 => .array .int
  | 5 => .array .int
  | 6 => .array .int
  | 7 => .array .int
  | _ => .int
def tyX1 : Nat → FieldType := fun k => match k with
  | 0 => .object "WhoeverHeard$Town"
  | 1 => .object "WhoeverHeard$Sayings"
  | 2 => .array .int
  | 3 => .int
  | 4 => .int
  | _ => .boolean
def tyX2 : Nat → FieldType := fun k => match k with
  | 0 => .object "WhoeverHeard$Town"
  | 1 => .object "WhoeverHeard$Folk"
  | 2 => .object "WhoeverHeard$Vows"
  | 3 => .object "WhoeverHeard$Sayings"
  | 4 => .object "WhoeverHeard$Texts"
  | 5 => .int
  | 6 => .array .int
  | 7 => .array .int
  | 8 => .array .int
  | 9 => .array .int
  | 10 => .array .int
  | 11 => .array .int
  | 12 => .array .int
  | 13 => .array .int
  | _ => .array .int
def tyX3 : Nat → FieldType := fun k => match k with
  | 0 => .array .int
  | 1 => .int
  | 2 => .array .int
  | 3 => .array .int
  | 4 => .array .int
  | 5 => .int
  | 6 => .int
  | 7 => .array .int
  | 8 => .array .int
  | _ => .int
def tyX4 : Nat → FieldType := fun k => match k with
  | 0 => .array .int
  | 1 => .array .int
  | 2 => .array .int
  | 3 => .array .int
  | _ => .int
def tyX5 : Nat → FieldType := fun k => match k with
  | 0 => .array .int
  | 1 => .array .int
  | _ => .array .int
def tyX6 : Nat → FieldType := fun k => match k with
  | 0 => .array .int
  | 1 => .array .int
  | 2 => .int
  | 3 => .int
  | 4 => .array .int
  | _ => .array .int
def tyX7 : Nat → FieldType := fun k => match k with
  | 0 => .array .int
  | 1 => .array .int
  | _ => .int
def tyX8 : Nat → FieldType := fun k => match k with
  | 0 => .array .int
  | 1 => .array .int
  | 2 => .array .int
  | 3 => .array .int
  | _ => .int
def tyX9 : Nat → FieldType := fun k => match k with
  | 0 => .object "WhoeverHeard$Town"
  | 1 => .object "WhoeverHeard$Folk"
  | 2 => .object "WhoeverHeard$Vows"
  | 3 => .object "WhoeverHeard$Sayings"
  | 4 => .object "WhoeverHeard$Reader"
  | 5 => .object "WhoeverHeard$Texts"
  | 6 => .object "WhoeverHeard$Ledger"
  | 7 => .object "WhoeverHeard$Image"
  | _ => .object "WhoeverHeard$Sheets"
def tyX10 : Nat → FieldType := fun k => match k with
  | 0 => .array .int
  | 1 => .array .int
  | 2 => .int
  | 3 => .int
  | 4 => .array .int
  | 5 => .array .int
  | 6 => .array .int
  | 7 => .array .int
  | 8 => .array .int
  | 9 => .array .int
  | 10 => .array .int
  | 11 => .array .int
  | 12 => .int
  | 13 => .array .int
  | 14 => .array .int
  | 15 => .array .int
  | 16 => .array .int
  | 17 => .int
  | 18 => .array .int
  | 19 => .array .int
  | 20 => .array .int
  | 21 => .array .int
  | 22 => .array .int
  | 23 => .int
  | 24 => .array .int
  | 25 => .array .int
  | 26 => .int
  | 27 => .int
  | 28 => .boolean
  | 29 => .int
  | 30 => .int
  | 31 => .int
  | 32 => .int
  | 33 => .array .int
  | 34 => .array .int
  | 35 => .array .int
  | 36 => .array .int
  | 37 => .array .int
  | 38 => .array .int
  | 39 => .array .int
  | 40 => .array .int
  | 41 => .array .int
  | 42 => .array .int
  | 43 => .array .int
  | 44 => .int
  | 45 => .int
  | 46 => .int
  | 47 => .int
  | 48 => .array .int
  | 49 => .array .int
  | 50 => .int
  | 51 => .int
  | 52 => .int
  | 53 => .array .int
  | 54 => .array .int
  | 55 => .boolean
  | 56 => .long
  | 57 => .array .int
  | 58 => .array .int
  | 59 => .array .int
  | 60 => .int
  | _ => .array .int
def ftab : List (List Nat) := [[2, 2, 2, 2, 2, 2, 2, 2, 0], [2, 2, 2, 0, 0, 0], [2, 2, 2, 2, 2, 0, 2, 2, 2, 2, 2, 2, 2, 2, 2], [2, 0, 2, 2, 2, 0, 0, 2, 2, 0], [2, 2, 2, 2, 0], [2, 2, 2], [2, 2, 0, 0, 2, 2], [2, 2, 0], [2, 2, 2, 2, 0], [2, 2, 2, 2, 2, 2, 2, 2, 2], [2, 2, 0, 0, 2, 2, 2, 2, 2, 2, 2, 2, 0, 2, 2, 2, 2, 0, 2, 2, 2, 2, 2, 0, 2, 2, 0, 0, 0, 0, 0, 0, 0, 2, 2, 2, 2, 2, 2, 2, 2, 2, 2, 2, 0, 0, 0, 0, 2, 2, 0, 0, 0, 2, 2, 0, 1, 2, 2, 2, 0, 2]]
def mFolk_init : MI := (⟨"WhoeverHeard$Folk", "<init>", "()V"⟩, prog_2_method_1_code, 1, none)
def mFolk_has : MI := (⟨"WhoeverHeard$Folk", "has", "(I)Z"⟩, prog_2_method_2_code, 2, (some .boolean))
def mFolk_add : MI := (⟨"WhoeverHeard$Folk", "add", "(IIII)I"⟩, prog_2_method_3_code, 6, (some .int))
def mFolk_isA : MI := (⟨"WhoeverHeard$Folk", "isA", "(II)Z"⟩, prog_2_method_4_code, 5, (some .boolean))
def mFolk_startOf : MI := (⟨"WhoeverHeard$Folk", "startOf", "(I)I"⟩, prog_2_method_5_code, 2, (some .int))
def mFolk_placeOf : MI := (⟨"WhoeverHeard$Folk", "placeOf", "(II)I"⟩, prog_2_method_6_code, 4, (some .int))
def mFolk_isBound : MI := (⟨"WhoeverHeard$Folk", "isBound", "(I)Z"⟩, prog_2_method_7_code, 2, (some .boolean))
def mFolk_canDo : MI := (⟨"WhoeverHeard$Folk", "canDo", "(II)Z"⟩, prog_2_method_8_code, 3, (some .boolean))
def mFolk_hearingOf : MI := (⟨"WhoeverHeard$Folk", "hearingOf", "(III)I"⟩, prog_2_method_9_code, 4, (some .int))
def mImage_init : MI := (⟨"WhoeverHeard$Image", "<init>", "()V"⟩, prog_3_method_1_code, 1, none)
def mImage_keep : MI := (⟨"WhoeverHeard$Image", "keep", "(LWhoeverHeard$Town;LWhoeverHeard$Folk;LWhoeverHeard$Sayings;LWhoeverHeard$Texts;)V"⟩, prog_3_method_2_code, 5, none)
def mImage_giveBack : MI := (⟨"WhoeverHeard$Image", "giveBack", "(LWhoeverHeard$Town;LWhoeverHeard$Folk;LWhoeverHeard$Sayings;LWhoeverHeard$Texts;)V"⟩, prog_3_method_3_code, 5, none)
def mLedger_init : MI := (⟨"WhoeverHeard$Ledger", "<init>", "(LWhoeverHeard$Town;LWhoeverHeard$Folk;LWhoeverHeard$Vows;LWhoeverHeard$Sayings;LWhoeverHeard$Texts;)V"⟩, prog_4_method_1_code, 6, none)
def mLedger_reckon : MI := (⟨"WhoeverHeard$Ledger", "reckon", "(I)V"⟩, prog_4_method_2_code, 2, none)
def mLedger_listen : MI := (⟨"WhoeverHeard$Ledger", "listen", "(I)V"⟩, prog_4_method_3_code, 3, none)
def mLedger_listenBy : MI := (⟨"WhoeverHeard$Ledger", "listenBy", "(I)V"⟩, prog_4_method_4_code, 3, none)
def mLedger_listenTo : MI := (⟨"WhoeverHeard$Ledger", "listenTo", "(I)V"⟩, prog_4_method_5_code, 3, none)
def mLedger_listenOne : MI := (⟨"WhoeverHeard$Ledger", "listenOne", "(II)V"⟩, prog_4_method_6_code, 6, none)
def mLedger_setClear : MI := (⟨"WhoeverHeard$Ledger", "setClear", "(IIZ)V"⟩, prog_4_method_7_code, 4, none)
def mLedger_bindAll : MI := (⟨"WhoeverHeard$Ledger", "bindAll", "()V"⟩, prog_4_method_8_code, 2, none)
def mLedger_bindBy : MI := (⟨"WhoeverHeard$Ledger", "bindBy", "(I)V"⟩, prog_4_method_9_code, 3, none)
def mLedger_shareOf : MI := (⟨"WhoeverHeard$Ledger", "shareOf", "(II)I"⟩, prog_4_method_10_code, 4, (some .int))
def mLedger_settle : MI := (⟨"WhoeverHeard$Ledger", "settle", "(II)V"⟩, prog_4_method_11_code, 4, none)
def mLedger_settleOne : MI := (⟨"WhoeverHeard$Ledger", "settleOne", "(III)V"⟩, prog_4_method_12_code, 6, none)
def mLedger_strikeOut : MI := (⟨"WhoeverHeard$Ledger", "strikeOut", "(I)V"⟩, prog_4_method_13_code, 6, none)
def mLedger_cutToRoom : MI := (⟨"WhoeverHeard$Ledger", "cutToRoom", "(I)V"⟩, prog_4_method_14_code, 6, none)
def mLedger_doneOf : MI := (⟨"WhoeverHeard$Ledger", "doneOf", "(I)I"⟩, prog_4_method_15_code, 4, (some .int))
def mLedger_keeps : MI := (⟨"WhoeverHeard$Ledger", "keeps", "(I)Z"⟩, prog_4_method_16_code, 2, (some .boolean))
def mLedger_keptBits : MI := (⟨"WhoeverHeard$Ledger", "keptBits", "()I"⟩, prog_4_method_17_code, 3, (some .int))
def mLedger_worthKept : MI := (⟨"WhoeverHeard$Ledger", "worthKept", "()I"⟩, prog_4_method_18_code, 3, (some .int))
def mLedger_painOf : MI := (⟨"WhoeverHeard$Ledger", "painOf", "(I)I"⟩, prog_4_method_19_code, 2, (some .int))
def mLedger_painOfAll : MI := (⟨"WhoeverHeard$Ledger", "painOfAll", "()I"⟩, prog_4_method_20_code, 3, (some .int))
def mLedger_outcome : MI := (⟨"WhoeverHeard$Ledger", "outcome", "(I)I"⟩, prog_4_method_21_code, 2, (some .int))
def mLedger_fullBits : MI := (⟨"WhoeverHeard$Ledger", "fullBits", "()I"⟩, prog_4_method_22_code, 3, (some .int))
def mLedger_sayMore : MI := (⟨"WhoeverHeard$Ledger", "sayMore", "(II)V"⟩, prog_4_method_23_code, 4, none)
def mLedger_draw : MI := (⟨"WhoeverHeard$Ledger", "draw", "(I)V"⟩, prog_4_method_24_code, 6, none)
def mLedger_tryPlaces : MI := (⟨"WhoeverHeard$Ledger", "tryPlaces", "(I)V"⟩, prog_4_method_25_code, 5, none)
def mLedger_sharesOut : MI := (⟨"WhoeverHeard$Ledger", "sharesOut", "(I)Z"⟩, prog_4_method_26_code, 5, (some .boolean))
def mLedger_evenBits : MI := (⟨"WhoeverHeard$Ledger", "evenBits", "(I)I"⟩, prog_4_method_27_code, 4, (some .int))
def mLedger_lightest : MI := (⟨"WhoeverHeard$Ledger", "lightest", "(I)I"⟩, prog_4_method_28_code, 7, (some .int))
def mLedger_chanceOf : MI := (⟨"WhoeverHeard$Ledger", "chanceOf", "(II)J"⟩, prog_4_method_29_code, 6, (some .long))
def mReader_init : MI := (⟨"WhoeverHeard$Reader", "<init>", "()V"⟩, prog_5_method_1_code, 1, none)
def mReader_put : MI := (⟨"WhoeverHeard$Reader", "put", "(I)V"⟩, prog_5_method_2_code, 2, none)
def mReader_clear : MI := (⟨"WhoeverHeard$Reader", "clear", "()V"⟩, prog_5_method_3_code, 1, none)
def mReader_fault : MI := (⟨"WhoeverHeard$Reader", "fault", "()I"⟩, prog_5_method_4_code, 1, (some .int))
def mReader_reads : MI := (⟨"WhoeverHeard$Reader", "reads", "()Z"⟩, prog_5_method_5_code, 2, (some .boolean))
def mReader_cut : MI := (⟨"WhoeverHeard$Reader", "cut", "()V"⟩, prog_5_method_6_code, 5, none)
def mReader_putToken : MI := (⟨"WhoeverHeard$Reader", "putToken", "(III)V"⟩, prog_5_method_7_code, 4, none)
def mReader_putNumber : MI := (⟨"WhoeverHeard$Reader", "putNumber", "(II)V"⟩, prog_5_method_8_code, 5, none)
def mReader_putWord : MI := (⟨"WhoeverHeard$Reader", "putWord", "(II)V"⟩, prog_5_method_9_code, 4, none)
def mReader_nameAt : MI := (⟨"WhoeverHeard$Reader", "nameAt", "(II)I"⟩, prog_5_method_10_code, 3, (some .int))
def mReader_keyAt : MI := (⟨"WhoeverHeard$Reader", "keyAt", "(II)I"⟩, prog_5_method_11_code, 3, (some .int))
def mReader_spells : MI := (⟨"WhoeverHeard$Reader", "spells", "(Ljava/lang/String;II)Z"⟩, prog_5_method_12_code, 5, (some .boolean))
def mReader_lettersEnd : MI := (⟨"WhoeverHeard$Reader", "lettersEnd", "(I)I"⟩, prog_5_method_13_code, 3, (some .int))
def mReader_digitsEnd : MI := (⟨"WhoeverHeard$Reader", "digitsEnd", "(I)I"⟩, prog_5_method_14_code, 3, (some .int))
def mReader_isLetter : MI := (⟨"WhoeverHeard$Reader", "isLetter", "(I)Z"⟩, prog_5_method_15_code, 1, (some .boolean))
def mReader_isDigit : MI := (⟨"WhoeverHeard$Reader", "isDigit", "(I)Z"⟩, prog_5_method_16_code, 1, (some .boolean))
def mReader_isSign : MI := (⟨"WhoeverHeard$Reader", "isSign", "(I)Z"⟩, prog_5_method_17_code, 1, (some .boolean))
def mReader_passes : MI := (⟨"WhoeverHeard$Reader", "passes", "(I)Z"⟩, prog_5_method_18_code, 2, (some .boolean))
def mReader_step : MI := (⟨"WhoeverHeard$Reader", "step", "(I)V"⟩, prog_5_method_19_code, 2, none)
def mReader_joins : MI := (⟨"WhoeverHeard$Reader", "joins", "(II)Z"⟩, prog_5_method_20_code, 2, (some .boolean))
def mReader_level : MI := (⟨"WhoeverHeard$Reader", "level", "(II)Z"⟩, prog_5_method_21_code, 5, (some .boolean))
def mReader_negation : MI := (⟨"WhoeverHeard$Reader", "negation", "(I)Z"⟩, prog_5_method_22_code, 3, (some .boolean))
def mReader_one : MI := (⟨"WhoeverHeard$Reader", "one", "(I)Z"⟩, prog_5_method_23_code, 3, (some .boolean))
def mReader_opens : MI := (⟨"WhoeverHeard$Reader", "opens", "(II)Z"⟩, prog_5_method_24_code, 3, (some .boolean))
def mReader_did : MI := (⟨"WhoeverHeard$Reader", "did", "(I)Z"⟩, prog_5_method_25_code, 2, (some .boolean))
def mSayings_init : MI := (⟨"WhoeverHeard$Sayings", "<init>", "()V"⟩, prog_6_method_1_code, 1, none)
def mSayings_has : MI := (⟨"WhoeverHeard$Sayings", "has", "(I)Z"⟩, prog_6_method_2_code, 2, (some .boolean))
def mSayings_put : MI := (⟨"WhoeverHeard$Sayings", "put", "(III)V"⟩, prog_6_method_3_code, 4, none)
def mSayings_become : MI := (⟨"WhoeverHeard$Sayings", "become", "(LWhoeverHeard$Sayings;)V"⟩, prog_6_method_4_code, 2, none)
def mSheets_init : MI := (⟨"WhoeverHeard$Sheets", "<init>", "()V"⟩, prog_7_method_1_code, 1, none)
def mSheets_isMissing : MI := (⟨"WhoeverHeard$Sheets", "isMissing", "(I)Z"⟩, prog_7_method_2_code, 2, (some .boolean))
def mSheets_become : MI := (⟨"WhoeverHeard$Sheets", "become", "(III)V"⟩, prog_7_method_3_code, 5, none)
def mSheets_set : MI := (⟨"WhoeverHeard$Sheets", "set", "(III)V"⟩, prog_7_method_4_code, 4, none)
def mSheets_bitsAt : MI := (⟨"WhoeverHeard$Sheets", "bitsAt", "(II)I"⟩, prog_7_method_5_code, 4, (some .int))
def mTexts_init : MI := (⟨"WhoeverHeard$Texts", "<init>", "()V"⟩, prog_8_method_1_code, 1, none)
def mTexts_add : MI := (⟨"WhoeverHeard$Texts", "add", "(LWhoeverHeard$Reader;)I"⟩, prog_8_method_2_code, 3, (some .int))
def mTexts_giveNothing : MI := (⟨"WhoeverHeard$Texts", "giveNothing", "()V"⟩, prog_8_method_3_code, 2, none)
def mTexts_value : MI := (⟨"WhoeverHeard$Texts", "value", "(II)I"⟩, prog_8_method_4_code, 9, (some .int))
def mTexts_joined : MI := (⟨"WhoeverHeard$Texts", "joined", "(III)I"⟩, prog_8_method_5_code, 3, (some .int))
def mTown_init : MI := (⟨"WhoeverHeard$Town", "<init>", "()V"⟩, prog_9_method_1_code, 3, none)
def mTown_between : MI := (⟨"WhoeverHeard$Town", "between", "(II)I"⟩, prog_9_method_2_code, 3, (some .int))
def mTown_setBetween : MI := (⟨"WhoeverHeard$Town", "setBetween", "(III)V"⟩, prog_9_method_3_code, 4, none)
def mTown_become : MI := (⟨"WhoeverHeard$Town", "become", "(LWhoeverHeard$Town;)V"⟩, prog_9_method_4_code, 2, none)
def mVows_init : MI := (⟨"WhoeverHeard$Vows", "<init>", "()V"⟩, prog_10_method_1_code, 1, none)
def mVows_has : MI := (⟨"WhoeverHeard$Vows", "has", "(I)Z"⟩, prog_10_method_2_code, 2, (some .boolean))
def mVows_add : MI := (⟨"WhoeverHeard$Vows", "add", "(IIII)I"⟩, prog_10_method_3_code, 6, (some .int))
def mW_init : MI := (⟨"WhoeverHeard", "<init>", "()V"⟩, prog_1_method_1_code, 2, none)
def mW_far : MI := (⟨"WhoeverHeard", "far", "(III)I"⟩, prog_1_method_2_code, 5, (some .int))
def mW_hush : MI := (⟨"WhoeverHeard", "hush", "(II)I"⟩, prog_1_method_3_code, 4, (some .int))
def mW_stride : MI := (⟨"WhoeverHeard", "stride", "(I)I"⟩, prog_1_method_4_code, 3, (some .int))
def mW_count : MI := (⟨"WhoeverHeard", "count", "(I)I"⟩, prog_1_method_5_code, 2, (some .int))
def mW_feed : MI := (⟨"WhoeverHeard", "feed", "(IIIIII)I"⟩, prog_1_method_6_code, 8, (some .int))
def mW_text : MI := (⟨"WhoeverHeard", "text", "()I"⟩, prog_1_method_7_code, 2, (some .int))
def mW_force : MI := (⟨"WhoeverHeard", "force", "(I)I"⟩, prog_1_method_8_code, 3, (some .int))
def mW_person : MI := (⟨"WhoeverHeard", "person", "(IIII)I"⟩, prog_1_method_9_code, 5, (some .int))
def mW_move : MI := (⟨"WhoeverHeard", "move", "(II)I"⟩, prog_1_method_10_code, 4, (some .int))
def mW_told : MI := (⟨"WhoeverHeard", "told", "(II)I"⟩, prog_1_method_11_code, 3, (some .int))
def mW_promise : MI := (⟨"WhoeverHeard", "promise", "(IIII)I"⟩, prog_1_method_12_code, 5, (some .int))
def mW_promised : MI := (⟨"WhoeverHeard", "promised", "(II)I"⟩, prog_1_method_13_code, 3, (some .int))
def mW_say : MI := (⟨"WhoeverHeard", "say", "(II)I"⟩, prog_1_method_14_code, 4, (some .int))
def mW_unsay : MI := (⟨"WhoeverHeard", "unsay", "()I"⟩, prog_1_method_15_code, 1, (some .int))
def mW_said : MI := (⟨"WhoeverHeard", "said", "(II)I"⟩, prog_1_method_16_code, 3, (some .int))
def mW_hears : MI := (⟨"WhoeverHeard", "hears", "(II)I"⟩, prog_1_method_17_code, 3, (some .int))
def mW_heard : MI := (⟨"WhoeverHeard", "heard", "(I)I"⟩, prog_1_method_18_code, 2, (some .int))
def mW_nobody : MI := (⟨"WhoeverHeard", "nobody", "()I"⟩, prog_1_method_19_code, 3, (some .int))
def mW_owe : MI := (⟨"WhoeverHeard", "owe", "(II)I"⟩, prog_1_method_20_code, 3, (some .int))
def mW_load : MI := (⟨"WhoeverHeard", "load", "(II)I"⟩, prog_1_method_21_code, 3, (some .int))
def mW_done : MI := (⟨"WhoeverHeard", "done", "(I)I"⟩, prog_1_method_22_code, 2, (some .int))
def mW_sum : MI := (⟨"WhoeverHeard", "sum", "(I)I"⟩, prog_1_method_23_code, 2, (some .int))
def mW_judge : MI := (⟨"WhoeverHeard", "judge", "()I"⟩, prog_1_method_24_code, 3, (some .int))
def mW_walk : MI := (⟨"WhoeverHeard", "walk", "()I"⟩, prog_1_method_25_code, 3, (some .int))
def mW_best : MI := (⟨"WhoeverHeard", "best", "(II)I"⟩, prog_1_method_26_code, 7, (some .int))
def mW_foe : MI := (⟨"WhoeverHeard", "foe", "(III)I"⟩, prog_1_method_27_code, 7, (some .int))
def mW_loud : MI := (⟨"WhoeverHeard", "loud", "(III)I"⟩, prog_1_method_28_code, 5, (some .int))
def mW_spare : MI := (⟨"WhoeverHeard", "spare", "()I"⟩, prog_1_method_29_code, 4, (some .int))
def mW_even : MI := (⟨"WhoeverHeard", "even", "(II)I"⟩, prog_1_method_30_code, 3, (some .int))
def mW_hardest : MI := (⟨"WhoeverHeard", "hardest", "(I)I"⟩, prog_1_method_31_code, 4, (some .int))
def mW_flee : MI := (⟨"WhoeverHeard", "flee", "(II)I"⟩, prog_1_method_32_code, 4, (some .int))
def mW_send : MI := (⟨"WhoeverHeard", "send", "(II)I"⟩, prog_1_method_33_code, 4, (some .int))
def mW_rest : MI := (⟨"WhoeverHeard", "rest", "(I)I"⟩, prog_1_method_34_code, 6, (some .int))
def mW_chance : MI := (⟨"WhoeverHeard", "chance", "(II)J"⟩, prog_1_method_35_code, 3, (some .long))
def mW_lost : MI := (⟨"WhoeverHeard", "lost", "(I)J"⟩, prog_1_method_36_code, 5, (some .long))
def mW_laws : MI := (⟨"WhoeverHeard", "laws", "(I)I"⟩, prog_1_method_37_code, 8, (some .int))
def mW_witness : MI := (⟨"WhoeverHeard", "witness", "(I)I"⟩, prog_1_method_38_code, 3, (some .int))
def mW_alibi : MI := (⟨"WhoeverHeard", "alibi", "(II)I"⟩, prog_1_method_39_code, 7, (some .int))
def mW_drawn : MI := (⟨"WhoeverHeard", "drawn", "(II)I"⟩, prog_1_method_40_code, 3, (some .int))
def mW_odds : MI := (⟨"WhoeverHeard", "odds", "(IIII)J"⟩, prog_1_method_41_code, 7, (some .long))
def mW_image : MI := (⟨"WhoeverHeard", "image", "()I"⟩, prog_1_method_42_code, 1, (some .int))
def mW_back : MI := (⟨"WhoeverHeard", "back", "()I"⟩, prog_1_method_43_code, 1, (some .int))
def mW_sheet : MI := (⟨"WhoeverHeard", "sheet", "(III)I"⟩, prog_1_method_44_code, 4, (some .int))
def mW_cell : MI := (⟨"WhoeverHeard", "cell", "(III)I"⟩, prog_1_method_45_code, 4, (some .int))
def mW_copy : MI := (⟨"WhoeverHeard", "copy", "(IIIII)I"⟩, prog_1_method_46_code, 6, (some .int))
def mW_promisesBy : MI := (⟨"WhoeverHeard", "promisesBy", "(IIII)I"⟩, prog_1_method_47_code, 10, (some .int))
def mW_taken : MI := (⟨"WhoeverHeard", "taken", "(II)I"⟩, prog_1_method_48_code, 4, (some .int))
def mW_within : MI := (⟨"WhoeverHeard", "within", "(III)Z"⟩, prog_1_method_49_code, 3, (some .boolean))
def mW_isByte : MI := (⟨"WhoeverHeard", "isByte", "(I)Z"⟩, prog_1_method_50_code, 1, (some .boolean))
def mW_isHow : MI := (⟨"WhoeverHeard", "isHow", "(I)Z"⟩, prog_1_method_51_code, 1, (some .boolean))
def mW_bounded : MI := (⟨"WhoeverHeard", "bounded", "(II)I"⟩, prog_1_method_52_code, 2, (some .int))
def mW_leastOf : MI := (⟨"WhoeverHeard", "leastOf", "([I)I"⟩, prog_1_method_53_code, 3, (some .int))
def mW_mostOf : MI := (⟨"WhoeverHeard", "mostOf", "([I)I"⟩, prog_1_method_54_code, 3, (some .int))
def mW_commonDivisor : MI := (⟨"WhoeverHeard", "commonDivisor", "(II)I"⟩, prog_1_method_55_code, 6, (some .int))
def mW_wayTo : MI := (⟨"WhoeverHeard", "wayTo", "(I)I"⟩, prog_1_method_56_code, 2, (some .int))
def mW_movesAway : MI := (⟨"WhoeverHeard", "movesAway", "(I)Z"⟩, prog_1_method_57_code, 3, (some .boolean))
def mW_witnessRefusal : MI := (⟨"WhoeverHeard", "witnessRefusal", "(I)I"⟩, prog_1_method_58_code, 2, (some .int))
def mW_firstHeardByOthers : MI := (⟨"WhoeverHeard", "firstHeardByOthers", "(I)I"⟩, prog_1_method_59_code, 3, (some .int))
def mR_init : MI := (⟨"WhoeverHeardModel", "<init>", "()V"⟩, prog_12_method_1_code, 2, none)
def mR_in : MI := (⟨"WhoeverHeardModel", "in", "(III)Z"⟩, prog_12_method_3_code, 3, (some .boolean))
def mR_size : MI := (⟨"WhoeverHeardModel", "size", "(I)I"⟩, prog_12_method_4_code, 1, (some .int))
def mR_within : MI := (⟨"WhoeverHeardModel", "within", "(III)I"⟩, prog_12_method_5_code, 3, (some .int))
def mR_isOne : MI := (⟨"WhoeverHeardModel", "isOne", "(I)Z"⟩, prog_12_method_6_code, 2, (some .boolean))
def mR_isPromise : MI := (⟨"WhoeverHeardModel", "isPromise", "(I)Z"⟩, prog_12_method_7_code, 2, (some .boolean))
def mR_isSaying : MI := (⟨"WhoeverHeardModel", "isSaying", "(I)Z"⟩, prog_12_method_8_code, 2, (some .boolean))
def mR_far : MI := (⟨"WhoeverHeardModel", "far", "(III)I"⟩, prog_12_method_9_code, 5, (some .int))
def mR_hush : MI := (⟨"WhoeverHeardModel", "hush", "(II)I"⟩, prog_12_method_10_code, 4, (some .int))
def mR_stride : MI := (⟨"WhoeverHeardModel", "stride", "(I)I"⟩, prog_12_method_11_code, 3, (some .int))
def mR_count : MI := (⟨"WhoeverHeardModel", "count", "(I)I"⟩, prog_12_method_12_code, 2, (some .int))
def mR_isByte : MI := (⟨"WhoeverHeardModel", "isByte", "(I)Z"⟩, prog_12_method_13_code, 1, (some .boolean))
def mR_feed : MI := (⟨"WhoeverHeardModel", "feed", "(IIIIII)I"⟩, prog_12_method_14_code, 8, (some .int))
def mR_wordFrom : MI := (⟨"WhoeverHeardModel", "wordFrom", "(II)I"⟩, prog_12_method_15_code, 6, (some .int))
def mR_next : MI := (⟨"WhoeverHeardModel", "next", "()V"⟩, prog_12_method_16_code, 3, none)
def mR_rank : MI := (⟨"WhoeverHeardModel", "rank", "(I)I"⟩, prog_12_method_17_code, 1, (some .int))
def mR_puts : MI := (⟨"WhoeverHeardModel", "puts", "(I)V"⟩, prog_12_method_18_code, 2, none)
def mR_unwinds : MI := (⟨"WhoeverHeardModel", "unwinds", "(I)V"⟩, prog_12_method_19_code, 3, none)
def mR_holds : MI := (⟨"WhoeverHeardModel", "holds", "(I)V"⟩, prog_12_method_20_code, 2, none)
def mR_opensOne : MI := (⟨"WhoeverHeardModel", "opensOne", "(I)Z"⟩, prog_12_method_21_code, 2, (some .boolean))
def mR_between : MI := (⟨"WhoeverHeardModel", "between", "(I)Z"⟩, prog_12_method_22_code, 2, (some .boolean))
def mR_signOf : MI := (⟨"WhoeverHeardModel", "signOf", "()I"⟩, prog_12_method_23_code, 1, (some .int))
def mR_eRead : MI := (⟨"WhoeverHeardModel", "eRead", "()Z"⟩, prog_12_method_24_code, 4, (some .boolean))
def mR_text : MI := (⟨"WhoeverHeardModel", "text", "()I"⟩, prog_12_method_25_code, 3, (some .int))
def mR_two : MI := (⟨"WhoeverHeardModel", "two", "(III)I"⟩, prog_12_method_26_code, 3, (some .int))
def mR_worthOf : MI := (⟨"WhoeverHeardModel", "worthOf", "(I)I"⟩, prog_12_method_27_code, 5, (some .int))
def mR_names : MI := (⟨"WhoeverHeardModel", "names", "(IIIIII)V"⟩, prog_12_method_28_code, 7, none)
def mR_force : MI := (⟨"WhoeverHeardModel", "force", "(I)I"⟩, prog_12_method_29_code, 3, (some .int))
def mR_person : MI := (⟨"WhoeverHeardModel", "person", "(IIII)I"⟩, prog_12_method_30_code, 6, (some .int))
def mR_move : MI := (⟨"WhoeverHeardModel", "move", "(II)I"⟩, prog_12_method_31_code, 4, (some .int))
def mR_whereIs : MI := (⟨"WhoeverHeardModel", "whereIs", "(II)I"⟩, prog_12_method_32_code, 5, (some .int))
def mR_told : MI := (⟨"WhoeverHeardModel", "told", "(II)I"⟩, prog_12_method_33_code, 3, (some .int))
def mR_promise : MI := (⟨"WhoeverHeardModel", "promise", "(IIII)I"⟩, prog_12_method_34_code, 5, (some .int))
def mR_promised : MI := (⟨"WhoeverHeardModel", "promised", "(II)I"⟩, prog_12_method_35_code, 3, (some .int))
def mR_says : MI := (⟨"WhoeverHeardModel", "says", "(III)V"⟩, prog_12_method_36_code, 4, none)
def mR_say : MI := (⟨"WhoeverHeardModel", "say", "(II)I"⟩, prog_12_method_37_code, 4, (some .int))
def mR_unsay : MI := (⟨"WhoeverHeardModel", "unsay", "()I"⟩, prog_12_method_38_code, 1, (some .int))
def mR_said : MI := (⟨"WhoeverHeardModel", "said", "(II)I"⟩, prog_12_method_39_code, 3, (some .int))
def mR_hearsOf : MI := (⟨"WhoeverHeardModel", "hearsOf", "(II)I"⟩, prog_12_method_40_code, 5, (some .int))
def mR_hears : MI := (⟨"WhoeverHeardModel", "hears", "(II)I"⟩, prog_12_method_41_code, 3, (some .int))
def mR_isClear : MI := (⟨"WhoeverHeardModel", "isClear", "(II)Z"⟩, prog_12_method_42_code, 4, (some .boolean))
def mR_clearTo : MI := (⟨"WhoeverHeardModel", "clearTo", "(I)I"⟩, prog_12_method_43_code, 4, (some .int))
def mR_heard : MI := (⟨"WhoeverHeardModel", "heard", "(I)I"⟩, prog_12_method_44_code, 2, (some .int))
def mR_nobody : MI := (⟨"WhoeverHeardModel", "nobody", "()I"⟩, prog_12_method_45_code, 3, (some .int))
def mR_can : MI := (⟨"WhoeverHeardModel", "can", "(II)Z"⟩, prog_12_method_46_code, 3, (some .boolean))
def mR_ones : MI := (⟨"WhoeverHeardModel", "ones", "(I)I"⟩, prog_12_method_47_code, 3, (some .int))
def mR_owesBy : MI := (⟨"WhoeverHeardModel", "owesBy", "(I)V"⟩, prog_12_method_48_code, 7, none)
def mR_strikes : MI := (⟨"WhoeverHeardModel", "strikes", "(I)V"⟩, prog_12_method_49_code, 5, none)
def mR_fits : MI := (⟨"WhoeverHeardModel", "fits", "(I)V"⟩, prog_12_method_50_code, 5, none)
def mR_owes : MI := (⟨"WhoeverHeardModel", "owes", "(I)V"⟩, prog_12_method_51_code, 3, none)
def mR_owe : MI := (⟨"WhoeverHeardModel", "owe", "(II)I"⟩, prog_12_method_52_code, 3, (some .int))
def mR_owedBy : MI := (⟨"WhoeverHeardModel", "owedBy", "(I)I"⟩, prog_12_method_53_code, 4, (some .int))
def mR_painOf : MI := (⟨"WhoeverHeardModel", "painOf", "(I)I"⟩, prog_12_method_54_code, 2, (some .int))
def mR_load : MI := (⟨"WhoeverHeardModel", "load", "(II)I"⟩, prog_12_method_55_code, 3, (some .int))
def mR_doneOf : MI := (⟨"WhoeverHeardModel", "doneOf", "(I)I"⟩, prog_12_method_56_code, 4, (some .int))
def mR_isKept : MI := (⟨"WhoeverHeardModel", "isKept", "(I)Z"⟩, prog_12_method_57_code, 2, (some .boolean))
def mR_done : MI := (⟨"WhoeverHeardModel", "done", "(I)I"⟩, prog_12_method_58_code, 2, (some .int))
def mR_keptNow : MI := (⟨"WhoeverHeardModel", "keptNow", "()I"⟩, prog_12_method_59_code, 3, (some .int))
def mR_worthNow : MI := (⟨"WhoeverHeardModel", "worthNow", "()I"⟩, prog_12_method_60_code, 3, (some .int))
def mR_painNow : MI := (⟨"WhoeverHeardModel", "painNow", "()I"⟩, prog_12_method_61_code, 3, (some .int))
def mR_sum : MI := (⟨"WhoeverHeardModel", "sum", "(I)I"⟩, prog_12_method_62_code, 4, (some .int))
def mR_wayTo : MI := (⟨"WhoeverHeardModel", "wayTo", "(I)I"⟩, prog_12_method_63_code, 2, (some .int))
def mR_judge : MI := (⟨"WhoeverHeardModel", "judge", "()I"⟩, prog_12_method_64_code, 3, (some .int))
def mR_walk : MI := (⟨"WhoeverHeardModel", "walk", "()I"⟩, prog_12_method_65_code, 3, (some .int))
def mR_owesWith : MI := (⟨"WhoeverHeardModel", "owesWith", "(II)V"⟩, prog_12_method_66_code, 3, none)
def mR_isHow : MI := (⟨"WhoeverHeardModel", "isHow", "(I)Z"⟩, prog_12_method_67_code, 1, (some .boolean))
def mR_best : MI := (⟨"WhoeverHeardModel", "best", "(II)I"⟩, prog_12_method_68_code, 6, (some .int))
def mR_foe : MI := (⟨"WhoeverHeardModel", "foe", "(III)I"⟩, prog_12_method_69_code, 7, (some .int))
def mR_loud : MI := (⟨"WhoeverHeardModel", "loud", "(III)I"⟩, prog_12_method_70_code, 5, (some .int))
def mR_spare : MI := (⟨"WhoeverHeardModel", "spare", "()I"⟩, prog_12_method_71_code, 4, (some .int))
def mR_shares : MI := (⟨"WhoeverHeardModel", "shares", "(I)Z"⟩, prog_12_method_72_code, 7, (some .boolean))
def mR_even : MI := (⟨"WhoeverHeardModel", "even", "(II)I"⟩, prog_12_method_73_code, 3, (some .int))
def mR_hardest : MI := (⟨"WhoeverHeardModel", "hardest", "(I)I"⟩, prog_12_method_74_code, 4, (some .int))
def mR_owedAt : MI := (⟨"WhoeverHeardModel", "owedAt", "(II)I"⟩, prog_12_method_75_code, 4, (some .int))
def mR_goesTo : MI := (⟨"WhoeverHeardModel", "goesTo", "(IZ)I"⟩, prog_12_method_76_code, 7, (some .int))
def mR_flee : MI := (⟨"WhoeverHeardModel", "flee", "(II)I"⟩, prog_12_method_77_code, 4, (some .int))
def mR_send : MI := (⟨"WhoeverHeardModel", "send", "(II)I"⟩, prog_12_method_78_code, 4, (some .int))
def mR_rest : MI := (⟨"WhoeverHeardModel", "rest", "(I)I"⟩, prog_12_method_79_code, 6, (some .int))
def mR_chanceOf : MI := (⟨"WhoeverHeardModel", "chanceOf", "(II)J"⟩, prog_12_method_80_code, 6, (some .long))
def mR_chance : MI := (⟨"WhoeverHeardModel", "chance", "(II)J"⟩, prog_12_method_81_code, 3, (some .long))
def mR_lost : MI := (⟨"WhoeverHeardModel", "lost", "(I)J"⟩, prog_12_method_82_code, 5, (some .long))
def mR_laws : MI := (⟨"WhoeverHeardModel", "laws", "(I)I"⟩, prog_12_method_83_code, 8, (some .int))
def mR_sheetWrong : MI := (⟨"WhoeverHeardModel", "sheetWrong", "(I)I"⟩, prog_12_method_84_code, 2, (some .int))
def mR_unlike : MI := (⟨"WhoeverHeardModel", "unlike", "(I)I"⟩, prog_12_method_85_code, 3, (some .int))
def mR_witness : MI := (⟨"WhoeverHeardModel", "witness", "(I)I"⟩, prog_12_method_86_code, 3, (some .int))
def mR_alibi : MI := (⟨"WhoeverHeardModel", "alibi", "(II)I"⟩, prog_12_method_87_code, 7, (some .int))
def mR_draws : MI := (⟨"WhoeverHeardModel", "draws", "(I)V"⟩, prog_12_method_88_code, 2, none)
def mR_drawn : MI := (⟨"WhoeverHeardModel", "drawn", "(II)I"⟩, prog_12_method_89_code, 3, (some .int))
def mR_lowest : MI := (⟨"WhoeverHeardModel", "lowest", "(JJI)J"⟩, prog_12_method_90_code, 11, (some .long))
def mR_odds : MI := (⟨"WhoeverHeardModel", "odds", "(IIII)J"⟩, prog_12_method_91_code, 9, (some .long))
def mR_image : MI := (⟨"WhoeverHeardModel", "image", "()I"⟩, prog_12_method_92_code, 2, (some .int))
def mR_back : MI := (⟨"WhoeverHeardModel", "back", "()I"⟩, prog_12_method_93_code, 2, (some .int))
def mR_sheet : MI := (⟨"WhoeverHeardModel", "sheet", "(III)I"⟩, prog_12_method_94_code, 5, (some .int))
def mR_cell : MI := (⟨"WhoeverHeardModel", "cell", "(III)I"⟩, prog_12_method_95_code, 4, (some .int))
def mR_copy : MI := (⟨"WhoeverHeardModel", "copy", "(IIIII)I"⟩, prog_12_method_96_code, 10, (some .int))
def mR_promisesBy : MI := (⟨"WhoeverHeardModel", "promisesBy", "(IIII)I"⟩, prog_12_method_97_code, 9, (some .int))
def mR_isUnder : MI := (⟨"WhoeverHeardModel", "isUnder", "(II)Z"⟩, prog_12_method_98_code, 2, (some .boolean))
def mR_taken : MI := (⟨"WhoeverHeardModel", "taken", "(II)I"⟩, prog_12_method_99_code, 3, (some .int))
def mInteger_bitCount : MI := (⟨"java/lang/Integer", "bitCount", "(I)I"⟩, prog_13_method_49_code, 1, (some .int))
def mMath_abs : MI := (⟨"java/lang/Math", "abs", "(I)I"⟩, prog_14_method_59_code, 1, (some .int))
def mMath_max : MI := (⟨"java/lang/Math", "max", "(II)I"⟩, prog_14_method_65_code, 2, (some .int))
def mMath_min : MI := (⟨"java/lang/Math", "min", "(II)I"⟩, prog_14_method_69_code, 2, (some .int))
def mString_length : MI := (⟨"java/lang/String", "length", "()I"⟩, prog_15_method_54_code, 1, (some .int))
def mString_charAt : MI := (⟨"java/lang/String", "charAt", "(I)C"⟩, prog_15_method_56_code, 2, (some .char))
def mString_coder : MI := (⟨"java/lang/String", "coder", "()B"⟩, prog_15_method_152_code, 1, (some .byte))
def mString_isLatin1 : MI := (⟨"java/lang/String", "isLatin1", "()Z"⟩, prog_15_method_154_code, 1, (some .boolean))
def mString_checkIndex : MI := (⟨"java/lang/String", "checkIndex", "(II)V"⟩, prog_15_method_155_code, 2, none)
def mStringLatin1_charAt : MI := (⟨"java/lang/StringLatin1", "charAt", "([BI)C"⟩, prog_16_method_2_code, 2, (some .char))
def mStringUTF16_getChar : MI := (⟨"java/lang/StringUTF16", "getChar", "([BI)C"⟩, prog_17_method_5_code, 2, (some .char))
def mStringUTF16_length : MI := (⟨"java/lang/StringUTF16", "length", "([B)I"⟩, prog_17_method_6_code, 1, (some .int))
def mStringUTF16_charAt : MI := (⟨"java/lang/StringUTF16", "charAt", "([BI)C"⟩, prog_17_method_83_code, 2, (some .char))
def mStringUTF16_checkIndex : MI := (⟨"java/lang/StringUTF16", "checkIndex", "(I[B)V"⟩, prog_17_method_91_code, 2, none)
def mPreconditions_checkIndex : MI := (⟨"jdk/internal/util/Preconditions", "checkIndex", "(IILjava/util/function/BiFunction;)I"⟩, prog_19_method_11_code, 3, (some .int))
def mLaw_law : MI := (⟨"WhoeverHeardLaw", "law", "([I)Z"⟩, code, 4, ret)
def nStr : Nat := 13
def stO : List String := ["WhoeverHeard", "WhoeverHeard$Reader", "WhoeverHeard$Reader", "WhoeverHeard$Reader", "WhoeverHeard$Reader", "WhoeverHeard$Reader", "WhoeverHeard$Reader", "WhoeverHeard$Reader", "WhoeverHeard$Reader", "WhoeverHeard$Reader", "WhoeverHeard$Reader", "WhoeverHeard$Reader", "WhoeverHeard$Reader"]
def stK : List Nat := [74, 88, 94, 96, 98, 100, 102, 104, 106, 108, 110, 112, 114]
def stT : List String := ["heard 40 + loud * 12 - far * 15 + ear * 3 ; share need ; pain need * base ;", "loud", "far", "ear", "need", "many", "base", "heard", "share", "pain", "or", "and", "not"]
def stL : List Nat := [75, 4, 3, 3, 4, 4, 4, 5, 5, 4, 2, 3, 3]
def stB : List (List Int32) := [[104, 101, 97, 114, 100, 32, 52, 48, 32, 43, 32, 108, 111, 117, 100, 32, 42, 32, 49, 50, 32, 45, 32, 102, 97, 114, 32, 42, 32, 49, 53, 32, 43, 32, 101, 97, 114, 32, 42, 32, 51, 32, 59, 32, 115, 104, 97, 114, 101, 32, 110, 101, 101, 100, 32, 59, 32, 112, 97, 105, 110, 32, 110, 101, 101, 100, 32, 42, 32, 98, 97, 115, 101, 32, 59], [108, 111, 117, 100], [102, 97, 114], [101, 97, 114], [110, 101, 101, 100], [109, 97, 110, 121], [98, 97, 115, 101], [104, 101, 97, 114, 100], [115, 104, 97, 114, 101], [112, 97, 105, 110], [111, 114], [97, 110, 100], [110, 111, 116]]
def nwM : List (String × Nat × MethodName × String) := [("WhoeverHeard", 18, ⟨"WhoeverHeard$Folk", "<init>", "()V"⟩, "WhoeverHeard"), ("WhoeverHeard", 25, ⟨"WhoeverHeard$Vows", "<init>", "()V"⟩, "WhoeverHeard"), ("WhoeverHeard", 32, ⟨"WhoeverHeard$Sayings", "<init>", "()V"⟩, "WhoeverHeard"), ("WhoeverHeard", 39, ⟨"WhoeverHeard$Reader", "<init>", "()V"⟩, "WhoeverHeard"), ("WhoeverHeard", 46, ⟨"WhoeverHeard$Texts", "<init>", "()V"⟩, "WhoeverHeard"), ("WhoeverHeard", 62, ⟨"WhoeverHeard$Image", "<init>", "()V"⟩, "WhoeverHeard"), ("WhoeverHeard$Image", 20, ⟨"WhoeverHeard$Sayings", "<init>", "()V"⟩, "WhoeverHeard"), ("WhoeverHeard", 69, ⟨"WhoeverHeard$Sheets", "<init>", "()V"⟩, "WhoeverHeard"), ("WhoeverHeard$Reader", 126, ⟨"WhoeverHeard", "within", "(III)Z"⟩, "WhoeverHeard"), ("WhoeverHeard$Folk", 40, ⟨"WhoeverHeard", "within", "(III)Z"⟩, "WhoeverHeard"), ("WhoeverHeard$Vows", 28, ⟨"WhoeverHeard", "within", "(III)Z"⟩, "WhoeverHeard"), ("WhoeverHeard$Sayings", 28, ⟨"WhoeverHeard", "within", "(III)Z"⟩, "WhoeverHeard"), ("WhoeverHeard$Ledger", 120, ⟨"WhoeverHeard", "bounded", "(II)I"⟩, "WhoeverHeard")]
def nwF : List (String × Nat × String × String × String × String) := [("WhoeverHeard$Folk", 44, "WhoeverHeard", "KIND_ABOVE", "[I", "WhoeverHeard")]
def kaL : List Int32 := [-1, 0, 0, 1, 0, 1]
def arrIntAt : Nat := 121
end
section
/-- the words that a method may rest on -/
def lwT : List Cond := lw_tbl.filter goodWord
theorem lwT_of {w : Cond} (h : w ∈ lw_tbl) (hg : goodWord w = true) : w ∈ lwT := List.mem_filter.mpr ⟨h, hg⟩
/-! the frame: a method over a pure picture of the heap (cells by their number since the law began), any instruction a row -/
abbrev IM : Type := Nat → Nat → Int32
abbrev LM : Type := Nat → Nat → Int64
/-- the shape: how many cells, what each is (below 100: an object of that class; else an int array, its length and 100), references (0 null, else the cell's number and 1) -/
abbrev Shp : Type := Nat × (Nat → Nat) × (Nat → Nat → Nat)
def sn (S : Shp) : Nat := S.1
def kd (S : Shp) : Nat → Nat := S.2.1
def rr (S : Shp) : Nat → Nat → Nat := S.2.2
/-- the world: class ids and slots, int[]'s class, the first new address, foreign addresses, the script's length and ints -/
abbrev WG : Type := va_G × ClassId × Nat × (Nat → Nat) × Nat × (Nat → Int32)
def gD (G : WG) : va_G := G.1
def gA (G : WG) : ClassId := G.2.1
def gb (G : WG) : Nat := G.2.2.1
def gf (G : WG) : Nat → Nat := G.2.2.2.1
def gL (G : WG) : Nat := G.2.2.2.2.1
def gx (G : WG) : Nat → Int32 := G.2.2.2.2.2
def adr (G : WG) (k : Nat) : Nat := if k < 1000000 then gb G + k else gf G (k - 1000000)
def vmap (G : WG) (v : Value) : Value := match v with
  | .ref k => .ref (adr G k)
  | w => w
def rv (G : WG) (r : Nat) : Value := match r with
  | 0 => .null
  | k + 1 => .ref (adr G k)
def ft (c j : Nat) : Nat := (ftab.getD c []).getD j 0
def nf (c : Nat) : Nat := (ftab.getD c []).length
def fval (G : WG) (S : Shp) (I : IM) (L : LM) (c k j : Nat) : Value := match ft c j with
  | 0 => .int (I k j)
  | 1 => .long (L k j)
  | _ => rv G (rr S k j)
def cellE (G : WG) (S : Shp) (I : IM) (L : LM) (k : Nat) : va_E :=
  if kd S k < 100 then .inr (kd S k, (List.range (nf (kd S k))).map (fval G S I L (kd S k) k)) else .inl (gA G, (kd S k - 100, .inl (I k)))
def wsl (G : WG) (S : Shp) (I : IM) (L : LM) : va_W := (List.range (sn S)).map fun k => (gb G + k, cellE G S I L k)
def AA (G : WG) : Nat → Prop := fun q => gb G ≤ q
def Rep (G : WG) (S : Shp) (I : IM) (L : LM) (H : Heap) : Prop := H.size = gb G + sn S ∧ sn S < 1000000 ∧ va_P (gD G) vwCl (wsl G S I L) H
/-- one row of a picture anew, one cell of it -/
def upr {α : Type} (I : Nat → Nat → α) (k : Nat) (f : Nat → α) : Nat → Nat → α := fun i => if i = k then f else I i
def up1 {α : Type} (f : Nat → α) (j : Nat) (x : α) : Nat → α := fun i => if i = j then x else f i
def up2 {α : Type} (I : Nat → Nat → α) (k j : Nat) (x : α) : Nat → Nat → α := upr I k (up1 (I k) j x)
theorem upr_s {α : Type} (I : Nat → Nat → α) (k : Nat) (f : Nat → α) : upr I k f k = f := by simp [upr]
theorem upr_n {α : Type} (I : Nat → Nat → α) {k i : Nat} (f : Nat → α) (h : i ≠ k) : upr I k f i = I i := by simp [upr, h]
theorem up2_s {α : Type} (I : Nat → Nat → α) (k j : Nat) (x : α) : up2 I k j x k = up1 (I k) j x := upr_s I k _
theorem up2_n {α : Type} (I : Nat → Nat → α) {k i : Nat} (j : Nat) (x : α) (h : i ≠ k) : up2 I k j x i = I i := upr_n I _ h
theorem up1_upd (f : Nat → Int32) (j : Nat) (x : Int32) : up1 f j x = upd f j x := by
  funext i; simp [up1, upd]
theorem wsl_get (G : WG) (S : Shp) (I : IM) (L : LM) {k : Nat} (h : k < sn S) : (wsl G S I L)[k]? = some (gb G + k, cellE G S I L k) := by
  simp [wsl, h]
theorem wsl_len (G : WG) (S : Shp) (I : IM) (L : LM) : (wsl G S I L).length = sn S := by simp [wsl]
theorem wsl_none (G : WG) (S : Shp) (I : IM) (L : LM) {k : Nat} (h : ¬ k < sn S) : (wsl G S I L)[k]? = none := by
  simp [wsl, h]
theorem wsl_at (G : WG) (S : Shp) (I : IM) (L : LM) {k : Nat} {q : Nat × va_E} (h : (wsl G S I L)[k]? = some q) : k < sn S ∧ q = (gb G + k, cellE G S I L k) := by
  by_cases hk : k < sn S
  · rw [wsl_get G S I L hk] at h
    exact ⟨hk, (Option.some.inj h).symm⟩
  · rw [wsl_none G S I L hk] at h
    cases h
theorem wsl_D (G : WG) (S : Shp) (I : IM) (L : LM) : va_D (AA G) (wsl G S I L) := by
  refine ⟨fun i j p q hi hj h => ?_, fun k q hk => ?_⟩
  · obtain ⟨-, rfl⟩ := wsl_at G S I L hi
    obtain ⟨-, rfl⟩ := wsl_at G S I L hj
    have h' : gb G + i = gb G + j := h
    omega
  · obtain ⟨-, rfl⟩ := wsl_at G S I L hk
    exact Nat.le_add_right _ _
theorem wsl_set (G : WG) (S : Shp) (I I' : IM) (L L' : LM) (S' : Shp) {k : Nat} (hk : k < sn S) (hn : sn S' = sn S) (e : va_E) (he : cellE G S' I' L' k = e) (ho : ∀ i, i ≠ k → cellE G S' I' L' i = cellE G S I L i) : (wsl G S I L).set k (gb G + k, e) = wsl G S' I' L' := by
  apply List.ext_getElem?
  intro i
  by_cases hi : i < sn S
  · rw [wsl_get G S' I' L' (by rw [hn]; exact hi)]
    by_cases hik : i = k
    · subst hik
      rw [List.getElem?_set_self (by rw [wsl_len]; exact hk), he]
    · rw [List.getElem?_set_ne (fun h => hik h.symm), wsl_get G S I L hi, ho i hik]
  · rw [wsl_none G S' I' L' (by rw [hn]; exact hi)]
    simp [List.getElem?_set, wsl_none G S I L hi, wsl_len]
    omega
theorem wsl_push (G : WG) (S S' : Shp) (I I' : IM) (L L' : LM) (hn : sn S' = sn S + 1) (e : va_E) (he : cellE G S' I' L' (sn S) = e) (ho : ∀ i, i < sn S → cellE G S' I' L' i = cellE G S I L i) : wsl G S I L ++ [(gb G + sn S, e)] = wsl G S' I' L' := by
  apply List.ext_getElem?
  intro i
  by_cases hi : i < sn S
  · rw [wsl_get G S' I' L' (by omega), List.getElem?_append_left (by rw [wsl_len]; exact hi), wsl_get G S I L hi, ho i hi]
  · rw [List.getElem?_append_right (by rw [wsl_len]; omega), wsl_len]
    by_cases h2 : i = sn S
    · subst h2
      rw [wsl_get G S' I' L' (by omega), he]
      simp
    · rw [wsl_none G S' I' L' (by omega)]
      simp
      omega
theorem cellE_o (G : WG) (S : Shp) (I : IM) (L : LM) {k c : Nat} (h : kd S k = c) (hc : c < 100) : cellE G S I L k = .inr (c, (List.range (nf c)).map (fval G S I L c k)) := by
  subst h
  simp [cellE, hc]
theorem cellE_a (G : WG) (S : Shp) (I : IM) (L : LM) {k n : Nat} (h : kd S k = n + 100) : cellE G S I L k = .inl (gA G, (n, .inl (I k))) := by
  have h2 : ¬ kd S k < 100 := by omega
  rw [cellE, if_neg h2]
  rw [h, Nat.add_sub_cancel]
theorem cellE_c (G : WG) (S S' : Shp) (I I' : IM) (L L' : LM) {i : Nat} (h1 : kd S' i = kd S i) (h2 : rr S' i = rr S i) (h3 : I' i = I i) (h4 : L' i = L i) : cellE G S' I' L' i = cellE G S I L i := by
  unfold cellE
  have hf : fval G S' I' L' (kd S i) i = fval G S I L (kd S i) i := by
    funext j
    simp [fval, h2, h3, h4]
  rw [h1, h3, hf]
theorem wsl_arr (G : WG) (S : Shp) (I : IM) (L : LM) {k n : Nat} (hk : k < sn S) (h : kd S k = n + 100) : (wsl G S I L)[k]? = some (gb G + k, .inl (gA G, (n, .inl (I k)))) := by
  rw [wsl_get G S I L hk, cellE_a G S I L h]
theorem wsl_obj (G : WG) (S : Shp) (I : IM) (L : LM) {k c : Nat} (hk : k < sn S) (h : kd S k = c) (hc : c < 100) : (wsl G S I L)[k]? = some (gb G + k, .inr (c, (List.range (nf c)).map (fval G S I L c k))) := by
  rw [wsl_get G S I L hk, cellE_o G S I L h hc]
theorem adr_o (G : WG) {k : Nat} (h : k < 1000000) : adr G k = gb G + k := by simp [adr, h]
theorem adr_f (G : WG) (i : Nat) : adr G (1000000 + i) = gf G i := by
  have h : ¬ (1000000 + i < 1000000) := by omega
  rw [adr, if_neg h, Nat.add_sub_cancel_left]
/-! what stands outside: KIND_ABOVE, string constants, the script -/
def FF (G : WG) (s : State) : Prop :=
  va_Z "WhoeverHeard" "KIND_ABOVE" "[I" (.ref (gf G 100)) (AA G) s s.heap ∧
  va_T .int (gf G 100) 6 (fun j => .int (kaL.getD j 0)) (AA G) s s.heap ∧
  (∀ i, i < nStr → vk_R (stO.getD i "") (stK.getD i 0) (stT.getD i "") (gf G i) s) ∧
  vk_S nStr stL stB (fun i => gf G i) (fun i => gf G (50 + i)) (AA G) s s.heap ∧
  va_Z "java/lang/String" "COMPACT_STRINGS" "Z" (.int 1) (AA G) s s.heap ∧
  (va_Z "jdk/internal/util/Preconditions" "SIOOBE_FORMATTER" "Ljava/util/function/BiFunction;" .null (AA G) s s.heap ∨ va_Z "jdk/internal/util/Preconditions" "SIOOBE_FORMATTER" "Ljava/util/function/BiFunction;" (.ref (gf G 150)) (AA G) s s.heap) ∧
  va_X (gf G 200) (gL G) (gx G) s s.heap ∧ gf G 200 < s.heap.size ∧ gf G 200 < gb G ∧
  (∀ q ∈ nwM, va_Nw (.methodLinkNest q.1 q.2.1 q.2.2.1 q.2.2.2) s) ∧ (∀ q ∈ nwF, va_Nw (.fieldLinkNest q.1 q.2.1 q.2.2.1 q.2.2.2.1 q.2.2.2.2.1 q.2.2.2.2.2) s)
theorem FF.go {G : WG} {s U : State} {H : Heap} (h : FF G s) (hW : s.WarmedH U.vm) (hU : U.heap = H) (hz : s.heap.size ≤ H.size) (hk : ∀ q : Nat, q < s.heap.size → ¬ AA G q → H[q]? = s.heap[q]?) : FF G U := by
  obtain ⟨h1, h2, h3, h4, h5, h6, h7, h8, h9, h10, h11⟩ := h
  subst hU
  refine ⟨(va_Z.moved hW.alike h1).kept hk, (va_T.moved hW.alike h2).kept hk, fun i hi => (h3 i hi).warm hW, (vk_S.moved hW.alike h4).kept hk, (va_Z.moved hW.alike h5).kept hk, ?_, (va_X.moved hW.alike h7).kept (hk _ h8 (by show ¬ (gb G ≤ gf G 200); omega)), Nat.lt_of_lt_of_le h8 hz, h9, fun q hq => va_Nw.warmM hW (h10 q hq), fun q hq => va_Nw.warmF hW (h11 q hq)⟩
  rcases h6 with h6 | h6
  · exact Or.inl ((va_Z.moved hW.alike h6).kept hk)
  · exact Or.inr ((va_Z.moved hW.alike h6).kept hk)
theorem FF.blind {G : WG} {U : State} (g : JFrame) (mk : MethodId) (a : Array Value) (h : FF G U) : FF G (U.calling g mk a) := by
  obtain ⟨h1, h2, h3, h4, h5, h6, h7, h8, h9, h10, h11⟩ := h
  have hv : U.vm.Alike (U.calling g mk a).vm := Vm.Alike.refl U.vm
  refine ⟨va_Z.moved hv h1, va_T.moved hv h2, fun i hi => vk_R.same (u := U) rfl (h3 i hi), vk_S.moved hv h4, va_Z.moved hv h5, ?_, va_X.moved hv h7, h8, h9, fun q hq => va_Nw.same rfl (u := U) rfl (h10 q hq), fun q hq => va_Nw.same rfl (u := U) rfl (h11 q hq)⟩
  rcases h6 with h6 | h6
  · exact Or.inl (va_Z.moved hv h6)
  · exact Or.inr (va_Z.moved hv h6)
/-! the judgement -/
abbrev PostT : Type := Option Value → Shp → IM → LM → Prop
def Cx (M : MI) (p : Program) (s : State) (m : MethodId) (args : Array Value) (meth : Method) (c : Code) : Prop :=
  p.tables.exec = Jvm.exec ∧ c.code = mcc M ∧ c.maxLocals = mnl M ∧ s.vm.findClass (my M).cls = some m.cls ∧ (∀ w ∈ lwT, w.before args s = true) ∧ meth.name = (my M).name
def LH (G : WG) (ls : Array Slot) (nL : Nat) (loc : List Value) : Prop :=
  ls.size = nL ∧ lv_wf ls ∧ ∀ (j : Nat) (v : Value), loc[j]? = some v → v ≠ .null → ls[j]? = some (.val (vmap G v))
/-- how a return instruction fits an answer -/
def RetI (M : MI) (pc : Nat) (v : Option Value) : Prop :=
  (∃ (x : Int32) (ty : FieldType), v = some (.int x) ∧ mret M = some ty ∧ narrow ty (.int x) = .int x ∧ decode (mcc M) pc = .ok (.ireturn, 1)) ∨
  (∃ x : Int64, v = some (.long x) ∧ mret M = some .long ∧ decode (mcc M) pc = .ok (.lreturn, 1)) ∨ (v = none ∧ mret M = none ∧ decode (mcc M) pc = .ok (.return_, 1))
def Ret (G : WG) (M : MI) (Post : PostT) (p : Program) (l : Launch) (e : Env) (R : Room) (s : State) (m : MethodId) (args : Array Value) (below : List Frame) (meth : Method) (c : Code) (Q : State → Prop) : Prop :=
  ∀ (v : Option Value) (S : Shp) (I : IM) (L : LM) (H : Heap) (locs : List Loc) (cells slots pc : Nat) (ls : Array Slot), Post v S I L → RetI M pc v → Rep G S I L H → va_S (AA G) s.heap H locs → cells ≤ R.cells → slots ≤ R.slots →
    W p l e R s m args below meth c H locs cells slots Q (F0 m pc ls ((v.map (vmap G)).toList))
/-- the unchanging part of a walk -/
def BX (M : MI) (G : WG) (d : Nat) (Post : PostT) (p : Program) (l : Launch) (e : Env) (R : Room) (s : State) (m : MethodId) (args : Array Value) (below : List Frame) (meth : Method) (c : Code) (Q : State → Prop) : Prop :=
  Cx M p s m args meth c ∧ FF G s ∧ va_K (gD G) vwCl [(gA G, .int)] s ∧ gb G ≤ s.heap.size ∧ Ret G M Post p l e R s m args below meth c Q ∧ d ≤ R.frames ∧ 500 * d ≤ R.locals
/-- from here the method comes to a return with Post -/
def X (M : MI) (G : WG) (r : Nat × Nat × Nat) (S : Shp) (I : IM) (L : LM) (pc : Nat) (loc st : List Value) (Post : PostT) : Prop :=
  ∀ (p : Program) (l : Launch) (e : Env) (R : Room) (s : State) (m : MethodId) (args : Array Value) (below : List Frame) (meth : Method) (c : Code) (Q : State → Prop), BX M G r.1 Post p l e R s m args below meth c Q →
  ∀ (H : Heap) (locs : List Loc) (cells slots : Nat) (ls : Array Slot), cells + r.2.1 ≤ R.cells → slots + r.2.2 ≤ R.slots → Rep G S I L H → va_S (AA G) s.heap H locs → LH G ls (mnl M) loc →
    W p l e R s m args below meth c H locs cells slots Q (F0 m pc ls (st.map (vmap G)))
end
section
/-! the classes of the tables -/
/-- the classes of the tables: their rows are there, names differ, kinds of fields are as ftab has them -/
def tyF (c j : Nat) : FieldType := match c with
  | 0 => tyX0 j | 1 => tyX1 j | 2 => tyX2 j | 3 => tyX3 j | 4 => tyX4 j | 5 => tyX5 j | 6 => tyX6 j | 7 => tyX7 j | 8 => tyX8 j | 9 => tyX9 j | _ => tyX10 j
def ClsOk (ci : Nat) (q : vw_C) : Prop := (∀ w ∈ u_ws q.1 q.2.1 q.2.2, w ∈ lwT) ∧ (∀ a, a < q.2.2 → ∀ b, b < q.2.2 → a ≠ b → (q.2.1 a).2.1 ≠ (q.2.1 b).2.1) ∧ (∀ k, k < q.2.2 → parseFieldDescriptor (q.2.1 k).2.2.1 = some (tyF ci k)) ∧ nf ci = q.2.2 ∧
  (∀ k, k < q.2.2 → (ft ci k = 0 ∧ (tyF ci k = .int ∨ tyF ci k = .boolean)) ∨ (ft ci k = 1 ∧ tyF ci k = .long) ∨ (ft ci k = 2 ∧ refKind (tyF ci k) = true)) ∧ ci < 100
theorem cls_ok : ∀ (ci : Nat) (q : vw_C), vwCl[ci]? = some q → ClsOk ci q := by
  intro ci q h
  match ci, h with
  | 0, h => cases h; exact ⟨fun w hw => lwT_of ((by decide +kernel : ∀ w ∈ u_ws RX0 TX0 9, w ∈ lw_tbl) w hw) ((by decide +kernel : ∀ w ∈ u_ws RX0 TX0 9, goodWord w = true) w hw), by decide +kernel, by decide +kernel, by decide +kernel, by decide +kernel, by decide +kernel⟩
  | 1, h => cases h; exact ⟨fun w hw => lwT_of ((by decide +kernel : ∀ w ∈ u_ws RX1 TX1 6, w ∈ lw_tbl) w hw) ((by decide +kernel : ∀ w ∈ u_ws RX1 TX1 6, goodWord w = true) w hw), by decide +kernel, by decide +kernel, by decide +kernel, by decide +kernel, by decide +kernel⟩
  | 2, h => cases h; exact ⟨fun w hw => lwT_of ((by decide +kernel : ∀ w ∈ u_ws RX2 TX2 15, w ∈ lw_tbl) w hw) ((by decide +kernel : ∀ w ∈ u_ws RX2 TX2 15, goodWord w = true) w hw), by decide +kernel, by decide +kernel, by decide +kernel, by decide +kernel, by decide +kernel⟩
  | 3, h => cases h; exact ⟨fun w hw => lwT_of ((by decide +kernel : ∀ w ∈ u_ws RX3 TX3 10, w ∈ lw_tbl) w hw) ((by decide +kernel : ∀ w ∈ u_ws RX3 TX3 10, goodWord w = true) w hw), by decide +kernel, by decide +kernel, by decide +kernel, by decide +kernel, by decide +kernel⟩
  | 4, h => cases h; exact ⟨fun w hw => lwT_of ((by decide +kernel : ∀ w ∈ u_ws RX4 TX4 5, w ∈ lw_tbl) w hw) ((by decide +kernel : ∀ w ∈ u_ws RX4 TX4 5, goodWord w = true) w hw), by decide +kernel, by decide +kernel, by decide +kernel, by decide +kernel, by decide +kernel⟩
  | 5, h => cases h; exact ⟨fun w hw => lwT_of ((by decide +kernel : ∀ w ∈ u_ws RX5 TX5 3, w ∈ lw_tbl) w hw) ((by decide +kernel : ∀ w ∈ u_ws RX5 TX5 3, goodWord w = true) w hw), by decide +kernel, by decide +kernel, by decide +kernel, by decide +kernel, by decide +kernel⟩
  | 6, h => cases h; exact ⟨fun w hw => lwT_of ((by decide +kernel : ∀ w ∈ u_ws RX6 TX6 6, w ∈ lw_tbl) w hw) ((by decide +kernel : ∀ w ∈ u_ws RX6 TX6 6, goodWord w = true) w hw), by decide +kernel, by decide +kernel, by decide +kernel, by decide +kernel, by decide +kernel⟩
  | 7, h => cases h; exact ⟨fun w hw => lwT_of ((by decide +kernel : ∀ w ∈ u_ws RX7 TX7 3, w ∈ lw_tbl) w hw) ((by decide +kernel : ∀ w ∈ u_ws RX7 TX7 3, goodWord w = true) w hw), by decide +kernel, by decide +kernel, by decide +kernel, by decide +kernel, by decide +kernel⟩
  | 8, h => cases h; exact ⟨fun w hw => lwT_of ((by decide +kernel : ∀ w ∈ u_ws RX8 TX8 5, w ∈ lw_tbl) w hw) ((by decide +kernel : ∀ w ∈ u_ws RX8 TX8 5, goodWord w = true) w hw), by decide +kernel, by decide +kernel, by decide +kernel, by decide +kernel, by decide +kernel⟩
  | 9, h => cases h; exact ⟨fun w hw => lwT_of ((by decide +kernel : ∀ w ∈ u_ws RX9 TX9 9, w ∈ lw_tbl) w hw) ((by decide +kernel : ∀ w ∈ u_ws RX9 TX9 9, goodWord w = true) w hw), by decide +kernel, by decide +kernel, by decide +kernel, by decide +kernel, by decide +kernel⟩
  | 10, h => cases h; exact ⟨fun w hw => lwT_of ((by decide +kernel : ∀ w ∈ u_ws RX10 TX10 62, w ∈ lw_tbl) w hw) ((by decide +kernel : ∀ w ∈ u_ws RX10 TX10 62, goodWord w = true) w hw), by decide +kernel, by decide +kernel, by decide +kernel, by decide +kernel, by decide +kernel⟩
  | n + 11, h => simp [vwCl] at h
end
section
/-! an instruction, a row -/
theorem x_iconst {M : MI} {G : WG} {r : Nat × Nat × Nat} {S : Shp} {I : IM} {L : LM} {pc : Nat} {loc rest : List Value} {Post : PostT} {n : Int} {v : Int32} (hd : decode (mcc M) pc = .ok (.iconst n, 1)) (hv : Int32.ofInt n = v) (k : X M G r S I L (pc + 1) loc (.int v :: rest) Post) : X M G r S I L pc loc rest Post := by
  intro p l e R s m args below meth c Q B H locs cells slots ls hc hs hR hS hL
  exact lv_iconst B.1.1 B.1.2.1 hd hv (k p l e R s m args below meth c Q B H locs cells slots ls hc hs hR hS hL)
theorem x_bipush {M : MI} {G : WG} {r : Nat × Nat × Nat} {S : Shp} {I : IM} {L : LM} {pc : Nat} {loc rest : List Value} {Post : PostT} {n : Int} {v : Int32} (hd : decode (mcc M) pc = .ok (.bipush n, 2)) (hv : (Int8.ofInt n).toInt32 = v) (k : X M G r S I L (pc + 2) loc (.int v :: rest) Post) : X M G r S I L pc loc rest Post := by
  intro p l e R s m args below meth c Q B H locs cells slots ls hc hs hR hS hL
  exact lv_bipush B.1.1 B.1.2.1 hd hv (k p l e R s m args below meth c Q B H locs cells slots ls hc hs hR hS hL)
theorem x_sipush {M : MI} {G : WG} {r : Nat × Nat × Nat} {S : Shp} {I : IM} {L : LM} {pc : Nat} {loc rest : List Value} {Post : PostT} {n : Int} {v : Int32} (hd : decode (mcc M) pc = .ok (.sipush n, 3)) (hv : (Int16.ofInt n).toInt32 = v) (k : X M G r S I L (pc + 3) loc (.int v :: rest) Post) : X M G r S I L pc loc rest Post := by
  intro p l e R s m args below meth c Q B H locs cells slots ls hc hs hR hS hL
  exact lv_sipush B.1.1 B.1.2.1 hd hv (k p l e R s m args below meth c Q B H locs cells slots ls hc hs hR hS hL)
theorem x_lconst {M : MI} {G : WG} {r : Nat × Nat × Nat} {S : Shp} {I : IM} {L : LM} {pc : Nat} {loc rest : List Value} {Post : PostT} {n : Fin 2} {v : Int64} (hd : decode (mcc M) pc = .ok (.lconst n, 1)) (hv : Int64.ofNat (n : Nat) = v) (k : X M G r S I L (pc + 1) loc (.long v :: rest) Post) : X M G r S I L pc loc rest Post := by
  intro p l e R s m args below meth c Q B H locs cells slots ls hc hs hR hS hL
  exact lv_lconst B.1.1 B.1.2.1 hd hv (k p l e R s m args below meth c Q B H locs cells slots ls hc hs hR hS hL)
theorem x_ldc {M : MI} {G : WG} {r : Nat × Nat × Nat} {S : Shp} {I : IM} {L : LM} {pc : Nat} {loc rest : List Value} {Post : PostT} {i : Nat} {v : Int32} (hd : decode (mcc M) pc = .ok (.ldc i, 2)) (hw : Cond.constant (my M).cls i v ∈ lwT) (k : X M G r S I L (pc + 2) loc (.int v :: rest) Post) : X M G r S I L pc loc rest Post := by
  intro p l e R s m args below meth c Q B H locs cells slots ls hc hs hR hS hL
  exact lv_ldc B.1.1 B.1.2.1 B.1.2.2.2.1 (B.1.2.2.2.2.1 _ hw) hd (k p l e R s m args below meth c Q B H locs cells slots ls hc hs hR hS hL)
theorem x_ldc2 {M : MI} {G : WG} {r : Nat × Nat × Nat} {S : Shp} {I : IM} {L : LM} {pc : Nat} {loc rest : List Value} {Post : PostT} {i : Nat} {v : Int64} (hd : decode (mcc M) pc = .ok (.ldc2_w i, 3)) (hw : Cond.constantLong (my M).cls i v ∈ lwT) (k : X M G r S I L (pc + 3) loc (.long v :: rest) Post) : X M G r S I L pc loc rest Post := by
  intro p l e R s m args below meth c Q B H locs cells slots ls hc hs hR hS hL
  exact lv_ldc2 B.1.1 B.1.2.1 B.1.2.2.2.1 (B.1.2.2.2.2.1 _ hw) hd (k p l e R s m args below meth c Q B H locs cells slots ls hc hs hR hS hL)
theorem x_iload_n {M : MI} {G : WG} {r : Nat × Nat × Nat} {S : Shp} {I : IM} {L : LM} {pc : Nat} {loc rest : List Value} {Post : PostT} {k0 : Fin 4} {x : Int32} (hd : decode (mcc M) pc = .ok (.iload_n k0, 1)) (hl : loc[(k0 : Nat)]? = some (.int x)) (k : X M G r S I L (pc + 1) loc (.int x :: rest) Post) : X M G r S I L pc loc rest Post := by
  intro p l e R s m args below meth c Q B H locs cells slots ls hc hs hR hS hL
  exact lv_iload_n B.1.1 B.1.2.1 hd rfl (hL.2.2 _ _ hl (by simp)) (k p l e R s m args below meth c Q B H locs cells slots ls hc hs hR hS hL)
theorem x_iload {M : MI} {G : WG} {r : Nat × Nat × Nat} {S : Shp} {I : IM} {L : LM} {pc : Nat} {loc rest : List Value} {Post : PostT} {k0 : Nat} {x : Int32} (hd : decode (mcc M) pc = .ok (.iload k0, 2)) (hl : loc[k0]? = some (.int x)) (k : X M G r S I L (pc + 2) loc (.int x :: rest) Post) : X M G r S I L pc loc rest Post := by
  intro p l e R s m args below meth c Q B H locs cells slots ls hc hs hR hS hL
  exact lv_iload B.1.1 B.1.2.1 hd (hL.2.2 _ _ hl (by simp)) (k p l e R s m args below meth c Q B H locs cells slots ls hc hs hR hS hL)
theorem x_lload_n {M : MI} {G : WG} {r : Nat × Nat × Nat} {S : Shp} {I : IM} {L : LM} {pc : Nat} {loc rest : List Value} {Post : PostT} {k0 : Fin 4} {x : Int64} (hd : decode (mcc M) pc = .ok (.lload_n k0, 1)) (hl : loc[(k0 : Nat)]? = some (.long x)) (k : X M G r S I L (pc + 1) loc (.long x :: rest) Post) : X M G r S I L pc loc rest Post := by
  intro p l e R s m args below meth c Q B H locs cells slots ls hc hs hR hS hL
  exact lv_lload_n B.1.1 B.1.2.1 hd rfl (hL.2.2 _ _ hl (by simp)) (k p l e R s m args below meth c Q B H locs cells slots ls hc hs hR hS hL)
theorem x_lload {M : MI} {G : WG} {r : Nat × Nat × Nat} {S : Shp} {I : IM} {L : LM} {pc : Nat} {loc rest : List Value} {Post : PostT} {k0 : Nat} {x : Int64} (hd : decode (mcc M) pc = .ok (.lload k0, 2)) (hl : loc[k0]? = some (.long x)) (k : X M G r S I L (pc + 2) loc (.long x :: rest) Post) : X M G r S I L pc loc rest Post := by
  intro p l e R s m args below meth c Q B H locs cells slots ls hc hs hR hS hL
  exact lv_lload B.1.1 B.1.2.1 hd (hL.2.2 _ _ hl (by simp)) (k p l e R s m args below meth c Q B H locs cells slots ls hc hs hR hS hL)
theorem x_aload_n {M : MI} {G : WG} {r : Nat × Nat × Nat} {S : Shp} {I : IM} {L : LM} {pc : Nat} {loc rest : List Value} {Post : PostT} {k0 : Fin 4} {x : Nat} (hd : decode (mcc M) pc = .ok (.aload_n k0, 1)) (hl : loc[(k0 : Nat)]? = some (.ref x)) (k : X M G r S I L (pc + 1) loc (.ref x :: rest) Post) : X M G r S I L pc loc rest Post := by
  intro p l e R s m args below meth c Q B H locs cells slots ls hc hs hR hS hL
  exact lv_aload_n B.1.1 B.1.2.1 hd rfl (hL.2.2 _ _ hl (by simp)) (k p l e R s m args below meth c Q B H locs cells slots ls hc hs hR hS hL)
theorem x_aload {M : MI} {G : WG} {r : Nat × Nat × Nat} {S : Shp} {I : IM} {L : LM} {pc : Nat} {loc rest : List Value} {Post : PostT} {k0 : Nat} {x : Nat} (hd : decode (mcc M) pc = .ok (.aload k0, 2)) (hl : loc[k0]? = some (.ref x)) (k : X M G r S I L (pc + 2) loc (.ref x :: rest) Post) : X M G r S I L pc loc rest Post := by
  intro p l e R s m args below meth c Q B H locs cells slots ls hc hs hR hS hL
  exact lv_aload B.1.1 B.1.2.1 hd (hL.2.2 _ _ hl (by simp)) (k p l e R s m args below meth c Q B H locs cells slots ls hc hs hR hS hL)
theorem x_iadd {M : MI} {G : WG} {r : Nat × Nat × Nat} {S : Shp} {I : IM} {L : LM} {pc : Nat} {loc rest : List Value} {Post : PostT} {x y : Int32} (hd : decode (mcc M) pc = .ok (.iadd, 1))  (k : X M G r S I L (pc + 1) loc (.int (x + y) :: rest) Post) : X M G r S I L pc loc (.int y :: .int x :: rest) Post := by
  intro p l e R s m args below meth c Q B H locs cells slots ls hc hs hR hS hL
  exact lv_iadd B.1.1 B.1.2.1 hd (k p l e R s m args below meth c Q B H locs cells slots ls hc hs hR hS hL)
theorem x_isub {M : MI} {G : WG} {r : Nat × Nat × Nat} {S : Shp} {I : IM} {L : LM} {pc : Nat} {loc rest : List Value} {Post : PostT} {x y : Int32} (hd : decode (mcc M) pc = .ok (.isub, 1))  (k : X M G r S I L (pc + 1) loc (.int (x - y) :: rest) Post) : X M G r S I L pc loc (.int y :: .int x :: rest) Post := by
  intro p l e R s m args below meth c Q B H locs cells slots ls hc hs hR hS hL
  exact lv_isub B.1.1 B.1.2.1 hd (k p l e R s m args below meth c Q B H locs cells slots ls hc hs hR hS hL)
theorem x_imul {M : MI} {G : WG} {r : Nat × Nat × Nat} {S : Shp} {I : IM} {L : LM} {pc : Nat} {loc rest : List Value} {Post : PostT} {x y : Int32} (hd : decode (mcc M) pc = .ok (.imul, 1))  (k : X M G r S I L (pc + 1) loc (.int (x * y) :: rest) Post) : X M G r S I L pc loc (.int y :: .int x :: rest) Post := by
  intro p l e R s m args below meth c Q B H locs cells slots ls hc hs hR hS hL
  exact lv_imul B.1.1 B.1.2.1 hd (k p l e R s m args below meth c Q B H locs cells slots ls hc hs hR hS hL)
theorem x_iand {M : MI} {G : WG} {r : Nat × Nat × Nat} {S : Shp} {I : IM} {L : LM} {pc : Nat} {loc rest : List Value} {Post : PostT} {x y : Int32} (hd : decode (mcc M) pc = .ok (.iand, 1))  (k : X M G r S I L (pc + 1) loc (.int (x &&& y) :: rest) Post) : X M G r S I L pc loc (.int y :: .int x :: rest) Post := by
  intro p l e R s m args below meth c Q B H locs cells slots ls hc hs hR hS hL
  exact lv_iand B.1.1 B.1.2.1 hd (k p l e R s m args below meth c Q B H locs cells slots ls hc hs hR hS hL)
theorem x_ior {M : MI} {G : WG} {r : Nat × Nat × Nat} {S : Shp} {I : IM} {L : LM} {pc : Nat} {loc rest : List Value} {Post : PostT} {x y : Int32} (hd : decode (mcc M) pc = .ok (.ior, 1))  (k : X M G r S I L (pc + 1) loc (.int (x ||| y) :: rest) Post) : X M G r S I L pc loc (.int y :: .int x :: rest) Post := by
  intro p l e R s m args below meth c Q B H locs cells slots ls hc hs hR hS hL
  exact lv_ior B.1.1 B.1.2.1 hd (k p l e R s m args below meth c Q B H locs cells slots ls hc hs hR hS hL)
theorem x_ixor {M : MI} {G : WG} {r : Nat × Nat × Nat} {S : Shp} {I : IM} {L : LM} {pc : Nat} {loc rest : List Value} {Post : PostT} {x y : Int32} (hd : decode (mcc M) pc = .ok (.ixor, 1))  (k : X M G r S I L (pc + 1) loc (.int (x ^^^ y) :: rest) Post) : X M G r S I L pc loc (.int y :: .int x :: rest) Post := by
  intro p l e R s m args below meth c Q B H locs cells slots ls hc hs hR hS hL
  exact lv_ixor B.1.1 B.1.2.1 hd (k p l e R s m args below meth c Q B H locs cells slots ls hc hs hR hS hL)
theorem x_ishl {M : MI} {G : WG} {r : Nat × Nat × Nat} {S : Shp} {I : IM} {L : LM} {pc : Nat} {loc rest : List Value} {Post : PostT} {x y : Int32} (hd : decode (mcc M) pc = .ok (.ishl, 1))  (k : X M G r S I L (pc + 1) loc (.int (x <<< (y &&& 31)) :: rest) Post) : X M G r S I L pc loc (.int y :: .int x :: rest) Post := by
  intro p l e R s m args below meth c Q B H locs cells slots ls hc hs hR hS hL
  exact lv_ishl B.1.1 B.1.2.1 hd (k p l e R s m args below meth c Q B H locs cells slots ls hc hs hR hS hL)
theorem x_ishr {M : MI} {G : WG} {r : Nat × Nat × Nat} {S : Shp} {I : IM} {L : LM} {pc : Nat} {loc rest : List Value} {Post : PostT} {x y : Int32} (hd : decode (mcc M) pc = .ok (.ishr, 1))  (k : X M G r S I L (pc + 1) loc (.int (x >>> (y &&& 31)) :: rest) Post) : X M G r S I L pc loc (.int y :: .int x :: rest) Post := by
  intro p l e R s m args below meth c Q B H locs cells slots ls hc hs hR hS hL
  exact lv_ishr B.1.1 B.1.2.1 hd (k p l e R s m args below meth c Q B H locs cells slots ls hc hs hR hS hL)
theorem x_idiv {M : MI} {G : WG} {r : Nat × Nat × Nat} {S : Shp} {I : IM} {L : LM} {pc : Nat} {loc rest : List Value} {Post : PostT} {x y : Int32} (hd : decode (mcc M) pc = .ok (.idiv, 1)) (hne : ¬ y = 0) (k : X M G r S I L (pc + 1) loc (.int (x / y) :: rest) Post) : X M G r S I L pc loc (.int y :: .int x :: rest) Post := by
  intro p l e R s m args below meth c Q B H locs cells slots ls hc hs hR hS hL
  exact lv_idiv B.1.1 B.1.2.1 hd hne (k p l e R s m args below meth c Q B H locs cells slots ls hc hs hR hS hL)
theorem x_irem {M : MI} {G : WG} {r : Nat × Nat × Nat} {S : Shp} {I : IM} {L : LM} {pc : Nat} {loc rest : List Value} {Post : PostT} {x y : Int32} (hd : decode (mcc M) pc = .ok (.irem, 1)) (hne : ¬ y = 0) (k : X M G r S I L (pc + 1) loc (.int (x - x / y * y) :: rest) Post) : X M G r S I L pc loc (.int y :: .int x :: rest) Post := by
  intro p l e R s m args below meth c Q B H locs cells slots ls hc hs hR hS hL
  exact lv_irem B.1.1 B.1.2.1 hd hne (k p l e R s m args below meth c Q B H locs cells slots ls hc hs hR hS hL)
theorem x_ineg {M : MI} {G : WG} {r : Nat × Nat × Nat} {S : Shp} {I : IM} {L : LM} {pc : Nat} {loc rest : List Value} {Post : PostT} {x : Int32} (hd : decode (mcc M) pc = .ok (.ineg, 1))  (k : X M G r S I L (pc + 1) loc (.int (-x) :: rest) Post) : X M G r S I L pc loc (.int x :: rest) Post := by
  intro p l e R s m args below meth c Q B H locs cells slots ls hc hs hR hS hL
  exact lv_ineg B.1.1 B.1.2.1 hd (k p l e R s m args below meth c Q B H locs cells slots ls hc hs hR hS hL)
theorem x_ladd {M : MI} {G : WG} {r : Nat × Nat × Nat} {S : Shp} {I : IM} {L : LM} {pc : Nat} {loc rest : List Value} {Post : PostT} {x y : Int64} (hd : decode (mcc M) pc = .ok (.ladd, 1))  (k : X M G r S I L (pc + 1) loc (.long (x + y) :: rest) Post) : X M G r S I L pc loc (.long y :: .long x :: rest) Post := by
  intro p l e R s m args below meth c Q B H locs cells slots ls hc hs hR hS hL
  exact lv_ladd B.1.1 B.1.2.1 hd (k p l e R s m args below meth c Q B H locs cells slots ls hc hs hR hS hL)
theorem x_lsub {M : MI} {G : WG} {r : Nat × Nat × Nat} {S : Shp} {I : IM} {L : LM} {pc : Nat} {loc rest : List Value} {Post : PostT} {x y : Int64} (hd : decode (mcc M) pc = .ok (.lsub, 1))  (k : X M G r S I L (pc + 1) loc (.long (x - y) :: rest) Post) : X M G r S I L pc loc (.long y :: .long x :: rest) Post := by
  intro p l e R s m args below meth c Q B H locs cells slots ls hc hs hR hS hL
  exact lv_lsub B.1.1 B.1.2.1 hd (k p l e R s m args below meth c Q B H locs cells slots ls hc hs hR hS hL)
theorem x_lmul {M : MI} {G : WG} {r : Nat × Nat × Nat} {S : Shp} {I : IM} {L : LM} {pc : Nat} {loc rest : List Value} {Post : PostT} {x y : Int64} (hd : decode (mcc M) pc = .ok (.lmul, 1))  (k : X M G r S I L (pc + 1) loc (.long (x * y) :: rest) Post) : X M G r S I L pc loc (.long y :: .long x :: rest) Post := by
  intro p l e R s m args below meth c Q B H locs cells slots ls hc hs hR hS hL
  exact lv_lmul B.1.1 B.1.2.1 hd (k p l e R s m args below meth c Q B H locs cells slots ls hc hs hR hS hL)
theorem x_ldiv {M : MI} {G : WG} {r : Nat × Nat × Nat} {S : Shp} {I : IM} {L : LM} {pc : Nat} {loc rest : List Value} {Post : PostT} {x y : Int64} (hd : decode (mcc M) pc = .ok (.ldiv, 1)) (hne : ¬ y = 0) (k : X M G r S I L (pc + 1) loc (.long (x / y) :: rest) Post) : X M G r S I L pc loc (.long y :: .long x :: rest) Post := by
  intro p l e R s m args below meth c Q B H locs cells slots ls hc hs hR hS hL
  exact lv_ldiv B.1.1 B.1.2.1 hd hne (k p l e R s m args below meth c Q B H locs cells slots ls hc hs hR hS hL)
theorem x_lrem {M : MI} {G : WG} {r : Nat × Nat × Nat} {S : Shp} {I : IM} {L : LM} {pc : Nat} {loc rest : List Value} {Post : PostT} {x y : Int64} (hd : decode (mcc M) pc = .ok (.lrem, 1)) (hne : ¬ y = 0) (k : X M G r S I L (pc + 1) loc (.long (x - x / y * y) :: rest) Post) : X M G r S I L pc loc (.long y :: .long x :: rest) Post := by
  intro p l e R s m args below meth c Q B H locs cells slots ls hc hs hR hS hL
  exact lv_lrem B.1.1 B.1.2.1 hd hne (k p l e R s m args below meth c Q B H locs cells slots ls hc hs hR hS hL)
theorem x_i2l {M : MI} {G : WG} {r : Nat × Nat × Nat} {S : Shp} {I : IM} {L : LM} {pc : Nat} {loc rest : List Value} {Post : PostT} {x : Int32} (hd : decode (mcc M) pc = .ok (.i2l, 1))  (k : X M G r S I L (pc + 1) loc (.long x.toInt64 :: rest) Post) : X M G r S I L pc loc (.int x :: rest) Post := by
  intro p l e R s m args below meth c Q B H locs cells slots ls hc hs hR hS hL
  exact lv_i2l B.1.1 B.1.2.1 hd rfl (k p l e R s m args below meth c Q B H locs cells slots ls hc hs hR hS hL)
theorem x_l2i {M : MI} {G : WG} {r : Nat × Nat × Nat} {S : Shp} {I : IM} {L : LM} {pc : Nat} {loc rest : List Value} {Post : PostT} {x : Int64} (hd : decode (mcc M) pc = .ok (.l2i, 1))  (k : X M G r S I L (pc + 1) loc (.int x.toInt32 :: rest) Post) : X M G r S I L pc loc (.long x :: rest) Post := by
  intro p l e R s m args below meth c Q B H locs cells slots ls hc hs hR hS hL
  exact lv_l2i B.1.1 B.1.2.1 hd rfl (k p l e R s m args below meth c Q B H locs cells slots ls hc hs hR hS hL)
theorem x_i2b {M : MI} {G : WG} {r : Nat × Nat × Nat} {S : Shp} {I : IM} {L : LM} {pc : Nat} {loc rest : List Value} {Post : PostT} {x : Int32} (hd : decode (mcc M) pc = .ok (.i2b, 1))  (k : X M G r S I L (pc + 1) loc (.int x.toInt8.toInt32 :: rest) Post) : X M G r S I L pc loc (.int x :: rest) Post := by
  intro p l e R s m args below meth c Q B H locs cells slots ls hc hs hR hS hL
  exact lv_i2b B.1.1 B.1.2.1 hd rfl (k p l e R s m args below meth c Q B H locs cells slots ls hc hs hR hS hL)
theorem x_i2s {M : MI} {G : WG} {r : Nat × Nat × Nat} {S : Shp} {I : IM} {L : LM} {pc : Nat} {loc rest : List Value} {Post : PostT} {x : Int32} (hd : decode (mcc M) pc = .ok (.i2s, 1))  (k : X M G r S I L (pc + 1) loc (.int x.toInt16.toInt32 :: rest) Post) : X M G r S I L pc loc (.int x :: rest) Post := by
  intro p l e R s m args below meth c Q B H locs cells slots ls hc hs hR hS hL
  exact lv_i2s B.1.1 B.1.2.1 hd rfl (k p l e R s m args below meth c Q B H locs cells slots ls hc hs hR hS hL)
theorem x_lcmp {M : MI} {G : WG} {r : Nat × Nat × Nat} {S : Shp} {I : IM} {L : LM} {pc : Nat} {loc rest : List Value} {Post : PostT} {x y : Int64} (hd : decode (mcc M) pc = .ok (.lcmp, 1))  (k : X M G r S I L (pc + 1) loc (.int (lg_cmp x y) :: rest) Post) : X M G r S I L pc loc (.long y :: .long x :: rest) Post := by
  intro p l e R s m args below meth c Q B H locs cells slots ls hc hs hR hS hL
  exact W.lcmp B.1.1 B.1.2.1 hd (k p l e R s m args below meth c Q B H locs cells slots ls hc hs hR hS hL)
theorem x_iushr {M : MI} {G : WG} {r : Nat × Nat × Nat} {S : Shp} {I : IM} {L : LM} {pc : Nat} {loc rest : List Value} {Post : PostT} {x y : Int32} (hd : decode (mcc M) pc = .ok (.iushr, 1))  (k : X M G r S I L (pc + 1) loc (.int (x.toUInt32 >>> (y.toUInt32 &&& Int32.toUInt32 31)).toInt32 :: rest) Post) : X M G r S I L pc loc (.int y :: .int x :: rest) Post := by
  intro p l e R s m args below meth c Q B H locs cells slots ls hc hs hR hS hL
  exact lv_iushr B.1.1 B.1.2.1 hd rfl (k p l e R s m args below meth c Q B H locs cells slots ls hc hs hR hS hL)
theorem vcat (G : WG) (v : Value) : (vmap G v).category = v.category := by cases v <;> rfl
theorem x_dup {M : MI} {G : WG} {r : Nat × Nat × Nat} {S : Shp} {I : IM} {L : LM} {pc : Nat} {loc rest : List Value} {Post : PostT} {v : Value} (hd : decode (mcc M) pc = .ok (.dup, 1)) (hv : v.category = 1) (k : X M G r S I L (pc + 1) loc (v :: v :: rest) Post) : X M G r S I L pc loc (v :: rest) Post := by
  intro p l e R s m args below meth c Q B H locs cells slots ls hc hs hR hS hL
  exact lv_dup B.1.1 B.1.2.1 hd ((vcat G v).trans hv) (k p l e R s m args below meth c Q B H locs cells slots ls hc hs hR hS hL)
theorem x_pop {M : MI} {G : WG} {r : Nat × Nat × Nat} {S : Shp} {I : IM} {L : LM} {pc : Nat} {loc rest : List Value} {Post : PostT} {v : Value} (hd : decode (mcc M) pc = .ok (.pop, 1)) (hv : v.category = 1) (k : X M G r S I L (pc + 1) loc rest Post) : X M G r S I L pc loc (v :: rest) Post := by
  intro p l e R s m args below meth c Q B H locs cells slots ls hc hs hR hS hL
  exact lv_pop B.1.1 B.1.2.1 hd ((vcat G v).trans hv) (k p l e R s m args below meth c Q B H locs cells slots ls hc hs hR hS hL)
theorem x_pop2 {M : MI} {G : WG} {r : Nat × Nat × Nat} {S : Shp} {I : IM} {L : LM} {pc : Nat} {loc rest : List Value} {Post : PostT} {v : Value} (hd : decode (mcc M) pc = .ok (.pop2, 1)) (hv : v.category = 2) (k : X M G r S I L (pc + 1) loc rest Post) : X M G r S I L pc loc (v :: rest) Post := by
  intro p l e R s m args below meth c Q B H locs cells slots ls hc hs hR hS hL
  exact lv_pop2_2 B.1.1 B.1.2.1 hd ((vcat G v).trans hv) (k p l e R s m args below meth c Q B H locs cells slots ls hc hs hR hS hL)
theorem x_dup_x1 {M : MI} {G : WG} {r : Nat × Nat × Nat} {S : Shp} {I : IM} {L : LM} {pc : Nat} {loc rest : List Value} {Post : PostT} {v w : Value} (hd : decode (mcc M) pc = .ok (.dup_x1, 1)) (hv : v.category = 1) (hw : w.category = 1) (k : X M G r S I L (pc + 1) loc (v :: w :: v :: rest) Post) : X M G r S I L pc loc (v :: w :: rest) Post := by
  intro p l e R s m args below meth c Q B H locs cells slots ls hc hs hR hS hL
  exact lv_dup_x1 B.1.1 B.1.2.1 hd ((vcat G v).trans hv) ((vcat G w).trans hw) (k p l e R s m args below meth c Q B H locs cells slots ls hc hs hR hS hL)
theorem x_dup2 {M : MI} {G : WG} {r : Nat × Nat × Nat} {S : Shp} {I : IM} {L : LM} {pc : Nat} {loc rest : List Value} {Post : PostT} {v w : Value} (hd : decode (mcc M) pc = .ok (.dup2, 1)) (hv : v.category = 1) (hw : w.category = 1) (k : X M G r S I L (pc + 1) loc (v :: w :: v :: w :: rest) Post) : X M G r S I L pc loc (v :: w :: rest) Post := by
  intro p l e R s m args below meth c Q B H locs cells slots ls hc hs hR hS hL
  exact lv_dup2_11 B.1.1 B.1.2.1 hd ((vcat G v).trans hv) ((vcat G w).trans hw) (k p l e R s m args below meth c Q B H locs cells slots ls hc hs hR hS hL)
theorem x_if_eq {M : MI} {G : WG} {r : Nat × Nat × Nat} {S : Shp} {I : IM} {L : LM} {pc : Nat} {loc rest : List Value} {Post : PostT} {x : Int32} {off : Int} {tgt : Nat} (hd : decode (mcc M) pc = .ok (.ifCond .eq off, 3)) (ht : (pc : Int) + off = (tgt : Int)) (kt : x = 0 → X M G r S I L tgt loc rest Post) (kf : ¬ x = 0 → X M G r S I L (pc + 3) loc rest Post) : X M G r S I L pc loc (.int x :: rest) Post := by
  intro p l e R s m args below meth c Q B H locs cells slots ls hc hs hR hS hL
  exact lv_if_eq B.1.1 B.1.2.1 hd ht (fun q => kt q p l e R s m args below meth c Q B H locs cells slots ls hc hs hR hS hL) (fun q => kf q p l e R s m args below meth c Q B H locs cells slots ls hc hs hR hS hL)
theorem x_icmp_eq {M : MI} {G : WG} {r : Nat × Nat × Nat} {S : Shp} {I : IM} {L : LM} {pc : Nat} {loc rest : List Value} {Post : PostT} {x y : Int32} {off : Int} {tgt : Nat} (hd : decode (mcc M) pc = .ok (.if_icmp .eq off, 3)) (ht : (pc : Int) + off = (tgt : Int)) (kt : x = y → X M G r S I L tgt loc rest Post) (kf : ¬ x = y → X M G r S I L (pc + 3) loc rest Post) : X M G r S I L pc loc (.int y :: .int x :: rest) Post := by
  intro p l e R s m args below meth c Q B H locs cells slots ls hc hs hR hS hL
  exact lv_icmp_eq B.1.1 B.1.2.1 hd ht (fun q => kt q p l e R s m args below meth c Q B H locs cells slots ls hc hs hR hS hL) (fun q => kf q p l e R s m args below meth c Q B H locs cells slots ls hc hs hR hS hL)
theorem x_if_ne {M : MI} {G : WG} {r : Nat × Nat × Nat} {S : Shp} {I : IM} {L : LM} {pc : Nat} {loc rest : List Value} {Post : PostT} {x : Int32} {off : Int} {tgt : Nat} (hd : decode (mcc M) pc = .ok (.ifCond .ne off, 3)) (ht : (pc : Int) + off = (tgt : Int)) (kt : ¬ x = 0 → X M G r S I L tgt loc rest Post) (kf : x = 0 → X M G r S I L (pc + 3) loc rest Post) : X M G r S I L pc loc (.int x :: rest) Post := by
  intro p l e R s m args below meth c Q B H locs cells slots ls hc hs hR hS hL
  exact lv_if_ne B.1.1 B.1.2.1 hd ht (fun q => kt q p l e R s m args below meth c Q B H locs cells slots ls hc hs hR hS hL) (fun q => kf q p l e R s m args below meth c Q B H locs cells slots ls hc hs hR hS hL)
theorem x_icmp_ne {M : MI} {G : WG} {r : Nat × Nat × Nat} {S : Shp} {I : IM} {L : LM} {pc : Nat} {loc rest : List Value} {Post : PostT} {x y : Int32} {off : Int} {tgt : Nat} (hd : decode (mcc M) pc = .ok (.if_icmp .ne off, 3)) (ht : (pc : Int) + off = (tgt : Int)) (kt : ¬ x = y → X M G r S I L tgt loc rest Post) (kf : x = y → X M G r S I L (pc + 3) loc rest Post) : X M G r S I L pc loc (.int y :: .int x :: rest) Post := by
  intro p l e R s m args below meth c Q B H locs cells slots ls hc hs hR hS hL
  exact lv_icmp_ne B.1.1 B.1.2.1 hd ht (fun q => kt q p l e R s m args below meth c Q B H locs cells slots ls hc hs hR hS hL) (fun q => kf q p l e R s m args below meth c Q B H locs cells slots ls hc hs hR hS hL)
theorem x_if_lt {M : MI} {G : WG} {r : Nat × Nat × Nat} {S : Shp} {I : IM} {L : LM} {pc : Nat} {loc rest : List Value} {Post : PostT} {x : Int32} {off : Int} {tgt : Nat} (hd : decode (mcc M) pc = .ok (.ifCond .lt off, 3)) (ht : (pc : Int) + off = (tgt : Int)) (kt : x < 0 → X M G r S I L tgt loc rest Post) (kf : ¬ x < 0 → X M G r S I L (pc + 3) loc rest Post) : X M G r S I L pc loc (.int x :: rest) Post := by
  intro p l e R s m args below meth c Q B H locs cells slots ls hc hs hR hS hL
  exact lv_if_lt B.1.1 B.1.2.1 hd ht (fun q => kt q p l e R s m args below meth c Q B H locs cells slots ls hc hs hR hS hL) (fun q => kf q p l e R s m args below meth c Q B H locs cells slots ls hc hs hR hS hL)
theorem x_icmp_lt {M : MI} {G : WG} {r : Nat × Nat × Nat} {S : Shp} {I : IM} {L : LM} {pc : Nat} {loc rest : List Value} {Post : PostT} {x y : Int32} {off : Int} {tgt : Nat} (hd : decode (mcc M) pc = .ok (.if_icmp .lt off, 3)) (ht : (pc : Int) + off = (tgt : Int)) (kt : x < y → X M G r S I L tgt loc rest Post) (kf : ¬ x < y → X M G r S I L (pc + 3) loc rest Post) : X M G r S I L pc loc (.int y :: .int x :: rest) Post := by
  intro p l e R s m args below meth c Q B H locs cells slots ls hc hs hR hS hL
  exact lv_icmp_lt B.1.1 B.1.2.1 hd ht (fun q => kt q p l e R s m args below meth c Q B H locs cells slots ls hc hs hR hS hL) (fun q => kf q p l e R s m args below meth c Q B H locs cells slots ls hc hs hR hS hL)
theorem x_if_ge {M : MI} {G : WG} {r : Nat × Nat × Nat} {S : Shp} {I : IM} {L : LM} {pc : Nat} {loc rest : List Value} {Post : PostT} {x : Int32} {off : Int} {tgt : Nat} (hd : decode (mcc M) pc = .ok (.ifCond .ge off, 3)) (ht : (pc : Int) + off = (tgt : Int)) (kt : 0 ≤ x → X M G r S I L tgt loc rest Post) (kf : ¬ 0 ≤ x → X M G r S I L (pc + 3) loc rest Post) : X M G r S I L pc loc (.int x :: rest) Post := by
  intro p l e R s m args below meth c Q B H locs cells slots ls hc hs hR hS hL
  exact lv_if_ge B.1.1 B.1.2.1 hd ht (fun q => kt q p l e R s m args below meth c Q B H locs cells slots ls hc hs hR hS hL) (fun q => kf q p l e R s m args below meth c Q B H locs cells slots ls hc hs hR hS hL)
theorem x_icmp_ge {M : MI} {G : WG} {r : Nat × Nat × Nat} {S : Shp} {I : IM} {L : LM} {pc : Nat} {loc rest : List Value} {Post : PostT} {x y : Int32} {off : Int} {tgt : Nat} (hd : decode (mcc M) pc = .ok (.if_icmp .ge off, 3)) (ht : (pc : Int) + off = (tgt : Int)) (kt : y ≤ x → X M G r S I L tgt loc rest Post) (kf : ¬ y ≤ x → X M G r S I L (pc + 3) loc rest Post) : X M G r S I L pc loc (.int y :: .int x :: rest) Post := by
  intro p l e R s m args below meth c Q B H locs cells slots ls hc hs hR hS hL
  exact lv_icmp_ge B.1.1 B.1.2.1 hd ht (fun q => kt q p l e R s m args below meth c Q B H locs cells slots ls hc hs hR hS hL) (fun q => kf q p l e R s m args below meth c Q B H locs cells slots ls hc hs hR hS hL)
theorem x_if_gt {M : MI} {G : WG} {r : Nat × Nat × Nat} {S : Shp} {I : IM} {L : LM} {pc : Nat} {loc rest : List Value} {Post : PostT} {x : Int32} {off : Int} {tgt : Nat} (hd : decode (mcc M) pc = .ok (.ifCond .gt off, 3)) (ht : (pc : Int) + off = (tgt : Int)) (kt : 0 < x → X M G r S I L tgt loc rest Post) (kf : ¬ 0 < x → X M G r S I L (pc + 3) loc rest Post) : X M G r S I L pc loc (.int x :: rest) Post := by
  intro p l e R s m args below meth c Q B H locs cells slots ls hc hs hR hS hL
  exact lv_if_gt B.1.1 B.1.2.1 hd ht (fun q => kt q p l e R s m args below meth c Q B H locs cells slots ls hc hs hR hS hL) (fun q => kf q p l e R s m args below meth c Q B H locs cells slots ls hc hs hR hS hL)
theorem x_icmp_gt {M : MI} {G : WG} {r : Nat × Nat × Nat} {S : Shp} {I : IM} {L : LM} {pc : Nat} {loc rest : List Value} {Post : PostT} {x y : Int32} {off : Int} {tgt : Nat} (hd : decode (mcc M) pc = .ok (.if_icmp .gt off, 3)) (ht : (pc : Int) + off = (tgt : Int)) (kt : y < x → X M G r S I L tgt loc rest Post) (kf : ¬ y < x → X M G r S I L (pc + 3) loc rest Post) : X M G r S I L pc loc (.int y :: .int x :: rest) Post := by
  intro p l e R s m args below meth c Q B H locs cells slots ls hc hs hR hS hL
  exact lv_icmp_gt B.1.1 B.1.2.1 hd ht (fun q => kt q p l e R s m args below meth c Q B H locs cells slots ls hc hs hR hS hL) (fun q => kf q p l e R s m args below meth c Q B H locs cells slots ls hc hs hR hS hL)
theorem x_if_le {M : MI} {G : WG} {r : Nat × Nat × Nat} {S : Shp} {I : IM} {L : LM} {pc : Nat} {loc rest : List Value} {Post : PostT} {x : Int32} {off : Int} {tgt : Nat} (hd : decode (mcc M) pc = .ok (.ifCond .le off, 3)) (ht : (pc : Int) + off = (tgt : Int)) (kt : x ≤ 0 → X M G r S I L tgt loc rest Post) (kf : ¬ x ≤ 0 → X M G r S I L (pc + 3) loc rest Post) : X M G r S I L pc loc (.int x :: rest) Post := by
  intro p l e R s m args below meth c Q B H locs cells slots ls hc hs hR hS hL
  exact lv_if_le B.1.1 B.1.2.1 hd ht (fun q => kt q p l e R s m args below meth c Q B H locs cells slots ls hc hs hR hS hL) (fun q => kf q p l e R s m args below meth c Q B H locs cells slots ls hc hs hR hS hL)
theorem x_icmp_le {M : MI} {G : WG} {r : Nat × Nat × Nat} {S : Shp} {I : IM} {L : LM} {pc : Nat} {loc rest : List Value} {Post : PostT} {x y : Int32} {off : Int} {tgt : Nat} (hd : decode (mcc M) pc = .ok (.if_icmp .le off, 3)) (ht : (pc : Int) + off = (tgt : Int)) (kt : x ≤ y → X M G r S I L tgt loc rest Post) (kf : ¬ x ≤ y → X M G r S I L (pc + 3) loc rest Post) : X M G r S I L pc loc (.int y :: .int x :: rest) Post := by
  intro p l e R s m args below meth c Q B H locs cells slots ls hc hs hR hS hL
  exact lv_icmp_le B.1.1 B.1.2.1 hd ht (fun q => kt q p l e R s m args below meth c Q B H locs cells slots ls hc hs hR hS hL) (fun q => kf q p l e R s m args below meth c Q B H locs cells slots ls hc hs hR hS hL)
theorem x_goto {M : MI} {G : WG} {r : Nat × Nat × Nat} {S : Shp} {I : IM} {L : LM} {pc : Nat} {loc rest : List Value} {Post : PostT} {off : Int} {tgt : Nat} (hd : decode (mcc M) pc = .ok (.goto off, 3)) (ht : (pc : Int) + off = (tgt : Int)) (k : X M G r S I L tgt loc rest Post) : X M G r S I L pc loc rest Post := by
  intro p l e R s m args below meth c Q B H locs cells slots ls hc hs hR hS hL
  exact lv_goto B.1.1 B.1.2.1 hd ht (k p l e R s m args below meth c Q B H locs cells slots ls hc hs hR hS hL)
theorem x_tableIn {M : MI} {G : WG} {r : Nat × Nat × Nat} {S : Shp} {I : IM} {L : LM} {pc : Nat} {loc rest : List Value} {Post : PostT} {dflt lo hi : Int} {offs : Array Int} {len : Nat} {x : Int32} {off : Int} {tgt : Nat} (hd : decode (mcc M) pc = .ok (.tableswitch dflt lo hi offs, len)) (h1 : ¬ x.toInt < lo) (h2 : ¬ hi < x.toInt) (ho : offs[(x.toInt - lo).toNat]? = some off) (ht : (pc : Int) + off = (tgt : Int)) (k : X M G r S I L tgt loc rest Post) : X M G r S I L pc loc (.int x :: rest) Post := by
  intro p l e R s m args below meth c Q B H locs cells slots ls hc hs hR hS hL
  exact lv_tableIn B.1.1 B.1.2.1 hd h1 h2 ho ht (k p l e R s m args below meth c Q B H locs cells slots ls hc hs hR hS hL)
theorem x_tableOut {M : MI} {G : WG} {r : Nat × Nat × Nat} {S : Shp} {I : IM} {L : LM} {pc : Nat} {loc rest : List Value} {Post : PostT} {dflt lo hi : Int} {offs : Array Int} {len : Nat} {x : Int32} {tgt : Nat} (hd : decode (mcc M) pc = .ok (.tableswitch dflt lo hi offs, len)) (h : x.toInt < lo ∨ hi < x.toInt) (ht : (pc : Int) + dflt = (tgt : Int)) (k : X M G r S I L tgt loc rest Post) : X M G r S I L pc loc (.int x :: rest) Post := by
  intro p l e R s m args below meth c Q B H locs cells slots ls hc hs hR hS hL
  exact lv_tableOut B.1.1 B.1.2.1 hd h ht (k p l e R s m args below meth c Q B H locs cells slots ls hc hs hR hS hL)
theorem x_lookup {M : MI} {G : WG} {r : Nat × Nat × Nat} {S : Shp} {I : IM} {L : LM} {pc : Nat} {loc rest : List Value} {Post : PostT} {dflt : Int} {ps : Array (Int × Int)} {len : Nat} {x : Int32} {off : Int} {tgt : Nat} (hd : decode (mcc M) pc = .ok (.lookupswitch dflt ps, len)) (hp : (ps.toList.zip (ps.toList.drop 1)).all (fun (a, next) => a.1 < next.1) = true) (ho : Op.lookupswitch.offset ps.toList dflt x.toInt = off) (ht : (pc : Int) + off = (tgt : Int)) (k : X M G r S I L tgt loc rest Post) : X M G r S I L pc loc (.int x :: rest) Post := by
  intro p l e R s m args below meth c Q B H locs cells slots ls hc hs hR hS hL
  exact lv_lookup B.1.1 B.1.2.1 hd hp ho ht (k p l e R s m args below meth c Q B H locs cells slots ls hc hs hR hS hL)
theorem x_nm {M : MI} {G : WG} {r : Nat × Nat × Nat} {S : Shp} {I : IM} {L : LM} {pc : Nat} {loc rest : List Value} {Post : PostT} {x : Int32} (k : ∀ y : Int32, y = x → X M G r S I L pc loc (.int y :: rest) Post) : X M G r S I L pc loc (.int x :: rest) Post := k x rfl
theorem x_eqi {M : MI} {G : WG} {r : Nat × Nat × Nat} {S : Shp} {I : IM} {L : LM} {pc : Nat} {loc rest : List Value} {Post : PostT} {x y : Int32} (h : x = y) (k : X M G r S I L pc loc (.int y :: rest) Post) : X M G r S I L pc loc (.int x :: rest) Post := h ▸ k
def cat1at (loc : List Value) (k : Nat) : Bool := match k with
  | 0 => true
  | j + 1 => match loc[j]? with
    | some (.long _) => false
    | some (.double _) => false
    | _ => true
def lzf (G : WG) (loc : List Value) : List (Nat × Value) := (List.range loc.length).filterMap fun (j : Nat) => match (loc[j]? : Option Value) with
  | some .null => none
  | some v => some (j, vmap G v)
  | none => none
theorem lzf_mem {G : WG} {loc : List Value} {j : Nat} {v : Value} (h : loc[j]? = some v) (hv : v ≠ .null) : (j, vmap G v) ∈ lzf G loc := by
  refine List.mem_filterMap.mpr ⟨j, List.mem_range.mpr (List.getElem?_eq_some_iff.mp h).1, ?_⟩
  rw [h]
  cases v <;> first | exact absurd rfl hv | rfl
theorem lzf_has {G : WG} {ls : Array Slot} {nL : Nat} {loc : List Value} (h : LH G ls nL loc) : lv_has ls nL (lzf G loc) := by
  refine ⟨h.1, h.2.1, fun q hq => ?_⟩
  obtain ⟨j, -, hj⟩ := List.mem_filterMap.mp hq
  cases hl : loc[j]? with
  | none => rw [hl] at hj; cases hj
  | some v =>
    rw [hl] at hj
    cases v <;> first | (cases hj; done) | (cases hj; exact h.2.2 j _ hl (by simp))
/-- what a store of a value of one word leaves -/
theorem LH_put {G : WG} {ls' : Array Slot} {nL k : Nat} {loc : List Value} {v : Value} (hv : v ≠ .null) (hk : k < loc.length) (h1 : cat1at loc k = true)
    (h : lv_has ls' nL ((k, vmap G v) :: (lzf G loc).filter (fun q => !(q.1 == k) && !(q.1 + 1 == k && q.2.category == 2)))) : LH G ls' nL (loc.set k v) := by
  refine ⟨h.1, h.2.1, fun j w hj hw => ?_⟩
  by_cases hjk : j = k
  · subst hjk
    rw [List.getElem?_set_self hk] at hj
    cases hj
    exact h.2.2 (j, vmap G v) List.mem_cons_self
  · rw [List.getElem?_set_ne (fun q => hjk q.symm)] at hj
    refine h.2.2 (j, vmap G w) (List.mem_cons_of_mem _ (List.mem_filter.mpr ⟨lzf_mem hj hw, ?_⟩))
    have hjk' : (j == k) = false := by simpa using hjk
    simp only [hjk', Bool.not_false, Bool.true_and, vcat]
    by_cases h2 : j + 1 = k
    · subst h2
      simp only [cat1at, hj] at h1
      cases w <;> simp_all [Value.category]
    · simp [h2]

theorem x_istore0n {M : MI} {G : WG} {r : Nat × Nat × Nat} {S : Shp} {I : IM} {L : LM} {pc : Nat} {loc rest : List Value} {Post : PostT} {k0 : Fin 4} {x : Int32} (hd : decode (mcc M) pc = .ok (.istore_n k0, 1)) (hk : (k0 : Nat) < loc.length) (hn : (k0 : Nat) < mnl M) (h1 : cat1at loc (k0 : Nat) = true) (k : X M G r S I L (pc + 1) (loc.set (k0 : Nat) (.int x)) rest Post) : X M G r S I L pc loc (.int x :: rest) Post := by
  intro p l e R s m args below meth c Q B H locs cells slots ls hc hs hR hS hL
  exact lv_istore_n B.1.1 B.1.2.1 hd rfl (lzf_has hL) hn rfl (fun ls2 h2 => k p l e R s m args below meth c Q B H locs cells slots ls2 hc hs hR hS (LH_put (v := .int x) (by simp) hk h1 h2))
theorem x_istore0 {M : MI} {G : WG} {r : Nat × Nat × Nat} {S : Shp} {I : IM} {L : LM} {pc : Nat} {loc rest : List Value} {Post : PostT} {k0 : Nat} {x : Int32} (hd : decode (mcc M) pc = .ok (.istore k0, 2)) (hk : k0 < loc.length) (hn : k0 < mnl M) (h1 : cat1at loc k0 = true) (k : X M G r S I L (pc + 2) (loc.set k0 (.int x)) rest Post) : X M G r S I L pc loc (.int x :: rest) Post := by
  intro p l e R s m args below meth c Q B H locs cells slots ls hc hs hR hS hL
  exact lv_istore B.1.1 B.1.2.1 hd (lzf_has hL) hn rfl (fun ls2 h2 => k p l e R s m args below meth c Q B H locs cells slots ls2 hc hs hR hS (LH_put (v := .int x) (by simp) hk h1 h2))
theorem x_astore0n {M : MI} {G : WG} {r : Nat × Nat × Nat} {S : Shp} {I : IM} {L : LM} {pc : Nat} {loc rest : List Value} {Post : PostT} {k0 : Fin 4} {x : Nat} (hd : decode (mcc M) pc = .ok (.astore_n k0, 1)) (hk : (k0 : Nat) < loc.length) (hn : (k0 : Nat) < mnl M) (h1 : cat1at loc (k0 : Nat) = true) (k : X M G r S I L (pc + 1) (loc.set (k0 : Nat) (.ref x)) rest Post) : X M G r S I L pc loc (.ref x :: rest) Post := by
  intro p l e R s m args below meth c Q B H locs cells slots ls hc hs hR hS hL
  exact lv_astore_n B.1.1 B.1.2.1 hd rfl (lzf_has hL) hn rfl (fun ls2 h2 => k p l e R s m args below meth c Q B H locs cells slots ls2 hc hs hR hS (LH_put (v := .ref x) (by simp) hk h1 h2))
theorem x_astore0 {M : MI} {G : WG} {r : Nat × Nat × Nat} {S : Shp} {I : IM} {L : LM} {pc : Nat} {loc rest : List Value} {Post : PostT} {k0 : Nat} {x : Nat} (hd : decode (mcc M) pc = .ok (.astore k0, 2)) (hk : k0 < loc.length) (hn : k0 < mnl M) (h1 : cat1at loc k0 = true) (k : X M G r S I L (pc + 2) (loc.set k0 (.ref x)) rest Post) : X M G r S I L pc loc (.ref x :: rest) Post := by
  intro p l e R s m args below meth c Q B H locs cells slots ls hc hs hR hS hL
  exact lv_astore B.1.1 B.1.2.1 hd (lzf_has hL) hn rfl (fun ls2 h2 => k p l e R s m args below meth c Q B H locs cells slots ls2 hc hs hR hS (LH_put (v := .ref x) (by simp) hk h1 h2))
theorem LH_putL {G : WG} {ls' : Array Slot} {nL k : Nat} {loc : List Value} {x : Int64} (hk : k + 1 < loc.length) (h1 : cat1at loc k = true)
    (h : lv_has ls' nL ((k, Value.long x) :: (lzf G loc).filter (fun q => !(q.1 == k) && (!(q.1 == k + 1) && !(q.1 + 1 == k && q.2.category == 2))))) : LH G ls' nL ((loc.set k (.long x)).set (k + 1) .null) := by
  refine ⟨h.1, h.2.1, fun j w hj hw => ?_⟩
  by_cases hj1 : j = k + 1
  · subst hj1
    rw [List.getElem?_set_self (by simpa using hk)] at hj
    cases hj
    exact absurd rfl hw
  rw [List.getElem?_set_ne (fun q => hj1 q.symm)] at hj
  by_cases hjk : j = k
  · subst hjk
    rw [List.getElem?_set_self (by omega)] at hj
    cases hj
    exact h.2.2 (j, .long x) List.mem_cons_self
  · rw [List.getElem?_set_ne (fun q => hjk q.symm)] at hj
    refine h.2.2 (j, vmap G w) (List.mem_cons_of_mem _ (List.mem_filter.mpr ⟨lzf_mem hj hw, ?_⟩))
    have hjk' : (j == k) = false := by simpa using hjk
    have hj1' : (j == k + 1) = false := by simpa using hj1
    simp only [hjk', hj1', Bool.not_false, Bool.true_and, vcat]
    by_cases h2 : j + 1 = k
    · subst h2
      simp only [cat1at, hj] at h1
      cases w <;> simp_all [Value.category]
    · simp [h2]
theorem x_lstore0n {M : MI} {G : WG} {r : Nat × Nat × Nat} {S : Shp} {I : IM} {L : LM} {pc : Nat} {loc rest : List Value} {Post : PostT} {k0 : Fin 4} {x : Int64} (hd : decode (mcc M) pc = .ok (.lstore_n k0, 1)) (hk : (k0 : Nat) + 1 < loc.length) (hn : (k0 : Nat) + 1 < mnl M) (h1 : cat1at loc (k0 : Nat) = true) (k : X M G r S I L (pc + 1) ((loc.set (k0 : Nat) (.long x)).set ((k0 : Nat) + 1) .null) rest Post) : X M G r S I L pc loc (.long x :: rest) Post := by
  intro p l e R s m args below meth c Q B H locs cells slots ls hc hs hR hS hL
  exact lv_lstore_n B.1.1 B.1.2.1 hd rfl (lzf_has hL) hn rfl (fun ls2 h2 => k p l e R s m args below meth c Q B H locs cells slots ls2 hc hs hR hS (LH_putL hk h1 h2))
theorem x_lstore0 {M : MI} {G : WG} {r : Nat × Nat × Nat} {S : Shp} {I : IM} {L : LM} {pc : Nat} {loc rest : List Value} {Post : PostT} {k0 : Nat} {x : Int64} (hd : decode (mcc M) pc = .ok (.lstore k0, 2)) (hk : k0 + 1 < loc.length) (hn : k0 + 1 < mnl M) (h1 : cat1at loc k0 = true) (k : X M G r S I L (pc + 2) ((loc.set k0 (.long x)).set (k0 + 1) .null) rest Post) : X M G r S I L pc loc (.long x :: rest) Post := by
  intro p l e R s m args below meth c Q B H locs cells slots ls hc hs hR hS hL
  exact lv_lstore B.1.1 B.1.2.1 hd (lzf_has hL) hn rfl (fun ls2 h2 => k p l e R s m args below meth c Q B H locs cells slots ls2 hc hs hR hS (LH_putL hk h1 h2))
theorem x_iinc0 {M : MI} {G : WG} {r : Nat × Nat × Nat} {S : Shp} {I : IM} {L : LM} {pc : Nat} {loc rest : List Value} {Post : PostT} {k0 : Nat} {n : Int} {x v : Int32} (hd : decode (mcc M) pc = .ok (.iinc k0 n, 3)) (hl : loc[k0]? = some (.int x)) (hv : x + Int32.ofInt n = v) (hn : k0 < mnl M) (h1 : cat1at loc k0 = true) (k : X M G r S I L (pc + 3) (loc.set k0 (.int v)) rest Post) : X M G r S I L pc loc rest Post := by
  intro p l e R s m args below meth c Q B H locs cells slots ls hc hs hR hS hL
  obtain ⟨k1, hk1⟩ := List.getElem?_of_mem (lzf_mem (G := G) hl (by simp))
  exact lv_iinc B.1.1 B.1.2.1 hd (lzf_has hL) hk1 hv hn rfl (fun ls2 h2 => k p l e R s m args below meth c Q B H locs cells slots ls2 hc hs hR hS (LH_put (v := .int v) (by simp) (List.getElem?_eq_some_iff.mp hl).1 h1 h2))
theorem x_istoren_0 {M : MI} {G : WG} {r : Nat × Nat × Nat} {S : Shp} {I : IM} {L : LM} {pc : Nat} {rest : List Value} {Post : PostT} {t0 : Value} {t : List Value} {x : Int32} (hd : decode (mcc M) pc = .ok (.istore_n 0, 1)) (hn : Nat.ble 1 (mnl M) = true) (h1 : cat1at (t0 :: t) 0 = true) (k : X M G r S I L (pc + 1) (.int x :: t) rest Post) : X M G r S I L pc (t0 :: t) (.int x :: rest) Post := x_istore0n hd (show (0 : Nat) < _ by simp) (Nat.le_of_ble_eq_true hn) h1 k
theorem x_istore_0 {M : MI} {G : WG} {r : Nat × Nat × Nat} {S : Shp} {I : IM} {L : LM} {pc : Nat} {rest : List Value} {Post : PostT} {t0 : Value} {t : List Value} {x : Int32} (hd : decode (mcc M) pc = .ok (.istore 0, 2)) (hn : Nat.ble 1 (mnl M) = true) (h1 : cat1at (t0 :: t) 0 = true) (k : X M G r S I L (pc + 2) (.int x :: t) rest Post) : X M G r S I L pc (t0 :: t) (.int x :: rest) Post := x_istore0 hd (show (0 : Nat) < _ by simp) (Nat.le_of_ble_eq_true hn) h1 k
theorem x_astoren_0 {M : MI} {G : WG} {r : Nat × Nat × Nat} {S : Shp} {I : IM} {L : LM} {pc : Nat} {rest : List Value} {Post : PostT} {t0 : Value} {t : List Value} {x : Nat} (hd : decode (mcc M) pc = .ok (.astore_n 0, 1)) (hn : Nat.ble 1 (mnl M) = true) (h1 : cat1at (t0 :: t) 0 = true) (k : X M G r S I L (pc + 1) (.ref x :: t) rest Post) : X M G r S I L pc (t0 :: t) (.ref x :: rest) Post := x_astore0n hd (show (0 : Nat) < _ by simp) (Nat.le_of_ble_eq_true hn) h1 k
theorem x_astore_0 {M : MI} {G : WG} {r : Nat × Nat × Nat} {S : Shp} {I : IM} {L : LM} {pc : Nat} {rest : List Value} {Post : PostT} {t0 : Value} {t : List Value} {x : Nat} (hd : decode (mcc M) pc = .ok (.astore 0, 2)) (hn : Nat.ble 1 (mnl M) = true) (h1 : cat1at (t0 :: t) 0 = true) (k : X M G r S I L (pc + 2) (.ref x :: t) rest Post) : X M G r S I L pc (t0 :: t) (.ref x :: rest) Post := x_astore0 hd (show (0 : Nat) < _ by simp) (Nat.le_of_ble_eq_true hn) h1 k
theorem x_iinc_0 {M : MI} {G : WG} {r : Nat × Nat × Nat} {S : Shp} {I : IM} {L : LM} {pc : Nat} {rest : List Value} {Post : PostT} {t : List Value} {n : Int} {x v : Int32} (hd : decode (mcc M) pc = .ok (.iinc 0 n, 3)) (hv : x + Int32.ofInt n = v) (hn : Nat.ble 1 (mnl M) = true) (h1 : cat1at (.int x :: t) 0 = true) (k : X M G r S I L (pc + 3) (.int v :: t) rest Post) : X M G r S I L pc (.int x :: t) rest Post := x_iinc0 hd rfl hv (Nat.le_of_ble_eq_true hn) h1 k
theorem x_lstoren_0 {M : MI} {G : WG} {r : Nat × Nat × Nat} {S : Shp} {I : IM} {L : LM} {pc : Nat} {rest : List Value} {Post : PostT} {t0 : Value} {t : List Value} {t1 : Value} {x : Int64} (hd : decode (mcc M) pc = .ok (.lstore_n 0, 1)) (hn : Nat.ble 2 (mnl M) = true) (h1 : cat1at (t0 :: t1 :: t) 0 = true) (k : X M G r S I L (pc + 1) (.long x :: .null :: t) rest Post) : X M G r S I L pc (t0 :: t1 :: t) (.long x :: rest) Post := x_lstore0n hd (show (0 : Nat) + 1 < _ by simp) (Nat.le_of_ble_eq_true hn) h1 k
theorem x_lstore_0 {M : MI} {G : WG} {r : Nat × Nat × Nat} {S : Shp} {I : IM} {L : LM} {pc : Nat} {rest : List Value} {Post : PostT} {t0 : Value} {t : List Value} {t1 : Value} {x : Int64} (hd : decode (mcc M) pc = .ok (.lstore 0, 2)) (hn : Nat.ble 2 (mnl M) = true) (h1 : cat1at (t0 :: t1 :: t) 0 = true) (k : X M G r S I L (pc + 2) (.long x :: .null :: t) rest Post) : X M G r S I L pc (t0 :: t1 :: t) (.long x :: rest) Post := x_lstore0 hd (show (0 : Nat) + 1 < _ by simp) (Nat.le_of_ble_eq_true hn) h1 k
theorem x_istoren_1 {M : MI} {G : WG} {r : Nat × Nat × Nat} {S : Shp} {I : IM} {L : LM} {pc : Nat} {rest : List Value} {Post : PostT} {a0 t0 : Value} {t : List Value} {x : Int32} (hd : decode (mcc M) pc = .ok (.istore_n 1, 1)) (hn : Nat.ble 2 (mnl M) = true) (h1 : cat1at (a0 :: t0 :: t) 1 = true) (k : X M G r S I L (pc + 1) (a0 :: .int x :: t) rest Post) : X M G r S I L pc (a0 :: t0 :: t) (.int x :: rest) Post := x_istore0n hd (show (1 : Nat) < _ by simp) (Nat.le_of_ble_eq_true hn) h1 k
theorem x_istore_1 {M : MI} {G : WG} {r : Nat × Nat × Nat} {S : Shp} {I : IM} {L : LM} {pc : Nat} {rest : List Value} {Post : PostT} {a0 t0 : Value} {t : List Value} {x : Int32} (hd : decode (mcc M) pc = .ok (.istore 1, 2)) (hn : Nat.ble 2 (mnl M) = true) (h1 : cat1at (a0 :: t0 :: t) 1 = true) (k : X M G r S I L (pc + 2) (a0 :: .int x :: t) rest Post) : X M G r S I L pc (a0 :: t0 :: t) (.int x :: rest) Post := x_istore0 hd (show (1 : Nat) < _ by simp) (Nat.le_of_ble_eq_true hn) h1 k
theorem x_astoren_1 {M : MI} {G : WG} {r : Nat × Nat × Nat} {S : Shp} {I : IM} {L : LM} {pc : Nat} {rest : List Value} {Post : PostT} {a0 t0 : Value} {t : List Value} {x : Nat} (hd : decode (mcc M) pc = .ok (.astore_n 1, 1)) (hn : Nat.ble 2 (mnl M) = true) (h1 : cat1at (a0 :: t0 :: t) 1 = true) (k : X M G r S I L (pc + 1) (a0 :: .ref x :: t) rest Post) : X M G r S I L pc (a0 :: t0 :: t) (.ref x :: rest) Post := x_astore0n hd (show (1 : Nat) < _ by simp) (Nat.le_of_ble_eq_true hn) h1 k
theorem x_astore_1 {M : MI} {G : WG} {r : Nat × Nat × Nat} {S : Shp} {I : IM} {L : LM} {pc : Nat} {rest : List Value} {Post : PostT} {a0 t0 : Value} {t : List Value} {x : Nat} (hd : decode (mcc M) pc = .ok (.astore 1, 2)) (hn : Nat.ble 2 (mnl M) = true) (h1 : cat1at (a0 :: t0 :: t) 1 = true) (k : X M G r S I L (pc + 2) (a0 :: .ref x :: t) rest Post) : X M G r S I L pc (a0 :: t0 :: t) (.ref x :: rest) Post := x_astore0 hd (show (1 : Nat) < _ by simp) (Nat.le_of_ble_eq_true hn) h1 k
theorem x_iinc_1 {M : MI} {G : WG} {r : Nat × Nat × Nat} {S : Shp} {I : IM} {L : LM} {pc : Nat} {rest : List Value} {Post : PostT} {a0 : Value} {t : List Value} {n : Int} {x v : Int32} (hd : decode (mcc M) pc = .ok (.iinc 1 n, 3)) (hv : x + Int32.ofInt n = v) (hn : Nat.ble 2 (mnl M) = true) (h1 : cat1at (a0 :: .int x :: t) 1 = true) (k : X M G r S I L (pc + 3) (a0 :: .int v :: t) rest Post) : X M G r S I L pc (a0 :: .int x :: t) rest Post := x_iinc0 hd rfl hv (Nat.le_of_ble_eq_true hn) h1 k
theorem x_lstoren_1 {M : MI} {G : WG} {r : Nat × Nat × Nat} {S : Shp} {I : IM} {L : LM} {pc : Nat} {rest : List Value} {Post : PostT} {a0 t0 : Value} {t : List Value} {t1 : Value} {x : Int64} (hd : decode (mcc M) pc = .ok (.lstore_n 1, 1)) (hn : Nat.ble 3 (mnl M) = true) (h1 : cat1at (a0 :: t0 :: t1 :: t) 1 = true) (k : X M G r S I L (pc + 1) (a0 :: .long x :: .null :: t) rest Post) : X M G r S I L pc (a0 :: t0 :: t1 :: t) (.long x :: rest) Post := x_lstore0n hd (show (1 : Nat) + 1 < _ by simp) (Nat.le_of_ble_eq_true hn) h1 k
theorem x_lstore_1 {M : MI} {G : WG} {r : Nat × Nat × Nat} {S : Shp} {I : IM} {L : LM} {pc : Nat} {rest : List Value} {Post : PostT} {a0 t0 : Value} {t : List Value} {t1 : Value} {x : Int64} (hd : decode (mcc M) pc = .ok (.lstore 1, 2)) (hn : Nat.ble 3 (mnl M) = true) (h1 : cat1at (a0 :: t0 :: t1 :: t) 1 = true) (k : X M G r S I L (pc + 2) (a0 :: .long x :: .null :: t) rest Post) : X M G r S I L pc (a0 :: t0 :: t1 :: t) (.long x :: rest) Post := x_lstore0 hd (show (1 : Nat) + 1 < _ by simp) (Nat.le_of_ble_eq_true hn) h1 k
theorem x_istoren_2 {M : MI} {G : WG} {r : Nat × Nat × Nat} {S : Shp} {I : IM} {L : LM} {pc : Nat} {rest : List Value} {Post : PostT} {a0 a1 t0 : Value} {t : List Value} {x : Int32} (hd : decode (mcc M) pc = .ok (.istore_n 2, 1)) (hn : Nat.ble 3 (mnl M) = true) (h1 : cat1at (a0 :: a1 :: t0 :: t) 2 = true) (k : X M G r S I L (pc + 1) (a0 :: a1 :: .int x :: t) rest Post) : X M G r S I L pc (a0 :: a1 :: t0 :: t) (.int x :: rest) Post := x_istore0n hd (show (2 : Nat) < _ by simp) (Nat.le_of_ble_eq_true hn) h1 k
theorem x_istore_2 {M : MI} {G : WG} {r : Nat × Nat × Nat} {S : Shp} {I : IM} {L : LM} {pc : Nat} {rest : List Value} {Post : PostT} {a0 a1 t0 : Value} {t : List Value} {x : Int32} (hd : decode (mcc M) pc = .ok (.istore 2, 2)) (hn : Nat.ble 3 (mnl M) = true) (h1 : cat1at (a0 :: a1 :: t0 :: t) 2 = true) (k : X M G r S I L (pc + 2) (a0 :: a1 :: .int x :: t) rest Post) : X M G r S I L pc (a0 :: a1 :: t0 :: t) (.int x :: rest) Post := x_istore0 hd (show (2 : Nat) < _ by simp) (Nat.le_of_ble_eq_true hn) h1 k
theorem x_astoren_2 {M : MI} {G : WG} {r : Nat × Nat × Nat} {S : Shp} {I : IM} {L : LM} {pc : Nat} {rest : List Value} {Post : PostT} {a0 a1 t0 : Value} {t : List Value} {x : Nat} (hd : decode (mcc M) pc = .ok (.astore_n 2, 1)) (hn : Nat.ble 3 (mnl M) = true) (h1 : cat1at (a0 :: a1 :: t0 :: t) 2 = true) (k : X M G r S I L (pc + 1) (a0 :: a1 :: .ref x :: t) rest Post) : X M G r S I L pc (a0 :: a1 :: t0 :: t) (.ref x :: rest) Post := x_astore0n hd (show (2 : Nat) < _ by simp) (Nat.le_of_ble_eq_true hn) h1 k
theorem x_astore_2 {M : MI} {G : WG} {r : Nat × Nat × Nat} {S : Shp} {I : IM} {L : LM} {pc : Nat} {rest : List Value} {Post : PostT} {a0 a1 t0 : Value} {t : List Value} {x : Nat} (hd : decode (mcc M) pc = .ok (.astore 2, 2)) (hn : Nat.ble 3 (mnl M) = true) (h1 : cat1at (a0 :: a1 :: t0 :: t) 2 = true) (k : X M G r S I L (pc + 2) (a0 :: a1 :: .ref x :: t) rest Post) : X M G r S I L pc (a0 :: a1 :: t0 :: t) (.ref x :: rest) Post := x_astore0 hd (show (2 : Nat) < _ by simp) (Nat.le_of_ble_eq_true hn) h1 k
theorem x_iinc_2 {M : MI} {G : WG} {r : Nat × Nat × Nat} {S : Shp} {I : IM} {L : LM} {pc : Nat} {rest : List Value} {Post : PostT} {a0 a1 : Value} {t : List Value} {n : Int} {x v : Int32} (hd : decode (mcc M) pc = .ok (.iinc 2 n, 3)) (hv : x + Int32.ofInt n = v) (hn : Nat.ble 3 (mnl M) = true) (h1 : cat1at (a0 :: a1 :: .int x :: t) 2 = true) (k : X M G r S I L (pc + 3) (a0 :: a1 :: .int v :: t) rest Post) : X M G r S I L pc (a0 :: a1 :: .int x :: t) rest Post := x_iinc0 hd rfl hv (Nat.le_of_ble_eq_true hn) h1 k
theorem x_lstoren_2 {M : MI} {G : WG} {r : Nat × Nat × Nat} {S : Shp} {I : IM} {L : LM} {pc : Nat} {rest : List Value} {Post : PostT} {a0 a1 t0 : Value} {t : List Value} {t1 : Value} {x : Int64} (hd : decode (mcc M) pc = .ok (.lstore_n 2, 1)) (hn : Nat.ble 4 (mnl M) = true) (h1 : cat1at (a0 :: a1 :: t0 :: t1 :: t) 2 = true) (k : X M G r S I L (pc + 1) (a0 :: a1 :: .long x :: .null :: t) rest Post) : X M G r S I L pc (a0 :: a1 :: t0 :: t1 :: t) (.long x :: rest) Post := x_lstore0n hd (show (2 : Nat) + 1 < _ by simp) (Nat.le_of_ble_eq_true hn) h1 k
theorem x_lstore_2 {M : MI} {G : WG} {r : Nat × Nat × Nat} {S : Shp} {I : IM} {L : LM} {pc : Nat} {rest : List Value} {Post : PostT} {a0 a1 t0 : Value} {t : List Value} {t1 : Value} {x : Int64} (hd : decode (mcc M) pc = .ok (.lstore 2, 2)) (hn : Nat.ble 4 (mnl M) = true) (h1 : cat1at (a0 :: a1 :: t0 :: t1 :: t) 2 = true) (k : X M G r S I L (pc + 2) (a0 :: a1 :: .long x :: .null :: t) rest Post) : X M G r S I L pc (a0 :: a1 :: t0 :: t1 :: t) (.long x :: rest) Post := x_lstore0 hd (show (2 : Nat) + 1 < _ by simp) (Nat.le_of_ble_eq_true hn) h1 k
theorem x_istoren_3 {M : MI} {G : WG} {r : Nat × Nat × Nat} {S : Shp} {I : IM} {L : LM} {pc : Nat} {rest : List Value} {Post : PostT} {a0 a1 a2 t0 : Value} {t : List Value} {x : Int32} (hd : decode (mcc M) pc = .ok (.istore_n 3, 1)) (hn : Nat.ble 4 (mnl M) = true) (h1 : cat1at (a0 :: a1 :: a2 :: t0 :: t) 3 = true) (k : X M G r S I L (pc + 1) (a0 :: a1 :: a2 :: .int x :: t) rest Post) : X M G r S I L pc (a0 :: a1 :: a2 :: t0 :: t) (.int x :: rest) Post := x_istore0n hd (show (3 : Nat) < _ by simp) (Nat.le_of_ble_eq_true hn) h1 k
theorem x_istore_3 {M : MI} {G : WG} {r : Nat × Nat × Nat} {S : Shp} {I : IM} {L : LM} {pc : Nat} {rest : List Value} {Post : PostT} {a0 a1 a2 t0 : Value} {t : List Value} {x : Int32} (hd : decode (mcc M) pc = .ok (.istore 3, 2)) (hn : Nat.ble 4 (mnl M) = true) (h1 : cat1at (a0 :: a1 :: a2 :: t0 :: t) 3 = true) (k : X M G r S I L (pc + 2) (a0 :: a1 :: a2 :: .int x :: t) rest Post) : X M G r S I L pc (a0 :: a1 :: a2 :: t0 :: t) (.int x :: rest) Post := x_istore0 hd (show (3 : Nat) < _ by simp) (Nat.le_of_ble_eq_true hn) h1 k
theorem x_astoren_3 {M : MI} {G : WG} {r : Nat × Nat × Nat} {S : Shp} {I : IM} {L : LM} {pc : Nat} {rest : List Value} {Post : PostT} {a0 a1 a2 t0 : Value} {t : List Value} {x : Nat} (hd : decode (mcc M) pc = .ok (.astore_n 3, 1)) (hn : Nat.ble 4 (mnl M) = true) (h1 : cat1at (a0 :: a1 :: a2 :: t0 :: t) 3 = true) (k : X M G r S I L (pc + 1) (a0 :: a1 :: a2 :: .ref x :: t) rest Post) : X M G r S I L pc (a0 :: a1 :: a2 :: t0 :: t) (.ref x :: rest) Post := x_astore0n hd (show (3 : Nat) < _ by simp) (Nat.le_of_ble_eq_true hn) h1 k
theorem x_astore_3 {M : MI} {G : WG} {r : Nat × Nat × Nat} {S : Shp} {I : IM} {L : LM} {pc : Nat} {rest : List Value} {Post : PostT} {a0 a1 a2 t0 : Value} {t : List Value} {x : Nat} (hd : decode (mcc M) pc = .ok (.astore 3, 2)) (hn : Nat.ble 4 (mnl M) = true) (h1 : cat1at (a0 :: a1 :: a2 :: t0 :: t) 3 = true) (k : X M G r S I L (pc + 2) (a0 :: a1 :: a2 :: .ref x :: t) rest Post) : X M G r S I L pc (a0 :: a1 :: a2 :: t0 :: t) (.ref x :: rest) Post := x_astore0 hd (show (3 : Nat) < _ by simp) (Nat.le_of_ble_eq_true hn) h1 k
theorem x_iinc_3 {M : MI} {G : WG} {r : Nat × Nat × Nat} {S : Shp} {I : IM} {L : LM} {pc : Nat} {rest : List Value} {Post : PostT} {a0 a1 a2 : Value} {t : List Value} {n : Int} {x v : Int32} (hd : decode (mcc M) pc = .ok (.iinc 3 n, 3)) (hv : x + Int32.ofInt n = v) (hn : Nat.ble 4 (mnl M) = true) (h1 : cat1at (a0 :: a1 :: a2 :: .int x :: t) 3 = true) (k : X M G r S I L (pc + 3) (a0 :: a1 :: a2 :: .int v :: t) rest Post) : X M G r S I L pc (a0 :: a1 :: a2 :: .int x :: t) rest Post := x_iinc0 hd rfl hv (Nat.le_of_ble_eq_true hn) h1 k
theorem x_lstoren_3 {M : MI} {G : WG} {r : Nat × Nat × Nat} {S : Shp} {I : IM} {L : LM} {pc : Nat} {rest : List Value} {Post : PostT} {a0 a1 a2 t0 : Value} {t : List Value} {t1 : Value} {x : Int64} (hd : decode (mcc M) pc = .ok (.lstore_n 3, 1)) (hn : Nat.ble 5 (mnl M) = true) (h1 : cat1at (a0 :: a1 :: a2 :: t0 :: t1 :: t) 3 = true) (k : X M G r S I L (pc + 1) (a0 :: a1 :: a2 :: .long x :: .null :: t) rest Post) : X M G r S I L pc (a0 :: a1 :: a2 :: t0 :: t1 :: t) (.long x :: rest) Post := x_lstore0n hd (show (3 : Nat) + 1 < _ by simp) (Nat.le_of_ble_eq_true hn) h1 k
theorem x_lstore_3 {M : MI} {G : WG} {r : Nat × Nat × Nat} {S : Shp} {I : IM} {L : LM} {pc : Nat} {rest : List Value} {Post : PostT} {a0 a1 a2 t0 : Value} {t : List Value} {t1 : Value} {x : Int64} (hd : decode (mcc M) pc = .ok (.lstore 3, 2)) (hn : Nat.ble 5 (mnl M) = true) (h1 : cat1at (a0 :: a1 :: a2 :: t0 :: t1 :: t) 3 = true) (k : X M G r S I L (pc + 2) (a0 :: a1 :: a2 :: .long x :: .null :: t) rest Post) : X M G r S I L pc (a0 :: a1 :: a2 :: t0 :: t1 :: t) (.long x :: rest) Post := x_lstore0 hd (show (3 : Nat) + 1 < _ by simp) (Nat.le_of_ble_eq_true hn) h1 k
theorem x_istore_4 {M : MI} {G : WG} {r : Nat × Nat × Nat} {S : Shp} {I : IM} {L : LM} {pc : Nat} {rest : List Value} {Post : PostT} {a0 a1 a2 a3 t0 : Value} {t : List Value} {x : Int32} (hd : decode (mcc M) pc = .ok (.istore 4, 2)) (hn : Nat.ble 5 (mnl M) = true) (h1 : cat1at (a0 :: a1 :: a2 :: a3 :: t0 :: t) 4 = true) (k : X M G r S I L (pc + 2) (a0 :: a1 :: a2 :: a3 :: .int x :: t) rest Post) : X M G r S I L pc (a0 :: a1 :: a2 :: a3 :: t0 :: t) (.int x :: rest) Post := x_istore0 hd (show (4 : Nat) < _ by simp) (Nat.le_of_ble_eq_true hn) h1 k
theorem x_astore_4 {M : MI} {G : WG} {r : Nat × Nat × Nat} {S : Shp} {I : IM} {L : LM} {pc : Nat} {rest : List Value} {Post : PostT} {a0 a1 a2 a3 t0 : Value} {t : List Value} {x : Nat} (hd : decode (mcc M) pc = .ok (.astore 4, 2)) (hn : Nat.ble 5 (mnl M) = true) (h1 : cat1at (a0 :: a1 :: a2 :: a3 :: t0 :: t) 4 = true) (k : X M G r S I L (pc + 2) (a0 :: a1 :: a2 :: a3 :: .ref x :: t) rest Post) : X M G r S I L pc (a0 :: a1 :: a2 :: a3 :: t0 :: t) (.ref x :: rest) Post := x_astore0 hd (show (4 : Nat) < _ by simp) (Nat.le_of_ble_eq_true hn) h1 k
theorem x_iinc_4 {M : MI} {G : WG} {r : Nat × Nat × Nat} {S : Shp} {I : IM} {L : LM} {pc : Nat} {rest : List Value} {Post : PostT} {a0 a1 a2 a3 : Value} {t : List Value} {n : Int} {x v : Int32} (hd : decode (mcc M) pc = .ok (.iinc 4 n, 3)) (hv : x + Int32.ofInt n = v) (hn : Nat.ble 5 (mnl M) = true) (h1 : cat1at (a0 :: a1 :: a2 :: a3 :: .int x :: t) 4 = true) (k : X M G r S I L (pc + 3) (a0 :: a1 :: a2 :: a3 :: .int v :: t) rest Post) : X M G r S I L pc (a0 :: a1 :: a2 :: a3 :: .int x :: t) rest Post := x_iinc0 hd rfl hv (Nat.le_of_ble_eq_true hn) h1 k
theorem x_lstore_4 {M : MI} {G : WG} {r : Nat × Nat × Nat} {S : Shp} {I : IM} {L : LM} {pc : Nat} {rest : List Value} {Post : PostT} {a0 a1 a2 a3 t0 : Value} {t : List Value} {t1 : Value} {x : Int64} (hd : decode (mcc M) pc = .ok (.lstore 4, 2)) (hn : Nat.ble 6 (mnl M) = true) (h1 : cat1at (a0 :: a1 :: a2 :: a3 :: t0 :: t1 :: t) 4 = true) (k : X M G r S I L (pc + 2) (a0 :: a1 :: a2 :: a3 :: .long x :: .null :: t) rest Post) : X M G r S I L pc (a0 :: a1 :: a2 :: a3 :: t0 :: t1 :: t) (.long x :: rest) Post := x_lstore0 hd (show (4 : Nat) + 1 < _ by simp) (Nat.le_of_ble_eq_true hn) h1 k
theorem x_istore_5 {M : MI} {G : WG} {r : Nat × Nat × Nat} {S : Shp} {I : IM} {L : LM} {pc : Nat} {rest : List Value} {Post : PostT} {a0 a1 a2 a3 a4 t0 : Value} {t : List Value} {x : Int32} (hd : decode (mcc M) pc = .ok (.istore 5, 2)) (hn : Nat.ble 6 (mnl M) = true) (h1 : cat1at (a0 :: a1 :: a2 :: a3 :: a4 :: t0 :: t) 5 = true) (k : X M G r S I L (pc + 2) (a0 :: a1 :: a2 :: a3 :: a4 :: .int x :: t) rest Post) : X M G r S I L pc (a0 :: a1 :: a2 :: a3 :: a4 :: t0 :: t) (.int x :: rest) Post := x_istore0 hd (show (5 : Nat) < _ by simp) (Nat.le_of_ble_eq_true hn) h1 k
theorem x_astore_5 {M : MI} {G : WG} {r : Nat × Nat × Nat} {S : Shp} {I : IM} {L : LM} {pc : Nat} {rest : List Value} {Post : PostT} {a0 a1 a2 a3 a4 t0 : Value} {t : List Value} {x : Nat} (hd : decode (mcc M) pc = .ok (.astore 5, 2)) (hn : Nat.ble 6 (mnl M) = true) (h1 : cat1at (a0 :: a1 :: a2 :: a3 :: a4 :: t0 :: t) 5 = true) (k : X M G r S I L (pc + 2) (a0 :: a1 :: a2 :: a3 :: a4 :: .ref x :: t) rest Post) : X M G r S I L pc (a0 :: a1 :: a2 :: a3 :: a4 :: t0 :: t) (.ref x :: rest) Post := x_astore0 hd (show (5 : Nat) < _ by simp) (Nat.le_of_ble_eq_true hn) h1 k
theorem x_iinc_5 {M : MI} {G : WG} {r : Nat × Nat × Nat} {S : Shp} {I : IM} {L : LM} {pc : Nat} {rest : List Value} {Post : PostT} {a0 a1 a2 a3 a4 : Value} {t : List Value} {n : Int} {x v : Int32} (hd : decode (mcc M) pc = .ok (.iinc 5 n, 3)) (hv : x + Int32.ofInt n = v) (hn : Nat.ble 6 (mnl M) = true) (h1 : cat1at (a0 :: a1 :: a2 :: a3 :: a4 :: .int x :: t) 5 = true) (k : X M G r S I L (pc + 3) (a0 :: a1 :: a2 :: a3 :: a4 :: .int v :: t) rest Post) : X M G r S I L pc (a0 :: a1 :: a2 :: a3 :: a4 :: .int x :: t) rest Post := x_iinc0 hd rfl hv (Nat.le_of_ble_eq_true hn) h1 k
theorem x_lstore_5 {M : MI} {G : WG} {r : Nat × Nat × Nat} {S : Shp} {I : IM} {L : LM} {pc : Nat} {rest : List Value} {Post : PostT} {a0 a1 a2 a3 a4 t0 : Value} {t : List Value} {t1 : Value} {x : Int64} (hd : decode (mcc M) pc = .ok (.lstore 5, 2)) (hn : Nat.ble 7 (mnl M) = true) (h1 : cat1at (a0 :: a1 :: a2 :: a3 :: a4 :: t0 :: t1 :: t) 5 = true) (k : X M G r S I L (pc + 2) (a0 :: a1 :: a2 :: a3 :: a4 :: .long x :: .null :: t) rest Post) : X M G r S I L pc (a0 :: a1 :: a2 :: a3 :: a4 :: t0 :: t1 :: t) (.long x :: rest) Post := x_lstore0 hd (show (5 : Nat) + 1 < _ by simp) (Nat.le_of_ble_eq_true hn) h1 k
theorem x_istore_6 {M : MI} {G : WG} {r : Nat × Nat × Nat} {S : Shp} {I : IM} {L : LM} {pc : Nat} {rest : List Value} {Post : PostT} {a0 a1 a2 a3 a4 a5 t0 : Value} {t : List Value} {x : Int32} (hd : decode (mcc M) pc = .ok (.istore 6, 2)) (hn : Nat.ble 7 (mnl M) = true) (h1 : cat1at (a0 :: a1 :: a2 :: a3 :: a4 :: a5 :: t0 :: t) 6 = true) (k : X M G r S I L (pc + 2) (a0 :: a1 :: a2 :: a3 :: a4 :: a5 :: .int x :: t) rest Post) : X M G r S I L pc (a0 :: a1 :: a2 :: a3 :: a4 :: a5 :: t0 :: t) (.int x :: rest) Post := x_istore0 hd (show (6 : Nat) < _ by simp) (Nat.le_of_ble_eq_true hn) h1 k
theorem x_astore_6 {M : MI} {G : WG} {r : Nat × Nat × Nat} {S : Shp} {I : IM} {L : LM} {pc : Nat} {rest : List Value} {Post : PostT} {a0 a1 a2 a3 a4 a5 t0 : Value} {t : List Value} {x : Nat} (hd : decode (mcc M) pc = .ok (.astore 6, 2)) (hn : Nat.ble 7 (mnl M) = true) (h1 : cat1at (a0 :: a1 :: a2 :: a3 :: a4 :: a5 :: t0 :: t) 6 = true) (k : X M G r S I L (pc + 2) (a0 :: a1 :: a2 :: a3 :: a4 :: a5 :: .ref x :: t) rest Post) : X M G r S I L pc (a0 :: a1 :: a2 :: a3 :: a4 :: a5 :: t0 :: t) (.ref x :: rest) Post := x_astore0 hd (show (6 : Nat) < _ by simp) (Nat.le_of_ble_eq_true hn) h1 k
theorem x_iinc_6 {M : MI} {G : WG} {r : Nat × Nat × Nat} {S : Shp} {I : IM} {L : LM} {pc : Nat} {rest : List Value} {Post : PostT} {a0 a1 a2 a3 a4 a5 : Value} {t : List Value} {n : Int} {x v : Int32} (hd : decode (mcc M) pc = .ok (.iinc 6 n, 3)) (hv : x + Int32.ofInt n = v) (hn : Nat.ble 7 (mnl M) = true) (h1 : cat1at (a0 :: a1 :: a2 :: a3 :: a4 :: a5 :: .int x :: t) 6 = true) (k : X M G r S I L (pc + 3) (a0 :: a1 :: a2 :: a3 :: a4 :: a5 :: .int v :: t) rest Post) : X M G r S I L pc (a0 :: a1 :: a2 :: a3 :: a4 :: a5 :: .int x :: t) rest Post := x_iinc0 hd rfl hv (Nat.le_of_ble_eq_true hn) h1 k
theorem x_lstore_6 {M : MI} {G : WG} {r : Nat × Nat × Nat} {S : Shp} {I : IM} {L : LM} {pc : Nat} {rest : List Value} {Post : PostT} {a0 a1 a2 a3 a4 a5 t0 : Value} {t : List Value} {t1 : Value} {x : Int64} (hd : decode (mcc M) pc = .ok (.lstore 6, 2)) (hn : Nat.ble 8 (mnl M) = true) (h1 : cat1at (a0 :: a1 :: a2 :: a3 :: a4 :: a5 :: t0 :: t1 :: t) 6 = true) (k : X M G r S I L (pc + 2) (a0 :: a1 :: a2 :: a3 :: a4 :: a5 :: .long x :: .null :: t) rest Post) : X M G r S I L pc (a0 :: a1 :: a2 :: a3 :: a4 :: a5 :: t0 :: t1 :: t) (.long x :: rest) Post := x_lstore0 hd (show (6 : Nat) + 1 < _ by simp) (Nat.le_of_ble_eq_true hn) h1 k
theorem x_istore_7 {M : MI} {G : WG} {r : Nat × Nat × Nat} {S : Shp} {I : IM} {L : LM} {pc : Nat} {rest : List Value} {Post : PostT} {a0 a1 a2 a3 a4 a5 a6 t0 : Value} {t : List Value} {x : Int32} (hd : decode (mcc M) pc = .ok (.istore 7, 2)) (hn : Nat.ble 8 (mnl M) = true) (h1 : cat1at (a0 :: a1 :: a2 :: a3 :: a4 :: a5 :: a6 :: t0 :: t) 7 = true) (k : X M G r S I L (pc + 2) (a0 :: a1 :: a2 :: a3 :: a4 :: a5 :: a6 :: .int x :: t) rest Post) : X M G r S I L pc (a0 :: a1 :: a2 :: a3 :: a4 :: a5 :: a6 :: t0 :: t) (.int x :: rest) Post := x_istore0 hd (show (7 : Nat) < _ by simp) (Nat.le_of_ble_eq_true hn) h1 k
theorem x_astore_7 {M : MI} {G : WG} {r : Nat × Nat × Nat} {S : Shp} {I : IM} {L : LM} {pc : Nat} {rest : List Value} {Post : PostT} {a0 a1 a2 a3 a4 a5 a6 t0 : Value} {t : List Value} {x : Nat} (hd : decode (mcc M) pc = .ok (.astore 7, 2)) (hn : Nat.ble 8 (mnl M) = true) (h1 : cat1at (a0 :: a1 :: a2 :: a3 :: a4 :: a5 :: a6 :: t0 :: t) 7 = true) (k : X M G r S I L (pc + 2) (a0 :: a1 :: a2 :: a3 :: a4 :: a5 :: a6 :: .ref x :: t) rest Post) : X M G r S I L pc (a0 :: a1 :: a2 :: a3 :: a4 :: a5 :: a6 :: t0 :: t) (.ref x :: rest) Post := x_astore0 hd (show (7 : Nat) < _ by simp) (Nat.le_of_ble_eq_true hn) h1 k
theorem x_iinc_7 {M : MI} {G : WG} {r : Nat × Nat × Nat} {S : Shp} {I : IM} {L : LM} {pc : Nat} {rest : List Value} {Post : PostT} {a0 a1 a2 a3 a4 a5 a6 : Value} {t : List Value} {n : Int} {x v : Int32} (hd : decode (mcc M) pc = .ok (.iinc 7 n, 3)) (hv : x + Int32.ofInt n = v) (hn : Nat.ble 8 (mnl M) = true) (h1 : cat1at (a0 :: a1 :: a2 :: a3 :: a4 :: a5 :: a6 :: .int x :: t) 7 = true) (k : X M G r S I L (pc + 3) (a0 :: a1 :: a2 :: a3 :: a4 :: a5 :: a6 :: .int v :: t) rest Post) : X M G r S I L pc (a0 :: a1 :: a2 :: a3 :: a4 :: a5 :: a6 :: .int x :: t) rest Post := x_iinc0 hd rfl hv (Nat.le_of_ble_eq_true hn) h1 k
theorem x_lstore_7 {M : MI} {G : WG} {r : Nat × Nat × Nat} {S : Shp} {I : IM} {L : LM} {pc : Nat} {rest : List Value} {Post : PostT} {a0 a1 a2 a3 a4 a5 a6 t0 : Value} {t : List Value} {t1 : Value} {x : Int64} (hd : decode (mcc M) pc = .ok (.lstore 7, 2)) (hn : Nat.ble 9 (mnl M) = true) (h1 : cat1at (a0 :: a1 :: a2 :: a3 :: a4 :: a5 :: a6 :: t0 :: t1 :: t) 7 = true) (k : X M G r S I L (pc + 2) (a0 :: a1 :: a2 :: a3 :: a4 :: a5 :: a6 :: .long x :: .null :: t) rest Post) : X M G r S I L pc (a0 :: a1 :: a2 :: a3 :: a4 :: a5 :: a6 :: t0 :: t1 :: t) (.long x :: rest) Post := x_lstore0 hd (show (7 : Nat) + 1 < _ by simp) (Nat.le_of_ble_eq_true hn) h1 k
theorem x_istore_8 {M : MI} {G : WG} {r : Nat × Nat × Nat} {S : Shp} {I : IM} {L : LM} {pc : Nat} {rest : List Value} {Post : PostT} {a0 a1 a2 a3 a4 a5 a6 a7 t0 : Value} {t : List Value} {x : Int32} (hd : decode (mcc M) pc = .ok (.istore 8, 2)) (hn : Nat.ble 9 (mnl M) = true) (h1 : cat1at (a0 :: a1 :: a2 :: a3 :: a4 :: a5 :: a6 :: a7 :: t0 :: t) 8 = true) (k : X M G r S I L (pc + 2) (a0 :: a1 :: a2 :: a3 :: a4 :: a5 :: a6 :: a7 :: .int x :: t) rest Post) : X M G r S I L pc (a0 :: a1 :: a2 :: a3 :: a4 :: a5 :: a6 :: a7 :: t0 :: t) (.int x :: rest) Post := x_istore0 hd (show (8 : Nat) < _ by simp) (Nat.le_of_ble_eq_true hn) h1 k
theorem x_astore_8 {M : MI} {G : WG} {r : Nat × Nat × Nat} {S : Shp} {I : IM} {L : LM} {pc : Nat} {rest : List Value} {Post : PostT} {a0 a1 a2 a3 a4 a5 a6 a7 t0 : Value} {t : List Value} {x : Nat} (hd : decode (mcc M) pc = .ok (.astore 8, 2)) (hn : Nat.ble 9 (mnl M) = true) (h1 : cat1at (a0 :: a1 :: a2 :: a3 :: a4 :: a5 :: a6 :: a7 :: t0 :: t) 8 = true) (k : X M G r S I L (pc + 2) (a0 :: a1 :: a2 :: a3 :: a4 :: a5 :: a6 :: a7 :: .ref x :: t) rest Post) : X M G r S I L pc (a0 :: a1 :: a2 :: a3 :: a4 :: a5 :: a6 :: a7 :: t0 :: t) (.ref x :: rest) Post := x_astore0 hd (show (8 : Nat) < _ by simp) (Nat.le_of_ble_eq_true hn) h1 k
theorem x_iinc_8 {M : MI} {G : WG} {r : Nat × Nat × Nat} {S : Shp} {I : IM} {L : LM} {pc : Nat} {rest : List Value} {Post : PostT} {a0 a1 a2 a3 a4 a5 a6 a7 : Value} {t : List Value} {n : Int} {x v : Int32} (hd : decode (mcc M) pc = .ok (.iinc 8 n, 3)) (hv : x + Int32.ofInt n = v) (hn : Nat.ble 9 (mnl M) = true) (h1 : cat1at (a0 :: a1 :: a2 :: a3 :: a4 :: a5 :: a6 :: a7 :: .int x :: t) 8 = true) (k : X M G r S I L (pc + 3) (a0 :: a1 :: a2 :: a3 :: a4 :: a5 :: a6 :: a7 :: .int v :: t) rest Post) : X M G r S I L pc (a0 :: a1 :: a2 :: a3 :: a4 :: a5 :: a6 :: a7 :: .int x :: t) rest Post := x_iinc0 hd rfl hv (Nat.le_of_ble_eq_true hn) h1 k
theorem x_lstore_8 {M : MI} {G : WG} {r : Nat × Nat × Nat} {S : Shp} {I : IM} {L : LM} {pc : Nat} {rest : List Value} {Post : PostT} {a0 a1 a2 a3 a4 a5 a6 a7 t0 : Value} {t : List Value} {t1 : Value} {x : Int64} (hd : decode (mcc M) pc = .ok (.lstore 8, 2)) (hn : Nat.ble 10 (mnl M) = true) (h1 : cat1at (a0 :: a1 :: a2 :: a3 :: a4 :: a5 :: a6 :: a7 :: t0 :: t1 :: t) 8 = true) (k : X M G r S I L (pc + 2) (a0 :: a1 :: a2 :: a3 :: a4 :: a5 :: a6 :: a7 :: .long x :: .null :: t) rest Post) : X M G r S I L pc (a0 :: a1 :: a2 :: a3 :: a4 :: a5 :: a6 :: a7 :: t0 :: t1 :: t) (.long x :: rest) Post := x_lstore0 hd (show (8 : Nat) + 1 < _ by simp) (Nat.le_of_ble_eq_true hn) h1 k
theorem x_istore_9 {M : MI} {G : WG} {r : Nat × Nat × Nat} {S : Shp} {I : IM} {L : LM} {pc : Nat} {rest : List Value} {Post : PostT} {a0 a1 a2 a3 a4 a5 a6 a7 a8 t0 : Value} {t : List Value} {x : Int32} (hd : decode (mcc M) pc = .ok (.istore 9, 2)) (hn : Nat.ble 10 (mnl M) = true) (h1 : cat1at (a0 :: a1 :: a2 :: a3 :: a4 :: a5 :: a6 :: a7 :: a8 :: t0 :: t) 9 = true) (k : X M G r S I L (pc + 2) (a0 :: a1 :: a2 :: a3 :: a4 :: a5 :: a6 :: a7 :: a8 :: .int x :: t) rest Post) : X M G r S I L pc (a0 :: a1 :: a2 :: a3 :: a4 :: a5 :: a6 :: a7 :: a8 :: t0 :: t) (.int x :: rest) Post := x_istore0 hd (show (9 : Nat) < _ by simp) (Nat.le_of_ble_eq_true hn) h1 k
theorem x_astore_9 {M : MI} {G : WG} {r : Nat × Nat × Nat} {S : Shp} {I : IM} {L : LM} {pc : Nat} {rest : List Value} {Post : PostT} {a0 a1 a2 a3 a4 a5 a6 a7 a8 t0 : Value} {t : List Value} {x : Nat} (hd : decode (mcc M) pc = .ok (.astore 9, 2)) (hn : Nat.ble 10 (mnl M) = true) (h1 : cat1at (a0 :: a1 :: a2 :: a3 :: a4 :: a5 :: a6 :: a7 :: a8 :: t0 :: t) 9 = true) (k : X M G r S I L (pc + 2) (a0 :: a1 :: a2 :: a3 :: a4 :: a5 :: a6 :: a7 :: a8 :: .ref x :: t) rest Post) : X M G r S I L pc (a0 :: a1 :: a2 :: a3 :: a4 :: a5 :: a6 :: a7 :: a8 :: t0 :: t) (.ref x :: rest) Post := x_astore0 hd (show (9 : Nat) < _ by simp) (Nat.le_of_ble_eq_true hn) h1 k
theorem x_iinc_9 {M : MI} {G : WG} {r : Nat × Nat × Nat} {S : Shp} {I : IM} {L : LM} {pc : Nat} {rest : List Value} {Post : PostT} {a0 a1 a2 a3 a4 a5 a6 a7 a8 : Value} {t : List Value} {n : Int} {x v : Int32} (hd : decode (mcc M) pc = .ok (.iinc 9 n, 3)) (hv : x + Int32.ofInt n = v) (hn : Nat.ble 10 (mnl M) = true) (h1 : cat1at (a0 :: a1 :: a2 :: a3 :: a4 :: a5 :: a6 :: a7 :: a8 :: .int x :: t) 9 = true) (k : X M G r S I L (pc + 3) (a0 :: a1 :: a2 :: a3 :: a4 :: a5 :: a6 :: a7 :: a8 :: .int v :: t) rest Post) : X M G r S I L pc (a0 :: a1 :: a2 :: a3 :: a4 :: a5 :: a6 :: a7 :: a8 :: .int x :: t) rest Post := x_iinc0 hd rfl hv (Nat.le_of_ble_eq_true hn) h1 k
theorem x_lstore_9 {M : MI} {G : WG} {r : Nat × Nat × Nat} {S : Shp} {I : IM} {L : LM} {pc : Nat} {rest : List Value} {Post : PostT} {a0 a1 a2 a3 a4 a5 a6 a7 a8 t0 : Value} {t : List Value} {t1 : Value} {x : Int64} (hd : decode (mcc M) pc = .ok (.lstore 9, 2)) (hn : Nat.ble 11 (mnl M) = true) (h1 : cat1at (a0 :: a1 :: a2 :: a3 :: a4 :: a5 :: a6 :: a7 :: a8 :: t0 :: t1 :: t) 9 = true) (k : X M G r S I L (pc + 2) (a0 :: a1 :: a2 :: a3 :: a4 :: a5 :: a6 :: a7 :: a8 :: .long x :: .null :: t) rest Post) : X M G r S I L pc (a0 :: a1 :: a2 :: a3 :: a4 :: a5 :: a6 :: a7 :: a8 :: t0 :: t1 :: t) (.long x :: rest) Post := x_lstore0 hd (show (9 : Nat) + 1 < _ by simp) (Nat.le_of_ble_eq_true hn) h1 k
theorem x_istore_10 {M : MI} {G : WG} {r : Nat × Nat × Nat} {S : Shp} {I : IM} {L : LM} {pc : Nat} {rest : List Value} {Post : PostT} {a0 a1 a2 a3 a4 a5 a6 a7 a8 a9 t0 : Value} {t : List Value} {x : Int32} (hd : decode (mcc M) pc = .ok (.istore 10, 2)) (hn : Nat.ble 11 (mnl M) = true) (h1 : cat1at (a0 :: a1 :: a2 :: a3 :: a4 :: a5 :: a6 :: a7 :: a8 :: a9 :: t0 :: t) 10 = true) (k : X M G r S I L (pc + 2) (a0 :: a1 :: a2 :: a3 :: a4 :: a5 :: a6 :: a7 :: a8 :: a9 :: .int x :: t) rest Post) : X M G r S I L pc (a0 :: a1 :: a2 :: a3 :: a4 :: a5 :: a6 :: a7 :: a8 :: a9 :: t0 :: t) (.int x :: rest) Post := x_istore0 hd (show (10 : Nat) < _ by simp) (Nat.le_of_ble_eq_true hn) h1 k
theorem x_astore_10 {M : MI} {G : WG} {r : Nat × Nat × Nat} {S : Shp} {I : IM} {L : LM} {pc : Nat} {rest : List Value} {Post : PostT} {a0 a1 a2 a3 a4 a5 a6 a7 a8 a9 t0 : Value} {t : List Value} {x : Nat} (hd : decode (mcc M) pc = .ok (.astore 10, 2)) (hn : Nat.ble 11 (mnl M) = true) (h1 : cat1at (a0 :: a1 :: a2 :: a3 :: a4 :: a5 :: a6 :: a7 :: a8 :: a9 :: t0 :: t) 10 = true) (k : X M G r S I L (pc + 2) (a0 :: a1 :: a2 :: a3 :: a4 :: a5 :: a6 :: a7 :: a8 :: a9 :: .ref x :: t) rest Post) : X M G r S I L pc (a0 :: a1 :: a2 :: a3 :: a4 :: a5 :: a6 :: a7 :: a8 :: a9 :: t0 :: t) (.ref x :: rest) Post := x_astore0 hd (show (10 : Nat) < _ by simp) (Nat.le_of_ble_eq_true hn) h1 k
theorem x_iinc_10 {M : MI} {G : WG} {r : Nat × Nat × Nat} {S : Shp} {I : IM} {L : LM} {pc : Nat} {rest : List Value} {Post : PostT} {a0 a1 a2 a3 a4 a5 a6 a7 a8 a9 : Value} {t : List Value} {n : Int} {x v : Int32} (hd : decode (mcc M) pc = .ok (.iinc 10 n, 3)) (hv : x + Int32.ofInt n = v) (hn : Nat.ble 11 (mnl M) = true) (h1 : cat1at (a0 :: a1 :: a2 :: a3 :: a4 :: a5 :: a6 :: a7 :: a8 :: a9 :: .int x :: t) 10 = true) (k : X M G r S I L (pc + 3) (a0 :: a1 :: a2 :: a3 :: a4 :: a5 :: a6 :: a7 :: a8 :: a9 :: .int v :: t) rest Post) : X M G r S I L pc (a0 :: a1 :: a2 :: a3 :: a4 :: a5 :: a6 :: a7 :: a8 :: a9 :: .int x :: t) rest Post := x_iinc0 hd rfl hv (Nat.le_of_ble_eq_true hn) h1 k
theorem x_lstore_10 {M : MI} {G : WG} {r : Nat × Nat × Nat} {S : Shp} {I : IM} {L : LM} {pc : Nat} {rest : List Value} {Post : PostT} {a0 a1 a2 a3 a4 a5 a6 a7 a8 a9 t0 : Value} {t : List Value} {t1 : Value} {x : Int64} (hd : decode (mcc M) pc = .ok (.lstore 10, 2)) (hn : Nat.ble 12 (mnl M) = true) (h1 : cat1at (a0 :: a1 :: a2 :: a3 :: a4 :: a5 :: a6 :: a7 :: a8 :: a9 :: t0 :: t1 :: t) 10 = true) (k : X M G r S I L (pc + 2) (a0 :: a1 :: a2 :: a3 :: a4 :: a5 :: a6 :: a7 :: a8 :: a9 :: .long x :: .null :: t) rest Post) : X M G r S I L pc (a0 :: a1 :: a2 :: a3 :: a4 :: a5 :: a6 :: a7 :: a8 :: a9 :: t0 :: t1 :: t) (.long x :: rest) Post := x_lstore0 hd (show (10 : Nat) + 1 < _ by simp) (Nat.le_of_ble_eq_true hn) h1 k
theorem x_istore_11 {M : MI} {G : WG} {r : Nat × Nat × Nat} {S : Shp} {I : IM} {L : LM} {pc : Nat} {rest : List Value} {Post : PostT} {a0 a1 a2 a3 a4 a5 a6 a7 a8 a9 a10 t0 : Value} {t : List Value} {x : Int32} (hd : decode (mcc M) pc = .ok (.istore 11, 2)) (hn : Nat.ble 12 (mnl M) = true) (h1 : cat1at (a0 :: a1 :: a2 :: a3 :: a4 :: a5 :: a6 :: a7 :: a8 :: a9 :: a10 :: t0 :: t) 11 = true) (k : X M G r S I L (pc + 2) (a0 :: a1 :: a2 :: a3 :: a4 :: a5 :: a6 :: a7 :: a8 :: a9 :: a10 :: .int x :: t) rest Post) : X M G r S I L pc (a0 :: a1 :: a2 :: a3 :: a4 :: a5 :: a6 :: a7 :: a8 :: a9 :: a10 :: t0 :: t) (.int x :: rest) Post := x_istore0 hd (show (11 : Nat) < _ by simp) (Nat.le_of_ble_eq_true hn) h1 k
theorem x_astore_11 {M : MI} {G : WG} {r : Nat × Nat × Nat} {S : Shp} {I : IM} {L : LM} {pc : Nat} {rest : List Value} {Post : PostT} {a0 a1 a2 a3 a4 a5 a6 a7 a8 a9 a10 t0 : Value} {t : List Value} {x : Nat} (hd : decode (mcc M) pc = .ok (.astore 11, 2)) (hn : Nat.ble 12 (mnl M) = true) (h1 : cat1at (a0 :: a1 :: a2 :: a3 :: a4 :: a5 :: a6 :: a7 :: a8 :: a9 :: a10 :: t0 :: t) 11 = true) (k : X M G r S I L (pc + 2) (a0 :: a1 :: a2 :: a3 :: a4 :: a5 :: a6 :: a7 :: a8 :: a9 :: a10 :: .ref x :: t) rest Post) : X M G r S I L pc (a0 :: a1 :: a2 :: a3 :: a4 :: a5 :: a6 :: a7 :: a8 :: a9 :: a10 :: t0 :: t) (.ref x :: rest) Post := x_astore0 hd (show (11 : Nat) < _ by simp) (Nat.le_of_ble_eq_true hn) h1 k
theorem x_iinc_11 {M : MI} {G : WG} {r : Nat × Nat × Nat} {S : Shp} {I : IM} {L : LM} {pc : Nat} {rest : List Value} {Post : PostT} {a0 a1 a2 a3 a4 a5 a6 a7 a8 a9 a10 : Value} {t : List Value} {n : Int} {x v : Int32} (hd : decode (mcc M) pc = .ok (.iinc 11 n, 3)) (hv : x + Int32.ofInt n = v) (hn : Nat.ble 12 (mnl M) = true) (h1 : cat1at (a0 :: a1 :: a2 :: a3 :: a4 :: a5 :: a6 :: a7 :: a8 :: a9 :: a10 :: .int x :: t) 11 = true) (k : X M G r S I L (pc + 3) (a0 :: a1 :: a2 :: a3 :: a4 :: a5 :: a6 :: a7 :: a8 :: a9 :: a10 :: .int v :: t) rest Post) : X M G r S I L pc (a0 :: a1 :: a2 :: a3 :: a4 :: a5 :: a6 :: a7 :: a8 :: a9 :: a10 :: .int x :: t) rest Post := x_iinc0 hd rfl hv (Nat.le_of_ble_eq_true hn) h1 k
theorem x_lstore_11 {M : MI} {G : WG} {r : Nat × Nat × Nat} {S : Shp} {I : IM} {L : LM} {pc : Nat} {rest : List Value} {Post : PostT} {a0 a1 a2 a3 a4 a5 a6 a7 a8 a9 a10 t0 : Value} {t : List Value} {t1 : Value} {x : Int64} (hd : decode (mcc M) pc = .ok (.lstore 11, 2)) (hn : Nat.ble 13 (mnl M) = true) (h1 : cat1at (a0 :: a1 :: a2 :: a3 :: a4 :: a5 :: a6 :: a7 :: a8 :: a9 :: a10 :: t0 :: t1 :: t) 11 = true) (k : X M G r S I L (pc + 2) (a0 :: a1 :: a2 :: a3 :: a4 :: a5 :: a6 :: a7 :: a8 :: a9 :: a10 :: .long x :: .null :: t) rest Post) : X M G r S I L pc (a0 :: a1 :: a2 :: a3 :: a4 :: a5 :: a6 :: a7 :: a8 :: a9 :: a10 :: t0 :: t1 :: t) (.long x :: rest) Post := x_lstore0 hd (show (11 : Nat) + 1 < _ by simp) (Nat.le_of_ble_eq_true hn) h1 k
theorem x_istore_12 {M : MI} {G : WG} {r : Nat × Nat × Nat} {S : Shp} {I : IM} {L : LM} {pc : Nat} {rest : List Value} {Post : PostT} {a0 a1 a2 a3 a4 a5 a6 a7 a8 a9 a10 a11 t0 : Value} {t : List Value} {x : Int32} (hd : decode (mcc M) pc = .ok (.istore 12, 2)) (hn : Nat.ble 13 (mnl M) = true) (h1 : cat1at (a0 :: a1 :: a2 :: a3 :: a4 :: a5 :: a6 :: a7 :: a8 :: a9 :: a10 :: a11 :: t0 :: t) 12 = true) (k : X M G r S I L (pc + 2) (a0 :: a1 :: a2 :: a3 :: a4 :: a5 :: a6 :: a7 :: a8 :: a9 :: a10 :: a11 :: .int x :: t) rest Post) : X M G r S I L pc (a0 :: a1 :: a2 :: a3 :: a4 :: a5 :: a6 :: a7 :: a8 :: a9 :: a10 :: a11 :: t0 :: t) (.int x :: rest) Post := x_istore0 hd (show (12 : Nat) < _ by simp) (Nat.le_of_ble_eq_true hn) h1 k
theorem x_astore_12 {M : MI} {G : WG} {r : Nat × Nat × Nat} {S : Shp} {I : IM} {L : LM} {pc : Nat} {rest : List Value} {Post : PostT} {a0 a1 a2 a3 a4 a5 a6 a7 a8 a9 a10 a11 t0 : Value} {t : List Value} {x : Nat} (hd : decode (mcc M) pc = .ok (.astore 12, 2)) (hn : Nat.ble 13 (mnl M) = true) (h1 : cat1at (a0 :: a1 :: a2 :: a3 :: a4 :: a5 :: a6 :: a7 :: a8 :: a9 :: a10 :: a11 :: t0 :: t) 12 = true) (k : X M G r S I L (pc + 2) (a0 :: a1 :: a2 :: a3 :: a4 :: a5 :: a6 :: a7 :: a8 :: a9 :: a10 :: a11 :: .ref x :: t) rest Post) : X M G r S I L pc (a0 :: a1 :: a2 :: a3 :: a4 :: a5 :: a6 :: a7 :: a8 :: a9 :: a10 :: a11 :: t0 :: t) (.ref x :: rest) Post := x_astore0 hd (show (12 : Nat) < _ by simp) (Nat.le_of_ble_eq_true hn) h1 k
theorem x_iinc_12 {M : MI} {G : WG} {r : Nat × Nat × Nat} {S : Shp} {I : IM} {L : LM} {pc : Nat} {rest : List Value} {Post : PostT} {a0 a1 a2 a3 a4 a5 a6 a7 a8 a9 a10 a11 : Value} {t : List Value} {n : Int} {x v : Int32} (hd : decode (mcc M) pc = .ok (.iinc 12 n, 3)) (hv : x + Int32.ofInt n = v) (hn : Nat.ble 13 (mnl M) = true) (h1 : cat1at (a0 :: a1 :: a2 :: a3 :: a4 :: a5 :: a6 :: a7 :: a8 :: a9 :: a10 :: a11 :: .int x :: t) 12 = true) (k : X M G r S I L (pc + 3) (a0 :: a1 :: a2 :: a3 :: a4 :: a5 :: a6 :: a7 :: a8 :: a9 :: a10 :: a11 :: .int v :: t) rest Post) : X M G r S I L pc (a0 :: a1 :: a2 :: a3 :: a4 :: a5 :: a6 :: a7 :: a8 :: a9 :: a10 :: a11 :: .int x :: t) rest Post := x_iinc0 hd rfl hv (Nat.le_of_ble_eq_true hn) h1 k
theorem x_lstore_12 {M : MI} {G : WG} {r : Nat × Nat × Nat} {S : Shp} {I : IM} {L : LM} {pc : Nat} {rest : List Value} {Post : PostT} {a0 a1 a2 a3 a4 a5 a6 a7 a8 a9 a10 a11 t0 : Value} {t : List Value} {t1 : Value} {x : Int64} (hd : decode (mcc M) pc = .ok (.lstore 12, 2)) (hn : Nat.ble 14 (mnl M) = true) (h1 : cat1at (a0 :: a1 :: a2 :: a3 :: a4 :: a5 :: a6 :: a7 :: a8 :: a9 :: a10 :: a11 :: t0 :: t1 :: t) 12 = true) (k : X M G r S I L (pc + 2) (a0 :: a1 :: a2 :: a3 :: a4 :: a5 :: a6 :: a7 :: a8 :: a9 :: a10 :: a11 :: .long x :: .null :: t) rest Post) : X M G r S I L pc (a0 :: a1 :: a2 :: a3 :: a4 :: a5 :: a6 :: a7 :: a8 :: a9 :: a10 :: a11 :: t0 :: t1 :: t) (.long x :: rest) Post := x_lstore0 hd (show (12 : Nat) + 1 < _ by simp) (Nat.le_of_ble_eq_true hn) h1 k
theorem x_istore_13 {M : MI} {G : WG} {r : Nat × Nat × Nat} {S : Shp} {I : IM} {L : LM} {pc : Nat} {rest : List Value} {Post : PostT} {a0 a1 a2 a3 a4 a5 a6 a7 a8 a9 a10 a11 a12 t0 : Value} {t : List Value} {x : Int32} (hd : decode (mcc M) pc = .ok (.istore 13, 2)) (hn : Nat.ble 14 (mnl M) = true) (h1 : cat1at (a0 :: a1 :: a2 :: a3 :: a4 :: a5 :: a6 :: a7 :: a8 :: a9 :: a10 :: a11 :: a12 :: t0 :: t) 13 = true) (k : X M G r S I L (pc + 2) (a0 :: a1 :: a2 :: a3 :: a4 :: a5 :: a6 :: a7 :: a8 :: a9 :: a10 :: a11 :: a12 :: .int x :: t) rest Post) : X M G r S I L pc (a0 :: a1 :: a2 :: a3 :: a4 :: a5 :: a6 :: a7 :: a8 :: a9 :: a10 :: a11 :: a12 :: t0 :: t) (.int x :: rest) Post := x_istore0 hd (show (13 : Nat) < _ by simp) (Nat.le_of_ble_eq_true hn) h1 k
theorem x_astore_13 {M : MI} {G : WG} {r : Nat × Nat × Nat} {S : Shp} {I : IM} {L : LM} {pc : Nat} {rest : List Value} {Post : PostT} {a0 a1 a2 a3 a4 a5 a6 a7 a8 a9 a10 a11 a12 t0 : Value} {t : List Value} {x : Nat} (hd : decode (mcc M) pc = .ok (.astore 13, 2)) (hn : Nat.ble 14 (mnl M) = true) (h1 : cat1at (a0 :: a1 :: a2 :: a3 :: a4 :: a5 :: a6 :: a7 :: a8 :: a9 :: a10 :: a11 :: a12 :: t0 :: t) 13 = true) (k : X M G r S I L (pc + 2) (a0 :: a1 :: a2 :: a3 :: a4 :: a5 :: a6 :: a7 :: a8 :: a9 :: a10 :: a11 :: a12 :: .ref x :: t) rest Post) : X M G r S I L pc (a0 :: a1 :: a2 :: a3 :: a4 :: a5 :: a6 :: a7 :: a8 :: a9 :: a10 :: a11 :: a12 :: t0 :: t) (.ref x :: rest) Post := x_astore0 hd (show (13 : Nat) < _ by simp) (Nat.le_of_ble_eq_true hn) h1 k
theorem x_iinc_13 {M : MI} {G : WG} {r : Nat × Nat × Nat} {S : Shp} {I : IM} {L : LM} {pc : Nat} {rest : List Value} {Post : PostT} {a0 a1 a2 a3 a4 a5 a6 a7 a8 a9 a10 a11 a12 : Value} {t : List Value} {n : Int} {x v : Int32} (hd : decode (mcc M) pc = .ok (.iinc 13 n, 3)) (hv : x + Int32.ofInt n = v) (hn : Nat.ble 14 (mnl M) = true) (h1 : cat1at (a0 :: a1 :: a2 :: a3 :: a4 :: a5 :: a6 :: a7 :: a8 :: a9 :: a10 :: a11 :: a12 :: .int x :: t) 13 = true) (k : X M G r S I L (pc + 3) (a0 :: a1 :: a2 :: a3 :: a4 :: a5 :: a6 :: a7 :: a8 :: a9 :: a10 :: a11 :: a12 :: .int v :: t) rest Post) : X M G r S I L pc (a0 :: a1 :: a2 :: a3 :: a4 :: a5 :: a6 :: a7 :: a8 :: a9 :: a10 :: a11 :: a12 :: .int x :: t) rest Post := x_iinc0 hd rfl hv (Nat.le_of_ble_eq_true hn) h1 k
theorem x_lstore_13 {M : MI} {G : WG} {r : Nat × Nat × Nat} {S : Shp} {I : IM} {L : LM} {pc : Nat} {rest : List Value} {Post : PostT} {a0 a1 a2 a3 a4 a5 a6 a7 a8 a9 a10 a11 a12 t0 : Value} {t : List Value} {t1 : Value} {x : Int64} (hd : decode (mcc M) pc = .ok (.lstore 13, 2)) (hn : Nat.ble 15 (mnl M) = true) (h1 : cat1at (a0 :: a1 :: a2 :: a3 :: a4 :: a5 :: a6 :: a7 :: a8 :: a9 :: a10 :: a11 :: a12 :: t0 :: t1 :: t) 13 = true) (k : X M G r S I L (pc + 2) (a0 :: a1 :: a2 :: a3 :: a4 :: a5 :: a6 :: a7 :: a8 :: a9 :: a10 :: a11 :: a12 :: .long x :: .null :: t) rest Post) : X M G r S I L pc (a0 :: a1 :: a2 :: a3 :: a4 :: a5 :: a6 :: a7 :: a8 :: a9 :: a10 :: a11 :: a12 :: t0 :: t1 :: t) (.long x :: rest) Post := x_lstore0 hd (show (13 : Nat) + 1 < _ by simp) (Nat.le_of_ble_eq_true hn) h1 k
theorem x_istore_14 {M : MI} {G : WG} {r : Nat × Nat × Nat} {S : Shp} {I : IM} {L : LM} {pc : Nat} {rest : List Value} {Post : PostT} {a0 a1 a2 a3 a4 a5 a6 a7 a8 a9 a10 a11 a12 a13 t0 : Value} {t : List Value} {x : Int32} (hd : decode (mcc M) pc = .ok (.istore 14, 2)) (hn : Nat.ble 15 (mnl M) = true) (h1 : cat1at (a0 :: a1 :: a2 :: a3 :: a4 :: a5 :: a6 :: a7 :: a8 :: a9 :: a10 :: a11 :: a12 :: a13 :: t0 :: t) 14 = true) (k : X M G r S I L (pc + 2) (a0 :: a1 :: a2 :: a3 :: a4 :: a5 :: a6 :: a7 :: a8 :: a9 :: a10 :: a11 :: a12 :: a13 :: .int x :: t) rest Post) : X M G r S I L pc (a0 :: a1 :: a2 :: a3 :: a4 :: a5 :: a6 :: a7 :: a8 :: a9 :: a10 :: a11 :: a12 :: a13 :: t0 :: t) (.int x :: rest) Post := x_istore0 hd (show (14 : Nat) < _ by simp) (Nat.le_of_ble_eq_true hn) h1 k
theorem x_astore_14 {M : MI} {G : WG} {r : Nat × Nat × Nat} {S : Shp} {I : IM} {L : LM} {pc : Nat} {rest : List Value} {Post : PostT} {a0 a1 a2 a3 a4 a5 a6 a7 a8 a9 a10 a11 a12 a13 t0 : Value} {t : List Value} {x : Nat} (hd : decode (mcc M) pc = .ok (.astore 14, 2)) (hn : Nat.ble 15 (mnl M) = true) (h1 : cat1at (a0 :: a1 :: a2 :: a3 :: a4 :: a5 :: a6 :: a7 :: a8 :: a9 :: a10 :: a11 :: a12 :: a13 :: t0 :: t) 14 = true) (k : X M G r S I L (pc + 2) (a0 :: a1 :: a2 :: a3 :: a4 :: a5 :: a6 :: a7 :: a8 :: a9 :: a10 :: a11 :: a12 :: a13 :: .ref x :: t) rest Post) : X M G r S I L pc (a0 :: a1 :: a2 :: a3 :: a4 :: a5 :: a6 :: a7 :: a8 :: a9 :: a10 :: a11 :: a12 :: a13 :: t0 :: t) (.ref x :: rest) Post := x_astore0 hd (show (14 : Nat) < _ by simp) (Nat.le_of_ble_eq_true hn) h1 k
theorem x_iinc_14 {M : MI} {G : WG} {r : Nat × Nat × Nat} {S : Shp} {I : IM} {L : LM} {pc : Nat} {rest : List Value} {Post : PostT} {a0 a1 a2 a3 a4 a5 a6 a7 a8 a9 a10 a11 a12 a13 : Value} {t : List Value} {n : Int} {x v : Int32} (hd : decode (mcc M) pc = .ok (.iinc 14 n, 3)) (hv : x + Int32.ofInt n = v) (hn : Nat.ble 15 (mnl M) = true) (h1 : cat1at (a0 :: a1 :: a2 :: a3 :: a4 :: a5 :: a6 :: a7 :: a8 :: a9 :: a10 :: a11 :: a12 :: a13 :: .int x :: t) 14 = true) (k : X M G r S I L (pc + 3) (a0 :: a1 :: a2 :: a3 :: a4 :: a5 :: a6 :: a7 :: a8 :: a9 :: a10 :: a11 :: a12 :: a13 :: .int v :: t) rest Post) : X M G r S I L pc (a0 :: a1 :: a2 :: a3 :: a4 :: a5 :: a6 :: a7 :: a8 :: a9 :: a10 :: a11 :: a12 :: a13 :: .int x :: t) rest Post := x_iinc0 hd rfl hv (Nat.le_of_ble_eq_true hn) h1 k
theorem x_lstore_14 {M : MI} {G : WG} {r : Nat × Nat × Nat} {S : Shp} {I : IM} {L : LM} {pc : Nat} {rest : List Value} {Post : PostT} {a0 a1 a2 a3 a4 a5 a6 a7 a8 a9 a10 a11 a12 a13 t0 : Value} {t : List Value} {t1 : Value} {x : Int64} (hd : decode (mcc M) pc = .ok (.lstore 14, 2)) (hn : Nat.ble 16 (mnl M) = true) (h1 : cat1at (a0 :: a1 :: a2 :: a3 :: a4 :: a5 :: a6 :: a7 :: a8 :: a9 :: a10 :: a11 :: a12 :: a13 :: t0 :: t1 :: t) 14 = true) (k : X M G r S I L (pc + 2) (a0 :: a1 :: a2 :: a3 :: a4 :: a5 :: a6 :: a7 :: a8 :: a9 :: a10 :: a11 :: a12 :: a13 :: .long x :: .null :: t) rest Post) : X M G r S I L pc (a0 :: a1 :: a2 :: a3 :: a4 :: a5 :: a6 :: a7 :: a8 :: a9 :: a10 :: a11 :: a12 :: a13 :: t0 :: t1 :: t) (.long x :: rest) Post := x_lstore0 hd (show (14 : Nat) + 1 < _ by simp) (Nat.le_of_ble_eq_true hn) h1 k
end
section
/-! returns, fields, arrays -/
theorem x_ret {M : MI} {G : WG} {r : Nat × Nat × Nat} {S : Shp} {I : IM} {L : LM} {pc : Nat} {loc : List Value} {Post : PostT} {v : Option Value} (hR : RetI M pc v) (hp : Post v S I L) : X M G r S I L pc loc v.toList Post := by
  intro p l e R s m args below meth c Q B H locs cells slots ls hc hs hRp hS hL
  have h := B.2.2.2.2.1 v S I L H locs cells slots pc ls hp hR hRp hS (by omega) (by omega)
  have e : (v.map (vmap G)).toList = v.toList.map (vmap G) := by cases v <;> rfl
  rw [e] at h
  exact h
theorem x_ireturn {M : MI} {G : WG} {r : Nat × Nat × Nat} {S : Shp} {I : IM} {L : LM} {pc : Nat} {loc : List Value} {Post : PostT} {x : Int32} {ty : FieldType} (hd : decode (mcc M) pc = .ok (.ireturn, 1)) (hm : mret M = some ty) (hn : narrow ty (.int x) = .int x) (hp : Post (some (.int x)) S I L) : X M G r S I L pc loc [.int x] Post :=
  x_ret (v := some (.int x)) (Or.inl ⟨x, ty, rfl, hm, hn, hd⟩) hp
theorem x_lreturn {M : MI} {G : WG} {r : Nat × Nat × Nat} {S : Shp} {I : IM} {L : LM} {pc : Nat} {loc : List Value} {Post : PostT} {x : Int64} (hd : decode (mcc M) pc = .ok (.lreturn, 1)) (hm : mret M = some .long) (hp : Post (some (.long x)) S I L) : X M G r S I L pc loc [.long x] Post :=
  x_ret (v := some (.long x)) (Or.inr (Or.inl ⟨x, rfl, hm, hd⟩)) hp
theorem x_return {M : MI} {G : WG} {r : Nat × Nat × Nat} {S : Shp} {I : IM} {L : LM} {pc : Nat} {loc : List Value} {Post : PostT} (hd : decode (mcc M) pc = .ok (.return_, 1)) (hm : mret M = none) (hp : Post none S I L) : X M G r S I L pc loc [] Post :=
  x_ret (v := none) (Or.inr (Or.inr ⟨rfl, hm, hd⟩)) hp
def FLink (own : String) (idx ci j : Nat) : Prop := ∃ q : vw_C, vwCl[ci]? = some q ∧ j < q.2.2 ∧ Cond.fieldLink own idx (q.2.1 j).1 (q.2.1 j).2.1 (q.2.1 j).2.2.1 ∈ lwT
theorem fs_get {α : Type} (f : Nat → α) {n j : Nat} (h : j < n) : ((List.range n).map f)[j]? = some (f j) := by simp [h]
theorem fs_set {α : Type} (f g : Nat → α) {n j : Nat} (h : j < n) (ho : ∀ i, i ≠ j → g i = f i) : ((List.range n).map f).set j (g j) = (List.range n).map g := by
  apply List.ext_getElem?
  intro i
  by_cases hi : i = j
  · subst hi
    rw [List.getElem?_set_self (by simpa using h)]
    simp [h]
  · rw [List.getElem?_set_ne (fun q => hi q.symm)]
    simp only [List.getElem?_map, List.getElem?_range]
    by_cases h2 : i < n
    · simp [h2, ho i hi]
    · simp [h2]
theorem Rep.lt {G : WG} {S : Shp} {I : IM} {L : LM} {H : Heap} (h : Rep G S I L H) {k : Nat} (hk : Nat.ble (k + 1) (sn S) = true) : k < sn S ∧ adr G k = gb G + k := by
  have h1 : k < sn S := Nat.le_of_ble_eq_true hk
  exact ⟨h1, adr_o G (Nat.lt_trans h1 h.2.1)⟩
section FLD
variable {M : MI} {G : WG} {r : Nat × Nat × Nat} {S : Shp} {I : IM} {L : LM} {pc : Nat} {loc rest : List Value} {Post : PostT}
theorem x_get {ci j k idx : Nat} {v : Value} (hf : FLink (my M).cls idx ci j) (hk : kd S k = ci) (hn : Nat.ble (k + 1) (sn S) = true) (hv : fval G S I L ci k j = vmap G v) (hd : decode (mcc M) pc = .ok (.getfield idx, 3)) (kk : X M G r S I L (pc + 3) loc (v :: rest) Post) : X M G r S I L pc loc (.ref k :: rest) Post := by
  intro p l e R s m args below meth c Q B H locs cells slots ls hc hs hR hS hL
  obtain ⟨q, hq, hj, hw⟩ := hf
  obtain ⟨c1, c2, c3, c4, c5, c6⟩ := cls_ok ci q hq
  obtain ⟨hkn, ha⟩ := hR.lt hn
  have ee : (Value.ref k :: rest).map (vmap G) = .ref (gb G + k) :: rest.map (vmap G) := by
    show Value.ref (adr G k) :: _ = _
    rw [ha]
  rw [ee]
  exact va_get B.1.1 B.1.2.1 B.1.2.2.2.2.1 c1 B.1.2.2.2.1 B.2.2.1 hR.2.2 k (wsl_obj G S I L hkn hk c6) hq j hj (B.1.2.2.2.2.1 _ hw) (fun x hx => hx) (v := vmap G v) (by rw [fs_get _ (by rw [c4]; exact hj), hv]) hd (kk p l e R s m args below meth c Q B H locs cells slots ls hc hs hR hS hL)
theorem x_getI {ci j k idx : Nat} (hf : FLink (my M).cls idx ci j) (ht : ft ci j = 0) (hd : decode (mcc M) pc = .ok (.getfield idx, 3)) (hk : kd S k = ci) (hn : Nat.ble (k + 1) (sn S) = true) (kk : X M G r S I L (pc + 3) loc (.int (I k j) :: rest) Post) : X M G r S I L pc loc (.ref k :: rest) Post :=
  x_get hf hk hn (v := .int (I k j)) (by simp [fval, ht, vmap]) hd kk
theorem x_getJ {ci j k idx : Nat} (hf : FLink (my M).cls idx ci j) (ht : ft ci j = 1) (hd : decode (mcc M) pc = .ok (.getfield idx, 3)) (hk : kd S k = ci) (hn : Nat.ble (k + 1) (sn S) = true) (kk : X M G r S I L (pc + 3) loc (.long (L k j) :: rest) Post) : X M G r S I L pc loc (.ref k :: rest) Post :=
  x_get hf hk hn (v := .long (L k j)) (by simp [fval, ht, vmap]) hd kk
theorem x_getR {ci j k idx a : Nat} (hf : FLink (my M).cls idx ci j) (ht : ft ci j = 2) (hd : decode (mcc M) pc = .ok (.getfield idx, 3)) (hk : kd S k = ci) (hn : Nat.ble (k + 1) (sn S) = true) (hr : rr S k j = a + 1) (kk : X M G r S I L (pc + 3) loc (.ref a :: rest) Post) : X M G r S I L pc loc (.ref k :: rest) Post :=
  x_get hf hk hn (v := .ref a) (by simp [fval, ht, vmap, hr, rv]) hd kk
/-- a field written: the picture is another -/
theorem x_put {ci j k idx : Nat} {S' : Shp} {I' : IM} {L' : LM} {v : Value} (hf : FLink (my M).cls idx ci j) (hk : kd S k = ci) (hn : Nat.ble (k + 1) (sn S) = true) (hsn : sn S' = sn S) (hkd : kd S' = kd S)
    (ho : ∀ i, i ≠ k → rr S' i = rr S i ∧ I' i = I i ∧ L' i = L i) (hv : fval G S' I' L' ci k j = vmap G v) (hj0 : ∀ i, i ≠ j → fval G S' I' L' ci k i = fval G S I L ci k i) (hnr : narrow (tyF ci j) (vmap G v) = vmap G v) (hft : fits (tyF ci j) (vmap G v) = true)
    (hfi : ∀ q : vw_C, vwCl[ci]? = some q → (q.2.1 j).2.2.2 = false ∨ ((q.2.1 j).2.2.2 = true ∧ (my M).name = "<init>" ∧ (q.2.1 j).1 = (my M).cls))
    (hd : decode (mcc M) pc = .ok (.putfield idx, 3)) (kk : X M G r S' I' L' (pc + 3) loc rest Post) : X M G r S I L pc loc (v :: .ref k :: rest) Post := by
  intro p l e R s m args below meth c Q B H locs cells slots ls hc hs hR hS hL
  obtain ⟨q, hq, hj, hw⟩ := hf
  obtain ⟨c1, c2, c3, c4, c5, c6⟩ := cls_ok ci q hq
  obtain ⟨hkn, ha⟩ := hR.lt hn
  have ee : (v :: Value.ref k :: rest).map (vmap G) = vmap G v :: .ref (gb G + k) :: rest.map (vmap G) := by
    show vmap G v :: Value.ref (adr G k) :: _ = _
    rw [ha]
  rw [ee]
  have hset : (wsl G S I L).set k (gb G + k, .inr (ci, ((List.range (nf ci)).map (fval G S I L ci k)).set j (vmap G v))) = wsl G S' I' L' := by
    refine wsl_set G S I I' L L' S' hkn hsn _ ?_ (fun i hi => cellE_c G S S' I I' L L' (by rw [hkd]) (ho i hi).1 (ho i hi).2.1 (ho i hi).2.2)
    rw [cellE_o G S' I' L' (by rw [hkd]; exact hk) c6, ← hv, fs_set _ _ (by rw [c4]; exact hj) hj0]
  have kk' : ∀ (H1 : Heap) (locs1 : List Loc), H1.size = H.size → va_P (gD G) vwCl (wsl G S' I' L') H1 → va_S (AA G) s.heap H1 locs1 → W p l e R s m args below meth c H1 locs1 cells slots Q (F0 m (pc + 3) ls (rest.map (vmap G))) := fun H1 locs1 hz hP1 hS1 =>
    kk p l e R s m args below meth c Q B H1 locs1 cells slots ls hc hs ⟨by rw [hz, hsn]; exact hR.1, by rw [hsn]; exact hR.2.1, hP1⟩ hS1 hL
  have hN : narrow (tyF ci j) (vmap G v) = vmap G v := hnr
  have hhe := wsl_obj G S I L hkn hk c6
  have hD := wsl_D G S I L
  have hl : j < ((List.range (nf ci)).map (fval G S I L ci k)).length := by simp [c4]; exact hj
  have hap := va_apart (own := (my M).cls) B.1.2.2.2.2.1 c1 (tyF ci) c3 c2 B.2.2.1 hq
  obtain ⟨r0, h1, cell, q1, q2, q3, q4⟩ := hR.2.2 k _ hhe
  have hr : q = r0 := Option.some.inj (hq.symm.trans h1)
  subst hr
  obtain ⟨hS1, hfc, kC, hkC, hkind⟩ := B.2.2.1.1 ci _ hq
  obtain ⟨cf, kf, fi, f, hi, hsl⟩ := hS1 j hj
  have hlay := B.1.2.2.2.2.1 _ (c1 _ (u_in_lay hj))
  have hst := (u_facts hfc hkC (u_lays B.1.2.2.2.2.1 c1 hj) hi).1
  have fin : ∀ H' : Heap, H'[gb G + k]? = some (cell.setSlot ((gD G).2 ci j) (vmap G v)) → H'.size = H.size → (∀ q, q ≠ gb G + k → H'[q]? = H[q]?) → W p l e R s m args below meth c H' (locs ++ [⟨gb G + k, (gD G).2 ci j⟩]) cells slots Q (F0 m (pc + 3) ls (rest.map (vmap G))) := by
    intro H' e1 e2 e3
    refine kk' H' _ e2 ?_ (hS.put e2 e3 (hD.2 k _ hhe))
    rw [← hset]
    exact hR.2.2.set hD hhe ⟨_, hq, t_OB.to (V := updV (vp_V ((List.range (nf ci)).map (fval G S I L ci k))) j (vmap G v)) ⟨_, e1, q2, q3, t_set q4 hap hj (vmap G v)⟩ (fun i _ => vp_updV_set hl (vmap G v) i)⟩ e3
  rcases hfi q hq with hfin | ⟨hfin, hin2, hdecl⟩
  · unfold u_lay at hlay
    rw [if_neg (by rw [hfin]; decide)] at hlay
    have h6 := u_store hfc hkC hkind hlay hi (c3 j hj) hN hft
    refine W.putK B.1.1 B.1.2.1 (f := f) ⟨B.1.2.2.2.1, B.1.2.2.2.2.1 _ hw, ⟨_, _, _, hi⟩, hst⟩ (by rw [q2]; exact h6) q1 q3 (by rw [hsl]; exact k2_hasslot (q4 j hj)) rfl rfl hd fun H' e1 e2 e3 => ?_
    rw [hsl] at e1 ⊢
    exact fin H' e1 e2 e3
  · unfold u_lay at hlay
    rw [if_pos hfin] at hlay
    have hcf : m.cls = cf := by
      obtain ⟨_, _, c', _, _, _, -, -, hf', -, -, -, hown2, -⟩ := Cond.laysFinal_spec hlay
      have e1 : c' = cf := by have := hi.symm.trans hf'; simp at this; exact this.1.symm
      rw [hdecl] at hown2
      rw [← e1]; exact Option.some.inj (B.1.2.2.2.1.symm.trans hown2)
    have h6 := u_fits hfc hkC hkind (Or.inr hlay) hi (c3 j hj) hN hft
    refine W.putFinK B.1.1 B.1.2.1 B.1.2.2.2.1 (B.1.2.2.2.2.1 _ hw) hi hst hcf (B.1.2.2.2.2.2.trans hin2) (by rw [q2]; exact h6) q1 q3 (by rw [hsl]; exact k2_hasslot (q4 j hj)) rfl rfl hd fun H' e1 e2 e3 => ?_
    rw [hsl] at e1 ⊢
    exact fin H' e1 e2 e3
theorem fval_c (G : WG) (S S' : Shp) (I I' : IM) (L L' : LM) (c k i : Nat) (h1 : rr S' k i = rr S k i) (h2 : I' k i = I k i) (h3 : L' k i = L k i) : fval G S' I' L' c k i = fval G S I L c k i := by
  simp [fval, h1, h2, h3]
def FinOk (M : MI) (ci j : Nat) : Bool := match vwCl[ci]? with
  | none => true
  | some q => !(q.2.1 j).2.2.2 || ((my M).name == "<init>" && (q.2.1 j).1 == (my M).cls)
theorem FinOk.use {M : MI} {ci j : Nat} (h : FinOk M ci j = true) : ∀ q : vw_C, vwCl[ci]? = some q → (q.2.1 j).2.2.2 = false ∨ ((q.2.1 j).2.2.2 = true ∧ (my M).name = "<init>" ∧ (q.2.1 j).1 = (my M).cls) := by
  intro q hq
  unfold FinOk at h
  rw [hq] at h
  by_cases hf : (q.2.1 j).2.2.2 = true
  · right
    simp [hf] at h
    exact ⟨hf, h.1, h.2⟩
  · left
    simpa using hf
theorem x_putI {ci j k idx : Nat} {x : Int32} (hf : FLink (my M).cls idx ci j) (ht : ft ci j = 0) (hd : decode (mcc M) pc = .ok (.putfield idx, 3)) (hfi : FinOk M ci j = true) (hk : kd S k = ci) (hn : Nat.ble (k + 1) (sn S) = true) (hnr : narrow (tyF ci j) (.int x) = .int x) (hft : fits (tyF ci j) (.int x) = true) (kk : X M G r S (up2 I k j x) L (pc + 3) loc rest Post) : X M G r S I L pc loc (.int x :: .ref k :: rest) Post :=
  x_put (I' := up2 I k j x) (S' := S) (L' := L) (v := .int x) hf hk hn rfl rfl (fun i hi => ⟨rfl, up2_n I j x hi, rfl⟩) (by simp [fval, ht, vmap, up2_s, up1]) (fun i hi => fval_c G S S I _ L L ci k i rfl (by rw [up2_s]; simp [up1, hi]) rfl) hnr hft (FinOk.use hfi) hd kk
theorem x_putJ {ci j k idx : Nat} {x : Int64} (hf : FLink (my M).cls idx ci j) (ht : ft ci j = 1) (hd : decode (mcc M) pc = .ok (.putfield idx, 3)) (hfi : FinOk M ci j = true) (hk : kd S k = ci) (hn : Nat.ble (k + 1) (sn S) = true) (hnr : narrow (tyF ci j) (.long x) = .long x) (hft : fits (tyF ci j) (.long x) = true) (kk : X M G r S I (up2 L k j x) (pc + 3) loc rest Post) : X M G r S I L pc loc (.long x :: .ref k :: rest) Post :=
  x_put (I' := I) (S' := S) (L' := up2 L k j x) (v := .long x) hf hk hn rfl rfl (fun i hi => ⟨rfl, rfl, up2_n L j x hi⟩) (by simp [fval, ht, vmap, up2_s, up1]) (fun i hi => fval_c G S S I I L _ ci k i rfl rfl (by rw [up2_s]; simp [up1, hi])) hnr hft (FinOk.use hfi) hd kk
theorem x_putR {ci j k idx a : Nat} {n : Nat} {kf : Nat → Nat} {rf : Nat → Nat → Nat} (hf : FLink (my M).cls idx ci j) (ht : ft ci j = 2) (hd : decode (mcc M) pc = .ok (.putfield idx, 3)) (hfi : FinOk M ci j = true) (hk : kf k = ci) (hn : Nat.ble (k + 1) n = true) (hnr : ∀ b, narrow (tyF ci j) (.ref b) = .ref b) (hft : ∀ b, fits (tyF ci j) (.ref b) = true) (kk : X M G r (n, kf, up2 rf k j (a + 1)) I L (pc + 3) loc rest Post) : X M G r (n, kf, rf) I L pc loc (.ref a :: .ref k :: rest) Post :=
  x_put (S := (n, kf, rf)) (I' := I) (S' := (n, kf, up2 rf k j (a + 1))) (L' := L) (v := .ref a) hf hk hn rfl rfl (fun i hi => ⟨up2_n rf j (a + 1) hi, rfl, rfl⟩) (by simp [fval, ht, vmap, rr, up2_s, up1, rv]) (fun i hi => fval_c G (n, kf, rf) _ I I L L ci k i (by simp [rr, up2_s, up1, hi]) rfl rfl) (hnr _) (hft _) (FinOk.use hfi) hd kk
/-! int arrays -/
theorem x_iald {k n : Nat} {i : Int32} (hd : decode (mcc M) pc = .ok (.iaload, 1)) (hk : kd S k = n + 100) (hn : Nat.ble (k + 1) (sn S) = true) (hi : vp_in i n) (kk : X M G r S I L (pc + 1) loc (.int (I k i.toNatClampNeg) :: rest) Post) : X M G r S I L pc loc (.int i :: .ref k :: rest) Post := by
  intro p l e R s m args below meth c Q B H locs cells slots ls hc hs hR hS hL
  obtain ⟨hkn, ha⟩ := hR.lt hn
  have ee : (Value.int i :: Value.ref k :: rest).map (vmap G) = .int i :: .ref (gb G + k) :: rest.map (vmap G) := by
    show Value.int i :: Value.ref (adr G k) :: _ = _
    rw [ha]
  rw [ee]
  exact va_iald B.1.1 B.1.2.1 B.2.2.1 hR.2.2 k 0 (wsl_arr G S I L hkn hk) rfl hi hd (kk p l e R s m args below meth c Q B H locs cells slots ls hc hs hR hS hL)
theorem x_iast {k n : Nat} {i x : Int32} (hd : decode (mcc M) pc = .ok (.iastore, 1)) (hk : kd S k = n + 100) (hn : Nat.ble (k + 1) (sn S) = true) (hi : vp_in i n) (kk : X M G r S (up2 I k i.toNatClampNeg x) L (pc + 1) loc rest Post) : X M G r S I L pc loc (.int x :: .int i :: .ref k :: rest) Post := by
  intro p l e R s m args below meth c Q B H locs cells slots ls hc hs hR hS hL
  obtain ⟨hkn, ha⟩ := hR.lt hn
  have ee : (Value.int x :: Value.int i :: Value.ref k :: rest).map (vmap G) = .int x :: .int i :: .ref (gb G + k) :: rest.map (vmap G) := by
    show Value.int x :: Value.int i :: Value.ref (adr G k) :: _ = _
    rw [ha]
  rw [ee]
  have hhe := wsl_arr G S I L hkn hk
  have hD := wsl_D G S I L
  have hset : (wsl G S I L).set k (gb G + k, .inl (gA G, (n, .inl (upd (I k) i.toNatClampNeg x)))) = wsl G S (up2 I k i.toNatClampNeg x) L := by
    refine wsl_set G S I _ L L S hkn rfl _ ?_ (fun j hj => cellE_c G S S I _ L L rfl rfl (up2_n I _ x hj) rfl)
    rw [cellE_a G S _ L hk, up2_s, up1_upd]
  refine W.iast B.1.1 B.1.2.1 (hR.2.2 k _ hhe) ((B.2.2.1.2 0 _ rfl).1 n (fun j => .int (I k j))) (fun q => by cases q) (by show ¬ (i < 0 ∨ (arrV _ _ _).slots.size ≤ _); rw [arrV_size]; exact hi) rfl rfl hd fun H1 e1 z oq => ?_
  refine kk p l e R s m args below meth c Q B H1 _ cells slots ls hc hs ⟨by rw [z]; exact hR.1, hR.2.1, ?_⟩ (hS.put z oq (hD.2 k _ hhe)) hL
  rw [← hset]
  refine hR.2.2.set hD hhe ?_ oq
  show H1[gb G + k]? = some (vp_cell _ _)
  rw [e1]
  rw [vp_cell_i, vp_cell_i, arrV_store]
  congr 2
  funext j
  simp only [updV, upd]
  split <;> rfl
theorem x_alen {k n : Nat} {v : Int32} (hd : decode (mcc M) pc = .ok (.arraylength, 1)) (hk : kd S k = n + 100) (hn : Nat.ble (k + 1) (sn S) = true) (hv : Int32.ofNat n = v) (kk : X M G r S I L (pc + 1) loc (.int v :: rest) Post) : X M G r S I L pc loc (.ref k :: rest) Post := by
  intro p l e R s m args below meth c Q B H locs cells slots ls hc hs hR hS hL
  obtain ⟨hkn, ha⟩ := hR.lt hn
  have ee : (Value.ref k :: rest).map (vmap G) = .ref (gb G + k) :: rest.map (vmap G) := by
    show Value.ref (adr G k) :: _ = _
    rw [ha]
  rw [ee]
  exact va_alen B.1.1 B.1.2.1 B.2.2.1 hR.2.2 k 0 (wsl_arr G S I L hkn hk) rfl hv hd (kk p l e R s m args below meth c Q B H locs cells slots ls hc hs hR hS hL)
/-! new cells -/
theorem x_newarr {N : Nat} {n : Nat} {kf : Nat → Nat} {rf : Nat → Nat → Nat} {d rc rs : Nat} {i : Int32} (hd : decode (mcc M) pc = .ok (.newarray .int, 2)) (hi : i = Int32.ofNat N) (hN : N ≤ 100000) (hn : n + 1 < 1000000)
    (kk : X M G (d, rc, rs) (n + 1, up1 kf n (N + 100), rf) (upr I n (fun _ => 0)) L (pc + 2) loc (.ref n :: rest) Post) : X M G (d, rc + 1, rs + N) (n, kf, rf) I L pc loc (.int i :: rest) Post := by
  intro p l e R s m args below meth c Q B H locs cells slots ls hc hs hR hS hL
  subst hi
  dsimp only at hc hs
  have hNn : (Int32.ofNat N).toNatClampNeg = N := nI_clamp (n := N) (by omega)
  refine va_newaK B.1.1 B.1.2.1 (atype := .int) (B.1.2.2.2.2.1 _ (lwT_of (List.mem_of_getElem? (i := arrIntAt) (by decide +kernel)) rfl)) (g := F0 m pc ls ((Value.int (Int32.ofNat N) :: rest).map (vmap G))) rfl hd rfl (nI_pos (n := N) (by omega)) hNn (by show N * 4 ≤ 536870912; omega) (by omega) (by omega) rfl fun H1 cA e1 z1 o1 hAr hNm => ?_
  have hcA : cA = gA G := by
    have h1 := (B.2.2.1.2 0 _ rfl).2
    have h2 : s.vm.findClass ("[" ++ (FieldType.int).toString) = some (gA G) := h1
    exact Option.some.inj (hNm.symm.trans h2)
  subst hcA
  have hsz : H.size = gb G + n := hR.1
  have e2 : (Value.ref n :: rest).map (vmap G) = .ref H.size :: rest.map (vmap G) := by
    show Value.ref (adr G n) :: _ = _
    rw [adr_o G (by omega), hsz]
  have K := kk p l e R s m args below meth c Q B H1 locs (cells + 1) (slots + N) ls (by dsimp only; omega) (by dsimp only; omega) ⟨by rw [z1, hsz]; rfl, hn, ?_⟩ ⟨Nat.le_trans hS.1 (by omega), fun x h1 h2 => (o1 x (Nat.lt_of_lt_of_le h1 hS.1)).trans (hS.2.1 x h1 h2), hS.2.2⟩ hL
  · rw [e2] at K
    exact K
  · rw [← wsl_push G (n, kf, rf) (n + 1, up1 kf n (N + 100), rf) I (upr I n (fun _ => 0)) L L rfl (.inl (gA G, (N, .inl (fun _ => 0)))) ?_ ?_]
    · refine (hR.2.2.kept (fun k x hx => o1 x.1 ((hR.2.2 k x hx).lt))).app (fun k x hx => ?_)
      have hz : k < 1 := (List.getElem?_eq_some_iff.mp hx).1
      rw [show k = 0 by omega] at hx
      cases hx
      show H1[gb G + n]? = some (vp_cell _ _)
      rw [vp_cell_i, ← hsz]
      exact e1
    · rw [cellE_a G _ _ L (n := N) (by simp [kd, sn, up1])]
      rw [show upr I n (fun _ => (0 : Int32)) (sn (n, kf, rf)) = fun _ => 0 from upr_s I n _]
    · intro j hj
      have hj' : j < n := hj
      exact cellE_c G _ _ I _ L L (by simp [kd, up1]; omega) rfl (upr_n I _ (by omega)) rfl
theorem x_new {ci n idx : Nat} {kf : Nat → Nat} {rf : Nat → Nat → Nat} {d rc rs : Nat} {q : vw_C} (hd : decode (mcc M) pc = .ok (.new idx, 3)) (hq : vwCl[ci]? = some q) (hw1 : Cond.classLink (my M).cls idx q.1 ∈ lwT) (hw2 : Cond.instantiable q.1 q.2.2 ∈ lwT) (hw3 : Cond.initialized q.1 ∈ lwT) (hn : n + 1 < 1000000)
    (kk : X M G (d, rc, rs) (n + 1, up1 kf n ci, upr rf n (fun _ => 0)) (upr I n (fun _ => 0)) (upr L n (fun _ => 0)) (pc + 3) loc (.ref n :: rest) Post) : X M G (d, rc + 1, rs + q.2.2) (n, kf, rf) I L pc loc rest Post := by
  intro p l e R s m args below meth c Q B H locs cells slots ls hc hs hR hS hL
  dsimp only at hc hs
  obtain ⟨c1, c2, c3, c4, c5, c6⟩ := cls_ok ci q hq
  have hKn := B.2.2.1.1 ci _ hq
  have hsz : H.size = gb G + n := hR.1
  refine W.newcK B.1.1 B.1.2.1 B.1.2.2.2.1 (B.1.2.2.2.2.1 _ hw1) (B.1.2.2.2.2.1 _ hw2) (B.1.2.2.2.2.1 _ hw3) rfl hd (by omega) (by omega) hKn.2.1 rfl fun H1 kC hkC e1 z1 o1 => ?_
  have e2 : (Value.ref n :: rest).map (vmap G) = .ref H.size :: rest.map (vmap G) := by
    show Value.ref (adr G n) :: _ = _
    rw [adr_o G (by omega), hsz]
  have K := kk p l e R s m args below meth c Q B H1 locs (cells + 1) (slots + q.2.2) ls (by dsimp only; omega) (by dsimp only; omega) ⟨by rw [z1, hsz]; rfl, hn, ?_⟩ ⟨Nat.le_trans hS.1 (by omega), fun x h1 h2 => (o1 x (Nat.lt_of_lt_of_le h1 hS.1)).trans (hS.2.1 x h1 h2), hS.2.2⟩ hL
  · rw [e2] at K
    exact K
  · rw [← wsl_push G (n, kf, rf) (n + 1, up1 kf n ci, upr rf n (fun _ => 0)) I (upr I n (fun _ => 0)) L (upr L n (fun _ => 0)) rfl (.inr (ci, (List.range (nf ci)).map (fun j => defaultValue (tyF ci j)))) ?_ ?_]
    · refine (hR.2.2.kept (fun k x hx => o1 x.1 ((hR.2.2 k x hx).lt))).app (fun k x hx => ?_)
      have hz : k < 1 := (List.getElem?_eq_some_iff.mp hx).1
      rw [show k = 0 by omega] at hx
      cases hx
      refine ⟨q, hq, ?_⟩
      have hb := u_born (tyF ci) B.1.2.2.2.2.1 c1 hKn hkC e1 c3
      rw [hsz] at hb
      refine hb.to fun j hj => ?_
      have hj2 : j < nf ci := by rw [c4]; exact hj
      simp [vp_V, hj2]
    · rw [cellE_o G _ _ _ (c := ci) (by simp [kd, sn, up1]) c6]
      congr 2
      refine List.map_congr_left fun j hj => ?_
      have hj' : j < q.2.2 := by rw [← c4]; exact List.mem_range.mp hj
      rcases c5 j hj' with ⟨h1, h2⟩ | ⟨h1, h2⟩ | ⟨h1, h2⟩
      · simp only [fval, h1, sn, upr_s]
        rcases h2 with h2 | h2 <;> rw [h2] <;> rfl
      · simp only [fval, h1, sn, upr_s, h2]
        rfl
      · simp only [fval, h1, sn, rr, upr_s, rv]
        cases hty : tyF ci j <;> rw [hty] at h2 <;> first | rfl | (cases h2)
    · intro j hj
      have hj' : j < n := hj
      exact cellE_c G _ _ I _ L _ (by simp [kd, up1]; omega) (upr_n rf _ (by omega)) (upr_n I _ (by omega)) (upr_n L _ (by omega))
end FLD
end
section
/-! contracts and calls -/
abbrev SpT : Type := List Value → Shp → IM → LM → PostT → Prop
def rmO (d mc ms : Nat) : Room := { frames := d, cells := mc, slots := ms, locals := 500 * d }
def ATC (G : WG) (S : Shp) (I : IM) (L : LM) (U : State) : Prop := Rep G S I L U.heap ∧ FF G U ∧ va_K (gD G) vwCl [(gA G, .int)] U
def PP (G : WG) (as : List Value) (S : Shp) (I : IM) (L : LM) : Array Value → State → Prop := fun a U => a = (as.map (vmap G)).toArray ∧ ATC G S I L U
def QQ (G : WG) (Post : PostT) : Array Value → State → Outcome → State → Prop := fun _ st o t =>
  ∃ (v : Option Value) (S : Shp) (I : IM) (L : LM), o = .returned (v.map (vmap G)) ∧ Post v S I L ∧ Rep G S I L t.heap ∧ va_F (AA G) st t
def mws (M : MI) : List Cond := Cond.code (my M) (mcc M) (mnl M) (mret M) :: lwT
/-- the contract of a method: depth, new cells, their slots -/
def Con (M : MI) (d mc ms : Nat) (Sp : SpT) : Prop := ∀ (G : WG) (l : Launch) (as : List Value) (S : Shp) (I : IM) (L : LM) (Post : PostT), Sp as S I L Post → Met l (my M) (mws M) (rmO d mc ms) (PP G as S I L) (QQ G Post) mc ms (AA G)
def lz (i : Nat) (loc : List Value) : List (Nat × Value) := match loc with
  | [] => []
  | .null :: t => lz (i + 1) t
  | v :: t => (i, v) :: lz (i + 1) t
def ent (as : List Value) : List Value := match as with
  | [] => []
  | .long x :: t => .long x :: .null :: ent t
  | .double x :: t => .double x :: .null :: ent t
  | v :: t => v :: ent t
theorem ent_args (G : WG) : ∀ (as : List Value) (i j : Nat) (v : Value), (ent as)[j]? = some v → v ≠ .null → (i + j, vmap G v) ∈ lv_args i (as.map (vmap G)) := by
  intro as
  induction as with
  | nil => intro i j v h; simp [ent] at h
  | cons a t ih =>
    intro i j v h hv
    cases a with
    | long x =>
      match j, h with
      | 0, h => cases h; exact List.mem_cons_self
      | 1, h => cases h; exact absurd rfl hv
      | j + 2, h =>
        have h2 := ih (i + 2) j v h hv
        rw [show i + (j + 2) = i + 2 + j by omega]
        exact List.mem_cons_of_mem _ h2
    | double x =>
      match j, h with
      | 0, h => cases h; exact List.mem_cons_self
      | 1, h => cases h; exact absurd rfl hv
      | j + 2, h =>
        have h2 := ih (i + 2) j v h hv
        rw [show i + (j + 2) = i + 2 + j by omega]
        exact List.mem_cons_of_mem _ h2
    | _ =>
      match j, h with
      | 0, h => cases h; exact List.mem_cons_self
      | j + 1, h =>
        have h2 := ih (i + 1) j v h hv
        rw [show i + (j + 1) = i + 1 + j by omega]
        exact List.mem_cons_of_mem _ h2
theorem ent_len (G : WG) : ∀ as : List Value, (lg_sl (as.map (vmap G))).length = (ent as).length := by
  intro as
  induction as with
  | nil => rfl
  | cons a t ih =>
    have h1 : (lg_sl ((a :: t).map (vmap G))).length = (if a.category = 2 then 2 else 1) + (lg_sl (t.map (vmap G))).length := by
      simp only [lg_sl, List.map_cons, List.flatMap_cons, List.length_append, vcat]
      split <;> simp
    rw [h1, ih]
    cases a <;> simp [ent, Value.category] <;> omega
theorem con_of_X {M : MI} {d mc ms : Nat} {Sp : SpT} (hpl : plainName (my M).cls = true)
    (h : ∀ (G : WG) (as : List Value) (S : Shp) (I : IM) (L : LM) (Post : PostT), Sp as S I L Post → ∃ k, (ent as).length ≤ mnl M ∧ X M G (d, mc, ms) S I L 0 (ent as ++ List.replicate k .null) [] Post) : Con M d mc ms Sp := by
  intro G l as S I L Post hSp
  obtain ⟨k, hlen, hX⟩ := h G as S I L Post hSp
  refine Met.ofW (cc := mcc M) (maxL := mnl M) (ret := mret M) hpl rfl ?_
  intro p e s m args below meth c s₁ B hml hv
  obtain ⟨rfl, hRp, hFF, hK⟩ := hv
  have hts : ∀ w ∈ lwT, w.before _ s = true := fun w hw => atoms_spec (ws := mws M) B.pre w (List.mem_cons_of_mem _ hw)
  have hl := lv_entry (as.map (vmap G)) (n := mnl M) (by rw [ent_len]; exact hlen)
  rw [lg_entry_eq]
  generalize (lg_sl (as.map (vmap G)) ++ List.replicate (mnl M - (lg_sl (as.map (vmap G))).length) Slot.unset).toArray = ls at hl ⊢
  refine hX p l e _ s m _ below meth c _ ⟨⟨B.exec, B.bytes, hml, findClass_of_methodNamed B.named, hts, (name_of_methodNamed B.named B.method).1⟩, hFF, hK, by rw [hRp.1]; exact Nat.le_add_right _ _, ?_, Nat.le_refl _, Nat.le_refl _⟩ s.heap [] 0 0 ls (by show 0 + mc ≤ mc; omega) (by show 0 + ms ≤ ms; omega) hRp va_S.rf ⟨hl.1, hl.2.1, fun j v hj hv => ?_⟩
  · intro v S' I' L' H locs cells slots pc ls' hp hRet hR' hS' hc hs
    refine W.widen (k := mc) (n := ms) hc hs ?_
    have hq : ∀ t : State, t.heap = H → QQ G Post (as.map (vmap G)).toArray s (.returned (v.map (vmap G))) t := fun t ht => ⟨v, S', I', L', rfl, hp, by rw [ht]; exact hR', hS'.F ht⟩
    rcases hRet with ⟨x, ty, rfl, hm, hn, hd⟩ | ⟨x, rfl, hm, hd⟩ | ⟨rfl, hm, hd⟩
    · exact W.zret B.exec B.bytes (B.returns.trans hm) hn (fun t ht _ => hq t ht) hS'.2.2 hd B.notSynchronized
    · exact W.lret B.exec B.bytes (B.returns.trans hm) (fun t ht _ => hq t ht) hS'.2.2 hd B.notSynchronized
    · exact W.vret B.exec B.bytes (B.returns.trans hm) (fun t ht _ => hq t ht) hS'.2.2 hd B.notSynchronized
  · have hj2 : (ent as)[j]? = some v := by
      by_cases h1 : j < (ent as).length
      · rwa [List.getElem?_append_left h1] at hj
      · rw [List.getElem?_append_right (by omega), List.getElem?_replicate] at hj
        split at hj
        · exact absurd (Option.some.inj hj).symm hv
        · cases hj
    have h2 := ent_args G as 0 j v hj2 hv
    rw [Nat.zero_add] at h2
    exact hl.2.2 _ h2
theorem good_tbl : ∀ w ∈ lwT, ((w.onTables && w.keeps) = true ∨ ∃ ty, w = .arrayClass ty) := fun w hw => good_of_word (List.mem_filter.mp hw).2
theorem good_in {ws : List Cond} (h : ∀ w ∈ ws, w ∈ lwT) : GoodIn lwT ws := fun w hw => ⟨h w hw, good_tbl w (h w hw)⟩
theorem mws_in {M : MI} (h : Cond.code (my M) (mcc M) (mnl M) (mret M) ∈ lwT) : ∀ w ∈ mws M, w ∈ lwT := by
  intro w hw
  rcases List.mem_cons.mp hw with rfl | hw
  · exact h
  · exact hw
/-- what a call of M needs of the tables: n parameters -/
def MOk (M : MI) (n : Nat) : Prop := Cond.code (my M) (mcc M) (mnl M) (mret M) ∈ lwT ∧ Cond.initialized (my M).cls ∈ lwT ∧ ((my M).cls ≠ "java/lang/invoke/MethodHandle" ∧ (my M).cls ≠ "java/lang/invoke/VarHandle" ∧ (parseMethodDescriptor (my M).desc).map (fun d => d.parameters.length) = some n) ∧ mnl M ≤ 400
def VOk (M : MI) (n : Nat) : Prop := MOk M n ∧ Cond.instanceMethod (my M) ∈ lwT ∧ Cond.selects (my M).cls (my M) (my M) ∈ lwT
def IOk (M : MI) (n : Nat) : Prop := MOk M n ∧ Cond.instanceMethod (my M) ∈ lwT ∧ (my M).name = "<init>"
def SOk (M : MI) (n : Nat) : Prop := MOk M n ∧ Cond.static (my M) ∈ lwT
theorem PP.blind {G : WG} {as : List Value} {S : Shp} {I : IM} {L : LM} : FrameBlind (PP G as S I L) := fun a U g mk q =>
  ⟨q.1, q.2.1, q.2.2.1.blind g mk a, va_K.moved (u := U) (U := U.calling g mk a) (Vm.Alike.refl U.vm) q.2.2.2⟩
theorem cat_map (G : WG) (st : List Value) : ((st.map (vmap G)).map fun v => v.category) = st.map fun v => v.category := by
  rw [List.map_map]
  exact List.map_congr_left fun v _ => vcat G v
theorem x_back {M : MI} {G : WG} {d rc rs mc ms : Nat} {pc : Nat} {loc rest : List Value} {st : List Value} {Post : PostT} {p : Program} {l : Launch} {e : Env} {R : Room} {s : State} {m : MethodId} {args : Array Value} {below : List Frame} {meth : Method} {c : Code} {Q : State → Prop} {H : Heap} {locs : List Loc} {cells slots : Nat} {ls : Array Slot}
    (B : BX M G d Post p l e R s m args below meth c Q) (hc : cells + (rc + mc) ≤ R.cells) (hs : slots + (rs + ms) ≤ R.slots) (hS : va_S (AA G) s.heap H locs) (hL : LH G ls (mnl M) loc) {a : Array Value}
    (hr : va_Run p l e R s m args below meth c H locs cells slots mc ms (F0 m pc ls st) (rest.map (vmap G)) (QQ G (fun v S' I' L' => X M G (d, rc, rs) S' I' L' (pc + 3) loc (v.toList ++ rest) Post) a) (AA G)) :
    W p l e R s m args below meth c H locs cells slots Q (F0 m pc ls st) := by
  intro T hT X0
  obtain ⟨v, st₀, t, T', Lc, h0, X', hLc, e1, e2, ⟨v', S', I', L', hv, hp, hRp, hz, hk⟩, hst⟩ := hr T hT X0
  have hv' : v = v'.map (vmap G) := by cases hv; rfl
  subst hv'
  rw [h0] at hz hk
  obtain ⟨t2, a1, b1⟩ := hp p l e R s m args below meth c Q B T'.heap (locs ++ Lc) (cells + mc) (slots + ms) ls (by dsimp only; omega) (by dsimp only; omega) (by rw [e1]; exact hRp)
    ⟨Nat.le_trans hS.1 (by rw [e1]; exact hz), fun q h1 h2 => by rw [e1, hk q (Nat.lt_of_lt_of_le h1 hS.1) h2]; exact hS.2.1 q h1 h2, fun q hq => by
      rcases List.mem_append.mp hq with h | h
      · exact hS.2.2 q h
      · exact hLc q h⟩ hL T' rfl X'
  refine ⟨t2, hst t2 ?_, b1⟩
  have ee : (v'.toList ++ rest).map (vmap G) = (v'.map (vmap G)).toList ++ rest.map (vmap G) := by cases v' <;> rfl
  rw [ee] at a1
  exact a1
theorem x_pre {M : MI} {G : WG} {d : Nat} {S : Shp} {I : IM} {L : LM} {As : List Value} {Post : PostT} {p : Program} {l : Launch} {e : Env} {R : Room} {s : State} {m : MethodId} {args : Array Value} {below : List Frame} {meth : Method} {c : Code} {Q : State → Prop} {H : Heap} {locs : List Loc}
    (B : BX M G d Post p l e R s m args below meth c Q) (hR : Rep G S I L H) (hS : va_S (AA G) s.heap H locs) : ∀ U : State, U.heap = H → s.WarmedH U.vm → PP G As S I L (As.map (vmap G)).toArray U :=
  fun U hU hW => ⟨rfl, by rw [hU]; exact hR, B.2.1.go hW hU hS.1 hS.2.1, va_K.moved hW.alike B.2.2.1⟩
section CALLS
variable {M M2 : MI} {G : WG} {d rc rs mc ms d2 : Nat} {S : Shp} {I : IM} {L : LM} {pc : Nat} {loc rest As : List Value} {Post : PostT} {Sp : SpT} {n idx : Nat}
theorem x_callV {k ci : Nat} {st : List Value} (hM : Con M2 d2 mc ms Sp) (ho : VOk M2 n) (hl : Cond.methodLink (my M).cls idx (my M2) ∈ lwT) (hd : decode (mcc M) pc = .ok (.invokevirtual idx, 3)) (hdd : Nat.ble (d2 + 1) d = true) (hst : st = As.reverse ++ .ref k :: rest) (hn : As.length = n) (hk : kd S k = ci) (hkn : Nat.ble (k + 1) (sn S) = true) (hci : (vwCl[ci]?).map (fun q => q.1) = some (my M2).cls) (hrest : Nat.ble (rest.map Value.category).sum 8 = true)
    (hSp : Sp (.ref k :: As) S I L (fun v S' I' L' => X M G (d, rc, rs) S' I' L' (pc + 3) loc (v.toList ++ rest) Post)) : X M G (d, rc + mc, rs + ms) S I L pc loc st Post := by
  intro p l e R s m args below meth c Q B H locs cells slots ls hc hs hR hS hL
  subst hst
  obtain ⟨⟨o1, o2, o3, o4⟩, o5, o6⟩ := ho
  have hdd' : d2 + 1 ≤ d := Nat.le_of_ble_eq_true hdd
  obtain ⟨hkn', ha⟩ := hR.lt hkn
  have hf1 : d ≤ R.frames := B.2.2.2.2.2.1
  have hf2 : 500 * d ≤ R.locals := B.2.2.2.2.2.2
  dsimp only at hc hs
  cases hq : vwCl[ci]? with
  | none => rw [hq] at hci; cases hci
  | some q =>
    rw [hq] at hci
    have hqc : q.1 = (my M2).cls := Option.some.inj hci
    obtain ⟨-, -, -, -, -, c6⟩ := cls_ok ci q hq
    have hrecv := va_recv B.2.2.1 hR.2.2 hq (wsl_obj G S I L hkn' hk c6)
    rw [hqc] at hrecv
    have e0 : (As.reverse ++ Value.ref k :: rest).map (vmap G) = (As.map (vmap G)).reverse ++ .ref (gb G + k) :: rest.map (vmap G) := by
      rw [List.map_append, List.map_reverse, List.map_cons]
      show _ ++ Value.ref (adr G k) :: _ = _
      rw [ha]
    have hpre := x_pre (As := .ref k :: As) B hR hS
    have e1 : ((Value.ref k :: As).map (vmap G)) = .ref (gb G + k) :: As.map (vmap G) := by
      show Value.ref (adr G k) :: _ = _
      rw [ha]
    rw [e1] at hpre
    rw [e0]
    refine x_back B (by omega) (by omega) hS hL (va_runV (nL := mnl M) (As := As.map (vmap G)) (rest := rest.map (vmap G)) (n := n) (Ts := lwT) (own := (my M).cls) (C := (my M2).cls) ⟨B.1.1, B.1.2.1, B.1.2.2.1, B.1.2.2.2.1, B.1.2.2.2.2.1⟩ (hM G l _ S I L _ hSp) (cwV n B.1.2.2.2.2.1 (good_in ?_) rfl rfl rfl ⟨rfl, o3⟩ ⟨by show d2 + 1 ≤ R.frames; omega, by show 8 + (mnl M2 + 11) + 500 * d2 ≤ R.locals; omega⟩) ⟨PP.blind, hrecv, hpre⟩ rfl (by rw [List.length_map]; exact hn) hL.1 rfl ?_ hd ⟨by omega, by omega⟩)
    · intro w hw
      rcases List.mem_append.mp hw with hw | hw
      · simp only [List.mem_cons, List.not_mem_nil, or_false] at hw
        rcases hw with rfl | rfl | rfl | rfl
        · exact hl
        · exact o5
        · exact o6
        · exact o2
      · exact mws_in o1 w hw
    · rw [cat_map]
      exact lv_room (pc := pc) (ls := ls) (m := m) (Nat.le_of_ble_eq_true hrest)
theorem x_callVN {k ci : Nat} {st : List Value} (hM : Con M2 d2 mc ms Sp) (ho : VOk M2 n) {host : String} (hl : ((my M).cls, idx, my M2, host) ∈ nwM) (hd : decode (mcc M) pc = .ok (.invokevirtual idx, 3)) (hdd : Nat.ble (d2 + 1) d = true) (hst : st = As.reverse ++ .ref k :: rest) (hn : As.length = n) (hk : kd S k = ci) (hkn : Nat.ble (k + 1) (sn S) = true) (hci : (vwCl[ci]?).map (fun q => q.1) = some (my M2).cls) (hrest : Nat.ble (rest.map Value.category).sum 8 = true)
    (hSp : Sp (.ref k :: As) S I L (fun v S' I' L' => X M G (d, rc, rs) S' I' L' (pc + 3) loc (v.toList ++ rest) Post)) : X M G (d, rc + mc, rs + ms) S I L pc loc st Post := by
  intro p l e R s m args below meth c Q B H locs cells slots ls hc hs hR hS hL
  subst hst
  obtain ⟨⟨o1, o2, o3, o4⟩, o5, o6⟩ := ho
  have hdd' : d2 + 1 ≤ d := Nat.le_of_ble_eq_true hdd
  obtain ⟨hkn', ha⟩ := hR.lt hkn
  have hf1 : d ≤ R.frames := B.2.2.2.2.2.1
  have hf2 : 500 * d ≤ R.locals := B.2.2.2.2.2.2
  dsimp only at hc hs
  cases hq : vwCl[ci]? with
  | none => rw [hq] at hci; cases hci
  | some q =>
    rw [hq] at hci
    have hqc : q.1 = (my M2).cls := Option.some.inj hci
    obtain ⟨-, -, -, -, -, c6⟩ := cls_ok ci q hq
    have hrecv := va_recv B.2.2.1 hR.2.2 hq (wsl_obj G S I L hkn' hk c6)
    rw [hqc] at hrecv
    have e0 : (As.reverse ++ Value.ref k :: rest).map (vmap G) = (As.map (vmap G)).reverse ++ .ref (gb G + k) :: rest.map (vmap G) := by
      rw [List.map_append, List.map_reverse, List.map_cons]
      show _ ++ Value.ref (adr G k) :: _ = _
      rw [ha]
    have hpre := x_pre (As := .ref k :: As) B hR hS
    have e1 : ((Value.ref k :: As).map (vmap G)) = .ref (gb G + k) :: As.map (vmap G) := by
      show Value.ref (adr G k) :: _ = _
      rw [ha]
    rw [e1] at hpre
    rw [e0]
    refine x_back B (by omega) (by omega) hS hL (va_runVN (nL := mnl M) (As := As.map (vmap G)) (rest := rest.map (vmap G)) (n := n) (Ts := lwT) (own := (my M).cls) (C := (my M2).cls) ⟨B.1.1, B.1.2.1, B.1.2.2.1, B.1.2.2.2.1, B.1.2.2.2.2.1⟩ (hM G l _ S I L _ hSp) ⟨va_cnB n B.1.2.2.2.2.1 (good_in (mws_in o1)) rfl rfl rfl (B.2.1.2.2.2.2.2.2.2.2.2.1 _ hl) (B.1.2.2.2.2.1 _ o2) o3 ⟨by show d2 + 1 ≤ R.frames; omega, by show 8 + (mnl M2 + 11) + 500 * d2 ≤ R.locals; omega⟩, B.1.2.2.2.2.1 _ o5, B.1.2.2.2.2.1 _ o6⟩ ⟨PP.blind, hrecv, hpre⟩ rfl (by rw [List.length_map]; exact hn) hL.1 rfl ?_ hd ⟨by omega, by omega⟩)
    · rw [cat_map]
      exact lv_room (pc := pc) (ls := ls) (m := m) (Nat.le_of_ble_eq_true hrest)
theorem x_callS {st : List Value} (hM : Con M2 d2 mc ms Sp) (ho : SOk M2 n) (hl : Cond.methodLink (my M).cls idx (my M2) ∈ lwT) (hd : decode (mcc M) pc = .ok (.invokestatic idx, 3)) (hdd : Nat.ble (d2 + 1) d = true) (hst : st = As.reverse ++ rest) (hn : As.length = n) (hrest : Nat.ble (rest.map Value.category).sum 8 = true)
    (hSp : Sp As S I L (fun v S' I' L' => X M G (d, rc, rs) S' I' L' (pc + 3) loc (v.toList ++ rest) Post)) : X M G (d, rc + mc, rs + ms) S I L pc loc st Post := by
  intro p l e R s m args below meth c Q B H locs cells slots ls hc hs hR hS hL
  subst hst
  obtain ⟨⟨o1, o2, o3, o4⟩, o5⟩ := ho
  have hdd' : d2 + 1 ≤ d := Nat.le_of_ble_eq_true hdd
  have hf1 : d ≤ R.frames := B.2.2.2.2.2.1
  have hf2 : 500 * d ≤ R.locals := B.2.2.2.2.2.2
  dsimp only at hc hs
  have e0 : (As.reverse ++ rest).map (vmap G) = (As.map (vmap G)).reverse ++ rest.map (vmap G) := by
    rw [List.map_append, List.map_reverse]
  have hpre := x_pre (As := As) B hR hS
  rw [e0]
  refine x_back B (by omega) (by omega) hS hL (va_runS (nL := mnl M) (As := As.map (vmap G)) (rest := rest.map (vmap G)) (n := n) (Ts := lwT) (own := (my M).cls) ⟨B.1.1, B.1.2.1, B.1.2.2.1, B.1.2.2.2.1, B.1.2.2.2.2.1⟩ (hM G l _ S I L _ hSp) (va_cwS n B.1.2.2.2.2.1 (good_in ?_) rfl rfl rfl o3 ⟨by show d2 + 1 ≤ R.frames; omega, by show 8 + (mnl M2 + 11) + 500 * d2 ≤ R.locals; omega⟩) ⟨PP.blind, hpre⟩ rfl (by rw [List.length_map]; exact hn) hL.1 rfl ?_ hd ⟨by omega, by omega⟩)
  · intro w hw
    rcases List.mem_append.mp hw with hw | hw
    · simp only [List.mem_cons, List.not_mem_nil, or_false] at hw
      rcases hw with rfl | rfl | rfl
      · exact hl
      · exact o5
      · exact o2
    · exact mws_in o1 w hw
  · rw [cat_map]
    exact lv_room (pc := pc) (ls := ls) (m := m) (Nat.le_of_ble_eq_true hrest)
theorem x_callSN {st : List Value} (hM : Con M2 d2 mc ms Sp) (ho : SOk M2 n) {host : String} (hl : ((my M).cls, idx, my M2, host) ∈ nwM) (hd : decode (mcc M) pc = .ok (.invokestatic idx, 3)) (hdd : Nat.ble (d2 + 1) d = true) (hst : st = As.reverse ++ rest) (hn : As.length = n) (hrest : Nat.ble (rest.map Value.category).sum 8 = true)
    (hSp : Sp As S I L (fun v S' I' L' => X M G (d, rc, rs) S' I' L' (pc + 3) loc (v.toList ++ rest) Post)) : X M G (d, rc + mc, rs + ms) S I L pc loc st Post := by
  intro p l e R s m args below meth c Q B H locs cells slots ls hc hs hR hS hL
  subst hst
  obtain ⟨⟨o1, o2, o3, o4⟩, o5⟩ := ho
  have hdd' : d2 + 1 ≤ d := Nat.le_of_ble_eq_true hdd
  have hf1 : d ≤ R.frames := B.2.2.2.2.2.1
  have hf2 : 500 * d ≤ R.locals := B.2.2.2.2.2.2
  dsimp only at hc hs
  have e0 : (As.reverse ++ rest).map (vmap G) = (As.map (vmap G)).reverse ++ rest.map (vmap G) := by
    rw [List.map_append, List.map_reverse]
  have hpre := x_pre (As := As) B hR hS
  rw [e0]
  refine x_back B (by omega) (by omega) hS hL (va_runSN (nL := mnl M) (As := As.map (vmap G)) (rest := rest.map (vmap G)) (n := n) (Ts := lwT) (own := (my M).cls) ⟨B.1.1, B.1.2.1, B.1.2.2.1, B.1.2.2.2.1, B.1.2.2.2.2.1⟩ (hM G l _ S I L _ hSp) ⟨va_cnB n B.1.2.2.2.2.1 (good_in (mws_in o1)) rfl rfl rfl (B.2.1.2.2.2.2.2.2.2.2.2.1 _ hl) (B.1.2.2.2.2.1 _ o2) o3 ⟨by show d2 + 1 ≤ R.frames; omega, by show 8 + (mnl M2 + 11) + 500 * d2 ≤ R.locals; omega⟩, B.1.2.2.2.2.1 _ o5, trivial⟩ ⟨PP.blind, hpre⟩ rfl (by rw [List.length_map]; exact hn) hL.1 rfl ?_ hd ⟨by omega, by omega⟩)
  · rw [cat_map]
    exact lv_room (pc := pc) (ls := ls) (m := m) (Nat.le_of_ble_eq_true hrest)
theorem x_callI {k ci : Nat} {st : List Value} (hM : Con M2 d2 mc ms Sp) (ho : IOk M2 n) (hrt : mret M2 = none) (hl : Cond.methodLink (my M).cls idx (my M2) ∈ lwT) (hd : decode (mcc M) pc = .ok (.invokespecial idx, 3)) (hdd : Nat.ble (d2 + 1) d = true) (hst : st = As.reverse ++ .ref k :: rest) (hn : As.length = n) (hk : kd S k = ci) (hkn : Nat.ble (k + 1) (sn S) = true) (hci : (vwCl[ci]?).map (fun q => q.1) = some (my M2).cls) (hrest : Nat.ble (rest.map Value.category).sum 8 = true)
    (hSp : Sp (.ref k :: As) S I L (fun v S' I' L' => X M G (d, rc, rs) S' I' L' (pc + 3) loc (v.toList ++ rest) Post)) : X M G (d, rc + mc, rs + ms) S I L pc loc st Post := by
  intro p l e R s m args below meth c Q B H locs cells slots ls hc hs hR hS hL
  subst hst
  obtain ⟨⟨o1, o2, o3, o4⟩, o5, o6⟩ := ho
  have hdd' : d2 + 1 ≤ d := Nat.le_of_ble_eq_true hdd
  obtain ⟨hkn', ha⟩ := hR.lt hkn
  have hf1 : d ≤ R.frames := B.2.2.2.2.2.1
  have hf2 : 500 * d ≤ R.locals := B.2.2.2.2.2.2
  dsimp only at hc hs
  cases hq : vwCl[ci]? with
  | none => rw [hq] at hci; cases hci
  | some q =>
    rw [hq] at hci
    have hqc : q.1 = (my M2).cls := Option.some.inj hci
    obtain ⟨-, -, -, -, -, c6⟩ := cls_ok ci q hq
    have hrecv := va_recv B.2.2.1 hR.2.2 hq (wsl_obj G S I L hkn' hk c6)
    rw [hqc] at hrecv
    have e0 : (As.reverse ++ Value.ref k :: rest).map (vmap G) = (As.map (vmap G)).reverse ++ .ref (gb G + k) :: rest.map (vmap G) := by
      rw [List.map_append, List.map_reverse, List.map_cons]
      show _ ++ Value.ref (adr G k) :: _ = _
      rw [ha]
    have hpre := x_pre (As := .ref k :: As) B hR hS
    have e1 : ((Value.ref k :: As).map (vmap G)) = .ref (gb G + k) :: As.map (vmap G) := by
      show Value.ref (adr G k) :: _ = _
      rw [ha]
    rw [e1] at hpre
    rw [e0]
    refine x_back B (by omega) (by omega) hS hL (va_runI (nL := mnl M) (As := As.map (vmap G)) (rest := rest.map (vmap G)) (n := n) (Ts := lwT) (own := (my M).cls) ⟨B.1.1, B.1.2.1, B.1.2.2.1, B.1.2.2.2.1, B.1.2.2.2.2.1⟩ (hM G l _ S I L _ hSp) (cwI n B.1.2.2.2.2.1 (good_in (mws_in o1)) (show mws M2 = Cond.code (my M2) (mcc M2) (mnl M2) none :: lwT by rw [mws, hrt]) rfl rfl (B.1.2.2.2.2.1 _ o2) (B.1.2.2.2.2.1 _ hl) (B.1.2.2.2.2.1 _ o5) o6 o3 ⟨by show d2 + 1 ≤ R.frames; omega, by show 8 + (mnl M2 + 11) + 500 * d2 ≤ R.locals; omega⟩) ⟨PP.blind, hpre⟩ rfl (by rw [List.length_map]; exact hn) hL.1 rfl ?_ hd ⟨by omega, by omega⟩)
    · rw [cat_map]
      exact lv_room (pc := pc) (ls := ls) (m := m) (Nat.le_of_ble_eq_true hrest)
theorem x_callIN {k ci : Nat} {st : List Value} (hM : Con M2 d2 mc ms Sp) (ho : IOk M2 n) (hrt : mret M2 = none) {host : String} (hl : ((my M).cls, idx, my M2, host) ∈ nwM) (hd : decode (mcc M) pc = .ok (.invokespecial idx, 3)) (hdd : Nat.ble (d2 + 1) d = true) (hst : st = As.reverse ++ .ref k :: rest) (hn : As.length = n) (hk : kd S k = ci) (hkn : Nat.ble (k + 1) (sn S) = true) (hci : (vwCl[ci]?).map (fun q => q.1) = some (my M2).cls) (hrest : Nat.ble (rest.map Value.category).sum 8 = true)
    (hSp : Sp (.ref k :: As) S I L (fun v S' I' L' => X M G (d, rc, rs) S' I' L' (pc + 3) loc (v.toList ++ rest) Post)) : X M G (d, rc + mc, rs + ms) S I L pc loc st Post := by
  intro p l e R s m args below meth c Q B H locs cells slots ls hc hs hR hS hL
  subst hst
  obtain ⟨⟨o1, o2, o3, o4⟩, o5, o6⟩ := ho
  have hdd' : d2 + 1 ≤ d := Nat.le_of_ble_eq_true hdd
  obtain ⟨hkn', ha⟩ := hR.lt hkn
  have hf1 : d ≤ R.frames := B.2.2.2.2.2.1
  have hf2 : 500 * d ≤ R.locals := B.2.2.2.2.2.2
  dsimp only at hc hs
  cases hq : vwCl[ci]? with
  | none => rw [hq] at hci; cases hci
  | some q =>
    rw [hq] at hci
    have hqc : q.1 = (my M2).cls := Option.some.inj hci
    obtain ⟨-, -, -, -, -, c6⟩ := cls_ok ci q hq
    have hrecv := va_recv B.2.2.1 hR.2.2 hq (wsl_obj G S I L hkn' hk c6)
    rw [hqc] at hrecv
    have e0 : (As.reverse ++ Value.ref k :: rest).map (vmap G) = (As.map (vmap G)).reverse ++ .ref (gb G + k) :: rest.map (vmap G) := by
      rw [List.map_append, List.map_reverse, List.map_cons]
      show _ ++ Value.ref (adr G k) :: _ = _
      rw [ha]
    have hpre := x_pre (As := .ref k :: As) B hR hS
    have e1 : ((Value.ref k :: As).map (vmap G)) = .ref (gb G + k) :: As.map (vmap G) := by
      show Value.ref (adr G k) :: _ = _
      rw [ha]
    rw [e1] at hpre
    rw [e0]
    refine x_back B (by omega) (by omega) hS hL (va_runIN (nL := mnl M) (As := As.map (vmap G)) (rest := rest.map (vmap G)) (n := n) (Ts := lwT) (own := (my M).cls) ⟨B.1.1, B.1.2.1, B.1.2.2.1, B.1.2.2.2.1, B.1.2.2.2.2.1⟩ (hM G l _ S I L _ hSp) ⟨va_cnB n B.1.2.2.2.2.1 (good_in (mws_in o1)) (show mws M2 = Cond.code (my M2) (mcc M2) (mnl M2) none :: lwT by rw [mws, hrt]) rfl rfl (B.2.1.2.2.2.2.2.2.2.2.2.1 _ hl) (B.1.2.2.2.2.1 _ o2) o3 ⟨by show d2 + 1 ≤ R.frames; omega, by show 8 + (mnl M2 + 11) + 500 * d2 ≤ R.locals; omega⟩, o6, B.1.2.2.2.2.1 _ o5⟩ ⟨PP.blind, hpre⟩ rfl (by rw [List.length_map]; exact hn) hL.1 rfl ?_ hd ⟨by omega, by omega⟩)
    · rw [cat_map]
      exact lv_room (pc := pc) (ls := ls) (m := m) (Nat.le_of_ble_eq_true hrest)
end CALLS
end
section
/-! the machine's own methods, statics, what stands outside -/
section MORE
variable {M : MI} {G : WG} {r : Nat × Nat × Nat} {S : Shp} {I : IM} {L : LM} {pc : Nat} {loc rest : List Value} {Post : PostT}
theorem x_objInit {idx k : Nat} (hd : decode (mcc M) pc = .ok (.invokespecial idx, 3)) (hl : Cond.methodLink (my M).cls idx Lib.objectInit ∈ lwT) (h2 : Cond.instanceMethod Lib.objectInit ∈ lwT) (h3 : Cond.code Lib.objectInit ⟨#[0xb1]⟩ 1 none ∈ lwT) (hr1 : Nat.ble 1 r.1 = true) (hrest : Nat.ble (rest.map Value.category).sum 8 = true)
    (kk : X M G r S I L (pc + 3) loc rest Post) : X M G r S I L pc loc (.ref k :: rest) Post := by
  intro p l e R s m args below meth c Q B H locs cells slots ls hc hs hR hS hL
  have hf1 : r.1 ≤ R.frames := B.2.2.2.2.2.1
  have hf2 : 500 * r.1 ≤ R.locals := B.2.2.2.2.2.2
  have h1 : 1 ≤ r.1 := Nat.le_of_ble_eq_true hr1
  refine W.objInit B.1.1 B.1.2.1 B.1.2.2.2.1 (B.1.2.2.2.2.1 _ hl) (B.1.2.2.2.2.1 _ h2) (B.1.2.2.2.2.1 _ h3) (g := F0 m pc ls ((Value.ref k :: rest).map (vmap G))) rfl (hL.1.trans B.1.2.2.1.symm) rfl hd (by omega) ?_ (kk p l e R s m args below meth c Q B H locs cells slots ls hc hs hR hS hL)
  have h4 := lv_room (pc := pc) (ls := ls) (m := m) (rest := (Value.ref k :: rest).map (vmap G)) (st := rest) (Nat.le_of_ble_eq_true hrest)
  rw [cat_map]
  omega
theorem x_mmax {idx : Nat} {x y : Int32} (hd : decode (mcc M) pc = .ok (.invokestatic idx, 3)) (hl : Cond.methodLink (my M).cls idx Lib.Math.max.name ∈ lwT) (h2 : Cond.static Lib.Math.max.name ∈ lwT) (h3 : Cond.initialized "java/lang/Math" ∈ lwT) (h4 : Cond.code Lib.Math.max.name Lib.Math.max.code 2 (some .int) ∈ lwT) (hr1 : Nat.ble 1 r.1 = true) (hrest : Nat.ble (rest.map Value.category).sum 8 = true)
    (kk : X M G r S I L (pc + 3) loc (.int (if x < y then y else x) :: rest) Post) : X M G r S I L pc loc (.int y :: .int x :: rest) Post := by
  intro p l e R s m args below meth c Q B H locs cells slots ls hc hs hR hS hL
  have hf1 : r.1 ≤ R.frames := B.2.2.2.2.2.1
  have hf2 : 500 * r.1 ≤ R.locals := B.2.2.2.2.2.2
  have h1 : 1 ≤ r.1 := Nat.le_of_ble_eq_true hr1
  have h5 := Nat.le_of_ble_eq_true hrest
  exact va_mmax B.1.1 B.1.2.1 (B.1.2.2.1.trans hL.1.symm) B.1.2.2.2.1 (B.1.2.2.2.2.1 _ hl) (B.1.2.2.2.2.1 _ h2) (B.1.2.2.2.2.1 _ h3) (B.1.2.2.2.2.1 _ h4) (by omega) (by rw [cat_map]; show (rest.map Value.category).sum + 13 ≤ _; omega) (by omega) (by omega) hd (kk p l e R s m args below meth c Q B H locs cells slots ls hc hs hR hS hL)
theorem x_mmin {idx : Nat} {x y : Int32} (hd : decode (mcc M) pc = .ok (.invokestatic idx, 3)) (hl : Cond.methodLink (my M).cls idx Lib.Math.min.name ∈ lwT) (h2 : Cond.static Lib.Math.min.name ∈ lwT) (h3 : Cond.initialized "java/lang/Math" ∈ lwT) (h4 : Cond.code Lib.Math.min.name Lib.Math.min.code 2 (some .int) ∈ lwT) (hr1 : Nat.ble 1 r.1 = true) (hrest : Nat.ble (rest.map Value.category).sum 8 = true)
    (kk : X M G r S I L (pc + 3) loc (.int (if y < x then y else x) :: rest) Post) : X M G r S I L pc loc (.int y :: .int x :: rest) Post := by
  intro p l e R s m args below meth c Q B H locs cells slots ls hc hs hR hS hL
  have hf1 : r.1 ≤ R.frames := B.2.2.2.2.2.1
  have hf2 : 500 * r.1 ≤ R.locals := B.2.2.2.2.2.2
  have h1 : 1 ≤ r.1 := Nat.le_of_ble_eq_true hr1
  have h5 := Nat.le_of_ble_eq_true hrest
  exact va_mmin B.1.1 B.1.2.1 (B.1.2.2.1.trans hL.1.symm) B.1.2.2.2.1 (B.1.2.2.2.2.1 _ hl) (B.1.2.2.2.2.1 _ h2) (B.1.2.2.2.2.1 _ h3) (B.1.2.2.2.2.1 _ h4) (by omega) (by rw [cat_map]; show (rest.map Value.category).sum + 13 ≤ _; omega) (by omega) (by omega) hd (kk p l e R s m args below meth c Q B H locs cells slots ls hc hs hR hS hL)
theorem x_mabs {idx : Nat} {x : Int32} (hd : decode (mcc M) pc = .ok (.invokestatic idx, 3)) (hl : Cond.methodLink (my M).cls idx Lib.Math.abs.name ∈ lwT) (h2 : Cond.static Lib.Math.abs.name ∈ lwT) (h3 : Cond.initialized "java/lang/Math" ∈ lwT) (h4 : Cond.code Lib.Math.abs.name Lib.Math.abs.code 1 (some .int) ∈ lwT) (hr1 : Nat.ble 1 r.1 = true) (hrest : Nat.ble (rest.map Value.category).sum 8 = true)
    (kk : X M G r S I L (pc + 3) loc (.int (if 0 ≤ x then x else 0 - x) :: rest) Post) : X M G r S I L pc loc (.int x :: rest) Post := by
  intro p l e R s m args below meth c Q B H locs cells slots ls hc hs hR hS hL
  have hf1 : r.1 ≤ R.frames := B.2.2.2.2.2.1
  have hf2 : 500 * r.1 ≤ R.locals := B.2.2.2.2.2.2
  have h1 : 1 ≤ r.1 := Nat.le_of_ble_eq_true hr1
  have h5 := Nat.le_of_ble_eq_true hrest
  exact va_mabs B.1.1 B.1.2.1 (B.1.2.2.1.trans hL.1.symm) B.1.2.2.2.1 (B.1.2.2.2.2.1 _ hl) (B.1.2.2.2.2.1 _ h2) (B.1.2.2.2.2.1 _ h3) (B.1.2.2.2.2.1 _ h4) (by omega) (by rw [cat_map]; show (rest.map Value.category).sum + 13 ≤ _; omega) (by omega) (by omega) hd (kk p l e R s m args below meth c Q B H locs cells slots ls hc hs hR hS hL)
/-- KIND_ABOVE: the reference, and a cell of it -/
theorem x_getsKA {idx : Nat} (hd : decode (mcc M) pc = .ok (.getstatic idx, 3)) (hl : ((my M).cls, idx, "WhoeverHeard", "KIND_ABOVE", "[I", "WhoeverHeard") ∈ nwF) (kk : X M G r S I L (pc + 3) loc (.ref (1000000 + 100) :: rest) Post) : X M G r S I L pc loc rest Post := by
  intro p l e R s m args below meth c Q B H locs cells slots ls hc hs hR hS hL
  have K := kk p l e R s m args below meth c Q B H locs cells slots ls hc hs hR hS hL
  have e0 : (Value.ref (1000000 + 100) :: rest).map (vmap G) = .ref (gf G 100) :: rest.map (vmap G) := by
    show Value.ref (adr G (1000000 + 100)) :: _ = _
    rw [adr_f]
  rw [e0] at K
  exact va_getsN B.1.1 B.1.2.1 B.2.1.1 hS B.1.2.2.2.1 (va_Nw.use rfl (B.2.1.2.2.2.2.2.2.2.2.2.2 _ hl)) (fun x hx => hx) hd K
theorem x_ialdKA {i v : Int32} (hd : decode (mcc M) pc = .ok (.iaload, 1)) (hi : vp_in i 6) (hv : kaL.getD i.toNatClampNeg 0 = v) (kk : X M G r S I L (pc + 1) loc (.int v :: rest) Post) : X M G r S I L pc loc (.int i :: .ref (1000000 + 100) :: rest) Post := by
  intro p l e R s m args below meth c Q B H locs cells slots ls hc hs hR hS hL
  have e0 : (Value.int i :: Value.ref (1000000 + 100) :: rest).map (vmap G) = .int i :: .ref (gf G 100) :: rest.map (vmap G) := by
    show Value.int i :: Value.ref (adr G (1000000 + 100)) :: _ = _
    rw [adr_f]
  rw [e0]
  exact va_ti B.1.1 B.1.2.1 B.2.1.2.1 hS hi (v := .int v) (by rw [hv]) hd (kk p l e R s m args below meth c Q B H locs cells slots ls hc hs hR hS hL)
/-- the script -/
theorem x_ialdS {i : Int32} (hd : decode (mcc M) pc = .ok (.iaload, 1)) (hi : vp_in i (gL G)) (kk : X M G r S I L (pc + 1) loc (.int (gx G i.toNatClampNeg) :: rest) Post) : X M G r S I L pc loc (.int i :: .ref (1000000 + 200) :: rest) Post := by
  intro p l e R s m args below meth c Q B H locs cells slots ls hc hs hR hS hL
  have e0 : (Value.int i :: Value.ref (1000000 + 200) :: rest).map (vmap G) = .int i :: .ref (gf G 200) :: rest.map (vmap G) := by
    show Value.int i :: Value.ref (adr G (1000000 + 200)) :: _ = _
    rw [adr_f]
  rw [e0]
  have h9 : ¬ AA G (gf G 200) := by
    have := B.2.1.2.2.2.2.2.2.2.2.1
    show ¬ (gb G ≤ gf G 200)
    omega
  exact va_sld B.1.1 B.1.2.1 B.2.1.2.2.2.2.2.2.1 B.2.1.2.2.2.2.2.2.2.1 h9 hS hi hd (kk p l e R s m args below meth c Q B H locs cells slots ls hc hs hR hS hL)
theorem x_alenS {v : Int32} (hd : decode (mcc M) pc = .ok (.arraylength, 1)) (hv : nI (gL G) = v) (kk : X M G r S I L (pc + 1) loc (.int v :: rest) Post) : X M G r S I L pc loc (.ref (1000000 + 200) :: rest) Post := by
  intro p l e R s m args below meth c Q B H locs cells slots ls hc hs hR hS hL
  have K := kk p l e R s m args below meth c Q B H locs cells slots ls hc hs hR hS hL
  have e0 : (Value.ref (1000000 + 200) :: rest).map (vmap G) = .ref (gf G 200) :: rest.map (vmap G) := by
    show Value.ref (adr G (1000000 + 200)) :: _ = _
    rw [adr_f]
  rw [e0]
  have h9 : ¬ AA G (gf G 200) := by
    have := B.2.1.2.2.2.2.2.2.2.2.1
    show ¬ (gb G ≤ gf G 200)
    omega
  subst hv
  exact va_slen B.1.1 B.1.2.1 B.2.1.2.2.2.2.2.2.1 B.2.1.2.2.2.2.2.2.2.1 h9 hS hd K
/-- a string constant -/
theorem x_ldcS {i idx : Nat} (hd : decode (mcc M) pc = .ok (.ldc idx, 2)) (hi : Nat.ble (i + 1) nStr = true) (ho : stO.getD i "" = (my M).cls) (hk : stK.getD i 0 = idx) (kk : X M G r S I L (pc + 2) loc (.ref (1000000 + i) :: rest) Post) : X M G r S I L pc loc rest Post := by
  intro p l e R s m args below meth c Q B H locs cells slots ls hc hs hR hS hL
  have K := kk p l e R s m args below meth c Q B H locs cells slots ls hc hs hR hS hL
  have e0 : (Value.ref (1000000 + i) :: rest).map (vmap G) = .ref (gf G i) :: rest.map (vmap G) := by
    show Value.ref (adr G (1000000 + i)) :: _ = _
    rw [adr_f]
  rw [e0] at K
  have hz := B.2.1.2.2.1 i (Nat.le_of_ble_eq_true hi)
  rw [ho, hk] at hz
  exact va_ldcS B.1.1 B.1.2.1 B.1.2.2.2.1 hz hd K
theorem clampT (z : Int32) (hz : ¬ z < 0) : z.toInt = (z.toNatClampNeg : Int) := by
  have hz0 : (0 : Int) ≤ z.toInt := by
    have := Int32.not_lt.mp hz
    simpa using Int32.le_iff_toInt_le.mp this
  show z.toInt = ((z.toInt.toNat : Nat) : Int)
  omega
/-- System.arraycopy between two int arrays (or one) -/
theorem x_acopy {idx k0 k1 n0 n1 : Nat} {sp dp n : Int32} (hd : decode (mcc M) pc = .ok (.invokestatic idx, 3)) (hl : Cond.methodLink (my M).cls idx arraycopyName ∈ lwT) (h2 : Cond.native arraycopyName ∈ lwT) (h3 : Cond.static arraycopyName ∈ lwT) (h4 : Cond.initialized "java/lang/System" ∈ lwT)
    (hk0 : kd S k0 = n0 + 100) (hn0 : Nat.ble (k0 + 1) (sn S) = true) (hk1 : kd S k1 = n1 + 100) (hn1 : Nat.ble (k1 + 1) (sn S) = true) (hr1 : Nat.ble 1 r.1 = true) (hrest : Nat.ble (rest.map Value.category).sum 8 = true)
    (hs1 : ¬ sp < 0) (hs2 : ¬ dp < 0) (hs3 : ¬ n < 0) (hs4 : sp.toNatClampNeg + n.toNatClampNeg ≤ n0) (hs5 : dp.toNatClampNeg + n.toNatClampNeg ≤ n1)
    (kk : X M G r S (upr I k1 (va_cpy (I k0) (I k1) sp.toNatClampNeg dp.toNatClampNeg n.toNatClampNeg)) L (pc + 3) loc rest Post) : X M G r S I L pc loc (.int n :: .int dp :: .ref k1 :: .int sp :: .ref k0 :: rest) Post := by
  intro p l e R s m args below meth c Q B H locs cells slots ls hc hs hR hS hL
  have hf1 : r.1 ≤ R.frames := B.2.2.2.2.2.1
  have hf2 : 500 * r.1 ≤ R.locals := B.2.2.2.2.2.2
  have h1 : 1 ≤ r.1 := Nat.le_of_ble_eq_true hr1
  have h5 := Nat.le_of_ble_eq_true hrest
  obtain ⟨hkn0, ha0⟩ := hR.lt hn0
  obtain ⟨hkn1, ha1⟩ := hR.lt hn1
  have e0 : (Value.int n :: Value.int dp :: Value.ref k1 :: Value.int sp :: Value.ref k0 :: rest).map (vmap G) = .int n :: .int dp :: .ref (gb G + k1) :: .int sp :: .ref (gb G + k0) :: rest.map (vmap G) := by
    show Value.int n :: Value.int dp :: Value.ref (adr G k1) :: Value.int sp :: Value.ref (adr G k0) :: _ = _
    rw [ha0, ha1]
  rw [e0]
  have w0 := wsl_arr G S I L hkn0 hk0
  have w1 := wsl_arr G S I L hkn1 hk1
  have hD := wsl_D G S I L
  have hc0 : H[gb G + k0]? = some (vp_cell (gA G) (n0, .inl (I k0))) := hR.2.2 k0 _ w0
  have hc1 : H[gb G + k1]? = some (vp_cell (gA G) (n1, .inl (I k1))) := hR.2.2 k1 _ w1
  obtain ⟨-, c0, d0, m0, f0⟩ := (B.2.2.1.2 0 _ rfl).1 n0 (fun j => .int (I k0 j))
  obtain ⟨-, c1, d1, m1, f1⟩ := (B.2.2.1.2 0 _ rfl).1 n1 (fun j => .int (I k1 j))
  have hset : (wsl G S I L).set k1 (gb G + k1, .inl (gA G, (n1, .inl (va_cpy (I k0) (I k1) sp.toNatClampNeg dp.toNatClampNeg n.toNatClampNeg)))) = wsl G S (upr I k1 (va_cpy (I k0) (I k1) sp.toNatClampNeg dp.toNatClampNeg n.toNatClampNeg)) L := by
    refine wsl_set G S I _ L L S hkn1 rfl _ ?_ (fun j hj => cellE_c G S S I _ L L rfl rfl (upr_n I _ hj) rfl)
    rw [cellE_a G S _ L hk1, upr_s]
  intro T hT Y
  obtain ⟨vm', Y', stp⟩ := Y.arraycopy B.1.1 B.1.2.2.2.1 (B.1.2.2.2.2.1 _ hl) (B.1.2.2.2.2.1 _ h2) (B.1.2.2.2.2.1 _ h3) (B.1.2.2.2.2.1 _ h4) (src := gb G + k0) (dst := gb G + k1) (cs := vp_cell (gA G) (n0, .inl (I k0))) (cd := vp_cell (gA G) (n1, .inl (I k1))) (srcPos := sp) (destPos := dp) (n := n) (by rw [hT]; exact hc0) (by rw [hT]; exact hc1)
    (fun _ q => by cases q) (fun _ q => by cases q) (fun q => by cases q) (fun q => by cases q) d0 d1 f0 f1 (by simp [refKind]) hs1 hs2 hs3
    (by rw [clampT sp hs1, clampT n hs3]; show ¬ _ > ((arrV (gA G) n0 (fun j => .int (I k0 j))).slots.size : Int); rw [arrV_size]; omega)
    (by rw [clampT dp hs2, clampT n hs3]; show ¬ _ > ((arrV (gA G) n1 (fun j => .int (I k1 j))).slots.size : Int); rw [arrV_size]; omega)
    (fun vm₁ _ i hi => by
      have e : (vp_cell (gA G) (n0, .inl (I k0))).slots.getD (sp.toNatClampNeg + i) .null = .int (I k0 (sp.toNatClampNeg + i)) := by
        show (arrV (gA G) n0 (fun j => .int (I k0 j))).slots.getD _ _ = _
        rw [Array.getD_eq_getD_getElem?, arrV_read _ _ (by omega)]
        rfl
      rw [e]
      exact ⟨rfl, trivial⟩)
    (g := F0 m pc ls (.int n :: .int dp :: .ref (gb G + k1) :: .int sp :: .ref (gb G + k0) :: rest.map (vmap G))) rfl (hL.1.trans B.1.2.2.1.symm) (rest := rest.map (vmap G)) rfl (by rw [B.1.2.1]; exact hd) (by omega) (by show 2 * 0 + _ + (7 + 11) ≤ _; rw [cat_map]; show 2 * 0 + (rest.map Value.category).sum + _ ≤ _; omega)
  have e1 : copied (vp_cell (gA G) (n0, .inl (I k0))) (vp_cell (gA G) (n1, .inl (I k1))) sp dp n = vp_cell (gA G) (n1, .inl (va_cpy (I k0) (I k1) sp.toNatClampNeg dp.toNatClampNeg n.toNatClampNeg)) := va_copied (fun z => .int z) (gA G) (gA G) (I k0) (I k1) hs4
  rw [e1] at Y' stp
  have hlt : gb G + k1 < H.size := (Array.getElem?_eq_some_iff.mp hc1).1
  have hP1 : va_P (gD G) vwCl (wsl G S (upr I k1 (va_cpy (I k0) (I k1) sp.toNatClampNeg dp.toNatClampNeg n.toNatClampNeg)) L) (H.setIfInBounds (gb G + k1) (vp_cell (gA G) (n1, .inl (va_cpy (I k0) (I k1) sp.toNatClampNeg dp.toNatClampNeg n.toNatClampNeg)))) := by
    rw [← hset]
    exact hR.2.2.set hD w1 (show (H.setIfInBounds (gb G + k1) _)[gb G + k1]? = some _ by simp [Array.getElem?_setIfInBounds, hlt]) (fun q hq => by simp [Array.getElem?_setIfInBounds, Ne.symm hq])
  obtain ⟨t, a1, b1⟩ := kk p l e R s m args below meth c Q B _ _ cells slots ls hc hs ⟨by simp; exact hR.1, hR.2.1, hP1⟩ ⟨by simp; exact hS.1, fun q g1 g2 => by
      have hq : ¬ gb G + k1 = q := fun e => g2 (by rw [← e]; exact Nat.le_add_right _ _)
      rw [show (H.setIfInBounds (gb G + k1) (vp_cell (gA G) (n1, .inl (va_cpy (I k0) (I k1) sp.toNatClampNeg dp.toNatClampNeg n.toNatClampNeg))))[q]? = H[q]? by simp [Array.getElem?_setIfInBounds, hq]]
      exact hS.2.1 q g1 g2, fun q hq => by
      rcases List.mem_append.mp hq with h | h
      · exact hS.2.2 q h
      · obtain ⟨z, -, hz⟩ := List.mem_map.mp h
        rw [← hz]
        exact Nat.le_add_right _ _⟩ hL _ (by rw [← hT]; rfl) Y'
  exact ⟨t, stp t a1, b1⟩
end MORE
end
section
/-! the tables' words, by their places -/
set_option maxRecDepth 100000 in
theorem it_Law : Cond.initialized "WhoeverHeardLaw" ∈ lwT := (lwT_of (List.mem_of_getElem? (i := 72) rfl) rfl)
set_option maxRecDepth 100000 in
theorem it_W : Cond.initialized "WhoeverHeard" ∈ lwT := (lwT_of (List.mem_of_getElem? (i := 73) rfl) rfl)
set_option maxRecDepth 100000 in
theorem it_Town : Cond.initialized "WhoeverHeard$Town" ∈ lwT := (lwT_of (List.mem_of_getElem? (i := 74) rfl) rfl)
set_option maxRecDepth 100000 in
theorem it_Math : Cond.initialized "java/lang/Math" ∈ lwT := (lwT_of (List.mem_of_getElem? (i := 75) rfl) rfl)
set_option maxRecDepth 100000 in
theorem it_Folk : Cond.initialized "WhoeverHeard$Folk" ∈ lwT := (lwT_of (List.mem_of_getElem? (i := 76) rfl) rfl)
set_option maxRecDepth 100000 in
theorem it_Vows : Cond.initialized "WhoeverHeard$Vows" ∈ lwT := (lwT_of (List.mem_of_getElem? (i := 77) rfl) rfl)
set_option maxRecDepth 100000 in
theorem it_Sayings : Cond.initialized "WhoeverHeard$Sayings" ∈ lwT := (lwT_of (List.mem_of_getElem? (i := 78) rfl) rfl)
set_option maxRecDepth 100000 in
theorem it_Reader : Cond.initialized "WhoeverHeard$Reader" ∈ lwT := (lwT_of (List.mem_of_getElem? (i := 79) rfl) rfl)
set_option maxRecDepth 100000 in
theorem it_Texts : Cond.initialized "WhoeverHeard$Texts" ∈ lwT := (lwT_of (List.mem_of_getElem? (i := 80) rfl) rfl)
set_option maxRecDepth 100000 in
theorem it_Ledger : Cond.initialized "WhoeverHeard$Ledger" ∈ lwT := (lwT_of (List.mem_of_getElem? (i := 81) rfl) rfl)
set_option maxRecDepth 100000 in
theorem it_Image : Cond.initialized "WhoeverHeard$Image" ∈ lwT := (lwT_of (List.mem_of_getElem? (i := 82) rfl) rfl)
set_option maxRecDepth 100000 in
theorem it_Sheets : Cond.initialized "WhoeverHeard$Sheets" ∈ lwT := (lwT_of (List.mem_of_getElem? (i := 83) rfl) rfl)
set_option maxRecDepth 100000 in
theorem it_String : Cond.initialized "java/lang/String" ∈ lwT := (lwT_of (List.mem_of_getElem? (i := 84) rfl) rfl)
set_option maxRecDepth 100000 in
theorem it_StringLatin1 : Cond.initialized "java/lang/StringLatin1" ∈ lwT := (lwT_of (List.mem_of_getElem? (i := 85) rfl) rfl)
set_option maxRecDepth 100000 in
theorem it_Preconditions : Cond.initialized "jdk/internal/util/Preconditions" ∈ lwT := (lwT_of (List.mem_of_getElem? (i := 86) rfl) rfl)
set_option maxRecDepth 100000 in
theorem it_StringUTF16 : Cond.initialized "java/lang/StringUTF16" ∈ lwT := (lwT_of (List.mem_of_getElem? (i := 87) rfl) rfl)
set_option maxRecDepth 100000 in
theorem it_System : Cond.initialized "java/lang/System" ∈ lwT := (lwT_of (List.mem_of_getElem? (i := 88) rfl) rfl)
set_option maxRecDepth 100000 in
theorem it_R : Cond.initialized "WhoeverHeardModel" ∈ lwT := (lwT_of (List.mem_of_getElem? (i := 89) rfl) rfl)
set_option maxRecDepth 100000 in
theorem it_Integer : Cond.initialized "java/lang/Integer" ∈ lwT := (lwT_of (List.mem_of_getElem? (i := 90) rfl) rfl)
set_option maxRecDepth 100000 in
theorem cl_Law_7 : Cond.classLink "WhoeverHeardLaw" 7 "WhoeverHeard" ∈ lwT := (lwT_of (List.mem_of_getElem? (i := 91) rfl) rfl)
set_option maxRecDepth 100000 in
theorem in_W : Cond.instantiable "WhoeverHeard" 9 ∈ lwT := (lwT_of (List.mem_of_getElem? (i := 92) rfl) rfl)
set_option maxRecDepth 100000 in
theorem ml_Law_9 : Cond.methodLink "WhoeverHeardLaw" 9 (my mW_init) ∈ lwT := (lwT_of (List.mem_of_getElem? (i := 93) rfl) rfl)
set_option maxRecDepth 100000 in
theorem ml_W_3 : Cond.methodLink "WhoeverHeard" 3 Lib.objectInit ∈ lwT := (lwT_of (List.mem_of_getElem? (i := 96) rfl) rfl)
set_option maxRecDepth 100000 in
theorem cl_W_9 : Cond.classLink "WhoeverHeard" 9 "WhoeverHeard$Town" ∈ lwT := (lwT_of (List.mem_of_getElem? (i := 99) rfl) rfl)
set_option maxRecDepth 100000 in
theorem in_Town : Cond.instantiable "WhoeverHeard$Town" 3 ∈ lwT := (lwT_of (List.mem_of_getElem? (i := 100) rfl) rfl)
set_option maxRecDepth 100000 in
theorem ml_W_11 : Cond.methodLink "WhoeverHeard" 11 (my mTown_init) ∈ lwT := (lwT_of (List.mem_of_getElem? (i := 101) rfl) rfl)
set_option maxRecDepth 100000 in
theorem ml_Town_3 : Cond.methodLink "WhoeverHeard$Town" 3 Lib.objectInit ∈ lwT := (lwT_of (List.mem_of_getElem? (i := 104) rfl) rfl)
set_option maxRecDepth 100000 in
theorem ml_Town_22 : Cond.methodLink "WhoeverHeard$Town" 22 (my mMath_abs) ∈ lwT := (lwT_of (List.mem_of_getElem? (i := 105) rfl) rfl)
set_option maxRecDepth 100000 in
theorem fl_Town_9 : FLink "WhoeverHeard$Town" 9 7 0 := ⟨(RX7, TX7, 3), rfl, by decide, (lwT_of (List.mem_of_getElem? (i := 108) rfl) rfl)⟩
set_option maxRecDepth 100000 in
theorem fl_Town_15 : FLink "WhoeverHeard$Town" 15 7 1 := ⟨(RX7, TX7, 3), rfl, by decide, (lwT_of (List.mem_of_getElem? (i := 109) rfl) rfl)⟩
set_option maxRecDepth 100000 in
theorem fl_W_113 : FLink "WhoeverHeard" 113 7 1 := ⟨(RX7, TX7, 3), rfl, by decide, (lwT_of (List.mem_of_getElem? (i := 110) rfl) rfl)⟩
set_option maxRecDepth 100000 in
theorem fl_Ledger_114 : FLink "WhoeverHeard$Ledger" 114 7 1 := ⟨(RX7, TX7, 3), rfl, by decide, (lwT_of (List.mem_of_getElem? (i := 111) rfl) rfl)⟩
set_option maxRecDepth 100000 in
theorem fl_Town_18 : FLink "WhoeverHeard$Town" 18 7 2 := ⟨(RX7, TX7, 3), rfl, by decide, (lwT_of (List.mem_of_getElem? (i := 112) rfl) rfl)⟩
set_option maxRecDepth 100000 in
theorem fl_W_117 : FLink "WhoeverHeard" 117 7 2 := ⟨(RX7, TX7, 3), rfl, by decide, (lwT_of (List.mem_of_getElem? (i := 113) rfl) rfl)⟩
set_option maxRecDepth 100000 in
theorem cl_W_16 : Cond.classLink "WhoeverHeard" 16 "WhoeverHeard$Folk" ∈ lwT := (lwT_of (List.mem_of_getElem? (i := 122) rfl) rfl)
set_option maxRecDepth 100000 in
theorem in_Folk : Cond.instantiable "WhoeverHeard$Folk" 9 ∈ lwT := (lwT_of (List.mem_of_getElem? (i := 123) rfl) rfl)
set_option maxRecDepth 100000 in
theorem ml_Folk_3 : Cond.methodLink "WhoeverHeard$Folk" 3 Lib.objectInit ∈ lwT := (lwT_of (List.mem_of_getElem? (i := 127) rfl) rfl)
set_option maxRecDepth 100000 in
theorem fl_Folk_9 : FLink "WhoeverHeard$Folk" 9 0 0 := ⟨(RX0, TX0, 9), rfl, by decide, (lwT_of (List.mem_of_getElem? (i := 128) rfl) rfl)⟩
set_option maxRecDepth 100000 in
theorem fl_W_149 : FLink "WhoeverHeard" 149 0 0 := ⟨(RX0, TX0, 9), rfl, by decide, (lwT_of (List.mem_of_getElem? (i := 129) rfl) rfl)⟩
set_option maxRecDepth 100000 in
theorem fl_Folk_15 : FLink "WhoeverHeard$Folk" 15 0 1 := ⟨(RX0, TX0, 9), rfl, by decide, (lwT_of (List.mem_of_getElem? (i := 130) rfl) rfl)⟩
set_option maxRecDepth 100000 in
theorem fl_W_152 : FLink "WhoeverHeard" 152 0 1 := ⟨(RX0, TX0, 9), rfl, by decide, (lwT_of (List.mem_of_getElem? (i := 131) rfl) rfl)⟩
set_option maxRecDepth 100000 in
theorem fl_Folk_18 : FLink "WhoeverHeard$Folk" 18 0 2 := ⟨(RX0, TX0, 9), rfl, by decide, (lwT_of (List.mem_of_getElem? (i := 132) rfl) rfl)⟩
set_option maxRecDepth 100000 in
theorem fl_Ledger_111 : FLink "WhoeverHeard$Ledger" 111 0 2 := ⟨(RX0, TX0, 9), rfl, by decide, (lwT_of (List.mem_of_getElem? (i := 133) rfl) rfl)⟩
set_option maxRecDepth 100000 in
theorem fl_W_155 : FLink "WhoeverHeard" 155 0 2 := ⟨(RX0, TX0, 9), rfl, by decide, (lwT_of (List.mem_of_getElem? (i := 134) rfl) rfl)⟩
set_option maxRecDepth 100000 in
theorem fl_Folk_21 : FLink "WhoeverHeard$Folk" 21 0 3 := ⟨(RX0, TX0, 9), rfl, by decide, (lwT_of (List.mem_of_getElem? (i := 135) rfl) rfl)⟩
set_option maxRecDepth 100000 in
theorem fl_W_158 : FLink "WhoeverHeard" 158 0 3 := ⟨(RX0, TX0, 9), rfl, by decide, (lwT_of (List.mem_of_getElem? (i := 136) rfl) rfl)⟩
set_option maxRecDepth 100000 in
theorem fl_Folk_24 : FLink "WhoeverHeard$Folk" 24 0 4 := ⟨(RX0, TX0, 9), rfl, by decide, (lwT_of (List.mem_of_getElem? (i := 137) rfl) rfl)⟩
set_option maxRecDepth 100000 in
theorem fl_W_161 : FLink "WhoeverHeard" 161 0 4 := ⟨(RX0, TX0, 9), rfl, by decide, (lwT_of (List.mem_of_getElem? (i := 138) rfl) rfl)⟩
set_option maxRecDepth 100000 in
theorem fl_Folk_27 : FLink "WhoeverHeard$Folk" 27 0 5 := ⟨(RX0, TX0, 9), rfl, by decide, (lwT_of (List.mem_of_getElem? (i := 139) rfl) rfl)⟩
set_option maxRecDepth 100000 in
theorem fl_W_164 : FLink "WhoeverHeard" 164 0 5 := ⟨(RX0, TX0, 9), rfl, by decide, (lwT_of (List.mem_of_getElem? (i := 140) rfl) rfl)⟩
set_option maxRecDepth 100000 in
theorem fl_Ledger_199 : FLink "WhoeverHeard$Ledger" 199 0 5 := ⟨(RX0, TX0, 9), rfl, by decide, (lwT_of (List.mem_of_getElem? (i := 141) rfl) rfl)⟩
set_option maxRecDepth 100000 in
theorem fl_Folk_30 : FLink "WhoeverHeard$Folk" 30 0 6 := ⟨(RX0, TX0, 9), rfl, by decide, (lwT_of (List.mem_of_getElem? (i := 142) rfl) rfl)⟩
set_option maxRecDepth 100000 in
theorem fl_W_167 : FLink "WhoeverHeard" 167 0 6 := ⟨(RX0, TX0, 9), rfl, by decide, (lwT_of (List.mem_of_getElem? (i := 143) rfl) rfl)⟩
set_option maxRecDepth 100000 in
theorem fl_Ledger_187 : FLink "WhoeverHeard$Ledger" 187 0 6 := ⟨(RX0, TX0, 9), rfl, by decide, (lwT_of (List.mem_of_getElem? (i := 144) rfl) rfl)⟩
set_option maxRecDepth 100000 in
theorem fl_Folk_33 : FLink "WhoeverHeard$Folk" 33 0 7 := ⟨(RX0, TX0, 9), rfl, by decide, (lwT_of (List.mem_of_getElem? (i := 145) rfl) rfl)⟩
set_option maxRecDepth 100000 in
theorem fl_Image_52 : FLink "WhoeverHeard$Image" 52 0 7 := ⟨(RX0, TX0, 9), rfl, by decide, (lwT_of (List.mem_of_getElem? (i := 146) rfl) rfl)⟩
set_option maxRecDepth 100000 in
theorem fl_W_146 : FLink "WhoeverHeard" 146 0 7 := ⟨(RX0, TX0, 9), rfl, by decide, (lwT_of (List.mem_of_getElem? (i := 147) rfl) rfl)⟩
set_option maxRecDepth 100000 in
theorem fl_Ledger_224 : FLink "WhoeverHeard$Ledger" 224 0 7 := ⟨(RX0, TX0, 9), rfl, by decide, (lwT_of (List.mem_of_getElem? (i := 148) rfl) rfl)⟩
set_option maxRecDepth 100000 in
theorem fl_Folk_36 : FLink "WhoeverHeard$Folk" 36 0 8 := ⟨(RX0, TX0, 9), rfl, by decide, (lwT_of (List.mem_of_getElem? (i := 149) rfl) rfl)⟩
set_option maxRecDepth 100000 in
theorem fl_Image_47 : FLink "WhoeverHeard$Image" 47 0 8 := ⟨(RX0, TX0, 9), rfl, by decide, (lwT_of (List.mem_of_getElem? (i := 150) rfl) rfl)⟩
set_option maxRecDepth 100000 in
theorem fl_Ledger_82 : FLink "WhoeverHeard$Ledger" 82 0 8 := ⟨(RX0, TX0, 9), rfl, by decide, (lwT_of (List.mem_of_getElem? (i := 151) rfl) rfl)⟩
set_option maxRecDepth 100000 in
theorem fl_W_121 : FLink "WhoeverHeard" 121 0 8 := ⟨(RX0, TX0, 9), rfl, by decide, (lwT_of (List.mem_of_getElem? (i := 152) rfl) rfl)⟩
set_option maxRecDepth 100000 in
theorem cl_W_23 : Cond.classLink "WhoeverHeard" 23 "WhoeverHeard$Vows" ∈ lwT := (lwT_of (List.mem_of_getElem? (i := 172) rfl) rfl)
set_option maxRecDepth 100000 in
theorem in_Vows : Cond.instantiable "WhoeverHeard$Vows" 5 ∈ lwT := (lwT_of (List.mem_of_getElem? (i := 173) rfl) rfl)
set_option maxRecDepth 100000 in
theorem ml_Vows_3 : Cond.methodLink "WhoeverHeard$Vows" 3 Lib.objectInit ∈ lwT := (lwT_of (List.mem_of_getElem? (i := 177) rfl) rfl)
set_option maxRecDepth 100000 in
theorem fl_Vows_9 : FLink "WhoeverHeard$Vows" 9 8 0 := ⟨(RX8, TX8, 5), rfl, by decide, (lwT_of (List.mem_of_getElem? (i := 178) rfl) rfl)⟩
set_option maxRecDepth 100000 in
theorem fl_Ledger_158 : FLink "WhoeverHeard$Ledger" 158 8 0 := ⟨(RX8, TX8, 5), rfl, by decide, (lwT_of (List.mem_of_getElem? (i := 179) rfl) rfl)⟩
set_option maxRecDepth 100000 in
theorem fl_W_175 : FLink "WhoeverHeard" 175 8 0 := ⟨(RX8, TX8, 5), rfl, by decide, (lwT_of (List.mem_of_getElem? (i := 180) rfl) rfl)⟩
set_option maxRecDepth 100000 in
theorem fl_Vows_15 : FLink "WhoeverHeard$Vows" 15 8 1 := ⟨(RX8, TX8, 5), rfl, by decide, (lwT_of (List.mem_of_getElem? (i := 181) rfl) rfl)⟩
set_option maxRecDepth 100000 in
theorem fl_Ledger_147 : FLink "WhoeverHeard$Ledger" 147 8 1 := ⟨(RX8, TX8, 5), rfl, by decide, (lwT_of (List.mem_of_getElem? (i := 182) rfl) rfl)⟩
set_option maxRecDepth 100000 in
theorem fl_W_178 : FLink "WhoeverHeard" 178 8 1 := ⟨(RX8, TX8, 5), rfl, by decide, (lwT_of (List.mem_of_getElem? (i := 183) rfl) rfl)⟩
set_option maxRecDepth 100000 in
theorem fl_Vows_18 : FLink "WhoeverHeard$Vows" 18 8 2 := ⟨(RX8, TX8, 5), rfl, by decide, (lwT_of (List.mem_of_getElem? (i := 184) rfl) rfl)⟩
set_option maxRecDepth 100000 in
theorem fl_W_181 : FLink "WhoeverHeard" 181 8 2 := ⟨(RX8, TX8, 5), rfl, by decide, (lwT_of (List.mem_of_getElem? (i := 185) rfl) rfl)⟩
set_option maxRecDepth 100000 in
theorem fl_Ledger_196 : FLink "WhoeverHeard$Ledger" 196 8 2 := ⟨(RX8, TX8, 5), rfl, by decide, (lwT_of (List.mem_of_getElem? (i := 186) rfl) rfl)⟩
set_option maxRecDepth 100000 in
theorem fl_Vows_21 : FLink "WhoeverHeard$Vows" 21 8 3 := ⟨(RX8, TX8, 5), rfl, by decide, (lwT_of (List.mem_of_getElem? (i := 187) rfl) rfl)⟩
set_option maxRecDepth 100000 in
theorem fl_Ledger_181 : FLink "WhoeverHeard$Ledger" 181 8 3 := ⟨(RX8, TX8, 5), rfl, by decide, (lwT_of (List.mem_of_getElem? (i := 188) rfl) rfl)⟩
set_option maxRecDepth 100000 in
theorem fl_W_184 : FLink "WhoeverHeard" 184 8 3 := ⟨(RX8, TX8, 5), rfl, by decide, (lwT_of (List.mem_of_getElem? (i := 189) rfl) rfl)⟩
set_option maxRecDepth 100000 in
theorem fl_Vows_24 : FLink "WhoeverHeard$Vows" 24 8 4 := ⟨(RX8, TX8, 5), rfl, by decide, (lwT_of (List.mem_of_getElem? (i := 190) rfl) rfl)⟩
set_option maxRecDepth 100000 in
theorem fl_W_124 : FLink "WhoeverHeard" 124 8 4 := ⟨(RX8, TX8, 5), rfl, by decide, (lwT_of (List.mem_of_getElem? (i := 191) rfl) rfl)⟩
set_option maxRecDepth 100000 in
theorem fl_Ledger_180 : FLink "WhoeverHeard$Ledger" 180 8 4 := ⟨(RX8, TX8, 5), rfl, by decide, (lwT_of (List.mem_of_getElem? (i := 192) rfl) rfl)⟩
set_option maxRecDepth 100000 in
theorem cl_W_30 : Cond.classLink "WhoeverHeard" 30 "WhoeverHeard$Sayings" ∈ lwT := (lwT_of (List.mem_of_getElem? (i := 204) rfl) rfl)
set_option maxRecDepth 100000 in
theorem in_Sayings : Cond.instantiable "WhoeverHeard$Sayings" 5 ∈ lwT := (lwT_of (List.mem_of_getElem? (i := 205) rfl) rfl)
set_option maxRecDepth 100000 in
theorem ml_Sayings_3 : Cond.methodLink "WhoeverHeard$Sayings" 3 Lib.objectInit ∈ lwT := (lwT_of (List.mem_of_getElem? (i := 209) rfl) rfl)
set_option maxRecDepth 100000 in
theorem fl_Sayings_9 : FLink "WhoeverHeard$Sayings" 9 4 0 := ⟨(RX4, TX4, 5), rfl, by decide, (lwT_of (List.mem_of_getElem? (i := 210) rfl) rfl)⟩
set_option maxRecDepth 100000 in
theorem fl_Ledger_144 : FLink "WhoeverHeard$Ledger" 144 4 0 := ⟨(RX4, TX4, 5), rfl, by decide, (lwT_of (List.mem_of_getElem? (i := 211) rfl) rfl)⟩
set_option maxRecDepth 100000 in
theorem fl_W_193 : FLink "WhoeverHeard" 193 4 0 := ⟨(RX4, TX4, 5), rfl, by decide, (lwT_of (List.mem_of_getElem? (i := 212) rfl) rfl)⟩
set_option maxRecDepth 100000 in
theorem fl_Sayings_15 : FLink "WhoeverHeard$Sayings" 15 4 1 := ⟨(RX4, TX4, 5), rfl, by decide, (lwT_of (List.mem_of_getElem? (i := 213) rfl) rfl)⟩
set_option maxRecDepth 100000 in
theorem fl_Ledger_103 : FLink "WhoeverHeard$Ledger" 103 4 1 := ⟨(RX4, TX4, 5), rfl, by decide, (lwT_of (List.mem_of_getElem? (i := 214) rfl) rfl)⟩
set_option maxRecDepth 100000 in
theorem fl_W_196 : FLink "WhoeverHeard" 196 4 1 := ⟨(RX4, TX4, 5), rfl, by decide, (lwT_of (List.mem_of_getElem? (i := 215) rfl) rfl)⟩
set_option maxRecDepth 100000 in
theorem fl_Sayings_18 : FLink "WhoeverHeard$Sayings" 18 4 2 := ⟨(RX4, TX4, 5), rfl, by decide, (lwT_of (List.mem_of_getElem? (i := 216) rfl) rfl)⟩
set_option maxRecDepth 100000 in
theorem fl_Ledger_85 : FLink "WhoeverHeard$Ledger" 85 4 2 := ⟨(RX4, TX4, 5), rfl, by decide, (lwT_of (List.mem_of_getElem? (i := 217) rfl) rfl)⟩
set_option maxRecDepth 100000 in
theorem fl_W_199 : FLink "WhoeverHeard" 199 4 2 := ⟨(RX4, TX4, 5), rfl, by decide, (lwT_of (List.mem_of_getElem? (i := 218) rfl) rfl)⟩
set_option maxRecDepth 100000 in
theorem fl_Sayings_21 : FLink "WhoeverHeard$Sayings" 21 4 3 := ⟨(RX4, TX4, 5), rfl, by decide, (lwT_of (List.mem_of_getElem? (i := 219) rfl) rfl)⟩
set_option maxRecDepth 100000 in
theorem fl_Ledger_96 : FLink "WhoeverHeard$Ledger" 96 4 3 := ⟨(RX4, TX4, 5), rfl, by decide, (lwT_of (List.mem_of_getElem? (i := 220) rfl) rfl)⟩
set_option maxRecDepth 100000 in
theorem fl_W_202 : FLink "WhoeverHeard" 202 4 3 := ⟨(RX4, TX4, 5), rfl, by decide, (lwT_of (List.mem_of_getElem? (i := 221) rfl) rfl)⟩
set_option maxRecDepth 100000 in
theorem fl_Sayings_24 : FLink "WhoeverHeard$Sayings" 24 4 4 := ⟨(RX4, TX4, 5), rfl, by decide, (lwT_of (List.mem_of_getElem? (i := 222) rfl) rfl)⟩
set_option maxRecDepth 100000 in
theorem fl_Ledger_70 : FLink "WhoeverHeard$Ledger" 70 4 4 := ⟨(RX4, TX4, 5), rfl, by decide, (lwT_of (List.mem_of_getElem? (i := 223) rfl) rfl)⟩
set_option maxRecDepth 100000 in
theorem fl_W_125 : FLink "WhoeverHeard" 125 4 4 := ⟨(RX4, TX4, 5), rfl, by decide, (lwT_of (List.mem_of_getElem? (i := 224) rfl) rfl)⟩
set_option maxRecDepth 100000 in
theorem cl_W_37 : Cond.classLink "WhoeverHeard" 37 "WhoeverHeard$Reader" ∈ lwT := (lwT_of (List.mem_of_getElem? (i := 236) rfl) rfl)
set_option maxRecDepth 100000 in
theorem in_Reader : Cond.instantiable "WhoeverHeard$Reader" 10 ∈ lwT := (lwT_of (List.mem_of_getElem? (i := 237) rfl) rfl)
set_option maxRecDepth 100000 in
theorem ml_Reader_3 : Cond.methodLink "WhoeverHeard$Reader" 3 Lib.objectInit ∈ lwT := (lwT_of (List.mem_of_getElem? (i := 241) rfl) rfl)
set_option maxRecDepth 100000 in
theorem fl_Reader_9 : FLink "WhoeverHeard$Reader" 9 3 0 := ⟨(RX3, TX3, 10), rfl, by decide, (lwT_of (List.mem_of_getElem? (i := 242) rfl) rfl)⟩
set_option maxRecDepth 100000 in
theorem fl_Reader_15 : FLink "WhoeverHeard$Reader" 15 3 1 := ⟨(RX3, TX3, 10), rfl, by decide, (lwT_of (List.mem_of_getElem? (i := 243) rfl) rfl)⟩
set_option maxRecDepth 100000 in
theorem fl_W_130 : FLink "WhoeverHeard" 130 3 1 := ⟨(RX3, TX3, 10), rfl, by decide, (lwT_of (List.mem_of_getElem? (i := 244) rfl) rfl)⟩
set_option maxRecDepth 100000 in
theorem fl_Reader_19 : FLink "WhoeverHeard$Reader" 19 3 2 := ⟨(RX3, TX3, 10), rfl, by decide, (lwT_of (List.mem_of_getElem? (i := 245) rfl) rfl)⟩
set_option maxRecDepth 100000 in
theorem fl_Reader_22 : FLink "WhoeverHeard$Reader" 22 3 3 := ⟨(RX3, TX3, 10), rfl, by decide, (lwT_of (List.mem_of_getElem? (i := 246) rfl) rfl)⟩
set_option maxRecDepth 100000 in
theorem fl_Reader_25 : FLink "WhoeverHeard$Reader" 25 3 4 := ⟨(RX3, TX3, 10), rfl, by decide, (lwT_of (List.mem_of_getElem? (i := 247) rfl) rfl)⟩
set_option maxRecDepth 100000 in
theorem fl_Reader_28 : FLink "WhoeverHeard$Reader" 28 3 5 := ⟨(RX3, TX3, 10), rfl, by decide, (lwT_of (List.mem_of_getElem? (i := 248) rfl) rfl)⟩
set_option maxRecDepth 100000 in
theorem fl_Reader_31 : FLink "WhoeverHeard$Reader" 31 3 6 := ⟨(RX3, TX3, 10), rfl, by decide, (lwT_of (List.mem_of_getElem? (i := 249) rfl) rfl)⟩
set_option maxRecDepth 100000 in
theorem fl_Reader_34 : FLink "WhoeverHeard$Reader" 34 3 7 := ⟨(RX3, TX3, 10), rfl, by decide, (lwT_of (List.mem_of_getElem? (i := 250) rfl) rfl)⟩
set_option maxRecDepth 100000 in
theorem fl_Texts_31 : FLink "WhoeverHeard$Texts" 31 3 7 := ⟨(RX3, TX3, 10), rfl, by decide, (lwT_of (List.mem_of_getElem? (i := 251) rfl) rfl)⟩
set_option maxRecDepth 100000 in
theorem fl_Reader_37 : FLink "WhoeverHeard$Reader" 37 3 8 := ⟨(RX3, TX3, 10), rfl, by decide, (lwT_of (List.mem_of_getElem? (i := 252) rfl) rfl)⟩
set_option maxRecDepth 100000 in
theorem fl_Texts_40 : FLink "WhoeverHeard$Texts" 40 3 8 := ⟨(RX3, TX3, 10), rfl, by decide, (lwT_of (List.mem_of_getElem? (i := 253) rfl) rfl)⟩
set_option maxRecDepth 100000 in
theorem fl_Reader_40 : FLink "WhoeverHeard$Reader" 40 3 9 := ⟨(RX3, TX3, 10), rfl, by decide, (lwT_of (List.mem_of_getElem? (i := 254) rfl) rfl)⟩
set_option maxRecDepth 100000 in
theorem cl_W_44 : Cond.classLink "WhoeverHeard" 44 "WhoeverHeard$Texts" ∈ lwT := (lwT_of (List.mem_of_getElem? (i := 276) rfl) rfl)
set_option maxRecDepth 100000 in
theorem in_Texts : Cond.instantiable "WhoeverHeard$Texts" 6 ∈ lwT := (lwT_of (List.mem_of_getElem? (i := 277) rfl) rfl)
set_option maxRecDepth 100000 in
theorem ml_Texts_3 : Cond.methodLink "WhoeverHeard$Texts" 3 Lib.objectInit ∈ lwT := (lwT_of (List.mem_of_getElem? (i := 281) rfl) rfl)
set_option maxRecDepth 100000 in
theorem fl_Texts_9 : FLink "WhoeverHeard$Texts" 9 6 0 := ⟨(RX6, TX6, 6), rfl, by decide, (lwT_of (List.mem_of_getElem? (i := 282) rfl) rfl)⟩
set_option maxRecDepth 100000 in
theorem fl_Texts_15 : FLink "WhoeverHeard$Texts" 15 6 1 := ⟨(RX6, TX6, 6), rfl, by decide, (lwT_of (List.mem_of_getElem? (i := 283) rfl) rfl)⟩
set_option maxRecDepth 100000 in
theorem fl_Texts_18 : FLink "WhoeverHeard$Texts" 18 6 2 := ⟨(RX6, TX6, 6), rfl, by decide, (lwT_of (List.mem_of_getElem? (i := 284) rfl) rfl)⟩
set_option maxRecDepth 100000 in
theorem fl_W_126 : FLink "WhoeverHeard" 126 6 2 := ⟨(RX6, TX6, 6), rfl, by decide, (lwT_of (List.mem_of_getElem? (i := 285) rfl) rfl)⟩
set_option maxRecDepth 100000 in
theorem fl_Texts_22 : FLink "WhoeverHeard$Texts" 22 6 3 := ⟨(RX6, TX6, 6), rfl, by decide, (lwT_of (List.mem_of_getElem? (i := 286) rfl) rfl)⟩
set_option maxRecDepth 100000 in
theorem fl_Image_59 : FLink "WhoeverHeard$Image" 59 6 3 := ⟨(RX6, TX6, 6), rfl, by decide, (lwT_of (List.mem_of_getElem? (i := 287) rfl) rfl)⟩
set_option maxRecDepth 100000 in
theorem fl_W_127 : FLink "WhoeverHeard" 127 6 3 := ⟨(RX6, TX6, 6), rfl, by decide, (lwT_of (List.mem_of_getElem? (i := 288) rfl) rfl)⟩
set_option maxRecDepth 100000 in
theorem fl_Texts_25 : FLink "WhoeverHeard$Texts" 25 6 4 := ⟨(RX6, TX6, 6), rfl, by decide, (lwT_of (List.mem_of_getElem? (i := 289) rfl) rfl)⟩
set_option maxRecDepth 100000 in
theorem fl_Ledger_93 : FLink "WhoeverHeard$Ledger" 93 6 4 := ⟨(RX6, TX6, 6), rfl, by decide, (lwT_of (List.mem_of_getElem? (i := 290) rfl) rfl)⟩
set_option maxRecDepth 100000 in
theorem fl_Texts_28 : FLink "WhoeverHeard$Texts" 28 6 5 := ⟨(RX6, TX6, 6), rfl, by decide, (lwT_of (List.mem_of_getElem? (i := 291) rfl) rfl)⟩
set_option maxRecDepth 100000 in
theorem cl_W_51 : Cond.classLink "WhoeverHeard" 51 "WhoeverHeard$Ledger" ∈ lwT := (lwT_of (List.mem_of_getElem? (i := 305) rfl) rfl)
set_option maxRecDepth 100000 in
theorem in_Ledger : Cond.instantiable "WhoeverHeard$Ledger" 15 ∈ lwT := (lwT_of (List.mem_of_getElem? (i := 306) rfl) rfl)
set_option maxRecDepth 100000 in
theorem ml_W_53 : Cond.methodLink "WhoeverHeard" 53 (my mLedger_init) ∈ lwT := (lwT_of (List.mem_of_getElem? (i := 307) rfl) rfl)
set_option maxRecDepth 100000 in
theorem ml_Ledger_3 : Cond.methodLink "WhoeverHeard$Ledger" 3 Lib.objectInit ∈ lwT := (lwT_of (List.mem_of_getElem? (i := 310) rfl) rfl)
set_option maxRecDepth 100000 in
theorem fl_Ledger_43 : FLink "WhoeverHeard$Ledger" 43 2 0 := ⟨(RX2, TX2, 15), rfl, by decide, (lwT_of (List.mem_of_getElem? (i := 311) rfl) rfl)⟩
set_option maxRecDepth 100000 in
theorem fl_Ledger_47 : FLink "WhoeverHeard$Ledger" 47 2 1 := ⟨(RX2, TX2, 15), rfl, by decide, (lwT_of (List.mem_of_getElem? (i := 312) rfl) rfl)⟩
set_option maxRecDepth 100000 in
theorem fl_Ledger_51 : FLink "WhoeverHeard$Ledger" 51 2 2 := ⟨(RX2, TX2, 15), rfl, by decide, (lwT_of (List.mem_of_getElem? (i := 313) rfl) rfl)⟩
set_option maxRecDepth 100000 in
theorem fl_Ledger_55 : FLink "WhoeverHeard$Ledger" 55 2 3 := ⟨(RX2, TX2, 15), rfl, by decide, (lwT_of (List.mem_of_getElem? (i := 314) rfl) rfl)⟩
set_option maxRecDepth 100000 in
theorem fl_Ledger_59 : FLink "WhoeverHeard$Ledger" 59 2 4 := ⟨(RX2, TX2, 15), rfl, by decide, (lwT_of (List.mem_of_getElem? (i := 315) rfl) rfl)⟩
set_option maxRecDepth 100000 in
theorem fl_Ledger_9 : FLink "WhoeverHeard$Ledger" 9 2 5 := ⟨(RX2, TX2, 15), rfl, by decide, (lwT_of (List.mem_of_getElem? (i := 316) rfl) rfl)⟩
set_option maxRecDepth 100000 in
theorem fl_Ledger_15 : FLink "WhoeverHeard$Ledger" 15 2 6 := ⟨(RX2, TX2, 15), rfl, by decide, (lwT_of (List.mem_of_getElem? (i := 317) rfl) rfl)⟩
set_option maxRecDepth 100000 in
theorem fl_W_208 : FLink "WhoeverHeard" 208 2 6 := ⟨(RX2, TX2, 15), rfl, by decide, (lwT_of (List.mem_of_getElem? (i := 318) rfl) rfl)⟩
set_option maxRecDepth 100000 in
theorem fl_Ledger_19 : FLink "WhoeverHeard$Ledger" 19 2 7 := ⟨(RX2, TX2, 15), rfl, by decide, (lwT_of (List.mem_of_getElem? (i := 319) rfl) rfl)⟩
set_option maxRecDepth 100000 in
theorem fl_W_211 : FLink "WhoeverHeard" 211 2 7 := ⟨(RX2, TX2, 15), rfl, by decide, (lwT_of (List.mem_of_getElem? (i := 320) rfl) rfl)⟩
set_option maxRecDepth 100000 in
theorem fl_Ledger_22 : FLink "WhoeverHeard$Ledger" 22 2 8 := ⟨(RX2, TX2, 15), rfl, by decide, (lwT_of (List.mem_of_getElem? (i := 321) rfl) rfl)⟩
set_option maxRecDepth 100000 in
theorem fl_Ledger_25 : FLink "WhoeverHeard$Ledger" 25 2 9 := ⟨(RX2, TX2, 15), rfl, by decide, (lwT_of (List.mem_of_getElem? (i := 322) rfl) rfl)⟩
set_option maxRecDepth 100000 in
theorem fl_W_216 : FLink "WhoeverHeard" 216 2 9 := ⟨(RX2, TX2, 15), rfl, by decide, (lwT_of (List.mem_of_getElem? (i := 323) rfl) rfl)⟩
set_option maxRecDepth 100000 in
theorem fl_Ledger_28 : FLink "WhoeverHeard$Ledger" 28 2 10 := ⟨(RX2, TX2, 15), rfl, by decide, (lwT_of (List.mem_of_getElem? (i := 324) rfl) rfl)⟩
set_option maxRecDepth 100000 in
theorem fl_W_219 : FLink "WhoeverHeard" 219 2 10 := ⟨(RX2, TX2, 15), rfl, by decide, (lwT_of (List.mem_of_getElem? (i := 325) rfl) rfl)⟩
set_option maxRecDepth 100000 in
theorem fl_Ledger_31 : FLink "WhoeverHeard$Ledger" 31 2 11 := ⟨(RX2, TX2, 15), rfl, by decide, (lwT_of (List.mem_of_getElem? (i := 326) rfl) rfl)⟩
set_option maxRecDepth 100000 in
theorem fl_W_222 : FLink "WhoeverHeard" 222 2 11 := ⟨(RX2, TX2, 15), rfl, by decide, (lwT_of (List.mem_of_getElem? (i := 327) rfl) rfl)⟩
set_option maxRecDepth 100000 in
theorem fl_Ledger_34 : FLink "WhoeverHeard$Ledger" 34 2 12 := ⟨(RX2, TX2, 15), rfl, by decide, (lwT_of (List.mem_of_getElem? (i := 328) rfl) rfl)⟩
set_option maxRecDepth 100000 in
theorem fl_W_225 : FLink "WhoeverHeard" 225 2 12 := ⟨(RX2, TX2, 15), rfl, by decide, (lwT_of (List.mem_of_getElem? (i := 329) rfl) rfl)⟩
set_option maxRecDepth 100000 in
theorem fl_Ledger_37 : FLink "WhoeverHeard$Ledger" 37 2 13 := ⟨(RX2, TX2, 15), rfl, by decide, (lwT_of (List.mem_of_getElem? (i := 330) rfl) rfl)⟩
set_option maxRecDepth 100000 in
theorem fl_W_263 : FLink "WhoeverHeard" 263 2 13 := ⟨(RX2, TX2, 15), rfl, by decide, (lwT_of (List.mem_of_getElem? (i := 331) rfl) rfl)⟩
set_option maxRecDepth 100000 in
theorem fl_Ledger_40 : FLink "WhoeverHeard$Ledger" 40 2 14 := ⟨(RX2, TX2, 15), rfl, by decide, (lwT_of (List.mem_of_getElem? (i := 332) rfl) rfl)⟩
set_option maxRecDepth 100000 in
theorem fl_W_274 : FLink "WhoeverHeard" 274 2 14 := ⟨(RX2, TX2, 15), rfl, by decide, (lwT_of (List.mem_of_getElem? (i := 333) rfl) rfl)⟩
set_option maxRecDepth 100000 in
theorem cl_W_60 : Cond.classLink "WhoeverHeard" 60 "WhoeverHeard$Image" ∈ lwT := (lwT_of (List.mem_of_getElem? (i := 365) rfl) rfl)
set_option maxRecDepth 100000 in
theorem in_Image : Cond.instantiable "WhoeverHeard$Image" 6 ∈ lwT := (lwT_of (List.mem_of_getElem? (i := 366) rfl) rfl)
set_option maxRecDepth 100000 in
theorem ml_Image_3 : Cond.methodLink "WhoeverHeard$Image" 3 Lib.objectInit ∈ lwT := (lwT_of (List.mem_of_getElem? (i := 370) rfl) rfl)
set_option maxRecDepth 100000 in
theorem cl_Image_9 : Cond.classLink "WhoeverHeard$Image" 9 "WhoeverHeard$Town" ∈ lwT := (lwT_of (List.mem_of_getElem? (i := 371) rfl) rfl)
set_option maxRecDepth 100000 in
theorem ml_Image_11 : Cond.methodLink "WhoeverHeard$Image" 11 (my mTown_init) ∈ lwT := (lwT_of (List.mem_of_getElem? (i := 372) rfl) rfl)
set_option maxRecDepth 100000 in
theorem cl_Image_18 : Cond.classLink "WhoeverHeard$Image" 18 "WhoeverHeard$Sayings" ∈ lwT := (lwT_of (List.mem_of_getElem? (i := 373) rfl) rfl)
set_option maxRecDepth 100000 in
theorem fl_Image_12 : FLink "WhoeverHeard$Image" 12 1 0 := ⟨(RX1, TX1, 6), rfl, by decide, (lwT_of (List.mem_of_getElem? (i := 375) rfl) rfl)⟩
set_option maxRecDepth 100000 in
theorem fl_Image_21 : FLink "WhoeverHeard$Image" 21 1 1 := ⟨(RX1, TX1, 6), rfl, by decide, (lwT_of (List.mem_of_getElem? (i := 376) rfl) rfl)⟩
set_option maxRecDepth 100000 in
theorem fl_Image_25 : FLink "WhoeverHeard$Image" 25 1 2 := ⟨(RX1, TX1, 6), rfl, by decide, (lwT_of (List.mem_of_getElem? (i := 377) rfl) rfl)⟩
set_option maxRecDepth 100000 in
theorem fl_Image_29 : FLink "WhoeverHeard$Image" 29 1 3 := ⟨(RX1, TX1, 6), rfl, by decide, (lwT_of (List.mem_of_getElem? (i := 378) rfl) rfl)⟩
set_option maxRecDepth 100000 in
theorem fl_Image_33 : FLink "WhoeverHeard$Image" 33 1 4 := ⟨(RX1, TX1, 6), rfl, by decide, (lwT_of (List.mem_of_getElem? (i := 379) rfl) rfl)⟩
set_option maxRecDepth 100000 in
theorem fl_Image_36 : FLink "WhoeverHeard$Image" 36 1 5 := ⟨(RX1, TX1, 6), rfl, by decide, (lwT_of (List.mem_of_getElem? (i := 380) rfl) rfl)⟩
set_option maxRecDepth 100000 in
theorem fl_W_322 : FLink "WhoeverHeard" 322 1 5 := ⟨(RX1, TX1, 6), rfl, by decide, (lwT_of (List.mem_of_getElem? (i := 381) rfl) rfl)⟩
set_option maxRecDepth 100000 in
theorem cl_W_67 : Cond.classLink "WhoeverHeard" 67 "WhoeverHeard$Sheets" ∈ lwT := (lwT_of (List.mem_of_getElem? (i := 395) rfl) rfl)
set_option maxRecDepth 100000 in
theorem in_Sheets : Cond.instantiable "WhoeverHeard$Sheets" 3 ∈ lwT := (lwT_of (List.mem_of_getElem? (i := 396) rfl) rfl)
set_option maxRecDepth 100000 in
theorem ml_Sheets_3 : Cond.methodLink "WhoeverHeard$Sheets" 3 Lib.objectInit ∈ lwT := (lwT_of (List.mem_of_getElem? (i := 400) rfl) rfl)
set_option maxRecDepth 100000 in
theorem fl_Sheets_9 : FLink "WhoeverHeard$Sheets" 9 5 0 := ⟨(RX5, TX5, 3), rfl, by decide, (lwT_of (List.mem_of_getElem? (i := 401) rfl) rfl)⟩
set_option maxRecDepth 100000 in
theorem fl_W_340 : FLink "WhoeverHeard" 340 5 0 := ⟨(RX5, TX5, 3), rfl, by decide, (lwT_of (List.mem_of_getElem? (i := 402) rfl) rfl)⟩
set_option maxRecDepth 100000 in
theorem fl_Sheets_15 : FLink "WhoeverHeard$Sheets" 15 5 1 := ⟨(RX5, TX5, 3), rfl, by decide, (lwT_of (List.mem_of_getElem? (i := 403) rfl) rfl)⟩
set_option maxRecDepth 100000 in
theorem fl_W_335 : FLink "WhoeverHeard" 335 5 1 := ⟨(RX5, TX5, 3), rfl, by decide, (lwT_of (List.mem_of_getElem? (i := 404) rfl) rfl)⟩
set_option maxRecDepth 100000 in
theorem fl_Sheets_18 : FLink "WhoeverHeard$Sheets" 18 5 2 := ⟨(RX5, TX5, 3), rfl, by decide, (lwT_of (List.mem_of_getElem? (i := 405) rfl) rfl)⟩
set_option maxRecDepth 100000 in
theorem fl_W_343 : FLink "WhoeverHeard" 343 5 2 := ⟨(RX5, TX5, 3), rfl, by decide, (lwT_of (List.mem_of_getElem? (i := 406) rfl) rfl)⟩
set_option maxRecDepth 100000 in
theorem ml_W_76 : Cond.methodLink "WhoeverHeard" 76 (my mString_length) ∈ lwT := (lwT_of (List.mem_of_getElem? (i := 415) rfl) rfl)
set_option maxRecDepth 100000 in
theorem ml_String_335 : Cond.methodLink "java/lang/String" 335 (my mString_coder) ∈ lwT := (lwT_of (List.mem_of_getElem? (i := 419) rfl) rfl)
set_option maxRecDepth 100000 in
theorem ml_W_82 : Cond.methodLink "WhoeverHeard" 82 (my mString_charAt) ∈ lwT := (lwT_of (List.mem_of_getElem? (i := 425) rfl) rfl)
set_option maxRecDepth 100000 in
theorem ml_String_492 : Cond.methodLink "java/lang/String" 492 (my mString_isLatin1) ∈ lwT := (lwT_of (List.mem_of_getElem? (i := 429) rfl) rfl)
set_option maxRecDepth 100000 in
theorem ml_String_495 : Cond.methodLink "java/lang/String" 495 (my mStringLatin1_charAt) ∈ lwT := (lwT_of (List.mem_of_getElem? (i := 433) rfl) rfl)
set_option maxRecDepth 100000 in
theorem ml_StringLatin1_9 : Cond.methodLink "java/lang/StringLatin1" 9 (my mString_checkIndex) ∈ lwT := (lwT_of (List.mem_of_getElem? (i := 436) rfl) rfl)
set_option maxRecDepth 100000 in
theorem ml_String_1059 : Cond.methodLink "java/lang/String" 1059 (my mPreconditions_checkIndex) ∈ lwT := (lwT_of (List.mem_of_getElem? (i := 441) rfl) rfl)
set_option maxRecDepth 100000 in
theorem ml_String_498 : Cond.methodLink "java/lang/String" 498 (my mStringUTF16_charAt) ∈ lwT := (lwT_of (List.mem_of_getElem? (i := 444) rfl) rfl)
set_option maxRecDepth 100000 in
theorem ml_StringUTF16_67 : Cond.methodLink "java/lang/StringUTF16" 67 (my mStringUTF16_checkIndex) ∈ lwT := (lwT_of (List.mem_of_getElem? (i := 447) rfl) rfl)
set_option maxRecDepth 100000 in
theorem ml_StringUTF16_48 : Cond.methodLink "java/lang/StringUTF16" 48 (my mStringUTF16_length) ∈ lwT := (lwT_of (List.mem_of_getElem? (i := 450) rfl) rfl)
set_option maxRecDepth 100000 in
theorem ml_StringUTF16_414 : Cond.methodLink "java/lang/StringUTF16" 414 (my mString_checkIndex) ∈ lwT := (lwT_of (List.mem_of_getElem? (i := 453) rfl) rfl)
set_option maxRecDepth 100000 in
theorem ml_StringUTF16_71 : Cond.methodLink "java/lang/StringUTF16" 71 (my mStringUTF16_getChar) ∈ lwT := (lwT_of (List.mem_of_getElem? (i := 454) rfl) rfl)
set_option maxRecDepth 100000 in
theorem ml_W_86 : Cond.methodLink "WhoeverHeard" 86 (my mReader_put) ∈ lwT := (lwT_of (List.mem_of_getElem? (i := 463) rfl) rfl)
set_option maxRecDepth 100000 in
theorem ml_W_90 : Cond.methodLink "WhoeverHeard" 90 (my mReader_reads) ∈ lwT := (lwT_of (List.mem_of_getElem? (i := 467) rfl) rfl)
set_option maxRecDepth 100000 in
theorem ml_Reader_43 : Cond.methodLink "WhoeverHeard$Reader" 43 (my mReader_cut) ∈ lwT := (lwT_of (List.mem_of_getElem? (i := 471) rfl) rfl)
set_option maxRecDepth 100000 in
theorem ml_Reader_54 : Cond.methodLink "WhoeverHeard$Reader" 54 (my mReader_isLetter) ∈ lwT := (lwT_of (List.mem_of_getElem? (i := 475) rfl) rfl)
set_option maxRecDepth 100000 in
theorem ml_Reader_57 : Cond.methodLink "WhoeverHeard$Reader" 57 (my mReader_lettersEnd) ∈ lwT := (lwT_of (List.mem_of_getElem? (i := 481) rfl) rfl)
set_option maxRecDepth 100000 in
theorem ml_Reader_61 : Cond.methodLink "WhoeverHeard$Reader" 61 (my mReader_putWord) ∈ lwT := (lwT_of (List.mem_of_getElem? (i := 485) rfl) rfl)
set_option maxRecDepth 100000 in
theorem ml_Reader_81 : Cond.methodLink "WhoeverHeard$Reader" 81 (my mReader_nameAt) ∈ lwT := (lwT_of (List.mem_of_getElem? (i := 489) rfl) rfl)
set_option maxRecDepth 100000 in
theorem ml_Reader_90 : Cond.methodLink "WhoeverHeard$Reader" 90 (my mReader_spells) ∈ lwT := (lwT_of (List.mem_of_getElem? (i := 494) rfl) rfl)
set_option maxRecDepth 100000 in
theorem ml_Reader_116 : Cond.methodLink "WhoeverHeard$Reader" 116 (my mString_length) ∈ lwT := (lwT_of (List.mem_of_getElem? (i := 498) rfl) rfl)
set_option maxRecDepth 100000 in
theorem ml_Reader_122 : Cond.methodLink "WhoeverHeard$Reader" 122 (my mString_charAt) ∈ lwT := (lwT_of (List.mem_of_getElem? (i := 499) rfl) rfl)
set_option maxRecDepth 100000 in
theorem ml_Reader_77 : Cond.methodLink "WhoeverHeard$Reader" 77 (my mReader_putToken) ∈ lwT := (lwT_of (List.mem_of_getElem? (i := 505) rfl) rfl)
set_option maxRecDepth 100000 in
theorem ml_Reader_85 : Cond.methodLink "WhoeverHeard$Reader" 85 (my mReader_keyAt) ∈ lwT := (lwT_of (List.mem_of_getElem? (i := 509) rfl) rfl)
set_option maxRecDepth 100000 in
theorem ml_Reader_65 : Cond.methodLink "WhoeverHeard$Reader" 65 (my mReader_isDigit) ∈ lwT := (lwT_of (List.mem_of_getElem? (i := 519) rfl) rfl)
set_option maxRecDepth 100000 in
theorem ml_Reader_68 : Cond.methodLink "WhoeverHeard$Reader" 68 (my mReader_digitsEnd) ∈ lwT := (lwT_of (List.mem_of_getElem? (i := 522) rfl) rfl)
set_option maxRecDepth 100000 in
theorem ml_Reader_71 : Cond.methodLink "WhoeverHeard$Reader" 71 (my mReader_putNumber) ∈ lwT := (lwT_of (List.mem_of_getElem? (i := 526) rfl) rfl)
set_option maxRecDepth 100000 in
theorem ml_Reader_74 : Cond.methodLink "WhoeverHeard$Reader" 74 (my mReader_isSign) ∈ lwT := (lwT_of (List.mem_of_getElem? (i := 530) rfl) rfl)
set_option maxRecDepth 100000 in
theorem ml_Reader_46 : Cond.methodLink "WhoeverHeard$Reader" 46 (my mReader_passes) ∈ lwT := (lwT_of (List.mem_of_getElem? (i := 533) rfl) rfl)
set_option maxRecDepth 100000 in
theorem ml_Reader_50 : Cond.methodLink "WhoeverHeard$Reader" 50 (my mReader_level) ∈ lwT := (lwT_of (List.mem_of_getElem? (i := 537) rfl) rfl)
set_option maxRecDepth 100000 in
theorem ml_Reader_130 : Cond.methodLink "WhoeverHeard$Reader" 130 (my mReader_negation) ∈ lwT := (lwT_of (List.mem_of_getElem? (i := 541) rfl) rfl)
set_option maxRecDepth 100000 in
theorem ml_Reader_143 : Cond.methodLink "WhoeverHeard$Reader" 143 (my mReader_opens) ∈ lwT := (lwT_of (List.mem_of_getElem? (i := 545) rfl) rfl)
set_option maxRecDepth 100000 in
theorem ml_Reader_146 : Cond.methodLink "WhoeverHeard$Reader" 146 (my mReader_did) ∈ lwT := (lwT_of (List.mem_of_getElem? (i := 549) rfl) rfl)
set_option maxRecDepth 100000 in
theorem ml_Reader_139 : Cond.methodLink "WhoeverHeard$Reader" 139 (my mReader_step) ∈ lwT := (lwT_of (List.mem_of_getElem? (i := 553) rfl) rfl)
set_option maxRecDepth 100000 in
theorem ml_Reader_133 : Cond.methodLink "WhoeverHeard$Reader" 133 (my mReader_one) ∈ lwT := (lwT_of (List.mem_of_getElem? (i := 557) rfl) rfl)
set_option maxRecDepth 100000 in
theorem ml_Reader_136 : Cond.methodLink "WhoeverHeard$Reader" 136 (my mReader_joins) ∈ lwT := (lwT_of (List.mem_of_getElem? (i := 561) rfl) rfl)
set_option maxRecDepth 100000 in
theorem ml_W_94 : Cond.methodLink "WhoeverHeard" 94 (my mTexts_add) ∈ lwT := (lwT_of (List.mem_of_getElem? (i := 564) rfl) rfl)
set_option maxRecDepth 100000 in
theorem ml_Texts_34 : Cond.methodLink "WhoeverHeard$Texts" 34 arraycopyName ∈ lwT := (lwT_of (List.mem_of_getElem? (i := 568) rfl) rfl)
set_option maxRecDepth 100000 in
theorem ml_W_98 : Cond.methodLink "WhoeverHeard" 98 (my mReader_clear) ∈ lwT := (lwT_of (List.mem_of_getElem? (i := 571) rfl) rfl)
set_option maxRecDepth 100000 in
theorem fl_W_12 : FLink "WhoeverHeard" 12 9 0 := ⟨(RX9, TX9, 9), rfl, by decide, (lwT_of (List.mem_of_getElem? (i := 575) rfl) rfl)⟩
set_option maxRecDepth 100000 in
theorem fl_W_19 : FLink "WhoeverHeard" 19 9 1 := ⟨(RX9, TX9, 9), rfl, by decide, (lwT_of (List.mem_of_getElem? (i := 576) rfl) rfl)⟩
set_option maxRecDepth 100000 in
theorem fl_W_26 : FLink "WhoeverHeard" 26 9 2 := ⟨(RX9, TX9, 9), rfl, by decide, (lwT_of (List.mem_of_getElem? (i := 577) rfl) rfl)⟩
set_option maxRecDepth 100000 in
theorem fl_W_33 : FLink "WhoeverHeard" 33 9 3 := ⟨(RX9, TX9, 9), rfl, by decide, (lwT_of (List.mem_of_getElem? (i := 578) rfl) rfl)⟩
set_option maxRecDepth 100000 in
theorem fl_W_40 : FLink "WhoeverHeard" 40 9 4 := ⟨(RX9, TX9, 9), rfl, by decide, (lwT_of (List.mem_of_getElem? (i := 579) rfl) rfl)⟩
set_option maxRecDepth 100000 in
theorem fl_W_47 : FLink "WhoeverHeard" 47 9 5 := ⟨(RX9, TX9, 9), rfl, by decide, (lwT_of (List.mem_of_getElem? (i := 580) rfl) rfl)⟩
set_option maxRecDepth 100000 in
theorem fl_W_56 : FLink "WhoeverHeard" 56 9 6 := ⟨(RX9, TX9, 9), rfl, by decide, (lwT_of (List.mem_of_getElem? (i := 581) rfl) rfl)⟩
set_option maxRecDepth 100000 in
theorem fl_W_63 : FLink "WhoeverHeard" 63 9 7 := ⟨(RX9, TX9, 9), rfl, by decide, (lwT_of (List.mem_of_getElem? (i := 582) rfl) rfl)⟩
set_option maxRecDepth 100000 in
theorem fl_W_70 : FLink "WhoeverHeard" 70 9 8 := ⟨(RX9, TX9, 9), rfl, by decide, (lwT_of (List.mem_of_getElem? (i := 583) rfl) rfl)⟩
set_option maxRecDepth 100000 in
theorem ml_Law_13 : Cond.methodLink "WhoeverHeardLaw" 13 (my mW_far) ∈ lwT := (lwT_of (List.mem_of_getElem? (i := 604) rfl) rfl)
set_option maxRecDepth 100000 in
theorem ml_W_101 : Cond.methodLink "WhoeverHeard" 101 (my mW_within) ∈ lwT := (lwT_of (List.mem_of_getElem? (i := 608) rfl) rfl)
set_option maxRecDepth 100000 in
theorem ml_W_105 : Cond.methodLink "WhoeverHeard" 105 (my mTown_between) ∈ lwT := (lwT_of (List.mem_of_getElem? (i := 609) rfl) rfl)
set_option maxRecDepth 100000 in
theorem ml_W_109 : Cond.methodLink "WhoeverHeard" 109 (my mTown_setBetween) ∈ lwT := (lwT_of (List.mem_of_getElem? (i := 613) rfl) rfl)
set_option maxRecDepth 100000 in
theorem ml_Law_18 : Cond.methodLink "WhoeverHeardLaw" 18 (my mW_hush) ∈ lwT := (lwT_of (List.mem_of_getElem? (i := 617) rfl) rfl)
set_option maxRecDepth 100000 in
theorem ml_Law_23 : Cond.methodLink "WhoeverHeardLaw" 23 (my mW_stride) ∈ lwT := (lwT_of (List.mem_of_getElem? (i := 621) rfl) rfl)
set_option maxRecDepth 100000 in
theorem ml_Law_28 : Cond.methodLink "WhoeverHeardLaw" 28 (my mW_count) ∈ lwT := (lwT_of (List.mem_of_getElem? (i := 625) rfl) rfl)
set_option maxRecDepth 100000 in
theorem ml_Law_32 : Cond.methodLink "WhoeverHeardLaw" 32 (my mW_feed) ∈ lwT := (lwT_of (List.mem_of_getElem? (i := 629) rfl) rfl)
set_option maxRecDepth 100000 in
theorem ml_W_133 : Cond.methodLink "WhoeverHeard" 133 (my mW_isByte) ∈ lwT := (lwT_of (List.mem_of_getElem? (i := 633) rfl) rfl)
set_option maxRecDepth 100000 in
theorem ml_Law_37 : Cond.methodLink "WhoeverHeardLaw" 37 (my mW_text) ∈ lwT := (lwT_of (List.mem_of_getElem? (i := 636) rfl) rfl)
set_option maxRecDepth 100000 in
theorem ml_W_137 : Cond.methodLink "WhoeverHeard" 137 (my mReader_fault) ∈ lwT := (lwT_of (List.mem_of_getElem? (i := 640) rfl) rfl)
set_option maxRecDepth 100000 in
theorem ml_Law_42 : Cond.methodLink "WhoeverHeardLaw" 42 (my mW_force) ∈ lwT := (lwT_of (List.mem_of_getElem? (i := 644) rfl) rfl)
set_option maxRecDepth 100000 in
theorem ml_Law_46 : Cond.methodLink "WhoeverHeardLaw" 46 (my mW_person) ∈ lwT := (lwT_of (List.mem_of_getElem? (i := 648) rfl) rfl)
set_option maxRecDepth 100000 in
theorem ml_W_140 : Cond.methodLink "WhoeverHeard" 140 (my mFolk_add) ∈ lwT := (lwT_of (List.mem_of_getElem? (i := 652) rfl) rfl)
set_option maxRecDepth 100000 in
theorem ml_Law_51 : Cond.methodLink "WhoeverHeardLaw" 51 (my mW_move) ∈ lwT := (lwT_of (List.mem_of_getElem? (i := 656) rfl) rfl)
set_option maxRecDepth 100000 in
theorem ml_W_143 : Cond.methodLink "WhoeverHeard" 143 (my mFolk_has) ∈ lwT := (lwT_of (List.mem_of_getElem? (i := 660) rfl) rfl)
set_option maxRecDepth 100000 in
theorem ml_Law_55 : Cond.methodLink "WhoeverHeardLaw" 55 (my mW_told) ∈ lwT := (lwT_of (List.mem_of_getElem? (i := 665) rfl) rfl)
set_option maxRecDepth 100000 in
theorem ml_W_170 : Cond.methodLink "WhoeverHeard" 170 (my mFolk_placeOf) ∈ lwT := (lwT_of (List.mem_of_getElem? (i := 669) rfl) rfl)
set_option maxRecDepth 100000 in
theorem ml_Folk_47 : Cond.methodLink "WhoeverHeard$Folk" 47 (my mFolk_startOf) ∈ lwT := (lwT_of (List.mem_of_getElem? (i := 673) rfl) rfl)
set_option maxRecDepth 100000 in
theorem ml_Folk_51 : Cond.methodLink "WhoeverHeard$Folk" 51 (my mFolk_isA) ∈ lwT := (lwT_of (List.mem_of_getElem? (i := 677) rfl) rfl)
set_option maxRecDepth 100000 in
theorem ml_Folk_55 : Cond.methodLink "WhoeverHeard$Folk" 55 (my mMath_max) ∈ lwT := (lwT_of (List.mem_of_getElem? (i := 683) rfl) rfl)
set_option maxRecDepth 100000 in
theorem ml_Law_59 : Cond.methodLink "WhoeverHeardLaw" 59 (my mW_promise) ∈ lwT := (lwT_of (List.mem_of_getElem? (i := 686) rfl) rfl)
set_option maxRecDepth 100000 in
theorem ml_W_173 : Cond.methodLink "WhoeverHeard" 173 (my mVows_add) ∈ lwT := (lwT_of (List.mem_of_getElem? (i := 690) rfl) rfl)
set_option maxRecDepth 100000 in
theorem ml_Law_63 : Cond.methodLink "WhoeverHeardLaw" 63 (my mW_promised) ∈ lwT := (lwT_of (List.mem_of_getElem? (i := 694) rfl) rfl)
set_option maxRecDepth 100000 in
theorem ml_W_174 : Cond.methodLink "WhoeverHeard" 174 (my mVows_has) ∈ lwT := (lwT_of (List.mem_of_getElem? (i := 698) rfl) rfl)
set_option maxRecDepth 100000 in
theorem ml_Law_67 : Cond.methodLink "WhoeverHeardLaw" 67 (my mW_say) ∈ lwT := (lwT_of (List.mem_of_getElem? (i := 703) rfl) rfl)
set_option maxRecDepth 100000 in
theorem ml_W_187 : Cond.methodLink "WhoeverHeard" 187 (my mW_isHow) ∈ lwT := (lwT_of (List.mem_of_getElem? (i := 707) rfl) rfl)
set_option maxRecDepth 100000 in
theorem ml_W_190 : Cond.methodLink "WhoeverHeard" 190 (my mSayings_put) ∈ lwT := (lwT_of (List.mem_of_getElem? (i := 710) rfl) rfl)
set_option maxRecDepth 100000 in
theorem ml_Law_71 : Cond.methodLink "WhoeverHeardLaw" 71 (my mW_unsay) ∈ lwT := (lwT_of (List.mem_of_getElem? (i := 714) rfl) rfl)
set_option maxRecDepth 100000 in
theorem ml_Law_75 : Cond.methodLink "WhoeverHeardLaw" 75 (my mW_said) ∈ lwT := (lwT_of (List.mem_of_getElem? (i := 718) rfl) rfl)
set_option maxRecDepth 100000 in
theorem ml_W_192 : Cond.methodLink "WhoeverHeard" 192 (my mSayings_has) ∈ lwT := (lwT_of (List.mem_of_getElem? (i := 722) rfl) rfl)
set_option maxRecDepth 100000 in
theorem ml_Law_79 : Cond.methodLink "WhoeverHeardLaw" 79 (my mW_hears) ∈ lwT := (lwT_of (List.mem_of_getElem? (i := 727) rfl) rfl)
set_option maxRecDepth 100000 in
theorem ml_W_205 : Cond.methodLink "WhoeverHeard" 205 (my mLedger_listen) ∈ lwT := (lwT_of (List.mem_of_getElem? (i := 731) rfl) rfl)
set_option maxRecDepth 100000 in
theorem ml_Ledger_75 : Cond.methodLink "WhoeverHeard$Ledger" 75 (my mLedger_listenTo) ∈ lwT := (lwT_of (List.mem_of_getElem? (i := 735) rfl) rfl)
set_option maxRecDepth 100000 in
theorem ml_Ledger_78 : Cond.methodLink "WhoeverHeard$Ledger" 78 (my mLedger_listenOne) ∈ lwT := (lwT_of (List.mem_of_getElem? (i := 739) rfl) rfl)
set_option maxRecDepth 100000 in
theorem ml_Ledger_88 : Cond.methodLink "WhoeverHeard$Ledger" 88 (my mTexts_giveNothing) ∈ lwT := (lwT_of (List.mem_of_getElem? (i := 743) rfl) rfl)
set_option maxRecDepth 100000 in
theorem ml_Ledger_99 : Cond.methodLink "WhoeverHeard$Ledger" 99 (my mFolk_placeOf) ∈ lwT := (lwT_of (List.mem_of_getElem? (i := 747) rfl) rfl)
set_option maxRecDepth 100000 in
theorem ml_Ledger_106 : Cond.methodLink "WhoeverHeard$Ledger" 106 (my mTown_between) ∈ lwT := (lwT_of (List.mem_of_getElem? (i := 748) rfl) rfl)
set_option maxRecDepth 100000 in
theorem ml_Ledger_117 : Cond.methodLink "WhoeverHeard$Ledger" 117 (my mTexts_value) ∈ lwT := (lwT_of (List.mem_of_getElem? (i := 749) rfl) rfl)
set_option maxRecDepth 100000 in
theorem ml_Texts_41 : Cond.methodLink "WhoeverHeard$Texts" 41 (my mMath_max) ∈ lwT := (lwT_of (List.mem_of_getElem? (i := 753) rfl) rfl)
set_option maxRecDepth 100000 in
theorem ml_Texts_47 : Cond.methodLink "WhoeverHeard$Texts" 47 (my mTexts_joined) ∈ lwT := (lwT_of (List.mem_of_getElem? (i := 754) rfl) rfl)
set_option maxRecDepth 100000 in
theorem ml_W_358 : Cond.methodLink "WhoeverHeard" 358 (my mMath_min) ∈ lwT := (lwT_of (List.mem_of_getElem? (i := 760) rfl) rfl)
set_option maxRecDepth 100000 in
theorem ml_W_266 : Cond.methodLink "WhoeverHeard" 266 (my mMath_max) ∈ lwT := (lwT_of (List.mem_of_getElem? (i := 763) rfl) rfl)
set_option maxRecDepth 100000 in
theorem ml_Ledger_123 : Cond.methodLink "WhoeverHeard$Ledger" 123 (my mFolk_hearingOf) ∈ lwT := (lwT_of (List.mem_of_getElem? (i := 764) rfl) rfl)
set_option maxRecDepth 100000 in
theorem ml_Ledger_127 : Cond.methodLink "WhoeverHeard$Ledger" 127 (my mLedger_setClear) ∈ lwT := (lwT_of (List.mem_of_getElem? (i := 768) rfl) rfl)
set_option maxRecDepth 100000 in
theorem ml_Law_83 : Cond.methodLink "WhoeverHeardLaw" 83 (my mW_heard) ∈ lwT := (lwT_of (List.mem_of_getElem? (i := 772) rfl) rfl)
set_option maxRecDepth 100000 in
theorem ml_Law_87 : Cond.methodLink "WhoeverHeardLaw" 87 (my mW_nobody) ∈ lwT := (lwT_of (List.mem_of_getElem? (i := 776) rfl) rfl)
set_option maxRecDepth 100000 in
theorem ml_Law_91 : Cond.methodLink "WhoeverHeardLaw" 91 (my mW_owe) ∈ lwT := (lwT_of (List.mem_of_getElem? (i := 780) rfl) rfl)
set_option maxRecDepth 100000 in
theorem ml_W_213 : Cond.methodLink "WhoeverHeard" 213 (my mLedger_reckon) ∈ lwT := (lwT_of (List.mem_of_getElem? (i := 784) rfl) rfl)
set_option maxRecDepth 100000 in
theorem ml_Ledger_63 : Cond.methodLink "WhoeverHeard$Ledger" 63 (my mLedger_listen) ∈ lwT := (lwT_of (List.mem_of_getElem? (i := 788) rfl) rfl)
set_option maxRecDepth 100000 in
theorem ml_Ledger_67 : Cond.methodLink "WhoeverHeard$Ledger" 67 (my mLedger_bindAll) ∈ lwT := (lwT_of (List.mem_of_getElem? (i := 789) rfl) rfl)
set_option maxRecDepth 100000 in
theorem ml_Ledger_131 : Cond.methodLink "WhoeverHeard$Ledger" 131 (my mLedger_bindBy) ∈ lwT := (lwT_of (List.mem_of_getElem? (i := 793) rfl) rfl)
set_option maxRecDepth 100000 in
theorem ml_Ledger_137 : Cond.methodLink "WhoeverHeard$Ledger" 137 (my mLedger_shareOf) ∈ lwT := (lwT_of (List.mem_of_getElem? (i := 797) rfl) rfl)
set_option maxRecDepth 100000 in
theorem ml_Ledger_140 : Cond.methodLink "WhoeverHeard$Ledger" 140 (my mFolk_isBound) ∈ lwT := (lwT_of (List.mem_of_getElem? (i := 801) rfl) rfl)
set_option maxRecDepth 100000 in
theorem ml_Ledger_152 : Cond.methodLink "WhoeverHeard$Ledger" 152 (my mInteger_bitCount) ∈ lwT := (lwT_of (List.mem_of_getElem? (i := 805) rfl) rfl)
set_option maxRecDepth 100000 in
theorem cn_Integer_265 : Cond.constant "java/lang/Integer" 265 (1431655765) ∈ lwT := (lwT_of (List.mem_of_getElem? (i := 808) rfl) rfl)
set_option maxRecDepth 100000 in
theorem cn_Integer_266 : Cond.constant "java/lang/Integer" 266 (858993459) ∈ lwT := (lwT_of (List.mem_of_getElem? (i := 809) rfl) rfl)
set_option maxRecDepth 100000 in
theorem cn_Integer_267 : Cond.constant "java/lang/Integer" 267 (252645135) ∈ lwT := (lwT_of (List.mem_of_getElem? (i := 810) rfl) rfl)
set_option maxRecDepth 100000 in
theorem ml_Ledger_161 : Cond.methodLink "WhoeverHeard$Ledger" 161 (my mFolk_canDo) ∈ lwT := (lwT_of (List.mem_of_getElem? (i := 811) rfl) rfl)
set_option maxRecDepth 100000 in
theorem ml_Ledger_134 : Cond.methodLink "WhoeverHeard$Ledger" 134 (my mLedger_settle) ∈ lwT := (lwT_of (List.mem_of_getElem? (i := 815) rfl) rfl)
set_option maxRecDepth 100000 in
theorem ml_Ledger_165 : Cond.methodLink "WhoeverHeard$Ledger" 165 (my mLedger_settleOne) ∈ lwT := (lwT_of (List.mem_of_getElem? (i := 819) rfl) rfl)
set_option maxRecDepth 100000 in
theorem ml_Ledger_169 : Cond.methodLink "WhoeverHeard$Ledger" 169 (my mMath_max) ∈ lwT := (lwT_of (List.mem_of_getElem? (i := 823) rfl) rfl)
set_option maxRecDepth 100000 in
theorem ml_Ledger_174 : Cond.methodLink "WhoeverHeard$Ledger" 174 (my mLedger_strikeOut) ∈ lwT := (lwT_of (List.mem_of_getElem? (i := 824) rfl) rfl)
set_option maxRecDepth 100000 in
theorem ml_Ledger_184 : Cond.methodLink "WhoeverHeard$Ledger" 184 (my mMath_min) ∈ lwT := (lwT_of (List.mem_of_getElem? (i := 828) rfl) rfl)
set_option maxRecDepth 100000 in
theorem ml_Ledger_177 : Cond.methodLink "WhoeverHeard$Ledger" 177 (my mLedger_cutToRoom) ∈ lwT := (lwT_of (List.mem_of_getElem? (i := 829) rfl) rfl)
set_option maxRecDepth 100000 in
theorem ml_Law_95 : Cond.methodLink "WhoeverHeardLaw" 95 (my mW_load) ∈ lwT := (lwT_of (List.mem_of_getElem? (i := 833) rfl) rfl)
set_option maxRecDepth 100000 in
theorem ml_W_228 : Cond.methodLink "WhoeverHeard" 228 (my mLedger_painOf) ∈ lwT := (lwT_of (List.mem_of_getElem? (i := 837) rfl) rfl)
set_option maxRecDepth 100000 in
theorem ml_Law_99 : Cond.methodLink "WhoeverHeardLaw" 99 (my mW_done) ∈ lwT := (lwT_of (List.mem_of_getElem? (i := 841) rfl) rfl)
set_option maxRecDepth 100000 in
theorem ml_W_232 : Cond.methodLink "WhoeverHeard" 232 (my mLedger_doneOf) ∈ lwT := (lwT_of (List.mem_of_getElem? (i := 845) rfl) rfl)
set_option maxRecDepth 100000 in
theorem ml_Law_103 : Cond.methodLink "WhoeverHeardLaw" 103 (my mW_sum) ∈ lwT := (lwT_of (List.mem_of_getElem? (i := 849) rfl) rfl)
set_option maxRecDepth 100000 in
theorem ml_W_235 : Cond.methodLink "WhoeverHeard" 235 (my mLedger_fullBits) ∈ lwT := (lwT_of (List.mem_of_getElem? (i := 853) rfl) rfl)
set_option maxRecDepth 100000 in
theorem ml_W_238 : Cond.methodLink "WhoeverHeard" 238 (my mLedger_outcome) ∈ lwT := (lwT_of (List.mem_of_getElem? (i := 857) rfl) rfl)
set_option maxRecDepth 100000 in
theorem ml_Ledger_205 : Cond.methodLink "WhoeverHeard$Ledger" 205 (my mLedger_keptBits) ∈ lwT := (lwT_of (List.mem_of_getElem? (i := 861) rfl) rfl)
set_option maxRecDepth 100000 in
theorem ml_Ledger_193 : Cond.methodLink "WhoeverHeard$Ledger" 193 (my mLedger_keeps) ∈ lwT := (lwT_of (List.mem_of_getElem? (i := 865) rfl) rfl)
set_option maxRecDepth 100000 in
theorem ml_Ledger_190 : Cond.methodLink "WhoeverHeard$Ledger" 190 (my mLedger_doneOf) ∈ lwT := (lwT_of (List.mem_of_getElem? (i := 869) rfl) rfl)
set_option maxRecDepth 100000 in
theorem ml_Ledger_209 : Cond.methodLink "WhoeverHeard$Ledger" 209 (my mLedger_worthKept) ∈ lwT := (lwT_of (List.mem_of_getElem? (i := 870) rfl) rfl)
set_option maxRecDepth 100000 in
theorem ml_Ledger_212 : Cond.methodLink "WhoeverHeard$Ledger" 212 (my mLedger_painOfAll) ∈ lwT := (lwT_of (List.mem_of_getElem? (i := 874) rfl) rfl)
set_option maxRecDepth 100000 in
theorem ml_Ledger_202 : Cond.methodLink "WhoeverHeard$Ledger" 202 (my mLedger_painOf) ∈ lwT := (lwT_of (List.mem_of_getElem? (i := 878) rfl) rfl)
set_option maxRecDepth 100000 in
theorem ml_Law_107 : Cond.methodLink "WhoeverHeardLaw" 107 (my mW_judge) ∈ lwT := (lwT_of (List.mem_of_getElem? (i := 879) rfl) rfl)
set_option maxRecDepth 100000 in
theorem ml_W_241 : Cond.methodLink "WhoeverHeard" 241 (my mW_wayTo) ∈ lwT := (lwT_of (List.mem_of_getElem? (i := 883) rfl) rfl)
set_option maxRecDepth 100000 in
theorem ml_Law_111 : Cond.methodLink "WhoeverHeardLaw" 111 (my mW_walk) ∈ lwT := (lwT_of (List.mem_of_getElem? (i := 887) rfl) rfl)
set_option maxRecDepth 100000 in
theorem ml_Law_115 : Cond.methodLink "WhoeverHeardLaw" 115 (my mW_best) ∈ lwT := (lwT_of (List.mem_of_getElem? (i := 891) rfl) rfl)
set_option maxRecDepth 100000 in
theorem ml_W_244 : Cond.methodLink "WhoeverHeard" 244 (my mLedger_sayMore) ∈ lwT := (lwT_of (List.mem_of_getElem? (i := 895) rfl) rfl)
set_option maxRecDepth 100000 in
theorem ml_Ledger_215 : Cond.methodLink "WhoeverHeard$Ledger" 215 (my mSayings_put) ∈ lwT := (lwT_of (List.mem_of_getElem? (i := 899) rfl) rfl)
set_option maxRecDepth 100000 in
theorem ml_W_248 : Cond.methodLink "WhoeverHeard" 248 (my mLedger_keeps) ∈ lwT := (lwT_of (List.mem_of_getElem? (i := 900) rfl) rfl)
set_option maxRecDepth 100000 in
theorem ml_W_251 : Cond.methodLink "WhoeverHeard" 251 (my mLedger_painOfAll) ∈ lwT := (lwT_of (List.mem_of_getElem? (i := 901) rfl) rfl)
set_option maxRecDepth 100000 in
theorem ml_Law_119 : Cond.methodLink "WhoeverHeardLaw" 119 (my mW_foe) ∈ lwT := (lwT_of (List.mem_of_getElem? (i := 902) rfl) rfl)
set_option maxRecDepth 100000 in
theorem ml_Law_123 : Cond.methodLink "WhoeverHeardLaw" 123 (my mW_loud) ∈ lwT := (lwT_of (List.mem_of_getElem? (i := 906) rfl) rfl)
set_option maxRecDepth 100000 in
theorem ml_Law_127 : Cond.methodLink "WhoeverHeardLaw" 127 (my mW_spare) ∈ lwT := (lwT_of (List.mem_of_getElem? (i := 910) rfl) rfl)
set_option maxRecDepth 100000 in
theorem ml_W_254 : Cond.methodLink "WhoeverHeard" 254 (my mLedger_keptBits) ∈ lwT := (lwT_of (List.mem_of_getElem? (i := 914) rfl) rfl)
set_option maxRecDepth 100000 in
theorem ml_W_257 : Cond.methodLink "WhoeverHeard" 257 (my mLedger_settle) ∈ lwT := (lwT_of (List.mem_of_getElem? (i := 915) rfl) rfl)
set_option maxRecDepth 100000 in
theorem ml_Law_131 : Cond.methodLink "WhoeverHeardLaw" 131 (my mW_even) ∈ lwT := (lwT_of (List.mem_of_getElem? (i := 916) rfl) rfl)
set_option maxRecDepth 100000 in
theorem ml_W_260 : Cond.methodLink "WhoeverHeard" 260 (my mLedger_sharesOut) ∈ lwT := (lwT_of (List.mem_of_getElem? (i := 920) rfl) rfl)
set_option maxRecDepth 100000 in
theorem ml_Ledger_230 : Cond.methodLink "WhoeverHeard$Ledger" 230 (my mLedger_evenBits) ∈ lwT := (lwT_of (List.mem_of_getElem? (i := 924) rfl) rfl)
set_option maxRecDepth 100000 in
theorem ml_Ledger_233 : Cond.methodLink "WhoeverHeard$Ledger" 233 (my mLedger_lightest) ∈ lwT := (lwT_of (List.mem_of_getElem? (i := 928) rfl) rfl)
set_option maxRecDepth 100000 in
theorem ml_Law_135 : Cond.methodLink "WhoeverHeardLaw" 135 (my mW_hardest) ∈ lwT := (lwT_of (List.mem_of_getElem? (i := 932) rfl) rfl)
set_option maxRecDepth 100000 in
theorem ml_Law_139 : Cond.methodLink "WhoeverHeardLaw" 139 (my mW_flee) ∈ lwT := (lwT_of (List.mem_of_getElem? (i := 936) rfl) rfl)
set_option maxRecDepth 100000 in
theorem ml_W_271 : Cond.methodLink "WhoeverHeard" 271 (my mLedger_tryPlaces) ∈ lwT := (lwT_of (List.mem_of_getElem? (i := 940) rfl) rfl)
set_option maxRecDepth 100000 in
theorem ml_Ledger_227 : Cond.methodLink "WhoeverHeard$Ledger" 227 (my mLedger_listenBy) ∈ lwT := (lwT_of (List.mem_of_getElem? (i := 944) rfl) rfl)
set_option maxRecDepth 100000 in
theorem ml_W_277 : Cond.methodLink "WhoeverHeard" 277 (my mW_leastOf) ∈ lwT := (lwT_of (List.mem_of_getElem? (i := 948) rfl) rfl)
set_option maxRecDepth 100000 in
theorem ml_Law_143 : Cond.methodLink "WhoeverHeardLaw" 143 (my mW_send) ∈ lwT := (lwT_of (List.mem_of_getElem? (i := 951) rfl) rfl)
set_option maxRecDepth 100000 in
theorem ml_W_281 : Cond.methodLink "WhoeverHeard" 281 (my mW_mostOf) ∈ lwT := (lwT_of (List.mem_of_getElem? (i := 955) rfl) rfl)
set_option maxRecDepth 100000 in
theorem ml_Law_147 : Cond.methodLink "WhoeverHeardLaw" 147 (my mW_rest) ∈ lwT := (lwT_of (List.mem_of_getElem? (i := 958) rfl) rfl)
set_option maxRecDepth 100000 in
theorem ml_W_284 : Cond.methodLink "WhoeverHeard" 284 (my mW_movesAway) ∈ lwT := (lwT_of (List.mem_of_getElem? (i := 962) rfl) rfl)
set_option maxRecDepth 100000 in
theorem ml_W_361 : Cond.methodLink "WhoeverHeard" 361 (my mFolk_startOf) ∈ lwT := (lwT_of (List.mem_of_getElem? (i := 966) rfl) rfl)
set_option maxRecDepth 100000 in
theorem ml_Law_151 : Cond.methodLink "WhoeverHeardLaw" 151 (my mW_chance) ∈ lwT := (lwT_of (List.mem_of_getElem? (i := 967) rfl) rfl)
set_option maxRecDepth 100000 in
theorem cn_W_287 : Cond.constantLong "WhoeverHeard" 287 (-4611686018427387904) ∈ lwT := (lwT_of (List.mem_of_getElem? (i := 971) rfl) rfl)
set_option maxRecDepth 100000 in
theorem ml_W_289 : Cond.methodLink "WhoeverHeard" 289 (my mLedger_chanceOf) ∈ lwT := (lwT_of (List.mem_of_getElem? (i := 972) rfl) rfl)
set_option maxRecDepth 100000 in
theorem cn_Ledger_236 : Cond.constantLong "WhoeverHeard$Ledger" 236 (1000000) ∈ lwT := (lwT_of (List.mem_of_getElem? (i := 976) rfl) rfl)
set_option maxRecDepth 100000 in
theorem cn_Ledger_222 : Cond.constantLong "WhoeverHeard$Ledger" 222 (100) ∈ lwT := (lwT_of (List.mem_of_getElem? (i := 977) rfl) rfl)
set_option maxRecDepth 100000 in
theorem ml_Law_156 : Cond.methodLink "WhoeverHeardLaw" 156 (my mW_lost) ∈ lwT := (lwT_of (List.mem_of_getElem? (i := 978) rfl) rfl)
set_option maxRecDepth 100000 in
theorem cn_W_293 : Cond.constantLong "WhoeverHeard" 293 (1000000) ∈ lwT := (lwT_of (List.mem_of_getElem? (i := 982) rfl) rfl)
set_option maxRecDepth 100000 in
theorem ml_W_295 : Cond.methodLink "WhoeverHeard" 295 (my mFolk_canDo) ∈ lwT := (lwT_of (List.mem_of_getElem? (i := 983) rfl) rfl)
set_option maxRecDepth 100000 in
theorem ml_W_299 : Cond.methodLink "WhoeverHeard" 299 (my mFolk_isBound) ∈ lwT := (lwT_of (List.mem_of_getElem? (i := 984) rfl) rfl)
set_option maxRecDepth 100000 in
theorem ml_Law_161 : Cond.methodLink "WhoeverHeardLaw" 161 (my mW_laws) ∈ lwT := (lwT_of (List.mem_of_getElem? (i := 985) rfl) rfl)
set_option maxRecDepth 100000 in
theorem ml_Law_165 : Cond.methodLink "WhoeverHeardLaw" 165 (my mW_witness) ∈ lwT := (lwT_of (List.mem_of_getElem? (i := 989) rfl) rfl)
set_option maxRecDepth 100000 in
theorem ml_W_302 : Cond.methodLink "WhoeverHeard" 302 (my mW_witnessRefusal) ∈ lwT := (lwT_of (List.mem_of_getElem? (i := 993) rfl) rfl)
set_option maxRecDepth 100000 in
theorem ml_W_332 : Cond.methodLink "WhoeverHeard" 332 (my mSheets_isMissing) ∈ lwT := (lwT_of (List.mem_of_getElem? (i := 997) rfl) rfl)
set_option maxRecDepth 100000 in
theorem ml_W_305 : Cond.methodLink "WhoeverHeard" 305 (my mW_firstHeardByOthers) ∈ lwT := (lwT_of (List.mem_of_getElem? (i := 1001) rfl) rfl)
set_option maxRecDepth 100000 in
theorem ml_W_364 : Cond.methodLink "WhoeverHeard" 364 (my mSheets_bitsAt) ∈ lwT := (lwT_of (List.mem_of_getElem? (i := 1005) rfl) rfl)
set_option maxRecDepth 100000 in
theorem ml_Law_169 : Cond.methodLink "WhoeverHeardLaw" 169 (my mW_alibi) ∈ lwT := (lwT_of (List.mem_of_getElem? (i := 1009) rfl) rfl)
set_option maxRecDepth 100000 in
theorem ml_W_308 : Cond.methodLink "WhoeverHeard" 308 (my mLedger_listenBy) ∈ lwT := (lwT_of (List.mem_of_getElem? (i := 1013) rfl) rfl)
set_option maxRecDepth 100000 in
theorem ml_Law_173 : Cond.methodLink "WhoeverHeardLaw" 173 (my mW_drawn) ∈ lwT := (lwT_of (List.mem_of_getElem? (i := 1014) rfl) rfl)
set_option maxRecDepth 100000 in
theorem cn_W_311 : Cond.constant "WhoeverHeard" 311 (99999) ∈ lwT := (lwT_of (List.mem_of_getElem? (i := 1018) rfl) rfl)
set_option maxRecDepth 100000 in
theorem ml_W_312 : Cond.methodLink "WhoeverHeard" 312 (my mLedger_draw) ∈ lwT := (lwT_of (List.mem_of_getElem? (i := 1019) rfl) rfl)
set_option maxRecDepth 100000 in
theorem cn_Ledger_218 : Cond.constantLong "WhoeverHeard$Ledger" 218 (48271) ∈ lwT := (lwT_of (List.mem_of_getElem? (i := 1023) rfl) rfl)
set_option maxRecDepth 100000 in
theorem cn_Ledger_220 : Cond.constantLong "WhoeverHeard$Ledger" 220 (2147483647) ∈ lwT := (lwT_of (List.mem_of_getElem? (i := 1024) rfl) rfl)
set_option maxRecDepth 100000 in
theorem ml_Law_177 : Cond.methodLink "WhoeverHeardLaw" 177 (my mW_odds) ∈ lwT := (lwT_of (List.mem_of_getElem? (i := 1025) rfl) rfl)
set_option maxRecDepth 100000 in
theorem ml_W_315 : Cond.methodLink "WhoeverHeard" 315 (my mW_commonDivisor) ∈ lwT := (lwT_of (List.mem_of_getElem? (i := 1029) rfl) rfl)
set_option maxRecDepth 100000 in
theorem ml_Law_182 : Cond.methodLink "WhoeverHeardLaw" 182 (my mW_image) ∈ lwT := (lwT_of (List.mem_of_getElem? (i := 1032) rfl) rfl)
set_option maxRecDepth 100000 in
theorem ml_W_318 : Cond.methodLink "WhoeverHeard" 318 (my mImage_keep) ∈ lwT := (lwT_of (List.mem_of_getElem? (i := 1036) rfl) rfl)
set_option maxRecDepth 100000 in
theorem ml_Image_40 : Cond.methodLink "WhoeverHeard$Image" 40 (my mTown_become) ∈ lwT := (lwT_of (List.mem_of_getElem? (i := 1040) rfl) rfl)
set_option maxRecDepth 100000 in
theorem ml_Town_28 : Cond.methodLink "WhoeverHeard$Town" 28 arraycopyName ∈ lwT := (lwT_of (List.mem_of_getElem? (i := 1044) rfl) rfl)
set_option maxRecDepth 100000 in
theorem ml_Image_44 : Cond.methodLink "WhoeverHeard$Image" 44 (my mSayings_become) ∈ lwT := (lwT_of (List.mem_of_getElem? (i := 1045) rfl) rfl)
set_option maxRecDepth 100000 in
theorem ml_Sayings_32 : Cond.methodLink "WhoeverHeard$Sayings" 32 arraycopyName ∈ lwT := (lwT_of (List.mem_of_getElem? (i := 1049) rfl) rfl)
set_option maxRecDepth 100000 in
theorem ml_Image_53 : Cond.methodLink "WhoeverHeard$Image" 53 arraycopyName ∈ lwT := (lwT_of (List.mem_of_getElem? (i := 1050) rfl) rfl)
set_option maxRecDepth 100000 in
theorem ml_Law_186 : Cond.methodLink "WhoeverHeardLaw" 186 (my mW_back) ∈ lwT := (lwT_of (List.mem_of_getElem? (i := 1051) rfl) rfl)
set_option maxRecDepth 100000 in
theorem ml_W_326 : Cond.methodLink "WhoeverHeard" 326 (my mImage_giveBack) ∈ lwT := (lwT_of (List.mem_of_getElem? (i := 1055) rfl) rfl)
set_option maxRecDepth 100000 in
theorem ml_Law_190 : Cond.methodLink "WhoeverHeardLaw" 190 (my mW_sheet) ∈ lwT := (lwT_of (List.mem_of_getElem? (i := 1059) rfl) rfl)
set_option maxRecDepth 100000 in
theorem ml_W_329 : Cond.methodLink "WhoeverHeard" 329 (my mSheets_become) ∈ lwT := (lwT_of (List.mem_of_getElem? (i := 1063) rfl) rfl)
set_option maxRecDepth 100000 in
theorem ml_Law_194 : Cond.methodLink "WhoeverHeardLaw" 194 (my mW_cell) ∈ lwT := (lwT_of (List.mem_of_getElem? (i := 1067) rfl) rfl)
set_option maxRecDepth 100000 in
theorem ml_W_337 : Cond.methodLink "WhoeverHeard" 337 (my mSheets_set) ∈ lwT := (lwT_of (List.mem_of_getElem? (i := 1071) rfl) rfl)
set_option maxRecDepth 100000 in
theorem ml_Law_198 : Cond.methodLink "WhoeverHeardLaw" 198 (my mW_copy) ∈ lwT := (lwT_of (List.mem_of_getElem? (i := 1075) rfl) rfl)
set_option maxRecDepth 100000 in
theorem ml_W_346 : Cond.methodLink "WhoeverHeard" 346 arraycopyName ∈ lwT := (lwT_of (List.mem_of_getElem? (i := 1079) rfl) rfl)
set_option maxRecDepth 100000 in
theorem ml_Law_203 : Cond.methodLink "WhoeverHeardLaw" 203 (my mW_promisesBy) ∈ lwT := (lwT_of (List.mem_of_getElem? (i := 1080) rfl) rfl)
set_option maxRecDepth 100000 in
theorem ml_W_352 : Cond.methodLink "WhoeverHeard" 352 (my mW_promise) ∈ lwT := (lwT_of (List.mem_of_getElem? (i := 1084) rfl) rfl)
set_option maxRecDepth 100000 in
theorem ml_Law_207 : Cond.methodLink "WhoeverHeardLaw" 207 (my mW_taken) ∈ lwT := (lwT_of (List.mem_of_getElem? (i := 1085) rfl) rfl)
set_option maxRecDepth 100000 in
theorem ml_W_355 : Cond.methodLink "WhoeverHeard" 355 (my mFolk_isA) ∈ lwT := (lwT_of (List.mem_of_getElem? (i := 1089) rfl) rfl)
set_option maxRecDepth 100000 in
theorem cl_Law_10 : Cond.classLink "WhoeverHeardLaw" 10 "WhoeverHeardModel" ∈ lwT := (lwT_of (List.mem_of_getElem? (i := 1090) rfl) rfl)
set_option maxRecDepth 100000 in
theorem in_R : Cond.instantiable "WhoeverHeardModel" 62 ∈ lwT := (lwT_of (List.mem_of_getElem? (i := 1091) rfl) rfl)
set_option maxRecDepth 100000 in
theorem ml_Law_12 : Cond.methodLink "WhoeverHeardLaw" 12 (my mR_init) ∈ lwT := (lwT_of (List.mem_of_getElem? (i := 1092) rfl) rfl)
set_option maxRecDepth 100000 in
theorem ml_R_1 : Cond.methodLink "WhoeverHeardModel" 1 Lib.objectInit ∈ lwT := (lwT_of (List.mem_of_getElem? (i := 1095) rfl) rfl)
set_option maxRecDepth 100000 in
theorem ml_R_140 : Cond.methodLink "WhoeverHeardModel" 140 (my mR_text) ∈ lwT := (lwT_of (List.mem_of_getElem? (i := 1096) rfl) rfl)
set_option maxRecDepth 100000 in
theorem ml_R_209 : Cond.methodLink "WhoeverHeardModel" 209 (my mR_next) ∈ lwT := (lwT_of (List.mem_of_getElem? (i := 1100) rfl) rfl)
set_option maxRecDepth 100000 in
theorem ml_R_151 : Cond.methodLink "WhoeverHeardModel" 151 (my mR_in) ∈ lwT := (lwT_of (List.mem_of_getElem? (i := 1104) rfl) rfl)
set_option maxRecDepth 100000 in
theorem ml_R_183 : Cond.methodLink "WhoeverHeardModel" 183 (my mR_wordFrom) ∈ lwT := (lwT_of (List.mem_of_getElem? (i := 1107) rfl) rfl)
set_option maxRecDepth 100000 in
theorem ml_R_222 : Cond.methodLink "WhoeverHeardModel" 222 (my mR_eRead) ∈ lwT := (lwT_of (List.mem_of_getElem? (i := 1111) rfl) rfl)
set_option maxRecDepth 100000 in
theorem cn_R_212 : Cond.constant "WhoeverHeardModel" 212 (100000) ∈ lwT := (lwT_of (List.mem_of_getElem? (i := 1115) rfl) rfl)
set_option maxRecDepth 100000 in
theorem ml_R_199 : Cond.methodLink "WhoeverHeardModel" 199 (my mR_puts) ∈ lwT := (lwT_of (List.mem_of_getElem? (i := 1116) rfl) rfl)
set_option maxRecDepth 100000 in
theorem ml_R_206 : Cond.methodLink "WhoeverHeardModel" 206 (my mR_unwinds) ∈ lwT := (lwT_of (List.mem_of_getElem? (i := 1120) rfl) rfl)
set_option maxRecDepth 100000 in
theorem ml_R_193 : Cond.methodLink "WhoeverHeardModel" 193 (my mR_rank) ∈ lwT := (lwT_of (List.mem_of_getElem? (i := 1124) rfl) rfl)
set_option maxRecDepth 100000 in
theorem ml_R_213 : Cond.methodLink "WhoeverHeardModel" 213 (my mR_opensOne) ∈ lwT := (lwT_of (List.mem_of_getElem? (i := 1127) rfl) rfl)
set_option maxRecDepth 100000 in
theorem ml_R_203 : Cond.methodLink "WhoeverHeardModel" 203 (my mR_holds) ∈ lwT := (lwT_of (List.mem_of_getElem? (i := 1131) rfl) rfl)
set_option maxRecDepth 100000 in
theorem ml_R_216 : Cond.methodLink "WhoeverHeardModel" 216 (my mR_signOf) ∈ lwT := (lwT_of (List.mem_of_getElem? (i := 1135) rfl) rfl)
set_option maxRecDepth 100000 in
theorem ml_R_219 : Cond.methodLink "WhoeverHeardModel" 219 (my mR_between) ∈ lwT := (lwT_of (List.mem_of_getElem? (i := 1139) rfl) rfl)
set_option maxRecDepth 100000 in
theorem ml_R_144 : Cond.methodLink "WhoeverHeardModel" 144 (my mR_size) ∈ lwT := (lwT_of (List.mem_of_getElem? (i := 1143) rfl) rfl)
set_option maxRecDepth 100000 in
theorem fl_R_7 : FLink "WhoeverHeardModel" 7 10 0 := ⟨(RX10, TX10, 62), rfl, by decide, (lwT_of (List.mem_of_getElem? (i := 1146) rfl) rfl)⟩
set_option maxRecDepth 100000 in
theorem fl_R_13 : FLink "WhoeverHeardModel" 13 10 1 := ⟨(RX10, TX10, 62), rfl, by decide, (lwT_of (List.mem_of_getElem? (i := 1147) rfl) rfl)⟩
set_option maxRecDepth 100000 in
theorem fl_R_16 : FLink "WhoeverHeardModel" 16 10 2 := ⟨(RX10, TX10, 62), rfl, by decide, (lwT_of (List.mem_of_getElem? (i := 1148) rfl) rfl)⟩
set_option maxRecDepth 100000 in
theorem fl_R_148 : FLink "WhoeverHeardModel" 148 10 3 := ⟨(RX10, TX10, 62), rfl, by decide, (lwT_of (List.mem_of_getElem? (i := 1149) rfl) rfl)⟩
set_option maxRecDepth 100000 in
theorem fl_R_20 : FLink "WhoeverHeardModel" 20 10 4 := ⟨(RX10, TX10, 62), rfl, by decide, (lwT_of (List.mem_of_getElem? (i := 1150) rfl) rfl)⟩
set_option maxRecDepth 100000 in
theorem fl_R_23 : FLink "WhoeverHeardModel" 23 10 5 := ⟨(RX10, TX10, 62), rfl, by decide, (lwT_of (List.mem_of_getElem? (i := 1151) rfl) rfl)⟩
set_option maxRecDepth 100000 in
theorem fl_R_26 : FLink "WhoeverHeardModel" 26 10 6 := ⟨(RX10, TX10, 62), rfl, by decide, (lwT_of (List.mem_of_getElem? (i := 1152) rfl) rfl)⟩
set_option maxRecDepth 100000 in
theorem fl_R_29 : FLink "WhoeverHeardModel" 29 10 7 := ⟨(RX10, TX10, 62), rfl, by decide, (lwT_of (List.mem_of_getElem? (i := 1153) rfl) rfl)⟩
set_option maxRecDepth 100000 in
theorem fl_R_32 : FLink "WhoeverHeardModel" 32 10 8 := ⟨(RX10, TX10, 62), rfl, by decide, (lwT_of (List.mem_of_getElem? (i := 1154) rfl) rfl)⟩
set_option maxRecDepth 100000 in
theorem fl_R_35 : FLink "WhoeverHeardModel" 35 10 9 := ⟨(RX10, TX10, 62), rfl, by decide, (lwT_of (List.mem_of_getElem? (i := 1155) rfl) rfl)⟩
set_option maxRecDepth 100000 in
theorem fl_R_38 : FLink "WhoeverHeardModel" 38 10 10 := ⟨(RX10, TX10, 62), rfl, by decide, (lwT_of (List.mem_of_getElem? (i := 1156) rfl) rfl)⟩
set_option maxRecDepth 100000 in
theorem fl_R_41 : FLink "WhoeverHeardModel" 41 10 11 := ⟨(RX10, TX10, 62), rfl, by decide, (lwT_of (List.mem_of_getElem? (i := 1157) rfl) rfl)⟩
set_option maxRecDepth 100000 in
theorem fl_R_155 : FLink "WhoeverHeardModel" 155 10 12 := ⟨(RX10, TX10, 62), rfl, by decide, (lwT_of (List.mem_of_getElem? (i := 1158) rfl) rfl)⟩
set_option maxRecDepth 100000 in
theorem fl_R_44 : FLink "WhoeverHeardModel" 44 10 13 := ⟨(RX10, TX10, 62), rfl, by decide, (lwT_of (List.mem_of_getElem? (i := 1159) rfl) rfl)⟩
set_option maxRecDepth 100000 in
theorem fl_R_47 : FLink "WhoeverHeardModel" 47 10 14 := ⟨(RX10, TX10, 62), rfl, by decide, (lwT_of (List.mem_of_getElem? (i := 1160) rfl) rfl)⟩
set_option maxRecDepth 100000 in
theorem fl_R_50 : FLink "WhoeverHeardModel" 50 10 15 := ⟨(RX10, TX10, 62), rfl, by decide, (lwT_of (List.mem_of_getElem? (i := 1161) rfl) rfl)⟩
set_option maxRecDepth 100000 in
theorem fl_R_53 : FLink "WhoeverHeardModel" 53 10 16 := ⟨(RX10, TX10, 62), rfl, by decide, (lwT_of (List.mem_of_getElem? (i := 1162) rfl) rfl)⟩
set_option maxRecDepth 100000 in
theorem fl_R_158 : FLink "WhoeverHeardModel" 158 10 17 := ⟨(RX10, TX10, 62), rfl, by decide, (lwT_of (List.mem_of_getElem? (i := 1163) rfl) rfl)⟩
set_option maxRecDepth 100000 in
theorem fl_R_56 : FLink "WhoeverHeardModel" 56 10 18 := ⟨(RX10, TX10, 62), rfl, by decide, (lwT_of (List.mem_of_getElem? (i := 1164) rfl) rfl)⟩
set_option maxRecDepth 100000 in
theorem fl_R_59 : FLink "WhoeverHeardModel" 59 10 19 := ⟨(RX10, TX10, 62), rfl, by decide, (lwT_of (List.mem_of_getElem? (i := 1165) rfl) rfl)⟩
set_option maxRecDepth 100000 in
theorem fl_R_62 : FLink "WhoeverHeardModel" 62 10 20 := ⟨(RX10, TX10, 62), rfl, by decide, (lwT_of (List.mem_of_getElem? (i := 1166) rfl) rfl)⟩
set_option maxRecDepth 100000 in
theorem fl_R_65 : FLink "WhoeverHeardModel" 65 10 21 := ⟨(RX10, TX10, 62), rfl, by decide, (lwT_of (List.mem_of_getElem? (i := 1167) rfl) rfl)⟩
set_option maxRecDepth 100000 in
theorem fl_R_68 : FLink "WhoeverHeardModel" 68 10 22 := ⟨(RX10, TX10, 62), rfl, by decide, (lwT_of (List.mem_of_getElem? (i := 1168) rfl) rfl)⟩
set_option maxRecDepth 100000 in
theorem fl_R_137 : FLink "WhoeverHeardModel" 137 10 23 := ⟨(RX10, TX10, 62), rfl, by decide, (lwT_of (List.mem_of_getElem? (i := 1169) rfl) rfl)⟩
set_option maxRecDepth 100000 in
theorem fl_R_71 : FLink "WhoeverHeardModel" 71 10 24 := ⟨(RX10, TX10, 62), rfl, by decide, (lwT_of (List.mem_of_getElem? (i := 1170) rfl) rfl)⟩
set_option maxRecDepth 100000 in
theorem fl_R_74 : FLink "WhoeverHeardModel" 74 10 25 := ⟨(RX10, TX10, 62), rfl, by decide, (lwT_of (List.mem_of_getElem? (i := 1171) rfl) rfl)⟩
set_option maxRecDepth 100000 in
theorem fl_R_161 : FLink "WhoeverHeardModel" 161 10 26 := ⟨(RX10, TX10, 62), rfl, by decide, (lwT_of (List.mem_of_getElem? (i := 1172) rfl) rfl)⟩
set_option maxRecDepth 100000 in
theorem fl_R_164 : FLink "WhoeverHeardModel" 164 10 27 := ⟨(RX10, TX10, 62), rfl, by decide, (lwT_of (List.mem_of_getElem? (i := 1173) rfl) rfl)⟩
set_option maxRecDepth 100000 in
theorem fl_R_361 : FLink "WhoeverHeardModel" 361 10 28 := ⟨(RX10, TX10, 62), rfl, by decide, (lwT_of (List.mem_of_getElem? (i := 1174) rfl) rfl)⟩
set_option maxRecDepth 100000 in
theorem fl_R_364 : FLink "WhoeverHeardModel" 364 10 29 := ⟨(RX10, TX10, 62), rfl, by decide, (lwT_of (List.mem_of_getElem? (i := 1175) rfl) rfl)⟩
set_option maxRecDepth 100000 in
theorem fl_R_367 : FLink "WhoeverHeardModel" 367 10 30 := ⟨(RX10, TX10, 62), rfl, by decide, (lwT_of (List.mem_of_getElem? (i := 1176) rfl) rfl)⟩
set_option maxRecDepth 100000 in
theorem fl_R_370 : FLink "WhoeverHeardModel" 370 10 31 := ⟨(RX10, TX10, 62), rfl, by decide, (lwT_of (List.mem_of_getElem? (i := 1177) rfl) rfl)⟩
set_option maxRecDepth 100000 in
theorem fl_R_373 : FLink "WhoeverHeardModel" 373 10 32 := ⟨(RX10, TX10, 62), rfl, by decide, (lwT_of (List.mem_of_getElem? (i := 1178) rfl) rfl)⟩
set_option maxRecDepth 100000 in
theorem fl_R_77 : FLink "WhoeverHeardModel" 77 10 33 := ⟨(RX10, TX10, 62), rfl, by decide, (lwT_of (List.mem_of_getElem? (i := 1179) rfl) rfl)⟩
set_option maxRecDepth 100000 in
theorem fl_R_80 : FLink "WhoeverHeardModel" 80 10 34 := ⟨(RX10, TX10, 62), rfl, by decide, (lwT_of (List.mem_of_getElem? (i := 1180) rfl) rfl)⟩
set_option maxRecDepth 100000 in
theorem fl_R_83 : FLink "WhoeverHeardModel" 83 10 35 := ⟨(RX10, TX10, 62), rfl, by decide, (lwT_of (List.mem_of_getElem? (i := 1181) rfl) rfl)⟩
set_option maxRecDepth 100000 in
theorem fl_R_86 : FLink "WhoeverHeardModel" 86 10 36 := ⟨(RX10, TX10, 62), rfl, by decide, (lwT_of (List.mem_of_getElem? (i := 1182) rfl) rfl)⟩
set_option maxRecDepth 100000 in
theorem fl_R_89 : FLink "WhoeverHeardModel" 89 10 37 := ⟨(RX10, TX10, 62), rfl, by decide, (lwT_of (List.mem_of_getElem? (i := 1183) rfl) rfl)⟩
set_option maxRecDepth 100000 in
theorem fl_R_92 : FLink "WhoeverHeardModel" 92 10 38 := ⟨(RX10, TX10, 62), rfl, by decide, (lwT_of (List.mem_of_getElem? (i := 1184) rfl) rfl)⟩
set_option maxRecDepth 100000 in
theorem fl_R_95 : FLink "WhoeverHeardModel" 95 10 39 := ⟨(RX10, TX10, 62), rfl, by decide, (lwT_of (List.mem_of_getElem? (i := 1185) rfl) rfl)⟩
set_option maxRecDepth 100000 in
theorem fl_R_98 : FLink "WhoeverHeardModel" 98 10 40 := ⟨(RX10, TX10, 62), rfl, by decide, (lwT_of (List.mem_of_getElem? (i := 1186) rfl) rfl)⟩
set_option maxRecDepth 100000 in
theorem fl_R_101 : FLink "WhoeverHeardModel" 101 10 41 := ⟨(RX10, TX10, 62), rfl, by decide, (lwT_of (List.mem_of_getElem? (i := 1187) rfl) rfl)⟩
set_option maxRecDepth 100000 in
theorem fl_R_104 : FLink "WhoeverHeardModel" 104 10 42 := ⟨(RX10, TX10, 62), rfl, by decide, (lwT_of (List.mem_of_getElem? (i := 1188) rfl) rfl)⟩
set_option maxRecDepth 100000 in
theorem fl_R_107 : FLink "WhoeverHeardModel" 107 10 43 := ⟨(RX10, TX10, 62), rfl, by decide, (lwT_of (List.mem_of_getElem? (i := 1189) rfl) rfl)⟩
set_option maxRecDepth 100000 in
theorem fl_R_171 : FLink "WhoeverHeardModel" 171 10 44 := ⟨(RX10, TX10, 62), rfl, by decide, (lwT_of (List.mem_of_getElem? (i := 1190) rfl) rfl)⟩
set_option maxRecDepth 100000 in
theorem fl_R_174 : FLink "WhoeverHeardModel" 174 10 45 := ⟨(RX10, TX10, 62), rfl, by decide, (lwT_of (List.mem_of_getElem? (i := 1191) rfl) rfl)⟩
set_option maxRecDepth 100000 in
theorem fl_R_177 : FLink "WhoeverHeardModel" 177 10 46 := ⟨(RX10, TX10, 62), rfl, by decide, (lwT_of (List.mem_of_getElem? (i := 1192) rfl) rfl)⟩
set_option maxRecDepth 100000 in
theorem fl_R_180 : FLink "WhoeverHeardModel" 180 10 47 := ⟨(RX10, TX10, 62), rfl, by decide, (lwT_of (List.mem_of_getElem? (i := 1193) rfl) rfl)⟩
set_option maxRecDepth 100000 in
theorem fl_R_110 : FLink "WhoeverHeardModel" 110 10 48 := ⟨(RX10, TX10, 62), rfl, by decide, (lwT_of (List.mem_of_getElem? (i := 1194) rfl) rfl)⟩
set_option maxRecDepth 100000 in
theorem fl_R_113 : FLink "WhoeverHeardModel" 113 10 49 := ⟨(RX10, TX10, 62), rfl, by decide, (lwT_of (List.mem_of_getElem? (i := 1195) rfl) rfl)⟩
set_option maxRecDepth 100000 in
theorem fl_R_190 : FLink "WhoeverHeardModel" 190 10 50 := ⟨(RX10, TX10, 62), rfl, by decide, (lwT_of (List.mem_of_getElem? (i := 1196) rfl) rfl)⟩
set_option maxRecDepth 100000 in
theorem fl_R_196 : FLink "WhoeverHeardModel" 196 10 51 := ⟨(RX10, TX10, 62), rfl, by decide, (lwT_of (List.mem_of_getElem? (i := 1197) rfl) rfl)⟩
set_option maxRecDepth 100000 in
theorem fl_R_187 : FLink "WhoeverHeardModel" 187 10 52 := ⟨(RX10, TX10, 62), rfl, by decide, (lwT_of (List.mem_of_getElem? (i := 1198) rfl) rfl)⟩
set_option maxRecDepth 100000 in
theorem fl_R_116 : FLink "WhoeverHeardModel" 116 10 53 := ⟨(RX10, TX10, 62), rfl, by decide, (lwT_of (List.mem_of_getElem? (i := 1199) rfl) rfl)⟩
set_option maxRecDepth 100000 in
theorem fl_R_119 : FLink "WhoeverHeardModel" 119 10 54 := ⟨(RX10, TX10, 62), rfl, by decide, (lwT_of (List.mem_of_getElem? (i := 1200) rfl) rfl)⟩
set_option maxRecDepth 100000 in
theorem fl_R_259 : FLink "WhoeverHeardModel" 259 10 55 := ⟨(RX10, TX10, 62), rfl, by decide, (lwT_of (List.mem_of_getElem? (i := 1201) rfl) rfl)⟩
set_option maxRecDepth 100000 in
theorem fl_R_263 : FLink "WhoeverHeardModel" 263 10 56 := ⟨(RX10, TX10, 62), rfl, by decide, (lwT_of (List.mem_of_getElem? (i := 1202) rfl) rfl)⟩
set_option maxRecDepth 100000 in
theorem fl_R_122 : FLink "WhoeverHeardModel" 122 10 57 := ⟨(RX10, TX10, 62), rfl, by decide, (lwT_of (List.mem_of_getElem? (i := 1203) rfl) rfl)⟩
set_option maxRecDepth 100000 in
theorem fl_R_125 : FLink "WhoeverHeardModel" 125 10 58 := ⟨(RX10, TX10, 62), rfl, by decide, (lwT_of (List.mem_of_getElem? (i := 1204) rfl) rfl)⟩
set_option maxRecDepth 100000 in
theorem fl_R_128 : FLink "WhoeverHeardModel" 128 10 59 := ⟨(RX10, TX10, 62), rfl, by decide, (lwT_of (List.mem_of_getElem? (i := 1205) rfl) rfl)⟩
set_option maxRecDepth 100000 in
theorem fl_R_131 : FLink "WhoeverHeardModel" 131 10 60 := ⟨(RX10, TX10, 62), rfl, by decide, (lwT_of (List.mem_of_getElem? (i := 1206) rfl) rfl)⟩
set_option maxRecDepth 100000 in
theorem fl_R_134 : FLink "WhoeverHeardModel" 134 10 61 := ⟨(RX10, TX10, 62), rfl, by decide, (lwT_of (List.mem_of_getElem? (i := 1207) rfl) rfl)⟩
set_option maxRecDepth 100000 in
theorem ml_Law_17 : Cond.methodLink "WhoeverHeardLaw" 17 (my mR_far) ∈ lwT := (lwT_of (List.mem_of_getElem? (i := 1333) rfl) rfl)
set_option maxRecDepth 100000 in
theorem ml_Law_22 : Cond.methodLink "WhoeverHeardLaw" 22 (my mR_hush) ∈ lwT := (lwT_of (List.mem_of_getElem? (i := 1337) rfl) rfl)
set_option maxRecDepth 100000 in
theorem ml_Law_27 : Cond.methodLink "WhoeverHeardLaw" 27 (my mR_stride) ∈ lwT := (lwT_of (List.mem_of_getElem? (i := 1341) rfl) rfl)
set_option maxRecDepth 100000 in
theorem ml_Law_31 : Cond.methodLink "WhoeverHeardLaw" 31 (my mR_count) ∈ lwT := (lwT_of (List.mem_of_getElem? (i := 1345) rfl) rfl)
set_option maxRecDepth 100000 in
theorem ml_Law_36 : Cond.methodLink "WhoeverHeardLaw" 36 (my mR_feed) ∈ lwT := (lwT_of (List.mem_of_getElem? (i := 1349) rfl) rfl)
set_option maxRecDepth 100000 in
theorem ml_R_167 : Cond.methodLink "WhoeverHeardModel" 167 (my mR_isByte) ∈ lwT := (lwT_of (List.mem_of_getElem? (i := 1353) rfl) rfl)
set_option maxRecDepth 100000 in
theorem ml_Law_41 : Cond.methodLink "WhoeverHeardLaw" 41 (my mR_text) ∈ lwT := (lwT_of (List.mem_of_getElem? (i := 1356) rfl) rfl)
set_option maxRecDepth 100000 in
theorem ml_Law_45 : Cond.methodLink "WhoeverHeardLaw" 45 (my mR_force) ∈ lwT := (lwT_of (List.mem_of_getElem? (i := 1357) rfl) rfl)
set_option maxRecDepth 100000 in
theorem ml_Law_50 : Cond.methodLink "WhoeverHeardLaw" 50 (my mR_person) ∈ lwT := (lwT_of (List.mem_of_getElem? (i := 1361) rfl) rfl)
set_option maxRecDepth 100000 in
theorem ml_Law_54 : Cond.methodLink "WhoeverHeardLaw" 54 (my mR_move) ∈ lwT := (lwT_of (List.mem_of_getElem? (i := 1365) rfl) rfl)
set_option maxRecDepth 100000 in
theorem ml_R_230 : Cond.methodLink "WhoeverHeardModel" 230 (my mR_isOne) ∈ lwT := (lwT_of (List.mem_of_getElem? (i := 1369) rfl) rfl)
set_option maxRecDepth 100000 in
theorem ml_Law_58 : Cond.methodLink "WhoeverHeardLaw" 58 (my mR_told) ∈ lwT := (lwT_of (List.mem_of_getElem? (i := 1373) rfl) rfl)
set_option maxRecDepth 100000 in
theorem ml_R_233 : Cond.methodLink "WhoeverHeardModel" 233 (my mR_whereIs) ∈ lwT := (lwT_of (List.mem_of_getElem? (i := 1377) rfl) rfl)
set_option maxRecDepth 100000 in
theorem ml_Law_62 : Cond.methodLink "WhoeverHeardLaw" 62 (my mR_promise) ∈ lwT := (lwT_of (List.mem_of_getElem? (i := 1381) rfl) rfl)
set_option maxRecDepth 100000 in
theorem ml_Law_66 : Cond.methodLink "WhoeverHeardLaw" 66 (my mR_promised) ∈ lwT := (lwT_of (List.mem_of_getElem? (i := 1385) rfl) rfl)
set_option maxRecDepth 100000 in
theorem ml_R_236 : Cond.methodLink "WhoeverHeardModel" 236 (my mR_isPromise) ∈ lwT := (lwT_of (List.mem_of_getElem? (i := 1389) rfl) rfl)
set_option maxRecDepth 100000 in
theorem ml_Law_70 : Cond.methodLink "WhoeverHeardLaw" 70 (my mR_say) ∈ lwT := (lwT_of (List.mem_of_getElem? (i := 1393) rfl) rfl)
set_option maxRecDepth 100000 in
theorem ml_R_239 : Cond.methodLink "WhoeverHeardModel" 239 (my mR_says) ∈ lwT := (lwT_of (List.mem_of_getElem? (i := 1397) rfl) rfl)
set_option maxRecDepth 100000 in
theorem ml_Law_74 : Cond.methodLink "WhoeverHeardLaw" 74 (my mR_unsay) ∈ lwT := (lwT_of (List.mem_of_getElem? (i := 1401) rfl) rfl)
set_option maxRecDepth 100000 in
theorem ml_Law_78 : Cond.methodLink "WhoeverHeardLaw" 78 (my mR_said) ∈ lwT := (lwT_of (List.mem_of_getElem? (i := 1405) rfl) rfl)
set_option maxRecDepth 100000 in
theorem ml_R_243 : Cond.methodLink "WhoeverHeardModel" 243 (my mR_isSaying) ∈ lwT := (lwT_of (List.mem_of_getElem? (i := 1409) rfl) rfl)
set_option maxRecDepth 100000 in
theorem ml_Law_82 : Cond.methodLink "WhoeverHeardLaw" 82 (my mR_hears) ∈ lwT := (lwT_of (List.mem_of_getElem? (i := 1413) rfl) rfl)
set_option maxRecDepth 100000 in
theorem ml_R_256 : Cond.methodLink "WhoeverHeardModel" 256 (my mR_hearsOf) ∈ lwT := (lwT_of (List.mem_of_getElem? (i := 1417) rfl) rfl)
set_option maxRecDepth 100000 in
theorem ml_R_246 : Cond.methodLink "WhoeverHeardModel" 246 (my mR_names) ∈ lwT := (lwT_of (List.mem_of_getElem? (i := 1421) rfl) rfl)
set_option maxRecDepth 100000 in
theorem ml_R_250 : Cond.methodLink "WhoeverHeardModel" 250 (my mR_worthOf) ∈ lwT := (lwT_of (List.mem_of_getElem? (i := 1425) rfl) rfl)
set_option maxRecDepth 100000 in
theorem ml_R_226 : Cond.methodLink "WhoeverHeardModel" 226 (my mR_two) ∈ lwT := (lwT_of (List.mem_of_getElem? (i := 1429) rfl) rfl)
set_option maxRecDepth 100000 in
theorem ml_R_253 : Cond.methodLink "WhoeverHeardModel" 253 (my mR_within) ∈ lwT := (lwT_of (List.mem_of_getElem? (i := 1432) rfl) rfl)
set_option maxRecDepth 100000 in
theorem ml_Law_86 : Cond.methodLink "WhoeverHeardLaw" 86 (my mR_heard) ∈ lwT := (lwT_of (List.mem_of_getElem? (i := 1435) rfl) rfl)
set_option maxRecDepth 100000 in
theorem ml_R_277 : Cond.methodLink "WhoeverHeardModel" 277 (my mR_clearTo) ∈ lwT := (lwT_of (List.mem_of_getElem? (i := 1439) rfl) rfl)
set_option maxRecDepth 100000 in
theorem ml_R_273 : Cond.methodLink "WhoeverHeardModel" 273 (my mR_isClear) ∈ lwT := (lwT_of (List.mem_of_getElem? (i := 1443) rfl) rfl)
set_option maxRecDepth 100000 in
theorem cn_R_267 : Cond.constantLong "WhoeverHeardModel" 267 (48271) ∈ lwT := (lwT_of (List.mem_of_getElem? (i := 1447) rfl) rfl)
set_option maxRecDepth 100000 in
theorem cn_R_269 : Cond.constantLong "WhoeverHeardModel" 269 (2147483647) ∈ lwT := (lwT_of (List.mem_of_getElem? (i := 1448) rfl) rfl)
set_option maxRecDepth 100000 in
theorem cn_R_271 : Cond.constantLong "WhoeverHeardModel" 271 (100) ∈ lwT := (lwT_of (List.mem_of_getElem? (i := 1449) rfl) rfl)
set_option maxRecDepth 100000 in
theorem ml_Law_90 : Cond.methodLink "WhoeverHeardLaw" 90 (my mR_nobody) ∈ lwT := (lwT_of (List.mem_of_getElem? (i := 1450) rfl) rfl)
set_option maxRecDepth 100000 in
theorem ml_Law_94 : Cond.methodLink "WhoeverHeardLaw" 94 (my mR_owe) ∈ lwT := (lwT_of (List.mem_of_getElem? (i := 1454) rfl) rfl)
set_option maxRecDepth 100000 in
theorem ml_R_295 : Cond.methodLink "WhoeverHeardModel" 295 (my mR_owes) ∈ lwT := (lwT_of (List.mem_of_getElem? (i := 1458) rfl) rfl)
set_option maxRecDepth 100000 in
theorem ml_R_286 : Cond.methodLink "WhoeverHeardModel" 286 (my mR_owesBy) ∈ lwT := (lwT_of (List.mem_of_getElem? (i := 1462) rfl) rfl)
set_option maxRecDepth 100000 in
theorem ml_R_280 : Cond.methodLink "WhoeverHeardModel" 280 (my mR_ones) ∈ lwT := (lwT_of (List.mem_of_getElem? (i := 1466) rfl) rfl)
set_option maxRecDepth 100000 in
theorem ml_R_283 : Cond.methodLink "WhoeverHeardModel" 283 (my mR_can) ∈ lwT := (lwT_of (List.mem_of_getElem? (i := 1469) rfl) rfl)
set_option maxRecDepth 100000 in
theorem ml_R_289 : Cond.methodLink "WhoeverHeardModel" 289 (my mR_strikes) ∈ lwT := (lwT_of (List.mem_of_getElem? (i := 1473) rfl) rfl)
set_option maxRecDepth 100000 in
theorem ml_R_292 : Cond.methodLink "WhoeverHeardModel" 292 (my mR_fits) ∈ lwT := (lwT_of (List.mem_of_getElem? (i := 1477) rfl) rfl)
set_option maxRecDepth 100000 in
theorem ml_Law_98 : Cond.methodLink "WhoeverHeardLaw" 98 (my mR_load) ∈ lwT := (lwT_of (List.mem_of_getElem? (i := 1481) rfl) rfl)
set_option maxRecDepth 100000 in
theorem ml_R_298 : Cond.methodLink "WhoeverHeardModel" 298 (my mR_owedBy) ∈ lwT := (lwT_of (List.mem_of_getElem? (i := 1485) rfl) rfl)
set_option maxRecDepth 100000 in
theorem ml_R_301 : Cond.methodLink "WhoeverHeardModel" 301 (my mR_painOf) ∈ lwT := (lwT_of (List.mem_of_getElem? (i := 1489) rfl) rfl)
set_option maxRecDepth 100000 in
theorem ml_Law_102 : Cond.methodLink "WhoeverHeardLaw" 102 (my mR_done) ∈ lwT := (lwT_of (List.mem_of_getElem? (i := 1493) rfl) rfl)
set_option maxRecDepth 100000 in
theorem ml_R_304 : Cond.methodLink "WhoeverHeardModel" 304 (my mR_doneOf) ∈ lwT := (lwT_of (List.mem_of_getElem? (i := 1497) rfl) rfl)
set_option maxRecDepth 100000 in
theorem ml_Law_106 : Cond.methodLink "WhoeverHeardLaw" 106 (my mR_sum) ∈ lwT := (lwT_of (List.mem_of_getElem? (i := 1501) rfl) rfl)
set_option maxRecDepth 100000 in
theorem ml_R_310 : Cond.methodLink "WhoeverHeardModel" 310 (my mR_keptNow) ∈ lwT := (lwT_of (List.mem_of_getElem? (i := 1505) rfl) rfl)
set_option maxRecDepth 100000 in
theorem ml_R_307 : Cond.methodLink "WhoeverHeardModel" 307 (my mR_isKept) ∈ lwT := (lwT_of (List.mem_of_getElem? (i := 1509) rfl) rfl)
set_option maxRecDepth 100000 in
theorem ml_R_313 : Cond.methodLink "WhoeverHeardModel" 313 (my mR_worthNow) ∈ lwT := (lwT_of (List.mem_of_getElem? (i := 1513) rfl) rfl)
set_option maxRecDepth 100000 in
theorem ml_R_316 : Cond.methodLink "WhoeverHeardModel" 316 (my mR_painNow) ∈ lwT := (lwT_of (List.mem_of_getElem? (i := 1517) rfl) rfl)
set_option maxRecDepth 100000 in
theorem ml_Law_110 : Cond.methodLink "WhoeverHeardLaw" 110 (my mR_judge) ∈ lwT := (lwT_of (List.mem_of_getElem? (i := 1521) rfl) rfl)
set_option maxRecDepth 100000 in
theorem ml_R_319 : Cond.methodLink "WhoeverHeardModel" 319 (my mR_wayTo) ∈ lwT := (lwT_of (List.mem_of_getElem? (i := 1525) rfl) rfl)
set_option maxRecDepth 100000 in
theorem ml_Law_114 : Cond.methodLink "WhoeverHeardLaw" 114 (my mR_walk) ∈ lwT := (lwT_of (List.mem_of_getElem? (i := 1529) rfl) rfl)
set_option maxRecDepth 100000 in
theorem ml_Law_118 : Cond.methodLink "WhoeverHeardLaw" 118 (my mR_best) ∈ lwT := (lwT_of (List.mem_of_getElem? (i := 1533) rfl) rfl)
set_option maxRecDepth 100000 in
theorem ml_R_322 : Cond.methodLink "WhoeverHeardModel" 322 (my mR_isHow) ∈ lwT := (lwT_of (List.mem_of_getElem? (i := 1537) rfl) rfl)
set_option maxRecDepth 100000 in
theorem ml_R_325 : Cond.methodLink "WhoeverHeardModel" 325 (my mR_owesWith) ∈ lwT := (lwT_of (List.mem_of_getElem? (i := 1540) rfl) rfl)
set_option maxRecDepth 100000 in
theorem ml_Law_122 : Cond.methodLink "WhoeverHeardLaw" 122 (my mR_foe) ∈ lwT := (lwT_of (List.mem_of_getElem? (i := 1544) rfl) rfl)
set_option maxRecDepth 100000 in
theorem ml_Law_126 : Cond.methodLink "WhoeverHeardLaw" 126 (my mR_loud) ∈ lwT := (lwT_of (List.mem_of_getElem? (i := 1548) rfl) rfl)
set_option maxRecDepth 100000 in
theorem ml_Law_130 : Cond.methodLink "WhoeverHeardLaw" 130 (my mR_spare) ∈ lwT := (lwT_of (List.mem_of_getElem? (i := 1552) rfl) rfl)
set_option maxRecDepth 100000 in
theorem ml_Law_134 : Cond.methodLink "WhoeverHeardLaw" 134 (my mR_even) ∈ lwT := (lwT_of (List.mem_of_getElem? (i := 1556) rfl) rfl)
set_option maxRecDepth 100000 in
theorem ml_R_329 : Cond.methodLink "WhoeverHeardModel" 329 (my mR_shares) ∈ lwT := (lwT_of (List.mem_of_getElem? (i := 1560) rfl) rfl)
set_option maxRecDepth 100000 in
theorem ml_Law_138 : Cond.methodLink "WhoeverHeardLaw" 138 (my mR_hardest) ∈ lwT := (lwT_of (List.mem_of_getElem? (i := 1564) rfl) rfl)
set_option maxRecDepth 100000 in
theorem ml_Law_142 : Cond.methodLink "WhoeverHeardLaw" 142 (my mR_flee) ∈ lwT := (lwT_of (List.mem_of_getElem? (i := 1568) rfl) rfl)
set_option maxRecDepth 100000 in
theorem ml_R_335 : Cond.methodLink "WhoeverHeardModel" 335 (my mR_goesTo) ∈ lwT := (lwT_of (List.mem_of_getElem? (i := 1572) rfl) rfl)
set_option maxRecDepth 100000 in
theorem ml_R_332 : Cond.methodLink "WhoeverHeardModel" 332 (my mR_owedAt) ∈ lwT := (lwT_of (List.mem_of_getElem? (i := 1576) rfl) rfl)
set_option maxRecDepth 100000 in
theorem ml_Law_146 : Cond.methodLink "WhoeverHeardLaw" 146 (my mR_send) ∈ lwT := (lwT_of (List.mem_of_getElem? (i := 1580) rfl) rfl)
set_option maxRecDepth 100000 in
theorem ml_Law_150 : Cond.methodLink "WhoeverHeardLaw" 150 (my mR_rest) ∈ lwT := (lwT_of (List.mem_of_getElem? (i := 1584) rfl) rfl)
set_option maxRecDepth 100000 in
theorem ml_Law_155 : Cond.methodLink "WhoeverHeardLaw" 155 (my mR_chance) ∈ lwT := (lwT_of (List.mem_of_getElem? (i := 1588) rfl) rfl)
set_option maxRecDepth 100000 in
theorem ml_R_341 : Cond.methodLink "WhoeverHeardModel" 341 (my mR_chanceOf) ∈ lwT := (lwT_of (List.mem_of_getElem? (i := 1592) rfl) rfl)
set_option maxRecDepth 100000 in
theorem cn_R_339 : Cond.constantLong "WhoeverHeardModel" 339 (1000000) ∈ lwT := (lwT_of (List.mem_of_getElem? (i := 1596) rfl) rfl)
set_option maxRecDepth 100000 in
theorem cn_R_345 : Cond.constantLong "WhoeverHeardModel" 345 (-4611686018427387904) ∈ lwT := (lwT_of (List.mem_of_getElem? (i := 1597) rfl) rfl)
set_option maxRecDepth 100000 in
theorem ml_Law_160 : Cond.methodLink "WhoeverHeardLaw" 160 (my mR_lost) ∈ lwT := (lwT_of (List.mem_of_getElem? (i := 1598) rfl) rfl)
set_option maxRecDepth 100000 in
theorem ml_Law_164 : Cond.methodLink "WhoeverHeardLaw" 164 (my mR_laws) ∈ lwT := (lwT_of (List.mem_of_getElem? (i := 1602) rfl) rfl)
set_option maxRecDepth 100000 in
theorem ml_Law_168 : Cond.methodLink "WhoeverHeardLaw" 168 (my mR_witness) ∈ lwT := (lwT_of (List.mem_of_getElem? (i := 1606) rfl) rfl)
set_option maxRecDepth 100000 in
theorem ml_R_347 : Cond.methodLink "WhoeverHeardModel" 347 (my mR_sheetWrong) ∈ lwT := (lwT_of (List.mem_of_getElem? (i := 1610) rfl) rfl)
set_option maxRecDepth 100000 in
theorem ml_R_350 : Cond.methodLink "WhoeverHeardModel" 350 (my mR_unlike) ∈ lwT := (lwT_of (List.mem_of_getElem? (i := 1614) rfl) rfl)
set_option maxRecDepth 100000 in
theorem ml_Law_172 : Cond.methodLink "WhoeverHeardLaw" 172 (my mR_alibi) ∈ lwT := (lwT_of (List.mem_of_getElem? (i := 1618) rfl) rfl)
set_option maxRecDepth 100000 in
theorem ml_Law_176 : Cond.methodLink "WhoeverHeardLaw" 176 (my mR_drawn) ∈ lwT := (lwT_of (List.mem_of_getElem? (i := 1622) rfl) rfl)
set_option maxRecDepth 100000 in
theorem cn_R_353 : Cond.constant "WhoeverHeardModel" 353 (99999) ∈ lwT := (lwT_of (List.mem_of_getElem? (i := 1626) rfl) rfl)
set_option maxRecDepth 100000 in
theorem ml_R_354 : Cond.methodLink "WhoeverHeardModel" 354 (my mR_draws) ∈ lwT := (lwT_of (List.mem_of_getElem? (i := 1627) rfl) rfl)
set_option maxRecDepth 100000 in
theorem ml_Law_181 : Cond.methodLink "WhoeverHeardLaw" 181 (my mR_odds) ∈ lwT := (lwT_of (List.mem_of_getElem? (i := 1631) rfl) rfl)
set_option maxRecDepth 100000 in
theorem ml_R_357 : Cond.methodLink "WhoeverHeardModel" 357 (my mR_lowest) ∈ lwT := (lwT_of (List.mem_of_getElem? (i := 1635) rfl) rfl)
set_option maxRecDepth 100000 in
theorem ml_Law_185 : Cond.methodLink "WhoeverHeardLaw" 185 (my mR_image) ∈ lwT := (lwT_of (List.mem_of_getElem? (i := 1638) rfl) rfl)
set_option maxRecDepth 100000 in
theorem ml_Law_189 : Cond.methodLink "WhoeverHeardLaw" 189 (my mR_back) ∈ lwT := (lwT_of (List.mem_of_getElem? (i := 1642) rfl) rfl)
set_option maxRecDepth 100000 in
theorem ml_Law_193 : Cond.methodLink "WhoeverHeardLaw" 193 (my mR_sheet) ∈ lwT := (lwT_of (List.mem_of_getElem? (i := 1646) rfl) rfl)
set_option maxRecDepth 100000 in
theorem ml_Law_197 : Cond.methodLink "WhoeverHeardLaw" 197 (my mR_cell) ∈ lwT := (lwT_of (List.mem_of_getElem? (i := 1650) rfl) rfl)
set_option maxRecDepth 100000 in
theorem ml_Law_202 : Cond.methodLink "WhoeverHeardLaw" 202 (my mR_copy) ∈ lwT := (lwT_of (List.mem_of_getElem? (i := 1654) rfl) rfl)
set_option maxRecDepth 100000 in
theorem ml_Law_206 : Cond.methodLink "WhoeverHeardLaw" 206 (my mR_promisesBy) ∈ lwT := (lwT_of (List.mem_of_getElem? (i := 1658) rfl) rfl)
set_option maxRecDepth 100000 in
theorem ml_R_376 : Cond.methodLink "WhoeverHeardModel" 376 (my mR_promise) ∈ lwT := (lwT_of (List.mem_of_getElem? (i := 1662) rfl) rfl)
set_option maxRecDepth 100000 in
theorem ml_Law_210 : Cond.methodLink "WhoeverHeardLaw" 210 (my mR_taken) ∈ lwT := (lwT_of (List.mem_of_getElem? (i := 1663) rfl) rfl)
set_option maxRecDepth 100000 in
theorem ml_R_380 : Cond.methodLink "WhoeverHeardModel" 380 (my mR_isUnder) ∈ lwT := (lwT_of (List.mem_of_getElem? (i := 1667) rfl) rfl)
set_option maxRecDepth 100000 in
theorem ok_Folk_init : IOk mFolk_init 0 := ⟨⟨(lwT_of (List.mem_of_getElem? (i := 126) rfl) rfl), (lwT_of (List.mem_of_getElem? (i := 76) rfl) rfl), ⟨by decide, by decide, by decide +kernel⟩, by decide⟩, (lwT_of (List.mem_of_getElem? (i := 125) rfl) rfl), rfl⟩
set_option maxRecDepth 100000 in
theorem ok_Folk_has : VOk mFolk_has 1 := ⟨⟨(lwT_of (List.mem_of_getElem? (i := 663) rfl) rfl), (lwT_of (List.mem_of_getElem? (i := 76) rfl) rfl), ⟨by decide, by decide, by decide +kernel⟩, by decide⟩, (lwT_of (List.mem_of_getElem? (i := 661) rfl) rfl), (lwT_of (List.mem_of_getElem? (i := 662) rfl) rfl)⟩
set_option maxRecDepth 100000 in
theorem ok_Folk_add : VOk mFolk_add 4 := ⟨⟨(lwT_of (List.mem_of_getElem? (i := 655) rfl) rfl), (lwT_of (List.mem_of_getElem? (i := 76) rfl) rfl), ⟨by decide, by decide, by decide +kernel⟩, by decide⟩, (lwT_of (List.mem_of_getElem? (i := 653) rfl) rfl), (lwT_of (List.mem_of_getElem? (i := 654) rfl) rfl)⟩
set_option maxRecDepth 100000 in
theorem ok_Folk_isA : VOk mFolk_isA 2 := ⟨⟨(lwT_of (List.mem_of_getElem? (i := 680) rfl) rfl), (lwT_of (List.mem_of_getElem? (i := 76) rfl) rfl), ⟨by decide, by decide, by decide +kernel⟩, by decide⟩, (lwT_of (List.mem_of_getElem? (i := 678) rfl) rfl), (lwT_of (List.mem_of_getElem? (i := 679) rfl) rfl)⟩
set_option maxRecDepth 100000 in
theorem ok_Folk_startOf : VOk mFolk_startOf 1 := ⟨⟨(lwT_of (List.mem_of_getElem? (i := 676) rfl) rfl), (lwT_of (List.mem_of_getElem? (i := 76) rfl) rfl), ⟨by decide, by decide, by decide +kernel⟩, by decide⟩, (lwT_of (List.mem_of_getElem? (i := 674) rfl) rfl), (lwT_of (List.mem_of_getElem? (i := 675) rfl) rfl)⟩
set_option maxRecDepth 100000 in
theorem ok_Folk_placeOf : VOk mFolk_placeOf 2 := ⟨⟨(lwT_of (List.mem_of_getElem? (i := 672) rfl) rfl), (lwT_of (List.mem_of_getElem? (i := 76) rfl) rfl), ⟨by decide, by decide, by decide +kernel⟩, by decide⟩, (lwT_of (List.mem_of_getElem? (i := 670) rfl) rfl), (lwT_of (List.mem_of_getElem? (i := 671) rfl) rfl)⟩
set_option maxRecDepth 100000 in
theorem ok_Folk_isBound : VOk mFolk_isBound 1 := ⟨⟨(lwT_of (List.mem_of_getElem? (i := 804) rfl) rfl), (lwT_of (List.mem_of_getElem? (i := 76) rfl) rfl), ⟨by decide, by decide, by decide +kernel⟩, by decide⟩, (lwT_of (List.mem_of_getElem? (i := 802) rfl) rfl), (lwT_of (List.mem_of_getElem? (i := 803) rfl) rfl)⟩
set_option maxRecDepth 100000 in
theorem ok_Folk_canDo : VOk mFolk_canDo 2 := ⟨⟨(lwT_of (List.mem_of_getElem? (i := 814) rfl) rfl), (lwT_of (List.mem_of_getElem? (i := 76) rfl) rfl), ⟨by decide, by decide, by decide +kernel⟩, by decide⟩, (lwT_of (List.mem_of_getElem? (i := 812) rfl) rfl), (lwT_of (List.mem_of_getElem? (i := 813) rfl) rfl)⟩
set_option maxRecDepth 100000 in
theorem ok_Folk_hearingOf : VOk mFolk_hearingOf 3 := ⟨⟨(lwT_of (List.mem_of_getElem? (i := 767) rfl) rfl), (lwT_of (List.mem_of_getElem? (i := 76) rfl) rfl), ⟨by decide, by decide, by decide +kernel⟩, by decide⟩, (lwT_of (List.mem_of_getElem? (i := 765) rfl) rfl), (lwT_of (List.mem_of_getElem? (i := 766) rfl) rfl)⟩
set_option maxRecDepth 100000 in
theorem ok_Image_init : IOk mImage_init 0 := ⟨⟨(lwT_of (List.mem_of_getElem? (i := 369) rfl) rfl), (lwT_of (List.mem_of_getElem? (i := 82) rfl) rfl), ⟨by decide, by decide, by decide +kernel⟩, by decide⟩, (lwT_of (List.mem_of_getElem? (i := 368) rfl) rfl), rfl⟩
set_option maxRecDepth 100000 in
theorem ok_Image_keep : VOk mImage_keep 4 := ⟨⟨(lwT_of (List.mem_of_getElem? (i := 1039) rfl) rfl), (lwT_of (List.mem_of_getElem? (i := 82) rfl) rfl), ⟨by decide, by decide, by decide +kernel⟩, by decide⟩, (lwT_of (List.mem_of_getElem? (i := 1037) rfl) rfl), (lwT_of (List.mem_of_getElem? (i := 1038) rfl) rfl)⟩
set_option maxRecDepth 100000 in
theorem ok_Image_giveBack : VOk mImage_giveBack 4 := ⟨⟨(lwT_of (List.mem_of_getElem? (i := 1058) rfl) rfl), (lwT_of (List.mem_of_getElem? (i := 82) rfl) rfl), ⟨by decide, by decide, by decide +kernel⟩, by decide⟩, (lwT_of (List.mem_of_getElem? (i := 1056) rfl) rfl), (lwT_of (List.mem_of_getElem? (i := 1057) rfl) rfl)⟩
set_option maxRecDepth 100000 in
theorem ok_Ledger_init : IOk mLedger_init 5 := ⟨⟨(lwT_of (List.mem_of_getElem? (i := 309) rfl) rfl), (lwT_of (List.mem_of_getElem? (i := 81) rfl) rfl), ⟨by decide, by decide, by decide +kernel⟩, by decide⟩, (lwT_of (List.mem_of_getElem? (i := 308) rfl) rfl), rfl⟩
set_option maxRecDepth 100000 in
theorem ok_Ledger_reckon : VOk mLedger_reckon 1 := ⟨⟨(lwT_of (List.mem_of_getElem? (i := 787) rfl) rfl), (lwT_of (List.mem_of_getElem? (i := 81) rfl) rfl), ⟨by decide, by decide, by decide +kernel⟩, by decide⟩, (lwT_of (List.mem_of_getElem? (i := 785) rfl) rfl), (lwT_of (List.mem_of_getElem? (i := 786) rfl) rfl)⟩
set_option maxRecDepth 100000 in
theorem ok_Ledger_listen : VOk mLedger_listen 1 := ⟨⟨(lwT_of (List.mem_of_getElem? (i := 734) rfl) rfl), (lwT_of (List.mem_of_getElem? (i := 81) rfl) rfl), ⟨by decide, by decide, by decide +kernel⟩, by decide⟩, (lwT_of (List.mem_of_getElem? (i := 732) rfl) rfl), (lwT_of (List.mem_of_getElem? (i := 733) rfl) rfl)⟩
set_option maxRecDepth 100000 in
theorem ok_Ledger_listenBy : VOk mLedger_listenBy 1 := ⟨⟨(lwT_of (List.mem_of_getElem? (i := 947) rfl) rfl), (lwT_of (List.mem_of_getElem? (i := 81) rfl) rfl), ⟨by decide, by decide, by decide +kernel⟩, by decide⟩, (lwT_of (List.mem_of_getElem? (i := 945) rfl) rfl), (lwT_of (List.mem_of_getElem? (i := 946) rfl) rfl)⟩
set_option maxRecDepth 100000 in
theorem ok_Ledger_listenTo : VOk mLedger_listenTo 1 := ⟨⟨(lwT_of (List.mem_of_getElem? (i := 738) rfl) rfl), (lwT_of (List.mem_of_getElem? (i := 81) rfl) rfl), ⟨by decide, by decide, by decide +kernel⟩, by decide⟩, (lwT_of (List.mem_of_getElem? (i := 737) rfl) rfl), (lwT_of (List.mem_of_getElem? (i := 16) rfl) rfl)⟩
set_option maxRecDepth 100000 in
theorem ok_Ledger_listenOne : VOk mLedger_listenOne 2 := ⟨⟨(lwT_of (List.mem_of_getElem? (i := 742) rfl) rfl), (lwT_of (List.mem_of_getElem? (i := 81) rfl) rfl), ⟨by decide, by decide, by decide +kernel⟩, by decide⟩, (lwT_of (List.mem_of_getElem? (i := 741) rfl) rfl), (lwT_of (List.mem_of_getElem? (i := 17) rfl) rfl)⟩
set_option maxRecDepth 100000 in
theorem ok_Ledger_setClear : VOk mLedger_setClear 3 := ⟨⟨(lwT_of (List.mem_of_getElem? (i := 771) rfl) rfl), (lwT_of (List.mem_of_getElem? (i := 81) rfl) rfl), ⟨by decide, by decide, by decide +kernel⟩, by decide⟩, (lwT_of (List.mem_of_getElem? (i := 770) rfl) rfl), (lwT_of (List.mem_of_getElem? (i := 18) rfl) rfl)⟩
set_option maxRecDepth 100000 in
theorem ok_Ledger_bindAll : VOk mLedger_bindAll 0 := ⟨⟨(lwT_of (List.mem_of_getElem? (i := 792) rfl) rfl), (lwT_of (List.mem_of_getElem? (i := 81) rfl) rfl), ⟨by decide, by decide, by decide +kernel⟩, by decide⟩, (lwT_of (List.mem_of_getElem? (i := 791) rfl) rfl), (lwT_of (List.mem_of_getElem? (i := 19) rfl) rfl)⟩
set_option maxRecDepth 100000 in
theorem ok_Ledger_bindBy : VOk mLedger_bindBy 1 := ⟨⟨(lwT_of (List.mem_of_getElem? (i := 796) rfl) rfl), (lwT_of (List.mem_of_getElem? (i := 81) rfl) rfl), ⟨by decide, by decide, by decide +kernel⟩, by decide⟩, (lwT_of (List.mem_of_getElem? (i := 795) rfl) rfl), (lwT_of (List.mem_of_getElem? (i := 20) rfl) rfl)⟩
set_option maxRecDepth 100000 in
theorem ok_Ledger_shareOf : VOk mLedger_shareOf 2 := ⟨⟨(lwT_of (List.mem_of_getElem? (i := 800) rfl) rfl), (lwT_of (List.mem_of_getElem? (i := 81) rfl) rfl), ⟨by decide, by decide, by decide +kernel⟩, by decide⟩, (lwT_of (List.mem_of_getElem? (i := 799) rfl) rfl), (lwT_of (List.mem_of_getElem? (i := 21) rfl) rfl)⟩
set_option maxRecDepth 100000 in
theorem ok_Ledger_settle : VOk mLedger_settle 2 := ⟨⟨(lwT_of (List.mem_of_getElem? (i := 818) rfl) rfl), (lwT_of (List.mem_of_getElem? (i := 81) rfl) rfl), ⟨by decide, by decide, by decide +kernel⟩, by decide⟩, (lwT_of (List.mem_of_getElem? (i := 816) rfl) rfl), (lwT_of (List.mem_of_getElem? (i := 817) rfl) rfl)⟩
set_option maxRecDepth 100000 in
theorem ok_Ledger_settleOne : VOk mLedger_settleOne 3 := ⟨⟨(lwT_of (List.mem_of_getElem? (i := 822) rfl) rfl), (lwT_of (List.mem_of_getElem? (i := 81) rfl) rfl), ⟨by decide, by decide, by decide +kernel⟩, by decide⟩, (lwT_of (List.mem_of_getElem? (i := 821) rfl) rfl), (lwT_of (List.mem_of_getElem? (i := 22) rfl) rfl)⟩
set_option maxRecDepth 100000 in
theorem ok_Ledger_strikeOut : VOk mLedger_strikeOut 1 := ⟨⟨(lwT_of (List.mem_of_getElem? (i := 827) rfl) rfl), (lwT_of (List.mem_of_getElem? (i := 81) rfl) rfl), ⟨by decide, by decide, by decide +kernel⟩, by decide⟩, (lwT_of (List.mem_of_getElem? (i := 826) rfl) rfl), (lwT_of (List.mem_of_getElem? (i := 23) rfl) rfl)⟩
set_option maxRecDepth 100000 in
theorem ok_Ledger_cutToRoom : VOk mLedger_cutToRoom 1 := ⟨⟨(lwT_of (List.mem_of_getElem? (i := 832) rfl) rfl), (lwT_of (List.mem_of_getElem? (i := 81) rfl) rfl), ⟨by decide, by decide, by decide +kernel⟩, by decide⟩, (lwT_of (List.mem_of_getElem? (i := 831) rfl) rfl), (lwT_of (List.mem_of_getElem? (i := 24) rfl) rfl)⟩
set_option maxRecDepth 100000 in
theorem ok_Ledger_doneOf : VOk mLedger_doneOf 1 := ⟨⟨(lwT_of (List.mem_of_getElem? (i := 848) rfl) rfl), (lwT_of (List.mem_of_getElem? (i := 81) rfl) rfl), ⟨by decide, by decide, by decide +kernel⟩, by decide⟩, (lwT_of (List.mem_of_getElem? (i := 846) rfl) rfl), (lwT_of (List.mem_of_getElem? (i := 847) rfl) rfl)⟩
set_option maxRecDepth 100000 in
theorem ok_Ledger_keeps : VOk mLedger_keeps 1 := ⟨⟨(lwT_of (List.mem_of_getElem? (i := 868) rfl) rfl), (lwT_of (List.mem_of_getElem? (i := 81) rfl) rfl), ⟨by decide, by decide, by decide +kernel⟩, by decide⟩, (lwT_of (List.mem_of_getElem? (i := 866) rfl) rfl), (lwT_of (List.mem_of_getElem? (i := 867) rfl) rfl)⟩
set_option maxRecDepth 100000 in
theorem ok_Ledger_keptBits : VOk mLedger_keptBits 0 := ⟨⟨(lwT_of (List.mem_of_getElem? (i := 864) rfl) rfl), (lwT_of (List.mem_of_getElem? (i := 81) rfl) rfl), ⟨by decide, by decide, by decide +kernel⟩, by decide⟩, (lwT_of (List.mem_of_getElem? (i := 862) rfl) rfl), (lwT_of (List.mem_of_getElem? (i := 863) rfl) rfl)⟩
set_option maxRecDepth 100000 in
theorem ok_Ledger_worthKept : VOk mLedger_worthKept 0 := ⟨⟨(lwT_of (List.mem_of_getElem? (i := 873) rfl) rfl), (lwT_of (List.mem_of_getElem? (i := 81) rfl) rfl), ⟨by decide, by decide, by decide +kernel⟩, by decide⟩, (lwT_of (List.mem_of_getElem? (i := 872) rfl) rfl), (lwT_of (List.mem_of_getElem? (i := 25) rfl) rfl)⟩
set_option maxRecDepth 100000 in
theorem ok_Ledger_painOf : VOk mLedger_painOf 1 := ⟨⟨(lwT_of (List.mem_of_getElem? (i := 840) rfl) rfl), (lwT_of (List.mem_of_getElem? (i := 81) rfl) rfl), ⟨by decide, by decide, by decide +kernel⟩, by decide⟩, (lwT_of (List.mem_of_getElem? (i := 838) rfl) rfl), (lwT_of (List.mem_of_getElem? (i := 839) rfl) rfl)⟩
set_option maxRecDepth 100000 in
theorem ok_Ledger_painOfAll : VOk mLedger_painOfAll 0 := ⟨⟨(lwT_of (List.mem_of_getElem? (i := 877) rfl) rfl), (lwT_of (List.mem_of_getElem? (i := 81) rfl) rfl), ⟨by decide, by decide, by decide +kernel⟩, by decide⟩, (lwT_of (List.mem_of_getElem? (i := 875) rfl) rfl), (lwT_of (List.mem_of_getElem? (i := 876) rfl) rfl)⟩
set_option maxRecDepth 100000 in
theorem ok_Ledger_outcome : VOk mLedger_outcome 1 := ⟨⟨(lwT_of (List.mem_of_getElem? (i := 860) rfl) rfl), (lwT_of (List.mem_of_getElem? (i := 81) rfl) rfl), ⟨by decide, by decide, by decide +kernel⟩, by decide⟩, (lwT_of (List.mem_of_getElem? (i := 858) rfl) rfl), (lwT_of (List.mem_of_getElem? (i := 859) rfl) rfl)⟩
set_option maxRecDepth 100000 in
theorem ok_Ledger_fullBits : VOk mLedger_fullBits 0 := ⟨⟨(lwT_of (List.mem_of_getElem? (i := 856) rfl) rfl), (lwT_of (List.mem_of_getElem? (i := 81) rfl) rfl), ⟨by decide, by decide, by decide +kernel⟩, by decide⟩, (lwT_of (List.mem_of_getElem? (i := 854) rfl) rfl), (lwT_of (List.mem_of_getElem? (i := 855) rfl) rfl)⟩
set_option maxRecDepth 100000 in
theorem ok_Ledger_sayMore : VOk mLedger_sayMore 2 := ⟨⟨(lwT_of (List.mem_of_getElem? (i := 898) rfl) rfl), (lwT_of (List.mem_of_getElem? (i := 81) rfl) rfl), ⟨by decide, by decide, by decide +kernel⟩, by decide⟩, (lwT_of (List.mem_of_getElem? (i := 896) rfl) rfl), (lwT_of (List.mem_of_getElem? (i := 897) rfl) rfl)⟩
set_option maxRecDepth 100000 in
theorem ok_Ledger_draw : VOk mLedger_draw 1 := ⟨⟨(lwT_of (List.mem_of_getElem? (i := 1022) rfl) rfl), (lwT_of (List.mem_of_getElem? (i := 81) rfl) rfl), ⟨by decide, by decide, by decide +kernel⟩, by decide⟩, (lwT_of (List.mem_of_getElem? (i := 1020) rfl) rfl), (lwT_of (List.mem_of_getElem? (i := 1021) rfl) rfl)⟩
set_option maxRecDepth 100000 in
theorem ok_Ledger_tryPlaces : VOk mLedger_tryPlaces 1 := ⟨⟨(lwT_of (List.mem_of_getElem? (i := 943) rfl) rfl), (lwT_of (List.mem_of_getElem? (i := 81) rfl) rfl), ⟨by decide, by decide, by decide +kernel⟩, by decide⟩, (lwT_of (List.mem_of_getElem? (i := 941) rfl) rfl), (lwT_of (List.mem_of_getElem? (i := 942) rfl) rfl)⟩
set_option maxRecDepth 100000 in
theorem ok_Ledger_sharesOut : VOk mLedger_sharesOut 1 := ⟨⟨(lwT_of (List.mem_of_getElem? (i := 923) rfl) rfl), (lwT_of (List.mem_of_getElem? (i := 81) rfl) rfl), ⟨by decide, by decide, by decide +kernel⟩, by decide⟩, (lwT_of (List.mem_of_getElem? (i := 921) rfl) rfl), (lwT_of (List.mem_of_getElem? (i := 922) rfl) rfl)⟩
set_option maxRecDepth 100000 in
theorem ok_Ledger_evenBits : VOk mLedger_evenBits 1 := ⟨⟨(lwT_of (List.mem_of_getElem? (i := 927) rfl) rfl), (lwT_of (List.mem_of_getElem? (i := 81) rfl) rfl), ⟨by decide, by decide, by decide +kernel⟩, by decide⟩, (lwT_of (List.mem_of_getElem? (i := 926) rfl) rfl), (lwT_of (List.mem_of_getElem? (i := 27) rfl) rfl)⟩
set_option maxRecDepth 100000 in
theorem ok_Ledger_lightest : VOk mLedger_lightest 1 := ⟨⟨(lwT_of (List.mem_of_getElem? (i := 931) rfl) rfl), (lwT_of (List.mem_of_getElem? (i := 81) rfl) rfl), ⟨by decide, by decide, by decide +kernel⟩, by decide⟩, (lwT_of (List.mem_of_getElem? (i := 930) rfl) rfl), (lwT_of (List.mem_of_getElem? (i := 28) rfl) rfl)⟩
set_option maxRecDepth 100000 in
theorem ok_Ledger_chanceOf : VOk mLedger_chanceOf 2 := ⟨⟨(lwT_of (List.mem_of_getElem? (i := 975) rfl) rfl), (lwT_of (List.mem_of_getElem? (i := 81) rfl) rfl), ⟨by decide, by decide, by decide +kernel⟩, by decide⟩, (lwT_of (List.mem_of_getElem? (i := 973) rfl) rfl), (lwT_of (List.mem_of_getElem? (i := 974) rfl) rfl)⟩
set_option maxRecDepth 100000 in
theorem ok_Reader_init : IOk mReader_init 0 := ⟨⟨(lwT_of (List.mem_of_getElem? (i := 240) rfl) rfl), (lwT_of (List.mem_of_getElem? (i := 79) rfl) rfl), ⟨by decide, by decide, by decide +kernel⟩, by decide⟩, (lwT_of (List.mem_of_getElem? (i := 239) rfl) rfl), rfl⟩
set_option maxRecDepth 100000 in
theorem ok_Reader_put : VOk mReader_put 1 := ⟨⟨(lwT_of (List.mem_of_getElem? (i := 466) rfl) rfl), (lwT_of (List.mem_of_getElem? (i := 79) rfl) rfl), ⟨by decide, by decide, by decide +kernel⟩, by decide⟩, (lwT_of (List.mem_of_getElem? (i := 464) rfl) rfl), (lwT_of (List.mem_of_getElem? (i := 465) rfl) rfl)⟩
set_option maxRecDepth 100000 in
theorem ok_Reader_clear : VOk mReader_clear 0 := ⟨⟨(lwT_of (List.mem_of_getElem? (i := 574) rfl) rfl), (lwT_of (List.mem_of_getElem? (i := 79) rfl) rfl), ⟨by decide, by decide, by decide +kernel⟩, by decide⟩, (lwT_of (List.mem_of_getElem? (i := 572) rfl) rfl), (lwT_of (List.mem_of_getElem? (i := 573) rfl) rfl)⟩
set_option maxRecDepth 100000 in
theorem ok_Reader_fault : VOk mReader_fault 0 := ⟨⟨(lwT_of (List.mem_of_getElem? (i := 643) rfl) rfl), (lwT_of (List.mem_of_getElem? (i := 79) rfl) rfl), ⟨by decide, by decide, by decide +kernel⟩, by decide⟩, (lwT_of (List.mem_of_getElem? (i := 641) rfl) rfl), (lwT_of (List.mem_of_getElem? (i := 642) rfl) rfl)⟩
set_option maxRecDepth 100000 in
theorem ok_Reader_reads : VOk mReader_reads 0 := ⟨⟨(lwT_of (List.mem_of_getElem? (i := 470) rfl) rfl), (lwT_of (List.mem_of_getElem? (i := 79) rfl) rfl), ⟨by decide, by decide, by decide +kernel⟩, by decide⟩, (lwT_of (List.mem_of_getElem? (i := 468) rfl) rfl), (lwT_of (List.mem_of_getElem? (i := 469) rfl) rfl)⟩
set_option maxRecDepth 100000 in
theorem ok_Reader_cut : VOk mReader_cut 0 := ⟨⟨(lwT_of (List.mem_of_getElem? (i := 474) rfl) rfl), (lwT_of (List.mem_of_getElem? (i := 79) rfl) rfl), ⟨by decide, by decide, by decide +kernel⟩, by decide⟩, (lwT_of (List.mem_of_getElem? (i := 473) rfl) rfl), (lwT_of (List.mem_of_getElem? (i := 0) rfl) rfl)⟩
set_option maxRecDepth 100000 in
theorem ok_Reader_putToken : VOk mReader_putToken 3 := ⟨⟨(lwT_of (List.mem_of_getElem? (i := 508) rfl) rfl), (lwT_of (List.mem_of_getElem? (i := 79) rfl) rfl), ⟨by decide, by decide, by decide +kernel⟩, by decide⟩, (lwT_of (List.mem_of_getElem? (i := 507) rfl) rfl), (lwT_of (List.mem_of_getElem? (i := 5) rfl) rfl)⟩
set_option maxRecDepth 100000 in
theorem ok_Reader_putNumber : VOk mReader_putNumber 2 := ⟨⟨(lwT_of (List.mem_of_getElem? (i := 529) rfl) rfl), (lwT_of (List.mem_of_getElem? (i := 79) rfl) rfl), ⟨by decide, by decide, by decide +kernel⟩, by decide⟩, (lwT_of (List.mem_of_getElem? (i := 528) rfl) rfl), (lwT_of (List.mem_of_getElem? (i := 8) rfl) rfl)⟩
set_option maxRecDepth 100000 in
theorem ok_Reader_putWord : VOk mReader_putWord 2 := ⟨⟨(lwT_of (List.mem_of_getElem? (i := 488) rfl) rfl), (lwT_of (List.mem_of_getElem? (i := 79) rfl) rfl), ⟨by decide, by decide, by decide +kernel⟩, by decide⟩, (lwT_of (List.mem_of_getElem? (i := 487) rfl) rfl), (lwT_of (List.mem_of_getElem? (i := 2) rfl) rfl)⟩
set_option maxRecDepth 100000 in
theorem ok_Reader_nameAt : VOk mReader_nameAt 2 := ⟨⟨(lwT_of (List.mem_of_getElem? (i := 492) rfl) rfl), (lwT_of (List.mem_of_getElem? (i := 79) rfl) rfl), ⟨by decide, by decide, by decide +kernel⟩, by decide⟩, (lwT_of (List.mem_of_getElem? (i := 491) rfl) rfl), (lwT_of (List.mem_of_getElem? (i := 3) rfl) rfl)⟩
set_option maxRecDepth 100000 in
theorem ok_Reader_keyAt : VOk mReader_keyAt 2 := ⟨⟨(lwT_of (List.mem_of_getElem? (i := 512) rfl) rfl), (lwT_of (List.mem_of_getElem? (i := 79) rfl) rfl), ⟨by decide, by decide, by decide +kernel⟩, by decide⟩, (lwT_of (List.mem_of_getElem? (i := 511) rfl) rfl), (lwT_of (List.mem_of_getElem? (i := 6) rfl) rfl)⟩
set_option maxRecDepth 100000 in
theorem ok_Reader_spells : VOk mReader_spells 3 := ⟨⟨(lwT_of (List.mem_of_getElem? (i := 497) rfl) rfl), (lwT_of (List.mem_of_getElem? (i := 79) rfl) rfl), ⟨by decide, by decide, by decide +kernel⟩, by decide⟩, (lwT_of (List.mem_of_getElem? (i := 496) rfl) rfl), (lwT_of (List.mem_of_getElem? (i := 4) rfl) rfl)⟩
set_option maxRecDepth 100000 in
theorem ok_Reader_lettersEnd : VOk mReader_lettersEnd 1 := ⟨⟨(lwT_of (List.mem_of_getElem? (i := 484) rfl) rfl), (lwT_of (List.mem_of_getElem? (i := 79) rfl) rfl), ⟨by decide, by decide, by decide +kernel⟩, by decide⟩, (lwT_of (List.mem_of_getElem? (i := 483) rfl) rfl), (lwT_of (List.mem_of_getElem? (i := 1) rfl) rfl)⟩
set_option maxRecDepth 100000 in
theorem ok_Reader_digitsEnd : VOk mReader_digitsEnd 1 := ⟨⟨(lwT_of (List.mem_of_getElem? (i := 525) rfl) rfl), (lwT_of (List.mem_of_getElem? (i := 79) rfl) rfl), ⟨by decide, by decide, by decide +kernel⟩, by decide⟩, (lwT_of (List.mem_of_getElem? (i := 524) rfl) rfl), (lwT_of (List.mem_of_getElem? (i := 7) rfl) rfl)⟩
set_option maxRecDepth 100000 in
theorem ok_Reader_isLetter : SOk mReader_isLetter 1 := ⟨⟨(lwT_of (List.mem_of_getElem? (i := 477) rfl) rfl), (lwT_of (List.mem_of_getElem? (i := 79) rfl) rfl), ⟨by decide, by decide, by decide +kernel⟩, by decide⟩, (lwT_of (List.mem_of_getElem? (i := 476) rfl) rfl)⟩
set_option maxRecDepth 100000 in
theorem ok_Reader_isDigit : SOk mReader_isDigit 1 := ⟨⟨(lwT_of (List.mem_of_getElem? (i := 521) rfl) rfl), (lwT_of (List.mem_of_getElem? (i := 79) rfl) rfl), ⟨by decide, by decide, by decide +kernel⟩, by decide⟩, (lwT_of (List.mem_of_getElem? (i := 520) rfl) rfl)⟩
set_option maxRecDepth 100000 in
theorem ok_Reader_isSign : SOk mReader_isSign 1 := ⟨⟨(lwT_of (List.mem_of_getElem? (i := 532) rfl) rfl), (lwT_of (List.mem_of_getElem? (i := 79) rfl) rfl), ⟨by decide, by decide, by decide +kernel⟩, by decide⟩, (lwT_of (List.mem_of_getElem? (i := 531) rfl) rfl)⟩
set_option maxRecDepth 100000 in
theorem ok_Reader_passes : VOk mReader_passes 1 := ⟨⟨(lwT_of (List.mem_of_getElem? (i := 536) rfl) rfl), (lwT_of (List.mem_of_getElem? (i := 79) rfl) rfl), ⟨by decide, by decide, by decide +kernel⟩, by decide⟩, (lwT_of (List.mem_of_getElem? (i := 535) rfl) rfl), (lwT_of (List.mem_of_getElem? (i := 9) rfl) rfl)⟩
set_option maxRecDepth 100000 in
theorem ok_Reader_step : VOk mReader_step 1 := ⟨⟨(lwT_of (List.mem_of_getElem? (i := 556) rfl) rfl), (lwT_of (List.mem_of_getElem? (i := 79) rfl) rfl), ⟨by decide, by decide, by decide +kernel⟩, by decide⟩, (lwT_of (List.mem_of_getElem? (i := 555) rfl) rfl), (lwT_of (List.mem_of_getElem? (i := 14) rfl) rfl)⟩
set_option maxRecDepth 100000 in
theorem ok_Reader_joins : SOk mReader_joins 2 := ⟨⟨(lwT_of (List.mem_of_getElem? (i := 563) rfl) rfl), (lwT_of (List.mem_of_getElem? (i := 79) rfl) rfl), ⟨by decide, by decide, by decide +kernel⟩, by decide⟩, (lwT_of (List.mem_of_getElem? (i := 562) rfl) rfl)⟩
set_option maxRecDepth 100000 in
theorem ok_Reader_level : VOk mReader_level 2 := ⟨⟨(lwT_of (List.mem_of_getElem? (i := 540) rfl) rfl), (lwT_of (List.mem_of_getElem? (i := 79) rfl) rfl), ⟨by decide, by decide, by decide +kernel⟩, by decide⟩, (lwT_of (List.mem_of_getElem? (i := 539) rfl) rfl), (lwT_of (List.mem_of_getElem? (i := 10) rfl) rfl)⟩
set_option maxRecDepth 100000 in
theorem ok_Reader_negation : VOk mReader_negation 1 := ⟨⟨(lwT_of (List.mem_of_getElem? (i := 544) rfl) rfl), (lwT_of (List.mem_of_getElem? (i := 79) rfl) rfl), ⟨by decide, by decide, by decide +kernel⟩, by decide⟩, (lwT_of (List.mem_of_getElem? (i := 543) rfl) rfl), (lwT_of (List.mem_of_getElem? (i := 11) rfl) rfl)⟩
set_option maxRecDepth 100000 in
theorem ok_Reader_one : VOk mReader_one 1 := ⟨⟨(lwT_of (List.mem_of_getElem? (i := 560) rfl) rfl), (lwT_of (List.mem_of_getElem? (i := 79) rfl) rfl), ⟨by decide, by decide, by decide +kernel⟩, by decide⟩, (lwT_of (List.mem_of_getElem? (i := 559) rfl) rfl), (lwT_of (List.mem_of_getElem? (i := 15) rfl) rfl)⟩
set_option maxRecDepth 100000 in
theorem ok_Reader_opens : VOk mReader_opens 2 := ⟨⟨(lwT_of (List.mem_of_getElem? (i := 548) rfl) rfl), (lwT_of (List.mem_of_getElem? (i := 79) rfl) rfl), ⟨by decide, by decide, by decide +kernel⟩, by decide⟩, (lwT_of (List.mem_of_getElem? (i := 547) rfl) rfl), (lwT_of (List.mem_of_getElem? (i := 12) rfl) rfl)⟩
set_option maxRecDepth 100000 in
theorem ok_Reader_did : VOk mReader_did 1 := ⟨⟨(lwT_of (List.mem_of_getElem? (i := 552) rfl) rfl), (lwT_of (List.mem_of_getElem? (i := 79) rfl) rfl), ⟨by decide, by decide, by decide +kernel⟩, by decide⟩, (lwT_of (List.mem_of_getElem? (i := 551) rfl) rfl), (lwT_of (List.mem_of_getElem? (i := 13) rfl) rfl)⟩
set_option maxRecDepth 100000 in
theorem ok_Sayings_init : IOk mSayings_init 0 := ⟨⟨(lwT_of (List.mem_of_getElem? (i := 208) rfl) rfl), (lwT_of (List.mem_of_getElem? (i := 78) rfl) rfl), ⟨by decide, by decide, by decide +kernel⟩, by decide⟩, (lwT_of (List.mem_of_getElem? (i := 207) rfl) rfl), rfl⟩
set_option maxRecDepth 100000 in
theorem ok_Sayings_has : VOk mSayings_has 1 := ⟨⟨(lwT_of (List.mem_of_getElem? (i := 725) rfl) rfl), (lwT_of (List.mem_of_getElem? (i := 78) rfl) rfl), ⟨by decide, by decide, by decide +kernel⟩, by decide⟩, (lwT_of (List.mem_of_getElem? (i := 723) rfl) rfl), (lwT_of (List.mem_of_getElem? (i := 724) rfl) rfl)⟩
set_option maxRecDepth 100000 in
theorem ok_Sayings_put : VOk mSayings_put 3 := ⟨⟨(lwT_of (List.mem_of_getElem? (i := 713) rfl) rfl), (lwT_of (List.mem_of_getElem? (i := 78) rfl) rfl), ⟨by decide, by decide, by decide +kernel⟩, by decide⟩, (lwT_of (List.mem_of_getElem? (i := 711) rfl) rfl), (lwT_of (List.mem_of_getElem? (i := 712) rfl) rfl)⟩
set_option maxRecDepth 100000 in
theorem ok_Sayings_become : VOk mSayings_become 1 := ⟨⟨(lwT_of (List.mem_of_getElem? (i := 1048) rfl) rfl), (lwT_of (List.mem_of_getElem? (i := 78) rfl) rfl), ⟨by decide, by decide, by decide +kernel⟩, by decide⟩, (lwT_of (List.mem_of_getElem? (i := 1046) rfl) rfl), (lwT_of (List.mem_of_getElem? (i := 1047) rfl) rfl)⟩
set_option maxRecDepth 100000 in
theorem ok_Sheets_init : IOk mSheets_init 0 := ⟨⟨(lwT_of (List.mem_of_getElem? (i := 399) rfl) rfl), (lwT_of (List.mem_of_getElem? (i := 83) rfl) rfl), ⟨by decide, by decide, by decide +kernel⟩, by decide⟩, (lwT_of (List.mem_of_getElem? (i := 398) rfl) rfl), rfl⟩
set_option maxRecDepth 100000 in
theorem ok_Sheets_isMissing : VOk mSheets_isMissing 1 := ⟨⟨(lwT_of (List.mem_of_getElem? (i := 1000) rfl) rfl), (lwT_of (List.mem_of_getElem? (i := 83) rfl) rfl), ⟨by decide, by decide, by decide +kernel⟩, by decide⟩, (lwT_of (List.mem_of_getElem? (i := 998) rfl) rfl), (lwT_of (List.mem_of_getElem? (i := 999) rfl) rfl)⟩
set_option maxRecDepth 100000 in
theorem ok_Sheets_become : VOk mSheets_become 3 := ⟨⟨(lwT_of (List.mem_of_getElem? (i := 1066) rfl) rfl), (lwT_of (List.mem_of_getElem? (i := 83) rfl) rfl), ⟨by decide, by decide, by decide +kernel⟩, by decide⟩, (lwT_of (List.mem_of_getElem? (i := 1064) rfl) rfl), (lwT_of (List.mem_of_getElem? (i := 1065) rfl) rfl)⟩
set_option maxRecDepth 100000 in
theorem ok_Sheets_set : VOk mSheets_set 3 := ⟨⟨(lwT_of (List.mem_of_getElem? (i := 1074) rfl) rfl), (lwT_of (List.mem_of_getElem? (i := 83) rfl) rfl), ⟨by decide, by decide, by decide +kernel⟩, by decide⟩, (lwT_of (List.mem_of_getElem? (i := 1072) rfl) rfl), (lwT_of (List.mem_of_getElem? (i := 1073) rfl) rfl)⟩
set_option maxRecDepth 100000 in
theorem ok_Sheets_bitsAt : VOk mSheets_bitsAt 2 := ⟨⟨(lwT_of (List.mem_of_getElem? (i := 1008) rfl) rfl), (lwT_of (List.mem_of_getElem? (i := 83) rfl) rfl), ⟨by decide, by decide, by decide +kernel⟩, by decide⟩, (lwT_of (List.mem_of_getElem? (i := 1006) rfl) rfl), (lwT_of (List.mem_of_getElem? (i := 1007) rfl) rfl)⟩
set_option maxRecDepth 100000 in
theorem ok_Texts_init : IOk mTexts_init 0 := ⟨⟨(lwT_of (List.mem_of_getElem? (i := 280) rfl) rfl), (lwT_of (List.mem_of_getElem? (i := 80) rfl) rfl), ⟨by decide, by decide, by decide +kernel⟩, by decide⟩, (lwT_of (List.mem_of_getElem? (i := 279) rfl) rfl), rfl⟩
set_option maxRecDepth 100000 in
theorem ok_Texts_add : VOk mTexts_add 1 := ⟨⟨(lwT_of (List.mem_of_getElem? (i := 567) rfl) rfl), (lwT_of (List.mem_of_getElem? (i := 80) rfl) rfl), ⟨by decide, by decide, by decide +kernel⟩, by decide⟩, (lwT_of (List.mem_of_getElem? (i := 565) rfl) rfl), (lwT_of (List.mem_of_getElem? (i := 566) rfl) rfl)⟩
set_option maxRecDepth 100000 in
theorem ok_Texts_giveNothing : VOk mTexts_giveNothing 0 := ⟨⟨(lwT_of (List.mem_of_getElem? (i := 746) rfl) rfl), (lwT_of (List.mem_of_getElem? (i := 80) rfl) rfl), ⟨by decide, by decide, by decide +kernel⟩, by decide⟩, (lwT_of (List.mem_of_getElem? (i := 744) rfl) rfl), (lwT_of (List.mem_of_getElem? (i := 745) rfl) rfl)⟩
set_option maxRecDepth 100000 in
theorem ok_Texts_value : VOk mTexts_value 2 := ⟨⟨(lwT_of (List.mem_of_getElem? (i := 752) rfl) rfl), (lwT_of (List.mem_of_getElem? (i := 80) rfl) rfl), ⟨by decide, by decide, by decide +kernel⟩, by decide⟩, (lwT_of (List.mem_of_getElem? (i := 750) rfl) rfl), (lwT_of (List.mem_of_getElem? (i := 751) rfl) rfl)⟩
set_option maxRecDepth 100000 in
theorem ok_Texts_joined : SOk mTexts_joined 3 := ⟨⟨(lwT_of (List.mem_of_getElem? (i := 756) rfl) rfl), (lwT_of (List.mem_of_getElem? (i := 80) rfl) rfl), ⟨by decide, by decide, by decide +kernel⟩, by decide⟩, (lwT_of (List.mem_of_getElem? (i := 755) rfl) rfl)⟩
set_option maxRecDepth 100000 in
theorem ok_Town_init : IOk mTown_init 0 := ⟨⟨(lwT_of (List.mem_of_getElem? (i := 103) rfl) rfl), (lwT_of (List.mem_of_getElem? (i := 74) rfl) rfl), ⟨by decide, by decide, by decide +kernel⟩, by decide⟩, (lwT_of (List.mem_of_getElem? (i := 102) rfl) rfl), rfl⟩
set_option maxRecDepth 100000 in
theorem ok_Town_between : VOk mTown_between 2 := ⟨⟨(lwT_of (List.mem_of_getElem? (i := 612) rfl) rfl), (lwT_of (List.mem_of_getElem? (i := 74) rfl) rfl), ⟨by decide, by decide, by decide +kernel⟩, by decide⟩, (lwT_of (List.mem_of_getElem? (i := 610) rfl) rfl), (lwT_of (List.mem_of_getElem? (i := 611) rfl) rfl)⟩
set_option maxRecDepth 100000 in
theorem ok_Town_setBetween : VOk mTown_setBetween 3 := ⟨⟨(lwT_of (List.mem_of_getElem? (i := 616) rfl) rfl), (lwT_of (List.mem_of_getElem? (i := 74) rfl) rfl), ⟨by decide, by decide, by decide +kernel⟩, by decide⟩, (lwT_of (List.mem_of_getElem? (i := 614) rfl) rfl), (lwT_of (List.mem_of_getElem? (i := 615) rfl) rfl)⟩
set_option maxRecDepth 100000 in
theorem ok_Town_become : VOk mTown_become 1 := ⟨⟨(lwT_of (List.mem_of_getElem? (i := 1043) rfl) rfl), (lwT_of (List.mem_of_getElem? (i := 74) rfl) rfl), ⟨by decide, by decide, by decide +kernel⟩, by decide⟩, (lwT_of (List.mem_of_getElem? (i := 1041) rfl) rfl), (lwT_of (List.mem_of_getElem? (i := 1042) rfl) rfl)⟩
set_option maxRecDepth 100000 in
theorem ok_Vows_init : IOk mVows_init 0 := ⟨⟨(lwT_of (List.mem_of_getElem? (i := 176) rfl) rfl), (lwT_of (List.mem_of_getElem? (i := 77) rfl) rfl), ⟨by decide, by decide, by decide +kernel⟩, by decide⟩, (lwT_of (List.mem_of_getElem? (i := 175) rfl) rfl), rfl⟩
set_option maxRecDepth 100000 in
theorem ok_Vows_has : VOk mVows_has 1 := ⟨⟨(lwT_of (List.mem_of_getElem? (i := 701) rfl) rfl), (lwT_of (List.mem_of_getElem? (i := 77) rfl) rfl), ⟨by decide, by decide, by decide +kernel⟩, by decide⟩, (lwT_of (List.mem_of_getElem? (i := 699) rfl) rfl), (lwT_of (List.mem_of_getElem? (i := 700) rfl) rfl)⟩
set_option maxRecDepth 100000 in
theorem ok_Vows_add : VOk mVows_add 4 := ⟨⟨(lwT_of (List.mem_of_getElem? (i := 693) rfl) rfl), (lwT_of (List.mem_of_getElem? (i := 77) rfl) rfl), ⟨by decide, by decide, by decide +kernel⟩, by decide⟩, (lwT_of (List.mem_of_getElem? (i := 691) rfl) rfl), (lwT_of (List.mem_of_getElem? (i := 692) rfl) rfl)⟩
set_option maxRecDepth 100000 in
theorem ok_W_init : IOk mW_init 0 := ⟨⟨(lwT_of (List.mem_of_getElem? (i := 95) rfl) rfl), (lwT_of (List.mem_of_getElem? (i := 73) rfl) rfl), ⟨by decide, by decide, by decide +kernel⟩, by decide⟩, (lwT_of (List.mem_of_getElem? (i := 94) rfl) rfl), rfl⟩
set_option maxRecDepth 100000 in
theorem ok_W_far : VOk mW_far 3 := ⟨⟨(lwT_of (List.mem_of_getElem? (i := 607) rfl) rfl), (lwT_of (List.mem_of_getElem? (i := 73) rfl) rfl), ⟨by decide, by decide, by decide +kernel⟩, by decide⟩, (lwT_of (List.mem_of_getElem? (i := 605) rfl) rfl), (lwT_of (List.mem_of_getElem? (i := 606) rfl) rfl)⟩
set_option maxRecDepth 100000 in
theorem ok_W_hush : VOk mW_hush 2 := ⟨⟨(lwT_of (List.mem_of_getElem? (i := 620) rfl) rfl), (lwT_of (List.mem_of_getElem? (i := 73) rfl) rfl), ⟨by decide, by decide, by decide +kernel⟩, by decide⟩, (lwT_of (List.mem_of_getElem? (i := 618) rfl) rfl), (lwT_of (List.mem_of_getElem? (i := 619) rfl) rfl)⟩
set_option maxRecDepth 100000 in
theorem ok_W_stride : VOk mW_stride 1 := ⟨⟨(lwT_of (List.mem_of_getElem? (i := 624) rfl) rfl), (lwT_of (List.mem_of_getElem? (i := 73) rfl) rfl), ⟨by decide, by decide, by decide +kernel⟩, by decide⟩, (lwT_of (List.mem_of_getElem? (i := 622) rfl) rfl), (lwT_of (List.mem_of_getElem? (i := 623) rfl) rfl)⟩
set_option maxRecDepth 100000 in
theorem ok_W_count : VOk mW_count 1 := ⟨⟨(lwT_of (List.mem_of_getElem? (i := 628) rfl) rfl), (lwT_of (List.mem_of_getElem? (i := 73) rfl) rfl), ⟨by decide, by decide, by decide +kernel⟩, by decide⟩, (lwT_of (List.mem_of_getElem? (i := 626) rfl) rfl), (lwT_of (List.mem_of_getElem? (i := 627) rfl) rfl)⟩
set_option maxRecDepth 100000 in
theorem ok_W_feed : VOk mW_feed 6 := ⟨⟨(lwT_of (List.mem_of_getElem? (i := 632) rfl) rfl), (lwT_of (List.mem_of_getElem? (i := 73) rfl) rfl), ⟨by decide, by decide, by decide +kernel⟩, by decide⟩, (lwT_of (List.mem_of_getElem? (i := 630) rfl) rfl), (lwT_of (List.mem_of_getElem? (i := 631) rfl) rfl)⟩
set_option maxRecDepth 100000 in
theorem ok_W_text : VOk mW_text 0 := ⟨⟨(lwT_of (List.mem_of_getElem? (i := 639) rfl) rfl), (lwT_of (List.mem_of_getElem? (i := 73) rfl) rfl), ⟨by decide, by decide, by decide +kernel⟩, by decide⟩, (lwT_of (List.mem_of_getElem? (i := 637) rfl) rfl), (lwT_of (List.mem_of_getElem? (i := 638) rfl) rfl)⟩
set_option maxRecDepth 100000 in
theorem ok_W_force : VOk mW_force 1 := ⟨⟨(lwT_of (List.mem_of_getElem? (i := 647) rfl) rfl), (lwT_of (List.mem_of_getElem? (i := 73) rfl) rfl), ⟨by decide, by decide, by decide +kernel⟩, by decide⟩, (lwT_of (List.mem_of_getElem? (i := 645) rfl) rfl), (lwT_of (List.mem_of_getElem? (i := 646) rfl) rfl)⟩
set_option maxRecDepth 100000 in
theorem ok_W_person : VOk mW_person 4 := ⟨⟨(lwT_of (List.mem_of_getElem? (i := 651) rfl) rfl), (lwT_of (List.mem_of_getElem? (i := 73) rfl) rfl), ⟨by decide, by decide, by decide +kernel⟩, by decide⟩, (lwT_of (List.mem_of_getElem? (i := 649) rfl) rfl), (lwT_of (List.mem_of_getElem? (i := 650) rfl) rfl)⟩
set_option maxRecDepth 100000 in
theorem ok_W_move : VOk mW_move 2 := ⟨⟨(lwT_of (List.mem_of_getElem? (i := 659) rfl) rfl), (lwT_of (List.mem_of_getElem? (i := 73) rfl) rfl), ⟨by decide, by decide, by decide +kernel⟩, by decide⟩, (lwT_of (List.mem_of_getElem? (i := 657) rfl) rfl), (lwT_of (List.mem_of_getElem? (i := 658) rfl) rfl)⟩
set_option maxRecDepth 100000 in
theorem ok_W_told : VOk mW_told 2 := ⟨⟨(lwT_of (List.mem_of_getElem? (i := 668) rfl) rfl), (lwT_of (List.mem_of_getElem? (i := 73) rfl) rfl), ⟨by decide, by decide, by decide +kernel⟩, by decide⟩, (lwT_of (List.mem_of_getElem? (i := 666) rfl) rfl), (lwT_of (List.mem_of_getElem? (i := 667) rfl) rfl)⟩
set_option maxRecDepth 100000 in
theorem ok_W_promise : VOk mW_promise 4 := ⟨⟨(lwT_of (List.mem_of_getElem? (i := 689) rfl) rfl), (lwT_of (List.mem_of_getElem? (i := 73) rfl) rfl), ⟨by decide, by decide, by decide +kernel⟩, by decide⟩, (lwT_of (List.mem_of_getElem? (i := 687) rfl) rfl), (lwT_of (List.mem_of_getElem? (i := 688) rfl) rfl)⟩
set_option maxRecDepth 100000 in
theorem ok_W_promised : VOk mW_promised 2 := ⟨⟨(lwT_of (List.mem_of_getElem? (i := 697) rfl) rfl), (lwT_of (List.mem_of_getElem? (i := 73) rfl) rfl), ⟨by decide, by decide, by decide +kernel⟩, by decide⟩, (lwT_of (List.mem_of_getElem? (i := 695) rfl) rfl), (lwT_of (List.mem_of_getElem? (i := 696) rfl) rfl)⟩
set_option maxRecDepth 100000 in
theorem ok_W_say : VOk mW_say 2 := ⟨⟨(lwT_of (List.mem_of_getElem? (i := 706) rfl) rfl), (lwT_of (List.mem_of_getElem? (i := 73) rfl) rfl), ⟨by decide, by decide, by decide +kernel⟩, by decide⟩, (lwT_of (List.mem_of_getElem? (i := 704) rfl) rfl), (lwT_of (List.mem_of_getElem? (i := 705) rfl) rfl)⟩
set_option maxRecDepth 100000 in
theorem ok_W_unsay : VOk mW_unsay 0 := ⟨⟨(lwT_of (List.mem_of_getElem? (i := 717) rfl) rfl), (lwT_of (List.mem_of_getElem? (i := 73) rfl) rfl), ⟨by decide, by decide, by decide +kernel⟩, by decide⟩, (lwT_of (List.mem_of_getElem? (i := 715) rfl) rfl), (lwT_of (List.mem_of_getElem? (i := 716) rfl) rfl)⟩
set_option maxRecDepth 100000 in
theorem ok_W_said : VOk mW_said 2 := ⟨⟨(lwT_of (List.mem_of_getElem? (i := 721) rfl) rfl), (lwT_of (List.mem_of_getElem? (i := 73) rfl) rfl), ⟨by decide, by decide, by decide +kernel⟩, by decide⟩, (lwT_of (List.mem_of_getElem? (i := 719) rfl) rfl), (lwT_of (List.mem_of_getElem? (i := 720) rfl) rfl)⟩
set_option maxRecDepth 100000 in
theorem ok_W_hears : VOk mW_hears 2 := ⟨⟨(lwT_of (List.mem_of_getElem? (i := 730) rfl) rfl), (lwT_of (List.mem_of_getElem? (i := 73) rfl) rfl), ⟨by decide, by decide, by decide +kernel⟩, by decide⟩, (lwT_of (List.mem_of_getElem? (i := 728) rfl) rfl), (lwT_of (List.mem_of_getElem? (i := 729) rfl) rfl)⟩
set_option maxRecDepth 100000 in
theorem ok_W_heard : VOk mW_heard 1 := ⟨⟨(lwT_of (List.mem_of_getElem? (i := 775) rfl) rfl), (lwT_of (List.mem_of_getElem? (i := 73) rfl) rfl), ⟨by decide, by decide, by decide +kernel⟩, by decide⟩, (lwT_of (List.mem_of_getElem? (i := 773) rfl) rfl), (lwT_of (List.mem_of_getElem? (i := 774) rfl) rfl)⟩
set_option maxRecDepth 100000 in
theorem ok_W_nobody : VOk mW_nobody 0 := ⟨⟨(lwT_of (List.mem_of_getElem? (i := 779) rfl) rfl), (lwT_of (List.mem_of_getElem? (i := 73) rfl) rfl), ⟨by decide, by decide, by decide +kernel⟩, by decide⟩, (lwT_of (List.mem_of_getElem? (i := 777) rfl) rfl), (lwT_of (List.mem_of_getElem? (i := 778) rfl) rfl)⟩
set_option maxRecDepth 100000 in
theorem ok_W_owe : VOk mW_owe 2 := ⟨⟨(lwT_of (List.mem_of_getElem? (i := 783) rfl) rfl), (lwT_of (List.mem_of_getElem? (i := 73) rfl) rfl), ⟨by decide, by decide, by decide +kernel⟩, by decide⟩, (lwT_of (List.mem_of_getElem? (i := 781) rfl) rfl), (lwT_of (List.mem_of_getElem? (i := 782) rfl) rfl)⟩
set_option maxRecDepth 100000 in
theorem ok_W_load : VOk mW_load 2 := ⟨⟨(lwT_of (List.mem_of_getElem? (i := 836) rfl) rfl), (lwT_of (List.mem_of_getElem? (i := 73) rfl) rfl), ⟨by decide, by decide, by decide +kernel⟩, by decide⟩, (lwT_of (List.mem_of_getElem? (i := 834) rfl) rfl), (lwT_of (List.mem_of_getElem? (i := 835) rfl) rfl)⟩
set_option maxRecDepth 100000 in
theorem ok_W_done : VOk mW_done 1 := ⟨⟨(lwT_of (List.mem_of_getElem? (i := 844) rfl) rfl), (lwT_of (List.mem_of_getElem? (i := 73) rfl) rfl), ⟨by decide, by decide, by decide +kernel⟩, by decide⟩, (lwT_of (List.mem_of_getElem? (i := 842) rfl) rfl), (lwT_of (List.mem_of_getElem? (i := 843) rfl) rfl)⟩
set_option maxRecDepth 100000 in
theorem ok_W_sum : VOk mW_sum 1 := ⟨⟨(lwT_of (List.mem_of_getElem? (i := 852) rfl) rfl), (lwT_of (List.mem_of_getElem? (i := 73) rfl) rfl), ⟨by decide, by decide, by decide +kernel⟩, by decide⟩, (lwT_of (List.mem_of_getElem? (i := 850) rfl) rfl), (lwT_of (List.mem_of_getElem? (i := 851) rfl) rfl)⟩
set_option maxRecDepth 100000 in
theorem ok_W_judge : VOk mW_judge 0 := ⟨⟨(lwT_of (List.mem_of_getElem? (i := 882) rfl) rfl), (lwT_of (List.mem_of_getElem? (i := 73) rfl) rfl), ⟨by decide, by decide, by decide +kernel⟩, by decide⟩, (lwT_of (List.mem_of_getElem? (i := 880) rfl) rfl), (lwT_of (List.mem_of_getElem? (i := 881) rfl) rfl)⟩
set_option maxRecDepth 100000 in
theorem ok_W_walk : VOk mW_walk 0 := ⟨⟨(lwT_of (List.mem_of_getElem? (i := 890) rfl) rfl), (lwT_of (List.mem_of_getElem? (i := 73) rfl) rfl), ⟨by decide, by decide, by decide +kernel⟩, by decide⟩, (lwT_of (List.mem_of_getElem? (i := 888) rfl) rfl), (lwT_of (List.mem_of_getElem? (i := 889) rfl) rfl)⟩
set_option maxRecDepth 100000 in
theorem ok_W_best : VOk mW_best 2 := ⟨⟨(lwT_of (List.mem_of_getElem? (i := 894) rfl) rfl), (lwT_of (List.mem_of_getElem? (i := 73) rfl) rfl), ⟨by decide, by decide, by decide +kernel⟩, by decide⟩, (lwT_of (List.mem_of_getElem? (i := 892) rfl) rfl), (lwT_of (List.mem_of_getElem? (i := 893) rfl) rfl)⟩
set_option maxRecDepth 100000 in
theorem ok_W_foe : VOk mW_foe 3 := ⟨⟨(lwT_of (List.mem_of_getElem? (i := 905) rfl) rfl), (lwT_of (List.mem_of_getElem? (i := 73) rfl) rfl), ⟨by decide, by decide, by decide +kernel⟩, by decide⟩, (lwT_of (List.mem_of_getElem? (i := 903) rfl) rfl), (lwT_of (List.mem_of_getElem? (i := 904) rfl) rfl)⟩
set_option maxRecDepth 100000 in
theorem ok_W_loud : VOk mW_loud 3 := ⟨⟨(lwT_of (List.mem_of_getElem? (i := 909) rfl) rfl), (lwT_of (List.mem_of_getElem? (i := 73) rfl) rfl), ⟨by decide, by decide, by decide +kernel⟩, by decide⟩, (lwT_of (List.mem_of_getElem? (i := 907) rfl) rfl), (lwT_of (List.mem_of_getElem? (i := 908) rfl) rfl)⟩
set_option maxRecDepth 100000 in
theorem ok_W_spare : VOk mW_spare 0 := ⟨⟨(lwT_of (List.mem_of_getElem? (i := 913) rfl) rfl), (lwT_of (List.mem_of_getElem? (i := 73) rfl) rfl), ⟨by decide, by decide, by decide +kernel⟩, by decide⟩, (lwT_of (List.mem_of_getElem? (i := 911) rfl) rfl), (lwT_of (List.mem_of_getElem? (i := 912) rfl) rfl)⟩
set_option maxRecDepth 100000 in
theorem ok_W_even : VOk mW_even 2 := ⟨⟨(lwT_of (List.mem_of_getElem? (i := 919) rfl) rfl), (lwT_of (List.mem_of_getElem? (i := 73) rfl) rfl), ⟨by decide, by decide, by decide +kernel⟩, by decide⟩, (lwT_of (List.mem_of_getElem? (i := 917) rfl) rfl), (lwT_of (List.mem_of_getElem? (i := 918) rfl) rfl)⟩
set_option maxRecDepth 100000 in
theorem ok_W_hardest : VOk mW_hardest 1 := ⟨⟨(lwT_of (List.mem_of_getElem? (i := 935) rfl) rfl), (lwT_of (List.mem_of_getElem? (i := 73) rfl) rfl), ⟨by decide, by decide, by decide +kernel⟩, by decide⟩, (lwT_of (List.mem_of_getElem? (i := 933) rfl) rfl), (lwT_of (List.mem_of_getElem? (i := 934) rfl) rfl)⟩
set_option maxRecDepth 100000 in
theorem ok_W_flee : VOk mW_flee 2 := ⟨⟨(lwT_of (List.mem_of_getElem? (i := 939) rfl) rfl), (lwT_of (List.mem_of_getElem? (i := 73) rfl) rfl), ⟨by decide, by decide, by decide +kernel⟩, by decide⟩, (lwT_of (List.mem_of_getElem? (i := 937) rfl) rfl), (lwT_of (List.mem_of_getElem? (i := 938) rfl) rfl)⟩
set_option maxRecDepth 100000 in
theorem ok_W_send : VOk mW_send 2 := ⟨⟨(lwT_of (List.mem_of_getElem? (i := 954) rfl) rfl), (lwT_of (List.mem_of_getElem? (i := 73) rfl) rfl), ⟨by decide, by decide, by decide +kernel⟩, by decide⟩, (lwT_of (List.mem_of_getElem? (i := 952) rfl) rfl), (lwT_of (List.mem_of_getElem? (i := 953) rfl) rfl)⟩
set_option maxRecDepth 100000 in
theorem ok_W_rest : VOk mW_rest 1 := ⟨⟨(lwT_of (List.mem_of_getElem? (i := 961) rfl) rfl), (lwT_of (List.mem_of_getElem? (i := 73) rfl) rfl), ⟨by decide, by decide, by decide +kernel⟩, by decide⟩, (lwT_of (List.mem_of_getElem? (i := 959) rfl) rfl), (lwT_of (List.mem_of_getElem? (i := 960) rfl) rfl)⟩
set_option maxRecDepth 100000 in
theorem ok_W_chance : VOk mW_chance 2 := ⟨⟨(lwT_of (List.mem_of_getElem? (i := 970) rfl) rfl), (lwT_of (List.mem_of_getElem? (i := 73) rfl) rfl), ⟨by decide, by decide, by decide +kernel⟩, by decide⟩, (lwT_of (List.mem_of_getElem? (i := 968) rfl) rfl), (lwT_of (List.mem_of_getElem? (i := 969) rfl) rfl)⟩
set_option maxRecDepth 100000 in
theorem ok_W_lost : VOk mW_lost 1 := ⟨⟨(lwT_of (List.mem_of_getElem? (i := 981) rfl) rfl), (lwT_of (List.mem_of_getElem? (i := 73) rfl) rfl), ⟨by decide, by decide, by decide +kernel⟩, by decide⟩, (lwT_of (List.mem_of_getElem? (i := 979) rfl) rfl), (lwT_of (List.mem_of_getElem? (i := 980) rfl) rfl)⟩
set_option maxRecDepth 100000 in
theorem ok_W_laws : VOk mW_laws 1 := ⟨⟨(lwT_of (List.mem_of_getElem? (i := 988) rfl) rfl), (lwT_of (List.mem_of_getElem? (i := 73) rfl) rfl), ⟨by decide, by decide, by decide +kernel⟩, by decide⟩, (lwT_of (List.mem_of_getElem? (i := 986) rfl) rfl), (lwT_of (List.mem_of_getElem? (i := 987) rfl) rfl)⟩
set_option maxRecDepth 100000 in
theorem ok_W_witness : VOk mW_witness 1 := ⟨⟨(lwT_of (List.mem_of_getElem? (i := 992) rfl) rfl), (lwT_of (List.mem_of_getElem? (i := 73) rfl) rfl), ⟨by decide, by decide, by decide +kernel⟩, by decide⟩, (lwT_of (List.mem_of_getElem? (i := 990) rfl) rfl), (lwT_of (List.mem_of_getElem? (i := 991) rfl) rfl)⟩
set_option maxRecDepth 100000 in
theorem ok_W_alibi : VOk mW_alibi 2 := ⟨⟨(lwT_of (List.mem_of_getElem? (i := 1012) rfl) rfl), (lwT_of (List.mem_of_getElem? (i := 73) rfl) rfl), ⟨by decide, by decide, by decide +kernel⟩, by decide⟩, (lwT_of (List.mem_of_getElem? (i := 1010) rfl) rfl), (lwT_of (List.mem_of_getElem? (i := 1011) rfl) rfl)⟩
set_option maxRecDepth 100000 in
theorem ok_W_drawn : VOk mW_drawn 2 := ⟨⟨(lwT_of (List.mem_of_getElem? (i := 1017) rfl) rfl), (lwT_of (List.mem_of_getElem? (i := 73) rfl) rfl), ⟨by decide, by decide, by decide +kernel⟩, by decide⟩, (lwT_of (List.mem_of_getElem? (i := 1015) rfl) rfl), (lwT_of (List.mem_of_getElem? (i := 1016) rfl) rfl)⟩
set_option maxRecDepth 100000 in
theorem ok_W_odds : VOk mW_odds 4 := ⟨⟨(lwT_of (List.mem_of_getElem? (i := 1028) rfl) rfl), (lwT_of (List.mem_of_getElem? (i := 73) rfl) rfl), ⟨by decide, by decide, by decide +kernel⟩, by decide⟩, (lwT_of (List.mem_of_getElem? (i := 1026) rfl) rfl), (lwT_of (List.mem_of_getElem? (i := 1027) rfl) rfl)⟩
set_option maxRecDepth 100000 in
theorem ok_W_image : VOk mW_image 0 := ⟨⟨(lwT_of (List.mem_of_getElem? (i := 1035) rfl) rfl), (lwT_of (List.mem_of_getElem? (i := 73) rfl) rfl), ⟨by decide, by decide, by decide +kernel⟩, by decide⟩, (lwT_of (List.mem_of_getElem? (i := 1033) rfl) rfl), (lwT_of (List.mem_of_getElem? (i := 1034) rfl) rfl)⟩
set_option maxRecDepth 100000 in
theorem ok_W_back : VOk mW_back 0 := ⟨⟨(lwT_of (List.mem_of_getElem? (i := 1054) rfl) rfl), (lwT_of (List.mem_of_getElem? (i := 73) rfl) rfl), ⟨by decide, by decide, by decide +kernel⟩, by decide⟩, (lwT_of (List.mem_of_getElem? (i := 1052) rfl) rfl), (lwT_of (List.mem_of_getElem? (i := 1053) rfl) rfl)⟩
set_option maxRecDepth 100000 in
theorem ok_W_sheet : VOk mW_sheet 3 := ⟨⟨(lwT_of (List.mem_of_getElem? (i := 1062) rfl) rfl), (lwT_of (List.mem_of_getElem? (i := 73) rfl) rfl), ⟨by decide, by decide, by decide +kernel⟩, by decide⟩, (lwT_of (List.mem_of_getElem? (i := 1060) rfl) rfl), (lwT_of (List.mem_of_getElem? (i := 1061) rfl) rfl)⟩
set_option maxRecDepth 100000 in
theorem ok_W_cell : VOk mW_cell 3 := ⟨⟨(lwT_of (List.mem_of_getElem? (i := 1070) rfl) rfl), (lwT_of (List.mem_of_getElem? (i := 73) rfl) rfl), ⟨by decide, by decide, by decide +kernel⟩, by decide⟩, (lwT_of (List.mem_of_getElem? (i := 1068) rfl) rfl), (lwT_of (List.mem_of_getElem? (i := 1069) rfl) rfl)⟩
set_option maxRecDepth 100000 in
theorem ok_W_copy : VOk mW_copy 5 := ⟨⟨(lwT_of (List.mem_of_getElem? (i := 1078) rfl) rfl), (lwT_of (List.mem_of_getElem? (i := 73) rfl) rfl), ⟨by decide, by decide, by decide +kernel⟩, by decide⟩, (lwT_of (List.mem_of_getElem? (i := 1076) rfl) rfl), (lwT_of (List.mem_of_getElem? (i := 1077) rfl) rfl)⟩
set_option maxRecDepth 100000 in
theorem ok_W_promisesBy : VOk mW_promisesBy 4 := ⟨⟨(lwT_of (List.mem_of_getElem? (i := 1083) rfl) rfl), (lwT_of (List.mem_of_getElem? (i := 73) rfl) rfl), ⟨by decide, by decide, by decide +kernel⟩, by decide⟩, (lwT_of (List.mem_of_getElem? (i := 1081) rfl) rfl), (lwT_of (List.mem_of_getElem? (i := 1082) rfl) rfl)⟩
set_option maxRecDepth 100000 in
theorem ok_W_taken : VOk mW_taken 2 := ⟨⟨(lwT_of (List.mem_of_getElem? (i := 1088) rfl) rfl), (lwT_of (List.mem_of_getElem? (i := 73) rfl) rfl), ⟨by decide, by decide, by decide +kernel⟩, by decide⟩, (lwT_of (List.mem_of_getElem? (i := 1086) rfl) rfl), (lwT_of (List.mem_of_getElem? (i := 1087) rfl) rfl)⟩
set_option maxRecDepth 100000 in
theorem ok_W_within : SOk mW_within 3 := ⟨⟨(lwT_of (List.mem_of_getElem? (i := 480) rfl) rfl), (lwT_of (List.mem_of_getElem? (i := 73) rfl) rfl), ⟨by decide, by decide, by decide +kernel⟩, by decide⟩, (lwT_of (List.mem_of_getElem? (i := 479) rfl) rfl)⟩
set_option maxRecDepth 100000 in
theorem ok_W_isByte : SOk mW_isByte 1 := ⟨⟨(lwT_of (List.mem_of_getElem? (i := 635) rfl) rfl), (lwT_of (List.mem_of_getElem? (i := 73) rfl) rfl), ⟨by decide, by decide, by decide +kernel⟩, by decide⟩, (lwT_of (List.mem_of_getElem? (i := 634) rfl) rfl)⟩
set_option maxRecDepth 100000 in
theorem ok_W_isHow : SOk mW_isHow 1 := ⟨⟨(lwT_of (List.mem_of_getElem? (i := 709) rfl) rfl), (lwT_of (List.mem_of_getElem? (i := 73) rfl) rfl), ⟨by decide, by decide, by decide +kernel⟩, by decide⟩, (lwT_of (List.mem_of_getElem? (i := 708) rfl) rfl)⟩
set_option maxRecDepth 100000 in
theorem ok_W_bounded : SOk mW_bounded 2 := ⟨⟨(lwT_of (List.mem_of_getElem? (i := 759) rfl) rfl), (lwT_of (List.mem_of_getElem? (i := 73) rfl) rfl), ⟨by decide, by decide, by decide +kernel⟩, by decide⟩, (lwT_of (List.mem_of_getElem? (i := 758) rfl) rfl)⟩
set_option maxRecDepth 100000 in
theorem ok_W_leastOf : SOk mW_leastOf 1 := ⟨⟨(lwT_of (List.mem_of_getElem? (i := 950) rfl) rfl), (lwT_of (List.mem_of_getElem? (i := 73) rfl) rfl), ⟨by decide, by decide, by decide +kernel⟩, by decide⟩, (lwT_of (List.mem_of_getElem? (i := 949) rfl) rfl)⟩
set_option maxRecDepth 100000 in
theorem ok_W_mostOf : SOk mW_mostOf 1 := ⟨⟨(lwT_of (List.mem_of_getElem? (i := 957) rfl) rfl), (lwT_of (List.mem_of_getElem? (i := 73) rfl) rfl), ⟨by decide, by decide, by decide +kernel⟩, by decide⟩, (lwT_of (List.mem_of_getElem? (i := 956) rfl) rfl)⟩
set_option maxRecDepth 100000 in
theorem ok_W_commonDivisor : SOk mW_commonDivisor 2 := ⟨⟨(lwT_of (List.mem_of_getElem? (i := 1031) rfl) rfl), (lwT_of (List.mem_of_getElem? (i := 73) rfl) rfl), ⟨by decide, by decide, by decide +kernel⟩, by decide⟩, (lwT_of (List.mem_of_getElem? (i := 1030) rfl) rfl)⟩
set_option maxRecDepth 100000 in
theorem ok_W_wayTo : VOk mW_wayTo 1 := ⟨⟨(lwT_of (List.mem_of_getElem? (i := 886) rfl) rfl), (lwT_of (List.mem_of_getElem? (i := 73) rfl) rfl), ⟨by decide, by decide, by decide +kernel⟩, by decide⟩, (lwT_of (List.mem_of_getElem? (i := 885) rfl) rfl), (lwT_of (List.mem_of_getElem? (i := 26) rfl) rfl)⟩
set_option maxRecDepth 100000 in
theorem ok_W_movesAway : VOk mW_movesAway 1 := ⟨⟨(lwT_of (List.mem_of_getElem? (i := 965) rfl) rfl), (lwT_of (List.mem_of_getElem? (i := 73) rfl) rfl), ⟨by decide, by decide, by decide +kernel⟩, by decide⟩, (lwT_of (List.mem_of_getElem? (i := 964) rfl) rfl), (lwT_of (List.mem_of_getElem? (i := 29) rfl) rfl)⟩
set_option maxRecDepth 100000 in
theorem ok_W_witnessRefusal : VOk mW_witnessRefusal 1 := ⟨⟨(lwT_of (List.mem_of_getElem? (i := 996) rfl) rfl), (lwT_of (List.mem_of_getElem? (i := 73) rfl) rfl), ⟨by decide, by decide, by decide +kernel⟩, by decide⟩, (lwT_of (List.mem_of_getElem? (i := 995) rfl) rfl), (lwT_of (List.mem_of_getElem? (i := 30) rfl) rfl)⟩
set_option maxRecDepth 100000 in
theorem ok_W_firstHeardByOthers : VOk mW_firstHeardByOthers 1 := ⟨⟨(lwT_of (List.mem_of_getElem? (i := 1004) rfl) rfl), (lwT_of (List.mem_of_getElem? (i := 73) rfl) rfl), ⟨by decide, by decide, by decide +kernel⟩, by decide⟩, (lwT_of (List.mem_of_getElem? (i := 1003) rfl) rfl), (lwT_of (List.mem_of_getElem? (i := 31) rfl) rfl)⟩
set_option maxRecDepth 100000 in
theorem ok_R_init : IOk mR_init 0 := ⟨⟨(lwT_of (List.mem_of_getElem? (i := 1094) rfl) rfl), (lwT_of (List.mem_of_getElem? (i := 89) rfl) rfl), ⟨by decide, by decide, by decide +kernel⟩, by decide⟩, (lwT_of (List.mem_of_getElem? (i := 1093) rfl) rfl), rfl⟩
set_option maxRecDepth 100000 in
theorem ok_R_in : SOk mR_in 3 := ⟨⟨(lwT_of (List.mem_of_getElem? (i := 1106) rfl) rfl), (lwT_of (List.mem_of_getElem? (i := 89) rfl) rfl), ⟨by decide, by decide, by decide +kernel⟩, by decide⟩, (lwT_of (List.mem_of_getElem? (i := 1105) rfl) rfl)⟩
set_option maxRecDepth 100000 in
theorem ok_R_size : SOk mR_size 1 := ⟨⟨(lwT_of (List.mem_of_getElem? (i := 1145) rfl) rfl), (lwT_of (List.mem_of_getElem? (i := 89) rfl) rfl), ⟨by decide, by decide, by decide +kernel⟩, by decide⟩, (lwT_of (List.mem_of_getElem? (i := 1144) rfl) rfl)⟩
set_option maxRecDepth 100000 in
theorem ok_R_within : SOk mR_within 3 := ⟨⟨(lwT_of (List.mem_of_getElem? (i := 1434) rfl) rfl), (lwT_of (List.mem_of_getElem? (i := 89) rfl) rfl), ⟨by decide, by decide, by decide +kernel⟩, by decide⟩, (lwT_of (List.mem_of_getElem? (i := 1433) rfl) rfl)⟩
set_option maxRecDepth 100000 in
theorem ok_R_isOne : VOk mR_isOne 1 := ⟨⟨(lwT_of (List.mem_of_getElem? (i := 1372) rfl) rfl), (lwT_of (List.mem_of_getElem? (i := 89) rfl) rfl), ⟨by decide, by decide, by decide +kernel⟩, by decide⟩, (lwT_of (List.mem_of_getElem? (i := 1371) rfl) rfl), (lwT_of (List.mem_of_getElem? (i := 41) rfl) rfl)⟩
set_option maxRecDepth 100000 in
theorem ok_R_isPromise : VOk mR_isPromise 1 := ⟨⟨(lwT_of (List.mem_of_getElem? (i := 1392) rfl) rfl), (lwT_of (List.mem_of_getElem? (i := 89) rfl) rfl), ⟨by decide, by decide, by decide +kernel⟩, by decide⟩, (lwT_of (List.mem_of_getElem? (i := 1391) rfl) rfl), (lwT_of (List.mem_of_getElem? (i := 43) rfl) rfl)⟩
set_option maxRecDepth 100000 in
theorem ok_R_isSaying : VOk mR_isSaying 1 := ⟨⟨(lwT_of (List.mem_of_getElem? (i := 1412) rfl) rfl), (lwT_of (List.mem_of_getElem? (i := 89) rfl) rfl), ⟨by decide, by decide, by decide +kernel⟩, by decide⟩, (lwT_of (List.mem_of_getElem? (i := 1411) rfl) rfl), (lwT_of (List.mem_of_getElem? (i := 45) rfl) rfl)⟩
set_option maxRecDepth 100000 in
theorem ok_R_far : VOk mR_far 3 := ⟨⟨(lwT_of (List.mem_of_getElem? (i := 1336) rfl) rfl), (lwT_of (List.mem_of_getElem? (i := 89) rfl) rfl), ⟨by decide, by decide, by decide +kernel⟩, by decide⟩, (lwT_of (List.mem_of_getElem? (i := 1334) rfl) rfl), (lwT_of (List.mem_of_getElem? (i := 1335) rfl) rfl)⟩
set_option maxRecDepth 100000 in
theorem ok_R_hush : VOk mR_hush 2 := ⟨⟨(lwT_of (List.mem_of_getElem? (i := 1340) rfl) rfl), (lwT_of (List.mem_of_getElem? (i := 89) rfl) rfl), ⟨by decide, by decide, by decide +kernel⟩, by decide⟩, (lwT_of (List.mem_of_getElem? (i := 1338) rfl) rfl), (lwT_of (List.mem_of_getElem? (i := 1339) rfl) rfl)⟩
set_option maxRecDepth 100000 in
theorem ok_R_stride : VOk mR_stride 1 := ⟨⟨(lwT_of (List.mem_of_getElem? (i := 1344) rfl) rfl), (lwT_of (List.mem_of_getElem? (i := 89) rfl) rfl), ⟨by decide, by decide, by decide +kernel⟩, by decide⟩, (lwT_of (List.mem_of_getElem? (i := 1342) rfl) rfl), (lwT_of (List.mem_of_getElem? (i := 1343) rfl) rfl)⟩
set_option maxRecDepth 100000 in
theorem ok_R_count : VOk mR_count 1 := ⟨⟨(lwT_of (List.mem_of_getElem? (i := 1348) rfl) rfl), (lwT_of (List.mem_of_getElem? (i := 89) rfl) rfl), ⟨by decide, by decide, by decide +kernel⟩, by decide⟩, (lwT_of (List.mem_of_getElem? (i := 1346) rfl) rfl), (lwT_of (List.mem_of_getElem? (i := 1347) rfl) rfl)⟩
set_option maxRecDepth 100000 in
theorem ok_R_isByte : SOk mR_isByte 1 := ⟨⟨(lwT_of (List.mem_of_getElem? (i := 1355) rfl) rfl), (lwT_of (List.mem_of_getElem? (i := 89) rfl) rfl), ⟨by decide, by decide, by decide +kernel⟩, by decide⟩, (lwT_of (List.mem_of_getElem? (i := 1354) rfl) rfl)⟩
set_option maxRecDepth 100000 in
theorem ok_R_feed : VOk mR_feed 6 := ⟨⟨(lwT_of (List.mem_of_getElem? (i := 1352) rfl) rfl), (lwT_of (List.mem_of_getElem? (i := 89) rfl) rfl), ⟨by decide, by decide, by decide +kernel⟩, by decide⟩, (lwT_of (List.mem_of_getElem? (i := 1350) rfl) rfl), (lwT_of (List.mem_of_getElem? (i := 1351) rfl) rfl)⟩
set_option maxRecDepth 100000 in
theorem ok_R_wordFrom : VOk mR_wordFrom 2 := ⟨⟨(lwT_of (List.mem_of_getElem? (i := 1110) rfl) rfl), (lwT_of (List.mem_of_getElem? (i := 89) rfl) rfl), ⟨by decide, by decide, by decide +kernel⟩, by decide⟩, (lwT_of (List.mem_of_getElem? (i := 1109) rfl) rfl), (lwT_of (List.mem_of_getElem? (i := 33) rfl) rfl)⟩
set_option maxRecDepth 100000 in
theorem ok_R_next : VOk mR_next 0 := ⟨⟨(lwT_of (List.mem_of_getElem? (i := 1103) rfl) rfl), (lwT_of (List.mem_of_getElem? (i := 89) rfl) rfl), ⟨by decide, by decide, by decide +kernel⟩, by decide⟩, (lwT_of (List.mem_of_getElem? (i := 1102) rfl) rfl), (lwT_of (List.mem_of_getElem? (i := 32) rfl) rfl)⟩
set_option maxRecDepth 100000 in
theorem ok_R_rank : SOk mR_rank 1 := ⟨⟨(lwT_of (List.mem_of_getElem? (i := 1126) rfl) rfl), (lwT_of (List.mem_of_getElem? (i := 89) rfl) rfl), ⟨by decide, by decide, by decide +kernel⟩, by decide⟩, (lwT_of (List.mem_of_getElem? (i := 1125) rfl) rfl)⟩
set_option maxRecDepth 100000 in
theorem ok_R_puts : VOk mR_puts 1 := ⟨⟨(lwT_of (List.mem_of_getElem? (i := 1119) rfl) rfl), (lwT_of (List.mem_of_getElem? (i := 89) rfl) rfl), ⟨by decide, by decide, by decide +kernel⟩, by decide⟩, (lwT_of (List.mem_of_getElem? (i := 1118) rfl) rfl), (lwT_of (List.mem_of_getElem? (i := 35) rfl) rfl)⟩
set_option maxRecDepth 100000 in
theorem ok_R_unwinds : VOk mR_unwinds 1 := ⟨⟨(lwT_of (List.mem_of_getElem? (i := 1123) rfl) rfl), (lwT_of (List.mem_of_getElem? (i := 89) rfl) rfl), ⟨by decide, by decide, by decide +kernel⟩, by decide⟩, (lwT_of (List.mem_of_getElem? (i := 1122) rfl) rfl), (lwT_of (List.mem_of_getElem? (i := 36) rfl) rfl)⟩
set_option maxRecDepth 100000 in
theorem ok_R_holds : VOk mR_holds 1 := ⟨⟨(lwT_of (List.mem_of_getElem? (i := 1134) rfl) rfl), (lwT_of (List.mem_of_getElem? (i := 89) rfl) rfl), ⟨by decide, by decide, by decide +kernel⟩, by decide⟩, (lwT_of (List.mem_of_getElem? (i := 1133) rfl) rfl), (lwT_of (List.mem_of_getElem? (i := 38) rfl) rfl)⟩
set_option maxRecDepth 100000 in
theorem ok_R_opensOne : VOk mR_opensOne 1 := ⟨⟨(lwT_of (List.mem_of_getElem? (i := 1130) rfl) rfl), (lwT_of (List.mem_of_getElem? (i := 89) rfl) rfl), ⟨by decide, by decide, by decide +kernel⟩, by decide⟩, (lwT_of (List.mem_of_getElem? (i := 1129) rfl) rfl), (lwT_of (List.mem_of_getElem? (i := 37) rfl) rfl)⟩
set_option maxRecDepth 100000 in
theorem ok_R_between : VOk mR_between 1 := ⟨⟨(lwT_of (List.mem_of_getElem? (i := 1142) rfl) rfl), (lwT_of (List.mem_of_getElem? (i := 89) rfl) rfl), ⟨by decide, by decide, by decide +kernel⟩, by decide⟩, (lwT_of (List.mem_of_getElem? (i := 1141) rfl) rfl), (lwT_of (List.mem_of_getElem? (i := 40) rfl) rfl)⟩
set_option maxRecDepth 100000 in
theorem ok_R_signOf : VOk mR_signOf 0 := ⟨⟨(lwT_of (List.mem_of_getElem? (i := 1138) rfl) rfl), (lwT_of (List.mem_of_getElem? (i := 89) rfl) rfl), ⟨by decide, by decide, by decide +kernel⟩, by decide⟩, (lwT_of (List.mem_of_getElem? (i := 1137) rfl) rfl), (lwT_of (List.mem_of_getElem? (i := 39) rfl) rfl)⟩
set_option maxRecDepth 100000 in
theorem ok_R_eRead : VOk mR_eRead 0 := ⟨⟨(lwT_of (List.mem_of_getElem? (i := 1114) rfl) rfl), (lwT_of (List.mem_of_getElem? (i := 89) rfl) rfl), ⟨by decide, by decide, by decide +kernel⟩, by decide⟩, (lwT_of (List.mem_of_getElem? (i := 1113) rfl) rfl), (lwT_of (List.mem_of_getElem? (i := 34) rfl) rfl)⟩
set_option maxRecDepth 100000 in
theorem ok_R_text : VOk mR_text 0 := ⟨⟨(lwT_of (List.mem_of_getElem? (i := 1099) rfl) rfl), (lwT_of (List.mem_of_getElem? (i := 89) rfl) rfl), ⟨by decide, by decide, by decide +kernel⟩, by decide⟩, (lwT_of (List.mem_of_getElem? (i := 1097) rfl) rfl), (lwT_of (List.mem_of_getElem? (i := 1098) rfl) rfl)⟩
set_option maxRecDepth 100000 in
theorem ok_R_two : SOk mR_two 3 := ⟨⟨(lwT_of (List.mem_of_getElem? (i := 1431) rfl) rfl), (lwT_of (List.mem_of_getElem? (i := 89) rfl) rfl), ⟨by decide, by decide, by decide +kernel⟩, by decide⟩, (lwT_of (List.mem_of_getElem? (i := 1430) rfl) rfl)⟩
set_option maxRecDepth 100000 in
theorem ok_R_worthOf : VOk mR_worthOf 1 := ⟨⟨(lwT_of (List.mem_of_getElem? (i := 1428) rfl) rfl), (lwT_of (List.mem_of_getElem? (i := 89) rfl) rfl), ⟨by decide, by decide, by decide +kernel⟩, by decide⟩, (lwT_of (List.mem_of_getElem? (i := 1427) rfl) rfl), (lwT_of (List.mem_of_getElem? (i := 48) rfl) rfl)⟩
set_option maxRecDepth 100000 in
theorem ok_R_names : VOk mR_names 6 := ⟨⟨(lwT_of (List.mem_of_getElem? (i := 1424) rfl) rfl), (lwT_of (List.mem_of_getElem? (i := 89) rfl) rfl), ⟨by decide, by decide, by decide +kernel⟩, by decide⟩, (lwT_of (List.mem_of_getElem? (i := 1423) rfl) rfl), (lwT_of (List.mem_of_getElem? (i := 47) rfl) rfl)⟩
set_option maxRecDepth 100000 in
theorem ok_R_force : VOk mR_force 1 := ⟨⟨(lwT_of (List.mem_of_getElem? (i := 1360) rfl) rfl), (lwT_of (List.mem_of_getElem? (i := 89) rfl) rfl), ⟨by decide, by decide, by decide +kernel⟩, by decide⟩, (lwT_of (List.mem_of_getElem? (i := 1358) rfl) rfl), (lwT_of (List.mem_of_getElem? (i := 1359) rfl) rfl)⟩
set_option maxRecDepth 100000 in
theorem ok_R_person : VOk mR_person 4 := ⟨⟨(lwT_of (List.mem_of_getElem? (i := 1364) rfl) rfl), (lwT_of (List.mem_of_getElem? (i := 89) rfl) rfl), ⟨by decide, by decide, by decide +kernel⟩, by decide⟩, (lwT_of (List.mem_of_getElem? (i := 1362) rfl) rfl), (lwT_of (List.mem_of_getElem? (i := 1363) rfl) rfl)⟩
set_option maxRecDepth 100000 in
theorem ok_R_move : VOk mR_move 2 := ⟨⟨(lwT_of (List.mem_of_getElem? (i := 1368) rfl) rfl), (lwT_of (List.mem_of_getElem? (i := 89) rfl) rfl), ⟨by decide, by decide, by decide +kernel⟩, by decide⟩, (lwT_of (List.mem_of_getElem? (i := 1366) rfl) rfl), (lwT_of (List.mem_of_getElem? (i := 1367) rfl) rfl)⟩
set_option maxRecDepth 100000 in
theorem ok_R_whereIs : VOk mR_whereIs 2 := ⟨⟨(lwT_of (List.mem_of_getElem? (i := 1380) rfl) rfl), (lwT_of (List.mem_of_getElem? (i := 89) rfl) rfl), ⟨by decide, by decide, by decide +kernel⟩, by decide⟩, (lwT_of (List.mem_of_getElem? (i := 1379) rfl) rfl), (lwT_of (List.mem_of_getElem? (i := 42) rfl) rfl)⟩
set_option maxRecDepth 100000 in
theorem ok_R_told : VOk mR_told 2 := ⟨⟨(lwT_of (List.mem_of_getElem? (i := 1376) rfl) rfl), (lwT_of (List.mem_of_getElem? (i := 89) rfl) rfl), ⟨by decide, by decide, by decide +kernel⟩, by decide⟩, (lwT_of (List.mem_of_getElem? (i := 1374) rfl) rfl), (lwT_of (List.mem_of_getElem? (i := 1375) rfl) rfl)⟩
set_option maxRecDepth 100000 in
theorem ok_R_promise : VOk mR_promise 4 := ⟨⟨(lwT_of (List.mem_of_getElem? (i := 1384) rfl) rfl), (lwT_of (List.mem_of_getElem? (i := 89) rfl) rfl), ⟨by decide, by decide, by decide +kernel⟩, by decide⟩, (lwT_of (List.mem_of_getElem? (i := 1382) rfl) rfl), (lwT_of (List.mem_of_getElem? (i := 1383) rfl) rfl)⟩
set_option maxRecDepth 100000 in
theorem ok_R_promised : VOk mR_promised 2 := ⟨⟨(lwT_of (List.mem_of_getElem? (i := 1388) rfl) rfl), (lwT_of (List.mem_of_getElem? (i := 89) rfl) rfl), ⟨by decide, by decide, by decide +kernel⟩, by decide⟩, (lwT_of (List.mem_of_getElem? (i := 1386) rfl) rfl), (lwT_of (List.mem_of_getElem? (i := 1387) rfl) rfl)⟩
set_option maxRecDepth 100000 in
theorem ok_R_says : VOk mR_says 3 := ⟨⟨(lwT_of (List.mem_of_getElem? (i := 1400) rfl) rfl), (lwT_of (List.mem_of_getElem? (i := 89) rfl) rfl), ⟨by decide, by decide, by decide +kernel⟩, by decide⟩, (lwT_of (List.mem_of_getElem? (i := 1399) rfl) rfl), (lwT_of (List.mem_of_getElem? (i := 44) rfl) rfl)⟩
set_option maxRecDepth 100000 in
theorem ok_R_say : VOk mR_say 2 := ⟨⟨(lwT_of (List.mem_of_getElem? (i := 1396) rfl) rfl), (lwT_of (List.mem_of_getElem? (i := 89) rfl) rfl), ⟨by decide, by decide, by decide +kernel⟩, by decide⟩, (lwT_of (List.mem_of_getElem? (i := 1394) rfl) rfl), (lwT_of (List.mem_of_getElem? (i := 1395) rfl) rfl)⟩
set_option maxRecDepth 100000 in
theorem ok_R_unsay : VOk mR_unsay 0 := ⟨⟨(lwT_of (List.mem_of_getElem? (i := 1404) rfl) rfl), (lwT_of (List.mem_of_getElem? (i := 89) rfl) rfl), ⟨by decide, by decide, by decide +kernel⟩, by decide⟩, (lwT_of (List.mem_of_getElem? (i := 1402) rfl) rfl), (lwT_of (List.mem_of_getElem? (i := 1403) rfl) rfl)⟩
set_option maxRecDepth 100000 in
theorem ok_R_said : VOk mR_said 2 := ⟨⟨(lwT_of (List.mem_of_getElem? (i := 1408) rfl) rfl), (lwT_of (List.mem_of_getElem? (i := 89) rfl) rfl), ⟨by decide, by decide, by decide +kernel⟩, by decide⟩, (lwT_of (List.mem_of_getElem? (i := 1406) rfl) rfl), (lwT_of (List.mem_of_getElem? (i := 1407) rfl) rfl)⟩
set_option maxRecDepth 100000 in
theorem ok_R_hearsOf : VOk mR_hearsOf 2 := ⟨⟨(lwT_of (List.mem_of_getElem? (i := 1420) rfl) rfl), (lwT_of (List.mem_of_getElem? (i := 89) rfl) rfl), ⟨by decide, by decide, by decide +kernel⟩, by decide⟩, (lwT_of (List.mem_of_getElem? (i := 1419) rfl) rfl), (lwT_of (List.mem_of_getElem? (i := 46) rfl) rfl)⟩
set_option maxRecDepth 100000 in
theorem ok_R_hears : VOk mR_hears 2 := ⟨⟨(lwT_of (List.mem_of_getElem? (i := 1416) rfl) rfl), (lwT_of (List.mem_of_getElem? (i := 89) rfl) rfl), ⟨by decide, by decide, by decide +kernel⟩, by decide⟩, (lwT_of (List.mem_of_getElem? (i := 1414) rfl) rfl), (lwT_of (List.mem_of_getElem? (i := 1415) rfl) rfl)⟩
set_option maxRecDepth 100000 in
theorem ok_R_isClear : VOk mR_isClear 2 := ⟨⟨(lwT_of (List.mem_of_getElem? (i := 1446) rfl) rfl), (lwT_of (List.mem_of_getElem? (i := 89) rfl) rfl), ⟨by decide, by decide, by decide +kernel⟩, by decide⟩, (lwT_of (List.mem_of_getElem? (i := 1445) rfl) rfl), (lwT_of (List.mem_of_getElem? (i := 50) rfl) rfl)⟩
set_option maxRecDepth 100000 in
theorem ok_R_clearTo : VOk mR_clearTo 1 := ⟨⟨(lwT_of (List.mem_of_getElem? (i := 1442) rfl) rfl), (lwT_of (List.mem_of_getElem? (i := 89) rfl) rfl), ⟨by decide, by decide, by decide +kernel⟩, by decide⟩, (lwT_of (List.mem_of_getElem? (i := 1441) rfl) rfl), (lwT_of (List.mem_of_getElem? (i := 49) rfl) rfl)⟩
set_option maxRecDepth 100000 in
theorem ok_R_heard : VOk mR_heard 1 := ⟨⟨(lwT_of (List.mem_of_getElem? (i := 1438) rfl) rfl), (lwT_of (List.mem_of_getElem? (i := 89) rfl) rfl), ⟨by decide, by decide, by decide +kernel⟩, by decide⟩, (lwT_of (List.mem_of_getElem? (i := 1436) rfl) rfl), (lwT_of (List.mem_of_getElem? (i := 1437) rfl) rfl)⟩
set_option maxRecDepth 100000 in
theorem ok_R_nobody : VOk mR_nobody 0 := ⟨⟨(lwT_of (List.mem_of_getElem? (i := 1453) rfl) rfl), (lwT_of (List.mem_of_getElem? (i := 89) rfl) rfl), ⟨by decide, by decide, by decide +kernel⟩, by decide⟩, (lwT_of (List.mem_of_getElem? (i := 1451) rfl) rfl), (lwT_of (List.mem_of_getElem? (i := 1452) rfl) rfl)⟩
set_option maxRecDepth 100000 in
theorem ok_R_can : VOk mR_can 2 := ⟨⟨(lwT_of (List.mem_of_getElem? (i := 1472) rfl) rfl), (lwT_of (List.mem_of_getElem? (i := 89) rfl) rfl), ⟨by decide, by decide, by decide +kernel⟩, by decide⟩, (lwT_of (List.mem_of_getElem? (i := 1471) rfl) rfl), (lwT_of (List.mem_of_getElem? (i := 53) rfl) rfl)⟩
set_option maxRecDepth 100000 in
theorem ok_R_ones : SOk mR_ones 1 := ⟨⟨(lwT_of (List.mem_of_getElem? (i := 1468) rfl) rfl), (lwT_of (List.mem_of_getElem? (i := 89) rfl) rfl), ⟨by decide, by decide, by decide +kernel⟩, by decide⟩, (lwT_of (List.mem_of_getElem? (i := 1467) rfl) rfl)⟩
set_option maxRecDepth 100000 in
theorem ok_R_owesBy : VOk mR_owesBy 1 := ⟨⟨(lwT_of (List.mem_of_getElem? (i := 1465) rfl) rfl), (lwT_of (List.mem_of_getElem? (i := 89) rfl) rfl), ⟨by decide, by decide, by decide +kernel⟩, by decide⟩, (lwT_of (List.mem_of_getElem? (i := 1464) rfl) rfl), (lwT_of (List.mem_of_getElem? (i := 52) rfl) rfl)⟩
set_option maxRecDepth 100000 in
theorem ok_R_strikes : VOk mR_strikes 1 := ⟨⟨(lwT_of (List.mem_of_getElem? (i := 1476) rfl) rfl), (lwT_of (List.mem_of_getElem? (i := 89) rfl) rfl), ⟨by decide, by decide, by decide +kernel⟩, by decide⟩, (lwT_of (List.mem_of_getElem? (i := 1475) rfl) rfl), (lwT_of (List.mem_of_getElem? (i := 54) rfl) rfl)⟩
set_option maxRecDepth 100000 in
theorem ok_R_fits : VOk mR_fits 1 := ⟨⟨(lwT_of (List.mem_of_getElem? (i := 1480) rfl) rfl), (lwT_of (List.mem_of_getElem? (i := 89) rfl) rfl), ⟨by decide, by decide, by decide +kernel⟩, by decide⟩, (lwT_of (List.mem_of_getElem? (i := 1479) rfl) rfl), (lwT_of (List.mem_of_getElem? (i := 55) rfl) rfl)⟩
set_option maxRecDepth 100000 in
theorem ok_R_owes : VOk mR_owes 1 := ⟨⟨(lwT_of (List.mem_of_getElem? (i := 1461) rfl) rfl), (lwT_of (List.mem_of_getElem? (i := 89) rfl) rfl), ⟨by decide, by decide, by decide +kernel⟩, by decide⟩, (lwT_of (List.mem_of_getElem? (i := 1460) rfl) rfl), (lwT_of (List.mem_of_getElem? (i := 51) rfl) rfl)⟩
set_option maxRecDepth 100000 in
theorem ok_R_owe : VOk mR_owe 2 := ⟨⟨(lwT_of (List.mem_of_getElem? (i := 1457) rfl) rfl), (lwT_of (List.mem_of_getElem? (i := 89) rfl) rfl), ⟨by decide, by decide, by decide +kernel⟩, by decide⟩, (lwT_of (List.mem_of_getElem? (i := 1455) rfl) rfl), (lwT_of (List.mem_of_getElem? (i := 1456) rfl) rfl)⟩
set_option maxRecDepth 100000 in
theorem ok_R_owedBy : VOk mR_owedBy 1 := ⟨⟨(lwT_of (List.mem_of_getElem? (i := 1488) rfl) rfl), (lwT_of (List.mem_of_getElem? (i := 89) rfl) rfl), ⟨by decide, by decide, by decide +kernel⟩, by decide⟩, (lwT_of (List.mem_of_getElem? (i := 1487) rfl) rfl), (lwT_of (List.mem_of_getElem? (i := 56) rfl) rfl)⟩
set_option maxRecDepth 100000 in
theorem ok_R_painOf : VOk mR_painOf 1 := ⟨⟨(lwT_of (List.mem_of_getElem? (i := 1492) rfl) rfl), (lwT_of (List.mem_of_getElem? (i := 89) rfl) rfl), ⟨by decide, by decide, by decide +kernel⟩, by decide⟩, (lwT_of (List.mem_of_getElem? (i := 1491) rfl) rfl), (lwT_of (List.mem_of_getElem? (i := 57) rfl) rfl)⟩
set_option maxRecDepth 100000 in
theorem ok_R_load : VOk mR_load 2 := ⟨⟨(lwT_of (List.mem_of_getElem? (i := 1484) rfl) rfl), (lwT_of (List.mem_of_getElem? (i := 89) rfl) rfl), ⟨by decide, by decide, by decide +kernel⟩, by decide⟩, (lwT_of (List.mem_of_getElem? (i := 1482) rfl) rfl), (lwT_of (List.mem_of_getElem? (i := 1483) rfl) rfl)⟩
set_option maxRecDepth 100000 in
theorem ok_R_doneOf : VOk mR_doneOf 1 := ⟨⟨(lwT_of (List.mem_of_getElem? (i := 1500) rfl) rfl), (lwT_of (List.mem_of_getElem? (i := 89) rfl) rfl), ⟨by decide, by decide, by decide +kernel⟩, by decide⟩, (lwT_of (List.mem_of_getElem? (i := 1499) rfl) rfl), (lwT_of (List.mem_of_getElem? (i := 58) rfl) rfl)⟩
set_option maxRecDepth 100000 in
theorem ok_R_isKept : VOk mR_isKept 1 := ⟨⟨(lwT_of (List.mem_of_getElem? (i := 1512) rfl) rfl), (lwT_of (List.mem_of_getElem? (i := 89) rfl) rfl), ⟨by decide, by decide, by decide +kernel⟩, by decide⟩, (lwT_of (List.mem_of_getElem? (i := 1511) rfl) rfl), (lwT_of (List.mem_of_getElem? (i := 60) rfl) rfl)⟩
set_option maxRecDepth 100000 in
theorem ok_R_done : VOk mR_done 1 := ⟨⟨(lwT_of (List.mem_of_getElem? (i := 1496) rfl) rfl), (lwT_of (List.mem_of_getElem? (i := 89) rfl) rfl), ⟨by decide, by decide, by decide +kernel⟩, by decide⟩, (lwT_of (List.mem_of_getElem? (i := 1494) rfl) rfl), (lwT_of (List.mem_of_getElem? (i := 1495) rfl) rfl)⟩
set_option maxRecDepth 100000 in
theorem ok_R_keptNow : VOk mR_keptNow 0 := ⟨⟨(lwT_of (List.mem_of_getElem? (i := 1508) rfl) rfl), (lwT_of (List.mem_of_getElem? (i := 89) rfl) rfl), ⟨by decide, by decide, by decide +kernel⟩, by decide⟩, (lwT_of (List.mem_of_getElem? (i := 1507) rfl) rfl), (lwT_of (List.mem_of_getElem? (i := 59) rfl) rfl)⟩
set_option maxRecDepth 100000 in
theorem ok_R_worthNow : VOk mR_worthNow 0 := ⟨⟨(lwT_of (List.mem_of_getElem? (i := 1516) rfl) rfl), (lwT_of (List.mem_of_getElem? (i := 89) rfl) rfl), ⟨by decide, by decide, by decide +kernel⟩, by decide⟩, (lwT_of (List.mem_of_getElem? (i := 1515) rfl) rfl), (lwT_of (List.mem_of_getElem? (i := 61) rfl) rfl)⟩
set_option maxRecDepth 100000 in
theorem ok_R_painNow : VOk mR_painNow 0 := ⟨⟨(lwT_of (List.mem_of_getElem? (i := 1520) rfl) rfl), (lwT_of (List.mem_of_getElem? (i := 89) rfl) rfl), ⟨by decide, by decide, by decide +kernel⟩, by decide⟩, (lwT_of (List.mem_of_getElem? (i := 1519) rfl) rfl), (lwT_of (List.mem_of_getElem? (i := 62) rfl) rfl)⟩
set_option maxRecDepth 100000 in
theorem ok_R_sum : VOk mR_sum 1 := ⟨⟨(lwT_of (List.mem_of_getElem? (i := 1504) rfl) rfl), (lwT_of (List.mem_of_getElem? (i := 89) rfl) rfl), ⟨by decide, by decide, by decide +kernel⟩, by decide⟩, (lwT_of (List.mem_of_getElem? (i := 1502) rfl) rfl), (lwT_of (List.mem_of_getElem? (i := 1503) rfl) rfl)⟩
set_option maxRecDepth 100000 in
theorem ok_R_wayTo : VOk mR_wayTo 1 := ⟨⟨(lwT_of (List.mem_of_getElem? (i := 1528) rfl) rfl), (lwT_of (List.mem_of_getElem? (i := 89) rfl) rfl), ⟨by decide, by decide, by decide +kernel⟩, by decide⟩, (lwT_of (List.mem_of_getElem? (i := 1527) rfl) rfl), (lwT_of (List.mem_of_getElem? (i := 63) rfl) rfl)⟩
set_option maxRecDepth 100000 in
theorem ok_R_judge : VOk mR_judge 0 := ⟨⟨(lwT_of (List.mem_of_getElem? (i := 1524) rfl) rfl), (lwT_of (List.mem_of_getElem? (i := 89) rfl) rfl), ⟨by decide, by decide, by decide +kernel⟩, by decide⟩, (lwT_of (List.mem_of_getElem? (i := 1522) rfl) rfl), (lwT_of (List.mem_of_getElem? (i := 1523) rfl) rfl)⟩
set_option maxRecDepth 100000 in
theorem ok_R_walk : VOk mR_walk 0 := ⟨⟨(lwT_of (List.mem_of_getElem? (i := 1532) rfl) rfl), (lwT_of (List.mem_of_getElem? (i := 89) rfl) rfl), ⟨by decide, by decide, by decide +kernel⟩, by decide⟩, (lwT_of (List.mem_of_getElem? (i := 1530) rfl) rfl), (lwT_of (List.mem_of_getElem? (i := 1531) rfl) rfl)⟩
set_option maxRecDepth 100000 in
theorem ok_R_owesWith : VOk mR_owesWith 2 := ⟨⟨(lwT_of (List.mem_of_getElem? (i := 1543) rfl) rfl), (lwT_of (List.mem_of_getElem? (i := 89) rfl) rfl), ⟨by decide, by decide, by decide +kernel⟩, by decide⟩, (lwT_of (List.mem_of_getElem? (i := 1542) rfl) rfl), (lwT_of (List.mem_of_getElem? (i := 64) rfl) rfl)⟩
set_option maxRecDepth 100000 in
theorem ok_R_isHow : SOk mR_isHow 1 := ⟨⟨(lwT_of (List.mem_of_getElem? (i := 1539) rfl) rfl), (lwT_of (List.mem_of_getElem? (i := 89) rfl) rfl), ⟨by decide, by decide, by decide +kernel⟩, by decide⟩, (lwT_of (List.mem_of_getElem? (i := 1538) rfl) rfl)⟩
set_option maxRecDepth 100000 in
theorem ok_R_best : VOk mR_best 2 := ⟨⟨(lwT_of (List.mem_of_getElem? (i := 1536) rfl) rfl), (lwT_of (List.mem_of_getElem? (i := 89) rfl) rfl), ⟨by decide, by decide, by decide +kernel⟩, by decide⟩, (lwT_of (List.mem_of_getElem? (i := 1534) rfl) rfl), (lwT_of (List.mem_of_getElem? (i := 1535) rfl) rfl)⟩
set_option maxRecDepth 100000 in
theorem ok_R_foe : VOk mR_foe 3 := ⟨⟨(lwT_of (List.mem_of_getElem? (i := 1547) rfl) rfl), (lwT_of (List.mem_of_getElem? (i := 89) rfl) rfl), ⟨by decide, by decide, by decide +kernel⟩, by decide⟩, (lwT_of (List.mem_of_getElem? (i := 1545) rfl) rfl), (lwT_of (List.mem_of_getElem? (i := 1546) rfl) rfl)⟩
set_option maxRecDepth 100000 in
theorem ok_R_loud : VOk mR_loud 3 := ⟨⟨(lwT_of (List.mem_of_getElem? (i := 1551) rfl) rfl), (lwT_of (List.mem_of_getElem? (i := 89) rfl) rfl), ⟨by decide, by decide, by decide +kernel⟩, by decide⟩, (lwT_of (List.mem_of_getElem? (i := 1549) rfl) rfl), (lwT_of (List.mem_of_getElem? (i := 1550) rfl) rfl)⟩
set_option maxRecDepth 100000 in
theorem ok_R_spare : VOk mR_spare 0 := ⟨⟨(lwT_of (List.mem_of_getElem? (i := 1555) rfl) rfl), (lwT_of (List.mem_of_getElem? (i := 89) rfl) rfl), ⟨by decide, by decide, by decide +kernel⟩, by decide⟩, (lwT_of (List.mem_of_getElem? (i := 1553) rfl) rfl), (lwT_of (List.mem_of_getElem? (i := 1554) rfl) rfl)⟩
set_option maxRecDepth 100000 in
theorem ok_R_shares : VOk mR_shares 1 := ⟨⟨(lwT_of (List.mem_of_getElem? (i := 1563) rfl) rfl), (lwT_of (List.mem_of_getElem? (i := 89) rfl) rfl), ⟨by decide, by decide, by decide +kernel⟩, by decide⟩, (lwT_of (List.mem_of_getElem? (i := 1562) rfl) rfl), (lwT_of (List.mem_of_getElem? (i := 65) rfl) rfl)⟩
set_option maxRecDepth 100000 in
theorem ok_R_even : VOk mR_even 2 := ⟨⟨(lwT_of (List.mem_of_getElem? (i := 1559) rfl) rfl), (lwT_of (List.mem_of_getElem? (i := 89) rfl) rfl), ⟨by decide, by decide, by decide +kernel⟩, by decide⟩, (lwT_of (List.mem_of_getElem? (i := 1557) rfl) rfl), (lwT_of (List.mem_of_getElem? (i := 1558) rfl) rfl)⟩
set_option maxRecDepth 100000 in
theorem ok_R_hardest : VOk mR_hardest 1 := ⟨⟨(lwT_of (List.mem_of_getElem? (i := 1567) rfl) rfl), (lwT_of (List.mem_of_getElem? (i := 89) rfl) rfl), ⟨by decide, by decide, by decide +kernel⟩, by decide⟩, (lwT_of (List.mem_of_getElem? (i := 1565) rfl) rfl), (lwT_of (List.mem_of_getElem? (i := 1566) rfl) rfl)⟩
set_option maxRecDepth 100000 in
theorem ok_R_owedAt : VOk mR_owedAt 2 := ⟨⟨(lwT_of (List.mem_of_getElem? (i := 1579) rfl) rfl), (lwT_of (List.mem_of_getElem? (i := 89) rfl) rfl), ⟨by decide, by decide, by decide +kernel⟩, by decide⟩, (lwT_of (List.mem_of_getElem? (i := 1578) rfl) rfl), (lwT_of (List.mem_of_getElem? (i := 67) rfl) rfl)⟩
set_option maxRecDepth 100000 in
theorem ok_R_goesTo : VOk mR_goesTo 2 := ⟨⟨(lwT_of (List.mem_of_getElem? (i := 1575) rfl) rfl), (lwT_of (List.mem_of_getElem? (i := 89) rfl) rfl), ⟨by decide, by decide, by decide +kernel⟩, by decide⟩, (lwT_of (List.mem_of_getElem? (i := 1574) rfl) rfl), (lwT_of (List.mem_of_getElem? (i := 66) rfl) rfl)⟩
set_option maxRecDepth 100000 in
theorem ok_R_flee : VOk mR_flee 2 := ⟨⟨(lwT_of (List.mem_of_getElem? (i := 1571) rfl) rfl), (lwT_of (List.mem_of_getElem? (i := 89) rfl) rfl), ⟨by decide, by decide, by decide +kernel⟩, by decide⟩, (lwT_of (List.mem_of_getElem? (i := 1569) rfl) rfl), (lwT_of (List.mem_of_getElem? (i := 1570) rfl) rfl)⟩
set_option maxRecDepth 100000 in
theorem ok_R_send : VOk mR_send 2 := ⟨⟨(lwT_of (List.mem_of_getElem? (i := 1583) rfl) rfl), (lwT_of (List.mem_of_getElem? (i := 89) rfl) rfl), ⟨by decide, by decide, by decide +kernel⟩, by decide⟩, (lwT_of (List.mem_of_getElem? (i := 1581) rfl) rfl), (lwT_of (List.mem_of_getElem? (i := 1582) rfl) rfl)⟩
set_option maxRecDepth 100000 in
theorem ok_R_rest : VOk mR_rest 1 := ⟨⟨(lwT_of (List.mem_of_getElem? (i := 1587) rfl) rfl), (lwT_of (List.mem_of_getElem? (i := 89) rfl) rfl), ⟨by decide, by decide, by decide +kernel⟩, by decide⟩, (lwT_of (List.mem_of_getElem? (i := 1585) rfl) rfl), (lwT_of (List.mem_of_getElem? (i := 1586) rfl) rfl)⟩
set_option maxRecDepth 100000 in
theorem ok_R_chanceOf : VOk mR_chanceOf 2 := ⟨⟨(lwT_of (List.mem_of_getElem? (i := 1595) rfl) rfl), (lwT_of (List.mem_of_getElem? (i := 89) rfl) rfl), ⟨by decide, by decide, by decide +kernel⟩, by decide⟩, (lwT_of (List.mem_of_getElem? (i := 1594) rfl) rfl), (lwT_of (List.mem_of_getElem? (i := 68) rfl) rfl)⟩
set_option maxRecDepth 100000 in
theorem ok_R_chance : VOk mR_chance 2 := ⟨⟨(lwT_of (List.mem_of_getElem? (i := 1591) rfl) rfl), (lwT_of (List.mem_of_getElem? (i := 89) rfl) rfl), ⟨by decide, by decide, by decide +kernel⟩, by decide⟩, (lwT_of (List.mem_of_getElem? (i := 1589) rfl) rfl), (lwT_of (List.mem_of_getElem? (i := 1590) rfl) rfl)⟩
set_option maxRecDepth 100000 in
theorem ok_R_lost : VOk mR_lost 1 := ⟨⟨(lwT_of (List.mem_of_getElem? (i := 1601) rfl) rfl), (lwT_of (List.mem_of_getElem? (i := 89) rfl) rfl), ⟨by decide, by decide, by decide +kernel⟩, by decide⟩, (lwT_of (List.mem_of_getElem? (i := 1599) rfl) rfl), (lwT_of (List.mem_of_getElem? (i := 1600) rfl) rfl)⟩
set_option maxRecDepth 100000 in
theorem ok_R_laws : VOk mR_laws 1 := ⟨⟨(lwT_of (List.mem_of_getElem? (i := 1605) rfl) rfl), (lwT_of (List.mem_of_getElem? (i := 89) rfl) rfl), ⟨by decide, by decide, by decide +kernel⟩, by decide⟩, (lwT_of (List.mem_of_getElem? (i := 1603) rfl) rfl), (lwT_of (List.mem_of_getElem? (i := 1604) rfl) rfl)⟩
set_option maxRecDepth 100000 in
theorem ok_R_sheetWrong : VOk mR_sheetWrong 1 := ⟨⟨(lwT_of (List.mem_of_getElem? (i := 1613) rfl) rfl), (lwT_of (List.mem_of_getElem? (i := 89) rfl) rfl), ⟨by decide, by decide, by decide +kernel⟩, by decide⟩, (lwT_of (List.mem_of_getElem? (i := 1612) rfl) rfl), (lwT_of (List.mem_of_getElem? (i := 69) rfl) rfl)⟩
set_option maxRecDepth 100000 in
theorem ok_R_unlike : VOk mR_unlike 1 := ⟨⟨(lwT_of (List.mem_of_getElem? (i := 1617) rfl) rfl), (lwT_of (List.mem_of_getElem? (i := 89) rfl) rfl), ⟨by decide, by decide, by decide +kernel⟩, by decide⟩, (lwT_of (List.mem_of_getElem? (i := 1616) rfl) rfl), (lwT_of (List.mem_of_getElem? (i := 70) rfl) rfl)⟩
set_option maxRecDepth 100000 in
theorem ok_R_witness : VOk mR_witness 1 := ⟨⟨(lwT_of (List.mem_of_getElem? (i := 1609) rfl) rfl), (lwT_of (List.mem_of_getElem? (i := 89) rfl) rfl), ⟨by decide, by decide, by decide +kernel⟩, by decide⟩, (lwT_of (List.mem_of_getElem? (i := 1607) rfl) rfl), (lwT_of (List.mem_of_getElem? (i := 1608) rfl) rfl)⟩
set_option maxRecDepth 100000 in
theorem ok_R_alibi : VOk mR_alibi 2 := ⟨⟨(lwT_of (List.mem_of_getElem? (i := 1621) rfl) rfl), (lwT_of (List.mem_of_getElem? (i := 89) rfl) rfl), ⟨by decide, by decide, by decide +kernel⟩, by decide⟩, (lwT_of (List.mem_of_getElem? (i := 1619) rfl) rfl), (lwT_of (List.mem_of_getElem? (i := 1620) rfl) rfl)⟩
set_option maxRecDepth 100000 in
theorem ok_R_draws : VOk mR_draws 1 := ⟨⟨(lwT_of (List.mem_of_getElem? (i := 1630) rfl) rfl), (lwT_of (List.mem_of_getElem? (i := 89) rfl) rfl), ⟨by decide, by decide, by decide +kernel⟩, by decide⟩, (lwT_of (List.mem_of_getElem? (i := 1629) rfl) rfl), (lwT_of (List.mem_of_getElem? (i := 71) rfl) rfl)⟩
set_option maxRecDepth 100000 in
theorem ok_R_drawn : VOk mR_drawn 2 := ⟨⟨(lwT_of (List.mem_of_getElem? (i := 1625) rfl) rfl), (lwT_of (List.mem_of_getElem? (i := 89) rfl) rfl), ⟨by decide, by decide, by decide +kernel⟩, by decide⟩, (lwT_of (List.mem_of_getElem? (i := 1623) rfl) rfl), (lwT_of (List.mem_of_getElem? (i := 1624) rfl) rfl)⟩
set_option maxRecDepth 100000 in
theorem ok_R_lowest : SOk mR_lowest 3 := ⟨⟨(lwT_of (List.mem_of_getElem? (i := 1637) rfl) rfl), (lwT_of (List.mem_of_getElem? (i := 89) rfl) rfl), ⟨by decide, by decide, by decide +kernel⟩, by decide⟩, (lwT_of (List.mem_of_getElem? (i := 1636) rfl) rfl)⟩
set_option maxRecDepth 100000 in
theorem ok_R_odds : VOk mR_odds 4 := ⟨⟨(lwT_of (List.mem_of_getElem? (i := 1634) rfl) rfl), (lwT_of (List.mem_of_getElem? (i := 89) rfl) rfl), ⟨by decide, by decide, by decide +kernel⟩, by decide⟩, (lwT_of (List.mem_of_getElem? (i := 1632) rfl) rfl), (lwT_of (List.mem_of_getElem? (i := 1633) rfl) rfl)⟩
set_option maxRecDepth 100000 in
theorem ok_R_image : VOk mR_image 0 := ⟨⟨(lwT_of (List.mem_of_getElem? (i := 1641) rfl) rfl), (lwT_of (List.mem_of_getElem? (i := 89) rfl) rfl), ⟨by decide, by decide, by decide +kernel⟩, by decide⟩, (lwT_of (List.mem_of_getElem? (i := 1639) rfl) rfl), (lwT_of (List.mem_of_getElem? (i := 1640) rfl) rfl)⟩
set_option maxRecDepth 100000 in
theorem ok_R_back : VOk mR_back 0 := ⟨⟨(lwT_of (List.mem_of_getElem? (i := 1645) rfl) rfl), (lwT_of (List.mem_of_getElem? (i := 89) rfl) rfl), ⟨by decide, by decide, by decide +kernel⟩, by decide⟩, (lwT_of (List.mem_of_getElem? (i := 1643) rfl) rfl), (lwT_of (List.mem_of_getElem? (i := 1644) rfl) rfl)⟩
set_option maxRecDepth 100000 in
theorem ok_R_sheet : VOk mR_sheet 3 := ⟨⟨(lwT_of (List.mem_of_getElem? (i := 1649) rfl) rfl), (lwT_of (List.mem_of_getElem? (i := 89) rfl) rfl), ⟨by decide, by decide, by decide +kernel⟩, by decide⟩, (lwT_of (List.mem_of_getElem? (i := 1647) rfl) rfl), (lwT_of (List.mem_of_getElem? (i := 1648) rfl) rfl)⟩
set_option maxRecDepth 100000 in
theorem ok_R_cell : VOk mR_cell 3 := ⟨⟨(lwT_of (List.mem_of_getElem? (i := 1653) rfl) rfl), (lwT_of (List.mem_of_getElem? (i := 89) rfl) rfl), ⟨by decide, by decide, by decide +kernel⟩, by decide⟩, (lwT_of (List.mem_of_getElem? (i := 1651) rfl) rfl), (lwT_of (List.mem_of_getElem? (i := 1652) rfl) rfl)⟩
set_option maxRecDepth 100000 in
theorem ok_R_copy : VOk mR_copy 5 := ⟨⟨(lwT_of (List.mem_of_getElem? (i := 1657) rfl) rfl), (lwT_of (List.mem_of_getElem? (i := 89) rfl) rfl), ⟨by decide, by decide, by decide +kernel⟩, by decide⟩, (lwT_of (List.mem_of_getElem? (i := 1655) rfl) rfl), (lwT_of (List.mem_of_getElem? (i := 1656) rfl) rfl)⟩
set_option maxRecDepth 100000 in
theorem ok_R_promisesBy : VOk mR_promisesBy 4 := ⟨⟨(lwT_of (List.mem_of_getElem? (i := 1661) rfl) rfl), (lwT_of (List.mem_of_getElem? (i := 89) rfl) rfl), ⟨by decide, by decide, by decide +kernel⟩, by decide⟩, (lwT_of (List.mem_of_getElem? (i := 1659) rfl) rfl), (lwT_of (List.mem_of_getElem? (i := 1660) rfl) rfl)⟩
set_option maxRecDepth 100000 in
theorem ok_R_isUnder : SOk mR_isUnder 2 := ⟨⟨(lwT_of (List.mem_of_getElem? (i := 1669) rfl) rfl), (lwT_of (List.mem_of_getElem? (i := 89) rfl) rfl), ⟨by decide, by decide, by decide +kernel⟩, by decide⟩, (lwT_of (List.mem_of_getElem? (i := 1668) rfl) rfl)⟩
set_option maxRecDepth 100000 in
theorem ok_R_taken : VOk mR_taken 2 := ⟨⟨(lwT_of (List.mem_of_getElem? (i := 1666) rfl) rfl), (lwT_of (List.mem_of_getElem? (i := 89) rfl) rfl), ⟨by decide, by decide, by decide +kernel⟩, by decide⟩, (lwT_of (List.mem_of_getElem? (i := 1664) rfl) rfl), (lwT_of (List.mem_of_getElem? (i := 1665) rfl) rfl)⟩
set_option maxRecDepth 100000 in
theorem ok_Integer_bitCount : SOk mInteger_bitCount 1 := ⟨⟨(lwT_of (List.mem_of_getElem? (i := 807) rfl) rfl), (lwT_of (List.mem_of_getElem? (i := 90) rfl) rfl), ⟨by decide, by decide, by decide +kernel⟩, by decide⟩, (lwT_of (List.mem_of_getElem? (i := 806) rfl) rfl)⟩
set_option maxRecDepth 100000 in
theorem ok_Math_abs : SOk mMath_abs 1 := ⟨⟨(lwT_of (List.mem_of_getElem? (i := 107) rfl) rfl), (lwT_of (List.mem_of_getElem? (i := 75) rfl) rfl), ⟨by decide, by decide, by decide +kernel⟩, by decide⟩, (lwT_of (List.mem_of_getElem? (i := 106) rfl) rfl)⟩
set_option maxRecDepth 100000 in
theorem ok_Math_max : SOk mMath_max 2 := ⟨⟨(lwT_of (List.mem_of_getElem? (i := 685) rfl) rfl), (lwT_of (List.mem_of_getElem? (i := 75) rfl) rfl), ⟨by decide, by decide, by decide +kernel⟩, by decide⟩, (lwT_of (List.mem_of_getElem? (i := 684) rfl) rfl)⟩
set_option maxRecDepth 100000 in
theorem ok_Math_min : SOk mMath_min 2 := ⟨⟨(lwT_of (List.mem_of_getElem? (i := 762) rfl) rfl), (lwT_of (List.mem_of_getElem? (i := 75) rfl) rfl), ⟨by decide, by decide, by decide +kernel⟩, by decide⟩, (lwT_of (List.mem_of_getElem? (i := 761) rfl) rfl)⟩
set_option maxRecDepth 100000 in
theorem ok_String_length : VOk mString_length 0 := ⟨⟨(lwT_of (List.mem_of_getElem? (i := 418) rfl) rfl), (lwT_of (List.mem_of_getElem? (i := 84) rfl) rfl), ⟨by decide, by decide, by decide +kernel⟩, by decide⟩, (lwT_of (List.mem_of_getElem? (i := 416) rfl) rfl), (lwT_of (List.mem_of_getElem? (i := 417) rfl) rfl)⟩
set_option maxRecDepth 100000 in
theorem ok_String_charAt : VOk mString_charAt 1 := ⟨⟨(lwT_of (List.mem_of_getElem? (i := 428) rfl) rfl), (lwT_of (List.mem_of_getElem? (i := 84) rfl) rfl), ⟨by decide, by decide, by decide +kernel⟩, by decide⟩, (lwT_of (List.mem_of_getElem? (i := 426) rfl) rfl), (lwT_of (List.mem_of_getElem? (i := 427) rfl) rfl)⟩
set_option maxRecDepth 100000 in
theorem ok_String_coder : VOk mString_coder 0 := ⟨⟨(lwT_of (List.mem_of_getElem? (i := 422) rfl) rfl), (lwT_of (List.mem_of_getElem? (i := 84) rfl) rfl), ⟨by decide, by decide, by decide +kernel⟩, by decide⟩, (lwT_of (List.mem_of_getElem? (i := 420) rfl) rfl), (lwT_of (List.mem_of_getElem? (i := 421) rfl) rfl)⟩
set_option maxRecDepth 100000 in
theorem ok_String_isLatin1 : VOk mString_isLatin1 0 := ⟨⟨(lwT_of (List.mem_of_getElem? (i := 432) rfl) rfl), (lwT_of (List.mem_of_getElem? (i := 84) rfl) rfl), ⟨by decide, by decide, by decide +kernel⟩, by decide⟩, (lwT_of (List.mem_of_getElem? (i := 430) rfl) rfl), (lwT_of (List.mem_of_getElem? (i := 431) rfl) rfl)⟩
set_option maxRecDepth 100000 in
theorem ok_String_checkIndex : SOk mString_checkIndex 2 := ⟨⟨(lwT_of (List.mem_of_getElem? (i := 438) rfl) rfl), (lwT_of (List.mem_of_getElem? (i := 84) rfl) rfl), ⟨by decide, by decide, by decide +kernel⟩, by decide⟩, (lwT_of (List.mem_of_getElem? (i := 437) rfl) rfl)⟩
set_option maxRecDepth 100000 in
theorem ok_StringLatin1_charAt : SOk mStringLatin1_charAt 2 := ⟨⟨(lwT_of (List.mem_of_getElem? (i := 435) rfl) rfl), (lwT_of (List.mem_of_getElem? (i := 85) rfl) rfl), ⟨by decide, by decide, by decide +kernel⟩, by decide⟩, (lwT_of (List.mem_of_getElem? (i := 434) rfl) rfl)⟩
set_option maxRecDepth 100000 in
theorem ok_StringUTF16_getChar : SOk mStringUTF16_getChar 2 := ⟨⟨(lwT_of (List.mem_of_getElem? (i := 456) rfl) rfl), (lwT_of (List.mem_of_getElem? (i := 87) rfl) rfl), ⟨by decide, by decide, by decide +kernel⟩, by decide⟩, (lwT_of (List.mem_of_getElem? (i := 455) rfl) rfl)⟩
set_option maxRecDepth 100000 in
theorem ok_StringUTF16_length : SOk mStringUTF16_length 1 := ⟨⟨(lwT_of (List.mem_of_getElem? (i := 452) rfl) rfl), (lwT_of (List.mem_of_getElem? (i := 87) rfl) rfl), ⟨by decide, by decide, by decide +kernel⟩, by decide⟩, (lwT_of (List.mem_of_getElem? (i := 451) rfl) rfl)⟩
set_option maxRecDepth 100000 in
theorem ok_StringUTF16_charAt : SOk mStringUTF16_charAt 2 := ⟨⟨(lwT_of (List.mem_of_getElem? (i := 446) rfl) rfl), (lwT_of (List.mem_of_getElem? (i := 87) rfl) rfl), ⟨by decide, by decide, by decide +kernel⟩, by decide⟩, (lwT_of (List.mem_of_getElem? (i := 445) rfl) rfl)⟩
set_option maxRecDepth 100000 in
theorem ok_StringUTF16_checkIndex : SOk mStringUTF16_checkIndex 2 := ⟨⟨(lwT_of (List.mem_of_getElem? (i := 449) rfl) rfl), (lwT_of (List.mem_of_getElem? (i := 87) rfl) rfl), ⟨by decide, by decide, by decide +kernel⟩, by decide⟩, (lwT_of (List.mem_of_getElem? (i := 448) rfl) rfl)⟩
set_option maxRecDepth 100000 in
theorem ok_Preconditions_checkIndex : SOk mPreconditions_checkIndex 3 := ⟨⟨(lwT_of (List.mem_of_getElem? (i := 443) rfl) rfl), (lwT_of (List.mem_of_getElem? (i := 86) rfl) rfl), ⟨by decide, by decide, by decide +kernel⟩, by decide⟩, (lwT_of (List.mem_of_getElem? (i := 442) rfl) rfl)⟩
set_option maxRecDepth 100000 in
theorem st_max : Cond.static Lib.Math.max.name ∈ lwT := (lwT_of (List.mem_of_getElem? (i := 684) rfl) rfl)
set_option maxRecDepth 100000 in
theorem co_max : Cond.code Lib.Math.max.name Lib.Math.max.code 2 (some .int) ∈ lwT := (lwT_of (List.mem_of_getElem? (i := 685) rfl) rfl)
set_option maxRecDepth 100000 in
theorem st_min : Cond.static Lib.Math.min.name ∈ lwT := (lwT_of (List.mem_of_getElem? (i := 761) rfl) rfl)
set_option maxRecDepth 100000 in
theorem co_min : Cond.code Lib.Math.min.name Lib.Math.min.code 2 (some .int) ∈ lwT := (lwT_of (List.mem_of_getElem? (i := 762) rfl) rfl)
set_option maxRecDepth 100000 in
theorem st_abs : Cond.static Lib.Math.abs.name ∈ lwT := (lwT_of (List.mem_of_getElem? (i := 106) rfl) rfl)
set_option maxRecDepth 100000 in
theorem co_abs : Cond.code Lib.Math.abs.name Lib.Math.abs.code 1 (some .int) ∈ lwT := (lwT_of (List.mem_of_getElem? (i := 107) rfl) rfl)
set_option maxRecDepth 100000 in
theorem im_obj : Cond.instanceMethod Lib.objectInit ∈ lwT := (lwT_of (List.mem_of_getElem? (i := 97) rfl) rfl)
set_option maxRecDepth 100000 in
theorem co_obj : Cond.code Lib.objectInit ⟨#[0xb1]⟩ 1 none ∈ lwT := (lwT_of (List.mem_of_getElem? (i := 98) rfl) rfl)
set_option maxRecDepth 100000 in
theorem na_ac : Cond.native arraycopyName ∈ lwT := (lwT_of (List.mem_of_getElem? (i := 570) rfl) rfl)
set_option maxRecDepth 100000 in
theorem st_ac : Cond.static arraycopyName ∈ lwT := (lwT_of (List.mem_of_getElem? (i := 569) rfl) rfl)
end
