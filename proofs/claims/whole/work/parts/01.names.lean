-- ===== PART A: goes FIRST, ahead of the names: the tables' words, and 'selects' of the private methods out of them =====
/-- a private method of a class that the tables say can be made, by its rows of tables_1 -/
def lw_okq (q : MethodName × Nat) : Prop := (q.1.cls ≠ "java/lang/invoke/MethodHandle" ∧ q.1.cls ≠ "java/lang/invoke/VarHandle") ∧ Cond.instantiable q.1.cls q.2 ∈ tables_1 ∧ Cond.privateMethod q.1 ∈ tables_1 ∧ Cond.instanceMethod q.1 ∈ tables_1
theorem lw_p0 : lw_okq (⟨"LaughterIsMinted$Reader", "cut", "()V"⟩, 10) := ⟨⟨by decide +kernel, by decide +kernel⟩, List.mem_of_getElem? (i := 52) (by decide +kernel), List.mem_of_getElem? (i := 279) (by decide +kernel), List.mem_of_getElem? (i := 280) (by decide +kernel)⟩
theorem lw_p1 : lw_okq (⟨"LaughterIsMinted$Reader", "endOf", "(I)I"⟩, 10) := ⟨⟨by decide +kernel, by decide +kernel⟩, List.mem_of_getElem? (i := 52) (by decide +kernel), List.mem_of_getElem? (i := 283) (by decide +kernel), List.mem_of_getElem? (i := 284) (by decide +kernel)⟩
theorem lw_p2 : lw_okq (⟨"LaughterIsMinted$Reader", "kindOf", "(II)I"⟩, 10) := ⟨⟨by decide +kernel, by decide +kernel⟩, List.mem_of_getElem? (i := 52) (by decide +kernel), List.mem_of_getElem? (i := 296) (by decide +kernel), List.mem_of_getElem? (i := 297) (by decide +kernel)⟩
theorem lw_p3 : lw_okq (⟨"LaughterIsMinted$Reader", "wordOf", "(II)I"⟩, 10) := ⟨⟨by decide +kernel, by decide +kernel⟩, List.mem_of_getElem? (i := 52) (by decide +kernel), List.mem_of_getElem? (i := 300) (by decide +kernel), List.mem_of_getElem? (i := 301) (by decide +kernel)⟩
theorem lw_p4 : lw_okq (⟨"LaughterIsMinted$Reader", "isSame", "(III)Z"⟩, 10) := ⟨⟨by decide +kernel, by decide +kernel⟩, List.mem_of_getElem? (i := 52) (by decide +kernel), List.mem_of_getElem? (i := 307) (by decide +kernel), List.mem_of_getElem? (i := 308) (by decide +kernel)⟩
theorem lw_p5 : lw_okq (⟨"LaughterIsMinted$Reader", "addToken", "(III)V"⟩, 10) := ⟨⟨by decide +kernel, by decide +kernel⟩, List.mem_of_getElem? (i := 52) (by decide +kernel), List.mem_of_getElem? (i := 371) (by decide +kernel), List.mem_of_getElem? (i := 372) (by decide +kernel)⟩
theorem lw_p6 : lw_okq (⟨"LaughterIsMinted$Reader", "take", "(I)Z"⟩, 10) := ⟨⟨by decide +kernel, by decide +kernel⟩, List.mem_of_getElem? (i := 52) (by decide +kernel), List.mem_of_getElem? (i := 375) (by decide +kernel), List.mem_of_getElem? (i := 376) (by decide +kernel)⟩
theorem lw_p7 : lw_okq (⟨"LaughterIsMinted$Reader", "isNext", "(I)Z"⟩, 10) := ⟨⟨by decide +kernel, by decide +kernel⟩, List.mem_of_getElem? (i := 52) (by decide +kernel), List.mem_of_getElem? (i := 379) (by decide +kernel), List.mem_of_getElem? (i := 380) (by decide +kernel)⟩
theorem lw_p8 : lw_okq (⟨"LaughterIsMinted$Reader", "either", "(I)Z"⟩, 10) := ⟨⟨by decide +kernel, by decide +kernel⟩, List.mem_of_getElem? (i := 52) (by decide +kernel), List.mem_of_getElem? (i := 383) (by decide +kernel), List.mem_of_getElem? (i := 384) (by decide +kernel)⟩
theorem lw_p9 : lw_okq (⟨"LaughterIsMinted$Reader", "both", "(I)Z"⟩, 10) := ⟨⟨by decide +kernel, by decide +kernel⟩, List.mem_of_getElem? (i := 52) (by decide +kernel), List.mem_of_getElem? (i := 387) (by decide +kernel), List.mem_of_getElem? (i := 388) (by decide +kernel)⟩
theorem lw_p10 : lw_okq (⟨"LaughterIsMinted$Reader", "denied", "(I)Z"⟩, 10) := ⟨⟨by decide +kernel, by decide +kernel⟩, List.mem_of_getElem? (i := 52) (by decide +kernel), List.mem_of_getElem? (i := 391) (by decide +kernel), List.mem_of_getElem? (i := 392) (by decide +kernel)⟩
theorem lw_p11 : lw_okq (⟨"LaughterIsMinted$Reader", "takeSome", "(II)I"⟩, 10) := ⟨⟨by decide +kernel, by decide +kernel⟩, List.mem_of_getElem? (i := 52) (by decide +kernel), List.mem_of_getElem? (i := 395) (by decide +kernel), List.mem_of_getElem? (i := 396) (by decide +kernel)⟩
theorem lw_p12 : lw_okq (⟨"LaughterIsMinted$Reader", "compared", "(I)Z"⟩, 10) := ⟨⟨by decide +kernel, by decide +kernel⟩, List.mem_of_getElem? (i := 52) (by decide +kernel), List.mem_of_getElem? (i := 399) (by decide +kernel), List.mem_of_getElem? (i := 400) (by decide +kernel)⟩
theorem lw_p13 : lw_okq (⟨"LaughterIsMinted$Reader", "sum", "(I)Z"⟩, 10) := ⟨⟨by decide +kernel, by decide +kernel⟩, List.mem_of_getElem? (i := 52) (by decide +kernel), List.mem_of_getElem? (i := 403) (by decide +kernel), List.mem_of_getElem? (i := 404) (by decide +kernel)⟩
theorem lw_p14 : lw_okq (⟨"LaughterIsMinted$Reader", "term", "(I)Z"⟩, 10) := ⟨⟨by decide +kernel, by decide +kernel⟩, List.mem_of_getElem? (i := 52) (by decide +kernel), List.mem_of_getElem? (i := 407) (by decide +kernel), List.mem_of_getElem? (i := 408) (by decide +kernel)⟩
theorem lw_p15 : lw_okq (⟨"LaughterIsMinted$Reader", "one", "(I)Z"⟩, 10) := ⟨⟨by decide +kernel, by decide +kernel⟩, List.mem_of_getElem? (i := 52) (by decide +kernel), List.mem_of_getElem? (i := 411) (by decide +kernel), List.mem_of_getElem? (i := 412) (by decide +kernel)⟩
def lw_privs_1 : List (MethodName × Nat) := [(⟨"LaughterIsMinted$Reader", "cut", "()V"⟩, 10), (⟨"LaughterIsMinted$Reader", "endOf", "(I)I"⟩, 10), (⟨"LaughterIsMinted$Reader", "kindOf", "(II)I"⟩, 10), (⟨"LaughterIsMinted$Reader", "wordOf", "(II)I"⟩, 10), (⟨"LaughterIsMinted$Reader", "isSame", "(III)Z"⟩, 10), (⟨"LaughterIsMinted$Reader", "addToken", "(III)V"⟩, 10), (⟨"LaughterIsMinted$Reader", "take", "(I)Z"⟩, 10), (⟨"LaughterIsMinted$Reader", "isNext", "(I)Z"⟩, 10), (⟨"LaughterIsMinted$Reader", "either", "(I)Z"⟩, 10), (⟨"LaughterIsMinted$Reader", "both", "(I)Z"⟩, 10), (⟨"LaughterIsMinted$Reader", "denied", "(I)Z"⟩, 10), (⟨"LaughterIsMinted$Reader", "takeSome", "(II)I"⟩, 10), (⟨"LaughterIsMinted$Reader", "compared", "(I)Z"⟩, 10), (⟨"LaughterIsMinted$Reader", "sum", "(I)Z"⟩, 10), (⟨"LaughterIsMinted$Reader", "term", "(I)Z"⟩, 10), (⟨"LaughterIsMinted$Reader", "one", "(I)Z"⟩, 10)]
theorem lw_r1 : ∀ q ∈ lw_privs_1, lw_okq q := List.forall_mem_cons.mpr ⟨lw_p0, List.forall_mem_cons.mpr ⟨lw_p1, List.forall_mem_cons.mpr ⟨lw_p2, List.forall_mem_cons.mpr ⟨lw_p3, List.forall_mem_cons.mpr ⟨lw_p4, List.forall_mem_cons.mpr ⟨lw_p5, List.forall_mem_cons.mpr ⟨lw_p6, List.forall_mem_cons.mpr ⟨lw_p7, List.forall_mem_cons.mpr ⟨lw_p8, List.forall_mem_cons.mpr ⟨lw_p9, List.forall_mem_cons.mpr ⟨lw_p10, List.forall_mem_cons.mpr ⟨lw_p11, List.forall_mem_cons.mpr ⟨lw_p12, List.forall_mem_cons.mpr ⟨lw_p13, List.forall_mem_cons.mpr ⟨lw_p14, List.forall_mem_cons.mpr ⟨lw_p15, fun _ h => absurd h List.not_mem_nil⟩⟩⟩⟩⟩⟩⟩⟩⟩⟩⟩⟩⟩⟩⟩⟩
theorem lw_p16 : lw_okq (⟨"LaughterIsMinted$Reader", "single", "(I)Z"⟩, 10) := ⟨⟨by decide +kernel, by decide +kernel⟩, List.mem_of_getElem? (i := 52) (by decide +kernel), List.mem_of_getElem? (i := 415) (by decide +kernel), List.mem_of_getElem? (i := 416) (by decide +kernel)⟩
theorem lw_p17 : lw_okq (⟨"LaughterIsMinted$Reader", "write", "(I)Z"⟩, 10) := ⟨⟨by decide +kernel, by decide +kernel⟩, List.mem_of_getElem? (i := 52) (by decide +kernel), List.mem_of_getElem? (i := 419) (by decide +kernel), List.mem_of_getElem? (i := 420) (by decide +kernel)⟩
theorem lw_p18 : lw_okq (⟨"LaughterIsMinted$Reader", "writeSome", "(II)Z"⟩, 10) := ⟨⟨by decide +kernel, by decide +kernel⟩, List.mem_of_getElem? (i := 52) (by decide +kernel), List.mem_of_getElem? (i := 423) (by decide +kernel), List.mem_of_getElem? (i := 424) (by decide +kernel)⟩
theorem lw_p19 : lw_okq (⟨"LaughterIsMinted", "mayBecome", "(III)Z"⟩, 9) := ⟨⟨by decide +kernel, by decide +kernel⟩, List.mem_of_getElem? (i := 19) (by decide +kernel), List.mem_of_getElem? (i := 548) (by decide +kernel), List.mem_of_getElem? (i := 549) (by decide +kernel)⟩
theorem lw_p20 : lw_okq (⟨"LaughterIsMinted", "refusedTelling", "(II)I"⟩, 9) := ⟨⟨by decide +kernel, by decide +kernel⟩, List.mem_of_getElem? (i := 19) (by decide +kernel), List.mem_of_getElem? (i := 583) (by decide +kernel), List.mem_of_getElem? (i := 584) (by decide +kernel)⟩
theorem lw_p21 : lw_okq (⟨"LaughterIsMinted$Search", "compare", "(I)V"⟩, 6) := ⟨⟨by decide +kernel, by decide +kernel⟩, List.mem_of_getElem? (i := 157) (by decide +kernel), List.mem_of_getElem? (i := 662) (by decide +kernel), List.mem_of_getElem? (i := 663) (by decide +kernel)⟩
theorem lw_p22 : lw_okq (⟨"LaughterIsMinted$Search", "refresh", "(III)V"⟩, 6) := ⟨⟨by decide +kernel, by decide +kernel⟩, List.mem_of_getElem? (i := 157) (by decide +kernel), List.mem_of_getElem? (i := 667) (by decide +kernel), List.mem_of_getElem? (i := 668) (by decide +kernel)⟩
theorem lw_p23 : lw_okq (⟨"LaughterIsMinted", "toldToEach", "(I)I"⟩, 9) := ⟨⟨by decide +kernel, by decide +kernel⟩, List.mem_of_getElem? (i := 19) (by decide +kernel), List.mem_of_getElem? (i := 693) (by decide +kernel), List.mem_of_getElem? (i := 694) (by decide +kernel)⟩
theorem lw_p24 : lw_okq (⟨"LaughterIsMinted", "worthBehindOthers", "(II)I"⟩, 9) := ⟨⟨by decide +kernel, by decide +kernel⟩, List.mem_of_getElem? (i := 19) (by decide +kernel), List.mem_of_getElem? (i := 701) (by decide +kernel), List.mem_of_getElem? (i := 702) (by decide +kernel)⟩
theorem lw_p25 : lw_okq (⟨"LaughterIsMinted$World", "toldOn", "(III)I"⟩, 14) := ⟨⟨by decide +kernel, by decide +kernel⟩, List.mem_of_getElem? (i := 92) (by decide +kernel), List.mem_of_getElem? (i := 751) (by decide +kernel), List.mem_of_getElem? (i := 752) (by decide +kernel)⟩
theorem lw_p26 : lw_okq (⟨"LaughterIsMinted$Rounds", "compare", "(JI)V"⟩, 4) := ⟨⟨by decide +kernel, by decide +kernel⟩, List.mem_of_getElem? (i := 183) (by decide +kernel), List.mem_of_getElem? (i := 796) (by decide +kernel), List.mem_of_getElem? (i := 797) (by decide +kernel)⟩
theorem lw_p27 : lw_okq (⟨"LaughterIsMinted", "refusedJudging", "(II)I"⟩, 9) := ⟨⟨by decide +kernel, by decide +kernel⟩, List.mem_of_getElem? (i := 19) (by decide +kernel), List.mem_of_getElem? (i := 805) (by decide +kernel), List.mem_of_getElem? (i := 806) (by decide +kernel)⟩
theorem lw_p28 : lw_okq (⟨"LaughterIsMinted", "refusedSheet", "(I)I"⟩, 9) := ⟨⟨by decide +kernel, by decide +kernel⟩, List.mem_of_getElem? (i := 19) (by decide +kernel), List.mem_of_getElem? (i := 809) (by decide +kernel), List.mem_of_getElem? (i := 810) (by decide +kernel)⟩
theorem lw_p29 : lw_okq (⟨"LaughterIsMinted", "otherwise", "(LLaughterIsMinted$World;II)I"⟩, 9) := ⟨⟨by decide +kernel, by decide +kernel⟩, List.mem_of_getElem? (i := 19) (by decide +kernel), List.mem_of_getElem? (i := 820) (by decide +kernel), List.mem_of_getElem? (i := 821) (by decide +kernel)⟩
theorem lw_p30 : lw_okq (⟨"LaughterIsMinted", "thoughtFits", "(II)I"⟩, 9) := ⟨⟨by decide +kernel, by decide +kernel⟩, List.mem_of_getElem? (i := 19) (by decide +kernel), List.mem_of_getElem? (i := 837) (by decide +kernel), List.mem_of_getElem? (i := 838) (by decide +kernel)⟩
theorem lw_p31 : lw_okq (⟨"LaughterIsMinted", "refusedJudgingJoke", "(III)I"⟩, 9) := ⟨⟨by decide +kernel, by decide +kernel⟩, List.mem_of_getElem? (i := 19) (by decide +kernel), List.mem_of_getElem? (i := 849) (by decide +kernel), List.mem_of_getElem? (i := 850) (by decide +kernel)⟩
def lw_privs_2 : List (MethodName × Nat) := [(⟨"LaughterIsMinted$Reader", "single", "(I)Z"⟩, 10), (⟨"LaughterIsMinted$Reader", "write", "(I)Z"⟩, 10), (⟨"LaughterIsMinted$Reader", "writeSome", "(II)Z"⟩, 10), (⟨"LaughterIsMinted", "mayBecome", "(III)Z"⟩, 9), (⟨"LaughterIsMinted", "refusedTelling", "(II)I"⟩, 9), (⟨"LaughterIsMinted$Search", "compare", "(I)V"⟩, 6), (⟨"LaughterIsMinted$Search", "refresh", "(III)V"⟩, 6), (⟨"LaughterIsMinted", "toldToEach", "(I)I"⟩, 9), (⟨"LaughterIsMinted", "worthBehindOthers", "(II)I"⟩, 9), (⟨"LaughterIsMinted$World", "toldOn", "(III)I"⟩, 14), (⟨"LaughterIsMinted$Rounds", "compare", "(JI)V"⟩, 4), (⟨"LaughterIsMinted", "refusedJudging", "(II)I"⟩, 9), (⟨"LaughterIsMinted", "refusedSheet", "(I)I"⟩, 9), (⟨"LaughterIsMinted", "otherwise", "(LLaughterIsMinted$World;II)I"⟩, 9), (⟨"LaughterIsMinted", "thoughtFits", "(II)I"⟩, 9), (⟨"LaughterIsMinted", "refusedJudgingJoke", "(III)I"⟩, 9)]
theorem lw_r2 : ∀ q ∈ lw_privs_2, lw_okq q := List.forall_mem_cons.mpr ⟨lw_p16, List.forall_mem_cons.mpr ⟨lw_p17, List.forall_mem_cons.mpr ⟨lw_p18, List.forall_mem_cons.mpr ⟨lw_p19, List.forall_mem_cons.mpr ⟨lw_p20, List.forall_mem_cons.mpr ⟨lw_p21, List.forall_mem_cons.mpr ⟨lw_p22, List.forall_mem_cons.mpr ⟨lw_p23, List.forall_mem_cons.mpr ⟨lw_p24, List.forall_mem_cons.mpr ⟨lw_p25, List.forall_mem_cons.mpr ⟨lw_p26, List.forall_mem_cons.mpr ⟨lw_p27, List.forall_mem_cons.mpr ⟨lw_p28, List.forall_mem_cons.mpr ⟨lw_p29, List.forall_mem_cons.mpr ⟨lw_p30, List.forall_mem_cons.mpr ⟨lw_p31, fun _ h => absurd h List.not_mem_nil⟩⟩⟩⟩⟩⟩⟩⟩⟩⟩⟩⟩⟩⟩⟩⟩
theorem lw_p32 : lw_okq (⟨"LaughterIsMinted", "drawnSum", "(II)I"⟩, 9) := ⟨⟨by decide +kernel, by decide +kernel⟩, List.mem_of_getElem? (i := 19) (by decide +kernel), List.mem_of_getElem? (i := 889) (by decide +kernel), List.mem_of_getElem? (i := 890) (by decide +kernel)⟩
theorem lw_p33 : lw_okq (⟨"LaughterIsMinted", "takenJoke", "(II)I"⟩, 9) := ⟨⟨by decide +kernel, by decide +kernel⟩, List.mem_of_getElem? (i := 19) (by decide +kernel), List.mem_of_getElem? (i := 940) (by decide +kernel), List.mem_of_getElem? (i := 941) (by decide +kernel)⟩
theorem lw_p34 : lw_okq (⟨"LaughterIsMinted", "takenHearer", "(II)I"⟩, 9) := ⟨⟨by decide +kernel, by decide +kernel⟩, List.mem_of_getElem? (i := 19) (by decide +kernel), List.mem_of_getElem? (i := 947) (by decide +kernel), List.mem_of_getElem? (i := 948) (by decide +kernel)⟩
theorem lw_p35 : lw_okq (⟨"LaughterIsMintedModel", "next", "()V"⟩, 41) := ⟨⟨by decide +kernel, by decide +kernel⟩, List.mem_of_getElem? (i := 951) (by decide +kernel), List.mem_of_getElem? (i := 961) (by decide +kernel), List.mem_of_getElem? (i := 962) (by decide +kernel)⟩
theorem lw_p36 : lw_okq (⟨"LaughterIsMintedModel", "wordFrom", "(II)I"⟩, 41) := ⟨⟨by decide +kernel, by decide +kernel⟩, List.mem_of_getElem? (i := 951) (by decide +kernel), List.mem_of_getElem? (i := 968) (by decide +kernel), List.mem_of_getElem? (i := 969) (by decide +kernel)⟩
theorem lw_p37 : lw_okq (⟨"LaughterIsMintedModel", "eRead", "()Z"⟩, 41) := ⟨⟨by decide +kernel, by decide +kernel⟩, List.mem_of_getElem? (i := 951) (by decide +kernel), List.mem_of_getElem? (i := 972) (by decide +kernel), List.mem_of_getElem? (i := 973) (by decide +kernel)⟩
theorem lw_p38 : lw_okq (⟨"LaughterIsMintedModel", "puts", "(I)V"⟩, 41) := ⟨⟨by decide +kernel, by decide +kernel⟩, List.mem_of_getElem? (i := 951) (by decide +kernel), List.mem_of_getElem? (i := 977) (by decide +kernel), List.mem_of_getElem? (i := 978) (by decide +kernel)⟩
theorem lw_p39 : lw_okq (⟨"LaughterIsMintedModel", "unwinds", "(I)V"⟩, 41) := ⟨⟨by decide +kernel, by decide +kernel⟩, List.mem_of_getElem? (i := 951) (by decide +kernel), List.mem_of_getElem? (i := 981) (by decide +kernel), List.mem_of_getElem? (i := 982) (by decide +kernel)⟩
theorem lw_p40 : lw_okq (⟨"LaughterIsMintedModel", "opensOne", "(I)Z"⟩, 41) := ⟨⟨by decide +kernel, by decide +kernel⟩, List.mem_of_getElem? (i := 951) (by decide +kernel), List.mem_of_getElem? (i := 988) (by decide +kernel), List.mem_of_getElem? (i := 989) (by decide +kernel)⟩
theorem lw_p41 : lw_okq (⟨"LaughterIsMintedModel", "holds", "(I)V"⟩, 41) := ⟨⟨by decide +kernel, by decide +kernel⟩, List.mem_of_getElem? (i := 951) (by decide +kernel), List.mem_of_getElem? (i := 992) (by decide +kernel), List.mem_of_getElem? (i := 993) (by decide +kernel)⟩
theorem lw_p42 : lw_okq (⟨"LaughterIsMintedModel", "signOf", "()I"⟩, 41) := ⟨⟨by decide +kernel, by decide +kernel⟩, List.mem_of_getElem? (i := 951) (by decide +kernel), List.mem_of_getElem? (i := 996) (by decide +kernel), List.mem_of_getElem? (i := 997) (by decide +kernel)⟩
theorem lw_p43 : lw_okq (⟨"LaughterIsMintedModel", "between", "(I)Z"⟩, 41) := ⟨⟨by decide +kernel, by decide +kernel⟩, List.mem_of_getElem? (i := 951) (by decide +kernel), List.mem_of_getElem? (i := 1000) (by decide +kernel), List.mem_of_getElem? (i := 1001) (by decide +kernel)⟩
theorem lw_p44 : lw_okq (⟨"LaughterIsMintedModel", "isHearer", "(I)Z"⟩, 41) := ⟨⟨by decide +kernel, by decide +kernel⟩, List.mem_of_getElem? (i := 951) (by decide +kernel), List.mem_of_getElem? (i := 1148) (by decide +kernel), List.mem_of_getElem? (i := 1149) (by decide +kernel)⟩
theorem lw_p45 : lw_okq (⟨"LaughterIsMintedModel", "asksOf", "(IIII)I"⟩, 41) := ⟨⟨by decide +kernel, by decide +kernel⟩, List.mem_of_getElem? (i := 951) (by decide +kernel), List.mem_of_getElem? (i := 1152) (by decide +kernel), List.mem_of_getElem? (i := 1153) (by decide +kernel)⟩
theorem lw_p46 : lw_okq (⟨"LaughterIsMintedModel", "says", "(I)I"⟩, 41) := ⟨⟨by decide +kernel, by decide +kernel⟩, List.mem_of_getElem? (i := 951) (by decide +kernel), List.mem_of_getElem? (i := 1156) (by decide +kernel), List.mem_of_getElem? (i := 1157) (by decide +kernel)⟩
theorem lw_p47 : lw_okq (⟨"LaughterIsMintedModel", "isJoke", "(I)Z"⟩, 41) := ⟨⟨by decide +kernel, by decide +kernel⟩, List.mem_of_getElem? (i := 951) (by decide +kernel), List.mem_of_getElem? (i := 1174) (by decide +kernel), List.mem_of_getElem? (i := 1175) (by decide +kernel)⟩
def lw_privs_3 : List (MethodName × Nat) := [(⟨"LaughterIsMinted", "drawnSum", "(II)I"⟩, 9), (⟨"LaughterIsMinted", "takenJoke", "(II)I"⟩, 9), (⟨"LaughterIsMinted", "takenHearer", "(II)I"⟩, 9), (⟨"LaughterIsMintedModel", "next", "()V"⟩, 41), (⟨"LaughterIsMintedModel", "wordFrom", "(II)I"⟩, 41), (⟨"LaughterIsMintedModel", "eRead", "()Z"⟩, 41), (⟨"LaughterIsMintedModel", "puts", "(I)V"⟩, 41), (⟨"LaughterIsMintedModel", "unwinds", "(I)V"⟩, 41), (⟨"LaughterIsMintedModel", "opensOne", "(I)Z"⟩, 41), (⟨"LaughterIsMintedModel", "holds", "(I)V"⟩, 41), (⟨"LaughterIsMintedModel", "signOf", "()I"⟩, 41), (⟨"LaughterIsMintedModel", "between", "(I)Z"⟩, 41), (⟨"LaughterIsMintedModel", "isHearer", "(I)Z"⟩, 41), (⟨"LaughterIsMintedModel", "asksOf", "(IIII)I"⟩, 41), (⟨"LaughterIsMintedModel", "says", "(I)I"⟩, 41), (⟨"LaughterIsMintedModel", "isJoke", "(I)Z"⟩, 41)]
theorem lw_r3 : ∀ q ∈ lw_privs_3, lw_okq q := List.forall_mem_cons.mpr ⟨lw_p32, List.forall_mem_cons.mpr ⟨lw_p33, List.forall_mem_cons.mpr ⟨lw_p34, List.forall_mem_cons.mpr ⟨lw_p35, List.forall_mem_cons.mpr ⟨lw_p36, List.forall_mem_cons.mpr ⟨lw_p37, List.forall_mem_cons.mpr ⟨lw_p38, List.forall_mem_cons.mpr ⟨lw_p39, List.forall_mem_cons.mpr ⟨lw_p40, List.forall_mem_cons.mpr ⟨lw_p41, List.forall_mem_cons.mpr ⟨lw_p42, List.forall_mem_cons.mpr ⟨lw_p43, List.forall_mem_cons.mpr ⟨lw_p44, List.forall_mem_cons.mpr ⟨lw_p45, List.forall_mem_cons.mpr ⟨lw_p46, List.forall_mem_cons.mpr ⟨lw_p47, fun _ h => absurd h List.not_mem_nil⟩⟩⟩⟩⟩⟩⟩⟩⟩⟩⟩⟩⟩⟩⟩⟩
theorem lw_p48 : lw_okq (⟨"LaughterIsMintedModel", "onOf", "(I)I"⟩, 41) := ⟨⟨by decide +kernel, by decide +kernel⟩, List.mem_of_getElem? (i := 951) (by decide +kernel), List.mem_of_getElem? (i := 1178) (by decide +kernel), List.mem_of_getElem? (i := 1179) (by decide +kernel)⟩
theorem lw_p49 : lw_okq (⟨"LaughterIsMintedModel", "isSo", "(III)Z"⟩, 41) := ⟨⟨by decide +kernel, by decide +kernel⟩, List.mem_of_getElem? (i := 951) (by decide +kernel), List.mem_of_getElem? (i := 1190) (by decide +kernel), List.mem_of_getElem? (i := 1191) (by decide +kernel)⟩
theorem lw_p50 : lw_okq (⟨"LaughterIsMintedModel", "areSome", "(I)Z"⟩, 41) := ⟨⟨by decide +kernel, by decide +kernel⟩, List.mem_of_getElem? (i := 951) (by decide +kernel), List.mem_of_getElem? (i := 1194) (by decide +kernel), List.mem_of_getElem? (i := 1195) (by decide +kernel)⟩
theorem lw_p51 : lw_okq (⟨"LaughterIsMintedModel", "everybody", "()I"⟩, 41) := ⟨⟨by decide +kernel, by decide +kernel⟩, List.mem_of_getElem? (i := 951) (by decide +kernel), List.mem_of_getElem? (i := 1198) (by decide +kernel), List.mem_of_getElem? (i := 1199) (by decide +kernel)⟩
theorem lw_p52 : lw_okq (⟨"LaughterIsMintedModel", "yieldsOf", "(II)I"⟩, 41) := ⟨⟨by decide +kernel, by decide +kernel⟩, List.mem_of_getElem? (i := 951) (by decide +kernel), List.mem_of_getElem? (i := 1210) (by decide +kernel), List.mem_of_getElem? (i := 1211) (by decide +kernel)⟩
theorem lw_p53 : lw_okq (⟨"LaughterIsMintedModel", "tells", "(II)I"⟩, 41) := ⟨⟨by decide +kernel, by decide +kernel⟩, List.mem_of_getElem? (i := 951) (by decide +kernel), List.mem_of_getElem? (i := 1221) (by decide +kernel), List.mem_of_getElem? (i := 1222) (by decide +kernel)⟩
theorem lw_p54 : lw_okq (⟨"LaughterIsMintedModel", "wearsOf", "(I)I"⟩, 41) := ⟨⟨by decide +kernel, by decide +kernel⟩, List.mem_of_getElem? (i := 951) (by decide +kernel), List.mem_of_getElem? (i := 1225) (by decide +kernel), List.mem_of_getElem? (i := 1226) (by decide +kernel)⟩
theorem lw_p55 : lw_okq (⟨"LaughterIsMintedModel", "fadesOf", "(I)I"⟩, 41) := ⟨⟨by decide +kernel, by decide +kernel⟩, List.mem_of_getElem? (i := 951) (by decide +kernel), List.mem_of_getElem? (i := 1237) (by decide +kernel), List.mem_of_getElem? (i := 1238) (by decide +kernel)⟩
theorem lw_p56 : lw_okq (⟨"LaughterIsMintedModel", "allMany", "()I"⟩, 41) := ⟨⟨by decide +kernel, by decide +kernel⟩, List.mem_of_getElem? (i := 951) (by decide +kernel), List.mem_of_getElem? (i := 1249) (by decide +kernel), List.mem_of_getElem? (i := 1250) (by decide +kernel)⟩
theorem lw_p57 : lw_okq (⟨"LaughterIsMintedModel", "powerOf", "(I)I"⟩, 41) := ⟨⟨by decide +kernel, by decide +kernel⟩, List.mem_of_getElem? (i := 951) (by decide +kernel), List.mem_of_getElem? (i := 1253) (by decide +kernel), List.mem_of_getElem? (i := 1254) (by decide +kernel)⟩
theorem lw_p58 : lw_okq (⟨"LaughterIsMintedModel", "rowOf", "(II)I"⟩, 41) := ⟨⟨by decide +kernel, by decide +kernel⟩, List.mem_of_getElem? (i := 951) (by decide +kernel), List.mem_of_getElem? (i := 1257) (by decide +kernel), List.mem_of_getElem? (i := 1258) (by decide +kernel)⟩
theorem lw_p59 : lw_okq (⟨"LaughterIsMintedModel", "byNumber", "(I)I"⟩, 41) := ⟨⟨by decide +kernel, by decide +kernel⟩, List.mem_of_getElem? (i := 951) (by decide +kernel), List.mem_of_getElem? (i := 1261) (by decide +kernel), List.mem_of_getElem? (i := 1262) (by decide +kernel)⟩
theorem lw_p60 : lw_okq (⟨"LaughterIsMintedModel", "takesBack", "()V"⟩, 41) := ⟨⟨by decide +kernel, by decide +kernel⟩, List.mem_of_getElem? (i := 951) (by decide +kernel), List.mem_of_getElem? (i := 1265) (by decide +kernel), List.mem_of_getElem? (i := 1266) (by decide +kernel)⟩
theorem lw_p61 : lw_okq (⟨"LaughterIsMintedModel", "mostNow", "()I"⟩, 41) := ⟨⟨by decide +kernel, by decide +kernel⟩, List.mem_of_getElem? (i := 951) (by decide +kernel), List.mem_of_getElem? (i := 1273) (by decide +kernel), List.mem_of_getElem? (i := 1274) (by decide +kernel)⟩
theorem lw_p62 : lw_okq (⟨"LaughterIsMintedModel", "roundOf", "(I)I"⟩, 41) := ⟨⟨by decide +kernel, by decide +kernel⟩, List.mem_of_getElem? (i := 951) (by decide +kernel), List.mem_of_getElem? (i := 1285) (by decide +kernel), List.mem_of_getElem? (i := 1286) (by decide +kernel)⟩
theorem lw_p63 : lw_okq (⟨"LaughterIsMintedModel", "losesOf", "(II)I"⟩, 41) := ⟨⟨by decide +kernel, by decide +kernel⟩, List.mem_of_getElem? (i := 951) (by decide +kernel), List.mem_of_getElem? (i := 1293) (by decide +kernel), List.mem_of_getElem? (i := 1294) (by decide +kernel)⟩
def lw_privs_4 : List (MethodName × Nat) := [(⟨"LaughterIsMintedModel", "onOf", "(I)I"⟩, 41), (⟨"LaughterIsMintedModel", "isSo", "(III)Z"⟩, 41), (⟨"LaughterIsMintedModel", "areSome", "(I)Z"⟩, 41), (⟨"LaughterIsMintedModel", "everybody", "()I"⟩, 41), (⟨"LaughterIsMintedModel", "yieldsOf", "(II)I"⟩, 41), (⟨"LaughterIsMintedModel", "tells", "(II)I"⟩, 41), (⟨"LaughterIsMintedModel", "wearsOf", "(I)I"⟩, 41), (⟨"LaughterIsMintedModel", "fadesOf", "(I)I"⟩, 41), (⟨"LaughterIsMintedModel", "allMany", "()I"⟩, 41), (⟨"LaughterIsMintedModel", "powerOf", "(I)I"⟩, 41), (⟨"LaughterIsMintedModel", "rowOf", "(II)I"⟩, 41), (⟨"LaughterIsMintedModel", "byNumber", "(I)I"⟩, 41), (⟨"LaughterIsMintedModel", "takesBack", "()V"⟩, 41), (⟨"LaughterIsMintedModel", "mostNow", "()I"⟩, 41), (⟨"LaughterIsMintedModel", "roundOf", "(I)I"⟩, 41), (⟨"LaughterIsMintedModel", "losesOf", "(II)I"⟩, 41)]
theorem lw_r4 : ∀ q ∈ lw_privs_4, lw_okq q := List.forall_mem_cons.mpr ⟨lw_p48, List.forall_mem_cons.mpr ⟨lw_p49, List.forall_mem_cons.mpr ⟨lw_p50, List.forall_mem_cons.mpr ⟨lw_p51, List.forall_mem_cons.mpr ⟨lw_p52, List.forall_mem_cons.mpr ⟨lw_p53, List.forall_mem_cons.mpr ⟨lw_p54, List.forall_mem_cons.mpr ⟨lw_p55, List.forall_mem_cons.mpr ⟨lw_p56, List.forall_mem_cons.mpr ⟨lw_p57, List.forall_mem_cons.mpr ⟨lw_p58, List.forall_mem_cons.mpr ⟨lw_p59, List.forall_mem_cons.mpr ⟨lw_p60, List.forall_mem_cons.mpr ⟨lw_p61, List.forall_mem_cons.mpr ⟨lw_p62, List.forall_mem_cons.mpr ⟨lw_p63, fun _ h => absurd h List.not_mem_nil⟩⟩⟩⟩⟩⟩⟩⟩⟩⟩⟩⟩⟩⟩⟩⟩
theorem lw_p64 : lw_okq (⟨"LaughterIsMintedModel", "catches", "(II)I"⟩, 41) := ⟨⟨by decide +kernel, by decide +kernel⟩, List.mem_of_getElem? (i := 951) (by decide +kernel), List.mem_of_getElem? (i := 1301) (by decide +kernel), List.mem_of_getElem? (i := 1302) (by decide +kernel)⟩
theorem lw_p65 : lw_okq (⟨"LaughterIsMintedModel", "atLast", "(II)I"⟩, 41) := ⟨⟨by decide +kernel, by decide +kernel⟩, List.mem_of_getElem? (i := 951) (by decide +kernel), List.mem_of_getElem? (i := 1312) (by decide +kernel), List.mem_of_getElem? (i := 1313) (by decide +kernel)⟩
theorem lw_p66 : lw_okq (⟨"LaughterIsMintedModel", "goesOn", "(III)I"⟩, 41) := ⟨⟨by decide +kernel, by decide +kernel⟩, List.mem_of_getElem? (i := 951) (by decide +kernel), List.mem_of_getElem? (i := 1328) (by decide +kernel), List.mem_of_getElem? (i := 1329) (by decide +kernel)⟩
theorem lw_p67 : lw_okq (⟨"LaughterIsMintedModel", "changes", "(IIJ)J"⟩, 41) := ⟨⟨by decide +kernel, by decide +kernel⟩, List.mem_of_getElem? (i := 951) (by decide +kernel), List.mem_of_getElem? (i := 1355) (by decide +kernel), List.mem_of_getElem? (i := 1356) (by decide +kernel)⟩
theorem lw_p68 : lw_okq (⟨"LaughterIsMintedModel", "seconds", "(IIJI)V"⟩, 41) := ⟨⟨by decide +kernel, by decide +kernel⟩, List.mem_of_getElem? (i := 951) (by decide +kernel), List.mem_of_getElem? (i := 1365) (by decide +kernel), List.mem_of_getElem? (i := 1366) (by decide +kernel)⟩
theorem lw_p69 : lw_okq (⟨"LaughterIsMintedModel", "closes", "(IIJI)V"⟩, 41) := ⟨⟨by decide +kernel, by decide +kernel⟩, List.mem_of_getElem? (i := 951) (by decide +kernel), List.mem_of_getElem? (i := 1369) (by decide +kernel), List.mem_of_getElem? (i := 1370) (by decide +kernel)⟩
theorem lw_p70 : lw_okq (⟨"LaughterIsMintedModel", "thirds", "(IIIJI)V"⟩, 41) := ⟨⟨by decide +kernel, by decide +kernel⟩, List.mem_of_getElem? (i := 951) (by decide +kernel), List.mem_of_getElem? (i := 1373) (by decide +kernel), List.mem_of_getElem? (i := 1374) (by decide +kernel)⟩
theorem lw_p71 : lw_okq (⟨"LaughterIsMintedModel", "toldWrong", "(II)I"⟩, 41) := ⟨⟨by decide +kernel, by decide +kernel⟩, List.mem_of_getElem? (i := 951) (by decide +kernel), List.mem_of_getElem? (i := 1381) (by decide +kernel), List.mem_of_getElem? (i := 1382) (by decide +kernel)⟩
theorem lw_p72 : lw_okq (⟨"LaughterIsMintedModel", "sheetWrong", "(I)I"⟩, 41) := ⟨⟨by decide +kernel, by decide +kernel⟩, List.mem_of_getElem? (i := 951) (by decide +kernel), List.mem_of_getElem? (i := 1385) (by decide +kernel), List.mem_of_getElem? (i := 1386) (by decide +kernel)⟩
theorem lw_p73 : lw_okq (⟨"LaughterIsMintedModel", "unlike", "(II)I"⟩, 41) := ⟨⟨by decide +kernel, by decide +kernel⟩, List.mem_of_getElem? (i := 951) (by decide +kernel), List.mem_of_getElem? (i := 1389) (by decide +kernel), List.mem_of_getElem? (i := 1390) (by decide +kernel)⟩
theorem lw_p74 : lw_okq (⟨"LaughterIsMintedModel", "drawnBy", "(II)I"⟩, 41) := ⟨⟨by decide +kernel, by decide +kernel⟩, List.mem_of_getElem? (i := 951) (by decide +kernel), List.mem_of_getElem? (i := 1430) (by decide +kernel), List.mem_of_getElem? (i := 1431) (by decide +kernel)⟩
def lw_privs_5 : List (MethodName × Nat) := [(⟨"LaughterIsMintedModel", "catches", "(II)I"⟩, 41), (⟨"LaughterIsMintedModel", "atLast", "(II)I"⟩, 41), (⟨"LaughterIsMintedModel", "goesOn", "(III)I"⟩, 41), (⟨"LaughterIsMintedModel", "changes", "(IIJ)J"⟩, 41), (⟨"LaughterIsMintedModel", "seconds", "(IIJI)V"⟩, 41), (⟨"LaughterIsMintedModel", "closes", "(IIJI)V"⟩, 41), (⟨"LaughterIsMintedModel", "thirds", "(IIIJI)V"⟩, 41), (⟨"LaughterIsMintedModel", "toldWrong", "(II)I"⟩, 41), (⟨"LaughterIsMintedModel", "sheetWrong", "(I)I"⟩, 41), (⟨"LaughterIsMintedModel", "unlike", "(II)I"⟩, 41), (⟨"LaughterIsMintedModel", "drawnBy", "(II)I"⟩, 41)]
theorem lw_r5 : ∀ q ∈ lw_privs_5, lw_okq q := List.forall_mem_cons.mpr ⟨lw_p64, List.forall_mem_cons.mpr ⟨lw_p65, List.forall_mem_cons.mpr ⟨lw_p66, List.forall_mem_cons.mpr ⟨lw_p67, List.forall_mem_cons.mpr ⟨lw_p68, List.forall_mem_cons.mpr ⟨lw_p69, List.forall_mem_cons.mpr ⟨lw_p70, List.forall_mem_cons.mpr ⟨lw_p71, List.forall_mem_cons.mpr ⟨lw_p72, List.forall_mem_cons.mpr ⟨lw_p73, List.forall_mem_cons.mpr ⟨lw_p74, fun _ h => absurd h List.not_mem_nil⟩⟩⟩⟩⟩⟩⟩⟩⟩⟩⟩
def lw_privs : List (MethodName × Nat) := lw_privs_1 ++ (lw_privs_2 ++ (lw_privs_3 ++ (lw_privs_4 ++ (lw_privs_5))))
def lw_tbl : List Cond := k2_sels lw_privs ++ tables_1
theorem lw_privs_ok : ∀ q ∈ lw_privs, lw_okq q := by
  show ∀ q ∈ lw_privs_1 ++ (lw_privs_2 ++ (lw_privs_3 ++ (lw_privs_4 ++ (lw_privs_5)))), lw_okq q
  exact List.forall_mem_append.mpr ⟨lw_r1, List.forall_mem_append.mpr ⟨lw_r2, List.forall_mem_append.mpr ⟨lw_r3, List.forall_mem_append.mpr ⟨lw_r4, lw_r5⟩⟩⟩⟩
def RX0 : String := "LaughterIsMinted$Kinds"
def TX0 : u_T := fun k => match k with
  | _ => ("", "", "", false)
def tyX0 : Nat → FieldType := fun k => match k with
  | _ => .int
abbrev wsX00 : List Cond := u_ws RX0 TX0 0
theorem nmX0 : ∀ a, a < 0 → ∀ b, b < 0 → a ≠ b → (TX0 a).2.1 ≠ (TX0 b).2.1 := by decide +kernel
theorem tyX0_ok : ∀ k, k < 0 → parseFieldDescriptor (TX0 k).2.2.1 = some (tyX0 k) := by decide +kernel
abbrev cX0_worth : ByteArray := prog_2_method_2_code
def yX0_worth : MethodName := ⟨RX0, "worth", "(IIIZI)I"⟩
abbrev cX0_plain : ByteArray := prog_2_method_3_code
def yX0_plain : MethodName := ⟨RX0, "plain", "(IIZ)I"⟩
abbrev cX0_pun : ByteArray := prog_2_method_4_code
def yX0_pun : MethodName := ⟨RX0, "pun", "(IIZI)I"⟩
abbrev cX0_yarn : ByteArray := prog_2_method_5_code
def yX0_yarn : MethodName := ⟨RX0, "yarn", "(IIZI)I"⟩
abbrev cX0_wornMore : ByteArray := prog_2_method_6_code
def yX0_wornMore : MethodName := ⟨RX0, "wornMore", "(I)I"⟩
abbrev cX0_tellsOn : ByteArray := prog_2_method_7_code
def yX0_tellsOn : MethodName := ⟨RX0, "tellsOn", "(II)I"⟩
abbrev cX0_isOne : ByteArray := prog_2_method_8_code
def yX0_isOne : MethodName := ⟨RX0, "isOne", "(II)Z"⟩
def RX1 : String := "LaughterIsMinted$LawBook"
def TX1 : u_T := fun k => match k with
  | 0 => ("LaughterIsMinted$LawBook", "size", "I", false)
  | 1 => ("LaughterIsMinted$LawBook", "steps", "[I", true)
  | 2 => ("LaughterIsMinted$LawBook", "ends", "[I", true)
  | 3 => ("LaughterIsMinted$LawBook", "names", "[I", true)
  | _ => ("LaughterIsMinted$LawBook", "stack", "[I", true)
def tyX1 : Nat → FieldType := fun k => match k with
  | 0 => .int
  | 1 => .array .int
  | 2 => .array .int
  | 3 => .array .int
  | _ => .array .int
abbrev wsX10 : List Cond := u_ws RX1 TX1 5
theorem nmX1 : ∀ a, a < 5 → ∀ b, b < 5 → a ≠ b → (TX1 a).2.1 ≠ (TX1 b).2.1 := by decide +kernel
theorem tyX1_ok : ∀ k, k < 5 → parseFieldDescriptor (TX1 k).2.2.1 = some (tyX1 k) := by decide +kernel
abbrev cX1_init : ByteArray := prog_3_method_1_code
def yX1_init : MethodName := ⟨RX1, "<init>", "()V"⟩
abbrev cX1_keep : ByteArray := prog_3_method_2_code
def yX1_keep : MethodName := ⟨RX1, "keep", "([I[I)I"⟩
abbrev cX1_answer : ByteArray := prog_3_method_3_code
def yX1_answer : MethodName := ⟨RX1, "answer", "(II)I"⟩
abbrev cX1_joined : ByteArray := prog_3_method_4_code
def yX1_joined : MethodName := ⟨RX1, "joined", "(III)I"⟩
def RX2 : String := "LaughterIsMinted$Reader"
def TX2 : u_T := fun k => match k with
  | 0 => ("LaughterIsMinted$Reader", "size", "I", false)
  | 1 => ("LaughterIsMinted$Reader", "tape", "[I", true)
  | 2 => ("LaughterIsMinted$Reader", "tokens", "I", false)
  | 3 => ("LaughterIsMinted$Reader", "kinds", "[I", true)
  | 4 => ("LaughterIsMinted$Reader", "places", "[I", true)
  | 5 => ("LaughterIsMinted$Reader", "numbers", "[I", true)
  | 6 => ("LaughterIsMinted$Reader", "at", "I", false)
  | 7 => ("LaughterIsMinted$Reader", "codeSize", "I", false)
  | 8 => ("LaughterIsMinted$Reader", "code", "[I", true)
  | _ => ("LaughterIsMinted$Reader", "ends", "[I", true)
def tyX2 : Nat → FieldType := fun k => match k with
  | 0 => .int
  | 1 => .array .int
  | 2 => .int
  | 3 => .array .int
  | 4 => .array .int
  | 5 => .array .int
  | 6 => .int
  | 7 => .int
  | 8 => .array .int
  | _ => .array .int
abbrev wsX20 : List Cond := u_ws RX2 TX2 10
theorem nmX2 : ∀ a, a < 10 → ∀ b, b < 10 → a ≠ b → (TX2 a).2.1 ≠ (TX2 b).2.1 := by decide +kernel
theorem tyX2_ok : ∀ k, k < 10 → parseFieldDescriptor (TX2 k).2.2.1 = some (tyX2 k) := by decide +kernel
abbrev cX2_init : ByteArray := prog_4_method_1_code
def yX2_init : MethodName := ⟨RX2, "<init>", "()V"⟩
abbrev cX2_put : ByteArray := prog_4_method_2_code
def yX2_put : MethodName := ⟨RX2, "put", "(I)V"⟩
abbrev cX2_empty : ByteArray := prog_4_method_3_code
def yX2_empty : MethodName := ⟨RX2, "empty", "()V"⟩
abbrev cX2_place : ByteArray := prog_4_method_4_code
def yX2_place : MethodName := ⟨RX2, "place", "()I"⟩
abbrev cX2_read : ByteArray := prog_4_method_5_code
def yX2_read : MethodName := ⟨RX2, "read", "()Z"⟩
abbrev cX2_cut : ByteArray := prog_4_method_6_code
def yX2_cut : MethodName := ⟨RX2, "cut", "()V"⟩
abbrev cX2_addToken : ByteArray := prog_4_method_7_code
def yX2_addToken : MethodName := ⟨RX2, "addToken", "(III)V"⟩
abbrev cX2_endOf : ByteArray := prog_4_method_8_code
def yX2_endOf : MethodName := ⟨RX2, "endOf", "(I)I"⟩
abbrev cX2_kindOf : ByteArray := prog_4_method_9_code
def yX2_kindOf : MethodName := ⟨RX2, "kindOf", "(II)I"⟩
abbrev cX2_wordOf : ByteArray := prog_4_method_10_code
def yX2_wordOf : MethodName := ⟨RX2, "wordOf", "(II)I"⟩
abbrev cX2_isSame : ByteArray := prog_4_method_11_code
def yX2_isSame : MethodName := ⟨RX2, "isSame", "(III)Z"⟩
abbrev cX2_isLetter : ByteArray := prog_4_method_12_code
def yX2_isLetter : MethodName := ⟨RX2, "isLetter", "(I)Z"⟩
abbrev cX2_isDigit : ByteArray := prog_4_method_13_code
def yX2_isDigit : MethodName := ⟨RX2, "isDigit", "(I)Z"⟩
abbrev cX2_isNext : ByteArray := prog_4_method_14_code
def yX2_isNext : MethodName := ⟨RX2, "isNext", "(I)Z"⟩
abbrev cX2_take : ByteArray := prog_4_method_15_code
def yX2_take : MethodName := ⟨RX2, "take", "(I)Z"⟩
abbrev cX2_takeSome : ByteArray := prog_4_method_16_code
def yX2_takeSome : MethodName := ⟨RX2, "takeSome", "(II)I"⟩
abbrev cX2_write : ByteArray := prog_4_method_17_code
def yX2_write : MethodName := ⟨RX2, "write", "(I)Z"⟩
abbrev cX2_writeSome : ByteArray := prog_4_method_18_code
def yX2_writeSome : MethodName := ⟨RX2, "writeSome", "(II)Z"⟩
abbrev cX2_either : ByteArray := prog_4_method_19_code
def yX2_either : MethodName := ⟨RX2, "either", "(I)Z"⟩
abbrev cX2_both : ByteArray := prog_4_method_20_code
def yX2_both : MethodName := ⟨RX2, "both", "(I)Z"⟩
abbrev cX2_denied : ByteArray := prog_4_method_21_code
def yX2_denied : MethodName := ⟨RX2, "denied", "(I)Z"⟩
abbrev cX2_compared : ByteArray := prog_4_method_22_code
def yX2_compared : MethodName := ⟨RX2, "compared", "(I)Z"⟩
abbrev cX2_sum : ByteArray := prog_4_method_23_code
def yX2_sum : MethodName := ⟨RX2, "sum", "(I)Z"⟩
abbrev cX2_term : ByteArray := prog_4_method_24_code
def yX2_term : MethodName := ⟨RX2, "term", "(I)Z"⟩
abbrev cX2_one : ByteArray := prog_4_method_25_code
def yX2_one : MethodName := ⟨RX2, "one", "(I)Z"⟩
abbrev cX2_single : ByteArray := prog_4_method_26_code
def yX2_single : MethodName := ⟨RX2, "single", "(I)Z"⟩
def RX3 : String := "LaughterIsMinted$Rounds"
def TX3 : u_T := fun k => match k with
  | 0 => ("LaughterIsMinted$Rounds", "world", "LLaughterIsMinted$World;", true)
  | 1 => ("LaughterIsMinted$Rounds", "first", "I", false)
  | 2 => ("LaughterIsMinted$Rounds", "best", "J", false)
  | _ => ("LaughterIsMinted$Rounds", "bestDigits", "I", false)
def tyX3 : Nat → FieldType := fun k => match k with
  | 0 => .object "LaughterIsMinted$World"
  | 1 => .int
  | 2 => .long
  | _ => .int
abbrev wsX30 : List Cond := u_ws RX3 TX3 4
theorem nmX3 : ∀ a, a < 4 → ∀ b, b < 4 → a ≠ b → (TX3 a).2.1 ≠ (TX3 b).2.1 := by decide +kernel
theorem tyX3_ok : ∀ k, k < 4 → parseFieldDescriptor (TX3 k).2.2.1 = some (tyX3 k) := by decide +kernel
abbrev cX3_init : ByteArray := prog_5_method_1_code
def yX3_init : MethodName := ⟨RX3, "<init>", "(LLaughterIsMinted$World;)V"⟩
abbrev cX3_start : ByteArray := prog_5_method_2_code
def yX3_start : MethodName := ⟨RX3, "start", "(IJ)V"⟩
abbrev cX3_goOn : ByteArray := prog_5_method_3_code
def yX3_goOn : MethodName := ⟨RX3, "goOn", "(LLaughterIsMinted$Rounds;IJII)V"⟩
abbrev cX3_compare : ByteArray := prog_5_method_4_code
def yX3_compare : MethodName := ⟨RX3, "compare", "(JI)V"⟩
def RX4 : String := "LaughterIsMinted$Search"
def TX4 : u_T := fun k => match k with
  | 0 => ("LaughterIsMinted$Search", "world", "LLaughterIsMinted$World;", true)
  | 1 => ("LaughterIsMinted$Search", "levels", "I", false)
  | 2 => ("LaughterIsMinted$Search", "best", "I", false)
  | 3 => ("LaughterIsMinted$Search", "row", "[I", true)
  | 4 => ("LaughterIsMinted$Search", "bestRow", "[I", true)
  | _ => ("LaughterIsMinted$Search", "worths", "[I", true)
def tyX4 : Nat → FieldType := fun k => match k with
  | 0 => .object "LaughterIsMinted$World"
  | 1 => .int
  | 2 => .int
  | 3 => .array .int
  | 4 => .array .int
  | _ => .array .int
abbrev wsX40 : List Cond := u_ws RX4 TX4 6
theorem nmX4 : ∀ a, a < 6 → ∀ b, b < 6 → a ≠ b → (TX4 a).2.1 ≠ (TX4 b).2.1 := by decide +kernel
theorem tyX4_ok : ∀ k, k < 6 → parseFieldDescriptor (TX4 k).2.2.1 = some (tyX4 k) := by decide +kernel
abbrev cX4_init : ByteArray := prog_6_method_1_code
def yX4_init : MethodName := ⟨RX4, "<init>", "(LLaughterIsMinted$World;)V"⟩
abbrev cX4_start : ByteArray := prog_6_method_2_code
def yX4_start : MethodName := ⟨RX4, "start", "(I)V"⟩
abbrev cX4_bestAt : ByteArray := prog_6_method_3_code
def yX4_bestAt : MethodName := ⟨RX4, "bestAt", "(I)I"⟩
abbrev cX4_place : ByteArray := prog_6_method_4_code
def yX4_place : MethodName := ⟨RX4, "place", "(III)I"⟩
abbrev cX4_descend : ByteArray := prog_6_method_5_code
def yX4_descend : MethodName := ⟨RX4, "descend", "(LLaughterIsMinted$Search;II)V"⟩
abbrev cX4_refresh : ByteArray := prog_6_method_6_code
def yX4_refresh : MethodName := ⟨RX4, "refresh", "(III)V"⟩
abbrev cX4_compare : ByteArray := prog_6_method_7_code
def yX4_compare : MethodName := ⟨RX4, "compare", "(I)V"⟩
def RX5 : String := "LaughterIsMinted$Sheets"
def TX5 : u_T := fun k => match k with
  | 0 => ("LaughterIsMinted$Sheets", "sorts", "[I", true)
  | 1 => ("LaughterIsMinted$Sheets", "sizes", "[I", true)
  | _ => ("LaughterIsMinted$Sheets", "cells", "[I", true)
def tyX5 : Nat → FieldType := fun k => match k with
  | 0 => .array .int
  | 1 => .array .int
  | _ => .array .int
abbrev wsX50 : List Cond := u_ws RX5 TX5 3
theorem nmX5 : ∀ a, a < 3 → ∀ b, b < 3 → a ≠ b → (TX5 a).2.1 ≠ (TX5 b).2.1 := by decide +kernel
theorem tyX5_ok : ∀ k, k < 3 → parseFieldDescriptor (TX5 k).2.2.1 = some (tyX5 k) := by decide +kernel
abbrev cX5_init : ByteArray := prog_7_method_1_code
def yX5_init : MethodName := ⟨RX5, "<init>", "()V"⟩
abbrev cX5_isMissing : ByteArray := prog_7_method_2_code
def yX5_isMissing : MethodName := ⟨RX5, "isMissing", "(I)Z"⟩
abbrev cX5_renew : ByteArray := prog_7_method_3_code
def yX5_renew : MethodName := ⟨RX5, "renew", "(III)V"⟩
abbrev cX5_hasPlace : ByteArray := prog_7_method_4_code
def yX5_hasPlace : MethodName := ⟨RX5, "hasPlace", "(II)Z"⟩
abbrev cX5_hasRun : ByteArray := prog_7_method_5_code
def yX5_hasRun : MethodName := ⟨RX5, "hasRun", "(III)Z"⟩
abbrev cX5_number : ByteArray := prog_7_method_6_code
def yX5_number : MethodName := ⟨RX5, "number", "(II)I"⟩
abbrev cX5_write : ByteArray := prog_7_method_7_code
def yX5_write : MethodName := ⟨RX5, "write", "(III)V"⟩
abbrev cX5_move : ByteArray := prog_7_method_8_code
def yX5_move : MethodName := ⟨RX5, "move", "(IIIII)V"⟩
def RX6 : String := "LaughterIsMinted$World"
def TX6 : u_T := fun k => match k with
  | 0 => ("LaughterIsMinted$World", "book", "LLaughterIsMinted$LawBook;", true)
  | 1 => ("LaughterIsMinted$World", "jokeCount", "I", false)
  | 2 => ("LaughterIsMinted$World", "kind", "[I", true)
  | 3 => ("LaughterIsMinted$World", "more", "[I", true)
  | 4 => ("LaughterIsMinted$World", "worn", "[I", true)
  | 5 => ("LaughterIsMinted$World", "hearerCount", "I", false)
  | 6 => ("LaughterIsMinted$World", "humour", "[I", true)
  | 7 => ("LaughterIsMinted$World", "purse", "[I", true)
  | 8 => ("LaughterIsMinted$World", "friends", "[I", true)
  | 9 => ("LaughterIsMinted$World", "heard", "[I", true)
  | 10 => ("LaughterIsMinted$World", "catches", "[I", true)
  | 11 => ("LaughterIsMinted$World", "rates", "[I", true)
  | 12 => ("LaughterIsMinted$World", "day", "I", false)
  | _ => ("LaughterIsMinted$World", "law", "I", false)
def tyX6 : Nat → FieldType := fun k => match k with
  | 0 => .object "LaughterIsMinted$LawBook"
  | 1 => .int
  | 2 => .array .int
  | 3 => .array .int
  | 4 => .array .int
  | 5 => .int
  | 6 => .array .int
  | 7 => .array .int
  | 8 => .array .int
  | 9 => .array .int
  | 10 => .array .int
  | 11 => .array .int
  | 12 => .int
  | _ => .int
abbrev wsX60 : List Cond := u_ws RX6 TX6 14
theorem nmX6 : ∀ a, a < 14 → ∀ b, b < 14 → a ≠ b → (TX6 a).2.1 ≠ (TX6 b).2.1 := by decide +kernel
theorem tyX6_ok : ∀ k, k < 14 → parseFieldDescriptor (TX6 k).2.2.1 = some (tyX6 k) := by decide +kernel
abbrev cX6_init : ByteArray := prog_8_method_1_code
def yX6_init : MethodName := ⟨RX6, "<init>", "(LLaughterIsMinted$LawBook;)V"⟩
abbrev cX6_copyFrom : ByteArray := prog_8_method_2_code
def yX6_copyFrom : MethodName := ⟨RX6, "copyFrom", "(LLaughterIsMinted$World;)V"⟩
abbrev cX6_hasJoke : ByteArray := prog_8_method_3_code
def yX6_hasJoke : MethodName := ⟨RX6, "hasJoke", "(I)Z"⟩
abbrev cX6_hasHearer : ByteArray := prog_8_method_4_code
def yX6_hasHearer : MethodName := ⟨RX6, "hasHearer", "(I)Z"⟩
abbrev cX6_canTell : ByteArray := prog_8_method_5_code
def yX6_canTell : MethodName := ⟨RX6, "canTell", "()Z"⟩
abbrev cX6_allJokes : ByteArray := prog_8_method_6_code
def yX6_allJokes : MethodName := ⟨RX6, "allJokes", "()I"⟩
abbrev cX6_allHearers : ByteArray := prog_8_method_7_code
def yX6_allHearers : MethodName := ⟨RX6, "allHearers", "()I"⟩
abbrev cX6_areHearers : ByteArray := prog_8_method_8_code
def yX6_areHearers : MethodName := ⟨RX6, "areHearers", "(I)Z"⟩
abbrev cX6_addJoke : ByteArray := prog_8_method_9_code
def yX6_addJoke : MethodName := ⟨RX6, "addJoke", "(II)I"⟩
abbrev cX6_addHearer : ByteArray := prog_8_method_10_code
def yX6_addHearer : MethodName := ⟨RX6, "addHearer", "(II)I"⟩
abbrev cX6_trait : ByteArray := prog_8_method_11_code
def yX6_trait : MethodName := ⟨RX6, "trait", "(II)I"⟩
abbrev cX6_become : ByteArray := prog_8_method_12_code
def yX6_become : MethodName := ⟨RX6, "become", "(III)V"⟩
abbrev cX6_says : ByteArray := prog_8_method_13_code
def yX6_says : MethodName := ⟨RX6, "says", "(IIII)I"⟩
abbrev cX6_worth : ByteArray := prog_8_method_14_code
def yX6_worth : MethodName := ⟨RX6, "worth", "(II)I"⟩
abbrev cX6_telling : ByteArray := prog_8_method_15_code
def yX6_telling : MethodName := ⟨RX6, "telling", "(II)I"⟩
abbrev cX6_laugh : ByteArray := prog_8_method_16_code
def yX6_laugh : MethodName := ⟨RX6, "laugh", "(III)V"⟩
abbrev cX6_fading : ByteArray := prog_8_method_17_code
def yX6_fading : MethodName := ⟨RX6, "fading", "(I)I"⟩
abbrev cX6_dearest : ByteArray := prog_8_method_18_code
def yX6_dearest : MethodName := ⟨RX6, "dearest", "()I"⟩
abbrev cX6_minute : ByteArray := prog_8_method_19_code
def yX6_minute : MethodName := ⟨RX6, "minute", "(II)I"⟩
abbrev cX6_minutesTillLast : ByteArray := prog_8_method_20_code
def yX6_minutesTillLast : MethodName := ⟨RX6, "minutesTillLast", "(II)I"⟩
abbrev cX6_atLast : ByteArray := prog_8_method_21_code
def yX6_atLast : MethodName := ⟨RX6, "atLast", "(II)I"⟩
abbrev cX6_haveBehind : ByteArray := prog_8_method_22_code
def yX6_haveBehind : MethodName := ⟨RX6, "haveBehind", "(III)I"⟩
abbrev cX6_toldOn : ByteArray := prog_8_method_23_code
def yX6_toldOn : MethodName := ⟨RX6, "toldOn", "(III)I"⟩
abbrev cX6_changed : ByteArray := prog_8_method_24_code
def yX6_changed : MethodName := ⟨RX6, "changed", "(IIJ)J"⟩
def RX7 : String := "LaughterIsMinted"
def TX7 : u_T := fun k => match k with
  | 0 => ("LaughterIsMinted", "book", "LLaughterIsMinted$LawBook;", true)
  | 1 => ("LaughterIsMinted", "reader", "LLaughterIsMinted$Reader;", true)
  | 2 => ("LaughterIsMinted", "now", "LLaughterIsMinted$World;", true)
  | 3 => ("LaughterIsMinted", "thought", "LLaughterIsMinted$World;", true)
  | 4 => ("LaughterIsMinted", "kept", "LLaughterIsMinted$World;", true)
  | 5 => ("LaughterIsMinted", "hasKept", "Z", false)
  | 6 => ("LaughterIsMinted", "search", "LLaughterIsMinted$Search;", true)
  | 7 => ("LaughterIsMinted", "rounds", "LLaughterIsMinted$Rounds;", true)
  | _ => ("LaughterIsMinted", "pages", "LLaughterIsMinted$Sheets;", true)
def tyX7 : Nat → FieldType := fun k => match k with
  | 0 => .object "LaughterIsMinted$LawBook"
  | 1 => .object "LaughterIsMinted$Reader"
  | 2 => .object "LaughterIsMinted$World"
  | 3 => .object "LaughterIsMinted$World"
  | 4 => .object "LaughterIsMinted$World"
  | 5 => .boolean
  | 6 => .object "LaughterIsMinted$Search"
  | 7 => .object "LaughterIsMinted$Rounds"
  | _ => .object "LaughterIsMinted$Sheets"
abbrev wsX70 : List Cond := u_ws RX7 TX7 9
theorem nmX7 : ∀ a, a < 9 → ∀ b, b < 9 → a ≠ b → (TX7 a).2.1 ≠ (TX7 b).2.1 := by decide +kernel
theorem tyX7_ok : ∀ k, k < 9 → parseFieldDescriptor (TX7 k).2.2.1 = some (tyX7 k) := by decide +kernel
abbrev cX7_init : ByteArray := prog_1_method_1_code
def yX7_init : MethodName := ⟨RX7, "<init>", "()V"⟩
abbrev cX7_count : ByteArray := prog_1_method_2_code
def yX7_count : MethodName := ⟨RX7, "count", "(I)I"⟩
abbrev cX7_feed : ByteArray := prog_1_method_3_code
def yX7_feed : MethodName := ⟨RX7, "feed", "(IIIIII)I"⟩
abbrev cX7_text : ByteArray := prog_1_method_4_code
def yX7_text : MethodName := ⟨RX7, "text", "()I"⟩
abbrev cX7_force : ByteArray := prog_1_method_5_code
def yX7_force : MethodName := ⟨RX7, "force", "(I)I"⟩
abbrev cX7_asks : ByteArray := prog_1_method_6_code
def yX7_asks : MethodName := ⟨RX7, "asks", "(IIII)I"⟩
abbrev cX7_joke : ByteArray := prog_1_method_7_code
def yX7_joke : MethodName := ⟨RX7, "joke", "(II)I"⟩
abbrev cX7_told : ByteArray := prog_1_method_8_code
def yX7_told : MethodName := ⟨RX7, "told", "(II)I"⟩
abbrev cX7_hearer : ByteArray := prog_1_method_9_code
def yX7_hearer : MethodName := ⟨RX7, "hearer", "(II)I"⟩
abbrev cX7_set : ByteArray := prog_1_method_10_code
def yX7_set : MethodName := ⟨RX7, "set", "(III)I"⟩
abbrev cX7_mayBecome : ByteArray := prog_1_method_11_code
def yX7_mayBecome : MethodName := ⟨RX7, "mayBecome", "(III)Z"⟩
abbrev cX7_of : ByteArray := prog_1_method_12_code
def yX7_of : MethodName := ⟨RX7, "of", "(II)I"⟩
abbrev cX7_yields : ByteArray := prog_1_method_13_code
def yX7_yields : MethodName := ⟨RX7, "yields", "(II)I"⟩
abbrev cX7_tell : ByteArray := prog_1_method_14_code
def yX7_tell : MethodName := ⟨RX7, "tell", "(II)I"⟩
abbrev cX7_refusedTelling : ByteArray := prog_1_method_15_code
def yX7_refusedTelling : MethodName := ⟨RX7, "refusedTelling", "(II)I"⟩
abbrev cX7_pay : ByteArray := prog_1_method_16_code
def yX7_pay : MethodName := ⟨RX7, "pay", "(III)I"⟩
abbrev cX7_fades : ByteArray := prog_1_method_17_code
def yX7_fades : MethodName := ⟨RX7, "fades", "(I)I"⟩
abbrev cX7_night : ByteArray := prog_1_method_18_code
def yX7_night : MethodName := ⟨RX7, "night", "()I"⟩
abbrev cX7_friday : ByteArray := prog_1_method_19_code
def yX7_friday : MethodName := ⟨RX7, "friday", "(II)I"⟩
abbrev cX7_greedy : ByteArray := prog_1_method_20_code
def yX7_greedy : MethodName := ⟨RX7, "greedy", "(II)I"⟩
abbrev cX7_mine : ByteArray := prog_1_method_21_code
def yX7_mine : MethodName := ⟨RX7, "mine", "(III)I"⟩
abbrev cX7_round : ByteArray := prog_1_method_22_code
def yX7_round : MethodName := ⟨RX7, "round", "(I)I"⟩
abbrev cX7_toldToEach : ByteArray := prog_1_method_23_code
def yX7_toldToEach : MethodName := ⟨RX7, "toldToEach", "(I)I"⟩
abbrev cX7_last : ByteArray := prog_1_method_24_code
def yX7_last : MethodName := ⟨RX7, "last", "(I)I"⟩
abbrev cX7_worthBehindOthers : ByteArray := prog_1_method_25_code
def yX7_worthBehindOthers : MethodName := ⟨RX7, "worthBehindOthers", "(II)I"⟩
abbrev cX7_caught : ByteArray := prog_1_method_26_code
def yX7_caught : MethodName := ⟨RX7, "caught", "(II)I"⟩
abbrev cX7_panic : ByteArray := prog_1_method_27_code
def yX7_panic : MethodName := ⟨RX7, "panic", "(II)I"⟩
abbrev cX7_seeds : ByteArray := prog_1_method_28_code
def yX7_seeds : MethodName := ⟨RX7, "seeds", "(I)I"⟩
abbrev cX7_stop : ByteArray := prog_1_method_29_code
def yX7_stop : MethodName := ⟨RX7, "stop", "(II)I"⟩
abbrev cX7_spread : ByteArray := prog_1_method_30_code
def yX7_spread : MethodName := ⟨RX7, "spread", "(III)I"⟩
abbrev cX7_through : ByteArray := prog_1_method_31_code
def yX7_through : MethodName := ⟨RX7, "through", "(II)I"⟩
abbrev cX7_origin : ByteArray := prog_1_method_32_code
def yX7_origin : MethodName := ⟨RX7, "origin", "(III)I"⟩
abbrev cX7_furthest : ByteArray := prog_1_method_33_code
def yX7_furthest : MethodName := ⟨RX7, "furthest", "(III)I"⟩
abbrev cX7_rate : ByteArray := prog_1_method_34_code
def yX7_rate : MethodName := ⟨RX7, "rate", "(III)I"⟩
abbrev cX7_change : ByteArray := prog_1_method_35_code
def yX7_change : MethodName := ⟨RX7, "change", "(III)J"⟩
abbrev cX7_gain : ByteArray := prog_1_method_36_code
def yX7_gain : MethodName := ⟨RX7, "gain", "(III)J"⟩
abbrev cX7_isTown : ByteArray := prog_1_method_37_code
def yX7_isTown : MethodName := ⟨RX7, "isTown", "(I)Z"⟩
abbrev cX7_judge : ByteArray := prog_1_method_38_code
def yX7_judge : MethodName := ⟨RX7, "judge", "(II)I"⟩
abbrev cX7_humours : ByteArray := prog_1_method_39_code
def yX7_humours : MethodName := ⟨RX7, "humours", "(II)I"⟩
abbrev cX7_heards : ByteArray := prog_1_method_40_code
def yX7_heards : MethodName := ⟨RX7, "heards", "(III)I"⟩
abbrev cX7_kinds : ByteArray := prog_1_method_41_code
def yX7_kinds : MethodName := ⟨RX7, "kinds", "(III)I"⟩
abbrev cX7_wear : ByteArray := prog_1_method_42_code
def yX7_wear : MethodName := ⟨RX7, "wear", "(III)I"⟩
abbrev cX7_whose : ByteArray := prog_1_method_43_code
def yX7_whose : MethodName := ⟨RX7, "whose", "(I)I"⟩
abbrev cX7_laws : ByteArray := prog_1_method_44_code
def yX7_laws : MethodName := ⟨RX7, "laws", "(II)I"⟩
abbrev cX7_amiss : ByteArray := prog_1_method_45_code
def yX7_amiss : MethodName := ⟨RX7, "amiss", "(II)J"⟩
abbrev cX7_film : ByteArray := prog_1_method_46_code
def yX7_film : MethodName := ⟨RX7, "film", "(II)I"⟩
abbrev cX7_refusedSheet : ByteArray := prog_1_method_47_code
def yX7_refusedSheet : MethodName := ⟨RX7, "refusedSheet", "(I)I"⟩
abbrev cX7_refusedJudging : ByteArray := prog_1_method_48_code
def yX7_refusedJudging : MethodName := ⟨RX7, "refusedJudging", "(II)I"⟩
abbrev cX7_refusedJudgingJoke : ByteArray := prog_1_method_49_code
def yX7_refusedJudgingJoke : MethodName := ⟨RX7, "refusedJudgingJoke", "(III)I"⟩
abbrev cX7_otherwise : ByteArray := prog_1_method_50_code
def yX7_otherwise : MethodName := ⟨RX7, "otherwise", "(LLaughterIsMinted$World;II)I"⟩
abbrev cX7_thoughtFits : ByteArray := prog_1_method_51_code
def yX7_thoughtFits : MethodName := ⟨RX7, "thoughtFits", "(II)I"⟩
abbrev cX7_drawn : ByteArray := prog_1_method_52_code
def yX7_drawn : MethodName := ⟨RX7, "drawn", "(II)I"⟩
abbrev cX7_odds : ByteArray := prog_1_method_53_code
def yX7_odds : MethodName := ⟨RX7, "odds", "(IIII)J"⟩
abbrev cX7_drawnSum : ByteArray := prog_1_method_54_code
def yX7_drawnSum : MethodName := ⟨RX7, "drawnSum", "(II)I"⟩
abbrev cX7_commonDivisor : ByteArray := prog_1_method_55_code
def yX7_commonDivisor : MethodName := ⟨RX7, "commonDivisor", "(II)I"⟩
abbrev cX7_image : ByteArray := prog_1_method_56_code
def yX7_image : MethodName := ⟨RX7, "image", "()I"⟩
abbrev cX7_back : ByteArray := prog_1_method_57_code
def yX7_back : MethodName := ⟨RX7, "back", "()I"⟩
abbrev cX7_sheet : ByteArray := prog_1_method_58_code
def yX7_sheet : MethodName := ⟨RX7, "sheet", "(III)I"⟩
abbrev cX7_cell : ByteArray := prog_1_method_59_code
def yX7_cell : MethodName := ⟨RX7, "cell", "(III)I"⟩
abbrev cX7_copy : ByteArray := prog_1_method_60_code
def yX7_copy : MethodName := ⟨RX7, "copy", "(IIIII)I"⟩
abbrev cX7_jokesBy : ByteArray := prog_1_method_61_code
def yX7_jokesBy : MethodName := ⟨RX7, "jokesBy", "(IIII)I"⟩
abbrev cX7_taken : ByteArray := prog_1_method_62_code
def yX7_taken : MethodName := ⟨RX7, "taken", "(II)I"⟩
abbrev cX7_takenJoke : ByteArray := prog_1_method_63_code
def yX7_takenJoke : MethodName := ⟨RX7, "takenJoke", "(II)I"⟩
abbrev cX7_takenHearer : ByteArray := prog_1_method_64_code
def yX7_takenHearer : MethodName := ⟨RX7, "takenHearer", "(II)I"⟩
abbrev cX7_isSheet : ByteArray := prog_1_method_65_code
def yX7_isSheet : MethodName := ⟨RX7, "isSheet", "(I)Z"⟩
abbrev cX7_within : ByteArray := prog_1_method_66_code
def yX7_within : MethodName := ⟨RX7, "within", "(III)Z"⟩
abbrev cX7_isByte : ByteArray := prog_1_method_67_code
def yX7_isByte : MethodName := ⟨RX7, "isByte", "(I)Z"⟩
abbrev cX7_hasBit : ByteArray := prog_1_method_68_code
def yX7_hasBit : MethodName := ⟨RX7, "hasBit", "(II)Z"⟩
abbrev cX7_bounded : ByteArray := prog_1_method_69_code
def yX7_bounded : MethodName := ⟨RX7, "bounded", "(II)I"⟩
def RX8 : String := "LaughterIsMintedModel"
def TX8 : u_T := fun k => match k with
  | 0 => ("LaughterIsMintedModel", "jokes", "I", false)
  | 1 => ("LaughterIsMintedModel", "kind", "[I", true)
  | 2 => ("LaughterIsMintedModel", "moreOf", "[I", true)
  | 3 => ("LaughterIsMintedModel", "worn", "[I", true)
  | 4 => ("LaughterIsMintedModel", "hearers", "I", false)
  | 5 => ("LaughterIsMintedModel", "heldOf", "[I", true)
  | 6 => ("LaughterIsMintedModel", "day0", "I", false)
  | 7 => ("LaughterIsMintedModel", "rates", "[I", true)
  | 8 => ("LaughterIsMintedModel", "tape", "[I", true)
  | 9 => ("LaughterIsMintedModel", "taped", "I", false)
  | 10 => ("LaughterIsMintedModel", "codes", "[I", true)
  | 11 => ("LaughterIsMintedModel", "starts", "[I", true)
  | 12 => ("LaughterIsMintedModel", "texts", "I", false)
  | 13 => ("LaughterIsMintedModel", "rule", "I", false)
  | 14 => ("LaughterIsMintedModel", "hasImage", "Z", false)
  | 15 => ("LaughterIsMintedModel", "imageJokes", "I", false)
  | 16 => ("LaughterIsMintedModel", "imageHearers", "I", false)
  | 17 => ("LaughterIsMintedModel", "imageDay", "I", false)
  | 18 => ("LaughterIsMintedModel", "imageRule", "I", false)
  | 19 => ("LaughterIsMintedModel", "imageRows", "[I", true)
  | 20 => ("LaughterIsMintedModel", "sheetSort", "[I", true)
  | 21 => ("LaughterIsMintedModel", "sheetSize", "[I", true)
  | 22 => ("LaughterIsMintedModel", "cells", "[I", true)
  | 23 => ("LaughterIsMintedModel", "law", "[I", true)
  | 24 => ("LaughterIsMintedModel", "at", "I", false)
  | 25 => ("LaughterIsMintedModel", "begun", "I", false)
  | 26 => ("LaughterIsMintedModel", "token", "I", false)
  | 27 => ("LaughterIsMintedModel", "value", "I", false)
  | 28 => ("LaughterIsMintedModel", "words", "[I", true)
  | 29 => ("LaughterIsMintedModel", "held", "[I", true)
  | 30 => ("LaughterIsMintedModel", "heldMany", "I", false)
  | 31 => ("LaughterIsMintedModel", "opens", "I", false)
  | 32 => ("LaughterIsMintedModel", "out", "I", false)
  | 33 => ("LaughterIsMintedModel", "stack", "[I", true)
  | 34 => ("LaughterIsMintedModel", "named", "[I", true)
  | 35 => ("LaughterIsMintedModel", "steps", "[I", true)
  | 36 => ("LaughterIsMintedModel", "stepMany", "I", false)
  | 37 => ("LaughterIsMintedModel", "best3", "[I", true)
  | 38 => ("LaughterIsMintedModel", "minutesOf", "I", false)
  | 39 => ("LaughterIsMintedModel", "gained", "J", false)
  | _ => ("LaughterIsMintedModel", "gainedBy", "I", false)
def tyX8 : Nat → FieldType := fun k => match k with
  | 0 => .int
  | 1 => .array .int
  | 2 => .array .int
  | 3 => .array .int
  | 4 => .int
  | 5 => .array .int
  | 6 => .int
  | 7 => .array .int
  | 8 => .array .int
  | 9 => .int
  | 10 => .array .int
  | 11 => .array .int
  | 12 => .int
  | 13 => .int
  | 14 => .boolean
  | 15 => .int
  | 16 => .int
  | 17 => .int
  | 18 => .int
  | 19 => .array .int
  | 20 => .array .int
  | 21 => .array .int
  | 22 => .array .int
  | 23 => .array .int
  | 24 => .int
  | 25 => .int
  | 26 => .int
  | 27 => .int
  | 28 => .array .int
  | 29 => .array .int
  | 30 => .int
  | 31 => .int
  | 32 => .int
  | 33 => .array .int
  | 34 => .array .int
  | 35 => .array .int
  | 36 => .int
  | 37 => .array .int
  | 38 => .int
  | 39 => .long
  | _ => .int
abbrev wsX80 : List Cond := u_ws RX8 TX8 41
theorem nmX8 : ∀ a, a < 41 → ∀ b, b < 41 → a ≠ b → (TX8 a).2.1 ≠ (TX8 b).2.1 := by decide +kernel
theorem tyX8_ok : ∀ k, k < 41 → parseFieldDescriptor (TX8 k).2.2.1 = some (tyX8 k) := by decide +kernel
abbrev cX8_init : ByteArray := prog_10_method_1_code
def yX8_init : MethodName := ⟨RX8, "<init>", "()V"⟩
abbrev cX8_in : ByteArray := prog_10_method_3_code
def yX8_in : MethodName := ⟨RX8, "in", "(III)Z"⟩
abbrev cX8_within : ByteArray := prog_10_method_4_code
def yX8_within : MethodName := ⟨RX8, "within", "(III)I"⟩
abbrev cX8_ones : ByteArray := prog_10_method_5_code
def yX8_ones : MethodName := ⟨RX8, "ones", "(I)I"⟩
abbrev cX8_isJoke : ByteArray := prog_10_method_6_code
def yX8_isJoke : MethodName := ⟨RX8, "isJoke", "(I)Z"⟩
abbrev cX8_isHearer : ByteArray := prog_10_method_7_code
def yX8_isHearer : MethodName := ⟨RX8, "isHearer", "(I)Z"⟩
abbrev cX8_everybody : ByteArray := prog_10_method_8_code
def yX8_everybody : MethodName := ⟨RX8, "everybody", "()I"⟩
abbrev cX8_areSome : ByteArray := prog_10_method_9_code
def yX8_areSome : MethodName := ⟨RX8, "areSome", "(I)Z"⟩
abbrev cX8_count : ByteArray := prog_10_method_10_code
def yX8_count : MethodName := ⟨RX8, "count", "(I)I"⟩
abbrev cX8_isByte : ByteArray := prog_10_method_11_code
def yX8_isByte : MethodName := ⟨RX8, "isByte", "(I)Z"⟩
abbrev cX8_feed : ByteArray := prog_10_method_12_code
def yX8_feed : MethodName := ⟨RX8, "feed", "(IIIIII)I"⟩
abbrev cX8_wordFrom : ByteArray := prog_10_method_13_code
def yX8_wordFrom : MethodName := ⟨RX8, "wordFrom", "(II)I"⟩
abbrev cX8_next : ByteArray := prog_10_method_14_code
def yX8_next : MethodName := ⟨RX8, "next", "()V"⟩
abbrev cX8_rank : ByteArray := prog_10_method_15_code
def yX8_rank : MethodName := ⟨RX8, "rank", "(I)I"⟩
abbrev cX8_puts : ByteArray := prog_10_method_16_code
def yX8_puts : MethodName := ⟨RX8, "puts", "(I)V"⟩
abbrev cX8_unwinds : ByteArray := prog_10_method_17_code
def yX8_unwinds : MethodName := ⟨RX8, "unwinds", "(I)V"⟩
abbrev cX8_holds : ByteArray := prog_10_method_18_code
def yX8_holds : MethodName := ⟨RX8, "holds", "(I)V"⟩
abbrev cX8_opensOne : ByteArray := prog_10_method_19_code
def yX8_opensOne : MethodName := ⟨RX8, "opensOne", "(I)Z"⟩
abbrev cX8_between : ByteArray := prog_10_method_20_code
def yX8_between : MethodName := ⟨RX8, "between", "(I)Z"⟩
abbrev cX8_signOf : ByteArray := prog_10_method_21_code
def yX8_signOf : MethodName := ⟨RX8, "signOf", "()I"⟩
abbrev cX8_eRead : ByteArray := prog_10_method_22_code
def yX8_eRead : MethodName := ⟨RX8, "eRead", "()Z"⟩
abbrev cX8_text : ByteArray := prog_10_method_23_code
def yX8_text : MethodName := ⟨RX8, "text", "()I"⟩
abbrev cX8_two : ByteArray := prog_10_method_24_code
def yX8_two : MethodName := ⟨RX8, "two", "(III)I"⟩
abbrev cX8_says : ByteArray := prog_10_method_25_code
def yX8_says : MethodName := ⟨RX8, "says", "(I)I"⟩
abbrev cX8_force : ByteArray := prog_10_method_26_code
def yX8_force : MethodName := ⟨RX8, "force", "(I)I"⟩
abbrev cX8_asksOf : ByteArray := prog_10_method_27_code
def yX8_asksOf : MethodName := ⟨RX8, "asksOf", "(IIII)I"⟩
abbrev cX8_asks : ByteArray := prog_10_method_28_code
def yX8_asks : MethodName := ⟨RX8, "asks", "(IIII)I"⟩
abbrev cX8_joke : ByteArray := prog_10_method_29_code
def yX8_joke : MethodName := ⟨RX8, "joke", "(II)I"⟩
abbrev cX8_onOf : ByteArray := prog_10_method_30_code
def yX8_onOf : MethodName := ⟨RX8, "onOf", "(I)I"⟩
abbrev cX8_wearsOf : ByteArray := prog_10_method_31_code
def yX8_wearsOf : MethodName := ⟨RX8, "wearsOf", "(I)I"⟩
abbrev cX8_told : ByteArray := prog_10_method_32_code
def yX8_told : MethodName := ⟨RX8, "told", "(II)I"⟩
abbrev cX8_hearer : ByteArray := prog_10_method_33_code
def yX8_hearer : MethodName := ⟨RX8, "hearer", "(II)I"⟩
abbrev cX8_isSo : ByteArray := prog_10_method_34_code
def yX8_isSo : MethodName := ⟨RX8, "isSo", "(III)Z"⟩
abbrev cX8_set : ByteArray := prog_10_method_35_code
def yX8_set : MethodName := ⟨RX8, "set", "(III)I"⟩
abbrev cX8_of : ByteArray := prog_10_method_36_code
def yX8_of : MethodName := ⟨RX8, "of", "(II)I"⟩
abbrev cX8_plainOf : ByteArray := prog_10_method_37_code
def yX8_plainOf : MethodName := ⟨RX8, "plainOf", "(IIZ)I"⟩
abbrev cX8_yieldsOf : ByteArray := prog_10_method_38_code
def yX8_yieldsOf : MethodName := ⟨RX8, "yieldsOf", "(II)I"⟩
abbrev cX8_yields : ByteArray := prog_10_method_39_code
def yX8_yields : MethodName := ⟨RX8, "yields", "(II)I"⟩
abbrev cX8_tells : ByteArray := prog_10_method_40_code
def yX8_tells : MethodName := ⟨RX8, "tells", "(II)I"⟩
abbrev cX8_takesBack : ByteArray := prog_10_method_41_code
def yX8_takesBack : MethodName := ⟨RX8, "takesBack", "()V"⟩
abbrev cX8_tell : ByteArray := prog_10_method_42_code
def yX8_tell : MethodName := ⟨RX8, "tell", "(II)I"⟩
abbrev cX8_pay : ByteArray := prog_10_method_43_code
def yX8_pay : MethodName := ⟨RX8, "pay", "(III)I"⟩
abbrev cX8_fadesOf : ByteArray := prog_10_method_44_code
def yX8_fadesOf : MethodName := ⟨RX8, "fadesOf", "(I)I"⟩
abbrev cX8_fades : ByteArray := prog_10_method_45_code
def yX8_fades : MethodName := ⟨RX8, "fades", "(I)I"⟩
abbrev cX8_night : ByteArray := prog_10_method_46_code
def yX8_night : MethodName := ⟨RX8, "night", "()I"⟩
abbrev cX8_allMany : ByteArray := prog_10_method_47_code
def yX8_allMany : MethodName := ⟨RX8, "allMany", "()I"⟩
abbrev cX8_byNumber : ByteArray := prog_10_method_48_code
def yX8_byNumber : MethodName := ⟨RX8, "byNumber", "(I)I"⟩
abbrev cX8_powerOf : ByteArray := prog_10_method_49_code
def yX8_powerOf : MethodName := ⟨RX8, "powerOf", "(I)I"⟩
abbrev cX8_rowOf : ByteArray := prog_10_method_50_code
def yX8_rowOf : MethodName := ⟨RX8, "rowOf", "(II)I"⟩
abbrev cX8_friday : ByteArray := prog_10_method_51_code
def yX8_friday : MethodName := ⟨RX8, "friday", "(II)I"⟩
abbrev cX8_mostNow : ByteArray := prog_10_method_52_code
def yX8_mostNow : MethodName := ⟨RX8, "mostNow", "()I"⟩
abbrev cX8_greedy : ByteArray := prog_10_method_53_code
def yX8_greedy : MethodName := ⟨RX8, "greedy", "(II)I"⟩
abbrev cX8_mine : ByteArray := prog_10_method_54_code
def yX8_mine : MethodName := ⟨RX8, "mine", "(III)I"⟩
abbrev cX8_roundOf : ByteArray := prog_10_method_55_code
def yX8_roundOf : MethodName := ⟨RX8, "roundOf", "(I)I"⟩
abbrev cX8_round : ByteArray := prog_10_method_56_code
def yX8_round : MethodName := ⟨RX8, "round", "(I)I"⟩
abbrev cX8_losesOf : ByteArray := prog_10_method_57_code
def yX8_losesOf : MethodName := ⟨RX8, "losesOf", "(II)I"⟩
abbrev cX8_last : ByteArray := prog_10_method_58_code
def yX8_last : MethodName := ⟨RX8, "last", "(I)I"⟩
abbrev cX8_catches : ByteArray := prog_10_method_59_code
def yX8_catches : MethodName := ⟨RX8, "catches", "(II)I"⟩
abbrev cX8_atLast : ByteArray := prog_10_method_60_code
def yX8_atLast : MethodName := ⟨RX8, "atLast", "(II)I"⟩
abbrev cX8_caught : ByteArray := prog_10_method_61_code
def yX8_caught : MethodName := ⟨RX8, "caught", "(II)I"⟩
abbrev cX8_panic : ByteArray := prog_10_method_62_code
def yX8_panic : MethodName := ⟨RX8, "panic", "(II)I"⟩
abbrev cX8_seeds : ByteArray := prog_10_method_63_code
def yX8_seeds : MethodName := ⟨RX8, "seeds", "(I)I"⟩
abbrev cX8_stop : ByteArray := prog_10_method_64_code
def yX8_stop : MethodName := ⟨RX8, "stop", "(II)I"⟩
abbrev cX8_goesOn : ByteArray := prog_10_method_65_code
def yX8_goesOn : MethodName := ⟨RX8, "goesOn", "(III)I"⟩
abbrev cX8_spread : ByteArray := prog_10_method_66_code
def yX8_spread : MethodName := ⟨RX8, "spread", "(III)I"⟩
abbrev cX8_through : ByteArray := prog_10_method_67_code
def yX8_through : MethodName := ⟨RX8, "through", "(II)I"⟩
abbrev cX8_origin : ByteArray := prog_10_method_68_code
def yX8_origin : MethodName := ⟨RX8, "origin", "(III)I"⟩
abbrev cX8_furthest : ByteArray := prog_10_method_69_code
def yX8_furthest : MethodName := ⟨RX8, "furthest", "(III)I"⟩
abbrev cX8_isTown : ByteArray := prog_10_method_70_code
def yX8_isTown : MethodName := ⟨RX8, "isTown", "(I)Z"⟩
abbrev cX8_rate : ByteArray := prog_10_method_71_code
def yX8_rate : MethodName := ⟨RX8, "rate", "(III)I"⟩
abbrev cX8_changes : ByteArray := prog_10_method_72_code
def yX8_changes : MethodName := ⟨RX8, "changes", "(IIJ)J"⟩
abbrev cX8_change : ByteArray := prog_10_method_73_code
def yX8_change : MethodName := ⟨RX8, "change", "(III)J"⟩
abbrev cX8_closes : ByteArray := prog_10_method_74_code
def yX8_closes : MethodName := ⟨RX8, "closes", "(IIJI)V"⟩
abbrev cX8_thirds : ByteArray := prog_10_method_75_code
def yX8_thirds : MethodName := ⟨RX8, "thirds", "(IIIJI)V"⟩
abbrev cX8_seconds : ByteArray := prog_10_method_76_code
def yX8_seconds : MethodName := ⟨RX8, "seconds", "(IIJI)V"⟩
abbrev cX8_gain : ByteArray := prog_10_method_77_code
def yX8_gain : MethodName := ⟨RX8, "gain", "(III)J"⟩
abbrev cX8_sheetWrong : ByteArray := prog_10_method_78_code
def yX8_sheetWrong : MethodName := ⟨RX8, "sheetWrong", "(I)I"⟩
abbrev cX8_toldWrong : ByteArray := prog_10_method_79_code
def yX8_toldWrong : MethodName := ⟨RX8, "toldWrong", "(II)I"⟩
abbrev cX8_unlike : ByteArray := prog_10_method_80_code
def yX8_unlike : MethodName := ⟨RX8, "unlike", "(II)I"⟩
abbrev cX8_judge : ByteArray := prog_10_method_81_code
def yX8_judge : MethodName := ⟨RX8, "judge", "(II)I"⟩
abbrev cX8_humours : ByteArray := prog_10_method_82_code
def yX8_humours : MethodName := ⟨RX8, "humours", "(II)I"⟩
abbrev cX8_heards : ByteArray := prog_10_method_83_code
def yX8_heards : MethodName := ⟨RX8, "heards", "(III)I"⟩
abbrev cX8_kinds : ByteArray := prog_10_method_84_code
def yX8_kinds : MethodName := ⟨RX8, "kinds", "(III)I"⟩
abbrev cX8_wear : ByteArray := prog_10_method_85_code
def yX8_wear : MethodName := ⟨RX8, "wear", "(III)I"⟩
abbrev cX8_whose : ByteArray := prog_10_method_86_code
def yX8_whose : MethodName := ⟨RX8, "whose", "(I)I"⟩
abbrev cX8_laws : ByteArray := prog_10_method_87_code
def yX8_laws : MethodName := ⟨RX8, "laws", "(II)I"⟩
abbrev cX8_amiss : ByteArray := prog_10_method_88_code
def yX8_amiss : MethodName := ⟨RX8, "amiss", "(II)J"⟩
abbrev cX8_film : ByteArray := prog_10_method_89_code
def yX8_film : MethodName := ⟨RX8, "film", "(II)I"⟩
abbrev cX8_drawnBy : ByteArray := prog_10_method_90_code
def yX8_drawnBy : MethodName := ⟨RX8, "drawnBy", "(II)I"⟩
abbrev cX8_drawn : ByteArray := prog_10_method_91_code
def yX8_drawn : MethodName := ⟨RX8, "drawn", "(II)I"⟩
abbrev cX8_lowest : ByteArray := prog_10_method_92_code
def yX8_lowest : MethodName := ⟨RX8, "lowest", "(JJI)J"⟩
abbrev cX8_odds : ByteArray := prog_10_method_93_code
def yX8_odds : MethodName := ⟨RX8, "odds", "(IIII)J"⟩
abbrev cX8_image : ByteArray := prog_10_method_94_code
def yX8_image : MethodName := ⟨RX8, "image", "()I"⟩
abbrev cX8_back : ByteArray := prog_10_method_95_code
def yX8_back : MethodName := ⟨RX8, "back", "()I"⟩
abbrev cX8_sheet : ByteArray := prog_10_method_96_code
def yX8_sheet : MethodName := ⟨RX8, "sheet", "(III)I"⟩
abbrev cX8_cell : ByteArray := prog_10_method_97_code
def yX8_cell : MethodName := ⟨RX8, "cell", "(III)I"⟩
abbrev cX8_copy : ByteArray := prog_10_method_98_code
def yX8_copy : MethodName := ⟨RX8, "copy", "(IIIII)I"⟩
abbrev cX8_jokesBy : ByteArray := prog_10_method_99_code
def yX8_jokesBy : MethodName := ⟨RX8, "jokesBy", "(IIII)I"⟩
abbrev cX8_isUnder : ByteArray := prog_10_method_100_code
def yX8_isUnder : MethodName := ⟨RX8, "isUnder", "(II)Z"⟩
abbrev cX8_taken : ByteArray := prog_10_method_101_code
def yX8_taken : MethodName := ⟨RX8, "taken", "(II)I"⟩
def RJ11 : String := "java/lang/Character"
def TJ11 : u_T := fun k => match k with
  | _ => ("", "", "", false)
def tyJ11 : Nat → FieldType := fun k => match k with
  | _ => .int
abbrev wsJ110 : List Cond := u_ws RJ11 TJ11 0
theorem nmJ11 : ∀ a, a < 0 → ∀ b, b < 0 → a ≠ b → (TJ11 a).2.1 ≠ (TJ11 b).2.1 := by decide +kernel
theorem tyJ11_ok : ∀ k, k < 0 → parseFieldDescriptor (TJ11 k).2.2.1 = some (tyJ11 k) := by decide +kernel
abbrev cJ11_isValidCodePoint_9a6ad : ByteArray := prog_11_method_11_code
def yJ11_isValidCodePoint_9a6ad : MethodName := ⟨RJ11, "isValidCodePoint", "(I)Z"⟩
abbrev cJ11_highSurrogate_5068e : ByteArray := prog_11_method_28_code
def yJ11_highSurrogate_5068e : MethodName := ⟨RJ11, "highSurrogate", "(I)C"⟩
abbrev cJ11_lowSurrogate_5068e : ByteArray := prog_11_method_29_code
def yJ11_lowSurrogate_5068e : MethodName := ⟨RJ11, "lowSurrogate", "(I)C"⟩
def RJ6 : String := "java/lang/Integer"
def TJ6 : u_T := fun k => match k with
  | _ => ("", "", "", false)
def tyJ6 : Nat → FieldType := fun k => match k with
  | _ => .int
abbrev wsJ60 : List Cond := u_ws RJ6 TJ6 0
theorem nmJ6 : ∀ a, a < 0 → ∀ b, b < 0 → a ≠ b → (TJ6 a).2.1 ≠ (TJ6 b).2.1 := by decide +kernel
theorem tyJ6_ok : ∀ k, k < 0 → parseFieldDescriptor (TJ6 k).2.2.1 = some (tyJ6 k) := by decide +kernel
abbrev cJ6_bitCount_0f7a4 : ByteArray := prog_12_method_49_code
def yJ6_bitCount_0f7a4 : MethodName := ⟨RJ6, "bitCount", "(I)I"⟩
def RJ9 : String := "java/lang/Math"
def TJ9 : u_T := fun k => match k with
  | _ => ("", "", "", false)
def tyJ9 : Nat → FieldType := fun k => match k with
  | _ => .int
abbrev wsJ90 : List Cond := u_ws RJ9 TJ9 0
theorem nmJ9 : ∀ a, a < 0 → ∀ b, b < 0 → a ≠ b → (TJ9 a).2.1 ≠ (TJ9 b).2.1 := by decide +kernel
theorem tyJ9_ok : ∀ k, k < 0 → parseFieldDescriptor (TJ9 k).2.2.1 = some (tyJ9 k) := by decide +kernel
abbrev cJ9_abs_067f4 : ByteArray := prog_13_method_61_code
def yJ9_abs_067f4 : MethodName := ⟨RJ9, "abs", "(J)J"⟩
abbrev cJ9_max_7cf53 : ByteArray := prog_13_method_65_code
def yJ9_max_7cf53 : MethodName := ⟨RJ9, "max", "(II)I"⟩
abbrev cJ9_min_7cf53 : ByteArray := prog_13_method_69_code
def yJ9_min_7cf53 : MethodName := ⟨RJ9, "min", "(II)I"⟩
def RJ0 : String := "java/lang/String"
def TJ0 : u_T := fun k => match k with
  | _ => ("", "", "", false)
def tyJ0 : Nat → FieldType := fun k => match k with
  | _ => .int
abbrev wsJ00 : List Cond := u_ws RJ0 TJ0 0
theorem nmJ0 : ∀ a, a < 0 → ∀ b, b < 0 → a ≠ b → (TJ0 a).2.1 ≠ (TJ0 b).2.1 := by decide +kernel
theorem tyJ0_ok : ∀ k, k < 0 → parseFieldDescriptor (TJ0 k).2.2.1 = some (tyJ0 k) := by decide +kernel
abbrev cJ0_length_8abf5 : ByteArray := prog_14_method_54_code
def yJ0_length_8abf5 : MethodName := ⟨RJ0, "length", "()I"⟩
abbrev cJ0_charAt_5068e : ByteArray := prog_14_method_56_code
def yJ0_charAt_5068e : MethodName := ⟨RJ0, "charAt", "(I)C"⟩
abbrev cJ0_indexOf_0f7a4 : ByteArray := prog_14_method_79_code
def yJ0_indexOf_0f7a4 : MethodName := ⟨RJ0, "indexOf", "(I)I"⟩
abbrev cJ0_indexOf_7cf53 : ByteArray := prog_14_method_80_code
def yJ0_indexOf_7cf53 : MethodName := ⟨RJ0, "indexOf", "(II)I"⟩
abbrev cJ0_coder_7d493 : ByteArray := prog_14_method_152_code
def yJ0_coder_7d493 : MethodName := ⟨RJ0, "coder", "()B"⟩
abbrev cJ0_isLatin1_aae02 : ByteArray := prog_14_method_154_code
def yJ0_isLatin1_aae02 : MethodName := ⟨RJ0, "isLatin1", "()Z"⟩
abbrev cJ0_checkIndex_df160 : ByteArray := prog_14_method_155_code
def yJ0_checkIndex_df160 : MethodName := ⟨RJ0, "checkIndex", "(II)V"⟩
abbrev cJ0_checkBoundsBeginEnd_23922 : ByteArray := prog_14_method_158_code
def yJ0_checkBoundsBeginEnd_23922 : MethodName := ⟨RJ0, "checkBoundsBeginEnd", "(III)V"⟩
def RJ1 : String := "java/lang/StringLatin1"
def TJ1 : u_T := fun k => match k with
  | _ => ("", "", "", false)
def tyJ1 : Nat → FieldType := fun k => match k with
  | _ => .int
abbrev wsJ10 : List Cond := u_ws RJ1 TJ1 0
theorem nmJ1 : ∀ a, a < 0 → ∀ b, b < 0 → a ≠ b → (TJ1 a).2.1 ≠ (TJ1 b).2.1 := by decide +kernel
theorem tyJ1_ok : ∀ k, k < 0 → parseFieldDescriptor (TJ1 k).2.2.1 = some (tyJ1 k) := by decide +kernel
abbrev cJ1_charAt_3b067 : ByteArray := prog_15_method_2_code
def yJ1_charAt_3b067 : MethodName := ⟨RJ1, "charAt", "([BI)C"⟩
abbrev cJ1_canEncode_9a6ad : ByteArray := prog_15_method_4_code
def yJ1_canEncode_9a6ad : MethodName := ⟨RJ1, "canEncode", "(I)Z"⟩
abbrev cJ1_indexOf_4cfef : ByteArray := prog_15_method_22_code
def yJ1_indexOf_4cfef : MethodName := ⟨RJ1, "indexOf", "([BIII)I"⟩
abbrev cJ1_indexOfChar_4cfef : ByteArray := prog_15_method_23_code
def yJ1_indexOfChar_4cfef : MethodName := ⟨RJ1, "indexOfChar", "([BIII)I"⟩
def RJ2 : String := "java/lang/StringUTF16"
def TJ2 : u_T := fun k => match k with
  | _ => ("", "", "", false)
def tyJ2 : Nat → FieldType := fun k => match k with
  | _ => .int
abbrev wsJ20 : List Cond := u_ws RJ2 TJ2 0
theorem nmJ2 : ∀ a, a < 0 → ∀ b, b < 0 → a ≠ b → (TJ2 a).2.1 ≠ (TJ2 b).2.1 := by decide +kernel
theorem tyJ2_ok : ∀ k, k < 0 → parseFieldDescriptor (TJ2 k).2.2.1 = some (tyJ2 k) := by decide +kernel
abbrev cJ2_getChar_3b067 : ByteArray := prog_16_method_5_code
def yJ2_getChar_3b067 : MethodName := ⟨RJ2, "getChar", "([BI)C"⟩
abbrev cJ2_length_9d52b : ByteArray := prog_16_method_6_code
def yJ2_length_9d52b : MethodName := ⟨RJ2, "length", "([B)I"⟩
abbrev cJ2_indexOf_4cfef : ByteArray := prog_16_method_40_code
def yJ2_indexOf_4cfef : MethodName := ⟨RJ2, "indexOf", "([BIII)I"⟩
abbrev cJ2_indexOfChar_4cfef : ByteArray := prog_16_method_47_code
def yJ2_indexOfChar_4cfef : MethodName := ⟨RJ2, "indexOfChar", "([BIII)I"⟩
abbrev cJ2_indexOfCharUnsafe_4cfef : ByteArray := prog_16_method_48_code
def yJ2_indexOfCharUnsafe_4cfef : MethodName := ⟨RJ2, "indexOfCharUnsafe", "([BIII)I"⟩
abbrev cJ2_indexOfSupplementary_4cfef : ByteArray := prog_16_method_49_code
def yJ2_indexOfSupplementary_4cfef : MethodName := ⟨RJ2, "indexOfSupplementary", "([BIII)I"⟩
abbrev cJ2_charAt_3b067 : ByteArray := prog_16_method_83_code
def yJ2_charAt_3b067 : MethodName := ⟨RJ2, "charAt", "([BI)C"⟩
abbrev cJ2_checkIndex_2214a : ByteArray := prog_16_method_91_code
def yJ2_checkIndex_2214a : MethodName := ⟨RJ2, "checkIndex", "(I[B)V"⟩
abbrev cJ2_checkBoundsBeginEnd_d044e : ByteArray := prog_16_method_93_code
def yJ2_checkBoundsBeginEnd_d044e : MethodName := ⟨RJ2, "checkBoundsBeginEnd", "(II[B)V"⟩
def RJ10 : String := "java/lang/System"
def TJ10 : u_T := fun k => match k with
  | _ => ("", "", "", false)
def tyJ10 : Nat → FieldType := fun k => match k with
  | _ => .int
abbrev wsJ100 : List Cond := u_ws RJ10 TJ10 0
theorem nmJ10 : ∀ a, a < 0 → ∀ b, b < 0 → a ≠ b → (TJ10 a).2.1 ≠ (TJ10 b).2.1 := by decide +kernel
theorem tyJ10_ok : ∀ k, k < 0 → parseFieldDescriptor (TJ10 k).2.2.1 = some (tyJ10 k) := by decide +kernel
def RJ3 : String := "jdk/internal/util/Preconditions"
def TJ3 : u_T := fun k => match k with
  | _ => ("", "", "", false)
def tyJ3 : Nat → FieldType := fun k => match k with
  | _ => .int
abbrev wsJ30 : List Cond := u_ws RJ3 TJ3 0
theorem nmJ3 : ∀ a, a < 0 → ∀ b, b < 0 → a ≠ b → (TJ3 a).2.1 ≠ (TJ3 b).2.1 := by decide +kernel
theorem tyJ3_ok : ∀ k, k < 0 → parseFieldDescriptor (TJ3 k).2.2.1 = some (tyJ3 k) := by decide +kernel
abbrev cJ3_checkIndex_8e157 : ByteArray := prog_18_method_11_code
def yJ3_checkIndex_8e157 : MethodName := ⟨RJ3, "checkIndex", "(IILjava/util/function/BiFunction;)I"⟩
abbrev cJ3_checkFromToIndex_8c36e : ByteArray := prog_18_method_12_code
def yJ3_checkFromToIndex_8c36e : MethodName := ⟨RJ3, "checkFromToIndex", "(IIILjava/util/function/BiFunction;)I"⟩
def RL : String := "LaughterIsMintedLaw"
abbrev cL_law : ByteArray := code
def yL_law : MethodName := ⟨RL, "law", "([I)Z"⟩
abbrev vwCl : List vw_C := [(RX1, TX1, 5), (RX2, TX2, 10), (RX3, TX3, 4), (RX4, TX4, 6), (RX5, TX5, 3), (RX6, TX6, 14), (RX7, TX7, 9), (RX8, TX8, 41)]
