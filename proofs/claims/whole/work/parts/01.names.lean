-- ===== PART A: goes FIRST, ahead of the names: the tables' words, and 'selects' of the private methods out of them =====
/-- a private method of a class that the tables say can be made, by its rows of tables_1 -/
def lw_okq (q : MethodName × Nat) : Prop := (q.1.cls ≠ "java/lang/invoke/MethodHandle" ∧ q.1.cls ≠ "java/lang/invoke/VarHandle") ∧ Cond.instantiable q.1.cls q.2 ∈ tables_1 ∧ Cond.privateMethod q.1 ∈ tables_1 ∧ Cond.instanceMethod q.1 ∈ tables_1
theorem lw_p0 : lw_okq (⟨"CardsGone$Shoe", "forget", "()V"⟩, 10) := ⟨⟨by decide +kernel, by decide +kernel⟩, List.mem_of_getElem? (i := 30) (by decide +kernel), List.mem_of_getElem? (i := 514) (by decide +kernel), List.mem_of_getElem? (i := 515) (by decide +kernel)⟩
theorem lw_p1 : lw_okq (⟨"CardsGone$Changes", "dropEldest", "()V"⟩, 5) := ⟨⟨by decide +kernel, by decide +kernel⟩, List.mem_of_getElem? (i := 368) (by decide +kernel), List.mem_of_getElem? (i := 558) (by decide +kernel), List.mem_of_getElem? (i := 559) (by decide +kernel)⟩
theorem lw_p2 : lw_okq (⟨"CardsGone$Reader", "readLine", "()Z"⟩, 5) := ⟨⟨by decide +kernel, by decide +kernel⟩, List.mem_of_getElem? (i := 336) (by decide +kernel), List.mem_of_getElem? (i := 582) (by decide +kernel), List.mem_of_getElem? (i := 583) (by decide +kernel)⟩
theorem lw_p3 : lw_okq (⟨"CardsGone$Reader", "read", "(II)Z"⟩, 5) := ⟨⟨by decide +kernel, by decide +kernel⟩, List.mem_of_getElem? (i := 336) (by decide +kernel), List.mem_of_getElem? (i := 586) (by decide +kernel), List.mem_of_getElem? (i := 587) (by decide +kernel)⟩
theorem lw_p4 : lw_okq (⟨"CardsGone$Reader", "readOne", "(I)Z"⟩, 5) := ⟨⟨by decide +kernel, by decide +kernel⟩, List.mem_of_getElem? (i := 336) (by decide +kernel), List.mem_of_getElem? (i := 590) (by decide +kernel), List.mem_of_getElem? (i := 591) (by decide +kernel)⟩
theorem lw_p5 : lw_okq (⟨"CardsGone$Reader", "sign", "()I"⟩, 5) := ⟨⟨by decide +kernel, by decide +kernel⟩, List.mem_of_getElem? (i := 336) (by decide +kernel), List.mem_of_getElem? (i := 594) (by decide +kernel), List.mem_of_getElem? (i := 595) (by decide +kernel)⟩
theorem lw_p6 : lw_okq (⟨"CardsGone$Reader", "readNumber", "()Z"⟩, 5) := ⟨⟨by decide +kernel, by decide +kernel⟩, List.mem_of_getElem? (i := 336) (by decide +kernel), List.mem_of_getElem? (i := 602) (by decide +kernel), List.mem_of_getElem? (i := 603) (by decide +kernel)⟩
theorem lw_p7 : lw_okq (⟨"CardsGone$Reader", "emit", "(I)V"⟩, 5) := ⟨⟨by decide +kernel, by decide +kernel⟩, List.mem_of_getElem? (i := 336) (by decide +kernel), List.mem_of_getElem? (i := 606) (by decide +kernel), List.mem_of_getElem? (i := 607) (by decide +kernel)⟩
theorem lw_p8 : lw_okq (⟨"CardsGone$Reader", "readInside", "(I)Z"⟩, 5) := ⟨⟨by decide +kernel, by decide +kernel⟩, List.mem_of_getElem? (i := 336) (by decide +kernel), List.mem_of_getElem? (i := 697) (by decide +kernel), List.mem_of_getElem? (i := 698) (by decide +kernel)⟩
theorem lw_p9 : lw_okq (⟨"CardsGone", "textBecomes", "(I)V"⟩, 16) := ⟨⟨by decide +kernel, by decide +kernel⟩, List.mem_of_getElem? (i := 22) (by decide +kernel), List.mem_of_getElem? (i := 704) (by decide +kernel), List.mem_of_getElem? (i := 705) (by decide +kernel)⟩
theorem lw_p10 : lw_okq (⟨"CardsGone$Text", "pop", "()I"⟩, 4) := ⟨⟨by decide +kernel, by decide +kernel⟩, List.mem_of_getElem? (i := 80) (by decide +kernel), List.mem_of_getElem? (i := 729) (by decide +kernel), List.mem_of_getElem? (i := 730) (by decide +kernel)⟩
theorem lw_p11 : lw_okq (⟨"CardsGone$Text", "work", "(I[I)V"⟩, 4) := ⟨⟨by decide +kernel, by decide +kernel⟩, List.mem_of_getElem? (i := 80) (by decide +kernel), List.mem_of_getElem? (i := 733) (by decide +kernel), List.mem_of_getElem? (i := 734) (by decide +kernel)⟩
theorem lw_p12 : lw_okq (⟨"CardsGone$Text", "push", "(I)V"⟩, 4) := ⟨⟨by decide +kernel, by decide +kernel⟩, List.mem_of_getElem? (i := 80) (by decide +kernel), List.mem_of_getElem? (i := 737) (by decide +kernel), List.mem_of_getElem? (i := 738) (by decide +kernel)⟩
theorem lw_p13 : lw_okq (⟨"CardsGone", "bodyAt", "(I)LCardsGone$Body;"⟩, 16) := ⟨⟨by decide +kernel, by decide +kernel⟩, List.mem_of_getElem? (i := 22) (by decide +kernel), List.mem_of_getElem? (i := 761) (by decide +kernel), List.mem_of_getElem? (i := 762) (by decide +kernel)⟩
theorem lw_p14 : lw_okq (⟨"CardsGone", "mayPlay", "(LCardsGone$Body;)Z"⟩, 16) := ⟨⟨by decide +kernel, by decide +kernel⟩, List.mem_of_getElem? (i := 22) (by decide +kernel), List.mem_of_getElem? (i := 777) (by decide +kernel), List.mem_of_getElem? (i := 778) (by decide +kernel)⟩
theorem lw_p15 : lw_okq (⟨"CardsGone$Shoe", "shuffle", "()V"⟩, 10) := ⟨⟨by decide +kernel, by decide +kernel⟩, List.mem_of_getElem? (i := 30) (by decide +kernel), List.mem_of_getElem? (i := 789) (by decide +kernel), List.mem_of_getElem? (i := 790) (by decide +kernel)⟩
def lw_privs_1 : List (MethodName × Nat) := [(⟨"CardsGone$Shoe", "forget", "()V"⟩, 10), (⟨"CardsGone$Changes", "dropEldest", "()V"⟩, 5), (⟨"CardsGone$Reader", "readLine", "()Z"⟩, 5), (⟨"CardsGone$Reader", "read", "(II)Z"⟩, 5), (⟨"CardsGone$Reader", "readOne", "(I)Z"⟩, 5), (⟨"CardsGone$Reader", "sign", "()I"⟩, 5), (⟨"CardsGone$Reader", "readNumber", "()Z"⟩, 5), (⟨"CardsGone$Reader", "emit", "(I)V"⟩, 5), (⟨"CardsGone$Reader", "readInside", "(I)Z"⟩, 5), (⟨"CardsGone", "textBecomes", "(I)V"⟩, 16), (⟨"CardsGone$Text", "pop", "()I"⟩, 4), (⟨"CardsGone$Text", "work", "(I[I)V"⟩, 4), (⟨"CardsGone$Text", "push", "(I)V"⟩, 4), (⟨"CardsGone", "bodyAt", "(I)LCardsGone$Body;"⟩, 16), (⟨"CardsGone", "mayPlay", "(LCardsGone$Body;)Z"⟩, 16), (⟨"CardsGone$Shoe", "shuffle", "()V"⟩, 10)]
theorem lw_r1 : ∀ q ∈ lw_privs_1, lw_okq q := List.forall_mem_cons.mpr ⟨lw_p0, List.forall_mem_cons.mpr ⟨lw_p1, List.forall_mem_cons.mpr ⟨lw_p2, List.forall_mem_cons.mpr ⟨lw_p3, List.forall_mem_cons.mpr ⟨lw_p4, List.forall_mem_cons.mpr ⟨lw_p5, List.forall_mem_cons.mpr ⟨lw_p6, List.forall_mem_cons.mpr ⟨lw_p7, List.forall_mem_cons.mpr ⟨lw_p8, List.forall_mem_cons.mpr ⟨lw_p9, List.forall_mem_cons.mpr ⟨lw_p10, List.forall_mem_cons.mpr ⟨lw_p11, List.forall_mem_cons.mpr ⟨lw_p12, List.forall_mem_cons.mpr ⟨lw_p13, List.forall_mem_cons.mpr ⟨lw_p14, List.forall_mem_cons.mpr ⟨lw_p15, fun _ h => absurd h List.not_mem_nil⟩⟩⟩⟩⟩⟩⟩⟩⟩⟩⟩⟩⟩⟩⟩⟩
theorem lw_p16 : lw_okq (⟨"CardsGone$Game", "sit", "(LCardsGone$Body;LCardsGone$Shoe;LCardsGone$Shelf;LCardsGone$Deal;)V"⟩, 16) := ⟨⟨by decide +kernel, by decide +kernel⟩, List.mem_of_getElem? (i := 74) (by decide +kernel), List.mem_of_getElem? (i := 794) (by decide +kernel), List.mem_of_getElem? (i := 795) (by decide +kernel)⟩
theorem lw_p17 : lw_okq (⟨"CardsGone$Game", "betNow", "()I"⟩, 16) := ⟨⟨by decide +kernel, by decide +kernel⟩, List.mem_of_getElem? (i := 74) (by decide +kernel), List.mem_of_getElem? (i := 808) (by decide +kernel), List.mem_of_getElem? (i := 809) (by decide +kernel)⟩
theorem lw_p18 : lw_okq (⟨"CardsGone$Game", "betByText", "(I)I"⟩, 16) := ⟨⟨by decide +kernel, by decide +kernel⟩, List.mem_of_getElem? (i := 74) (by decide +kernel), List.mem_of_getElem? (i := 812) (by decide +kernel), List.mem_of_getElem? (i := 813) (by decide +kernel)⟩
theorem lw_p19 : lw_okq (⟨"CardsGone$Game", "nameWhatIsSeen", "()V"⟩, 16) := ⟨⟨by decide +kernel, by decide +kernel⟩, List.mem_of_getElem? (i := 74) (by decide +kernel), List.mem_of_getElem? (i := 816) (by decide +kernel), List.mem_of_getElem? (i := 817) (by decide +kernel)⟩
theorem lw_p20 : lw_okq (⟨"CardsGone$Game", "cardsCome", "()Z"⟩, 16) := ⟨⟨by decide +kernel, by decide +kernel⟩, List.mem_of_getElem? (i := 74) (by decide +kernel), List.mem_of_getElem? (i := 830) (by decide +kernel), List.mem_of_getElem? (i := 831) (by decide +kernel)⟩
theorem lw_p21 : lw_okq (⟨"CardsGone$Game", "giveMine", "()Z"⟩, 16) := ⟨⟨by decide +kernel, by decide +kernel⟩, List.mem_of_getElem? (i := 74) (by decide +kernel), List.mem_of_getElem? (i := 834) (by decide +kernel), List.mem_of_getElem? (i := 835) (by decide +kernel)⟩
theorem lw_p22 : lw_okq (⟨"CardsGone$Game", "next", "(Z)I"⟩, 16) := ⟨⟨by decide +kernel, by decide +kernel⟩, List.mem_of_getElem? (i := 74) (by decide +kernel), List.mem_of_getElem? (i := 838) (by decide +kernel), List.mem_of_getElem? (i := 839) (by decide +kernel)⟩
theorem lw_p23 : lw_okq (⟨"CardsGone$Game", "tagOf", "(I)I"⟩, 16) := ⟨⟨by decide +kernel, by decide +kernel⟩, List.mem_of_getElem? (i := 74) (by decide +kernel), List.mem_of_getElem? (i := 859) (by decide +kernel), List.mem_of_getElem? (i := 860) (by decide +kernel)⟩
theorem lw_p24 : lw_okq (⟨"CardsGone$Game", "giveTheirs", "(Z)Z"⟩, 16) := ⟨⟨by decide +kernel, by decide +kernel⟩, List.mem_of_getElem? (i := 74) (by decide +kernel), List.mem_of_getElem? (i := 874) (by decide +kernel), List.mem_of_getElem? (i := 875) (by decide +kernel)⟩
theorem lw_p25 : lw_okq (⟨"CardsGone$Game", "playerPlays", "(Z)Z"⟩, 16) := ⟨⟨by decide +kernel, by decide +kernel⟩, List.mem_of_getElem? (i := 74) (by decide +kernel), List.mem_of_getElem? (i := 886) (by decide +kernel), List.mem_of_getElem? (i := 887) (by decide +kernel)⟩
theorem lw_p26 : lw_okq (⟨"CardsGone$Game", "askPlay", "()I"⟩, 16) := ⟨⟨by decide +kernel, by decide +kernel⟩, List.mem_of_getElem? (i := 74) (by decide +kernel), List.mem_of_getElem? (i := 902) (by decide +kernel), List.mem_of_getElem? (i := 903) (by decide +kernel)⟩
theorem lw_p27 : lw_okq (⟨"CardsGone$Game", "asMade", "(IZ)I"⟩, 16) := ⟨⟨by decide +kernel, by decide +kernel⟩, List.mem_of_getElem? (i := 74) (by decide +kernel), List.mem_of_getElem? (i := 906) (by decide +kernel), List.mem_of_getElem? (i := 907) (by decide +kernel)⟩
theorem lw_p28 : lw_okq (⟨"CardsGone$Game", "dealerPlays", "()Z"⟩, 16) := ⟨⟨by decide +kernel, by decide +kernel⟩, List.mem_of_getElem? (i := 74) (by decide +kernel), List.mem_of_getElem? (i := 914) (by decide +kernel), List.mem_of_getElem? (i := 915) (by decide +kernel)⟩
theorem lw_p29 : lw_okq (⟨"CardsGone$Odds", "fillEnds", "(I)V"⟩, 11) := ⟨⟨by decide +kernel, by decide +kernel⟩, List.mem_of_getElem? (i := 100) (by decide +kernel), List.mem_of_getElem? (i := 941) (by decide +kernel), List.mem_of_getElem? (i := 942) (by decide +kernel)⟩
theorem lw_p30 : lw_okq (⟨"CardsGone$Odds", "sumOver", "([III)I"⟩, 11) := ⟨⟨by decide +kernel, by decide +kernel⟩, List.mem_of_getElem? (i := 100) (by decide +kernel), List.mem_of_getElem? (i := 946) (by decide +kernel), List.mem_of_getElem? (i := 947) (by decide +kernel)⟩
theorem lw_p31 : lw_okq (⟨"CardsGone$Odds", "byAll", "(I)I"⟩, 11) := ⟨⟨by decide +kernel, by decide +kernel⟩, List.mem_of_getElem? (i := 100) (by decide +kernel), List.mem_of_getElem? (i := 950) (by decide +kernel), List.mem_of_getElem? (i := 951) (by decide +kernel)⟩
def lw_privs_2 : List (MethodName × Nat) := [(⟨"CardsGone$Game", "sit", "(LCardsGone$Body;LCardsGone$Shoe;LCardsGone$Shelf;LCardsGone$Deal;)V"⟩, 16), (⟨"CardsGone$Game", "betNow", "()I"⟩, 16), (⟨"CardsGone$Game", "betByText", "(I)I"⟩, 16), (⟨"CardsGone$Game", "nameWhatIsSeen", "()V"⟩, 16), (⟨"CardsGone$Game", "cardsCome", "()Z"⟩, 16), (⟨"CardsGone$Game", "giveMine", "()Z"⟩, 16), (⟨"CardsGone$Game", "next", "(Z)I"⟩, 16), (⟨"CardsGone$Game", "tagOf", "(I)I"⟩, 16), (⟨"CardsGone$Game", "giveTheirs", "(Z)Z"⟩, 16), (⟨"CardsGone$Game", "playerPlays", "(Z)Z"⟩, 16), (⟨"CardsGone$Game", "askPlay", "()I"⟩, 16), (⟨"CardsGone$Game", "asMade", "(IZ)I"⟩, 16), (⟨"CardsGone$Game", "dealerPlays", "()Z"⟩, 16), (⟨"CardsGone$Odds", "fillEnds", "(I)V"⟩, 11), (⟨"CardsGone$Odds", "sumOver", "([III)I"⟩, 11), (⟨"CardsGone$Odds", "byAll", "(I)I"⟩, 11)]
theorem lw_r2 : ∀ q ∈ lw_privs_2, lw_okq q := List.forall_mem_cons.mpr ⟨lw_p16, List.forall_mem_cons.mpr ⟨lw_p17, List.forall_mem_cons.mpr ⟨lw_p18, List.forall_mem_cons.mpr ⟨lw_p19, List.forall_mem_cons.mpr ⟨lw_p20, List.forall_mem_cons.mpr ⟨lw_p21, List.forall_mem_cons.mpr ⟨lw_p22, List.forall_mem_cons.mpr ⟨lw_p23, List.forall_mem_cons.mpr ⟨lw_p24, List.forall_mem_cons.mpr ⟨lw_p25, List.forall_mem_cons.mpr ⟨lw_p26, List.forall_mem_cons.mpr ⟨lw_p27, List.forall_mem_cons.mpr ⟨lw_p28, List.forall_mem_cons.mpr ⟨lw_p29, List.forall_mem_cons.mpr ⟨lw_p30, List.forall_mem_cons.mpr ⟨lw_p31, fun _ h => absurd h List.not_mem_nil⟩⟩⟩⟩⟩⟩⟩⟩⟩⟩⟩⟩⟩⟩⟩⟩
theorem lw_p32 : lw_okq (⟨"CardsGone$Odds", "openEnd", "(II)I"⟩, 11) := ⟨⟨by decide +kernel, by decide +kernel⟩, List.mem_of_getElem? (i := 100) (by decide +kernel), List.mem_of_getElem? (i := 959) (by decide +kernel), List.mem_of_getElem? (i := 960) (by decide +kernel)⟩
theorem lw_p33 : lw_okq (⟨"CardsGone$Odds", "standing", "(I)I"⟩, 11) := ⟨⟨by decide +kernel, by decide +kernel⟩, List.mem_of_getElem? (i := 100) (by decide +kernel), List.mem_of_getElem? (i := 963) (by decide +kernel), List.mem_of_getElem? (i := 964) (by decide +kernel)⟩
theorem lw_p34 : lw_okq (⟨"CardsGone$Odds", "fillDraws", "(I)V"⟩, 11) := ⟨⟨by decide +kernel, by decide +kernel⟩, List.mem_of_getElem? (i := 100) (by decide +kernel), List.mem_of_getElem? (i := 971) (by decide +kernel), List.mem_of_getElem? (i := 972) (by decide +kernel)⟩
theorem lw_p35 : lw_okq (⟨"CardsGone$Odds", "drawnTo", "(I)I"⟩, 11) := ⟨⟨by decide +kernel, by decide +kernel⟩, List.mem_of_getElem? (i := 100) (by decide +kernel), List.mem_of_getElem? (i := 975) (by decide +kernel), List.mem_of_getElem? (i := 976) (by decide +kernel)⟩
theorem lw_p36 : lw_okq (⟨"CardsGone$Game", "strays", "()Z"⟩, 16) := ⟨⟨by decide +kernel, by decide +kernel⟩, List.mem_of_getElem? (i := 74) (by decide +kernel), List.mem_of_getElem? (i := 980) (by decide +kernel), List.mem_of_getElem? (i := 981) (by decide +kernel)⟩
theorem lw_p37 : lw_okq (⟨"CardsGone$Game", "pointsWith", "(I)I"⟩, 16) := ⟨⟨by decide +kernel, by decide +kernel⟩, List.mem_of_getElem? (i := 74) (by decide +kernel), List.mem_of_getElem? (i := 988) (by decide +kernel), List.mem_of_getElem? (i := 989) (by decide +kernel)⟩
theorem lw_p38 : lw_okq (⟨"CardsGone$Game", "bring", "()V"⟩, 16) := ⟨⟨by decide +kernel, by decide +kernel⟩, List.mem_of_getElem? (i := 74) (by decide +kernel), List.mem_of_getElem? (i := 992) (by decide +kernel), List.mem_of_getElem? (i := 993) (by decide +kernel)⟩
theorem lw_p39 : lw_okq (⟨"CardsGone", "dealAt", "(I)LCardsGone$Deal;"⟩, 16) := ⟨⟨by decide +kernel, by decide +kernel⟩, List.mem_of_getElem? (i := 22) (by decide +kernel), List.mem_of_getElem? (i := 1001) (by decide +kernel), List.mem_of_getElem? (i := 1002) (by decide +kernel)⟩
theorem lw_p40 : lw_okq (⟨"CardsGone$Deal", "cardTold", "(I)I"⟩, 20) := ⟨⟨by decide +kernel, by decide +kernel⟩, List.mem_of_getElem? (i := 187) (by decide +kernel), List.mem_of_getElem? (i := 1009) (by decide +kernel), List.mem_of_getElem? (i := 1010) (by decide +kernel)⟩
theorem lw_p41 : lw_okq (⟨"CardsGone", "shelfAt", "(I)LCardsGone$Shelf;"⟩, 16) := ⟨⟨by decide +kernel, by decide +kernel⟩, List.mem_of_getElem? (i := 22) (by decide +kernel), List.mem_of_getElem? (i := 1019) (by decide +kernel), List.mem_of_getElem? (i := 1020) (by decide +kernel)⟩
theorem lw_p42 : lw_okq (⟨"CardsGone", "oddsAreOfNow", "()Z"⟩, 16) := ⟨⟨by decide +kernel, by decide +kernel⟩, List.mem_of_getElem? (i := 22) (by decide +kernel), List.mem_of_getElem? (i := 1040) (by decide +kernel), List.mem_of_getElem? (i := 1041) (by decide +kernel)⟩
theorem lw_p43 : lw_okq (⟨"CardsGone$Odds", "fillBest", "(I)V"⟩, 11) := ⟨⟨by decide +kernel, by decide +kernel⟩, List.mem_of_getElem? (i := 100) (by decide +kernel), List.mem_of_getElem? (i := 1072) (by decide +kernel), List.mem_of_getElem? (i := 1073) (by decide +kernel)⟩
theorem lw_p44 : lw_okq (⟨"CardsGone$Odds", "setBest", "(II)V"⟩, 11) := ⟨⟨by decide +kernel, by decide +kernel⟩, List.mem_of_getElem? (i := 100) (by decide +kernel), List.mem_of_getElem? (i := 1077) (by decide +kernel), List.mem_of_getElem? (i := 1078) (by decide +kernel)⟩
theorem lw_p45 : lw_okq (⟨"CardsGone$Odds", "worthFrom", "(I)J"⟩, 11) := ⟨⟨by decide +kernel, by decide +kernel⟩, List.mem_of_getElem? (i := 100) (by decide +kernel), List.mem_of_getElem? (i := 1083) (by decide +kernel), List.mem_of_getElem? (i := 1084) (by decide +kernel)⟩
theorem lw_p46 : lw_okq (⟨"CardsGone$Odds", "worthFromTwo", "(I)J"⟩, 11) := ⟨⟨by decide +kernel, by decide +kernel⟩, List.mem_of_getElem? (i := 100) (by decide +kernel), List.mem_of_getElem? (i := 1087) (by decide +kernel), List.mem_of_getElem? (i := 1088) (by decide +kernel)⟩
theorem lw_p47 : lw_okq (⟨"CardsGone$Odds", "worthAgainst", "(II)J"⟩, 11) := ⟨⟨by decide +kernel, by decide +kernel⟩, List.mem_of_getElem? (i := 100) (by decide +kernel), List.mem_of_getElem? (i := 1091) (by decide +kernel), List.mem_of_getElem? (i := 1092) (by decide +kernel)⟩
def lw_privs_3 : List (MethodName × Nat) := [(⟨"CardsGone$Odds", "openEnd", "(II)I"⟩, 11), (⟨"CardsGone$Odds", "standing", "(I)I"⟩, 11), (⟨"CardsGone$Odds", "fillDraws", "(I)V"⟩, 11), (⟨"CardsGone$Odds", "drawnTo", "(I)I"⟩, 11), (⟨"CardsGone$Game", "strays", "()Z"⟩, 16), (⟨"CardsGone$Game", "pointsWith", "(I)I"⟩, 16), (⟨"CardsGone$Game", "bring", "()V"⟩, 16), (⟨"CardsGone", "dealAt", "(I)LCardsGone$Deal;"⟩, 16), (⟨"CardsGone$Deal", "cardTold", "(I)I"⟩, 20), (⟨"CardsGone", "shelfAt", "(I)LCardsGone$Shelf;"⟩, 16), (⟨"CardsGone", "oddsAreOfNow", "()Z"⟩, 16), (⟨"CardsGone$Odds", "fillBest", "(I)V"⟩, 11), (⟨"CardsGone$Odds", "setBest", "(II)V"⟩, 11), (⟨"CardsGone$Odds", "worthFrom", "(I)J"⟩, 11), (⟨"CardsGone$Odds", "worthFromTwo", "(I)J"⟩, 11), (⟨"CardsGone$Odds", "worthAgainst", "(II)J"⟩, 11)]
theorem lw_r3 : ∀ q ∈ lw_privs_3, lw_okq q := List.forall_mem_cons.mpr ⟨lw_p32, List.forall_mem_cons.mpr ⟨lw_p33, List.forall_mem_cons.mpr ⟨lw_p34, List.forall_mem_cons.mpr ⟨lw_p35, List.forall_mem_cons.mpr ⟨lw_p36, List.forall_mem_cons.mpr ⟨lw_p37, List.forall_mem_cons.mpr ⟨lw_p38, List.forall_mem_cons.mpr ⟨lw_p39, List.forall_mem_cons.mpr ⟨lw_p40, List.forall_mem_cons.mpr ⟨lw_p41, List.forall_mem_cons.mpr ⟨lw_p42, List.forall_mem_cons.mpr ⟨lw_p43, List.forall_mem_cons.mpr ⟨lw_p44, List.forall_mem_cons.mpr ⟨lw_p45, List.forall_mem_cons.mpr ⟨lw_p46, List.forall_mem_cons.mpr ⟨lw_p47, fun _ h => absurd h List.not_mem_nil⟩⟩⟩⟩⟩⟩⟩⟩⟩⟩⟩⟩⟩⟩⟩⟩
theorem lw_p48 : lw_okq (⟨"CardsGone$Odds", "longByAll", "(J)J"⟩, 11) := ⟨⟨by decide +kernel, by decide +kernel⟩, List.mem_of_getElem? (i := 100) (by decide +kernel), List.mem_of_getElem? (i := 1096) (by decide +kernel), List.mem_of_getElem? (i := 1097) (by decide +kernel)⟩
theorem lw_p49 : lw_okq (⟨"CardsGone", "oddsAreOfWhole", "()Z"⟩, 16) := ⟨⟨by decide +kernel, by decide +kernel⟩, List.mem_of_getElem? (i := 22) (by decide +kernel), List.mem_of_getElem? (i := 1104) (by decide +kernel), List.mem_of_getElem? (i := 1105) (by decide +kernel)⟩
theorem lw_p50 : lw_okq (⟨"CardsGone", "trial", "(LCardsGone$Body;III)I"⟩, 16) := ⟨⟨by decide +kernel, by decide +kernel⟩, List.mem_of_getElem? (i := 22) (by decide +kernel), List.mem_of_getElem? (i := 1131) (by decide +kernel), List.mem_of_getElem? (i := 1132) (by decide +kernel)⟩
theorem lw_p51 : lw_okq (⟨"CardsGone", "wordOf", "(I)I"⟩, 16) := ⟨⟨by decide +kernel, by decide +kernel⟩, List.mem_of_getElem? (i := 22) (by decide +kernel), List.mem_of_getElem? (i := 1189) (by decide +kernel), List.mem_of_getElem? (i := 1190) (by decide +kernel)⟩
theorem lw_p52 : lw_okq (⟨"CardsGone", "becomes", "(II)V"⟩, 16) := ⟨⟨by decide +kernel, by decide +kernel⟩, List.mem_of_getElem? (i := 22) (by decide +kernel), List.mem_of_getElem? (i := 1209) (by decide +kernel), List.mem_of_getElem? (i := 1210) (by decide +kernel)⟩
theorem lw_p53 : lw_okq (⟨"CardsGone$Acts", "from", "(IIII)I"⟩, 4) := ⟨⟨by decide +kernel, by decide +kernel⟩, List.mem_of_getElem? (i := 406) (by decide +kernel), List.mem_of_getElem? (i := 1229) (by decide +kernel), List.mem_of_getElem? (i := 1230) (by decide +kernel)⟩
theorem lw_p54 : lw_okq (⟨"CardsGone$Acts", "tellsOf", "(II)I"⟩, 4) := ⟨⟨by decide +kernel, by decide +kernel⟩, List.mem_of_getElem? (i := 406) (by decide +kernel), List.mem_of_getElem? (i := 1243) (by decide +kernel), List.mem_of_getElem? (i := 1244) (by decide +kernel)⟩
theorem lw_p55 : lw_okq (⟨"CardsGone$Acts", "signalledBet", "(II)I"⟩, 4) := ⟨⟨by decide +kernel, by decide +kernel⟩, List.mem_of_getElem? (i := 406) (by decide +kernel), List.mem_of_getElem? (i := 1247) (by decide +kernel), List.mem_of_getElem? (i := 1248) (by decide +kernel)⟩
theorem lw_p56 : lw_okq (⟨"CardsGone$Acts", "feignedCount", "(II)I"⟩, 4) := ⟨⟨by decide +kernel, by decide +kernel⟩, List.mem_of_getElem? (i := 406) (by decide +kernel), List.mem_of_getElem? (i := 1251) (by decide +kernel), List.mem_of_getElem? (i := 1252) (by decide +kernel)⟩
theorem lw_p57 : lw_okq (⟨"CardsGone$Shelf", "lowestBits", "(J)J"⟩, 5) := ⟨⟨by decide +kernel, by decide +kernel⟩, List.mem_of_getElem? (i := 428) (by decide +kernel), List.mem_of_getElem? (i := 1288) (by decide +kernel), List.mem_of_getElem? (i := 1289) (by decide +kernel)⟩
theorem lw_p58 : lw_okq (⟨"CardsGoneModel", "clearSeen", "()V"⟩, 95) := ⟨⟨by decide +kernel, by decide +kernel⟩, List.mem_of_getElem? (i := 1327) (by decide +kernel), List.mem_of_getElem? (i := 1628) (by decide +kernel), List.mem_of_getElem? (i := 1629) (by decide +kernel)⟩
theorem lw_p59 : lw_okq (⟨"CardsGoneModel", "leftOf", "(I)I"⟩, 95) := ⟨⟨by decide +kernel, by decide +kernel⟩, List.mem_of_getElem? (i := 1327) (by decide +kernel), List.mem_of_getElem? (i := 1636) (by decide +kernel), List.mem_of_getElem? (i := 1637) (by decide +kernel)⟩
theorem lw_p60 : lw_okq (⟨"CardsGoneModel", "allCards", "()I"⟩, 95) := ⟨⟨by decide +kernel, by decide +kernel⟩, List.mem_of_getElem? (i := 1327) (by decide +kernel), List.mem_of_getElem? (i := 1640) (by decide +kernel), List.mem_of_getElem? (i := 1641) (by decide +kernel)⟩
theorem lw_p61 : lw_okq (⟨"CardsGoneModel", "cardsOf", "(I)I"⟩, 95) := ⟨⟨by decide +kernel, by decide +kernel⟩, List.mem_of_getElem? (i := 1327) (by decide +kernel), List.mem_of_getElem? (i := 1644) (by decide +kernel), List.mem_of_getElem? (i := 1645) (by decide +kernel)⟩
theorem lw_p62 : lw_okq (⟨"CardsGoneModel", "trueCount", "()I"⟩, 95) := ⟨⟨by decide +kernel, by decide +kernel⟩, List.mem_of_getElem? (i := 1327) (by decide +kernel), List.mem_of_getElem? (i := 1648) (by decide +kernel), List.mem_of_getElem? (i := 1649) (by decide +kernel)⟩
theorem lw_p63 : lw_okq (⟨"CardsGoneModel", "set", "(III)V"⟩, 95) := ⟨⟨by decide +kernel, by decide +kernel⟩, List.mem_of_getElem? (i := 1327) (by decide +kernel), List.mem_of_getElem? (i := 1656) (by decide +kernel), List.mem_of_getElem? (i := 1657) (by decide +kernel)⟩
def lw_privs_4 : List (MethodName × Nat) := [(⟨"CardsGone$Odds", "longByAll", "(J)J"⟩, 11), (⟨"CardsGone", "oddsAreOfWhole", "()Z"⟩, 16), (⟨"CardsGone", "trial", "(LCardsGone$Body;III)I"⟩, 16), (⟨"CardsGone", "wordOf", "(I)I"⟩, 16), (⟨"CardsGone", "becomes", "(II)V"⟩, 16), (⟨"CardsGone$Acts", "from", "(IIII)I"⟩, 4), (⟨"CardsGone$Acts", "tellsOf", "(II)I"⟩, 4), (⟨"CardsGone$Acts", "signalledBet", "(II)I"⟩, 4), (⟨"CardsGone$Acts", "feignedCount", "(II)I"⟩, 4), (⟨"CardsGone$Shelf", "lowestBits", "(J)J"⟩, 5), (⟨"CardsGoneModel", "clearSeen", "()V"⟩, 95), (⟨"CardsGoneModel", "leftOf", "(I)I"⟩, 95), (⟨"CardsGoneModel", "allCards", "()I"⟩, 95), (⟨"CardsGoneModel", "cardsOf", "(I)I"⟩, 95), (⟨"CardsGoneModel", "trueCount", "()I"⟩, 95), (⟨"CardsGoneModel", "set", "(III)V"⟩, 95)]
theorem lw_r4 : ∀ q ∈ lw_privs_4, lw_okq q := List.forall_mem_cons.mpr ⟨lw_p48, List.forall_mem_cons.mpr ⟨lw_p49, List.forall_mem_cons.mpr ⟨lw_p50, List.forall_mem_cons.mpr ⟨lw_p51, List.forall_mem_cons.mpr ⟨lw_p52, List.forall_mem_cons.mpr ⟨lw_p53, List.forall_mem_cons.mpr ⟨lw_p54, List.forall_mem_cons.mpr ⟨lw_p55, List.forall_mem_cons.mpr ⟨lw_p56, List.forall_mem_cons.mpr ⟨lw_p57, List.forall_mem_cons.mpr ⟨lw_p58, List.forall_mem_cons.mpr ⟨lw_p59, List.forall_mem_cons.mpr ⟨lw_p60, List.forall_mem_cons.mpr ⟨lw_p61, List.forall_mem_cons.mpr ⟨lw_p62, List.forall_mem_cons.mpr ⟨lw_p63, fun _ h => absurd h List.not_mem_nil⟩⟩⟩⟩⟩⟩⟩⟩⟩⟩⟩⟩⟩⟩⟩⟩
theorem lw_p64 : lw_okq (⟨"CardsGoneModel", "changes", "(III)I"⟩, 95) := ⟨⟨by decide +kernel, by decide +kernel⟩, List.mem_of_getElem? (i := 1327) (by decide +kernel), List.mem_of_getElem? (i := 1671) (by decide +kernel), List.mem_of_getElem? (i := 1672) (by decide +kernel)⟩
theorem lw_p65 : lw_okq (⟨"CardsGoneModel", "line", "()V"⟩, 95) := ⟨⟨by decide +kernel, by decide +kernel⟩, List.mem_of_getElem? (i := 1327) (by decide +kernel), List.mem_of_getElem? (i := 1687) (by decide +kernel), List.mem_of_getElem? (i := 1688) (by decide +kernel)⟩
theorem lw_p66 : lw_okq (⟨"CardsGoneModel", "either", "()V"⟩, 95) := ⟨⟨by decide +kernel, by decide +kernel⟩, List.mem_of_getElem? (i := 1327) (by decide +kernel), List.mem_of_getElem? (i := 1691) (by decide +kernel), List.mem_of_getElem? (i := 1692) (by decide +kernel)⟩
theorem lw_p67 : lw_okq (⟨"CardsGoneModel", "both", "()V"⟩, 95) := ⟨⟨by decide +kernel, by decide +kernel⟩, List.mem_of_getElem? (i := 1327) (by decide +kernel), List.mem_of_getElem? (i := 1695) (by decide +kernel), List.mem_of_getElem? (i := 1696) (by decide +kernel)⟩
theorem lw_p68 : lw_okq (⟨"CardsGoneModel", "compared", "()V"⟩, 95) := ⟨⟨by decide +kernel, by decide +kernel⟩, List.mem_of_getElem? (i := 1327) (by decide +kernel), List.mem_of_getElem? (i := 1699) (by decide +kernel), List.mem_of_getElem? (i := 1700) (by decide +kernel)⟩
theorem lw_p69 : lw_okq (⟨"CardsGoneModel", "sum", "()V"⟩, 95) := ⟨⟨by decide +kernel, by decide +kernel⟩, List.mem_of_getElem? (i := 1327) (by decide +kernel), List.mem_of_getElem? (i := 1703) (by decide +kernel), List.mem_of_getElem? (i := 1704) (by decide +kernel)⟩
theorem lw_p70 : lw_okq (⟨"CardsGoneModel", "product", "()V"⟩, 95) := ⟨⟨by decide +kernel, by decide +kernel⟩, List.mem_of_getElem? (i := 1327) (by decide +kernel), List.mem_of_getElem? (i := 1707) (by decide +kernel), List.mem_of_getElem? (i := 1708) (by decide +kernel)⟩
theorem lw_p71 : lw_okq (⟨"CardsGoneModel", "operand", "()V"⟩, 95) := ⟨⟨by decide +kernel, by decide +kernel⟩, List.mem_of_getElem? (i := 1327) (by decide +kernel), List.mem_of_getElem? (i := 1711) (by decide +kernel), List.mem_of_getElem? (i := 1712) (by decide +kernel)⟩
theorem lw_p72 : lw_okq (⟨"CardsGoneModel", "look", "()I"⟩, 95) := ⟨⟨by decide +kernel, by decide +kernel⟩, List.mem_of_getElem? (i := 1327) (by decide +kernel), List.mem_of_getElem? (i := 1715) (by decide +kernel), List.mem_of_getElem? (i := 1716) (by decide +kernel)⟩
theorem lw_p73 : lw_okq (⟨"CardsGoneModel", "addStep", "(II)V"⟩, 95) := ⟨⟨by decide +kernel, by decide +kernel⟩, List.mem_of_getElem? (i := 1327) (by decide +kernel), List.mem_of_getElem? (i := 1722) (by decide +kernel), List.mem_of_getElem? (i := 1723) (by decide +kernel)⟩
theorem lw_p74 : lw_okq (⟨"CardsGoneModel", "opens", "()Z"⟩, 95) := ⟨⟨by decide +kernel, by decide +kernel⟩, List.mem_of_getElem? (i := 1327) (by decide +kernel), List.mem_of_getElem? (i := 1726) (by decide +kernel), List.mem_of_getElem? (i := 1727) (by decide +kernel)⟩
theorem lw_p75 : lw_okq (⟨"CardsGoneModel", "wrong", "()V"⟩, 95) := ⟨⟨by decide +kernel, by decide +kernel⟩, List.mem_of_getElem? (i := 1327) (by decide +kernel), List.mem_of_getElem? (i := 1730) (by decide +kernel), List.mem_of_getElem? (i := 1731) (by decide +kernel)⟩
theorem lw_p76 : lw_okq (⟨"CardsGoneModel", "figure", "()V"⟩, 95) := ⟨⟨by decide +kernel, by decide +kernel⟩, List.mem_of_getElem? (i := 1327) (by decide +kernel), List.mem_of_getElem? (i := 1734) (by decide +kernel), List.mem_of_getElem? (i := 1735) (by decide +kernel)⟩
theorem lw_p77 : lw_okq (⟨"CardsGoneModel", "tagOf", "(I)I"⟩, 95) := ⟨⟨by decide +kernel, by decide +kernel⟩, List.mem_of_getElem? (i := 1327) (by decide +kernel), List.mem_of_getElem? (i := 1742) (by decide +kernel), List.mem_of_getElem? (i := 1743) (by decide +kernel)⟩
theorem lw_p78 : lw_okq (⟨"CardsGoneModel", "clearFacts", "()V"⟩, 95) := ⟨⟨by decide +kernel, by decide +kernel⟩, List.mem_of_getElem? (i := 1327) (by decide +kernel), List.mem_of_getElem? (i := 1746) (by decide +kernel), List.mem_of_getElem? (i := 1747) (by decide +kernel)⟩
theorem lw_p79 : lw_okq (⟨"CardsGoneModel", "gives", "(I)I"⟩, 95) := ⟨⟨by decide +kernel, by decide +kernel⟩, List.mem_of_getElem? (i := 1327) (by decide +kernel), List.mem_of_getElem? (i := 1750) (by decide +kernel), List.mem_of_getElem? (i := 1751) (by decide +kernel)⟩
def lw_privs_5 : List (MethodName × Nat) := [(⟨"CardsGoneModel", "changes", "(III)I"⟩, 95), (⟨"CardsGoneModel", "line", "()V"⟩, 95), (⟨"CardsGoneModel", "either", "()V"⟩, 95), (⟨"CardsGoneModel", "both", "()V"⟩, 95), (⟨"CardsGoneModel", "compared", "()V"⟩, 95), (⟨"CardsGoneModel", "sum", "()V"⟩, 95), (⟨"CardsGoneModel", "product", "()V"⟩, 95), (⟨"CardsGoneModel", "operand", "()V"⟩, 95), (⟨"CardsGoneModel", "look", "()I"⟩, 95), (⟨"CardsGoneModel", "addStep", "(II)V"⟩, 95), (⟨"CardsGoneModel", "opens", "()Z"⟩, 95), (⟨"CardsGoneModel", "wrong", "()V"⟩, 95), (⟨"CardsGoneModel", "figure", "()V"⟩, 95), (⟨"CardsGoneModel", "tagOf", "(I)I"⟩, 95), (⟨"CardsGoneModel", "clearFacts", "()V"⟩, 95), (⟨"CardsGoneModel", "gives", "(I)I"⟩, 95)]
theorem lw_r5 : ∀ q ∈ lw_privs_5, lw_okq q := List.forall_mem_cons.mpr ⟨lw_p64, List.forall_mem_cons.mpr ⟨lw_p65, List.forall_mem_cons.mpr ⟨lw_p66, List.forall_mem_cons.mpr ⟨lw_p67, List.forall_mem_cons.mpr ⟨lw_p68, List.forall_mem_cons.mpr ⟨lw_p69, List.forall_mem_cons.mpr ⟨lw_p70, List.forall_mem_cons.mpr ⟨lw_p71, List.forall_mem_cons.mpr ⟨lw_p72, List.forall_mem_cons.mpr ⟨lw_p73, List.forall_mem_cons.mpr ⟨lw_p74, List.forall_mem_cons.mpr ⟨lw_p75, List.forall_mem_cons.mpr ⟨lw_p76, List.forall_mem_cons.mpr ⟨lw_p77, List.forall_mem_cons.mpr ⟨lw_p78, List.forall_mem_cons.mpr ⟨lw_p79, fun _ h => absurd h List.not_mem_nil⟩⟩⟩⟩⟩⟩⟩⟩⟩⟩⟩⟩⟩⟩⟩⟩
theorem lw_p80 : lw_okq (⟨"CardsGoneModel", "worked", "(III)I"⟩, 95) := ⟨⟨by decide +kernel, by decide +kernel⟩, List.mem_of_getElem? (i := 1327) (by decide +kernel), List.mem_of_getElem? (i := 1754) (by decide +kernel), List.mem_of_getElem? (i := 1755) (by decide +kernel)⟩
theorem lw_p81 : lw_okq (⟨"CardsGoneModel", "isPlayer", "(I)Z"⟩, 95) := ⟨⟨by decide +kernel, by decide +kernel⟩, List.mem_of_getElem? (i := 1327) (by decide +kernel), List.mem_of_getElem? (i := 1773) (by decide +kernel), List.mem_of_getElem? (i := 1774) (by decide +kernel)⟩
theorem lw_p82 : lw_okq (⟨"CardsGoneModel", "isBarred", "(I)Z"⟩, 95) := ⟨⟨by decide +kernel, by decide +kernel⟩, List.mem_of_getElem? (i := 1327) (by decide +kernel), List.mem_of_getElem? (i := 1777) (by decide +kernel), List.mem_of_getElem? (i := 1778) (by decide +kernel)⟩
theorem lw_p83 : lw_okq (⟨"CardsGoneModel", "asLeft", "()V"⟩, 95) := ⟨⟨by decide +kernel, by decide +kernel⟩, List.mem_of_getElem? (i := 1327) (by decide +kernel), List.mem_of_getElem? (i := 1789) (by decide +kernel), List.mem_of_getElem? (i := 1790) (by decide +kernel)⟩
theorem lw_p84 : lw_okq (⟨"CardsGoneModel", "forgetEnds", "()V"⟩, 95) := ⟨⟨by decide +kernel, by decide +kernel⟩, List.mem_of_getElem? (i := 1327) (by decide +kernel), List.mem_of_getElem? (i := 1793) (by decide +kernel), List.mem_of_getElem? (i := 1794) (by decide +kernel)⟩
theorem lw_p85 : lw_okq (⟨"CardsGoneModel", "endsFrom", "(I)V"⟩, 95) := ⟨⟨by decide +kernel, by decide +kernel⟩, List.mem_of_getElem? (i := 1327) (by decide +kernel), List.mem_of_getElem? (i := 1797) (by decide +kernel), List.mem_of_getElem? (i := 1798) (by decide +kernel)⟩
theorem lw_p86 : lw_okq (⟨"CardsGoneModel", "findEnds", "(IZ)V"⟩, 95) := ⟨⟨by decide +kernel, by decide +kernel⟩, List.mem_of_getElem? (i := 1327) (by decide +kernel), List.mem_of_getElem? (i := 1802) (by decide +kernel), List.mem_of_getElem? (i := 1803) (by decide +kernel)⟩
theorem lw_p87 : lw_okq (⟨"CardsGoneModel", "dealerDraws", "(IZ)Z"⟩, 95) := ⟨⟨by decide +kernel, by decide +kernel⟩, List.mem_of_getElem? (i := 1327) (by decide +kernel), List.mem_of_getElem? (i := 1806) (by decide +kernel), List.mem_of_getElem? (i := 1807) (by decide +kernel)⟩
theorem lw_p88 : lw_okq (⟨"CardsGoneModel", "bestAt", "(IZZ)I"⟩, 95) := ⟨⟨by decide +kernel, by decide +kernel⟩, List.mem_of_getElem? (i := 1327) (by decide +kernel), List.mem_of_getElem? (i := 1826) (by decide +kernel), List.mem_of_getElem? (i := 1827) (by decide +kernel)⟩
theorem lw_p89 : lw_okq (⟨"CardsGoneModel", "playAt", "(IZI)J"⟩, 95) := ⟨⟨by decide +kernel, by decide +kernel⟩, List.mem_of_getElem? (i := 1327) (by decide +kernel), List.mem_of_getElem? (i := 1830) (by decide +kernel), List.mem_of_getElem? (i := 1831) (by decide +kernel)⟩
theorem lw_p90 : lw_okq (⟨"CardsGoneModel", "standAt", "(I)J"⟩, 95) := ⟨⟨by decide +kernel, by decide +kernel⟩, List.mem_of_getElem? (i := 1327) (by decide +kernel), List.mem_of_getElem? (i := 1834) (by decide +kernel), List.mem_of_getElem? (i := 1835) (by decide +kernel)⟩
theorem lw_p91 : lw_okq (⟨"CardsGoneModel", "drawAt", "(IZ)J"⟩, 95) := ⟨⟨by decide +kernel, by decide +kernel⟩, List.mem_of_getElem? (i := 1327) (by decide +kernel), List.mem_of_getElem? (i := 1838) (by decide +kernel), List.mem_of_getElem? (i := 1839) (by decide +kernel)⟩
theorem lw_p92 : lw_okq (⟨"CardsGoneModel", "doubleAt", "(IZ)J"⟩, 95) := ⟨⟨by decide +kernel, by decide +kernel⟩, List.mem_of_getElem? (i := 1327) (by decide +kernel), List.mem_of_getElem? (i := 1842) (by decide +kernel), List.mem_of_getElem? (i := 1843) (by decide +kernel)⟩
theorem lw_p93 : lw_okq (⟨"CardsGoneModel", "wholeBy", "()J"⟩, 95) := ⟨⟨by decide +kernel, by decide +kernel⟩, List.mem_of_getElem? (i := 1327) (by decide +kernel), List.mem_of_getElem? (i := 1855) (by decide +kernel), List.mem_of_getElem? (i := 1856) (by decide +kernel)⟩
theorem lw_p94 : lw_okq (⟨"CardsGoneModel", "asWhole", "()V"⟩, 95) := ⟨⟨by decide +kernel, by decide +kernel⟩, List.mem_of_getElem? (i := 1327) (by decide +kernel), List.mem_of_getElem? (i := 1864) (by decide +kernel), List.mem_of_getElem? (i := 1865) (by decide +kernel)⟩
theorem lw_p95 : lw_okq (⟨"CardsGoneModel", "playMany", "(II)I"⟩, 95) := ⟨⟨by decide +kernel, by decide +kernel⟩, List.mem_of_getElem? (i := 1327) (by decide +kernel), List.mem_of_getElem? (i := 1879) (by decide +kernel), List.mem_of_getElem? (i := 1880) (by decide +kernel)⟩
def lw_privs_6 : List (MethodName × Nat) := [(⟨"CardsGoneModel", "worked", "(III)I"⟩, 95), (⟨"CardsGoneModel", "isPlayer", "(I)Z"⟩, 95), (⟨"CardsGoneModel", "isBarred", "(I)Z"⟩, 95), (⟨"CardsGoneModel", "asLeft", "()V"⟩, 95), (⟨"CardsGoneModel", "forgetEnds", "()V"⟩, 95), (⟨"CardsGoneModel", "endsFrom", "(I)V"⟩, 95), (⟨"CardsGoneModel", "findEnds", "(IZ)V"⟩, 95), (⟨"CardsGoneModel", "dealerDraws", "(IZ)Z"⟩, 95), (⟨"CardsGoneModel", "bestAt", "(IZZ)I"⟩, 95), (⟨"CardsGoneModel", "playAt", "(IZI)J"⟩, 95), (⟨"CardsGoneModel", "standAt", "(I)J"⟩, 95), (⟨"CardsGoneModel", "drawAt", "(IZ)J"⟩, 95), (⟨"CardsGoneModel", "doubleAt", "(IZ)J"⟩, 95), (⟨"CardsGoneModel", "wholeBy", "()J"⟩, 95), (⟨"CardsGoneModel", "asWhole", "()V"⟩, 95), (⟨"CardsGoneModel", "playMany", "(II)I"⟩, 95)]
theorem lw_r6 : ∀ q ∈ lw_privs_6, lw_okq q := List.forall_mem_cons.mpr ⟨lw_p80, List.forall_mem_cons.mpr ⟨lw_p81, List.forall_mem_cons.mpr ⟨lw_p82, List.forall_mem_cons.mpr ⟨lw_p83, List.forall_mem_cons.mpr ⟨lw_p84, List.forall_mem_cons.mpr ⟨lw_p85, List.forall_mem_cons.mpr ⟨lw_p86, List.forall_mem_cons.mpr ⟨lw_p87, List.forall_mem_cons.mpr ⟨lw_p88, List.forall_mem_cons.mpr ⟨lw_p89, List.forall_mem_cons.mpr ⟨lw_p90, List.forall_mem_cons.mpr ⟨lw_p91, List.forall_mem_cons.mpr ⟨lw_p92, List.forall_mem_cons.mpr ⟨lw_p93, List.forall_mem_cons.mpr ⟨lw_p94, List.forall_mem_cons.mpr ⟨lw_p95, fun _ h => absurd h List.not_mem_nil⟩⟩⟩⟩⟩⟩⟩⟩⟩⟩⟩⟩⟩⟩⟩⟩
theorem lw_p96 : lw_okq (⟨"CardsGoneModel", "playOne", "(II)V"⟩, 95) := ⟨⟨by decide +kernel, by decide +kernel⟩, List.mem_of_getElem? (i := 1327) (by decide +kernel), List.mem_of_getElem? (i := 1883) (by decide +kernel), List.mem_of_getElem? (i := 1884) (by decide +kernel)⟩
theorem lw_p97 : lw_okq (⟨"CardsGoneModel", "shuffle", "()V"⟩, 95) := ⟨⟨by decide +kernel, by decide +kernel⟩, List.mem_of_getElem? (i := 1327) (by decide +kernel), List.mem_of_getElem? (i := 1887) (by decide +kernel), List.mem_of_getElem? (i := 1888) (by decide +kernel)⟩
theorem lw_p98 : lw_okq (⟨"CardsGoneModel", "betOf", "(I)I"⟩, 95) := ⟨⟨by decide +kernel, by decide +kernel⟩, List.mem_of_getElem? (i := 1327) (by decide +kernel), List.mem_of_getElem? (i := 1892) (by decide +kernel), List.mem_of_getElem? (i := 1893) (by decide +kernel)⟩
theorem lw_p99 : lw_okq (⟨"CardsGoneModel", "findSight", "(I)V"⟩, 95) := ⟨⟨by decide +kernel, by decide +kernel⟩, List.mem_of_getElem? (i := 1327) (by decide +kernel), List.mem_of_getElem? (i := 1896) (by decide +kernel), List.mem_of_getElem? (i := 1897) (by decide +kernel)⟩
theorem lw_p100 : lw_okq (⟨"CardsGoneModel", "playHand", "()I"⟩, 95) := ⟨⟨by decide +kernel, by decide +kernel⟩, List.mem_of_getElem? (i := 1327) (by decide +kernel), List.mem_of_getElem? (i := 1906) (by decide +kernel), List.mem_of_getElem? (i := 1907) (by decide +kernel)⟩
theorem lw_p101 : lw_okq (⟨"CardsGoneModel", "takeOwn", "()Z"⟩, 95) := ⟨⟨by decide +kernel, by decide +kernel⟩, List.mem_of_getElem? (i := 1327) (by decide +kernel), List.mem_of_getElem? (i := 1910) (by decide +kernel), List.mem_of_getElem? (i := 1911) (by decide +kernel)⟩
theorem lw_p102 : lw_okq (⟨"CardsGoneModel", "nextCard", "()I"⟩, 95) := ⟨⟨by decide +kernel, by decide +kernel⟩, List.mem_of_getElem? (i := 1327) (by decide +kernel), List.mem_of_getElem? (i := 1914) (by decide +kernel), List.mem_of_getElem? (i := 1915) (by decide +kernel)⟩
theorem lw_p103 : lw_okq (⟨"CardsGoneModel", "keepCard", "(ZI)V"⟩, 95) := ⟨⟨by decide +kernel, by decide +kernel⟩, List.mem_of_getElem? (i := 1327) (by decide +kernel), List.mem_of_getElem? (i := 1918) (by decide +kernel), List.mem_of_getElem? (i := 1919) (by decide +kernel)⟩
theorem lw_p104 : lw_okq (⟨"CardsGoneModel", "show", "(I)V"⟩, 95) := ⟨⟨by decide +kernel, by decide +kernel⟩, List.mem_of_getElem? (i := 1327) (by decide +kernel), List.mem_of_getElem? (i := 1922) (by decide +kernel), List.mem_of_getElem? (i := 1923) (by decide +kernel)⟩
theorem lw_p105 : lw_okq (⟨"CardsGoneModel", "askPlay", "(I)I"⟩, 95) := ⟨⟨by decide +kernel, by decide +kernel⟩, List.mem_of_getElem? (i := 1327) (by decide +kernel), List.mem_of_getElem? (i := 1926) (by decide +kernel), List.mem_of_getElem? (i := 1927) (by decide +kernel)⟩
theorem lw_p106 : lw_okq (⟨"CardsGoneModel", "lookAtBest", "(II)V"⟩, 95) := ⟨⟨by decide +kernel, by decide +kernel⟩, List.mem_of_getElem? (i := 1327) (by decide +kernel), List.mem_of_getElem? (i := 1930) (by decide +kernel), List.mem_of_getElem? (i := 1931) (by decide +kernel)⟩
theorem lw_p107 : lw_okq (⟨"CardsGoneModel", "pointsFor", "(IIII)I"⟩, 95) := ⟨⟨by decide +kernel, by decide +kernel⟩, List.mem_of_getElem? (i := 1327) (by decide +kernel), List.mem_of_getElem? (i := 1935) (by decide +kernel), List.mem_of_getElem? (i := 1936) (by decide +kernel)⟩
theorem lw_p108 : lw_okq (⟨"CardsGoneModel", "findDeep", "(III)V"⟩, 95) := ⟨⟨by decide +kernel, by decide +kernel⟩, List.mem_of_getElem? (i := 1327) (by decide +kernel), List.mem_of_getElem? (i := 1963) (by decide +kernel), List.mem_of_getElem? (i := 1964) (by decide +kernel)⟩
theorem lw_p109 : lw_okq (⟨"CardsGoneModel", "keepLed", "(Z)V"⟩, 95) := ⟨⟨by decide +kernel, by decide +kernel⟩, List.mem_of_getElem? (i := 1327) (by decide +kernel), List.mem_of_getElem? (i := 1967) (by decide +kernel), List.mem_of_getElem? (i := 1968) (by decide +kernel)⟩
theorem lw_p110 : lw_okq (⟨"CardsGoneModel", "moveInt", "(Z[III)V"⟩, 95) := ⟨⟨by decide +kernel, by decide +kernel⟩, List.mem_of_getElem? (i := 1327) (by decide +kernel), List.mem_of_getElem? (i := 1971) (by decide +kernel), List.mem_of_getElem? (i := 1972) (by decide +kernel)⟩
theorem lw_p111 : lw_okq (⟨"CardsGoneModel", "findOrder", "(I)V"⟩, 95) := ⟨⟨by decide +kernel, by decide +kernel⟩, List.mem_of_getElem? (i := 1327) (by decide +kernel), List.mem_of_getElem? (i := 1987) (by decide +kernel), List.mem_of_getElem? (i := 1988) (by decide +kernel)⟩
def lw_privs_7 : List (MethodName × Nat) := [(⟨"CardsGoneModel", "playOne", "(II)V"⟩, 95), (⟨"CardsGoneModel", "shuffle", "()V"⟩, 95), (⟨"CardsGoneModel", "betOf", "(I)I"⟩, 95), (⟨"CardsGoneModel", "findSight", "(I)V"⟩, 95), (⟨"CardsGoneModel", "playHand", "()I"⟩, 95), (⟨"CardsGoneModel", "takeOwn", "()Z"⟩, 95), (⟨"CardsGoneModel", "nextCard", "()I"⟩, 95), (⟨"CardsGoneModel", "keepCard", "(ZI)V"⟩, 95), (⟨"CardsGoneModel", "show", "(I)V"⟩, 95), (⟨"CardsGoneModel", "askPlay", "(I)I"⟩, 95), (⟨"CardsGoneModel", "lookAtBest", "(II)V"⟩, 95), (⟨"CardsGoneModel", "pointsFor", "(IIII)I"⟩, 95), (⟨"CardsGoneModel", "findDeep", "(III)V"⟩, 95), (⟨"CardsGoneModel", "keepLed", "(Z)V"⟩, 95), (⟨"CardsGoneModel", "moveInt", "(Z[III)V"⟩, 95), (⟨"CardsGoneModel", "findOrder", "(I)V"⟩, 95)]
theorem lw_r7 : ∀ q ∈ lw_privs_7, lw_okq q := List.forall_mem_cons.mpr ⟨lw_p96, List.forall_mem_cons.mpr ⟨lw_p97, List.forall_mem_cons.mpr ⟨lw_p98, List.forall_mem_cons.mpr ⟨lw_p99, List.forall_mem_cons.mpr ⟨lw_p100, List.forall_mem_cons.mpr ⟨lw_p101, List.forall_mem_cons.mpr ⟨lw_p102, List.forall_mem_cons.mpr ⟨lw_p103, List.forall_mem_cons.mpr ⟨lw_p104, List.forall_mem_cons.mpr ⟨lw_p105, List.forall_mem_cons.mpr ⟨lw_p106, List.forall_mem_cons.mpr ⟨lw_p107, List.forall_mem_cons.mpr ⟨lw_p108, List.forall_mem_cons.mpr ⟨lw_p109, List.forall_mem_cons.mpr ⟨lw_p110, List.forall_mem_cons.mpr ⟨lw_p111, fun _ h => absurd h List.not_mem_nil⟩⟩⟩⟩⟩⟩⟩⟩⟩⟩⟩⟩⟩⟩⟩⟩
theorem lw_p112 : lw_okq (⟨"CardsGoneModel", "riffle", "(II)V"⟩, 95) := ⟨⟨by decide +kernel, by decide +kernel⟩, List.mem_of_getElem? (i := 1327) (by decide +kernel), List.mem_of_getElem? (i := 1991) (by decide +kernel), List.mem_of_getElem? (i := 1992) (by decide +kernel)⟩
theorem lw_p113 : lw_okq (⟨"CardsGoneModel", "plays", "(II)I"⟩, 95) := ⟨⟨by decide +kernel, by decide +kernel⟩, List.mem_of_getElem? (i := 1327) (by decide +kernel), List.mem_of_getElem? (i := 2011) (by decide +kernel), List.mem_of_getElem? (i := 2012) (by decide +kernel)⟩
theorem lw_p114 : lw_okq (⟨"CardsGoneModel", "ran", "(I)V"⟩, 95) := ⟨⟨by decide +kernel, by decide +kernel⟩, List.mem_of_getElem? (i := 1327) (by decide +kernel), List.mem_of_getElem? (i := 2015) (by decide +kernel), List.mem_of_getElem? (i := 2016) (by decide +kernel)⟩
theorem lw_p115 : lw_okq (⟨"CardsGoneModel", "plainPlays", "(II)I"⟩, 95) := ⟨⟨by decide +kernel, by decide +kernel⟩, List.mem_of_getElem? (i := 1327) (by decide +kernel), List.mem_of_getElem? (i := 2019) (by decide +kernel), List.mem_of_getElem? (i := 2020) (by decide +kernel)⟩
theorem lw_p116 : lw_okq (⟨"CardsGoneModel", "counts", "(II)I"⟩, 95) := ⟨⟨by decide +kernel, by decide +kernel⟩, List.mem_of_getElem? (i := 1327) (by decide +kernel), List.mem_of_getElem? (i := 2023) (by decide +kernel), List.mem_of_getElem? (i := 2024) (by decide +kernel)⟩
theorem lw_p117 : lw_okq (⟨"CardsGoneModel", "plainCounts", "(II)I"⟩, 95) := ⟨⟨by decide +kernel, by decide +kernel⟩, List.mem_of_getElem? (i := 1327) (by decide +kernel), List.mem_of_getElem? (i := 2027) (by decide +kernel), List.mem_of_getElem? (i := 2028) (by decide +kernel)⟩
theorem lw_p118 : lw_okq (⟨"CardsGoneModel", "bigCounts", "(II)I"⟩, 95) := ⟨⟨by decide +kernel, by decide +kernel⟩, List.mem_of_getElem? (i := 1327) (by decide +kernel), List.mem_of_getElem? (i := 2031) (by decide +kernel), List.mem_of_getElem? (i := 2032) (by decide +kernel)⟩
theorem lw_p119 : lw_okq (⟨"CardsGoneModel", "bets", "(II)I"⟩, 95) := ⟨⟨by decide +kernel, by decide +kernel⟩, List.mem_of_getElem? (i := 1327) (by decide +kernel), List.mem_of_getElem? (i := 2035) (by decide +kernel), List.mem_of_getElem? (i := 2036) (by decide +kernel)⟩
theorem lw_p120 : lw_okq (⟨"CardsGoneModel", "countingBets", "(II)I"⟩, 95) := ⟨⟨by decide +kernel, by decide +kernel⟩, List.mem_of_getElem? (i := 1327) (by decide +kernel), List.mem_of_getElem? (i := 2039) (by decide +kernel), List.mem_of_getElem? (i := 2040) (by decide +kernel)⟩
theorem lw_p121 : lw_okq (⟨"CardsGoneModel", "plainBets", "(II)I"⟩, 95) := ⟨⟨by decide +kernel, by decide +kernel⟩, List.mem_of_getElem? (i := 1327) (by decide +kernel), List.mem_of_getElem? (i := 2043) (by decide +kernel), List.mem_of_getElem? (i := 2044) (by decide +kernel)⟩
theorem lw_p122 : lw_okq (⟨"CardsGoneModel", "tells", "(II)I"⟩, 95) := ⟨⟨by decide +kernel, by decide +kernel⟩, List.mem_of_getElem? (i := 1327) (by decide +kernel), List.mem_of_getElem? (i := 2047) (by decide +kernel), List.mem_of_getElem? (i := 2048) (by decide +kernel)⟩
theorem lw_p123 : lw_okq (⟨"CardsGoneModel", "bigTells", "(II)I"⟩, 95) := ⟨⟨by decide +kernel, by decide +kernel⟩, List.mem_of_getElem? (i := 1327) (by decide +kernel), List.mem_of_getElem? (i := 2051) (by decide +kernel), List.mem_of_getElem? (i := 2052) (by decide +kernel)⟩
theorem lw_p124 : lw_okq (⟨"CardsGoneModel", "plainTells", "(II)I"⟩, 95) := ⟨⟨by decide +kernel, by decide +kernel⟩, List.mem_of_getElem? (i := 1327) (by decide +kernel), List.mem_of_getElem? (i := 2055) (by decide +kernel), List.mem_of_getElem? (i := 2056) (by decide +kernel)⟩
theorem lw_p125 : lw_okq (⟨"CardsGoneModel", "whyNoPlace", "(II)I"⟩, 95) := ⟨⟨by decide +kernel, by decide +kernel⟩, List.mem_of_getElem? (i := 1327) (by decide +kernel), List.mem_of_getElem? (i := 2079) (by decide +kernel), List.mem_of_getElem? (i := 2080) (by decide +kernel)⟩
def lw_privs_8 : List (MethodName × Nat) := [(⟨"CardsGoneModel", "riffle", "(II)V"⟩, 95), (⟨"CardsGoneModel", "plays", "(II)I"⟩, 95), (⟨"CardsGoneModel", "ran", "(I)V"⟩, 95), (⟨"CardsGoneModel", "plainPlays", "(II)I"⟩, 95), (⟨"CardsGoneModel", "counts", "(II)I"⟩, 95), (⟨"CardsGoneModel", "plainCounts", "(II)I"⟩, 95), (⟨"CardsGoneModel", "bigCounts", "(II)I"⟩, 95), (⟨"CardsGoneModel", "bets", "(II)I"⟩, 95), (⟨"CardsGoneModel", "countingBets", "(II)I"⟩, 95), (⟨"CardsGoneModel", "plainBets", "(II)I"⟩, 95), (⟨"CardsGoneModel", "tells", "(II)I"⟩, 95), (⟨"CardsGoneModel", "bigTells", "(II)I"⟩, 95), (⟨"CardsGoneModel", "plainTells", "(II)I"⟩, 95), (⟨"CardsGoneModel", "whyNoPlace", "(II)I"⟩, 95)]
theorem lw_r8 : ∀ q ∈ lw_privs_8, lw_okq q := List.forall_mem_cons.mpr ⟨lw_p112, List.forall_mem_cons.mpr ⟨lw_p113, List.forall_mem_cons.mpr ⟨lw_p114, List.forall_mem_cons.mpr ⟨lw_p115, List.forall_mem_cons.mpr ⟨lw_p116, List.forall_mem_cons.mpr ⟨lw_p117, List.forall_mem_cons.mpr ⟨lw_p118, List.forall_mem_cons.mpr ⟨lw_p119, List.forall_mem_cons.mpr ⟨lw_p120, List.forall_mem_cons.mpr ⟨lw_p121, List.forall_mem_cons.mpr ⟨lw_p122, List.forall_mem_cons.mpr ⟨lw_p123, List.forall_mem_cons.mpr ⟨lw_p124, List.forall_mem_cons.mpr ⟨lw_p125, fun _ h => absurd h List.not_mem_nil⟩⟩⟩⟩⟩⟩⟩⟩⟩⟩⟩⟩⟩⟩
def lw_privs : List (MethodName × Nat) := lw_privs_1 ++ (lw_privs_2 ++ (lw_privs_3 ++ (lw_privs_4 ++ (lw_privs_5 ++ (lw_privs_6 ++ (lw_privs_7 ++ (lw_privs_8)))))))
def lw_tbl : List Cond := k2_sels lw_privs ++ tables_1
theorem lw_privs_ok : ∀ q ∈ lw_privs, lw_okq q := by
  show ∀ q ∈ lw_privs_1 ++ (lw_privs_2 ++ (lw_privs_3 ++ (lw_privs_4 ++ (lw_privs_5 ++ (lw_privs_6 ++ (lw_privs_7 ++ (lw_privs_8))))))), lw_okq q
  exact List.forall_mem_append.mpr ⟨lw_r1, List.forall_mem_append.mpr ⟨lw_r2, List.forall_mem_append.mpr ⟨lw_r3, List.forall_mem_append.mpr ⟨lw_r4, List.forall_mem_append.mpr ⟨lw_r5, List.forall_mem_append.mpr ⟨lw_r6, List.forall_mem_append.mpr ⟨lw_r7, lw_r8⟩⟩⟩⟩⟩⟩⟩
-- ===== end of PART A; then your names; then what follows =====
/-! ===== BEGIN printed: names, fields, word lists, decode rows ===== -/
def RX0 : String := "CardsGone$Acts"
def TX0 : u_T := fun k => match k with
  | 0 => ("CardsGone$Acts", "kept", "[I", true)
  | 1 => ("CardsGone$Acts", "ran", "I", false)
  | 2 => ("CardsGone$Acts", "self", "I", false)
  | _ => ("CardsGone$Acts", "number", "I", false)
def tyX0 : Nat → FieldType := fun k => match k with
  | 0 => .array .int
  | 1 => .int
  | 2 => .int
  | _ => .int
abbrev wsX00 : List Cond := u_ws RX0 TX0 4
theorem nmX0 : ∀ a, a < 4 → ∀ b, b < 4 → a ≠ b → (TX0 a).2.1 ≠ (TX0 b).2.1 := by decide +kernel
theorem tyX0_ok : ∀ k, k < 4 → parseFieldDescriptor (TX0 k).2.2.1 = some (tyX0 k) := by decide +kernel
abbrev cX0_init : ByteArray := prog_2_method_1_code
def yX0_init : MethodName := ⟨RX0, "<init>", "()V"⟩
abbrev cX0_begin : ByteArray := prog_2_method_2_code
def yX0_begin : MethodName := ⟨RX0, "begin", "(IIII)I"⟩
abbrev cX0_from : ByteArray := prog_2_method_3_code
def yX0_from : MethodName := ⟨RX0, "from", "(IIII)I"⟩
abbrev cX0_tellsOf : ByteArray := prog_2_method_4_code
def yX0_tellsOf : MethodName := ⟨RX0, "tellsOf", "(II)I"⟩
abbrev cX0_signalledBet : ByteArray := prog_2_method_5_code
def yX0_signalledBet : MethodName := ⟨RX0, "signalledBet", "(II)I"⟩
abbrev cX0_feignedCount : ByteArray := prog_2_method_6_code
def yX0_feignedCount : MethodName := ⟨RX0, "feignedCount", "(II)I"⟩
abbrev cX0_holderOf : ByteArray := prog_2_method_7_code
def yX0_holderOf : MethodName := ⟨RX0, "holderOf", "(II)I"⟩
abbrev cX0_bodyOf : ByteArray := prog_2_method_8_code
def yX0_bodyOf : MethodName := ⟨RX0, "bodyOf", "(II)I"⟩
def RX1 : String := "CardsGone$Body"
def TX1 : u_T := fun k => match k with
  | 0 => ("CardsGone$Body", "kind", "I", false)
  | 1 => ("CardsGone$Body", "purse", "I", false)
  | 2 => ("CardsGone$Body", "call", "I", false)
  | 3 => ("CardsGone$Body", "points", "I", false)
  | 4 => ("CardsGone$Body", "hands", "I", false)
  | _ => ("CardsGone$Body", "betAhead", "I", false)
def tyX1 : Nat → FieldType := fun k => match k with
  | 0 => .int
  | 1 => .int
  | 2 => .int
  | 3 => .int
  | 4 => .int
  | _ => .int
abbrev wsX10 : List Cond := u_ws RX1 TX1 6
theorem nmX1 : ∀ a, a < 6 → ∀ b, b < 6 → a ≠ b → (TX1 a).2.1 ≠ (TX1 b).2.1 := by decide +kernel
theorem tyX1_ok : ∀ k, k < 6 → parseFieldDescriptor (TX1 k).2.2.1 = some (tyX1 k) := by decide +kernel
abbrev cX1_init : ByteArray := prog_3_method_1_code
def yX1_init : MethodName := ⟨RX1, "<init>", "()V"⟩
abbrev cX1_seesCount : ByteArray := prog_3_method_2_code
def yX1_seesCount : MethodName := ⟨RX1, "seesCount", "()Z"⟩
abbrev cX1_waitsForCall : ByteArray := prog_3_method_3_code
def yX1_waitsForCall : MethodName := ⟨RX1, "waitsForCall", "()Z"⟩
abbrev cX1_feignsNow : ByteArray := prog_3_method_4_code
def yX1_feignsNow : MethodName := ⟨RX1, "feignsNow", "()Z"⟩
abbrev cX1_becomeLike : ByteArray := prog_3_method_5_code
def yX1_becomeLike : MethodName := ⟨RX1, "becomeLike", "(LCardsGone$Body;)V"⟩
def RX2 : String := "CardsGone$Changes"
def TX2 : u_T := fun k => match k with
  | 0 => ("CardsGone$Changes", "what", "[I", true)
  | 1 => ("CardsGone$Changes", "was", "[I", true)
  | 2 => ("CardsGone$Changes", "now", "[I", true)
  | 3 => ("CardsGone$Changes", "done", "I", false)
  | _ => ("CardsGone$Changes", "size", "I", false)
def tyX2 : Nat → FieldType := fun k => match k with
  | 0 => .array .int
  | 1 => .array .int
  | 2 => .array .int
  | 3 => .int
  | _ => .int
abbrev wsX20 : List Cond := u_ws RX2 TX2 5
theorem nmX2 : ∀ a, a < 5 → ∀ b, b < 5 → a ≠ b → (TX2 a).2.1 ≠ (TX2 b).2.1 := by decide +kernel
theorem tyX2_ok : ∀ k, k < 5 → parseFieldDescriptor (TX2 k).2.2.1 = some (tyX2 k) := by decide +kernel
abbrev cX2_init : ByteArray := prog_4_method_1_code
def yX2_init : MethodName := ⟨RX2, "<init>", "()V"⟩
abbrev cX2_come : ByteArray := prog_4_method_2_code
def yX2_come : MethodName := ⟨RX2, "come", "(III)V"⟩
abbrev cX2_whatAt : ByteArray := prog_4_method_3_code
def yX2_whatAt : MethodName := ⟨RX2, "whatAt", "(I)I"⟩
abbrev cX2_wasAt : ByteArray := prog_4_method_4_code
def yX2_wasAt : MethodName := ⟨RX2, "wasAt", "(I)I"⟩
abbrev cX2_nowAt : ByteArray := prog_4_method_5_code
def yX2_nowAt : MethodName := ⟨RX2, "nowAt", "(I)I"⟩
abbrev cX2_dropEldest : ByteArray := prog_4_method_6_code
def yX2_dropEldest : MethodName := ⟨RX2, "dropEldest", "()V"⟩
def RX3 : String := "CardsGone$Deal"
def TX3 : u_T := fun k => match k with
  | 0 => ("CardsGone$Deal", "mine", "[I", true)
  | 1 => ("CardsGone$Deal", "theirs", "[I", true)
  | 2 => ("CardsGone$Deal", "playedHands", "[I", true)
  | 3 => ("CardsGone$Deal", "playsMade", "[I", true)
  | 4 => ("CardsGone$Deal", "left", "[I", true)
  | 5 => ("CardsGone$Deal", "mineCount", "I", false)
  | 6 => ("CardsGone$Deal", "theirCount", "I", false)
  | 7 => ("CardsGone$Deal", "myHand", "I", false)
  | 8 => ("CardsGone$Deal", "theirHand", "I", false)
  | 9 => ("CardsGone$Deal", "bet", "I", false)
  | 10 => ("CardsGone$Deal", "brought", "I", false)
  | 11 => ("CardsGone$Deal", "plays", "I", false)
  | 12 => ("CardsGone$Deal", "points", "I", false)
  | 13 => ("CardsGone$Deal", "plainPoints", "I", false)
  | 14 => ("CardsGone$Deal", "c", "I", false)
  | 15 => ("CardsGone$Deal", "t", "I", false)
  | 16 => ("CardsGone$Deal", "worth", "I", false)
  | 17 => ("CardsGone$Deal", "doubled", "Z", false)
  | 18 => ("CardsGone$Deal", "misdealt", "Z", false)
  | _ => ("CardsGone$Deal", "strayed", "Z", false)
def tyX3 : Nat → FieldType := fun k => match k with
  | 0 => .array .int
  | 1 => .array .int
  | 2 => .array .int
  | 3 => .array .int
  | 4 => .array .int
  | 5 => .int
  | 6 => .int
  | 7 => .int
  | 8 => .int
  | 9 => .int
  | 10 => .int
  | 11 => .int
  | 12 => .int
  | 13 => .int
  | 14 => .int
  | 15 => .int
  | 16 => .int
  | 17 => .boolean
  | 18 => .boolean
  | _ => .boolean
abbrev wsX30 : List Cond := u_ws RX3 TX3 20
theorem nmX3 : ∀ a, a < 20 → ∀ b, b < 20 → a ≠ b → (TX3 a).2.1 ≠ (TX3 b).2.1 := by decide +kernel
theorem tyX3_ok : ∀ k, k < 20 → parseFieldDescriptor (TX3 k).2.2.1 = some (tyX3 k) := by decide +kernel
abbrev cX3_init : ByteArray := prog_5_method_1_code
def yX3_init : MethodName := ⟨RX3, "<init>", "()V"⟩
abbrev cX3_begin : ByteArray := prog_5_method_2_code
def yX3_begin : MethodName := ⟨RX3, "begin", "(LCardsGone$Shoe;)V"⟩
abbrev cX3_addMine : ByteArray := prog_5_method_3_code
def yX3_addMine : MethodName := ⟨RX3, "addMine", "(I)V"⟩
abbrev cX3_addTheirs : ByteArray := prog_5_method_4_code
def yX3_addTheirs : MethodName := ⟨RX3, "addTheirs", "(I)V"⟩
abbrev cX3_addPlay : ByteArray := prog_5_method_5_code
def yX3_addPlay : MethodName := ⟨RX3, "addPlay", "(I)V"⟩
abbrev cX3_iHaveNatural : ByteArray := prog_5_method_6_code
def yX3_iHaveNatural : MethodName := ⟨RX3, "iHaveNatural", "()Z"⟩
abbrev cX3_theyHaveNatural : ByteArray := prog_5_method_7_code
def yX3_theyHaveNatural : MethodName := ⟨RX3, "theyHaveNatural", "()Z"⟩
abbrev cX3_iAmAbove : ByteArray := prog_5_method_8_code
def yX3_iAmAbove : MethodName := ⟨RX3, "iAmAbove", "()Z"⟩
abbrev cX3_outcome : ByteArray := prog_5_method_9_code
def yX3_outcome : MethodName := ⟨RX3, "outcome", "(I)I"⟩
abbrev cX3_told : ByteArray := prog_5_method_10_code
def yX3_told : MethodName := ⟨RX3, "told", "(I)I"⟩
abbrev cX3_cardTold : ByteArray := prog_5_method_11_code
def yX3_cardTold : MethodName := ⟨RX3, "cardTold", "(I)I"⟩
def RX4 : String := "CardsGone$Game"
def TX4 : u_T := fun k => match k with
  | 0 => ("CardsGone$Game", "rules", "[I", true)
  | 1 => ("CardsGone$Game", "tags", "[I", true)
  | 2 => ("CardsGone$Game", "plays", "LCardsGone$Text;", true)
  | 3 => ("CardsGone$Game", "tagging", "LCardsGone$Text;", true)
  | 4 => ("CardsGone$Game", "bets", "LCardsGone$Text;", true)
  | 5 => ("CardsGone$Game", "watches", "LCardsGone$Text;", true)
  | 6 => ("CardsGone$Game", "names", "[I", true)
  | 7 => ("CardsGone$Game", "judge", "LCardsGone$Odds;", true)
  | 8 => ("CardsGone$Game", "spareShoe", "LCardsGone$Shoe;", true)
  | 9 => ("CardsGone$Game", "spareBody", "LCardsGone$Body;", true)
  | 10 => ("CardsGone$Game", "spareDeal", "LCardsGone$Deal;", true)
  | 11 => ("CardsGone$Game", "from", "LCardsGone$Shoe;", false)
  | 12 => ("CardsGone$Game", "who", "LCardsGone$Body;", false)
  | 13 => ("CardsGone$Game", "deal", "LCardsGone$Deal;", false)
  | 14 => ("CardsGone$Game", "row", "LCardsGone$Shelf;", false)
  | _ => ("CardsGone$Game", "place", "I", false)
def tyX4 : Nat → FieldType := fun k => match k with
  | 0 => .array .int
  | 1 => .array .int
  | 2 => .object "CardsGone$Text"
  | 3 => .object "CardsGone$Text"
  | 4 => .object "CardsGone$Text"
  | 5 => .object "CardsGone$Text"
  | 6 => .array .int
  | 7 => .object "CardsGone$Odds"
  | 8 => .object "CardsGone$Shoe"
  | 9 => .object "CardsGone$Body"
  | 10 => .object "CardsGone$Deal"
  | 11 => .object "CardsGone$Shoe"
  | 12 => .object "CardsGone$Body"
  | 13 => .object "CardsGone$Deal"
  | 14 => .object "CardsGone$Shelf"
  | _ => .int
abbrev wsX40 : List Cond := u_ws RX4 TX4 16
theorem nmX4 : ∀ a, a < 16 → ∀ b, b < 16 → a ≠ b → (TX4 a).2.1 ≠ (TX4 b).2.1 := by decide +kernel
theorem tyX4_ok : ∀ k, k < 16 → parseFieldDescriptor (TX4 k).2.2.1 = some (tyX4 k) := by decide +kernel
abbrev cX4_init : ByteArray := prog_6_method_1_code
def yX4_init : MethodName := ⟨RX4, "<init>", "()V"⟩
abbrev cX4_textOf : ByteArray := prog_6_method_2_code
def yX4_textOf : MethodName := ⟨RX4, "textOf", "(I)LCardsGone$Text;"⟩
abbrev cX4_fillTags : ByteArray := prog_6_method_3_code
def yX4_fillTags : MethodName := ⟨RX4, "fillTags", "()V"⟩
abbrev cX4_playOne : ByteArray := prog_6_method_4_code
def yX4_playOne : MethodName := ⟨RX4, "playOne", "(LCardsGone$Body;LCardsGone$Shoe;LCardsGone$Deal;Z)V"⟩
abbrev cX4_playFromRow : ByteArray := prog_6_method_5_code
def yX4_playFromRow : MethodName := ⟨RX4, "playFromRow", "(LCardsGone$Body;LCardsGone$Shoe;LCardsGone$Shelf;I)Z"⟩
abbrev cX4_sit : ByteArray := prog_6_method_6_code
def yX4_sit : MethodName := ⟨RX4, "sit", "(LCardsGone$Body;LCardsGone$Shoe;LCardsGone$Shelf;LCardsGone$Deal;)V"⟩
abbrev cX4_tagOf : ByteArray := prog_6_method_7_code
def yX4_tagOf : MethodName := ⟨RX4, "tagOf", "(I)I"⟩
abbrev cX4_next : ByteArray := prog_6_method_8_code
def yX4_next : MethodName := ⟨RX4, "next", "(Z)I"⟩
abbrev cX4_giveMine : ByteArray := prog_6_method_9_code
def yX4_giveMine : MethodName := ⟨RX4, "giveMine", "()Z"⟩
abbrev cX4_giveTheirs : ByteArray := prog_6_method_10_code
def yX4_giveTheirs : MethodName := ⟨RX4, "giveTheirs", "(Z)Z"⟩
abbrev cX4_cardsCome : ByteArray := prog_6_method_11_code
def yX4_cardsCome : MethodName := ⟨RX4, "cardsCome", "()Z"⟩
abbrev cX4_playerPlays : ByteArray := prog_6_method_12_code
def yX4_playerPlays : MethodName := ⟨RX4, "playerPlays", "(Z)Z"⟩
abbrev cX4_asMade : ByteArray := prog_6_method_13_code
def yX4_asMade : MethodName := ⟨RX4, "asMade", "(IZ)I"⟩
abbrev cX4_dealerPlays : ByteArray := prog_6_method_14_code
def yX4_dealerPlays : MethodName := ⟨RX4, "dealerPlays", "()Z"⟩
abbrev cX4_askPlay : ByteArray := prog_6_method_15_code
def yX4_askPlay : MethodName := ⟨RX4, "askPlay", "()I"⟩
abbrev cX4_betNow : ByteArray := prog_6_method_16_code
def yX4_betNow : MethodName := ⟨RX4, "betNow", "()I"⟩
abbrev cX4_betByText : ByteArray := prog_6_method_17_code
def yX4_betByText : MethodName := ⟨RX4, "betByText", "(I)I"⟩
abbrev cX4_nameWhatIsSeen : ByteArray := prog_6_method_18_code
def yX4_nameWhatIsSeen : MethodName := ⟨RX4, "nameWhatIsSeen", "()V"⟩
abbrev cX4_strays : ByteArray := prog_6_method_19_code
def yX4_strays : MethodName := ⟨RX4, "strays", "()Z"⟩
abbrev cX4_pointsWith : ByteArray := prog_6_method_20_code
def yX4_pointsWith : MethodName := ⟨RX4, "pointsWith", "(I)I"⟩
abbrev cX4_bring : ByteArray := prog_6_method_21_code
def yX4_bring : MethodName := ⟨RX4, "bring", "()V"⟩
def RX5 : String := "CardsGone$Lumps"
def TX5 : u_T := fun k => match k with
  | 0 => ("CardsGone$Lumps", "steps", "[I", true)
  | _ => ("CardsGone$Lumps", "count", "I", false)
def tyX5 : Nat → FieldType := fun k => match k with
  | 0 => .array .int
  | _ => .int
abbrev wsX50 : List Cond := u_ws RX5 TX5 2
theorem nmX5 : ∀ a, a < 2 → ∀ b, b < 2 → a ≠ b → (TX5 a).2.1 ≠ (TX5 b).2.1 := by decide +kernel
theorem tyX5_ok : ∀ k, k < 2 → parseFieldDescriptor (TX5 k).2.2.1 = some (tyX5 k) := by decide +kernel
abbrev cX5_init : ByteArray := prog_7_method_1_code
def yX5_init : MethodName := ⟨RX5, "<init>", "()V"⟩
abbrev cX5_come : ByteArray := prog_7_method_2_code
def yX5_come : MethodName := ⟨RX5, "come", "(I)Z"⟩
abbrev cX5_placeOf : ByteArray := prog_7_method_3_code
def yX5_placeOf : MethodName := ⟨RX5, "placeOf", "(II)I"⟩
abbrev cX5_span : ByteArray := prog_7_method_4_code
def yX5_span : MethodName := ⟨RX5, "span", "(III)I"⟩
abbrev cX5_riffled : ByteArray := prog_7_method_5_code
def yX5_riffled : MethodName := ⟨RX5, "riffled", "(III)I"⟩
abbrev cX5_lifted : ByteArray := prog_7_method_6_code
def yX5_lifted : MethodName := ⟨RX5, "lifted", "(III)I"⟩
def RX6 : String := "CardsGone$Odds"
def TX6 : u_T := fun k => match k with
  | 0 => ("CardsGone$Odds", "have", "[I", true)
  | 1 => ("CardsGone$Odds", "rules", "[I", true)
  | 2 => ("CardsGone$Odds", "after", "[I", true)
  | 3 => ("CardsGone$Odds", "ends", "[I", true)
  | 4 => ("CardsGone$Odds", "open", "[I", true)
  | 5 => ("CardsGone$Odds", "stood", "[I", true)
  | 6 => ("CardsGone$Odds", "drawn", "[I", true)
  | 7 => ("CardsGone$Odds", "doubled", "[I", true)
  | 8 => ("CardsGone$Odds", "best", "[I", true)
  | 9 => ("CardsGone$Odds", "naturals", "[I", true)
  | _ => ("CardsGone$Odds", "all", "I", false)
def tyX6 : Nat → FieldType := fun k => match k with
  | 0 => .array .int
  | 1 => .array .int
  | 2 => .array .int
  | 3 => .array .int
  | 4 => .array .int
  | 5 => .array .int
  | 6 => .array .int
  | 7 => .array .int
  | 8 => .array .int
  | 9 => .array .int
  | _ => .int
abbrev wsX60 : List Cond := u_ws RX6 TX6 11
theorem nmX6 : ∀ a, a < 11 → ∀ b, b < 11 → a ≠ b → (TX6 a).2.1 ≠ (TX6 b).2.1 := by decide +kernel
theorem tyX6_ok : ∀ k, k < 11 → parseFieldDescriptor (TX6 k).2.2.1 = some (tyX6 k) := by decide +kernel
abbrev cX6_init : ByteArray := prog_8_method_1_code
def yX6_init : MethodName := ⟨RX6, "<init>", "()V"⟩
abbrev cX6_dealerDraws : ByteArray := prog_8_method_2_code
def yX6_dealerDraws : MethodName := ⟨RX6, "dealerDraws", "(I[I)Z"⟩
abbrev cX6_load : ByteArray := prog_8_method_3_code
def yX6_load : MethodName := ⟨RX6, "load", "([I[I)Z"⟩
abbrev cX6_face : ByteArray := prog_8_method_4_code
def yX6_face : MethodName := ⟨RX6, "face", "(I)V"⟩
abbrev cX6_endFromOpen : ByteArray := prog_8_method_5_code
def yX6_endFromOpen : MethodName := ⟨RX6, "endFromOpen", "(I)I"⟩
abbrev cX6_worthOf : ByteArray := prog_8_method_6_code
def yX6_worthOf : MethodName := ⟨RX6, "worthOf", "(II)I"⟩
abbrev cX6_bestPlay : ByteArray := prog_8_method_7_code
def yX6_bestPlay : MethodName := ⟨RX6, "bestPlay", "(IZ)I"⟩
abbrev cX6_lineWorth : ByteArray := prog_8_method_8_code
def yX6_lineWorth : MethodName := ⟨RX6, "lineWorth", "(I)I"⟩
abbrev cX6_handWorth : ByteArray := prog_8_method_9_code
def yX6_handWorth : MethodName := ⟨RX6, "handWorth", "()I"⟩
abbrev cX6_worthFrom : ByteArray := prog_8_method_10_code
def yX6_worthFrom : MethodName := ⟨RX6, "worthFrom", "(I)J"⟩
abbrev cX6_worthFromTwo : ByteArray := prog_8_method_11_code
def yX6_worthFromTwo : MethodName := ⟨RX6, "worthFromTwo", "(I)J"⟩
abbrev cX6_worthAgainst : ByteArray := prog_8_method_12_code
def yX6_worthAgainst : MethodName := ⟨RX6, "worthAgainst", "(II)J"⟩
abbrev cX6_fillBest : ByteArray := prog_8_method_13_code
def yX6_fillBest : MethodName := ⟨RX6, "fillBest", "(I)V"⟩
abbrev cX6_setBest : ByteArray := prog_8_method_14_code
def yX6_setBest : MethodName := ⟨RX6, "setBest", "(II)V"⟩
abbrev cX6_byAll : ByteArray := prog_8_method_15_code
def yX6_byAll : MethodName := ⟨RX6, "byAll", "(I)I"⟩
abbrev cX6_longByAll : ByteArray := prog_8_method_16_code
def yX6_longByAll : MethodName := ⟨RX6, "longByAll", "(J)J"⟩
abbrev cX6_placeOf : ByteArray := prog_8_method_17_code
def yX6_placeOf : MethodName := ⟨RX6, "placeOf", "(I)I"⟩
abbrev cX6_fillEnds : ByteArray := prog_8_method_18_code
def yX6_fillEnds : MethodName := ⟨RX6, "fillEnds", "(I)V"⟩
abbrev cX6_sumOver : ByteArray := prog_8_method_19_code
def yX6_sumOver : MethodName := ⟨RX6, "sumOver", "([III)I"⟩
abbrev cX6_openEnd : ByteArray := prog_8_method_20_code
def yX6_openEnd : MethodName := ⟨RX6, "openEnd", "(II)I"⟩
abbrev cX6_standing : ByteArray := prog_8_method_21_code
def yX6_standing : MethodName := ⟨RX6, "standing", "(I)I"⟩
abbrev cX6_fillDraws : ByteArray := prog_8_method_22_code
def yX6_fillDraws : MethodName := ⟨RX6, "fillDraws", "(I)V"⟩
abbrev cX6_drawnTo : ByteArray := prog_8_method_23_code
def yX6_drawnTo : MethodName := ⟨RX6, "drawnTo", "(I)I"⟩
def RX7 : String := "CardsGone$Reader"
def TX7 : u_T := fun k => match k with
  | 0 => ("CardsGone$Reader", "bytes", "[I", true)
  | 1 => ("CardsGone$Reader", "code", "[I", true)
  | 2 => ("CardsGone$Reader", "length", "I", false)
  | 3 => ("CardsGone$Reader", "place", "I", false)
  | _ => ("CardsGone$Reader", "size", "I", false)
def tyX7 : Nat → FieldType := fun k => match k with
  | 0 => .array .int
  | 1 => .array .int
  | 2 => .int
  | 3 => .int
  | _ => .int
abbrev wsX70 : List Cond := u_ws RX7 TX7 5
theorem nmX7 : ∀ a, a < 5 → ∀ b, b < 5 → a ≠ b → (TX7 a).2.1 ≠ (TX7 b).2.1 := by decide +kernel
theorem tyX7_ok : ∀ k, k < 5 → parseFieldDescriptor (TX7 k).2.2.1 = some (tyX7 k) := by decide +kernel
abbrev cX7_init : ByteArray := prog_9_method_1_code
def yX7_init : MethodName := ⟨RX7, "<init>", "()V"⟩
abbrev cX7_takeIn : ByteArray := prog_9_method_2_code
def yX7_takeIn : MethodName := ⟨RX7, "takeIn", "(II)Z"⟩
abbrev cX7_readText : ByteArray := prog_9_method_3_code
def yX7_readText : MethodName := ⟨RX7, "readText", "()Z"⟩
abbrev cX7_readLine : ByteArray := prog_9_method_4_code
def yX7_readLine : MethodName := ⟨RX7, "readLine", "()Z"⟩
abbrev cX7_read : ByteArray := prog_9_method_5_code
def yX7_read : MethodName := ⟨RX7, "read", "(II)Z"⟩
abbrev cX7_readOne : ByteArray := prog_9_method_6_code
def yX7_readOne : MethodName := ⟨RX7, "readOne", "(I)Z"⟩
abbrev cX7_readInside : ByteArray := prog_9_method_7_code
def yX7_readInside : MethodName := ⟨RX7, "readInside", "(I)Z"⟩
abbrev cX7_readNumber : ByteArray := prog_9_method_8_code
def yX7_readNumber : MethodName := ⟨RX7, "readNumber", "()Z"⟩
abbrev cX7_sign : ByteArray := prog_9_method_9_code
def yX7_sign : MethodName := ⟨RX7, "sign", "()I"⟩
abbrev cX7_isDigit : ByteArray := prog_9_method_10_code
def yX7_isDigit : MethodName := ⟨RX7, "isDigit", "(I)Z"⟩
abbrev cX7_joins : ByteArray := prog_9_method_11_code
def yX7_joins : MethodName := ⟨RX7, "joins", "(II)Z"⟩
abbrev cX7_emit : ByteArray := prog_9_method_12_code
def yX7_emit : MethodName := ⟨RX7, "emit", "(I)V"⟩
def RX8 : String := "CardsGone$Shelf"
def TX8 : u_T := fun k => match k with
  | 0 => ("CardsGone$Shelf", "cells", "[J", true)
  | 1 => ("CardsGone$Shelf", "holds", "I", false)
  | 2 => ("CardsGone$Shelf", "sort", "I", false)
  | 3 => ("CardsGone$Shelf", "size", "I", false)
  | _ => ("CardsGone$Shelf", "player", "I", false)
def tyX8 : Nat → FieldType := fun k => match k with
  | 0 => .array .long
  | 1 => .int
  | 2 => .int
  | 3 => .int
  | _ => .int
abbrev wsX80 : List Cond := u_ws RX8 TX8 5
theorem nmX8 : ∀ a, a < 5 → ∀ b, b < 5 → a ≠ b → (TX8 a).2.1 ≠ (TX8 b).2.1 := by decide +kernel
theorem tyX8_ok : ∀ k, k < 5 → parseFieldDescriptor (TX8 k).2.2.1 = some (tyX8 k) := by decide +kernel
abbrev cX8_init : ByteArray := prog_10_method_1_code
def yX8_init : MethodName := ⟨RX8, "<init>", "()V"⟩
abbrev cX8_isEmpty : ByteArray := prog_10_method_2_code
def yX8_isEmpty : MethodName := ⟨RX8, "isEmpty", "()Z"⟩
abbrev cX8_holdsPlayer : ByteArray := prog_10_method_3_code
def yX8_holdsPlayer : MethodName := ⟨RX8, "holdsPlayer", "()Z"⟩
abbrev cX8_holdsRow : ByteArray := prog_10_method_4_code
def yX8_holdsRow : MethodName := ⟨RX8, "holdsRow", "(I)Z"⟩
abbrev cX8_clear : ByteArray := prog_10_method_5_code
def yX8_clear : MethodName := ⟨RX8, "clear", "()V"⟩
abbrev cX8_hold : ByteArray := prog_10_method_6_code
def yX8_hold : MethodName := ⟨RX8, "hold", "(I)V"⟩
abbrev cX8_layRow : ByteArray := prog_10_method_7_code
def yX8_layRow : MethodName := ⟨RX8, "layRow", "(II)V"⟩
abbrev cX8_refusalAt : ByteArray := prog_10_method_8_code
def yX8_refusalAt : MethodName := ⟨RX8, "refusalAt", "(I)I"⟩
abbrev cX8_cell : ByteArray := prog_10_method_9_code
def yX8_cell : MethodName := ⟨RX8, "cell", "(I)J"⟩
abbrev cX8_cellBecomes : ByteArray := prog_10_method_10_code
def yX8_cellBecomes : MethodName := ⟨RX8, "cellBecomes", "(IJ)V"⟩
abbrev cX8_valueAt : ByteArray := prog_10_method_11_code
def yX8_valueAt : MethodName := ⟨RX8, "valueAt", "(I)I"⟩
abbrev cX8_hasStretch : ByteArray := prog_10_method_12_code
def yX8_hasStretch : MethodName := ⟨RX8, "hasStretch", "(II)Z"⟩
abbrev cX8_takeCells : ByteArray := prog_10_method_13_code
def yX8_takeCells : MethodName := ⟨RX8, "takeCells", "(LCardsGone$Shelf;III)V"⟩
abbrev cX8_lowestBits : ByteArray := prog_10_method_14_code
def yX8_lowestBits : MethodName := ⟨RX8, "lowestBits", "(J)J"⟩
def RX9 : String := "CardsGone$Shoe"
def TX9 : u_T := fun k => match k with
  | 0 => ("CardsGone$Shoe", "cards", "[I", true)
  | 1 => ("CardsGone$Shoe", "seen", "[I", true)
  | 2 => ("CardsGone$Shoe", "packs", "I", false)
  | 3 => ("CardsGone$Shoe", "cut", "I", false)
  | 4 => ("CardsGone$Shoe", "seed", "I", false)
  | 5 => ("CardsGone$Shoe", "z", "I", false)
  | 6 => ("CardsGone$Shoe", "gone", "I", false)
  | 7 => ("CardsGone$Shoe", "seenInAll", "I", false)
  | 8 => ("CardsGone$Shoe", "counted", "I", false)
  | _ => ("CardsGone$Shoe", "shuffleDue", "Z", false)
def tyX9 : Nat → FieldType := fun k => match k with
  | 0 => .array .int
  | 1 => .array .int
  | 2 => .int
  | 3 => .int
  | 4 => .int
  | 5 => .int
  | 6 => .int
  | 7 => .int
  | 8 => .int
  | _ => .boolean
abbrev wsX90 : List Cond := u_ws RX9 TX9 10
theorem nmX9 : ∀ a, a < 10 → ∀ b, b < 10 → a ≠ b → (TX9 a).2.1 ≠ (TX9 b).2.1 := by decide +kernel
theorem tyX9_ok : ∀ k, k < 10 → parseFieldDescriptor (TX9 k).2.2.1 = some (tyX9 k) := by decide +kernel
abbrev cX9_init : ByteArray := prog_11_method_1_code
def yX9_init : MethodName := ⟨RX9, "<init>", "()V"⟩
abbrev cX9_size : ByteArray := prog_11_method_2_code
def yX9_size : MethodName := ⟨RX9, "size", "()I"⟩
abbrev cX9_seedBecomes : ByteArray := prog_11_method_3_code
def yX9_seedBecomes : MethodName := ⟨RX9, "seedBecomes", "(I)I"⟩
abbrev cX9_packsBecome : ByteArray := prog_11_method_4_code
def yX9_packsBecome : MethodName := ⟨RX9, "packsBecome", "(I)I"⟩
abbrev cX9_cutBecomes : ByteArray := prog_11_method_5_code
def yX9_cutBecomes : MethodName := ⟨RX9, "cutBecomes", "(I)I"⟩
abbrev cX9_leftOf : ByteArray := prog_11_method_6_code
def yX9_leftOf : MethodName := ⟨RX9, "leftOf", "(I)I"⟩
abbrev cX9_copyLeft : ByteArray := prog_11_method_7_code
def yX9_copyLeft : MethodName := ⟨RX9, "copyLeft", "([I)V"⟩
abbrev cX9_trueCount : ByteArray := prog_11_method_8_code
def yX9_trueCount : MethodName := ⟨RX9, "trueCount", "()I"⟩
abbrev cX9_makeReady : ByteArray := prog_11_method_9_code
def yX9_makeReady : MethodName := ⟨RX9, "makeReady", "()V"⟩
abbrev cX9_take : ByteArray := prog_11_method_10_code
def yX9_take : MethodName := ⟨RX9, "take", "()I"⟩
abbrev cX9_see : ByteArray := prog_11_method_11_code
def yX9_see : MethodName := ⟨RX9, "see", "(II)V"⟩
abbrev cX9_forget : ByteArray := prog_11_method_12_code
def yX9_forget : MethodName := ⟨RX9, "forget", "()V"⟩
abbrev cX9_shuffle : ByteArray := prog_11_method_13_code
def yX9_shuffle : MethodName := ⟨RX9, "shuffle", "()V"⟩
def RX10 : String := "CardsGone$Text"
def TX10 : u_T := fun k => match k with
  | 0 => ("CardsGone$Text", "code", "[I", true)
  | 1 => ("CardsGone$Text", "stack", "[I", true)
  | 2 => ("CardsGone$Text", "size", "I", false)
  | _ => ("CardsGone$Text", "top", "I", false)
def tyX10 : Nat → FieldType := fun k => match k with
  | 0 => .array .int
  | 1 => .array .int
  | 2 => .int
  | _ => .int
abbrev wsX100 : List Cond := u_ws RX10 TX10 4
theorem nmX10 : ∀ a, a < 4 → ∀ b, b < 4 → a ≠ b → (TX10 a).2.1 ≠ (TX10 b).2.1 := by decide +kernel
theorem tyX10_ok : ∀ k, k < 4 → parseFieldDescriptor (TX10 k).2.2.1 = some (tyX10 k) := by decide +kernel
abbrev cX10_init : ByteArray := prog_12_method_1_code
def yX10_init : MethodName := ⟨RX10, "<init>", "()V"⟩
abbrev cX10_clear : ByteArray := prog_12_method_2_code
def yX10_clear : MethodName := ⟨RX10, "clear", "([I)V"⟩
abbrev cX10_takeOver : ByteArray := prog_12_method_3_code
def yX10_takeOver : MethodName := ⟨RX10, "takeOver", "([II)V"⟩
abbrev cX10_mentions : ByteArray := prog_12_method_4_code
def yX10_mentions : MethodName := ⟨RX10, "mentions", "(I)Z"⟩
abbrev cX10_valueBy : ByteArray := prog_12_method_5_code
def yX10_valueBy : MethodName := ⟨RX10, "valueBy", "([I)I"⟩
abbrev cX10_work : ByteArray := prog_12_method_6_code
def yX10_work : MethodName := ⟨RX10, "work", "(I[I)V"⟩
abbrev cX10_push : ByteArray := prog_12_method_7_code
def yX10_push : MethodName := ⟨RX10, "push", "(I)V"⟩
abbrev cX10_pop : ByteArray := prog_12_method_8_code
def yX10_pop : MethodName := ⟨RX10, "pop", "()I"⟩
abbrev cX10_joined : ByteArray := prog_12_method_9_code
def yX10_joined : MethodName := ⟨RX10, "joined", "(III)I"⟩
def RX11 : String := "CardsGone"
def TX11 : u_T := fun k => match k with
  | 0 => ("CardsGone", "table", "LCardsGone$Shoe;", true)
  | 1 => ("CardsGone", "game", "LCardsGone$Game;", true)
  | 2 => ("CardsGone", "odds", "LCardsGone$Odds;", true)
  | 3 => ("CardsGone", "reader", "LCardsGone$Reader;", true)
  | 4 => ("CardsGone", "bodies", "[LCardsGone$Body;", true)
  | 5 => ("CardsGone", "deals", "[LCardsGone$Deal;", true)
  | 6 => ("CardsGone", "askedLeft", "[I", true)
  | 7 => ("CardsGone", "shelves", "[LCardsGone$Shelf;", true)
  | 8 => ("CardsGone", "changes", "LCardsGone$Changes;", true)
  | 9 => ("CardsGone", "lumps", "LCardsGone$Lumps;", true)
  | 10 => ("CardsGone", "acts", "LCardsGone$Acts;", true)
  | 11 => ("CardsGone", "bounds", "[I", true)
  | 12 => ("CardsGone", "players", "I", false)
  | 13 => ("CardsGone", "ledHands", "I", false)
  | 14 => ("CardsGone", "boundCount", "I", false)
  | _ => ("CardsGone", "limitNow", "I", false)
def tyX11 : Nat → FieldType := fun k => match k with
  | 0 => .object "CardsGone$Shoe"
  | 1 => .object "CardsGone$Game"
  | 2 => .object "CardsGone$Odds"
  | 3 => .object "CardsGone$Reader"
  | 4 => .array (.object "CardsGone$Body")
  | 5 => .array (.object "CardsGone$Deal")
  | 6 => .array .int
  | 7 => .array (.object "CardsGone$Shelf")
  | 8 => .object "CardsGone$Changes"
  | 9 => .object "CardsGone$Lumps"
  | 10 => .object "CardsGone$Acts"
  | 11 => .array .int
  | 12 => .int
  | 13 => .int
  | 14 => .int
  | _ => .int
abbrev wsX110 : List Cond := u_ws RX11 TX11 16
theorem nmX11 : ∀ a, a < 16 → ∀ b, b < 16 → a ≠ b → (TX11 a).2.1 ≠ (TX11 b).2.1 := by decide +kernel
theorem tyX11_ok : ∀ k, k < 16 → parseFieldDescriptor (TX11 k).2.2.1 = some (tyX11 k) := by decide +kernel
abbrev cX11_init : ByteArray := prog_1_method_1_code
def yX11_init : MethodName := ⟨RX11, "<init>", "()V"⟩
abbrev cX11_shoe : ByteArray := prog_1_method_2_code
def yX11_shoe : MethodName := ⟨RX11, "shoe", "(II)I"⟩
abbrev cX11_left : ByteArray := prog_1_method_3_code
def yX11_left : MethodName := ⟨RX11, "left", "(I)I"⟩
abbrev cX11_rule : ByteArray := prog_1_method_4_code
def yX11_rule : MethodName := ⟨RX11, "rule", "(II)I"⟩
abbrev cX11_feed : ByteArray := prog_1_method_5_code
def yX11_feed : MethodName := ⟨RX11, "feed", "(II)I"⟩
abbrev cX11_text : ByteArray := prog_1_method_6_code
def yX11_text : MethodName := ⟨RX11, "text", "(I)I"⟩
abbrev cX11_tag : ByteArray := prog_1_method_7_code
def yX11_tag : MethodName := ⟨RX11, "tag", "(I)I"⟩
abbrev cX11_player : ByteArray := prog_1_method_8_code
def yX11_player : MethodName := ⟨RX11, "player", "(III)I"⟩
abbrev cX11_ofPlayer : ByteArray := prog_1_method_9_code
def yX11_ofPlayer : MethodName := ⟨RX11, "ofPlayer", "(II)I"⟩
abbrev cX11_purse : ByteArray := prog_1_method_10_code
def yX11_purse : MethodName := ⟨RX11, "purse", "(II)I"⟩
abbrev cX11_limit : ByteArray := prog_1_method_11_code
def yX11_limit : MethodName := ⟨RX11, "limit", "(I)I"⟩
abbrev cX11_play : ByteArray := prog_1_method_12_code
def yX11_play : MethodName := ⟨RX11, "play", "(II)I"⟩
abbrev cX11_led : ByteArray := prog_1_method_13_code
def yX11_led : MethodName := ⟨RX11, "led", "(II)I"⟩
abbrev cX11_hand : ByteArray := prog_1_method_14_code
def yX11_hand : MethodName := ⟨RX11, "hand", "(III)I"⟩
abbrev cX11_ends : ByteArray := prog_1_method_15_code
def yX11_ends : MethodName := ⟨RX11, "ends", "(II)I"⟩
abbrev cX11_worth : ByteArray := prog_1_method_16_code
def yX11_worth : MethodName := ⟨RX11, "worth", "(III)I"⟩
abbrev cX11_cost : ByteArray := prog_1_method_17_code
def yX11_cost : MethodName := ⟨RX11, "cost", "(III)I"⟩
abbrev cX11_whole : ByteArray := prog_1_method_18_code
def yX11_whole : MethodName := ⟨RX11, "whole", "()I"⟩
abbrev cX11_row : ByteArray := prog_1_method_19_code
def yX11_row : MethodName := ⟨RX11, "row", "(III)I"⟩
abbrev cX11_ruled : ByteArray := prog_1_method_20_code
def yX11_ruled : MethodName := ⟨RX11, "ruled", "(I)I"⟩
abbrev cX11_says : ByteArray := prog_1_method_21_code
def yX11_says : MethodName := ⟨RX11, "says", "()I"⟩
abbrev cX11_deep : ByteArray := prog_1_method_22_code
def yX11_deep : MethodName := ⟨RX11, "deep", "(IIII)I"⟩
abbrev cX11_step : ByteArray := prog_1_method_23_code
def yX11_step : MethodName := ⟨RX11, "step", "(I)I"⟩
abbrev cX11_unstep : ByteArray := prog_1_method_24_code
def yX11_unstep : MethodName := ⟨RX11, "unstep", "()I"⟩
abbrev cX11_where : ByteArray := prog_1_method_25_code
def yX11_where : MethodName := ⟨RX11, "where", "(II)I"⟩
abbrev cX11_together : ByteArray := prog_1_method_26_code
def yX11_together : MethodName := ⟨RX11, "together", "(II)I"⟩
abbrev cX11_word : ByteArray := prog_1_method_27_code
def yX11_word : MethodName := ⟨RX11, "word", "(I)I"⟩
abbrev cX11_heard : ByteArray := prog_1_method_28_code
def yX11_heard : MethodName := ⟨RX11, "heard", "(I)I"⟩
abbrev cX11_hides : ByteArray := prog_1_method_29_code
def yX11_hides : MethodName := ⟨RX11, "hides", "()I"⟩
abbrev cX11_undo : ByteArray := prog_1_method_30_code
def yX11_undo : MethodName := ⟨RX11, "undo", "()I"⟩
abbrev cX11_redo : ByteArray := prog_1_method_31_code
def yX11_redo : MethodName := ⟨RX11, "redo", "()I"⟩
abbrev cX11_act : ByteArray := prog_1_method_32_code
def yX11_act : MethodName := ⟨RX11, "act", "(III)I"⟩
abbrev cX11_trace : ByteArray := prog_1_method_33_code
def yX11_trace : MethodName := ⟨RX11, "trace", "(I)I"⟩
abbrev cX11_keep : ByteArray := prog_1_method_34_code
def yX11_keep : MethodName := ⟨RX11, "keep", "(II)I"⟩
abbrev cX11_lay : ByteArray := prog_1_method_35_code
def yX11_lay : MethodName := ⟨RX11, "lay", "(III)I"⟩
abbrev cX11_put : ByteArray := prog_1_method_36_code
def yX11_put : MethodName := ⟨RX11, "put", "(IIJ)I"⟩
abbrev cX11_element : ByteArray := prog_1_method_37_code
def yX11_element : MethodName := ⟨RX11, "element", "(II)J"⟩
abbrev cX11_shift : ByteArray := prog_1_method_38_code
def yX11_shift : MethodName := ⟨RX11, "shift", "(IIIII)I"⟩
abbrev cX11_taken : ByteArray := prog_1_method_39_code
def yX11_taken : MethodName := ⟨RX11, "taken", "(II)I"⟩
abbrev cX11_count : ByteArray := prog_1_method_40_code
def yX11_count : MethodName := ⟨RX11, "count", "(I)I"⟩
abbrev cX11_at : ByteArray := prog_1_method_41_code
def yX11_at : MethodName := ⟨RX11, "at", "([II)I"⟩
abbrev cX11_set : ByteArray := prog_1_method_42_code
def yX11_set : MethodName := ⟨RX11, "set", "([III)V"⟩
abbrev cX11_held : ByteArray := prog_1_method_43_code
def yX11_held : MethodName := ⟨RX11, "held", "(III)I"⟩
abbrev cX11_withCard : ByteArray := prog_1_method_44_code
def yX11_withCard : MethodName := ⟨RX11, "withCard", "(II)I"⟩
abbrev cX11_totalOf : ByteArray := prog_1_method_45_code
def yX11_totalOf : MethodName := ⟨RX11, "totalOf", "(I)I"⟩
abbrev cX11_leastOfRule : ByteArray := prog_1_method_46_code
def yX11_leastOfRule : MethodName := ⟨RX11, "leastOfRule", "(I)I"⟩
abbrev cX11_mostOfRule : ByteArray := prog_1_method_47_code
def yX11_mostOfRule : MethodName := ⟨RX11, "mostOfRule", "(I)I"⟩
abbrev cX11_firstOfRule : ByteArray := prog_1_method_48_code
def yX11_firstOfRule : MethodName := ⟨RX11, "firstOfRule", "(I)I"⟩
abbrev cX11_kindAbove : ByteArray := prog_1_method_49_code
def yX11_kindAbove : MethodName := ⟨RX11, "kindAbove", "(I)I"⟩
abbrev cX11_isUnder : ByteArray := prog_1_method_50_code
def yX11_isUnder : MethodName := ⟨RX11, "isUnder", "(II)Z"⟩
abbrev cX11_isLine : ByteArray := prog_1_method_51_code
def yX11_isLine : MethodName := ⟨RX11, "isLine", "(II)Z"⟩
abbrev cX11_isPile : ByteArray := prog_1_method_52_code
def yX11_isPile : MethodName := ⟨RX11, "isPile", "(I)Z"⟩
abbrev cX11_bodyAt : ByteArray := prog_1_method_53_code
def yX11_bodyAt : MethodName := ⟨RX11, "bodyAt", "(I)LCardsGone$Body;"⟩
abbrev cX11_dealAt : ByteArray := prog_1_method_54_code
def yX11_dealAt : MethodName := ⟨RX11, "dealAt", "(I)LCardsGone$Deal;"⟩
abbrev cX11_shelfAt : ByteArray := prog_1_method_55_code
def yX11_shelfAt : MethodName := ⟨RX11, "shelfAt", "(I)LCardsGone$Shelf;"⟩
abbrev cX11_oddsAreOfNow : ByteArray := prog_1_method_56_code
def yX11_oddsAreOfNow : MethodName := ⟨RX11, "oddsAreOfNow", "()Z"⟩
abbrev cX11_oddsAreOfWhole : ByteArray := prog_1_method_57_code
def yX11_oddsAreOfWhole : MethodName := ⟨RX11, "oddsAreOfWhole", "()Z"⟩
abbrev cX11_mayPlay : ByteArray := prog_1_method_58_code
def yX11_mayPlay : MethodName := ⟨RX11, "mayPlay", "(LCardsGone$Body;)Z"⟩
abbrev cX11_textBecomes : ByteArray := prog_1_method_59_code
def yX11_textBecomes : MethodName := ⟨RX11, "textBecomes", "(I)V"⟩
abbrev cX11_becomes : ByteArray := prog_1_method_60_code
def yX11_becomes : MethodName := ⟨RX11, "becomes", "(II)V"⟩
abbrev cX11_wordOf : ByteArray := prog_1_method_61_code
def yX11_wordOf : MethodName := ⟨RX11, "wordOf", "(I)I"⟩
abbrev cX11_agreement : ByteArray := prog_1_method_62_code
def yX11_agreement : MethodName := ⟨RX11, "agreement", "(LCardsGone$Deal;LCardsGone$Deal;)I"⟩
abbrev cX11_trial : ByteArray := prog_1_method_63_code
def yX11_trial : MethodName := ⟨RX11, "trial", "(LCardsGone$Body;III)I"⟩
def RX12 : String := "CardsGoneModel"
def TX12 : u_T := fun k => match k with
  | 0 => ("CardsGoneModel", "code", "I", false)
  | 1 => ("CardsGoneModel", "packs", "I", false)
  | 2 => ("CardsGoneModel", "cut", "I", false)
  | 3 => ("CardsGoneModel", "seed", "I", false)
  | 4 => ("CardsGoneModel", "drawn", "I", false)
  | 5 => ("CardsGoneModel", "isShuffled", "Z", false)
  | 6 => ("CardsGoneModel", "shoe", "[B", true)
  | 7 => ("CardsGoneModel", "gone", "I", false)
  | 8 => ("CardsGoneModel", "counted", "I", false)
  | 9 => ("CardsGoneModel", "seen", "[I", true)
  | 10 => ("CardsGoneModel", "rules", "[I", true)
  | 11 => ("CardsGoneModel", "limit", "I", false)
  | 12 => ("CardsGoneModel", "doneMany", "I", false)
  | 13 => ("CardsGoneModel", "undoneMany", "I", false)
  | 14 => ("CardsGoneModel", "changeOf", "[I", true)
  | 15 => ("CardsGoneModel", "changeAt", "[I", true)
  | 16 => ("CardsGoneModel", "before", "[I", true)
  | 17 => ("CardsGoneModel", "behind", "[I", true)
  | 18 => ("CardsGoneModel", "tape", "[B", true)
  | 19 => ("CardsGoneModel", "taped", "I", false)
  | 20 => ("CardsGoneModel", "here", "I", false)
  | 21 => ("CardsGoneModel", "fault", "I", false)
  | 22 => ("CardsGoneModel", "open", "I", false)
  | 23 => ("CardsGoneModel", "laid", "I", false)
  | 24 => ("CardsGoneModel", "act", "[B", true)
  | 25 => ("CardsGoneModel", "with", "[I", true)
  | 26 => ("CardsGoneModel", "lineMany", "[I", true)
  | 27 => ("CardsGoneModel", "testEnd", "[S", true)
  | 28 => ("CardsGoneModel", "lineEnd", "[S", true)
  | 29 => ("CardsGoneModel", "facts", "[I", true)
  | 30 => ("CardsGoneModel", "pile", "[I", true)
  | 31 => ("CardsGoneModel", "players", "I", false)
  | 32 => ("CardsGoneModel", "kind", "[I", true)
  | 33 => ("CardsGoneModel", "purse", "[I", true)
  | 34 => ("CardsGoneModel", "call", "[I", true)
  | 35 => ("CardsGoneModel", "points", "[I", true)
  | 36 => ("CardsGoneModel", "played", "[I", true)
  | 37 => ("CardsGoneModel", "lastBet", "[I", true)
  | 38 => ("CardsGoneModel", "odds", "[I", true)
  | 39 => ("CardsGoneModel", "endsBy", "[J", true)
  | 40 => ("CardsGoneModel", "hasEnds", "[Z", true)
  | 41 => ("CardsGoneModel", "endsNow", "[J", true)
  | 42 => ("CardsGoneModel", "drawBy", "[J", true)
  | 43 => ("CardsGoneModel", "hasDraw", "[Z", true)
  | 44 => ("CardsGoneModel", "pairWorth", "[J", true)
  | 45 => ("CardsGoneModel", "ledMany", "I", false)
  | 46 => ("CardsGoneModel", "ledBet", "[I", true)
  | 47 => ("CardsGoneModel", "ledBrought", "[I", true)
  | 48 => ("CardsGoneModel", "ledPlays", "[I", true)
  | 49 => ("CardsGoneModel", "ledCount", "[I", true)
  | 50 => ("CardsGoneModel", "ledPoints", "[I", true)
  | 51 => ("CardsGoneModel", "ledBare", "[I", true)
  | 52 => ("CardsGoneModel", "ledMisdeal", "[Z", true)
  | 53 => ("CardsGoneModel", "ledOther", "[I", true)
  | 54 => ("CardsGoneModel", "ownCards", "[B", true)
  | 55 => ("CardsGoneModel", "ownMany", "[B", true)
  | 56 => ("CardsGoneModel", "dealerCards", "[B", true)
  | 57 => ("CardsGoneModel", "dealerMany", "[B", true)
  | 58 => ("CardsGoneModel", "ledLeft", "[I", true)
  | 59 => ("CardsGoneModel", "wasMisdeal", "Z", false)
  | 60 => ("CardsGoneModel", "fromShelf", "I", false)
  | 61 => ("CardsGoneModel", "fromAt", "I", false)
  | 62 => ("CardsGoneModel", "handPlayer", "I", false)
  | 63 => ("CardsGoneModel", "handNow", "I", false)
  | 64 => ("CardsGoneModel", "isOut", "Z", false)
  | 65 => ("CardsGoneModel", "sumNow", "I", false)
  | 66 => ("CardsGoneModel", "aceNow", "Z", false)
  | 67 => ("CardsGoneModel", "cardsNow", "I", false)
  | 68 => ("CardsGoneModel", "playsNow", "I", false)
  | 69 => ("CardsGoneModel", "otherNow", "I", false)
  | 70 => ("CardsGoneModel", "isTurned", "Z", false)
  | 71 => ("CardsGoneModel", "playedMany", "I", false)
  | 72 => ("CardsGoneModel", "ledWhole", "[J", true)
  | 73 => ("CardsGoneModel", "keptShoe", "[B", true)
  | 74 => ("CardsGoneModel", "keptSeen", "[I", true)
  | 75 => ("CardsGoneModel", "keptInts", "[I", true)
  | 76 => ("CardsGoneModel", "keptMisdeal", "[Z", true)
  | 77 => ("CardsGoneModel", "keptOwn", "[B", true)
  | 78 => ("CardsGoneModel", "keptDealer", "[B", true)
  | 79 => ("CardsGoneModel", "keptMany", "[B", true)
  | 80 => ("CardsGoneModel", "keptLeft", "[I", true)
  | 81 => ("CardsGoneModel", "deepCut", "I", false)
  | 82 => ("CardsGoneModel", "deepBrought", "I", false)
  | 83 => ("CardsGoneModel", "stepMany", "I", false)
  | 84 => ("CardsGoneModel", "stepIs", "[I", true)
  | 85 => ("CardsGoneModel", "order", "[I", true)
  | 86 => ("CardsGoneModel", "ordered", "[I", true)
  | 87 => ("CardsGoneModel", "bounds", "I", false)
  | 88 => ("CardsGoneModel", "boundIs", "[I", true)
  | 89 => ("CardsGoneModel", "traces", "I", false)
  | 90 => ("CardsGoneModel", "traced", "[I", true)
  | 91 => ("CardsGoneModel", "holds", "[I", true)
  | 92 => ("CardsGoneModel", "size", "[I", true)
  | 93 => ("CardsGoneModel", "elements", "[J", true)
  | _ => ("CardsGoneModel", "shifted", "[J", true)
def tyX12 : Nat → FieldType := fun k => match k with
  | 0 => .int
  | 1 => .int
  | 2 => .int
  | 3 => .int
  | 4 => .int
  | 5 => .boolean
  | 6 => .array .byte
  | 7 => .int
  | 8 => .int
  | 9 => .array .int
  | 10 => .array .int
  | 11 => .int
  | 12 => .int
  | 13 => .int
  | 14 => .array .int
  | 15 => .array .int
  | 16 => .array .int
  | 17 => .array .int
  | 18 => .array .byte
  | 19 => .int
  | 20 => .int
  | 21 => .int
  | 22 => .int
  | 23 => .int
  | 24 => .array .byte
  | 25 => .array .int
  | 26 => .array .int
  | 27 => .array .short
  | 28 => .array .short
  | 29 => .array .int
  | 30 => .array .int
  | 31 => .int
  | 32 => .array .int
  | 33 => .array .int
  | 34 => .array .int
  | 35 => .array .int
  | 36 => .array .int
  | 37 => .array .int
  | 38 => .array .int
  | 39 => .array .long
  | 40 => .array .boolean
  | 41 => .array .long
  | 42 => .array .long
  | 43 => .array .boolean
  | 44 => .array .long
  | 45 => .int
  | 46 => .array .int
  | 47 => .array .int
  | 48 => .array .int
  | 49 => .array .int
  | 50 => .array .int
  | 51 => .array .int
  | 52 => .array .boolean
  | 53 => .array .int
  | 54 => .array .byte
  | 55 => .array .byte
  | 56 => .array .byte
  | 57 => .array .byte
  | 58 => .array .int
  | 59 => .boolean
  | 60 => .int
  | 61 => .int
  | 62 => .int
  | 63 => .int
  | 64 => .boolean
  | 65 => .int
  | 66 => .boolean
  | 67 => .int
  | 68 => .int
  | 69 => .int
  | 70 => .boolean
  | 71 => .int
  | 72 => .array .long
  | 73 => .array .byte
  | 74 => .array .int
  | 75 => .array .int
  | 76 => .array .boolean
  | 77 => .array .byte
  | 78 => .array .byte
  | 79 => .array .byte
  | 80 => .array .int
  | 81 => .int
  | 82 => .int
  | 83 => .int
  | 84 => .array .int
  | 85 => .array .int
  | 86 => .array .int
  | 87 => .int
  | 88 => .array .int
  | 89 => .int
  | 90 => .array .int
  | 91 => .array .int
  | 92 => .array .int
  | 93 => .array .long
  | _ => .array .long
abbrev wsX120 : List Cond := u_ws RX12 TX12 95
theorem nmX12 : ∀ a, a < 95 → ∀ b, b < 95 → a ≠ b → (TX12 a).2.1 ≠ (TX12 b).2.1 := by decide +kernel
theorem tyX12_ok : ∀ k, k < 95 → parseFieldDescriptor (TX12 k).2.2.1 = some (tyX12 k) := by decide +kernel
abbrev cX12_init : ByteArray := prog_14_method_1_code
def yX12_init : MethodName := ⟨RX12, "<init>", "()V"⟩
abbrev cX12_in : ByteArray := prog_14_method_3_code
def yX12_in : MethodName := ⟨RX12, "in", "(III)Z"⟩
abbrev cX12_held : ByteArray := prog_14_method_4_code
def yX12_held : MethodName := ⟨RX12, "held", "(III)I"⟩
abbrev cX12_allCards : ByteArray := prog_14_method_5_code
def yX12_allCards : MethodName := ⟨RX12, "allCards", "()I"⟩
abbrev cX12_cardsOf : ByteArray := prog_14_method_6_code
def yX12_cardsOf : MethodName := ⟨RX12, "cardsOf", "(I)I"⟩
abbrev cX12_leftOf : ByteArray := prog_14_method_7_code
def yX12_leftOf : MethodName := ⟨RX12, "leftOf", "(I)I"⟩
abbrev cX12_clearSeen : ByteArray := prog_14_method_8_code
def yX12_clearSeen : MethodName := ⟨RX12, "clearSeen", "()V"⟩
abbrev cX12_shuffle : ByteArray := prog_14_method_9_code
def yX12_shuffle : MethodName := ⟨RX12, "shuffle", "()V"⟩
abbrev cX12_shoe : ByteArray := prog_14_method_10_code
def yX12_shoe : MethodName := ⟨RX12, "shoe", "(II)I"⟩
abbrev cX12_trueCount : ByteArray := prog_14_method_11_code
def yX12_trueCount : MethodName := ⟨RX12, "trueCount", "()I"⟩
abbrev cX12_left : ByteArray := prog_14_method_12_code
def yX12_left : MethodName := ⟨RX12, "left", "(I)I"⟩
abbrev cX12_set : ByteArray := prog_14_method_13_code
def yX12_set : MethodName := ⟨RX12, "set", "(III)V"⟩
abbrev cX12_changes : ByteArray := prog_14_method_14_code
def yX12_changes : MethodName := ⟨RX12, "changes", "(III)I"⟩
abbrev cX12_undo : ByteArray := prog_14_method_15_code
def yX12_undo : MethodName := ⟨RX12, "undo", "()I"⟩
abbrev cX12_redo : ByteArray := prog_14_method_16_code
def yX12_redo : MethodName := ⟨RX12, "redo", "()I"⟩
abbrev cX12_isRule : ByteArray := prog_14_method_17_code
def yX12_isRule : MethodName := ⟨RX12, "isRule", "(II)Z"⟩
abbrev cX12_rule : ByteArray := prog_14_method_18_code
def yX12_rule : MethodName := ⟨RX12, "rule", "(II)I"⟩
abbrev cX12_limit : ByteArray := prog_14_method_19_code
def yX12_limit : MethodName := ⟨RX12, "limit", "(I)I"⟩
abbrev cX12_feed : ByteArray := prog_14_method_20_code
def yX12_feed : MethodName := ⟨RX12, "feed", "(II)I"⟩
abbrev cX12_look : ByteArray := prog_14_method_21_code
def yX12_look : MethodName := ⟨RX12, "look", "()I"⟩
abbrev cX12_wrong : ByteArray := prog_14_method_22_code
def yX12_wrong : MethodName := ⟨RX12, "wrong", "()V"⟩
abbrev cX12_addStep : ByteArray := prog_14_method_23_code
def yX12_addStep : MethodName := ⟨RX12, "addStep", "(II)V"⟩
abbrev cX12_nameOf : ByteArray := prog_14_method_24_code
def yX12_nameOf : MethodName := ⟨RX12, "nameOf", "(I)I"⟩
abbrev cX12_opens : ByteArray := prog_14_method_25_code
def yX12_opens : MethodName := ⟨RX12, "opens", "()Z"⟩
abbrev cX12_figure : ByteArray := prog_14_method_26_code
def yX12_figure : MethodName := ⟨RX12, "figure", "()V"⟩
abbrev cX12_operand : ByteArray := prog_14_method_27_code
def yX12_operand : MethodName := ⟨RX12, "operand", "()V"⟩
abbrev cX12_product : ByteArray := prog_14_method_28_code
def yX12_product : MethodName := ⟨RX12, "product", "()V"⟩
abbrev cX12_sum : ByteArray := prog_14_method_29_code
def yX12_sum : MethodName := ⟨RX12, "sum", "()V"⟩
abbrev cX12_compared : ByteArray := prog_14_method_30_code
def yX12_compared : MethodName := ⟨RX12, "compared", "()V"⟩
abbrev cX12_both : ByteArray := prog_14_method_31_code
def yX12_both : MethodName := ⟨RX12, "both", "()V"⟩
abbrev cX12_either : ByteArray := prog_14_method_32_code
def yX12_either : MethodName := ⟨RX12, "either", "()V"⟩
abbrev cX12_line : ByteArray := prog_14_method_33_code
def yX12_line : MethodName := ⟨RX12, "line", "()V"⟩
abbrev cX12_text : ByteArray := prog_14_method_34_code
def yX12_text : MethodName := ⟨RX12, "text", "(I)I"⟩
abbrev cX12_twoOf : ByteArray := prog_14_method_35_code
def yX12_twoOf : MethodName := ⟨RX12, "twoOf", "(III)I"⟩
abbrev cX12_worked : ByteArray := prog_14_method_36_code
def yX12_worked : MethodName := ⟨RX12, "worked", "(III)I"⟩
abbrev cX12_gives : ByteArray := prog_14_method_37_code
def yX12_gives : MethodName := ⟨RX12, "gives", "(I)I"⟩
abbrev cX12_clearFacts : ByteArray := prog_14_method_38_code
def yX12_clearFacts : MethodName := ⟨RX12, "clearFacts", "()V"⟩
abbrev cX12_tagOf : ByteArray := prog_14_method_39_code
def yX12_tagOf : MethodName := ⟨RX12, "tagOf", "(I)I"⟩
abbrev cX12_tag : ByteArray := prog_14_method_40_code
def yX12_tag : MethodName := ⟨RX12, "tag", "(I)I"⟩
abbrev cX12_isPlayer : ByteArray := prog_14_method_41_code
def yX12_isPlayer : MethodName := ⟨RX12, "isPlayer", "(I)Z"⟩
abbrev cX12_isUnder : ByteArray := prog_14_method_42_code
def yX12_isUnder : MethodName := ⟨RX12, "isUnder", "(II)Z"⟩
abbrev cX12_seesCount : ByteArray := prog_14_method_43_code
def yX12_seesCount : MethodName := ⟨RX12, "seesCount", "(I)Z"⟩
abbrev cX12_player : ByteArray := prog_14_method_44_code
def yX12_player : MethodName := ⟨RX12, "player", "(III)I"⟩
abbrev cX12_isBarred : ByteArray := prog_14_method_45_code
def yX12_isBarred : MethodName := ⟨RX12, "isBarred", "(I)Z"⟩
abbrev cX12_ofPlayer : ByteArray := prog_14_method_46_code
def yX12_ofPlayer : MethodName := ⟨RX12, "ofPlayer", "(II)I"⟩
abbrev cX12_purse : ByteArray := prog_14_method_47_code
def yX12_purse : MethodName := ⟨RX12, "purse", "(II)I"⟩
abbrev cX12_asLeft : ByteArray := prog_14_method_48_code
def yX12_asLeft : MethodName := ⟨RX12, "asLeft", "()V"⟩
abbrev cX12_asWhole : ByteArray := prog_14_method_49_code
def yX12_asWhole : MethodName := ⟨RX12, "asWhole", "()V"⟩
abbrev cX12_totalOf : ByteArray := prog_14_method_50_code
def yX12_totalOf : MethodName := ⟨RX12, "totalOf", "(IZ)I"⟩
abbrev cX12_isSoft : ByteArray := prog_14_method_51_code
def yX12_isSoft : MethodName := ⟨RX12, "isSoft", "(IZ)Z"⟩
abbrev cX12_dealerDraws : ByteArray := prog_14_method_52_code
def yX12_dealerDraws : MethodName := ⟨RX12, "dealerDraws", "(IZ)Z"⟩
abbrev cX12_findEnds : ByteArray := prog_14_method_53_code
def yX12_findEnds : MethodName := ⟨RX12, "findEnds", "(IZ)V"⟩
abbrev cX12_forgetEnds : ByteArray := prog_14_method_54_code
def yX12_forgetEnds : MethodName := ⟨RX12, "forgetEnds", "()V"⟩
abbrev cX12_endsFrom : ByteArray := prog_14_method_55_code
def yX12_endsFrom : MethodName := ⟨RX12, "endsFrom", "(I)V"⟩
abbrev cX12_standAt : ByteArray := prog_14_method_56_code
def yX12_standAt : MethodName := ⟨RX12, "standAt", "(I)J"⟩
abbrev cX12_drawAt : ByteArray := prog_14_method_57_code
def yX12_drawAt : MethodName := ⟨RX12, "drawAt", "(IZ)J"⟩
abbrev cX12_doubleAt : ByteArray := prog_14_method_58_code
def yX12_doubleAt : MethodName := ⟨RX12, "doubleAt", "(IZ)J"⟩
abbrev cX12_playAt : ByteArray := prog_14_method_59_code
def yX12_playAt : MethodName := ⟨RX12, "playAt", "(IZI)J"⟩
abbrev cX12_bestAt : ByteArray := prog_14_method_60_code
def yX12_bestAt : MethodName := ⟨RX12, "bestAt", "(IZZ)I"⟩
abbrev cX12_ends : ByteArray := prog_14_method_61_code
def yX12_ends : MethodName := ⟨RX12, "ends", "(II)I"⟩
abbrev cX12_isTotal : ByteArray := prog_14_method_62_code
def yX12_isTotal : MethodName := ⟨RX12, "isTotal", "(I)Z"⟩
abbrev cX12_sumOf : ByteArray := prog_14_method_63_code
def yX12_sumOf : MethodName := ⟨RX12, "sumOf", "(I)I"⟩
abbrev cX12_worth : ByteArray := prog_14_method_64_code
def yX12_worth : MethodName := ⟨RX12, "worth", "(III)I"⟩
abbrev cX12_cost : ByteArray := prog_14_method_65_code
def yX12_cost : MethodName := ⟨RX12, "cost", "(III)I"⟩
abbrev cX12_wholeBy : ByteArray := prog_14_method_66_code
def yX12_wholeBy : MethodName := ⟨RX12, "wholeBy", "()J"⟩
abbrev cX12_whole : ByteArray := prog_14_method_67_code
def yX12_whole : MethodName := ⟨RX12, "whole", "()I"⟩
abbrev cX12_row : ByteArray := prog_14_method_68_code
def yX12_row : MethodName := ⟨RX12, "row", "(III)I"⟩
abbrev cX12_ruleFirst : ByteArray := prog_14_method_69_code
def yX12_ruleFirst : MethodName := ⟨RX12, "ruleFirst", "(I)I"⟩
abbrev cX12_ruled : ByteArray := prog_14_method_70_code
def yX12_ruled : MethodName := ⟨RX12, "ruled", "(I)I"⟩
abbrev cX12_nextCard : ByteArray := prog_14_method_71_code
def yX12_nextCard : MethodName := ⟨RX12, "nextCard", "()I"⟩
abbrev cX12_show : ByteArray := prog_14_method_72_code
def yX12_show : MethodName := ⟨RX12, "show", "(I)V"⟩
abbrev cX12_keepCard : ByteArray := prog_14_method_73_code
def yX12_keepCard : MethodName := ⟨RX12, "keepCard", "(ZI)V"⟩
abbrev cX12_takeOwn : ByteArray := prog_14_method_74_code
def yX12_takeOwn : MethodName := ⟨RX12, "takeOwn", "()Z"⟩
abbrev cX12_findSight : ByteArray := prog_14_method_75_code
def yX12_findSight : MethodName := ⟨RX12, "findSight", "(I)V"⟩
abbrev cX12_askPlay : ByteArray := prog_14_method_76_code
def yX12_askPlay : MethodName := ⟨RX12, "askPlay", "(I)I"⟩
abbrev cX12_lookAtBest : ByteArray := prog_14_method_77_code
def yX12_lookAtBest : MethodName := ⟨RX12, "lookAtBest", "(II)V"⟩
abbrev cX12_playHand : ByteArray := prog_14_method_78_code
def yX12_playHand : MethodName := ⟨RX12, "playHand", "()I"⟩
abbrev cX12_betOf : ByteArray := prog_14_method_79_code
def yX12_betOf : MethodName := ⟨RX12, "betOf", "(I)I"⟩
abbrev cX12_pointsFor : ByteArray := prog_14_method_80_code
def yX12_pointsFor : MethodName := ⟨RX12, "pointsFor", "(IIII)I"⟩
abbrev cX12_playOne : ByteArray := prog_14_method_81_code
def yX12_playOne : MethodName := ⟨RX12, "playOne", "(II)V"⟩
abbrev cX12_playMany : ByteArray := prog_14_method_82_code
def yX12_playMany : MethodName := ⟨RX12, "playMany", "(II)I"⟩
abbrev cX12_play : ByteArray := prog_14_method_83_code
def yX12_play : MethodName := ⟨RX12, "play", "(II)I"⟩
abbrev cX12_led : ByteArray := prog_14_method_84_code
def yX12_led : MethodName := ⟨RX12, "led", "(II)I"⟩
abbrev cX12_hand : ByteArray := prog_14_method_85_code
def yX12_hand : MethodName := ⟨RX12, "hand", "(III)I"⟩
abbrev cX12_says : ByteArray := prog_14_method_86_code
def yX12_says : MethodName := ⟨RX12, "says", "()I"⟩
abbrev cX12_hides : ByteArray := prog_14_method_87_code
def yX12_hides : MethodName := ⟨RX12, "hides", "()I"⟩
abbrev cX12_keepLed : ByteArray := prog_14_method_88_code
def yX12_keepLed : MethodName := ⟨RX12, "keepLed", "(Z)V"⟩
abbrev cX12_moveInt : ByteArray := prog_14_method_89_code
def yX12_moveInt : MethodName := ⟨RX12, "moveInt", "(Z[III)V"⟩
abbrev cX12_findDeep : ByteArray := prog_14_method_90_code
def yX12_findDeep : MethodName := ⟨RX12, "findDeep", "(III)V"⟩
abbrev cX12_deep : ByteArray := prog_14_method_91_code
def yX12_deep : MethodName := ⟨RX12, "deep", "(IIII)I"⟩
abbrev cX12_step : ByteArray := prog_14_method_92_code
def yX12_step : MethodName := ⟨RX12, "step", "(I)I"⟩
abbrev cX12_unstep : ByteArray := prog_14_method_93_code
def yX12_unstep : MethodName := ⟨RX12, "unstep", "()I"⟩
abbrev cX12_riffle : ByteArray := prog_14_method_94_code
def yX12_riffle : MethodName := ⟨RX12, "riffle", "(II)V"⟩
abbrev cX12_findOrder : ByteArray := prog_14_method_95_code
def yX12_findOrder : MethodName := ⟨RX12, "findOrder", "(I)V"⟩
abbrev cX12_where : ByteArray := prog_14_method_96_code
def yX12_where : MethodName := ⟨RX12, "where", "(II)I"⟩
abbrev cX12_together : ByteArray := prog_14_method_97_code
def yX12_together : MethodName := ⟨RX12, "together", "(II)I"⟩
abbrev cX12_word : ByteArray := prog_14_method_98_code
def yX12_word : MethodName := ⟨RX12, "word", "(I)I"⟩
abbrev cX12_heard : ByteArray := prog_14_method_99_code
def yX12_heard : MethodName := ⟨RX12, "heard", "(I)I"⟩
abbrev cX12_ran : ByteArray := prog_14_method_100_code
def yX12_ran : MethodName := ⟨RX12, "ran", "(I)V"⟩
abbrev cX12_plainPlays : ByteArray := prog_14_method_101_code
def yX12_plainPlays : MethodName := ⟨RX12, "plainPlays", "(II)I"⟩
abbrev cX12_plays : ByteArray := prog_14_method_102_code
def yX12_plays : MethodName := ⟨RX12, "plays", "(II)I"⟩
abbrev cX12_plainCounts : ByteArray := prog_14_method_103_code
def yX12_plainCounts : MethodName := ⟨RX12, "plainCounts", "(II)I"⟩
abbrev cX12_bigCounts : ByteArray := prog_14_method_104_code
def yX12_bigCounts : MethodName := ⟨RX12, "bigCounts", "(II)I"⟩
abbrev cX12_counts : ByteArray := prog_14_method_105_code
def yX12_counts : MethodName := ⟨RX12, "counts", "(II)I"⟩
abbrev cX12_plainBets : ByteArray := prog_14_method_106_code
def yX12_plainBets : MethodName := ⟨RX12, "plainBets", "(II)I"⟩
abbrev cX12_countingBets : ByteArray := prog_14_method_107_code
def yX12_countingBets : MethodName := ⟨RX12, "countingBets", "(II)I"⟩
abbrev cX12_bets : ByteArray := prog_14_method_108_code
def yX12_bets : MethodName := ⟨RX12, "bets", "(II)I"⟩
abbrev cX12_plainTells : ByteArray := prog_14_method_109_code
def yX12_plainTells : MethodName := ⟨RX12, "plainTells", "(II)I"⟩
abbrev cX12_bigTells : ByteArray := prog_14_method_110_code
def yX12_bigTells : MethodName := ⟨RX12, "bigTells", "(II)I"⟩
abbrev cX12_tells : ByteArray := prog_14_method_111_code
def yX12_tells : MethodName := ⟨RX12, "tells", "(II)I"⟩
abbrev cX12_act : ByteArray := prog_14_method_112_code
def yX12_act : MethodName := ⟨RX12, "act", "(III)I"⟩
abbrev cX12_trace : ByteArray := prog_14_method_113_code
def yX12_trace : MethodName := ⟨RX12, "trace", "(I)I"⟩
abbrev cX12_count : ByteArray := prog_14_method_114_code
def yX12_count : MethodName := ⟨RX12, "count", "(I)I"⟩
abbrev cX12_isShelf : ByteArray := prog_14_method_115_code
def yX12_isShelf : MethodName := ⟨RX12, "isShelf", "(I)Z"⟩
abbrev cX12_keep : ByteArray := prog_14_method_116_code
def yX12_keep : MethodName := ⟨RX12, "keep", "(II)I"⟩
abbrev cX12_lay : ByteArray := prog_14_method_117_code
def yX12_lay : MethodName := ⟨RX12, "lay", "(III)I"⟩
abbrev cX12_whyNoPlace : ByteArray := prog_14_method_118_code
def yX12_whyNoPlace : MethodName := ⟨RX12, "whyNoPlace", "(II)I"⟩
abbrev cX12_put : ByteArray := prog_14_method_119_code
def yX12_put : MethodName := ⟨RX12, "put", "(IIJ)I"⟩
abbrev cX12_element : ByteArray := prog_14_method_120_code
def yX12_element : MethodName := ⟨RX12, "element", "(II)J"⟩
abbrev cX12_shift : ByteArray := prog_14_method_121_code
def yX12_shift : MethodName := ⟨RX12, "shift", "(IIIII)I"⟩
abbrev cX12_taken : ByteArray := prog_14_method_122_code
def yX12_taken : MethodName := ⟨RX12, "taken", "(II)I"⟩
def RJ11 : String := "java/lang/Character"
def TJ11 : u_T := fun k => match k with
  | _ => ("", "", "", false)
def tyJ11 : Nat → FieldType := fun k => match k with
  | _ => .int
abbrev wsJ110 : List Cond := u_ws RJ11 TJ11 0
theorem nmJ11 : ∀ a, a < 0 → ∀ b, b < 0 → a ≠ b → (TJ11 a).2.1 ≠ (TJ11 b).2.1 := by decide +kernel
theorem tyJ11_ok : ∀ k, k < 0 → parseFieldDescriptor (TJ11 k).2.2.1 = some (tyJ11 k) := by decide +kernel
abbrev cJ11_isValidCodePoint_9a6ad : ByteArray := prog_15_method_11_code
def yJ11_isValidCodePoint_9a6ad : MethodName := ⟨RJ11, "isValidCodePoint", "(I)Z"⟩
abbrev cJ11_highSurrogate_5068e : ByteArray := prog_15_method_28_code
def yJ11_highSurrogate_5068e : MethodName := ⟨RJ11, "highSurrogate", "(I)C"⟩
abbrev cJ11_lowSurrogate_5068e : ByteArray := prog_15_method_29_code
def yJ11_lowSurrogate_5068e : MethodName := ⟨RJ11, "lowSurrogate", "(I)C"⟩
def RJ6 : String := "java/lang/Integer"
def TJ6 : u_T := fun k => match k with
  | _ => ("", "", "", false)
def tyJ6 : Nat → FieldType := fun k => match k with
  | _ => .int
abbrev wsJ60 : List Cond := u_ws RJ6 TJ6 0
theorem nmJ6 : ∀ a, a < 0 → ∀ b, b < 0 → a ≠ b → (TJ6 a).2.1 ≠ (TJ6 b).2.1 := by decide +kernel
theorem tyJ6_ok : ∀ k, k < 0 → parseFieldDescriptor (TJ6 k).2.2.1 = some (tyJ6 k) := by decide +kernel
abbrev cJ6_compare_7cf53 : ByteArray := prog_16_method_40_code
def yJ6_compare_7cf53 : MethodName := ⟨RJ6, "compare", "(II)I"⟩
def RJ9 : String := "java/lang/Math"
def TJ9 : u_T := fun k => match k with
  | _ => ("", "", "", false)
def tyJ9 : Nat → FieldType := fun k => match k with
  | _ => .int
abbrev wsJ90 : List Cond := u_ws RJ9 TJ9 0
theorem nmJ9 : ∀ a, a < 0 → ∀ b, b < 0 → a ≠ b → (TJ9 a).2.1 ≠ (TJ9 b).2.1 := by decide +kernel
theorem tyJ9_ok : ∀ k, k < 0 → parseFieldDescriptor (TJ9 k).2.2.1 = some (tyJ9 k) := by decide +kernel
abbrev cJ9_max_7cf53 : ByteArray := prog_17_method_65_code
def yJ9_max_7cf53 : MethodName := ⟨RJ9, "max", "(II)I"⟩
abbrev cJ9_min_7cf53 : ByteArray := prog_17_method_69_code
def yJ9_min_7cf53 : MethodName := ⟨RJ9, "min", "(II)I"⟩
def RJ0 : String := "java/lang/String"
def TJ0 : u_T := fun k => match k with
  | _ => ("", "", "", false)
def tyJ0 : Nat → FieldType := fun k => match k with
  | _ => .int
abbrev wsJ00 : List Cond := u_ws RJ0 TJ0 0
theorem nmJ0 : ∀ a, a < 0 → ∀ b, b < 0 → a ≠ b → (TJ0 a).2.1 ≠ (TJ0 b).2.1 := by decide +kernel
theorem tyJ0_ok : ∀ k, k < 0 → parseFieldDescriptor (TJ0 k).2.2.1 = some (tyJ0 k) := by decide +kernel
abbrev cJ0_length_8abf5 : ByteArray := prog_18_method_54_code
def yJ0_length_8abf5 : MethodName := ⟨RJ0, "length", "()I"⟩
abbrev cJ0_indexOf_0f7a4 : ByteArray := prog_18_method_79_code
def yJ0_indexOf_0f7a4 : MethodName := ⟨RJ0, "indexOf", "(I)I"⟩
abbrev cJ0_indexOf_7cf53 : ByteArray := prog_18_method_80_code
def yJ0_indexOf_7cf53 : MethodName := ⟨RJ0, "indexOf", "(II)I"⟩
abbrev cJ0_coder_7d493 : ByteArray := prog_18_method_152_code
def yJ0_coder_7d493 : MethodName := ⟨RJ0, "coder", "()B"⟩
abbrev cJ0_isLatin1_aae02 : ByteArray := prog_18_method_154_code
def yJ0_isLatin1_aae02 : MethodName := ⟨RJ0, "isLatin1", "()Z"⟩
abbrev cJ0_checkBoundsBeginEnd_23922 : ByteArray := prog_18_method_158_code
def yJ0_checkBoundsBeginEnd_23922 : MethodName := ⟨RJ0, "checkBoundsBeginEnd", "(III)V"⟩
def RJ1 : String := "java/lang/StringLatin1"
def TJ1 : u_T := fun k => match k with
  | _ => ("", "", "", false)
def tyJ1 : Nat → FieldType := fun k => match k with
  | _ => .int
abbrev wsJ10 : List Cond := u_ws RJ1 TJ1 0
theorem nmJ1 : ∀ a, a < 0 → ∀ b, b < 0 → a ≠ b → (TJ1 a).2.1 ≠ (TJ1 b).2.1 := by decide +kernel
theorem tyJ1_ok : ∀ k, k < 0 → parseFieldDescriptor (TJ1 k).2.2.1 = some (tyJ1 k) := by decide +kernel
abbrev cJ1_canEncode_9a6ad : ByteArray := prog_19_method_4_code
def yJ1_canEncode_9a6ad : MethodName := ⟨RJ1, "canEncode", "(I)Z"⟩
abbrev cJ1_indexOf_4cfef : ByteArray := prog_19_method_22_code
def yJ1_indexOf_4cfef : MethodName := ⟨RJ1, "indexOf", "([BIII)I"⟩
abbrev cJ1_indexOfChar_4cfef : ByteArray := prog_19_method_23_code
def yJ1_indexOfChar_4cfef : MethodName := ⟨RJ1, "indexOfChar", "([BIII)I"⟩
def RJ2 : String := "java/lang/StringUTF16"
def TJ2 : u_T := fun k => match k with
  | _ => ("", "", "", false)
def tyJ2 : Nat → FieldType := fun k => match k with
  | _ => .int
abbrev wsJ20 : List Cond := u_ws RJ2 TJ2 0
theorem nmJ2 : ∀ a, a < 0 → ∀ b, b < 0 → a ≠ b → (TJ2 a).2.1 ≠ (TJ2 b).2.1 := by decide +kernel
theorem tyJ2_ok : ∀ k, k < 0 → parseFieldDescriptor (TJ2 k).2.2.1 = some (tyJ2 k) := by decide +kernel
abbrev cJ2_getChar_3b067 : ByteArray := prog_20_method_5_code
def yJ2_getChar_3b067 : MethodName := ⟨RJ2, "getChar", "([BI)C"⟩
abbrev cJ2_length_9d52b : ByteArray := prog_20_method_6_code
def yJ2_length_9d52b : MethodName := ⟨RJ2, "length", "([B)I"⟩
abbrev cJ2_indexOf_4cfef : ByteArray := prog_20_method_40_code
def yJ2_indexOf_4cfef : MethodName := ⟨RJ2, "indexOf", "([BIII)I"⟩
abbrev cJ2_indexOfChar_4cfef : ByteArray := prog_20_method_47_code
def yJ2_indexOfChar_4cfef : MethodName := ⟨RJ2, "indexOfChar", "([BIII)I"⟩
abbrev cJ2_indexOfCharUnsafe_4cfef : ByteArray := prog_20_method_48_code
def yJ2_indexOfCharUnsafe_4cfef : MethodName := ⟨RJ2, "indexOfCharUnsafe", "([BIII)I"⟩
abbrev cJ2_indexOfSupplementary_4cfef : ByteArray := prog_20_method_49_code
def yJ2_indexOfSupplementary_4cfef : MethodName := ⟨RJ2, "indexOfSupplementary", "([BIII)I"⟩
abbrev cJ2_checkBoundsBeginEnd_d044e : ByteArray := prog_20_method_93_code
def yJ2_checkBoundsBeginEnd_d044e : MethodName := ⟨RJ2, "checkBoundsBeginEnd", "(II[B)V"⟩
def RJ3 : String := "jdk/internal/util/Preconditions"
def TJ3 : u_T := fun k => match k with
  | _ => ("", "", "", false)
def tyJ3 : Nat → FieldType := fun k => match k with
  | _ => .int
abbrev wsJ30 : List Cond := u_ws RJ3 TJ3 0
theorem nmJ3 : ∀ a, a < 0 → ∀ b, b < 0 → a ≠ b → (TJ3 a).2.1 ≠ (TJ3 b).2.1 := by decide +kernel
theorem tyJ3_ok : ∀ k, k < 0 → parseFieldDescriptor (TJ3 k).2.2.1 = some (tyJ3 k) := by decide +kernel
abbrev cJ3_checkFromToIndex_8c36e : ByteArray := prog_21_method_12_code
def yJ3_checkFromToIndex_8c36e : MethodName := ⟨RJ3, "checkFromToIndex", "(IIILjava/util/function/BiFunction;)I"⟩
def RL : String := "CardsGoneLaw"
abbrev cL_law : ByteArray := code
def yL_law : MethodName := ⟨RL, "law", "([I)Z"⟩
