-- ===== PART A: goes FIRST, ahead of the names: the tables' words, and 'selects' of the private methods out of them =====
/-- a private method of a class that the tables say can be made, by its rows of tables_1 -/
def lw_okq (q : MethodName × Nat) : Prop := (q.1.cls ≠ "java/lang/invoke/MethodHandle" ∧ q.1.cls ≠ "java/lang/invoke/VarHandle") ∧ Cond.instantiable q.1.cls q.2 ∈ tables_1 ∧ Cond.privateMethod q.1 ∈ tables_1 ∧ Cond.instanceMethod q.1 ∈ tables_1
theorem lw_p0 : lw_okq (⟨"CardsGone$Shoe", "forget", "()V"⟩, 10) := ⟨⟨by decide +kernel, by decide +kernel⟩, List.mem_of_getElem? (i := 28) (by decide +kernel), List.mem_of_getElem? (i := 487) (by decide +kernel), List.mem_of_getElem? (i := 488) (by decide +kernel)⟩
theorem lw_p1 : lw_okq (⟨"CardsGone$Reader", "readLine", "()Z"⟩, 5) := ⟨⟨by decide +kernel, by decide +kernel⟩, List.mem_of_getElem? (i := 319) (by decide +kernel), List.mem_of_getElem? (i := 505) (by decide +kernel), List.mem_of_getElem? (i := 506) (by decide +kernel)⟩
theorem lw_p2 : lw_okq (⟨"CardsGone$Reader", "read", "(II)Z"⟩, 5) := ⟨⟨by decide +kernel, by decide +kernel⟩, List.mem_of_getElem? (i := 319) (by decide +kernel), List.mem_of_getElem? (i := 509) (by decide +kernel), List.mem_of_getElem? (i := 510) (by decide +kernel)⟩
theorem lw_p3 : lw_okq (⟨"CardsGone$Reader", "readOne", "(I)Z"⟩, 5) := ⟨⟨by decide +kernel, by decide +kernel⟩, List.mem_of_getElem? (i := 319) (by decide +kernel), List.mem_of_getElem? (i := 513) (by decide +kernel), List.mem_of_getElem? (i := 514) (by decide +kernel)⟩
theorem lw_p4 : lw_okq (⟨"CardsGone$Reader", "sign", "()I"⟩, 5) := ⟨⟨by decide +kernel, by decide +kernel⟩, List.mem_of_getElem? (i := 319) (by decide +kernel), List.mem_of_getElem? (i := 517) (by decide +kernel), List.mem_of_getElem? (i := 518) (by decide +kernel)⟩
theorem lw_p5 : lw_okq (⟨"CardsGone$Reader", "readNumber", "()Z"⟩, 5) := ⟨⟨by decide +kernel, by decide +kernel⟩, List.mem_of_getElem? (i := 319) (by decide +kernel), List.mem_of_getElem? (i := 527) (by decide +kernel), List.mem_of_getElem? (i := 528) (by decide +kernel)⟩
theorem lw_p6 : lw_okq (⟨"CardsGone$Reader", "emit", "(I)V"⟩, 5) := ⟨⟨by decide +kernel, by decide +kernel⟩, List.mem_of_getElem? (i := 319) (by decide +kernel), List.mem_of_getElem? (i := 531) (by decide +kernel), List.mem_of_getElem? (i := 532) (by decide +kernel)⟩
theorem lw_p7 : lw_okq (⟨"CardsGone$Reader", "readInside", "(I)Z"⟩, 5) := ⟨⟨by decide +kernel, by decide +kernel⟩, List.mem_of_getElem? (i := 319) (by decide +kernel), List.mem_of_getElem? (i := 623) (by decide +kernel), List.mem_of_getElem? (i := 624) (by decide +kernel)⟩
theorem lw_p8 : lw_okq (⟨"CardsGone", "textBecomes", "(I)V"⟩, 16) := ⟨⟨by decide +kernel, by decide +kernel⟩, List.mem_of_getElem? (i := 20) (by decide +kernel), List.mem_of_getElem? (i := 630) (by decide +kernel), List.mem_of_getElem? (i := 631) (by decide +kernel)⟩
theorem lw_p9 : lw_okq (⟨"CardsGone$Text", "pop", "()I"⟩, 4) := ⟨⟨by decide +kernel, by decide +kernel⟩, List.mem_of_getElem? (i := 75) (by decide +kernel), List.mem_of_getElem? (i := 655) (by decide +kernel), List.mem_of_getElem? (i := 656) (by decide +kernel)⟩
theorem lw_p10 : lw_okq (⟨"CardsGone$Text", "work", "(I[I)V"⟩, 4) := ⟨⟨by decide +kernel, by decide +kernel⟩, List.mem_of_getElem? (i := 75) (by decide +kernel), List.mem_of_getElem? (i := 659) (by decide +kernel), List.mem_of_getElem? (i := 660) (by decide +kernel)⟩
theorem lw_p11 : lw_okq (⟨"CardsGone$Text", "push", "(I)V"⟩, 4) := ⟨⟨by decide +kernel, by decide +kernel⟩, List.mem_of_getElem? (i := 75) (by decide +kernel), List.mem_of_getElem? (i := 663) (by decide +kernel), List.mem_of_getElem? (i := 664) (by decide +kernel)⟩
theorem lw_p12 : lw_okq (⟨"CardsGone", "bodyAt", "(I)LCardsGone$Body;"⟩, 16) := ⟨⟨by decide +kernel, by decide +kernel⟩, List.mem_of_getElem? (i := 20) (by decide +kernel), List.mem_of_getElem? (i := 683) (by decide +kernel), List.mem_of_getElem? (i := 684) (by decide +kernel)⟩
theorem lw_p13 : lw_okq (⟨"CardsGone$Changes", "dropEldest", "()V"⟩, 5) := ⟨⟨by decide +kernel, by decide +kernel⟩, List.mem_of_getElem? (i := 351) (by decide +kernel), List.mem_of_getElem? (i := 695) (by decide +kernel), List.mem_of_getElem? (i := 696) (by decide +kernel)⟩
theorem lw_p14 : lw_okq (⟨"CardsGone", "mayPlay", "(LCardsGone$Body;)Z"⟩, 16) := ⟨⟨by decide +kernel, by decide +kernel⟩, List.mem_of_getElem? (i := 20) (by decide +kernel), List.mem_of_getElem? (i := 705) (by decide +kernel), List.mem_of_getElem? (i := 706) (by decide +kernel)⟩
theorem lw_p15 : lw_okq (⟨"CardsGone$Shoe", "shuffle", "()V"⟩, 10) := ⟨⟨by decide +kernel, by decide +kernel⟩, List.mem_of_getElem? (i := 28) (by decide +kernel), List.mem_of_getElem? (i := 721) (by decide +kernel), List.mem_of_getElem? (i := 722) (by decide +kernel)⟩
def lw_privs_1 : List (MethodName × Nat) := [(⟨"CardsGone$Shoe", "forget", "()V"⟩, 10), (⟨"CardsGone$Reader", "readLine", "()Z"⟩, 5), (⟨"CardsGone$Reader", "read", "(II)Z"⟩, 5), (⟨"CardsGone$Reader", "readOne", "(I)Z"⟩, 5), (⟨"CardsGone$Reader", "sign", "()I"⟩, 5), (⟨"CardsGone$Reader", "readNumber", "()Z"⟩, 5), (⟨"CardsGone$Reader", "emit", "(I)V"⟩, 5), (⟨"CardsGone$Reader", "readInside", "(I)Z"⟩, 5), (⟨"CardsGone", "textBecomes", "(I)V"⟩, 16), (⟨"CardsGone$Text", "pop", "()I"⟩, 4), (⟨"CardsGone$Text", "work", "(I[I)V"⟩, 4), (⟨"CardsGone$Text", "push", "(I)V"⟩, 4), (⟨"CardsGone", "bodyAt", "(I)LCardsGone$Body;"⟩, 16), (⟨"CardsGone$Changes", "dropEldest", "()V"⟩, 5), (⟨"CardsGone", "mayPlay", "(LCardsGone$Body;)Z"⟩, 16), (⟨"CardsGone$Shoe", "shuffle", "()V"⟩, 10)]
theorem lw_r1 : ∀ q ∈ lw_privs_1, lw_okq q := List.forall_mem_cons.mpr ⟨lw_p0, List.forall_mem_cons.mpr ⟨lw_p1, List.forall_mem_cons.mpr ⟨lw_p2, List.forall_mem_cons.mpr ⟨lw_p3, List.forall_mem_cons.mpr ⟨lw_p4, List.forall_mem_cons.mpr ⟨lw_p5, List.forall_mem_cons.mpr ⟨lw_p6, List.forall_mem_cons.mpr ⟨lw_p7, List.forall_mem_cons.mpr ⟨lw_p8, List.forall_mem_cons.mpr ⟨lw_p9, List.forall_mem_cons.mpr ⟨lw_p10, List.forall_mem_cons.mpr ⟨lw_p11, List.forall_mem_cons.mpr ⟨lw_p12, List.forall_mem_cons.mpr ⟨lw_p13, List.forall_mem_cons.mpr ⟨lw_p14, List.forall_mem_cons.mpr ⟨lw_p15, fun _ h => absurd h List.not_mem_nil⟩⟩⟩⟩⟩⟩⟩⟩⟩⟩⟩⟩⟩⟩⟩⟩
theorem lw_p16 : lw_okq (⟨"CardsGone$Game", "sit", "(LCardsGone$Body;LCardsGone$Shoe;LCardsGone$Shelf;LCardsGone$Deal;)V"⟩, 16) := ⟨⟨by decide +kernel, by decide +kernel⟩, List.mem_of_getElem? (i := 69) (by decide +kernel), List.mem_of_getElem? (i := 727) (by decide +kernel), List.mem_of_getElem? (i := 728) (by decide +kernel)⟩
theorem lw_p17 : lw_okq (⟨"CardsGone$Game", "betNow", "()I"⟩, 16) := ⟨⟨by decide +kernel, by decide +kernel⟩, List.mem_of_getElem? (i := 69) (by decide +kernel), List.mem_of_getElem? (i := 747) (by decide +kernel), List.mem_of_getElem? (i := 748) (by decide +kernel)⟩
theorem lw_p18 : lw_okq (⟨"CardsGone$Game", "betByText", "(I)I"⟩, 16) := ⟨⟨by decide +kernel, by decide +kernel⟩, List.mem_of_getElem? (i := 69) (by decide +kernel), List.mem_of_getElem? (i := 751) (by decide +kernel), List.mem_of_getElem? (i := 752) (by decide +kernel)⟩
theorem lw_p19 : lw_okq (⟨"CardsGone$Game", "nameWhatIsSeen", "()V"⟩, 16) := ⟨⟨by decide +kernel, by decide +kernel⟩, List.mem_of_getElem? (i := 69) (by decide +kernel), List.mem_of_getElem? (i := 755) (by decide +kernel), List.mem_of_getElem? (i := 756) (by decide +kernel)⟩
theorem lw_p20 : lw_okq (⟨"CardsGone$Game", "cardsCome", "()Z"⟩, 16) := ⟨⟨by decide +kernel, by decide +kernel⟩, List.mem_of_getElem? (i := 69) (by decide +kernel), List.mem_of_getElem? (i := 769) (by decide +kernel), List.mem_of_getElem? (i := 770) (by decide +kernel)⟩
theorem lw_p21 : lw_okq (⟨"CardsGone$Game", "giveMine", "()Z"⟩, 16) := ⟨⟨by decide +kernel, by decide +kernel⟩, List.mem_of_getElem? (i := 69) (by decide +kernel), List.mem_of_getElem? (i := 773) (by decide +kernel), List.mem_of_getElem? (i := 774) (by decide +kernel)⟩
theorem lw_p22 : lw_okq (⟨"CardsGone$Game", "next", "(Z)I"⟩, 16) := ⟨⟨by decide +kernel, by decide +kernel⟩, List.mem_of_getElem? (i := 69) (by decide +kernel), List.mem_of_getElem? (i := 777) (by decide +kernel), List.mem_of_getElem? (i := 778) (by decide +kernel)⟩
theorem lw_p23 : lw_okq (⟨"CardsGone$Game", "tagOf", "(I)I"⟩, 16) := ⟨⟨by decide +kernel, by decide +kernel⟩, List.mem_of_getElem? (i := 69) (by decide +kernel), List.mem_of_getElem? (i := 798) (by decide +kernel), List.mem_of_getElem? (i := 799) (by decide +kernel)⟩
theorem lw_p24 : lw_okq (⟨"CardsGone$Game", "giveTheirs", "(Z)Z"⟩, 16) := ⟨⟨by decide +kernel, by decide +kernel⟩, List.mem_of_getElem? (i := 69) (by decide +kernel), List.mem_of_getElem? (i := 813) (by decide +kernel), List.mem_of_getElem? (i := 814) (by decide +kernel)⟩
theorem lw_p25 : lw_okq (⟨"CardsGone$Game", "playerPlays", "(Z)Z"⟩, 16) := ⟨⟨by decide +kernel, by decide +kernel⟩, List.mem_of_getElem? (i := 69) (by decide +kernel), List.mem_of_getElem? (i := 825) (by decide +kernel), List.mem_of_getElem? (i := 826) (by decide +kernel)⟩
theorem lw_p26 : lw_okq (⟨"CardsGone$Game", "askPlay", "()I"⟩, 16) := ⟨⟨by decide +kernel, by decide +kernel⟩, List.mem_of_getElem? (i := 69) (by decide +kernel), List.mem_of_getElem? (i := 841) (by decide +kernel), List.mem_of_getElem? (i := 842) (by decide +kernel)⟩
theorem lw_p27 : lw_okq (⟨"CardsGone$Game", "asMade", "(IZ)I"⟩, 16) := ⟨⟨by decide +kernel, by decide +kernel⟩, List.mem_of_getElem? (i := 69) (by decide +kernel), List.mem_of_getElem? (i := 845) (by decide +kernel), List.mem_of_getElem? (i := 846) (by decide +kernel)⟩
theorem lw_p28 : lw_okq (⟨"CardsGone$Game", "dealerPlays", "()Z"⟩, 16) := ⟨⟨by decide +kernel, by decide +kernel⟩, List.mem_of_getElem? (i := 69) (by decide +kernel), List.mem_of_getElem? (i := 853) (by decide +kernel), List.mem_of_getElem? (i := 854) (by decide +kernel)⟩
theorem lw_p29 : lw_okq (⟨"CardsGone$Odds", "fillEnds", "(I)V"⟩, 11) := ⟨⟨by decide +kernel, by decide +kernel⟩, List.mem_of_getElem? (i := 95) (by decide +kernel), List.mem_of_getElem? (i := 880) (by decide +kernel), List.mem_of_getElem? (i := 881) (by decide +kernel)⟩
theorem lw_p30 : lw_okq (⟨"CardsGone$Odds", "sumOver", "([III)I"⟩, 11) := ⟨⟨by decide +kernel, by decide +kernel⟩, List.mem_of_getElem? (i := 95) (by decide +kernel), List.mem_of_getElem? (i := 885) (by decide +kernel), List.mem_of_getElem? (i := 886) (by decide +kernel)⟩
theorem lw_p31 : lw_okq (⟨"CardsGone$Odds", "byAll", "(I)I"⟩, 11) := ⟨⟨by decide +kernel, by decide +kernel⟩, List.mem_of_getElem? (i := 95) (by decide +kernel), List.mem_of_getElem? (i := 889) (by decide +kernel), List.mem_of_getElem? (i := 890) (by decide +kernel)⟩
def lw_privs_2 : List (MethodName × Nat) := [(⟨"CardsGone$Game", "sit", "(LCardsGone$Body;LCardsGone$Shoe;LCardsGone$Shelf;LCardsGone$Deal;)V"⟩, 16), (⟨"CardsGone$Game", "betNow", "()I"⟩, 16), (⟨"CardsGone$Game", "betByText", "(I)I"⟩, 16), (⟨"CardsGone$Game", "nameWhatIsSeen", "()V"⟩, 16), (⟨"CardsGone$Game", "cardsCome", "()Z"⟩, 16), (⟨"CardsGone$Game", "giveMine", "()Z"⟩, 16), (⟨"CardsGone$Game", "next", "(Z)I"⟩, 16), (⟨"CardsGone$Game", "tagOf", "(I)I"⟩, 16), (⟨"CardsGone$Game", "giveTheirs", "(Z)Z"⟩, 16), (⟨"CardsGone$Game", "playerPlays", "(Z)Z"⟩, 16), (⟨"CardsGone$Game", "askPlay", "()I"⟩, 16), (⟨"CardsGone$Game", "asMade", "(IZ)I"⟩, 16), (⟨"CardsGone$Game", "dealerPlays", "()Z"⟩, 16), (⟨"CardsGone$Odds", "fillEnds", "(I)V"⟩, 11), (⟨"CardsGone$Odds", "sumOver", "([III)I"⟩, 11), (⟨"CardsGone$Odds", "byAll", "(I)I"⟩, 11)]
theorem lw_r2 : ∀ q ∈ lw_privs_2, lw_okq q := List.forall_mem_cons.mpr ⟨lw_p16, List.forall_mem_cons.mpr ⟨lw_p17, List.forall_mem_cons.mpr ⟨lw_p18, List.forall_mem_cons.mpr ⟨lw_p19, List.forall_mem_cons.mpr ⟨lw_p20, List.forall_mem_cons.mpr ⟨lw_p21, List.forall_mem_cons.mpr ⟨lw_p22, List.forall_mem_cons.mpr ⟨lw_p23, List.forall_mem_cons.mpr ⟨lw_p24, List.forall_mem_cons.mpr ⟨lw_p25, List.forall_mem_cons.mpr ⟨lw_p26, List.forall_mem_cons.mpr ⟨lw_p27, List.forall_mem_cons.mpr ⟨lw_p28, List.forall_mem_cons.mpr ⟨lw_p29, List.forall_mem_cons.mpr ⟨lw_p30, List.forall_mem_cons.mpr ⟨lw_p31, fun _ h => absurd h List.not_mem_nil⟩⟩⟩⟩⟩⟩⟩⟩⟩⟩⟩⟩⟩⟩⟩⟩
theorem lw_p32 : lw_okq (⟨"CardsGone$Odds", "openEnd", "(II)I"⟩, 11) := ⟨⟨by decide +kernel, by decide +kernel⟩, List.mem_of_getElem? (i := 95) (by decide +kernel), List.mem_of_getElem? (i := 898) (by decide +kernel), List.mem_of_getElem? (i := 899) (by decide +kernel)⟩
theorem lw_p33 : lw_okq (⟨"CardsGone$Odds", "standing", "(I)I"⟩, 11) := ⟨⟨by decide +kernel, by decide +kernel⟩, List.mem_of_getElem? (i := 95) (by decide +kernel), List.mem_of_getElem? (i := 902) (by decide +kernel), List.mem_of_getElem? (i := 903) (by decide +kernel)⟩
theorem lw_p34 : lw_okq (⟨"CardsGone$Odds", "fillDraws", "(I)V"⟩, 11) := ⟨⟨by decide +kernel, by decide +kernel⟩, List.mem_of_getElem? (i := 95) (by decide +kernel), List.mem_of_getElem? (i := 910) (by decide +kernel), List.mem_of_getElem? (i := 911) (by decide +kernel)⟩
theorem lw_p35 : lw_okq (⟨"CardsGone$Odds", "drawnTo", "(I)I"⟩, 11) := ⟨⟨by decide +kernel, by decide +kernel⟩, List.mem_of_getElem? (i := 95) (by decide +kernel), List.mem_of_getElem? (i := 914) (by decide +kernel), List.mem_of_getElem? (i := 915) (by decide +kernel)⟩
theorem lw_p36 : lw_okq (⟨"CardsGone$Game", "strays", "()Z"⟩, 16) := ⟨⟨by decide +kernel, by decide +kernel⟩, List.mem_of_getElem? (i := 69) (by decide +kernel), List.mem_of_getElem? (i := 919) (by decide +kernel), List.mem_of_getElem? (i := 920) (by decide +kernel)⟩
theorem lw_p37 : lw_okq (⟨"CardsGone$Game", "pointsWith", "(I)I"⟩, 16) := ⟨⟨by decide +kernel, by decide +kernel⟩, List.mem_of_getElem? (i := 69) (by decide +kernel), List.mem_of_getElem? (i := 927) (by decide +kernel), List.mem_of_getElem? (i := 928) (by decide +kernel)⟩
theorem lw_p38 : lw_okq (⟨"CardsGone$Game", "bring", "()V"⟩, 16) := ⟨⟨by decide +kernel, by decide +kernel⟩, List.mem_of_getElem? (i := 69) (by decide +kernel), List.mem_of_getElem? (i := 931) (by decide +kernel), List.mem_of_getElem? (i := 932) (by decide +kernel)⟩
theorem lw_p39 : lw_okq (⟨"CardsGone", "dealAt", "(I)LCardsGone$Deal;"⟩, 16) := ⟨⟨by decide +kernel, by decide +kernel⟩, List.mem_of_getElem? (i := 20) (by decide +kernel), List.mem_of_getElem? (i := 940) (by decide +kernel), List.mem_of_getElem? (i := 941) (by decide +kernel)⟩
theorem lw_p40 : lw_okq (⟨"CardsGone$Deal", "cardTold", "(I)I"⟩, 20) := ⟨⟨by decide +kernel, by decide +kernel⟩, List.mem_of_getElem? (i := 178) (by decide +kernel), List.mem_of_getElem? (i := 948) (by decide +kernel), List.mem_of_getElem? (i := 949) (by decide +kernel)⟩
def lw_privs_3 : List (MethodName × Nat) := [(⟨"CardsGone$Odds", "openEnd", "(II)I"⟩, 11), (⟨"CardsGone$Odds", "standing", "(I)I"⟩, 11), (⟨"CardsGone$Odds", "fillDraws", "(I)V"⟩, 11), (⟨"CardsGone$Odds", "drawnTo", "(I)I"⟩, 11), (⟨"CardsGone$Game", "strays", "()Z"⟩, 16), (⟨"CardsGone$Game", "pointsWith", "(I)I"⟩, 16), (⟨"CardsGone$Game", "bring", "()V"⟩, 16), (⟨"CardsGone", "dealAt", "(I)LCardsGone$Deal;"⟩, 16), (⟨"CardsGone$Deal", "cardTold", "(I)I"⟩, 20)]
theorem lw_r3 : ∀ q ∈ lw_privs_3, lw_okq q := List.forall_mem_cons.mpr ⟨lw_p32, List.forall_mem_cons.mpr ⟨lw_p33, List.forall_mem_cons.mpr ⟨lw_p34, List.forall_mem_cons.mpr ⟨lw_p35, List.forall_mem_cons.mpr ⟨lw_p36, List.forall_mem_cons.mpr ⟨lw_p37, List.forall_mem_cons.mpr ⟨lw_p38, List.forall_mem_cons.mpr ⟨lw_p39, List.forall_mem_cons.mpr ⟨lw_p40, fun _ h => absurd h List.not_mem_nil⟩⟩⟩⟩⟩⟩⟩⟩⟩
def lw_privs : List (MethodName × Nat) := lw_privs_1 ++ (lw_privs_2 ++ (lw_privs_3))
def lw_tbl : List Cond := k2_sels lw_privs ++ tables_1
theorem lw_privs_ok : ∀ q ∈ lw_privs, lw_okq q := by
  show ∀ q ∈ lw_privs_1 ++ (lw_privs_2 ++ (lw_privs_3)), lw_okq q
  exact List.forall_mem_append.mpr ⟨lw_r1, List.forall_mem_append.mpr ⟨lw_r2, lw_r3⟩⟩
-- ===== end of PART A
def RX0 : String := "CardsGone$Acts"
def TX0 : u_T := fun k => match k with
  | 0 => ("CardsGone$Acts", "kept", "[I", true)
  | 1 => ("CardsGone$Acts", "ran", "I", false)
  | 2 => ("CardsGone$Acts", "self", "I", false)
  | _ => ("CardsGone$Acts", "number", "I", false)
def tyX0 : Nat → FieldType := fun k => match k with
  | 0 => .array .int
  | 1 => .int
  | 2 => .int
  | _ => .int
abbrev wsX00 : List Cond := u_ws RX0 TX0 4
theorem nmX0 : ∀ a, a < 4 → ∀ b, b < 4 → a ≠ b → (TX0 a).2.1 ≠ (TX0 b).2.1 := by decide +kernel
theorem tyX0_ok : ∀ k, k < 4 → parseFieldDescriptor (TX0 k).2.2.1 = some (tyX0 k) := by decide +kernel
abbrev cX0_init : ByteArray := prog_2_method_1_code
def yX0_init : MethodName := ⟨RX0, "<init>", "()V"⟩
def RX1 : String := "CardsGone$Body"
def TX1 : u_T := fun k => match k with
  | 0 => ("CardsGone$Body", "kind", "I", false)
  | 1 => ("CardsGone$Body", "purse", "I", false)
  | 2 => ("CardsGone$Body", "call", "I", false)
  | 3 => ("CardsGone$Body", "points", "I", false)
  | 4 => ("CardsGone$Body", "hands", "I", false)
  | _ => ("CardsGone$Body", "betAhead", "I", false)
def tyX1 : Nat → FieldType := fun k => match k with
  | 0 => .int
  | 1 => .int
  | 2 => .int
  | 3 => .int
  | 4 => .int
  | _ => .int
abbrev wsX10 : List Cond := u_ws RX1 TX1 6
theorem nmX1 : ∀ a, a < 6 → ∀ b, b < 6 → a ≠ b → (TX1 a).2.1 ≠ (TX1 b).2.1 := by decide +kernel
theorem tyX1_ok : ∀ k, k < 6 → parseFieldDescriptor (TX1 k).2.2.1 = some (tyX1 k) := by decide +kernel
abbrev cX1_init : ByteArray := prog_3_method_1_code
def yX1_init : MethodName := ⟨RX1, "<init>", "()V"⟩
abbrev cX1_seesCount : ByteArray := prog_3_method_2_code
def yX1_seesCount : MethodName := ⟨RX1, "seesCount", "()Z"⟩
abbrev cX1_waitsForCall : ByteArray := prog_3_method_3_code
def yX1_waitsForCall : MethodName := ⟨RX1, "waitsForCall", "()Z"⟩
abbrev cX1_feignsNow : ByteArray := prog_3_method_4_code
def yX1_feignsNow : MethodName := ⟨RX1, "feignsNow", "()Z"⟩
def RX2 : String := "CardsGone$Changes"
def TX2 : u_T := fun k => match k with
  | 0 => ("CardsGone$Changes", "what", "[I", true)
  | 1 => ("CardsGone$Changes", "was", "[I", true)
  | 2 => ("CardsGone$Changes", "now", "[I", true)
  | 3 => ("CardsGone$Changes", "done", "I", false)
  | _ => ("CardsGone$Changes", "size", "I", false)
def tyX2 : Nat → FieldType := fun k => match k with
  | 0 => .array .int
  | 1 => .array .int
  | 2 => .array .int
  | 3 => .int
  | _ => .int
abbrev wsX20 : List Cond := u_ws RX2 TX2 5
theorem nmX2 : ∀ a, a < 5 → ∀ b, b < 5 → a ≠ b → (TX2 a).2.1 ≠ (TX2 b).2.1 := by decide +kernel
theorem tyX2_ok : ∀ k, k < 5 → parseFieldDescriptor (TX2 k).2.2.1 = some (tyX2 k) := by decide +kernel
abbrev cX2_init : ByteArray := prog_4_method_1_code
def yX2_init : MethodName := ⟨RX2, "<init>", "()V"⟩
abbrev cX2_come : ByteArray := prog_4_method_2_code
def yX2_come : MethodName := ⟨RX2, "come", "(III)V"⟩
abbrev cX2_dropEldest : ByteArray := prog_4_method_6_code
def yX2_dropEldest : MethodName := ⟨RX2, "dropEldest", "()V"⟩
def RX3 : String := "CardsGone$Deal"
def TX3 : u_T := fun k => match k with
  | 0 => ("CardsGone$Deal", "mine", "[I", true)
  | 1 => ("CardsGone$Deal", "theirs", "[I", true)
  | 2 => ("CardsGone$Deal", "playedHands", "[I", true)
  | 3 => ("CardsGone$Deal", "playsMade", "[I", true)
  | 4 => ("CardsGone$Deal", "left", "[I", true)
  | 5 => ("CardsGone$Deal", "mineCount", "I", false)
  | 6 => ("CardsGone$Deal", "theirCount", "I", false)
  | 7 => ("CardsGone$Deal", "myHand", "I", false)
  | 8 => ("CardsGone$Deal", "theirHand", "I", false)
  | 9 => ("CardsGone$Deal", "bet", "I", false)
  | 10 => ("CardsGone$Deal", "brought", "I", false)
  | 11 => ("CardsGone$Deal", "plays", "I", false)
  | 12 => ("CardsGone$Deal", "points", "I", false)
  | 13 => ("CardsGone$Deal", "plainPoints", "I", false)
  | 14 => ("CardsGone$Deal", "c", "I", false)
  | 15 => ("CardsGone$Deal", "t", "I", false)
  | 16 => ("CardsGone$Deal", "worth", "I", false)
  | 17 => ("CardsGone$Deal", "doubled", "Z", false)
  | 18 => ("CardsGone$Deal", "misdealt", "Z", false)
  | _ => ("CardsGone$Deal", "strayed", "Z", false)
def tyX3 : Nat → FieldType := fun k => match k with
  | 0 => .array .int
  | 1 => .array .int
  | 2 => .array .int
  | 3 => .array .int
  | 4 => .array .int
  | 5 => .int
  | 6 => .int
  | 7 => .int
  | 8 => .int
  | 9 => .int
  | 10 => .int
  | 11 => .int
  | 12 => .int
  | 13 => .int
  | 14 => .int
  | 15 => .int
  | 16 => .int
  | 17 => .boolean
  | 18 => .boolean
  | _ => .boolean
abbrev wsX30 : List Cond := u_ws RX3 TX3 20
theorem nmX3 : ∀ a, a < 20 → ∀ b, b < 20 → a ≠ b → (TX3 a).2.1 ≠ (TX3 b).2.1 := by decide +kernel
theorem tyX3_ok : ∀ k, k < 20 → parseFieldDescriptor (TX3 k).2.2.1 = some (tyX3 k) := by decide +kernel
abbrev cX3_init : ByteArray := prog_5_method_1_code
def yX3_init : MethodName := ⟨RX3, "<init>", "()V"⟩
abbrev cX3_begin : ByteArray := prog_5_method_2_code
def yX3_begin : MethodName := ⟨RX3, "begin", "(LCardsGone$Shoe;)V"⟩
abbrev cX3_addMine : ByteArray := prog_5_method_3_code
def yX3_addMine : MethodName := ⟨RX3, "addMine", "(I)V"⟩
abbrev cX3_addTheirs : ByteArray := prog_5_method_4_code
def yX3_addTheirs : MethodName := ⟨RX3, "addTheirs", "(I)V"⟩
abbrev cX3_addPlay : ByteArray := prog_5_method_5_code
def yX3_addPlay : MethodName := ⟨RX3, "addPlay", "(I)V"⟩
abbrev cX3_iHaveNatural : ByteArray := prog_5_method_6_code
def yX3_iHaveNatural : MethodName := ⟨RX3, "iHaveNatural", "()Z"⟩
abbrev cX3_theyHaveNatural : ByteArray := prog_5_method_7_code
def yX3_theyHaveNatural : MethodName := ⟨RX3, "theyHaveNatural", "()Z"⟩
abbrev cX3_iAmAbove : ByteArray := prog_5_method_8_code
def yX3_iAmAbove : MethodName := ⟨RX3, "iAmAbove", "()Z"⟩
abbrev cX3_outcome : ByteArray := prog_5_method_9_code
def yX3_outcome : MethodName := ⟨RX3, "outcome", "(I)I"⟩
abbrev cX3_told : ByteArray := prog_5_method_10_code
def yX3_told : MethodName := ⟨RX3, "told", "(I)I"⟩
abbrev cX3_cardTold : ByteArray := prog_5_method_11_code
def yX3_cardTold : MethodName := ⟨RX3, "cardTold", "(I)I"⟩
def RX4 : String := "CardsGone$Game"
def TX4 : u_T := fun k => match k with
  | 0 => ("CardsGone$Game", "rules", "[I", true)
  | 1 => ("CardsGone$Game", "tags", "[I", true)
  | 2 => ("CardsGone$Game", "plays", "LCardsGone$Text;", true)
  | 3 => ("CardsGone$Game", "tagging", "LCardsGone$Text;", true)
  | 4 => ("CardsGone$Game", "bets", "LCardsGone$Text;", true)
  | 5 => ("CardsGone$Game", "watches", "LCardsGone$Text;", true)
  | 6 => ("CardsGone$Game", "names", "[I", true)
  | 7 => ("CardsGone$Game", "judge", "LCardsGone$Odds;", true)
  | 8 => ("CardsGone$Game", "spareShoe", "LCardsGone$Shoe;", true)
  | 9 => ("CardsGone$Game", "spareBody", "LCardsGone$Body;", true)
  | 10 => ("CardsGone$Game", "spareDeal", "LCardsGone$Deal;", true)
  | 11 => ("CardsGone$Game", "from", "LCardsGone$Shoe;", false)
  | 12 => ("CardsGone$Game", "who", "LCardsGone$Body;", false)
  | 13 => ("CardsGone$Game", "deal", "LCardsGone$Deal;", false)
  | 14 => ("CardsGone$Game", "row", "LCardsGone$Shelf;", false)
  | _ => ("CardsGone$Game", "place", "I", false)
def tyX4 : Nat → FieldType := fun k => match k with
  | 0 => .array .int
  | 1 => .array .int
  | 2 => .object "CardsGone$Text"
  | 3 => .object "CardsGone$Text"
  | 4 => .object "CardsGone$Text"
  | 5 => .object "CardsGone$Text"
  | 6 => .array .int
  | 7 => .object "CardsGone$Odds"
  | 8 => .object "CardsGone$Shoe"
  | 9 => .object "CardsGone$Body"
  | 10 => .object "CardsGone$Deal"
  | 11 => .object "CardsGone$Shoe"
  | 12 => .object "CardsGone$Body"
  | 13 => .object "CardsGone$Deal"
  | 14 => .object "CardsGone$Shelf"
  | _ => .int
abbrev wsX40 : List Cond := u_ws RX4 TX4 16
theorem nmX4 : ∀ a, a < 16 → ∀ b, b < 16 → a ≠ b → (TX4 a).2.1 ≠ (TX4 b).2.1 := by decide +kernel
theorem tyX4_ok : ∀ k, k < 16 → parseFieldDescriptor (TX4 k).2.2.1 = some (tyX4 k) := by decide +kernel
abbrev cX4_init : ByteArray := prog_6_method_1_code
def yX4_init : MethodName := ⟨RX4, "<init>", "()V"⟩
abbrev cX4_textOf : ByteArray := prog_6_method_2_code
def yX4_textOf : MethodName := ⟨RX4, "textOf", "(I)LCardsGone$Text;"⟩
abbrev cX4_fillTags : ByteArray := prog_6_method_3_code
def yX4_fillTags : MethodName := ⟨RX4, "fillTags", "()V"⟩
abbrev cX4_playOne : ByteArray := prog_6_method_4_code
def yX4_playOne : MethodName := ⟨RX4, "playOne", "(LCardsGone$Body;LCardsGone$Shoe;LCardsGone$Deal;Z)V"⟩
abbrev cX4_sit : ByteArray := prog_6_method_6_code
def yX4_sit : MethodName := ⟨RX4, "sit", "(LCardsGone$Body;LCardsGone$Shoe;LCardsGone$Shelf;LCardsGone$Deal;)V"⟩
abbrev cX4_tagOf : ByteArray := prog_6_method_7_code
def yX4_tagOf : MethodName := ⟨RX4, "tagOf", "(I)I"⟩
abbrev cX4_next : ByteArray := prog_6_method_8_code
def yX4_next : MethodName := ⟨RX4, "next", "(Z)I"⟩
abbrev cX4_giveMine : ByteArray := prog_6_method_9_code
def yX4_giveMine : MethodName := ⟨RX4, "giveMine", "()Z"⟩
abbrev cX4_giveTheirs : ByteArray := prog_6_method_10_code
def yX4_giveTheirs : MethodName := ⟨RX4, "giveTheirs", "(Z)Z"⟩
abbrev cX4_cardsCome : ByteArray := prog_6_method_11_code
def yX4_cardsCome : MethodName := ⟨RX4, "cardsCome", "()Z"⟩
abbrev cX4_playerPlays : ByteArray := prog_6_method_12_code
def yX4_playerPlays : MethodName := ⟨RX4, "playerPlays", "(Z)Z"⟩
abbrev cX4_asMade : ByteArray := prog_6_method_13_code
def yX4_asMade : MethodName := ⟨RX4, "asMade", "(IZ)I"⟩
abbrev cX4_dealerPlays : ByteArray := prog_6_method_14_code
def yX4_dealerPlays : MethodName := ⟨RX4, "dealerPlays", "()Z"⟩
abbrev cX4_askPlay : ByteArray := prog_6_method_15_code
def yX4_askPlay : MethodName := ⟨RX4, "askPlay", "()I"⟩
abbrev cX4_betNow : ByteArray := prog_6_method_16_code
def yX4_betNow : MethodName := ⟨RX4, "betNow", "()I"⟩
abbrev cX4_betByText : ByteArray := prog_6_method_17_code
def yX4_betByText : MethodName := ⟨RX4, "betByText", "(I)I"⟩
abbrev cX4_nameWhatIsSeen : ByteArray := prog_6_method_18_code
def yX4_nameWhatIsSeen : MethodName := ⟨RX4, "nameWhatIsSeen", "()V"⟩
abbrev cX4_strays : ByteArray := prog_6_method_19_code
def yX4_strays : MethodName := ⟨RX4, "strays", "()Z"⟩
abbrev cX4_pointsWith : ByteArray := prog_6_method_20_code
def yX4_pointsWith : MethodName := ⟨RX4, "pointsWith", "(I)I"⟩
abbrev cX4_bring : ByteArray := prog_6_method_21_code
def yX4_bring : MethodName := ⟨RX4, "bring", "()V"⟩
def RX5 : String := "CardsGone$Lumps"
def TX5 : u_T := fun k => match k with
  | 0 => ("CardsGone$Lumps", "steps", "[I", true)
  | _ => ("CardsGone$Lumps", "count", "I", false)
def tyX5 : Nat → FieldType := fun k => match k with
  | 0 => .array .int
  | _ => .int
abbrev wsX50 : List Cond := u_ws RX5 TX5 2
theorem nmX5 : ∀ a, a < 2 → ∀ b, b < 2 → a ≠ b → (TX5 a).2.1 ≠ (TX5 b).2.1 := by decide +kernel
theorem tyX5_ok : ∀ k, k < 2 → parseFieldDescriptor (TX5 k).2.2.1 = some (tyX5 k) := by decide +kernel
abbrev cX5_init : ByteArray := prog_7_method_1_code
def yX5_init : MethodName := ⟨RX5, "<init>", "()V"⟩
def RX6 : String := "CardsGone$Odds"
def TX6 : u_T := fun k => match k with
  | 0 => ("CardsGone$Odds", "have", "[I", true)
  | 1 => ("CardsGone$Odds", "rules", "[I", true)
  | 2 => ("CardsGone$Odds", "after", "[I", true)
  | 3 => ("CardsGone$Odds", "ends", "[I", true)
  | 4 => ("CardsGone$Odds", "open", "[I", true)
  | 5 => ("CardsGone$Odds", "stood", "[I", true)
  | 6 => ("CardsGone$Odds", "drawn", "[I", true)
  | 7 => ("CardsGone$Odds", "doubled", "[I", true)
  | 8 => ("CardsGone$Odds", "best", "[I", true)
  | 9 => ("CardsGone$Odds", "naturals", "[I", true)
  | _ => ("CardsGone$Odds", "all", "I", false)
def tyX6 : Nat → FieldType := fun k => match k with
  | 0 => .array .int
  | 1 => .array .int
  | 2 => .array .int
  | 3 => .array .int
  | 4 => .array .int
  | 5 => .array .int
  | 6 => .array .int
  | 7 => .array .int
  | 8 => .array .int
  | 9 => .array .int
  | _ => .int
abbrev wsX60 : List Cond := u_ws RX6 TX6 11
theorem nmX6 : ∀ a, a < 11 → ∀ b, b < 11 → a ≠ b → (TX6 a).2.1 ≠ (TX6 b).2.1 := by decide +kernel
theorem tyX6_ok : ∀ k, k < 11 → parseFieldDescriptor (TX6 k).2.2.1 = some (tyX6 k) := by decide +kernel
abbrev cX6_init : ByteArray := prog_8_method_1_code
def yX6_init : MethodName := ⟨RX6, "<init>", "()V"⟩
abbrev cX6_dealerDraws : ByteArray := prog_8_method_2_code
def yX6_dealerDraws : MethodName := ⟨RX6, "dealerDraws", "(I[I)Z"⟩
abbrev cX6_load : ByteArray := prog_8_method_3_code
def yX6_load : MethodName := ⟨RX6, "load", "([I[I)Z"⟩
abbrev cX6_face : ByteArray := prog_8_method_4_code
def yX6_face : MethodName := ⟨RX6, "face", "(I)V"⟩
abbrev cX6_endFromOpen : ByteArray := prog_8_method_5_code
def yX6_endFromOpen : MethodName := ⟨RX6, "endFromOpen", "(I)I"⟩
abbrev cX6_bestPlay : ByteArray := prog_8_method_7_code
def yX6_bestPlay : MethodName := ⟨RX6, "bestPlay", "(IZ)I"⟩
abbrev cX6_byAll : ByteArray := prog_8_method_15_code
def yX6_byAll : MethodName := ⟨RX6, "byAll", "(I)I"⟩
abbrev cX6_placeOf : ByteArray := prog_8_method_17_code
def yX6_placeOf : MethodName := ⟨RX6, "placeOf", "(I)I"⟩
abbrev cX6_fillEnds : ByteArray := prog_8_method_18_code
def yX6_fillEnds : MethodName := ⟨RX6, "fillEnds", "(I)V"⟩
abbrev cX6_sumOver : ByteArray := prog_8_method_19_code
def yX6_sumOver : MethodName := ⟨RX6, "sumOver", "([III)I"⟩
abbrev cX6_openEnd : ByteArray := prog_8_method_20_code
def yX6_openEnd : MethodName := ⟨RX6, "openEnd", "(II)I"⟩
abbrev cX6_standing : ByteArray := prog_8_method_21_code
def yX6_standing : MethodName := ⟨RX6, "standing", "(I)I"⟩
abbrev cX6_fillDraws : ByteArray := prog_8_method_22_code
def yX6_fillDraws : MethodName := ⟨RX6, "fillDraws", "(I)V"⟩
abbrev cX6_drawnTo : ByteArray := prog_8_method_23_code
def yX6_drawnTo : MethodName := ⟨RX6, "drawnTo", "(I)I"⟩
def RX7 : String := "CardsGone$Reader"
def TX7 : u_T := fun k => match k with
  | 0 => ("CardsGone$Reader", "bytes", "[I", true)
  | 1 => ("CardsGone$Reader", "code", "[I", true)
  | 2 => ("CardsGone$Reader", "length", "I", false)
  | 3 => ("CardsGone$Reader", "place", "I", false)
  | _ => ("CardsGone$Reader", "size", "I", false)
def tyX7 : Nat → FieldType := fun k => match k with
  | 0 => .array .int
  | 1 => .array .int
  | 2 => .int
  | 3 => .int
  | _ => .int
abbrev wsX70 : List Cond := u_ws RX7 TX7 5
theorem nmX7 : ∀ a, a < 5 → ∀ b, b < 5 → a ≠ b → (TX7 a).2.1 ≠ (TX7 b).2.1 := by decide +kernel
theorem tyX7_ok : ∀ k, k < 5 → parseFieldDescriptor (TX7 k).2.2.1 = some (tyX7 k) := by decide +kernel
abbrev cX7_init : ByteArray := prog_9_method_1_code
def yX7_init : MethodName := ⟨RX7, "<init>", "()V"⟩
abbrev cX7_takeIn : ByteArray := prog_9_method_2_code
def yX7_takeIn : MethodName := ⟨RX7, "takeIn", "(II)Z"⟩
abbrev cX7_readText : ByteArray := prog_9_method_3_code
def yX7_readText : MethodName := ⟨RX7, "readText", "()Z"⟩
abbrev cX7_readLine : ByteArray := prog_9_method_4_code
def yX7_readLine : MethodName := ⟨RX7, "readLine", "()Z"⟩
abbrev cX7_read : ByteArray := prog_9_method_5_code
def yX7_read : MethodName := ⟨RX7, "read", "(II)Z"⟩
abbrev cX7_readOne : ByteArray := prog_9_method_6_code
def yX7_readOne : MethodName := ⟨RX7, "readOne", "(I)Z"⟩
abbrev cX7_readInside : ByteArray := prog_9_method_7_code
def yX7_readInside : MethodName := ⟨RX7, "readInside", "(I)Z"⟩
abbrev cX7_readNumber : ByteArray := prog_9_method_8_code
def yX7_readNumber : MethodName := ⟨RX7, "readNumber", "()Z"⟩
abbrev cX7_sign : ByteArray := prog_9_method_9_code
def yX7_sign : MethodName := ⟨RX7, "sign", "()I"⟩
abbrev cX7_isDigit : ByteArray := prog_9_method_10_code
def yX7_isDigit : MethodName := ⟨RX7, "isDigit", "(I)Z"⟩
abbrev cX7_joins : ByteArray := prog_9_method_11_code
def yX7_joins : MethodName := ⟨RX7, "joins", "(II)Z"⟩
abbrev cX7_emit : ByteArray := prog_9_method_12_code
def yX7_emit : MethodName := ⟨RX7, "emit", "(I)V"⟩
def RX8 : String := "CardsGone$Shelf"
def TX8 : u_T := fun k => match k with
  | 0 => ("CardsGone$Shelf", "cells", "[J", true)
  | 1 => ("CardsGone$Shelf", "holds", "I", false)
  | 2 => ("CardsGone$Shelf", "sort", "I", false)
  | 3 => ("CardsGone$Shelf", "size", "I", false)
  | _ => ("CardsGone$Shelf", "player", "I", false)
def tyX8 : Nat → FieldType := fun k => match k with
  | 0 => .array .long
  | 1 => .int
  | 2 => .int
  | 3 => .int
  | _ => .int
abbrev wsX80 : List Cond := u_ws RX8 TX8 5
theorem nmX8 : ∀ a, a < 5 → ∀ b, b < 5 → a ≠ b → (TX8 a).2.1 ≠ (TX8 b).2.1 := by decide +kernel
theorem tyX8_ok : ∀ k, k < 5 → parseFieldDescriptor (TX8 k).2.2.1 = some (tyX8 k) := by decide +kernel
abbrev cX8_init : ByteArray := prog_10_method_1_code
def yX8_init : MethodName := ⟨RX8, "<init>", "()V"⟩
abbrev cX8_refusalAt : ByteArray := prog_10_method_8_code
def yX8_refusalAt : MethodName := ⟨RX8, "refusalAt", "(I)I"⟩
abbrev cX8_cell : ByteArray := prog_10_method_9_code
def yX8_cell : MethodName := ⟨RX8, "cell", "(I)J"⟩
abbrev cX8_valueAt : ByteArray := prog_10_method_11_code
def yX8_valueAt : MethodName := ⟨RX8, "valueAt", "(I)I"⟩
def RX9 : String := "CardsGone$Shoe"
def TX9 : u_T := fun k => match k with
  | 0 => ("CardsGone$Shoe", "cards", "[I", true)
  | 1 => ("CardsGone$Shoe", "seen", "[I", true)
  | 2 => ("CardsGone$Shoe", "packs", "I", false)
  | 3 => ("CardsGone$Shoe", "cut", "I", false)
  | 4 => ("CardsGone$Shoe", "seed", "I", false)
  | 5 => ("CardsGone$Shoe", "z", "I", false)
  | 6 => ("CardsGone$Shoe", "gone", "I", false)
  | 7 => ("CardsGone$Shoe", "seenInAll", "I", false)
  | 8 => ("CardsGone$Shoe", "counted", "I", false)
  | _ => ("CardsGone$Shoe", "shuffleDue", "Z", false)
def tyX9 : Nat → FieldType := fun k => match k with
  | 0 => .array .int
  | 1 => .array .int
  | 2 => .int
  | 3 => .int
  | 4 => .int
  | 5 => .int
  | 6 => .int
  | 7 => .int
  | 8 => .int
  | _ => .boolean
abbrev wsX90 : List Cond := u_ws RX9 TX9 10
theorem nmX9 : ∀ a, a < 10 → ∀ b, b < 10 → a ≠ b → (TX9 a).2.1 ≠ (TX9 b).2.1 := by decide +kernel
theorem tyX9_ok : ∀ k, k < 10 → parseFieldDescriptor (TX9 k).2.2.1 = some (tyX9 k) := by decide +kernel
abbrev cX9_init : ByteArray := prog_11_method_1_code
def yX9_init : MethodName := ⟨RX9, "<init>", "()V"⟩
abbrev cX9_size : ByteArray := prog_11_method_2_code
def yX9_size : MethodName := ⟨RX9, "size", "()I"⟩
abbrev cX9_seedBecomes : ByteArray := prog_11_method_3_code
def yX9_seedBecomes : MethodName := ⟨RX9, "seedBecomes", "(I)I"⟩
abbrev cX9_packsBecome : ByteArray := prog_11_method_4_code
def yX9_packsBecome : MethodName := ⟨RX9, "packsBecome", "(I)I"⟩
abbrev cX9_cutBecomes : ByteArray := prog_11_method_5_code
def yX9_cutBecomes : MethodName := ⟨RX9, "cutBecomes", "(I)I"⟩
abbrev cX9_leftOf : ByteArray := prog_11_method_6_code
def yX9_leftOf : MethodName := ⟨RX9, "leftOf", "(I)I"⟩
abbrev cX9_copyLeft : ByteArray := prog_11_method_7_code
def yX9_copyLeft : MethodName := ⟨RX9, "copyLeft", "([I)V"⟩
abbrev cX9_trueCount : ByteArray := prog_11_method_8_code
def yX9_trueCount : MethodName := ⟨RX9, "trueCount", "()I"⟩
abbrev cX9_makeReady : ByteArray := prog_11_method_9_code
def yX9_makeReady : MethodName := ⟨RX9, "makeReady", "()V"⟩
abbrev cX9_take : ByteArray := prog_11_method_10_code
def yX9_take : MethodName := ⟨RX9, "take", "()I"⟩
abbrev cX9_see : ByteArray := prog_11_method_11_code
def yX9_see : MethodName := ⟨RX9, "see", "(II)V"⟩
abbrev cX9_forget : ByteArray := prog_11_method_12_code
def yX9_forget : MethodName := ⟨RX9, "forget", "()V"⟩
abbrev cX9_shuffle : ByteArray := prog_11_method_13_code
def yX9_shuffle : MethodName := ⟨RX9, "shuffle", "()V"⟩
def RX10 : String := "CardsGone$Text"
def TX10 : u_T := fun k => match k with
  | 0 => ("CardsGone$Text", "code", "[I", true)
  | 1 => ("CardsGone$Text", "stack", "[I", true)
  | 2 => ("CardsGone$Text", "size", "I", false)
  | _ => ("CardsGone$Text", "top", "I", false)
def tyX10 : Nat → FieldType := fun k => match k with
  | 0 => .array .int
  | 1 => .array .int
  | 2 => .int
  | _ => .int
abbrev wsX100 : List Cond := u_ws RX10 TX10 4
theorem nmX10 : ∀ a, a < 4 → ∀ b, b < 4 → a ≠ b → (TX10 a).2.1 ≠ (TX10 b).2.1 := by decide +kernel
theorem tyX10_ok : ∀ k, k < 4 → parseFieldDescriptor (TX10 k).2.2.1 = some (tyX10 k) := by decide +kernel
abbrev cX10_init : ByteArray := prog_12_method_1_code
def yX10_init : MethodName := ⟨RX10, "<init>", "()V"⟩
abbrev cX10_clear : ByteArray := prog_12_method_2_code
def yX10_clear : MethodName := ⟨RX10, "clear", "([I)V"⟩
abbrev cX10_takeOver : ByteArray := prog_12_method_3_code
def yX10_takeOver : MethodName := ⟨RX10, "takeOver", "([II)V"⟩
abbrev cX10_mentions : ByteArray := prog_12_method_4_code
def yX10_mentions : MethodName := ⟨RX10, "mentions", "(I)Z"⟩
abbrev cX10_valueBy : ByteArray := prog_12_method_5_code
def yX10_valueBy : MethodName := ⟨RX10, "valueBy", "([I)I"⟩
abbrev cX10_work : ByteArray := prog_12_method_6_code
def yX10_work : MethodName := ⟨RX10, "work", "(I[I)V"⟩
abbrev cX10_push : ByteArray := prog_12_method_7_code
def yX10_push : MethodName := ⟨RX10, "push", "(I)V"⟩
abbrev cX10_pop : ByteArray := prog_12_method_8_code
def yX10_pop : MethodName := ⟨RX10, "pop", "()I"⟩
abbrev cX10_joined : ByteArray := prog_12_method_9_code
def yX10_joined : MethodName := ⟨RX10, "joined", "(III)I"⟩
def RX11 : String := "CardsGone"
def TX11 : u_T := fun k => match k with
  | 0 => ("CardsGone", "table", "LCardsGone$Shoe;", true)
  | 1 => ("CardsGone", "game", "LCardsGone$Game;", true)
  | 2 => ("CardsGone", "odds", "LCardsGone$Odds;", true)
  | 3 => ("CardsGone", "reader", "LCardsGone$Reader;", true)
  | 4 => ("CardsGone", "bodies", "[LCardsGone$Body;", true)
  | 5 => ("CardsGone", "deals", "[LCardsGone$Deal;", true)
  | 6 => ("CardsGone", "askedLeft", "[I", true)
  | 7 => ("CardsGone", "shelves", "[LCardsGone$Shelf;", true)
  | 8 => ("CardsGone", "changes", "LCardsGone$Changes;", true)
  | 9 => ("CardsGone", "lumps", "LCardsGone$Lumps;", true)
  | 10 => ("CardsGone", "acts", "LCardsGone$Acts;", true)
  | 11 => ("CardsGone", "bounds", "[I", true)
  | 12 => ("CardsGone", "players", "I", false)
  | 13 => ("CardsGone", "ledHands", "I", false)
  | 14 => ("CardsGone", "boundCount", "I", false)
  | _ => ("CardsGone", "limitNow", "I", false)
def tyX11 : Nat → FieldType := fun k => match k with
  | 0 => .object "CardsGone$Shoe"
  | 1 => .object "CardsGone$Game"
  | 2 => .object "CardsGone$Odds"
  | 3 => .object "CardsGone$Reader"
  | 4 => .array (.object "CardsGone$Body")
  | 5 => .array (.object "CardsGone$Deal")
  | 6 => .array .int
  | 7 => .array (.object "CardsGone$Shelf")
  | 8 => .object "CardsGone$Changes"
  | 9 => .object "CardsGone$Lumps"
  | 10 => .object "CardsGone$Acts"
  | 11 => .array .int
  | 12 => .int
  | 13 => .int
  | 14 => .int
  | _ => .int
abbrev wsX110 : List Cond := u_ws RX11 TX11 16
theorem nmX11 : ∀ a, a < 16 → ∀ b, b < 16 → a ≠ b → (TX11 a).2.1 ≠ (TX11 b).2.1 := by decide +kernel
theorem tyX11_ok : ∀ k, k < 16 → parseFieldDescriptor (TX11 k).2.2.1 = some (tyX11 k) := by decide +kernel
abbrev cX11_init : ByteArray := prog_1_method_1_code
def yX11_init : MethodName := ⟨RX11, "<init>", "()V"⟩
abbrev cX11_shoe : ByteArray := prog_1_method_2_code
def yX11_shoe : MethodName := ⟨RX11, "shoe", "(II)I"⟩
abbrev cX11_feed : ByteArray := prog_1_method_5_code
def yX11_feed : MethodName := ⟨RX11, "feed", "(II)I"⟩
abbrev cX11_text : ByteArray := prog_1_method_6_code
def yX11_text : MethodName := ⟨RX11, "text", "(I)I"⟩
abbrev cX11_player : ByteArray := prog_1_method_8_code
def yX11_player : MethodName := ⟨RX11, "player", "(III)I"⟩
abbrev cX11_ofPlayer : ByteArray := prog_1_method_9_code
def yX11_ofPlayer : MethodName := ⟨RX11, "ofPlayer", "(II)I"⟩
abbrev cX11_limit : ByteArray := prog_1_method_11_code
def yX11_limit : MethodName := ⟨RX11, "limit", "(I)I"⟩
abbrev cX11_play : ByteArray := prog_1_method_12_code
def yX11_play : MethodName := ⟨RX11, "play", "(II)I"⟩
abbrev cX11_led : ByteArray := prog_1_method_13_code
def yX11_led : MethodName := ⟨RX11, "led", "(II)I"⟩
abbrev cX11_hides : ByteArray := prog_1_method_29_code
def yX11_hides : MethodName := ⟨RX11, "hides", "()I"⟩
abbrev cX11_count : ByteArray := prog_1_method_40_code
def yX11_count : MethodName := ⟨RX11, "count", "(I)I"⟩
abbrev cX11_at : ByteArray := prog_1_method_41_code
def yX11_at : MethodName := ⟨RX11, "at", "([II)I"⟩
abbrev cX11_set : ByteArray := prog_1_method_42_code
def yX11_set : MethodName := ⟨RX11, "set", "([III)V"⟩
abbrev cX11_held : ByteArray := prog_1_method_43_code
def yX11_held : MethodName := ⟨RX11, "held", "(III)I"⟩
abbrev cX11_withCard : ByteArray := prog_1_method_44_code
def yX11_withCard : MethodName := ⟨RX11, "withCard", "(II)I"⟩
abbrev cX11_totalOf : ByteArray := prog_1_method_45_code
def yX11_totalOf : MethodName := ⟨RX11, "totalOf", "(I)I"⟩
abbrev cX11_firstOfRule : ByteArray := prog_1_method_48_code
def yX11_firstOfRule : MethodName := ⟨RX11, "firstOfRule", "(I)I"⟩
abbrev cX11_bodyAt : ByteArray := prog_1_method_53_code
def yX11_bodyAt : MethodName := ⟨RX11, "bodyAt", "(I)LCardsGone$Body;"⟩
abbrev cX11_dealAt : ByteArray := prog_1_method_54_code
def yX11_dealAt : MethodName := ⟨RX11, "dealAt", "(I)LCardsGone$Deal;"⟩
abbrev cX11_mayPlay : ByteArray := prog_1_method_58_code
def yX11_mayPlay : MethodName := ⟨RX11, "mayPlay", "(LCardsGone$Body;)Z"⟩
abbrev cX11_textBecomes : ByteArray := prog_1_method_59_code
def yX11_textBecomes : MethodName := ⟨RX11, "textBecomes", "(I)V"⟩
def RX12 : String := "CardsGoneModel"
def TX12 : u_T := fun k => match k with
  | _ => ("", "", "", false)
def tyX12 : Nat → FieldType := fun k => match k with
  | _ => .int
abbrev wsX120 : List Cond := u_ws RX12 TX12 0
theorem nmX12 : ∀ a, a < 0 → ∀ b, b < 0 → a ≠ b → (TX12 a).2.1 ≠ (TX12 b).2.1 := by decide +kernel
theorem tyX12_ok : ∀ k, k < 0 → parseFieldDescriptor (TX12 k).2.2.1 = some (tyX12 k) := by decide +kernel
def RJ11 : String := "java/lang/Character"
def TJ11 : u_T := fun k => match k with
  | _ => ("", "", "", false)
def tyJ11 : Nat → FieldType := fun k => match k with
  | _ => .int
theorem nmJ11 : ∀ a, a < 0 → ∀ b, b < 0 → a ≠ b → (TJ11 a).2.1 ≠ (TJ11 b).2.1 := by decide +kernel
theorem tyJ11_ok : ∀ k, k < 0 → parseFieldDescriptor (TJ11 k).2.2.1 = some (tyJ11 k) := by decide +kernel
abbrev cJ11_isValidCodePoint_9a6ad : ByteArray := prog_15_method_11_code
def yJ11_isValidCodePoint_9a6ad : MethodName := ⟨RJ11, "isValidCodePoint", "(I)Z"⟩
abbrev cJ11_highSurrogate_5068e : ByteArray := prog_15_method_28_code
def yJ11_highSurrogate_5068e : MethodName := ⟨RJ11, "highSurrogate", "(I)C"⟩
abbrev cJ11_lowSurrogate_5068e : ByteArray := prog_15_method_29_code
def yJ11_lowSurrogate_5068e : MethodName := ⟨RJ11, "lowSurrogate", "(I)C"⟩
def RJ9 : String := "java/lang/Math"
def TJ9 : u_T := fun k => match k with
  | _ => ("", "", "", false)
def tyJ9 : Nat → FieldType := fun k => match k with
  | _ => .int
theorem nmJ9 : ∀ a, a < 0 → ∀ b, b < 0 → a ≠ b → (TJ9 a).2.1 ≠ (TJ9 b).2.1 := by decide +kernel
theorem tyJ9_ok : ∀ k, k < 0 → parseFieldDescriptor (TJ9 k).2.2.1 = some (tyJ9 k) := by decide +kernel
abbrev cJ9_max_7cf53 : ByteArray := prog_16_method_65_code
def yJ9_max_7cf53 : MethodName := ⟨RJ9, "max", "(II)I"⟩
abbrev cJ9_min_7cf53 : ByteArray := prog_16_method_69_code
def yJ9_min_7cf53 : MethodName := ⟨RJ9, "min", "(II)I"⟩
def RJ0 : String := "java/lang/String"
def TJ0 : u_T := fun k => match k with
  | _ => ("", "", "", false)
def tyJ0 : Nat → FieldType := fun k => match k with
  | _ => .int
theorem nmJ0 : ∀ a, a < 0 → ∀ b, b < 0 → a ≠ b → (TJ0 a).2.1 ≠ (TJ0 b).2.1 := by decide +kernel
theorem tyJ0_ok : ∀ k, k < 0 → parseFieldDescriptor (TJ0 k).2.2.1 = some (tyJ0 k) := by decide +kernel
abbrev cJ0_length_8abf5 : ByteArray := prog_17_method_54_code
def yJ0_length_8abf5 : MethodName := ⟨RJ0, "length", "()I"⟩
abbrev cJ0_indexOf_0f7a4 : ByteArray := prog_17_method_79_code
def yJ0_indexOf_0f7a4 : MethodName := ⟨RJ0, "indexOf", "(I)I"⟩
abbrev cJ0_indexOf_7cf53 : ByteArray := prog_17_method_80_code
def yJ0_indexOf_7cf53 : MethodName := ⟨RJ0, "indexOf", "(II)I"⟩
abbrev cJ0_coder_7d493 : ByteArray := prog_17_method_152_code
def yJ0_coder_7d493 : MethodName := ⟨RJ0, "coder", "()B"⟩
abbrev cJ0_isLatin1_aae02 : ByteArray := prog_17_method_154_code
def yJ0_isLatin1_aae02 : MethodName := ⟨RJ0, "isLatin1", "()Z"⟩
abbrev cJ0_checkBoundsBeginEnd_23922 : ByteArray := prog_17_method_158_code
def yJ0_checkBoundsBeginEnd_23922 : MethodName := ⟨RJ0, "checkBoundsBeginEnd", "(III)V"⟩
def RJ1 : String := "java/lang/StringLatin1"
def TJ1 : u_T := fun k => match k with
  | _ => ("", "", "", false)
def tyJ1 : Nat → FieldType := fun k => match k with
  | _ => .int
theorem nmJ1 : ∀ a, a < 0 → ∀ b, b < 0 → a ≠ b → (TJ1 a).2.1 ≠ (TJ1 b).2.1 := by decide +kernel
theorem tyJ1_ok : ∀ k, k < 0 → parseFieldDescriptor (TJ1 k).2.2.1 = some (tyJ1 k) := by decide +kernel
abbrev cJ1_canEncode_9a6ad : ByteArray := prog_18_method_4_code
def yJ1_canEncode_9a6ad : MethodName := ⟨RJ1, "canEncode", "(I)Z"⟩
abbrev cJ1_indexOf_4cfef : ByteArray := prog_18_method_22_code
def yJ1_indexOf_4cfef : MethodName := ⟨RJ1, "indexOf", "([BIII)I"⟩
abbrev cJ1_indexOfChar_4cfef : ByteArray := prog_18_method_23_code
def yJ1_indexOfChar_4cfef : MethodName := ⟨RJ1, "indexOfChar", "([BIII)I"⟩
def RJ2 : String := "java/lang/StringUTF16"
def TJ2 : u_T := fun k => match k with
  | _ => ("", "", "", false)
def tyJ2 : Nat → FieldType := fun k => match k with
  | _ => .int
theorem nmJ2 : ∀ a, a < 0 → ∀ b, b < 0 → a ≠ b → (TJ2 a).2.1 ≠ (TJ2 b).2.1 := by decide +kernel
theorem tyJ2_ok : ∀ k, k < 0 → parseFieldDescriptor (TJ2 k).2.2.1 = some (tyJ2 k) := by decide +kernel
abbrev cJ2_getChar_3b067 : ByteArray := prog_19_method_5_code
def yJ2_getChar_3b067 : MethodName := ⟨RJ2, "getChar", "([BI)C"⟩
abbrev cJ2_length_9d52b : ByteArray := prog_19_method_6_code
def yJ2_length_9d52b : MethodName := ⟨RJ2, "length", "([B)I"⟩
abbrev cJ2_indexOf_4cfef : ByteArray := prog_19_method_40_code
def yJ2_indexOf_4cfef : MethodName := ⟨RJ2, "indexOf", "([BIII)I"⟩
abbrev cJ2_indexOfChar_4cfef : ByteArray := prog_19_method_47_code
def yJ2_indexOfChar_4cfef : MethodName := ⟨RJ2, "indexOfChar", "([BIII)I"⟩
abbrev cJ2_indexOfCharUnsafe_4cfef : ByteArray := prog_19_method_48_code
def yJ2_indexOfCharUnsafe_4cfef : MethodName := ⟨RJ2, "indexOfCharUnsafe", "([BIII)I"⟩
abbrev cJ2_indexOfSupplementary_4cfef : ByteArray := prog_19_method_49_code
def yJ2_indexOfSupplementary_4cfef : MethodName := ⟨RJ2, "indexOfSupplementary", "([BIII)I"⟩
abbrev cJ2_checkBoundsBeginEnd_d044e : ByteArray := prog_19_method_93_code
def yJ2_checkBoundsBeginEnd_d044e : MethodName := ⟨RJ2, "checkBoundsBeginEnd", "(II[B)V"⟩
def RJ3 : String := "jdk/internal/util/Preconditions"
def TJ3 : u_T := fun k => match k with
  | _ => ("", "", "", false)
def tyJ3 : Nat → FieldType := fun k => match k with
  | _ => .int
theorem nmJ3 : ∀ a, a < 0 → ∀ b, b < 0 → a ≠ b → (TJ3 a).2.1 ≠ (TJ3 b).2.1 := by decide +kernel
theorem tyJ3_ok : ∀ k, k < 0 → parseFieldDescriptor (TJ3 k).2.2.1 = some (tyJ3 k) := by decide +kernel
abbrev cJ3_checkFromToIndex_8c36e : ByteArray := prog_20_method_12_code
def yJ3_checkFromToIndex_8c36e : MethodName := ⟨RJ3, "checkFromToIndex", "(IIILjava/util/function/BiFunction;)I"⟩
def RL : String := "CardsGoneLaw"
abbrev cL_cell : ByteArray := method_2_code
def yL_cell : MethodName := ⟨RL, "cell", "([II)I"⟩
abbrev cL_tell : ByteArray := method_3_code
def yL_tell : MethodName := ⟨RL, "tell", "(LCardsGone;[II)Z"⟩
abbrev cL_law : ByteArray := code
def yL_law : MethodName := ⟨RL, "law", "([I)Z"⟩
