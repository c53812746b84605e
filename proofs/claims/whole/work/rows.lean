section
-- ===== PART A: goes FIRST, ahead of the names: the tables' words, and 'selects' of the private methods out of them =====
/-- a private method of a class that the tables say can be made, by its rows of tables_1 -/
def lw_okq (q : MethodName × Nat) : Prop := (q.1.cls ≠ "java/lang/invoke/MethodHandle" ∧ q.1.cls ≠ "java/lang/invoke/VarHandle") ∧ Cond.instantiable q.1.cls q.2 ∈ tables_1 ∧ Cond.privateMethod q.1 ∈ tables_1 ∧ Cond.instanceMethod q.1 ∈ tables_1
theorem lw_p0 : lw_okq (⟨"ViewStamps", "nodeAt", "(I)LViewStamps$Node;"⟩, 3) := ⟨⟨by decide +kernel, by decide +kernel⟩, List.mem_of_getElem? (i := 12) (by decide +kernel), List.mem_of_getElem? (i := 131) (by decide +kernel), List.mem_of_getElem? (i := 132) (by decide +kernel)⟩
theorem lw_p1 : lw_okq (⟨"ViewStamps$Node", "isFirst", "()Z"⟩, 17) := ⟨⟨by decide +kernel, by decide +kernel⟩, List.mem_of_getElem? (i := 52) (by decide +kernel), List.mem_of_getElem? (i := 146) (by decide +kernel), List.mem_of_getElem? (i := 147) (by decide +kernel)⟩
theorem lw_p2 : lw_okq (⟨"ViewStamps$Node", "firstOf", "(I)I"⟩, 17) := ⟨⟨by decide +kernel, by decide +kernel⟩, List.mem_of_getElem? (i := 52) (by decide +kernel), List.mem_of_getElem? (i := 150) (by decide +kernel), List.mem_of_getElem? (i := 151) (by decide +kernel)⟩
theorem lw_p3 : lw_okq (⟨"ViewStamps$Node", "write", "(III)LViewStamps$Letter;"⟩, 17) := ⟨⟨by decide +kernel, by decide +kernel⟩, List.mem_of_getElem? (i := 52) (by decide +kernel), List.mem_of_getElem? (i := 194) (by decide +kernel), List.mem_of_getElem? (i := 195) (by decide +kernel)⟩
theorem lw_p4 : lw_okq (⟨"ViewStamps", "lineBetween", "(II)I"⟩, 3) := ⟨⟨by decide +kernel, by decide +kernel⟩, List.mem_of_getElem? (i := 12) (by decide +kernel), List.mem_of_getElem? (i := 254) (by decide +kernel), List.mem_of_getElem? (i := 255) (by decide +kernel)⟩
theorem lw_p5 : lw_okq (⟨"ViewStamps$Node", "hearAsk", "(LViewStamps$Letter;)Z"⟩, 17) := ⟨⟨by decide +kernel, by decide +kernel⟩, List.mem_of_getElem? (i := 52) (by decide +kernel), List.mem_of_getElem? (i := 266) (by decide +kernel), List.mem_of_getElem? (i := 267) (by decide +kernel)⟩
theorem lw_p6 : lw_okq (⟨"ViewStamps$Node", "hearTell", "(LViewStamps$Letter;)Z"⟩, 17) := ⟨⟨by decide +kernel, by decide +kernel⟩, List.mem_of_getElem? (i := 52) (by decide +kernel), List.mem_of_getElem? (i := 270) (by decide +kernel), List.mem_of_getElem? (i := 271) (by decide +kernel)⟩
theorem lw_p7 : lw_okq (⟨"ViewStamps$Node", "believeFirst", "()V"⟩, 17) := ⟨⟨by decide +kernel, by decide +kernel⟩, List.mem_of_getElem? (i := 52) (by decide +kernel), List.mem_of_getElem? (i := 277) (by decide +kernel), List.mem_of_getElem? (i := 278) (by decide +kernel)⟩
theorem lw_p8 : lw_okq (⟨"ViewStamps$Node", "settleIn", "(I)V"⟩, 17) := ⟨⟨by decide +kernel, by decide +kernel⟩, List.mem_of_getElem? (i := 52) (by decide +kernel), List.mem_of_getElem? (i := 282) (by decide +kernel), List.mem_of_getElem? (i := 283) (by decide +kernel)⟩
theorem lw_p9 : lw_okq (⟨"ViewStamps$Node", "hearLog", "(LViewStamps$Letter;)Z"⟩, 17) := ⟨⟨by decide +kernel, by decide +kernel⟩, List.mem_of_getElem? (i := 52) (by decide +kernel), List.mem_of_getElem? (i := 290) (by decide +kernel), List.mem_of_getElem? (i := 291) (by decide +kernel)⟩
theorem lw_p10 : lw_okq (⟨"ViewStamps$Node", "postOk", "()V"⟩, 17) := ⟨⟨by decide +kernel, by decide +kernel⟩, List.mem_of_getElem? (i := 52) (by decide +kernel), List.mem_of_getElem? (i := 296) (by decide +kernel), List.mem_of_getElem? (i := 297) (by decide +kernel)⟩
theorem lw_p11 : lw_okq (⟨"ViewStamps$Node", "hearOk", "(LViewStamps$Letter;)Z"⟩, 17) := ⟨⟨by decide +kernel, by decide +kernel⟩, List.mem_of_getElem? (i := 52) (by decide +kernel), List.mem_of_getElem? (i := 300) (by decide +kernel), List.mem_of_getElem? (i := 301) (by decide +kernel)⟩
theorem lw_p12 : lw_okq (⟨"ViewStamps$Node", "heldByEnough", "()I"⟩, 17) := ⟨⟨by decide +kernel, by decide +kernel⟩, List.mem_of_getElem? (i := 52) (by decide +kernel), List.mem_of_getElem? (i := 305) (by decide +kernel), List.mem_of_getElem? (i := 306) (by decide +kernel)⟩
theorem lw_p13 : lw_okq (⟨"ViewStamps$Node", "countTold", "(I)I"⟩, 17) := ⟨⟨by decide +kernel, by decide +kernel⟩, List.mem_of_getElem? (i := 52) (by decide +kernel), List.mem_of_getElem? (i := 309) (by decide +kernel), List.mem_of_getElem? (i := 310) (by decide +kernel)⟩
theorem lw_p14 : lw_okq (⟨"ViewStamps$Node", "hearChange", "(LViewStamps$Letter;)Z"⟩, 17) := ⟨⟨by decide +kernel, by decide +kernel⟩, List.mem_of_getElem? (i := 52) (by decide +kernel), List.mem_of_getElem? (i := 313) (by decide +kernel), List.mem_of_getElem? (i := 314) (by decide +kernel)⟩
theorem lw_p15 : lw_okq (⟨"ViewStamps$Node", "forgetVotes", "()V"⟩, 17) := ⟨⟨by decide +kernel, by decide +kernel⟩, List.mem_of_getElem? (i := 52) (by decide +kernel), List.mem_of_getElem? (i := 321) (by decide +kernel), List.mem_of_getElem? (i := 322) (by decide +kernel)⟩
def lw_privs_1 : List (MethodName × Nat) := [(⟨"ViewStamps", "nodeAt", "(I)LViewStamps$Node;"⟩, 3), (⟨"ViewStamps$Node", "isFirst", "()Z"⟩, 17), (⟨"ViewStamps$Node", "firstOf", "(I)I"⟩, 17), (⟨"ViewStamps$Node", "write", "(III)LViewStamps$Letter;"⟩, 17), (⟨"ViewStamps", "lineBetween", "(II)I"⟩, 3), (⟨"ViewStamps$Node", "hearAsk", "(LViewStamps$Letter;)Z"⟩, 17), (⟨"ViewStamps$Node", "hearTell", "(LViewStamps$Letter;)Z"⟩, 17), (⟨"ViewStamps$Node", "believeFirst", "()V"⟩, 17), (⟨"ViewStamps$Node", "settleIn", "(I)V"⟩, 17), (⟨"ViewStamps$Node", "hearLog", "(LViewStamps$Letter;)Z"⟩, 17), (⟨"ViewStamps$Node", "postOk", "()V"⟩, 17), (⟨"ViewStamps$Node", "hearOk", "(LViewStamps$Letter;)Z"⟩, 17), (⟨"ViewStamps$Node", "heldByEnough", "()I"⟩, 17), (⟨"ViewStamps$Node", "countTold", "(I)I"⟩, 17), (⟨"ViewStamps$Node", "hearChange", "(LViewStamps$Letter;)Z"⟩, 17), (⟨"ViewStamps$Node", "forgetVotes", "()V"⟩, 17)]
theorem lw_r1 : ∀ q ∈ lw_privs_1, lw_okq q := List.forall_mem_cons.mpr ⟨lw_p0, List.forall_mem_cons.mpr ⟨lw_p1, List.forall_mem_cons.mpr ⟨lw_p2, List.forall_mem_cons.mpr ⟨lw_p3, List.forall_mem_cons.mpr ⟨lw_p4, List.forall_mem_cons.mpr ⟨lw_p5, List.forall_mem_cons.mpr ⟨lw_p6, List.forall_mem_cons.mpr ⟨lw_p7, List.forall_mem_cons.mpr ⟨lw_p8, List.forall_mem_cons.mpr ⟨lw_p9, List.forall_mem_cons.mpr ⟨lw_p10, List.forall_mem_cons.mpr ⟨lw_p11, List.forall_mem_cons.mpr ⟨lw_p12, List.forall_mem_cons.mpr ⟨lw_p13, List.forall_mem_cons.mpr ⟨lw_p14, List.forall_mem_cons.mpr ⟨lw_p15, fun _ h => absurd h List.not_mem_nil⟩⟩⟩⟩⟩⟩⟩⟩⟩⟩⟩⟩⟩⟩⟩⟩
theorem lw_p16 : lw_okq (⟨"ViewStamps$Node", "castVote", "()V"⟩, 17) := ⟨⟨by decide +kernel, by decide +kernel⟩, List.mem_of_getElem? (i := 52) (by decide +kernel), List.mem_of_getElem? (i := 332) (by decide +kernel), List.mem_of_getElem? (i := 333) (by decide +kernel)⟩
theorem lw_p17 : lw_okq (⟨"ViewStamps$Node", "leadIfElected", "()V"⟩, 17) := ⟨⟨by decide +kernel, by decide +kernel⟩, List.mem_of_getElem? (i := 52) (by decide +kernel), List.mem_of_getElem? (i := 336) (by decide +kernel), List.mem_of_getElem? (i := 337) (by decide +kernel)⟩
theorem lw_p18 : lw_okq (⟨"ViewStamps$Node", "hearVote", "(LViewStamps$Letter;)Z"⟩, 17) := ⟨⟨by decide +kernel, by decide +kernel⟩, List.mem_of_getElem? (i := 52) (by decide +kernel), List.mem_of_getElem? (i := 346) (by decide +kernel), List.mem_of_getElem? (i := 347) (by decide +kernel)⟩
theorem lw_p19 : lw_okq (⟨"ViewStamps$Node", "forgetTales", "()V"⟩, 17) := ⟨⟨by decide +kernel, by decide +kernel⟩, List.mem_of_getElem? (i := 52) (by decide +kernel), List.mem_of_getElem? (i := 380) (by decide +kernel), List.mem_of_getElem? (i := 381) (by decide +kernel)⟩
theorem lw_p20 : lw_okq (⟨"ViewStamps", "countCutLines", "()I"⟩, 3) := ⟨⟨by decide +kernel, by decide +kernel⟩, List.mem_of_getElem? (i := 12) (by decide +kernel), List.mem_of_getElem? (i := 440) (by decide +kernel), List.mem_of_getElem? (i := 441) (by decide +kernel)⟩
theorem lw_p21 : lw_okq (⟨"ViewStamps", "countNormal", "()I"⟩, 3) := ⟨⟨by decide +kernel, by decide +kernel⟩, List.mem_of_getElem? (i := 12) (by decide +kernel), List.mem_of_getElem? (i := 444) (by decide +kernel), List.mem_of_getElem? (i := 445) (by decide +kernel)⟩
theorem lw_p22 : lw_okq (⟨"ViewStampsModel", "isNode", "(I)Z"⟩, 26) := ⟨⟨by decide +kernel, by decide +kernel⟩, List.mem_of_getElem? (i := 469) (by decide +kernel), List.mem_of_getElem? (i := 558) (by decide +kernel), List.mem_of_getElem? (i := 559) (by decide +kernel)⟩
theorem lw_p23 : lw_okq (⟨"ViewStampsModel", "isFirst", "(I)Z"⟩, 26) := ⟨⟨by decide +kernel, by decide +kernel⟩, List.mem_of_getElem? (i := 469) (by decide +kernel), List.mem_of_getElem? (i := 566) (by decide +kernel), List.mem_of_getElem? (i := 567) (by decide +kernel)⟩
theorem lw_p24 : lw_okq (⟨"ViewStampsModel", "isNew", "(III)Z"⟩, 26) := ⟨⟨by decide +kernel, by decide +kernel⟩, List.mem_of_getElem? (i := 469) (by decide +kernel), List.mem_of_getElem? (i := 570) (by decide +kernel), List.mem_of_getElem? (i := 571) (by decide +kernel)⟩
theorem lw_p25 : lw_okq (⟨"ViewStampsModel", "postAll", "(IIII)I"⟩, 26) := ⟨⟨by decide +kernel, by decide +kernel⟩, List.mem_of_getElem? (i := 469) (by decide +kernel), List.mem_of_getElem? (i := 574) (by decide +kernel), List.mem_of_getElem? (i := 575) (by decide +kernel)⟩
theorem lw_p26 : lw_okq (⟨"ViewStampsModel", "post", "(IIIII)V"⟩, 26) := ⟨⟨by decide +kernel, by decide +kernel⟩, List.mem_of_getElem? (i := 469) (by decide +kernel), List.mem_of_getElem? (i := 578) (by decide +kernel), List.mem_of_getElem? (i := 579) (by decide +kernel)⟩
theorem lw_p27 : lw_okq (⟨"ViewStampsModel", "copyLog", "(II)V"⟩, 26) := ⟨⟨by decide +kernel, by decide +kernel⟩, List.mem_of_getElem? (i := 469) (by decide +kernel), List.mem_of_getElem? (i := 585) (by decide +kernel), List.mem_of_getElem? (i := 586) (by decide +kernel)⟩
theorem lw_p28 : lw_okq (⟨"ViewStampsModel", "isThere", "(I)Z"⟩, 26) := ⟨⟨by decide +kernel, by decide +kernel⟩, List.mem_of_getElem? (i := 469) (by decide +kernel), List.mem_of_getElem? (i := 593) (by decide +kernel), List.mem_of_getElem? (i := 594) (by decide +kernel)⟩
theorem lw_p29 : lw_okq (⟨"ViewStampsModel", "does", "(I)Z"⟩, 26) := ⟨⟨by decide +kernel, by decide +kernel⟩, List.mem_of_getElem? (i := 469) (by decide +kernel), List.mem_of_getElem? (i := 597) (by decide +kernel), List.mem_of_getElem? (i := 598) (by decide +kernel)⟩
theorem lw_p30 : lw_okq (⟨"ViewStampsModel", "prepares", "(III)Z"⟩, 26) := ⟨⟨by decide +kernel, by decide +kernel⟩, List.mem_of_getElem? (i := 469) (by decide +kernel), List.mem_of_getElem? (i := 601) (by decide +kernel), List.mem_of_getElem? (i := 602) (by decide +kernel)⟩
theorem lw_p31 : lw_okq (⟨"ViewStampsModel", "havingAs", "(III)V"⟩, 26) := ⟨⟨by decide +kernel, by decide +kernel⟩, List.mem_of_getElem? (i := 469) (by decide +kernel), List.mem_of_getElem? (i := 605) (by decide +kernel), List.mem_of_getElem? (i := 606) (by decide +kernel)⟩
def lw_privs_2 : List (MethodName × Nat) := [(⟨"ViewStamps$Node", "castVote", "()V"⟩, 17), (⟨"ViewStamps$Node", "leadIfElected", "()V"⟩, 17), (⟨"ViewStamps$Node", "hearVote", "(LViewStamps$Letter;)Z"⟩, 17), (⟨"ViewStamps$Node", "forgetTales", "()V"⟩, 17), (⟨"ViewStamps", "countCutLines", "()I"⟩, 3), (⟨"ViewStamps", "countNormal", "()I"⟩, 3), (⟨"ViewStampsModel", "isNode", "(I)Z"⟩, 26), (⟨"ViewStampsModel", "isFirst", "(I)Z"⟩, 26), (⟨"ViewStampsModel", "isNew", "(III)Z"⟩, 26), (⟨"ViewStampsModel", "postAll", "(IIII)I"⟩, 26), (⟨"ViewStampsModel", "post", "(IIIII)V"⟩, 26), (⟨"ViewStampsModel", "copyLog", "(II)V"⟩, 26), (⟨"ViewStampsModel", "isThere", "(I)Z"⟩, 26), (⟨"ViewStampsModel", "does", "(I)Z"⟩, 26), (⟨"ViewStampsModel", "prepares", "(III)Z"⟩, 26), (⟨"ViewStampsModel", "havingAs", "(III)V"⟩, 26)]
theorem lw_r2 : ∀ q ∈ lw_privs_2, lw_okq q := List.forall_mem_cons.mpr ⟨lw_p16, List.forall_mem_cons.mpr ⟨lw_p17, List.forall_mem_cons.mpr ⟨lw_p18, List.forall_mem_cons.mpr ⟨lw_p19, List.forall_mem_cons.mpr ⟨lw_p20, List.forall_mem_cons.mpr ⟨lw_p21, List.forall_mem_cons.mpr ⟨lw_p22, List.forall_mem_cons.mpr ⟨lw_p23, List.forall_mem_cons.mpr ⟨lw_p24, List.forall_mem_cons.mpr ⟨lw_p25, List.forall_mem_cons.mpr ⟨lw_p26, List.forall_mem_cons.mpr ⟨lw_p27, List.forall_mem_cons.mpr ⟨lw_p28, List.forall_mem_cons.mpr ⟨lw_p29, List.forall_mem_cons.mpr ⟨lw_p30, List.forall_mem_cons.mpr ⟨lw_p31, fun _ h => absurd h List.not_mem_nil⟩⟩⟩⟩⟩⟩⟩⟩⟩⟩⟩⟩⟩⟩⟩⟩
theorem lw_p32 : lw_okq (⟨"ViewStampsModel", "postOk", "(I)V"⟩, 26) := ⟨⟨by decide +kernel, by decide +kernel⟩, List.mem_of_getElem? (i := 469) (by decide +kernel), List.mem_of_getElem? (i := 615) (by decide +kernel), List.mem_of_getElem? (i := 616) (by decide +kernel)⟩
theorem lw_p33 : lw_okq (⟨"ViewStampsModel", "hears", "(IIII)Z"⟩, 26) := ⟨⟨by decide +kernel, by decide +kernel⟩, List.mem_of_getElem? (i := 469) (by decide +kernel), List.mem_of_getElem? (i := 619) (by decide +kernel), List.mem_of_getElem? (i := 620) (by decide +kernel)⟩
theorem lw_p34 : lw_okq (⟨"ViewStampsModel", "isAsked", "(III)Z"⟩, 26) := ⟨⟨by decide +kernel, by decide +kernel⟩, List.mem_of_getElem? (i := 469) (by decide +kernel), List.mem_of_getElem? (i := 623) (by decide +kernel), List.mem_of_getElem? (i := 624) (by decide +kernel)⟩
theorem lw_p35 : lw_okq (⟨"ViewStampsModel", "changes", "(II)V"⟩, 26) := ⟨⟨by decide +kernel, by decide +kernel⟩, List.mem_of_getElem? (i := 469) (by decide +kernel), List.mem_of_getElem? (i := 627) (by decide +kernel), List.mem_of_getElem? (i := 628) (by decide +kernel)⟩
theorem lw_p36 : lw_okq (⟨"ViewStampsModel", "forget", "(I)V"⟩, 26) := ⟨⟨by decide +kernel, by decide +kernel⟩, List.mem_of_getElem? (i := 469) (by decide +kernel), List.mem_of_getElem? (i := 631) (by decide +kernel), List.mem_of_getElem? (i := 632) (by decide +kernel)⟩
theorem lw_p37 : lw_okq (⟨"ViewStampsModel", "voters", "(I)I"⟩, 26) := ⟨⟨by decide +kernel, by decide +kernel⟩, List.mem_of_getElem? (i := 469) (by decide +kernel), List.mem_of_getElem? (i := 635) (by decide +kernel), List.mem_of_getElem? (i := 636) (by decide +kernel)⟩
theorem lw_p38 : lw_okq (⟨"ViewStampsModel", "takesVote", "(IIII)Z"⟩, 26) := ⟨⟨by decide +kernel, by decide +kernel⟩, List.mem_of_getElem? (i := 469) (by decide +kernel), List.mem_of_getElem? (i := 639) (by decide +kernel), List.mem_of_getElem? (i := 640) (by decide +kernel)⟩
theorem lw_p39 : lw_okq (⟨"ViewStampsModel", "votes", "(I)I"⟩, 26) := ⟨⟨by decide +kernel, by decide +kernel⟩, List.mem_of_getElem? (i := 469) (by decide +kernel), List.mem_of_getElem? (i := 643) (by decide +kernel), List.mem_of_getElem? (i := 644) (by decide +kernel)⟩
theorem lw_p40 : lw_okq (⟨"ViewStampsModel", "isVoted", "(IIIII)Z"⟩, 26) := ⟨⟨by decide +kernel, by decide +kernel⟩, List.mem_of_getElem? (i := 469) (by decide +kernel), List.mem_of_getElem? (i := 647) (by decide +kernel), List.mem_of_getElem? (i := 648) (by decide +kernel)⟩
theorem lw_p41 : lw_okq (⟨"ViewStampsModel", "hearsTale", "(IIIII)Z"⟩, 26) := ⟨⟨by decide +kernel, by decide +kernel⟩, List.mem_of_getElem? (i := 469) (by decide +kernel), List.mem_of_getElem? (i := 651) (by decide +kernel), List.mem_of_getElem? (i := 652) (by decide +kernel)⟩
theorem lw_p42 : lw_okq (⟨"ViewStampsModel", "tales", "(I)I"⟩, 26) := ⟨⟨by decide +kernel, by decide +kernel⟩, List.mem_of_getElem? (i := 469) (by decide +kernel), List.mem_of_getElem? (i := 683) (by decide +kernel), List.mem_of_getElem? (i := 684) (by decide +kernel)⟩
def lw_privs_3 : List (MethodName × Nat) := [(⟨"ViewStampsModel", "postOk", "(I)V"⟩, 26), (⟨"ViewStampsModel", "hears", "(IIII)Z"⟩, 26), (⟨"ViewStampsModel", "isAsked", "(III)Z"⟩, 26), (⟨"ViewStampsModel", "changes", "(II)V"⟩, 26), (⟨"ViewStampsModel", "forget", "(I)V"⟩, 26), (⟨"ViewStampsModel", "voters", "(I)I"⟩, 26), (⟨"ViewStampsModel", "takesVote", "(IIII)Z"⟩, 26), (⟨"ViewStampsModel", "votes", "(I)I"⟩, 26), (⟨"ViewStampsModel", "isVoted", "(IIIII)Z"⟩, 26), (⟨"ViewStampsModel", "hearsTale", "(IIIII)Z"⟩, 26), (⟨"ViewStampsModel", "tales", "(I)I"⟩, 26)]
theorem lw_r3 : ∀ q ∈ lw_privs_3, lw_okq q := List.forall_mem_cons.mpr ⟨lw_p32, List.forall_mem_cons.mpr ⟨lw_p33, List.forall_mem_cons.mpr ⟨lw_p34, List.forall_mem_cons.mpr ⟨lw_p35, List.forall_mem_cons.mpr ⟨lw_p36, List.forall_mem_cons.mpr ⟨lw_p37, List.forall_mem_cons.mpr ⟨lw_p38, List.forall_mem_cons.mpr ⟨lw_p39, List.forall_mem_cons.mpr ⟨lw_p40, List.forall_mem_cons.mpr ⟨lw_p41, List.forall_mem_cons.mpr ⟨lw_p42, fun _ h => absurd h List.not_mem_nil⟩⟩⟩⟩⟩⟩⟩⟩⟩⟩⟩
def lw_privs : List (MethodName × Nat) := lw_privs_1 ++ (lw_privs_2 ++ (lw_privs_3))
def lw_tbl : List Cond := k2_sels lw_privs ++ tables_1
theorem lw_privs_ok : ∀ q ∈ lw_privs, lw_okq q := by
  show ∀ q ∈ lw_privs_1 ++ (lw_privs_2 ++ (lw_privs_3)), lw_okq q
  exact List.forall_mem_append.mpr ⟨lw_r1, List.forall_mem_append.mpr ⟨lw_r2, lw_r3⟩⟩
end
section
/-! ===== BEGIN words of one list among another's, by their places ===== -/
theorem goodIn_r {big : List Cond} (ws : List Cond) (ps : List Nat) (hp : ws = ps.filterMap (fun i => big[i]?)) (h : ws.all goodWord = true) : GoodIn big ws := by
  intro w hw
  have h1 := List.all_eq_true.mp h w hw
  rw [hp] at hw
  obtain ⟨i, -, hi⟩ := List.mem_filterMap.mp hw
  have hm : w ∈ big := by first | exact List.mem_of_getElem? hi | exact List.getElem?_mem hi
  exact ⟨hm, good_of_word h1⟩
theorem goodIn_app {big a b : List Cond} (ha : GoodIn big a) (hb : GoodIn big b) : GoodIn big (a ++ b) := fun w h => (List.mem_append.mp h).elim (ha w) (hb w)
theorem goodIn_ca {big a b : List Cond} {c : Cond} (ha : GoodIn big (c :: a)) (hb : GoodIn big b) : GoodIn big (c :: (a ++ b)) := fun w h => (List.mem_cons.mp h).elim (fun e => ha w (List.mem_cons.mpr (Or.inl e))) (fun h => (List.mem_append.mp h).elim (fun h => ha w (List.mem_cons.mpr (Or.inr h))) (hb w))
theorem goodIn_sub {big ws : List Cond} (hm : ∀ w ∈ ws, w ∈ big) (h : ws.all goodWord = true) : GoodIn big ws := fun w hw => ⟨hm w hw, good_of_word (List.all_eq_true.mp h w hw)⟩
/-! ===== END ===== -/

/-! ===== BEGIN printed: names, fields, word lists, decode rows ===== -/
def RX0 : String := "ViewStamps$Letter"
def TX0 : u_T := fun k => match k with
  | 0 => ("ViewStamps$Letter", "from", "I", true)
  | 1 => ("ViewStamps$Letter", "to", "I", true)
  | 2 => ("ViewStamps$Letter", "sort", "I", true)
  | 3 => ("ViewStamps$Letter", "view", "I", true)
  | 4 => ("ViewStamps$Letter", "sure", "I", true)
  | 5 => ("ViewStamps$Letter", "count", "I", true)
  | 6 => ("ViewStamps$Letter", "log", "LViewStamps$Log;", true)
  | _ => ("ViewStamps$Letter", "dropped", "Z", false)
def tyX0 : Nat → FieldType := fun k => match k with
  | 0 => .int
  | 1 => .int
  | 2 => .int
  | 3 => .int
  | 4 => .int
  | 5 => .int
  | 6 => .object "ViewStamps$Log"
  | _ => .boolean
abbrev wsX00 : List Cond := u_ws RX0 TX0 8
theorem nmX0 : ∀ a, a < 8 → ∀ b, b < 8 → a ≠ b → (TX0 a).2.1 ≠ (TX0 b).2.1 := by decide +kernel
theorem tyX0_ok : ∀ k, k < 8 → parseFieldDescriptor (TX0 k).2.2.1 = some (tyX0 k) := by decide +kernel
abbrev cX0_init : ByteArray := prog_2_method_1_code
def yX0_init : MethodName := ⟨RX0, "<init>", "(IIIILViewStamps$Log;II)V"⟩
abbrev cX0_field : ByteArray := prog_2_method_2_code
def yX0_field : MethodName := ⟨RX0, "field", "(I)I"⟩
def RX1 : String := "ViewStamps$Log"
def TX1 : u_T := fun k => match k with
  | _ => ("ViewStamps$Log", "cells", "[I", true)
def tyX1 : Nat → FieldType := fun k => match k with
  | _ => .array .int
abbrev wsX10 : List Cond := u_ws RX1 TX1 1
theorem nmX1 : ∀ a, a < 1 → ∀ b, b < 1 → a ≠ b → (TX1 a).2.1 ≠ (TX1 b).2.1 := by decide +kernel
theorem tyX1_ok : ∀ k, k < 1 → parseFieldDescriptor (TX1 k).2.2.1 = some (tyX1 k) := by decide +kernel
abbrev cX1_init : ByteArray := prog_3_method_1_code
def yX1_init : MethodName := ⟨RX1, "<init>", "([I)V"⟩
abbrev cX1_size : ByteArray := prog_3_method_2_code
def yX1_size : MethodName := ⟨RX1, "size", "()I"⟩
abbrev cX1_field : ByteArray := prog_3_method_3_code
def yX1_field : MethodName := ⟨RX1, "field", "(II)I"⟩
abbrev cX1_with : ByteArray := prog_3_method_4_code
def yX1_with : MethodName := ⟨RX1, "with", "(IIIIII)LViewStamps$Log;"⟩
abbrev cX1_answers : ByteArray := prog_3_method_5_code
def yX1_answers : MethodName := ⟨RX1, "answers", "(II)Z"⟩
abbrev cX1_isLike : ByteArray := prog_3_method_6_code
def yX1_isLike : MethodName := ⟨RX1, "isLike", "(LViewStamps$Log;I)Z"⟩
abbrev cX1_play : ByteArray := prog_3_method_7_code
def yX1_play : MethodName := ⟨RX1, "play", "(I[I)V"⟩
def RX2 : String := "ViewStamps$Node"
def TX2 : u_T := fun k => match k with
  | 0 => ("ViewStamps$Node", "number", "I", true)
  | 1 => ("ViewStamps$Node", "size", "I", true)
  | 2 => ("ViewStamps$Node", "enough", "I", true)
  | 3 => ("ViewStamps$Node", "pool", "LViewStamps$Pool;", true)
  | 4 => ("ViewStamps$Node", "empty", "LViewStamps$Log;", true)
  | 5 => ("ViewStamps$Node", "votes", "[LViewStamps$Letter;", true)
  | 6 => ("ViewStamps$Node", "tales", "[LViewStamps$Letter;", true)
  | 7 => ("ViewStamps$Node", "registers", "[I", true)
  | 8 => ("ViewStamps$Node", "told", "[I", true)
  | 9 => ("ViewStamps$Node", "status", "I", false)
  | 10 => ("ViewStamps$Node", "view", "I", false)
  | 11 => ("ViewStamps$Node", "sure", "I", false)
  | 12 => ("ViewStamps$Node", "log", "LViewStamps$Log;", false)
  | 13 => ("ViewStamps$Node", "lastView", "I", false)
  | 14 => ("ViewStamps$Node", "nonce", "I", false)
  | 15 => ("ViewStamps$Node", "voters", "I", false)
  | _ => ("ViewStamps$Node", "voted", "Z", false)
def tyX2 : Nat → FieldType := fun k => match k with
  | 0 => .int
  | 1 => .int
  | 2 => .int
  | 3 => .object "ViewStamps$Pool"
  | 4 => .object "ViewStamps$Log"
  | 5 => .array (.object "ViewStamps$Letter")
  | 6 => .array (.object "ViewStamps$Letter")
  | 7 => .array .int
  | 8 => .array .int
  | 9 => .int
  | 10 => .int
  | 11 => .int
  | 12 => .object "ViewStamps$Log"
  | 13 => .int
  | 14 => .int
  | 15 => .int
  | _ => .boolean
abbrev wsX20 : List Cond := u_ws RX2 TX2 17
theorem nmX2 : ∀ a, a < 17 → ∀ b, b < 17 → a ≠ b → (TX2 a).2.1 ≠ (TX2 b).2.1 := by decide +kernel
theorem tyX2_ok : ∀ k, k < 17 → parseFieldDescriptor (TX2 k).2.2.1 = some (tyX2 k) := by decide +kernel
abbrev cX2_init : ByteArray := prog_4_method_1_code
def yX2_init : MethodName := ⟨RX2, "<init>", "(IILViewStamps$Pool;LViewStamps$Log;)V"⟩
abbrev cX2_field : ByteArray := prog_4_method_2_code
def yX2_field : MethodName := ⟨RX2, "field", "(I)I"⟩
abbrev cX2_leads : ByteArray := prog_4_method_3_code
def yX2_leads : MethodName := ⟨RX2, "leads", "()Z"⟩
abbrev cX2_isDown : ByteArray := prog_4_method_4_code
def yX2_isDown : MethodName := ⟨RX2, "isDown", "()Z"⟩
abbrev cX2_workOutRegisters : ByteArray := prog_4_method_5_code
def yX2_workOutRegisters : MethodName := ⟨RX2, "workOutRegisters", "()[I"⟩
abbrev cX2_postToAll : ByteArray := prog_4_method_6_code
def yX2_postToAll : MethodName := ⟨RX2, "postToAll", "(II)V"⟩
abbrev cX2_changeTo : ByteArray := prog_4_method_7_code
def yX2_changeTo : MethodName := ⟨RX2, "changeTo", "(I)V"⟩
abbrev cX2_postAgain : ByteArray := prog_4_method_8_code
def yX2_postAgain : MethodName := ⟨RX2, "postAgain", "()I"⟩
abbrev cX2_loseAll : ByteArray := prog_4_method_9_code
def yX2_loseAll : MethodName := ⟨RX2, "loseAll", "()V"⟩
abbrev cX2_startRecovery : ByteArray := prog_4_method_10_code
def yX2_startRecovery : MethodName := ⟨RX2, "startRecovery", "(I)V"⟩
abbrev cX2_hear : ByteArray := prog_4_method_11_code
def yX2_hear : MethodName := ⟨RX2, "hear", "(LViewStamps$Letter;)Z"⟩
abbrev cX2_hearLog : ByteArray := prog_4_method_12_code
def yX2_hearLog : MethodName := ⟨RX2, "hearLog", "(LViewStamps$Letter;)Z"⟩
abbrev cX2_hearOk : ByteArray := prog_4_method_13_code
def yX2_hearOk : MethodName := ⟨RX2, "hearOk", "(LViewStamps$Letter;)Z"⟩
abbrev cX2_hearChange : ByteArray := prog_4_method_14_code
def yX2_hearChange : MethodName := ⟨RX2, "hearChange", "(LViewStamps$Letter;)Z"⟩
abbrev cX2_hearVote : ByteArray := prog_4_method_15_code
def yX2_hearVote : MethodName := ⟨RX2, "hearVote", "(LViewStamps$Letter;)Z"⟩
abbrev cX2_hearAsk : ByteArray := prog_4_method_16_code
def yX2_hearAsk : MethodName := ⟨RX2, "hearAsk", "(LViewStamps$Letter;)Z"⟩
abbrev cX2_hearTell : ByteArray := prog_4_method_17_code
def yX2_hearTell : MethodName := ⟨RX2, "hearTell", "(LViewStamps$Letter;)Z"⟩
abbrev cX2_believeFirst : ByteArray := prog_4_method_18_code
def yX2_believeFirst : MethodName := ⟨RX2, "believeFirst", "()V"⟩
abbrev cX2_castVote : ByteArray := prog_4_method_19_code
def yX2_castVote : MethodName := ⟨RX2, "castVote", "()V"⟩
abbrev cX2_leadIfElected : ByteArray := prog_4_method_20_code
def yX2_leadIfElected : MethodName := ⟨RX2, "leadIfElected", "()V"⟩
abbrev cX2_isAhead : ByteArray := prog_4_method_21_code
def yX2_isAhead : MethodName := ⟨RX2, "isAhead", "(LViewStamps$Letter;LViewStamps$Letter;)Z"⟩
abbrev cX2_settleIn : ByteArray := prog_4_method_22_code
def yX2_settleIn : MethodName := ⟨RX2, "settleIn", "(I)V"⟩
abbrev cX2_heldByEnough : ByteArray := prog_4_method_23_code
def yX2_heldByEnough : MethodName := ⟨RX2, "heldByEnough", "()I"⟩
abbrev cX2_countTold : ByteArray := prog_4_method_24_code
def yX2_countTold : MethodName := ⟨RX2, "countTold", "(I)I"⟩
abbrev cX2_postOk : ByteArray := prog_4_method_25_code
def yX2_postOk : MethodName := ⟨RX2, "postOk", "()V"⟩
abbrev cX2_write : ByteArray := prog_4_method_26_code
def yX2_write : MethodName := ⟨RX2, "write", "(III)LViewStamps$Letter;"⟩
abbrev cX2_isFirst : ByteArray := prog_4_method_27_code
def yX2_isFirst : MethodName := ⟨RX2, "isFirst", "()Z"⟩
abbrev cX2_firstOf : ByteArray := prog_4_method_28_code
def yX2_firstOf : MethodName := ⟨RX2, "firstOf", "(I)I"⟩
abbrev cX2_forgetVotes : ByteArray := prog_4_method_29_code
def yX2_forgetVotes : MethodName := ⟨RX2, "forgetVotes", "()V"⟩
abbrev cX2_forgetTales : ByteArray := prog_4_method_30_code
def yX2_forgetTales : MethodName := ⟨RX2, "forgetTales", "()V"⟩
abbrev cX2_countLetters : ByteArray := prog_4_method_31_code
def yX2_countLetters : MethodName := ⟨RX2, "countLetters", "([LViewStamps$Letter;)I"⟩
def RX3 : String := "ViewStamps$Pool"
def TX3 : u_T := fun k => match k with
  | 0 => ("ViewStamps$Pool", "letters", "[LViewStamps$Letter;", true)
  | 1 => ("ViewStamps$Pool", "posted", "I", false)
  | _ => ("ViewStamps$Pool", "lost", "I", false)
def tyX3 : Nat → FieldType := fun k => match k with
  | 0 => .array (.object "ViewStamps$Letter")
  | 1 => .int
  | _ => .int
abbrev wsX30 : List Cond := u_ws RX3 TX3 3
theorem nmX3 : ∀ a, a < 3 → ∀ b, b < 3 → a ≠ b → (TX3 a).2.1 ≠ (TX3 b).2.1 := by decide +kernel
theorem tyX3_ok : ∀ k, k < 3 → parseFieldDescriptor (TX3 k).2.2.1 = some (tyX3 k) := by decide +kernel
abbrev cX3_init : ByteArray := prog_5_method_1_code
def yX3_init : MethodName := ⟨RX3, "<init>", "()V"⟩
abbrev cX3_add : ByteArray := prog_5_method_2_code
def yX3_add : MethodName := ⟨RX3, "add", "(LViewStamps$Letter;)V"⟩
abbrev cX3_at : ByteArray := prog_5_method_3_code
def yX3_at : MethodName := ⟨RX3, "at", "(I)LViewStamps$Letter;"⟩
abbrev cX3_standing : ByteArray := prog_5_method_4_code
def yX3_standing : MethodName := ⟨RX3, "standing", "(I)LViewStamps$Letter;"⟩
abbrev cX3_countDropped : ByteArray := prog_5_method_5_code
def yX3_countDropped : MethodName := ⟨RX3, "countDropped", "()I"⟩
def RX4 : String := "ViewStamps"
def TX4 : u_T := fun k => match k with
  | 0 => ("ViewStamps", "pool", "LViewStamps$Pool;", true)
  | 1 => ("ViewStamps", "nodes", "[LViewStamps$Node;", true)
  | _ => ("ViewStamps", "cutLines", "[Z", true)
def tyX4 : Nat → FieldType := fun k => match k with
  | 0 => .object "ViewStamps$Pool"
  | 1 => .array (.object "ViewStamps$Node")
  | _ => .array .boolean
abbrev wsX40 : List Cond := u_ws RX4 TX4 3
theorem nmX4 : ∀ a, a < 3 → ∀ b, b < 3 → a ≠ b → (TX4 a).2.1 ≠ (TX4 b).2.1 := by decide +kernel
theorem tyX4_ok : ∀ k, k < 3 → parseFieldDescriptor (TX4 k).2.2.1 = some (tyX4 k) := by decide +kernel
abbrev cX4_init : ByteArray := prog_1_method_1_code
def yX4_init : MethodName := ⟨RX4, "<init>", "(I)V"⟩
abbrev cX4_request : ByteArray := prog_1_method_2_code
def yX4_request : MethodName := ⟨RX4, "request", "(IIIIIII)I"⟩
abbrev cX4_deliver : ByteArray := prog_1_method_3_code
def yX4_deliver : MethodName := ⟨RX4, "deliver", "(I)I"⟩
abbrev cX4_drop : ByteArray := prog_1_method_4_code
def yX4_drop : MethodName := ⟨RX4, "drop", "(I)I"⟩
abbrev cX4_cut : ByteArray := prog_1_method_5_code
def yX4_cut : MethodName := ⟨RX4, "cut", "(IIZ)I"⟩
abbrev cX4_timeout : ByteArray := prog_1_method_6_code
def yX4_timeout : MethodName := ⟨RX4, "timeout", "(I)I"⟩
abbrev cX4_resend : ByteArray := prog_1_method_7_code
def yX4_resend : MethodName := ⟨RX4, "resend", "(I)I"⟩
abbrev cX4_crash : ByteArray := prog_1_method_8_code
def yX4_crash : MethodName := ⟨RX4, "crash", "(I)I"⟩
abbrev cX4_recover : ByteArray := prog_1_method_9_code
def yX4_recover : MethodName := ⟨RX4, "recover", "(II)I"⟩
abbrev cX4_node : ByteArray := prog_1_method_10_code
def yX4_node : MethodName := ⟨RX4, "node", "(II)I"⟩
abbrev cX4_entry : ByteArray := prog_1_method_11_code
def yX4_entry : MethodName := ⟨RX4, "entry", "(III)I"⟩
abbrev cX4_register : ByteArray := prog_1_method_12_code
def yX4_register : MethodName := ⟨RX4, "register", "(II)I"⟩
abbrev cX4_known : ByteArray := prog_1_method_13_code
def yX4_known : MethodName := ⟨RX4, "known", "(II)I"⟩
abbrev cX4_letter : ByteArray := prog_1_method_14_code
def yX4_letter : MethodName := ⟨RX4, "letter", "(II)I"⟩
abbrev cX4_count : ByteArray := prog_1_method_15_code
def yX4_count : MethodName := ⟨RX4, "count", "(I)I"⟩
abbrev cX4_unlike : ByteArray := prog_1_method_16_code
def yX4_unlike : MethodName := ⟨RX4, "unlike", "()I"⟩
abbrev cX4_digest : ByteArray := prog_1_method_17_code
def yX4_digest : MethodName := ⟨RX4, "digest", "()J"⟩
abbrev cX4_digestOfNode : ByteArray := prog_1_method_18_code
def yX4_digestOfNode : MethodName := ⟨RX4, "digestOfNode", "(JLViewStamps$Node;)J"⟩
abbrev cX4_nodeAt : ByteArray := prog_1_method_19_code
def yX4_nodeAt : MethodName := ⟨RX4, "nodeAt", "(I)LViewStamps$Node;"⟩
abbrev cX4_isEntry : ByteArray := prog_1_method_20_code
def yX4_isEntry : MethodName := ⟨RX4, "isEntry", "(IIIII)Z"⟩
abbrev cX4_isBelow : ByteArray := prog_1_method_21_code
def yX4_isBelow : MethodName := ⟨RX4, "isBelow", "(II)Z"⟩
abbrev cX4_lineBetween : ByteArray := prog_1_method_22_code
def yX4_lineBetween : MethodName := ⟨RX4, "lineBetween", "(II)I"⟩
abbrev cX4_countCutLines : ByteArray := prog_1_method_23_code
def yX4_countCutLines : MethodName := ⟨RX4, "countCutLines", "()I"⟩
abbrev cX4_countNormal : ByteArray := prog_1_method_24_code
def yX4_countNormal : MethodName := ⟨RX4, "countNormal", "()I"⟩
def RX5 : String := "ViewStampsModel"
def TX5 : u_T := fun k => match k with
  | 0 => ("ViewStampsModel", "n", "I", true)
  | 1 => ("ViewStampsModel", "f", "I", true)
  | 2 => ("ViewStampsModel", "logs", "[I", true)
  | 3 => ("ViewStampsModel", "many", "[I", true)
  | 4 => ("ViewStampsModel", "sure", "[I", true)
  | 5 => ("ViewStampsModel", "status", "[I", true)
  | 6 => ("ViewStampsModel", "view", "[I", true)
  | 7 => ("ViewStampsModel", "lastView", "[I", true)
  | 8 => ("ViewStampsModel", "voted", "[Z", true)
  | 9 => ("ViewStampsModel", "nonce", "[I", true)
  | 10 => ("ViewStampsModel", "knows", "[I", true)
  | 11 => ("ViewStampsModel", "isVoter", "[Z", true)
  | 12 => ("ViewStampsModel", "hasVote", "[Z", true)
  | 13 => ("ViewStampsModel", "voteCount", "[I", true)
  | 14 => ("ViewStampsModel", "hasTale", "[Z", true)
  | 15 => ("ViewStampsModel", "taleView", "[I", true)
  | 16 => ("ViewStampsModel", "isCut", "[Z", true)
  | 17 => ("ViewStampsModel", "letters", "I", false)
  | 18 => ("ViewStampsModel", "lost", "I", false)
  | 19 => ("ViewStampsModel", "from", "[I", true)
  | 20 => ("ViewStampsModel", "to", "[I", true)
  | 21 => ("ViewStampsModel", "sort", "[I", true)
  | 22 => ("ViewStampsModel", "letterView", "[I", true)
  | 23 => ("ViewStampsModel", "counts", "[I", true)
  | 24 => ("ViewStampsModel", "dropped", "[Z", true)
  | _ => ("ViewStampsModel", "registers", "[I", true)
def tyX5 : Nat → FieldType := fun k => match k with
  | 0 => .int
  | 1 => .int
  | 2 => .array .int
  | 3 => .array .int
  | 4 => .array .int
  | 5 => .array .int
  | 6 => .array .int
  | 7 => .array .int
  | 8 => .array .boolean
  | 9 => .array .int
  | 10 => .array .int
  | 11 => .array .boolean
  | 12 => .array .boolean
  | 13 => .array .int
  | 14 => .array .boolean
  | 15 => .array .int
  | 16 => .array .boolean
  | 17 => .int
  | 18 => .int
  | 19 => .array .int
  | 20 => .array .int
  | 21 => .array .int
  | 22 => .array .int
  | 23 => .array .int
  | 24 => .array .boolean
  | _ => .array .int
abbrev wsX50 : List Cond := u_ws RX5 TX5 26
theorem nmX5 : ∀ a, a < 26 → ∀ b, b < 26 → a ≠ b → (TX5 a).2.1 ≠ (TX5 b).2.1 := by decide +kernel
theorem tyX5_ok : ∀ k, k < 26 → parseFieldDescriptor (TX5 k).2.2.1 = some (tyX5 k) := by decide +kernel
abbrev cX5_init : ByteArray := prog_7_method_1_code
def yX5_init : MethodName := ⟨RX5, "<init>", "(I)V"⟩
abbrev cX5_in : ByteArray := prog_7_method_3_code
def yX5_in : MethodName := ⟨RX5, "in", "(III)Z"⟩
abbrev cX5_isNode : ByteArray := prog_7_method_4_code
def yX5_isNode : MethodName := ⟨RX5, "isNode", "(I)Z"⟩
abbrev cX5_isFirst : ByteArray := prog_7_method_5_code
def yX5_isFirst : MethodName := ⟨RX5, "isFirst", "(I)Z"⟩
abbrev cX5_copyLog : ByteArray := prog_7_method_6_code
def yX5_copyLog : MethodName := ⟨RX5, "copyLog", "(II)V"⟩
abbrev cX5_lesser : ByteArray := prog_7_method_7_code
def yX5_lesser : MethodName := ⟨RX5, "lesser", "(II)I"⟩
abbrev cX5_greater : ByteArray := prog_7_method_8_code
def yX5_greater : MethodName := ⟨RX5, "greater", "(II)I"⟩
abbrev cX5_hasLog : ByteArray := prog_7_method_9_code
def yX5_hasLog : MethodName := ⟨RX5, "hasLog", "(I)Z"⟩
abbrev cX5_post : ByteArray := prog_7_method_10_code
def yX5_post : MethodName := ⟨RX5, "post", "(IIIII)V"⟩
abbrev cX5_postAll : ByteArray := prog_7_method_11_code
def yX5_postAll : MethodName := ⟨RX5, "postAll", "(IIII)I"⟩
abbrev cX5_postOk : ByteArray := prog_7_method_12_code
def yX5_postOk : MethodName := ⟨RX5, "postOk", "(I)V"⟩
abbrev cX5_havingAs : ByteArray := prog_7_method_13_code
def yX5_havingAs : MethodName := ⟨RX5, "havingAs", "(III)V"⟩
abbrev cX5_prepares : ByteArray := prog_7_method_14_code
def yX5_prepares : MethodName := ⟨RX5, "prepares", "(III)Z"⟩
abbrev cX5_hears : ByteArray := prog_7_method_15_code
def yX5_hears : MethodName := ⟨RX5, "hears", "(IIII)Z"⟩
abbrev cX5_forget : ByteArray := prog_7_method_16_code
def yX5_forget : MethodName := ⟨RX5, "forget", "(I)V"⟩
abbrev cX5_changes : ByteArray := prog_7_method_17_code
def yX5_changes : MethodName := ⟨RX5, "changes", "(II)V"⟩
abbrev cX5_voters : ByteArray := prog_7_method_18_code
def yX5_voters : MethodName := ⟨RX5, "voters", "(I)I"⟩
abbrev cX5_votes : ByteArray := prog_7_method_19_code
def yX5_votes : MethodName := ⟨RX5, "votes", "(I)I"⟩
abbrev cX5_isAsked : ByteArray := prog_7_method_20_code
def yX5_isAsked : MethodName := ⟨RX5, "isAsked", "(III)Z"⟩
abbrev cX5_takesVote : ByteArray := prog_7_method_21_code
def yX5_takesVote : MethodName := ⟨RX5, "takesVote", "(IIII)Z"⟩
abbrev cX5_isVoted : ByteArray := prog_7_method_22_code
def yX5_isVoted : MethodName := ⟨RX5, "isVoted", "(IIIII)Z"⟩
abbrev cX5_hearsTale : ByteArray := prog_7_method_23_code
def yX5_hearsTale : MethodName := ⟨RX5, "hearsTale", "(IIIII)Z"⟩
abbrev cX5_isNew : ByteArray := prog_7_method_24_code
def yX5_isNew : MethodName := ⟨RX5, "isNew", "(III)Z"⟩
abbrev cX5_request : ByteArray := prog_7_method_25_code
def yX5_request : MethodName := ⟨RX5, "request", "(IIIIIII)I"⟩
abbrev cX5_isThere : ByteArray := prog_7_method_26_code
def yX5_isThere : MethodName := ⟨RX5, "isThere", "(I)Z"⟩
abbrev cX5_does : ByteArray := prog_7_method_27_code
def yX5_does : MethodName := ⟨RX5, "does", "(I)Z"⟩
abbrev cX5_deliver : ByteArray := prog_7_method_28_code
def yX5_deliver : MethodName := ⟨RX5, "deliver", "(I)I"⟩
abbrev cX5_drop : ByteArray := prog_7_method_29_code
def yX5_drop : MethodName := ⟨RX5, "drop", "(I)I"⟩
abbrev cX5_cut : ByteArray := prog_7_method_30_code
def yX5_cut : MethodName := ⟨RX5, "cut", "(IIZ)I"⟩
abbrev cX5_timeout : ByteArray := prog_7_method_31_code
def yX5_timeout : MethodName := ⟨RX5, "timeout", "(I)I"⟩
abbrev cX5_resend : ByteArray := prog_7_method_32_code
def yX5_resend : MethodName := ⟨RX5, "resend", "(I)I"⟩
abbrev cX5_crash : ByteArray := prog_7_method_33_code
def yX5_crash : MethodName := ⟨RX5, "crash", "(I)I"⟩
abbrev cX5_recover : ByteArray := prog_7_method_34_code
def yX5_recover : MethodName := ⟨RX5, "recover", "(II)I"⟩
abbrev cX5_tales : ByteArray := prog_7_method_35_code
def yX5_tales : MethodName := ⟨RX5, "tales", "(I)I"⟩
abbrev cX5_node : ByteArray := prog_7_method_36_code
def yX5_node : MethodName := ⟨RX5, "node", "(II)I"⟩
abbrev cX5_entry : ByteArray := prog_7_method_37_code
def yX5_entry : MethodName := ⟨RX5, "entry", "(III)I"⟩
abbrev cX5_register : ByteArray := prog_7_method_38_code
def yX5_register : MethodName := ⟨RX5, "register", "(II)I"⟩
abbrev cX5_known : ByteArray := prog_7_method_39_code
def yX5_known : MethodName := ⟨RX5, "known", "(II)I"⟩
abbrev cX5_letter : ByteArray := prog_7_method_40_code
def yX5_letter : MethodName := ⟨RX5, "letter", "(II)I"⟩
abbrev cX5_count : ByteArray := prog_7_method_41_code
def yX5_count : MethodName := ⟨RX5, "count", "(I)I"⟩
abbrev cX5_unlike : ByteArray := prog_7_method_42_code
def yX5_unlike : MethodName := ⟨RX5, "unlike", "()I"⟩
abbrev cX5_digest : ByteArray := prog_7_method_43_code
def yX5_digest : MethodName := ⟨RX5, "digest", "()J"⟩
def RJx8e188 : String := "java/lang/Cloneable"
def TJx8e188 : u_T := fun k => match k with
  | _ => ("", "", "", false)
def tyJx8e188 : Nat → FieldType := fun k => match k with
  | _ => .int
abbrev wsJx8e1880 : List Cond := u_ws RJx8e188 TJx8e188 0
theorem nmJx8e188 : ∀ a, a < 0 → ∀ b, b < 0 → a ≠ b → (TJx8e188 a).2.1 ≠ (TJx8e188 b).2.1 := by decide +kernel
theorem tyJx8e188_ok : ∀ k, k < 0 → parseFieldDescriptor (TJx8e188 k).2.2.1 = some (tyJx8e188 k) := by decide +kernel
def RJ6 : String := "java/lang/Integer"
def TJ6 : u_T := fun k => match k with
  | _ => ("", "", "", false)
def tyJ6 : Nat → FieldType := fun k => match k with
  | _ => .int
abbrev wsJ60 : List Cond := u_ws RJ6 TJ6 0
theorem nmJ6 : ∀ a, a < 0 → ∀ b, b < 0 → a ≠ b → (TJ6 a).2.1 ≠ (TJ6 b).2.1 := by decide +kernel
theorem tyJ6_ok : ∀ k, k < 0 → parseFieldDescriptor (TJ6 k).2.2.1 = some (tyJ6 k) := by decide +kernel
abbrev cJ6_bitCount_0f7a4 : ByteArray := prog_9_method_49_code
def yJ6_bitCount_0f7a4 : MethodName := ⟨RJ6, "bitCount", "(I)I"⟩
def RJ9 : String := "java/lang/Math"
def TJ9 : u_T := fun k => match k with
  | _ => ("", "", "", false)
def tyJ9 : Nat → FieldType := fun k => match k with
  | _ => .int
abbrev wsJ90 : List Cond := u_ws RJ9 TJ9 0
theorem nmJ9 : ∀ a, a < 0 → ∀ b, b < 0 → a ≠ b → (TJ9 a).2.1 ≠ (TJ9 b).2.1 := by decide +kernel
theorem tyJ9_ok : ∀ k, k < 0 → parseFieldDescriptor (TJ9 k).2.2.1 = some (tyJ9 k) := by decide +kernel
abbrev cJ9_max_7cf53 : ByteArray := prog_10_method_65_code
def yJ9_max_7cf53 : MethodName := ⟨RJ9, "max", "(II)I"⟩
abbrev cJ9_min_7cf53 : ByteArray := prog_10_method_69_code
def yJ9_min_7cf53 : MethodName := ⟨RJ9, "min", "(II)I"⟩
def RJ10 : String := "java/lang/System"
def TJ10 : u_T := fun k => match k with
  | _ => ("", "", "", false)
def tyJ10 : Nat → FieldType := fun k => match k with
  | _ => .int
abbrev wsJ100 : List Cond := u_ws RJ10 TJ10 0
theorem nmJ10 : ∀ a, a < 0 → ∀ b, b < 0 → a ≠ b → (TJ10 a).2.1 ≠ (TJ10 b).2.1 := by decide +kernel
theorem tyJ10_ok : ∀ k, k < 0 → parseFieldDescriptor (TJ10 k).2.2.1 = some (tyJ10 k) := by decide +kernel
def RJ7 : String := "java/util/Arrays"
def TJ7 : u_T := fun k => match k with
  | _ => ("", "", "", false)
def tyJ7 : Nat → FieldType := fun k => match k with
  | _ => .int
abbrev wsJ70 : List Cond := u_ws RJ7 TJ7 0
theorem nmJ7 : ∀ a, a < 0 → ∀ b, b < 0 → a ≠ b → (TJ7 a).2.1 ≠ (TJ7 b).2.1 := by decide +kernel
theorem tyJ7_ok : ∀ k, k < 0 → parseFieldDescriptor (TJ7 k).2.2.1 = some (tyJ7 k) := by decide +kernel
abbrev cJ7_fill_53178 : ByteArray := prog_12_method_103_code
def yJ7_fill_53178 : MethodName := ⟨RJ7, "fill", "([II)V"⟩
abbrev cJ7_copyOf_59c91 : ByteArray := prog_12_method_123_code
def yJ7_copyOf_59c91 : MethodName := ⟨RJ7, "copyOf", "([II)[I"⟩
def RL : String := "ViewStampsLaw"
abbrev cL_cell : ByteArray := method_2_code
def yL_cell : MethodName := ⟨RL, "cell", "([II)I"⟩
abbrev cL_law : ByteArray := code
def yL_law : MethodName := ⟨RL, "law", "([I)Z"⟩
def wsX0_init : List Cond := .code yX0_init cX0_init 8 none :: ([.methodLink RX0 3 objectInit, .instanceMethod objectInit, .code objectInit ⟨#[0xb1]⟩ 1 none, .fieldLink RX0 9 "ViewStamps$Letter" "from" "I", .fieldLink RX0 15 "ViewStamps$Letter" "to" "I", .fieldLink RX0 18 "ViewStamps$Letter" "sort" "I", .fieldLink RX0 21 "ViewStamps$Letter" "view" "I", .fieldLink RX0 24 "ViewStamps$Letter" "log" "LViewStamps$Log;", .fieldLink RX0 28 "ViewStamps$Letter" "sure" "I", .fieldLink RX0 31 "ViewStamps$Letter" "count" "I"] ++ wsX00)
def wsX1_size : List Cond := .code yX1_size cX1_size 1 (some .int) :: ([.fieldLink RX1 9 "ViewStamps$Log" "cells" "[I"] ++ wsX10)
def wsX0_field : List Cond := .code yX0_field cX0_field 2 (some .int) :: ([.fieldLink RX0 9 "ViewStamps$Letter" "from" "I", .fieldLink RX0 15 "ViewStamps$Letter" "to" "I", .fieldLink RX0 18 "ViewStamps$Letter" "sort" "I", .fieldLink RX0 21 "ViewStamps$Letter" "view" "I", .fieldLink RX0 24 "ViewStamps$Letter" "log" "LViewStamps$Log;", .fieldLink RX0 28 "ViewStamps$Letter" "sure" "I", .fieldLink RX0 31 "ViewStamps$Letter" "count" "I", .fieldLink RX0 40 "ViewStamps$Letter" "dropped" "Z", .methodLink RX0 34 yX1_size, .instanceMethod yX1_size, .selects RX1 yX1_size yX1_size, .initialized RX1, .code yX1_size cX1_size 1 (some .int), .fieldLink RX1 9 "ViewStamps$Log" "cells" "[I"] ++ wsX00 ++ wsX10)
def wsX1_init : List Cond := .code yX1_init cX1_init 2 none :: ([.methodLink RX1 3 objectInit, .instanceMethod objectInit, .code objectInit ⟨#[0xb1]⟩ 1 none, .fieldLink RX1 9 "ViewStamps$Log" "cells" "[I"] ++ wsX10)
def wsX1_field : List Cond := .code yX1_field cX1_field 3 (some .int) :: ([.constant RX1 19 (-2147483648), .fieldLink RX1 9 "ViewStamps$Log" "cells" "[I", .methodLink RX1 15 yX1_size, .instanceMethod yX1_size, .selects RX1 yX1_size yX1_size, .initialized RX1, .code yX1_size cX1_size 1 (some .int)] ++ wsX10)
def wsJ7_copyOf_59c91 : List Cond := .code yJ7_copyOf_59c91 cJ7_copyOf_59c91 3 (some (.array .int)) :: ([.methodLink RJ7 316 ⟨"[I", "clone", "()Ljava/lang/Object;"⟩, .sameMethod "[I" "java/lang/Object" "clone" "()Ljava/lang/Object;", .native ⟨"java/lang/Object", "clone", "()Ljava/lang/Object;"⟩, .instanceMethod ⟨"java/lang/Object", "clone", "()Ljava/lang/Object;"⟩, .selects "[I" ⟨"[I", "clone", "()Ljava/lang/Object;"⟩ ⟨"java/lang/Object", "clone", "()Ljava/lang/Object;"⟩, .classLink RJ7 317 "[I", .arrayClass .int, .methodLink RJ7 304 Lib.Math.min.name, .static Lib.Math.min.name, .initialized "java/lang/Math", .code Lib.Math.min.name Lib.Math.min.code 2 (some .int), .methodLink RJ7 150 arraycopyName, .native arraycopyName, .static arraycopyName, .initialized "java/lang/System"])
def wsX1_with_r1 : List Cond := [Cond.fieldLink RX1 9 "ViewStamps$Log" "cells" "[I", Cond.classLink RX1 10 RX1, Cond.instantiable RX1 1, Cond.initialized RX1, Cond.methodLink RX1 20 yJ7_copyOf_59c91, Cond.static yJ7_copyOf_59c91, Cond.initialized RJ7, Cond.code yJ7_copyOf_59c91 cJ7_copyOf_59c91 3 (some (.array .int)), Cond.methodLink RJ7 316 ⟨"[I", "clone", "()Ljava/lang/Object;"⟩, Cond.sameMethod "[I" "java/lang/Object" "clone" "()Ljava/lang/Object;", Cond.native ⟨"java/lang/Object", "clone", "()Ljava/lang/Object;"⟩, Cond.instanceMethod ⟨"java/lang/Object", "clone", "()Ljava/lang/Object;"⟩, Cond.selects "[I" ⟨"[I", "clone", "()Ljava/lang/Object;"⟩ ⟨"java/lang/Object", "clone", "()Ljava/lang/Object;"⟩, Cond.classLink RJ7 317 "[I", Cond.arrayClass .int, Cond.methodLink RJ7 304 Lib.Math.min.name, Cond.static Lib.Math.min.name, Cond.initialized "java/lang/Math", Cond.code Lib.Math.min.name Lib.Math.min.code 2 (some .int), Cond.methodLink RJ7 150 arraycopyName, Cond.native arraycopyName, Cond.static arraycopyName, Cond.initialized "java/lang/System", Cond.methodLink RX1 26 yX1_init]
def wsX1_with_r2 : List Cond := [Cond.instanceMethod yX1_init, Cond.code yX1_init cX1_init 2 none, Cond.methodLink RX1 3 objectInit, Cond.instanceMethod objectInit, Cond.code objectInit ⟨#[0xb1]⟩ 1 none]
def wsX1_with : List Cond := .code yX1_with cX1_with 9 (some (.object "ViewStamps$Log")) :: ((wsX1_with_r1 ++ wsX1_with_r2) ++ wsX10)
def wsX1_answers : List Cond := .code yX1_answers cX1_answers 4 (some .boolean) :: ([.methodLink RX1 15 yX1_size, .instanceMethod yX1_size, .selects RX1 yX1_size yX1_size, .initialized RX1, .code yX1_size cX1_size 1 (some .int), .fieldLink RX1 9 "ViewStamps$Log" "cells" "[I", .methodLink RX1 29 yX1_field, .instanceMethod yX1_field, .selects RX1 yX1_field yX1_field, .code yX1_field cX1_field 3 (some .int), .constant RX1 19 (-2147483648)] ++ wsX10)
def wsX1_isLike : List Cond := .code yX1_isLike cX1_isLike 5 (some .boolean) :: ([.methodLink RX1 29 yX1_field, .instanceMethod yX1_field, .selects RX1 yX1_field yX1_field, .initialized RX1, .code yX1_field cX1_field 3 (some .int), .constant RX1 19 (-2147483648), .fieldLink RX1 9 "ViewStamps$Log" "cells" "[I", .methodLink RX1 15 yX1_size, .instanceMethod yX1_size, .selects RX1 yX1_size yX1_size, .code yX1_size cX1_size 1 (some .int)] ++ wsX10)
def wsX1_play : List Cond := .code yX1_play cX1_play 6 none :: ([.methodLink RX1 29 yX1_field, .instanceMethod yX1_field, .selects RX1 yX1_field yX1_field, .initialized RX1, .code yX1_field cX1_field 3 (some .int), .constant RX1 19 (-2147483648), .fieldLink RX1 9 "ViewStamps$Log" "cells" "[I", .methodLink RX1 15 yX1_size, .instanceMethod yX1_size, .selects RX1 yX1_size yX1_size, .code yX1_size cX1_size 1 (some .int)] ++ wsX10)
def wsX2_init : List Cond := .code yX2_init cX2_init 5 none :: ([.methodLink RX2 3 objectInit, .instanceMethod objectInit, .code objectInit ⟨#[0xb1]⟩ 1 none, .arrayClass .int, .fieldLink RX2 9 "ViewStamps$Node" "registers" "[I", .fieldLink RX2 15 "ViewStamps$Node" "number" "I", .fieldLink RX2 19 "ViewStamps$Node" "size" "I", .fieldLink RX2 22 "ViewStamps$Node" "enough" "I", .fieldLink RX2 25 "ViewStamps$Node" "pool" "LViewStamps$Pool;", .fieldLink RX2 29 "ViewStamps$Node" "empty" "LViewStamps$Log;", .fieldLink RX2 33 "ViewStamps$Node" "log" "LViewStamps$Log;", .classLink RX2 36 RX0, .fieldLink RX2 38 "ViewStamps$Node" "votes" "[LViewStamps$Letter;", .fieldLink RX2 42 "ViewStamps$Node" "tales" "[LViewStamps$Letter;", .fieldLink RX2 45 "ViewStamps$Node" "told" "[I"] ++ wsX20)
def wsJ6_bitCount_0f7a4 : List Cond := .code yJ6_bitCount_0f7a4 cJ6_bitCount_0f7a4 1 (some .int) :: ([.constant RJ6 265 (1431655765), .constant RJ6 266 (858993459), .constant RJ6 267 (252645135)])
def wsX2_countLetters : List Cond := .code yX2_countLetters cX2_countLetters 6 (some .int) :: ([])
def wsX2_field_r1 : List Cond := [Cond.fieldLink RX2 48 "ViewStamps$Node" "status" "I", Cond.fieldLink RX2 51 "ViewStamps$Node" "view" "I", Cond.fieldLink RX2 54 "ViewStamps$Node" "lastView" "I", Cond.fieldLink RX2 33 "ViewStamps$Node" "log" "LViewStamps$Log;", Cond.fieldLink RX2 62 "ViewStamps$Node" "sure" "I", Cond.fieldLink RX2 65 "ViewStamps$Node" "voters" "I", Cond.fieldLink RX2 38 "ViewStamps$Node" "votes" "[LViewStamps$Letter;", Cond.fieldLink RX2 78 "ViewStamps$Node" "voted" "Z", Cond.fieldLink RX2 42 "ViewStamps$Node" "tales" "[LViewStamps$Letter;", Cond.methodLink RX2 57 yX1_size, Cond.instanceMethod yX1_size, Cond.selects RX1 yX1_size yX1_size, Cond.initialized RX1, Cond.code yX1_size cX1_size 1 (some .int), Cond.fieldLink RX1 9 "ViewStamps$Log" "cells" "[I", Cond.methodLink RX2 68 yJ6_bitCount_0f7a4, Cond.static yJ6_bitCount_0f7a4, Cond.initialized RJ6, Cond.code yJ6_bitCount_0f7a4 cJ6_bitCount_0f7a4 1 (some .int), Cond.constant RJ6 265 (1431655765), Cond.constant RJ6 266 (858993459), Cond.constant RJ6 267 (252645135), Cond.methodLink RX2 74 yX2_countLetters, Cond.static yX2_countLetters]
def wsX2_field_r2 : List Cond := [Cond.initialized RX2, Cond.code yX2_countLetters cX2_countLetters 6 (some .int)]
def wsX2_field : List Cond := .code yX2_field cX2_field 3 (some .int) :: ((wsX2_field_r1 ++ wsX2_field_r2) ++ wsX20 ++ wsX10)
def wsX2_firstOf : List Cond := .code yX2_firstOf cX2_firstOf 2 (some .int) :: ([.fieldLink RX2 19 "ViewStamps$Node" "size" "I"] ++ wsX20)
def wsX2_isFirst : List Cond := .code yX2_isFirst cX2_isFirst 1 (some .boolean) :: ([.fieldLink RX2 51 "ViewStamps$Node" "view" "I", .fieldLink RX2 15 "ViewStamps$Node" "number" "I", .methodLink RX2 184 yX2_firstOf, .instanceMethod yX2_firstOf, .selects RX2 yX2_firstOf yX2_firstOf, .initialized RX2, .code yX2_firstOf cX2_firstOf 2 (some .int), .fieldLink RX2 19 "ViewStamps$Node" "size" "I"] ++ wsX20)
def wsX2_leads : List Cond := .code yX2_leads cX2_leads 1 (some .boolean) :: ([.fieldLink RX2 48 "ViewStamps$Node" "status" "I", .methodLink RX2 82 yX2_isFirst, .instanceMethod yX2_isFirst, .selects RX2 yX2_isFirst yX2_isFirst, .initialized RX2, .code yX2_isFirst cX2_isFirst 1 (some .boolean), .fieldLink RX2 51 "ViewStamps$Node" "view" "I", .fieldLink RX2 15 "ViewStamps$Node" "number" "I", .methodLink RX2 184 yX2_firstOf, .instanceMethod yX2_firstOf, .selects RX2 yX2_firstOf yX2_firstOf, .code yX2_firstOf cX2_firstOf 2 (some .int), .fieldLink RX2 19 "ViewStamps$Node" "size" "I"] ++ wsX20)
def wsX2_isDown : List Cond := .code yX2_isDown cX2_isDown 1 (some .boolean) :: ([.fieldLink RX2 48 "ViewStamps$Node" "status" "I"] ++ wsX20)
def wsJ7_fill_53178 : List Cond := .code yJ7_fill_53178 cJ7_fill_53178 4 none :: ([])
def wsX2_workOutRegisters : List Cond := .code yX2_workOutRegisters cX2_workOutRegisters 1 (some (.array .int)) :: ([.fieldLink RX2 9 "ViewStamps$Node" "registers" "[I", .fieldLink RX2 33 "ViewStamps$Node" "log" "LViewStamps$Log;", .fieldLink RX2 62 "ViewStamps$Node" "sure" "I", .methodLink RX2 86 yJ7_fill_53178, .static yJ7_fill_53178, .initialized RJ7, .code yJ7_fill_53178 cJ7_fill_53178 4 none, .methodLink RX2 92 yX1_play, .instanceMethod yX1_play, .selects RX1 yX1_play yX1_play, .initialized RX1, .code yX1_play cX1_play 6 none, .methodLink RX1 29 yX1_field, .instanceMethod yX1_field, .selects RX1 yX1_field yX1_field, .code yX1_field cX1_field 3 (some .int), .constant RX1 19 (-2147483648), .fieldLink RX1 9 "ViewStamps$Log" "cells" "[I", .methodLink RX1 15 yX1_size, .instanceMethod yX1_size, .selects RX1 yX1_size yX1_size, .code yX1_size cX1_size 1 (some .int)] ++ wsX20 ++ wsX10)
def wsX2_write : List Cond := .code yX2_write cX2_write 5 (some (.object "ViewStamps$Letter")) :: ([.classLink RX2 36 RX0, .instantiable RX0 8, .initialized RX0, .fieldLink RX2 15 "ViewStamps$Node" "number" "I", .fieldLink RX2 51 "ViewStamps$Node" "view" "I", .fieldLink RX2 33 "ViewStamps$Node" "log" "LViewStamps$Log;", .fieldLink RX2 29 "ViewStamps$Node" "empty" "LViewStamps$Log;", .fieldLink RX2 62 "ViewStamps$Node" "sure" "I", .methodLink RX2 197 yX0_init, .instanceMethod yX0_init, .code yX0_init cX0_init 8 none, .methodLink RX0 3 objectInit, .instanceMethod objectInit, .code objectInit ⟨#[0xb1]⟩ 1 none, .fieldLink RX0 9 "ViewStamps$Letter" "from" "I", .fieldLink RX0 15 "ViewStamps$Letter" "to" "I", .fieldLink RX0 18 "ViewStamps$Letter" "sort" "I", .fieldLink RX0 21 "ViewStamps$Letter" "view" "I", .fieldLink RX0 24 "ViewStamps$Letter" "log" "LViewStamps$Log;", .fieldLink RX0 28 "ViewStamps$Letter" "sure" "I", .fieldLink RX0 31 "ViewStamps$Letter" "count" "I"] ++ wsX00 ++ wsX20)
def wsX3_add : List Cond := .code yX3_add cX3_add 2 none :: ([.fieldLink RX3 17 "ViewStamps$Pool" "posted" "I", .fieldLink RX3 11 "ViewStamps$Pool" "letters" "[LViewStamps$Letter;", .fieldLink RX3 21 "ViewStamps$Pool" "lost" "I"] ++ wsX30)
def wsX2_postToAll_r1 : List Cond := [Cond.fieldLink RX2 19 "ViewStamps$Node" "size" "I", Cond.fieldLink RX2 15 "ViewStamps$Node" "number" "I", Cond.fieldLink RX2 25 "ViewStamps$Node" "pool" "LViewStamps$Pool;", Cond.methodLink RX2 96 yX2_write, Cond.instanceMethod yX2_write, Cond.selects RX2 yX2_write yX2_write, Cond.initialized RX2, Cond.code yX2_write cX2_write 5 (some (.object "ViewStamps$Letter")), Cond.classLink RX2 36 RX0, Cond.instantiable RX0 8, Cond.initialized RX0, Cond.fieldLink RX2 51 "ViewStamps$Node" "view" "I", Cond.fieldLink RX2 33 "ViewStamps$Node" "log" "LViewStamps$Log;", Cond.fieldLink RX2 29 "ViewStamps$Node" "empty" "LViewStamps$Log;", Cond.fieldLink RX2 62 "ViewStamps$Node" "sure" "I", Cond.methodLink RX2 197 yX0_init, Cond.instanceMethod yX0_init, Cond.code yX0_init cX0_init 8 none, Cond.methodLink RX0 3 objectInit, Cond.instanceMethod objectInit, Cond.code objectInit ⟨#[0xb1]⟩ 1 none, Cond.fieldLink RX0 9 "ViewStamps$Letter" "from" "I", Cond.fieldLink RX0 15 "ViewStamps$Letter" "to" "I", Cond.fieldLink RX0 18 "ViewStamps$Letter" "sort" "I"]
def wsX2_postToAll_r2 : List Cond := [Cond.fieldLink RX0 21 "ViewStamps$Letter" "view" "I", Cond.fieldLink RX0 24 "ViewStamps$Letter" "log" "LViewStamps$Log;", Cond.fieldLink RX0 28 "ViewStamps$Letter" "sure" "I", Cond.fieldLink RX0 31 "ViewStamps$Letter" "count" "I", Cond.methodLink RX2 100 yX3_add, Cond.instanceMethod yX3_add, Cond.selects RX3 yX3_add yX3_add, Cond.initialized RX3, Cond.code yX3_add cX3_add 2 none, Cond.fieldLink RX3 17 "ViewStamps$Pool" "posted" "I", Cond.fieldLink RX3 11 "ViewStamps$Pool" "letters" "[LViewStamps$Letter;", Cond.fieldLink RX3 21 "ViewStamps$Pool" "lost" "I"]
def wsX2_postToAll : List Cond := .code yX2_postToAll cX2_postToAll 4 none :: ((wsX2_postToAll_r1 ++ wsX2_postToAll_r2) ++ wsX20 ++ wsX00 ++ wsX30)
def wsX2_forgetVotes : List Cond := .code yX2_forgetVotes cX2_forgetVotes 2 none :: ([.fieldLink RX2 65 "ViewStamps$Node" "voters" "I", .fieldLink RX2 78 "ViewStamps$Node" "voted" "Z", .fieldLink RX2 19 "ViewStamps$Node" "size" "I", .fieldLink RX2 38 "ViewStamps$Node" "votes" "[LViewStamps$Letter;"] ++ wsX20)
def wsX2_changeTo_r1 : List Cond := [Cond.fieldLink RX2 51 "ViewStamps$Node" "view" "I", Cond.fieldLink RX2 48 "ViewStamps$Node" "status" "I", Cond.methodLink RX2 106 yX2_forgetVotes, Cond.instanceMethod yX2_forgetVotes, Cond.selects RX2 yX2_forgetVotes yX2_forgetVotes, Cond.initialized RX2, Cond.code yX2_forgetVotes cX2_forgetVotes 2 none, Cond.fieldLink RX2 65 "ViewStamps$Node" "voters" "I", Cond.fieldLink RX2 78 "ViewStamps$Node" "voted" "Z", Cond.fieldLink RX2 19 "ViewStamps$Node" "size" "I", Cond.fieldLink RX2 38 "ViewStamps$Node" "votes" "[LViewStamps$Letter;", Cond.methodLink RX2 109 yX2_postToAll, Cond.instanceMethod yX2_postToAll, Cond.selects RX2 yX2_postToAll yX2_postToAll, Cond.code yX2_postToAll cX2_postToAll 4 none, Cond.fieldLink RX2 15 "ViewStamps$Node" "number" "I", Cond.fieldLink RX2 25 "ViewStamps$Node" "pool" "LViewStamps$Pool;", Cond.methodLink RX2 96 yX2_write, Cond.instanceMethod yX2_write, Cond.selects RX2 yX2_write yX2_write, Cond.code yX2_write cX2_write 5 (some (.object "ViewStamps$Letter")), Cond.classLink RX2 36 RX0, Cond.instantiable RX0 8, Cond.initialized RX0]
def wsX2_changeTo_r2 : List Cond := [Cond.fieldLink RX2 33 "ViewStamps$Node" "log" "LViewStamps$Log;", Cond.fieldLink RX2 29 "ViewStamps$Node" "empty" "LViewStamps$Log;", Cond.fieldLink RX2 62 "ViewStamps$Node" "sure" "I", Cond.methodLink RX2 197 yX0_init, Cond.instanceMethod yX0_init, Cond.code yX0_init cX0_init 8 none, Cond.methodLink RX0 3 objectInit, Cond.instanceMethod objectInit, Cond.code objectInit ⟨#[0xb1]⟩ 1 none, Cond.fieldLink RX0 9 "ViewStamps$Letter" "from" "I", Cond.fieldLink RX0 15 "ViewStamps$Letter" "to" "I", Cond.fieldLink RX0 18 "ViewStamps$Letter" "sort" "I", Cond.fieldLink RX0 21 "ViewStamps$Letter" "view" "I", Cond.fieldLink RX0 24 "ViewStamps$Letter" "log" "LViewStamps$Log;", Cond.fieldLink RX0 28 "ViewStamps$Letter" "sure" "I", Cond.fieldLink RX0 31 "ViewStamps$Letter" "count" "I", Cond.methodLink RX2 100 yX3_add, Cond.instanceMethod yX3_add, Cond.selects RX3 yX3_add yX3_add, Cond.initialized RX3, Cond.code yX3_add cX3_add 2 none, Cond.fieldLink RX3 17 "ViewStamps$Pool" "posted" "I", Cond.fieldLink RX3 11 "ViewStamps$Pool" "letters" "[LViewStamps$Letter;", Cond.fieldLink RX3 21 "ViewStamps$Pool" "lost" "I"]
def wsX2_changeTo : List Cond := .code yX2_changeTo cX2_changeTo 2 none :: ((wsX2_changeTo_r1 ++ wsX2_changeTo_r2) ++ wsX20 ++ wsX00 ++ wsX30)
def wsX2_postOk_r1 : List Cond := [Cond.fieldLink RX2 25 "ViewStamps$Node" "pool" "LViewStamps$Pool;", Cond.fieldLink RX2 51 "ViewStamps$Node" "view" "I", Cond.fieldLink RX2 33 "ViewStamps$Node" "log" "LViewStamps$Log;", Cond.methodLink RX2 184 yX2_firstOf, Cond.instanceMethod yX2_firstOf, Cond.selects RX2 yX2_firstOf yX2_firstOf, Cond.initialized RX2, Cond.code yX2_firstOf cX2_firstOf 2 (some .int), Cond.fieldLink RX2 19 "ViewStamps$Node" "size" "I", Cond.methodLink RX2 57 yX1_size, Cond.instanceMethod yX1_size, Cond.selects RX1 yX1_size yX1_size, Cond.initialized RX1, Cond.code yX1_size cX1_size 1 (some .int), Cond.fieldLink RX1 9 "ViewStamps$Log" "cells" "[I", Cond.methodLink RX2 96 yX2_write, Cond.instanceMethod yX2_write, Cond.selects RX2 yX2_write yX2_write, Cond.code yX2_write cX2_write 5 (some (.object "ViewStamps$Letter")), Cond.classLink RX2 36 RX0, Cond.instantiable RX0 8, Cond.initialized RX0, Cond.fieldLink RX2 15 "ViewStamps$Node" "number" "I", Cond.fieldLink RX2 29 "ViewStamps$Node" "empty" "LViewStamps$Log;"]
def wsX2_postOk_r2 : List Cond := [Cond.fieldLink RX2 62 "ViewStamps$Node" "sure" "I", Cond.methodLink RX2 197 yX0_init, Cond.instanceMethod yX0_init, Cond.code yX0_init cX0_init 8 none, Cond.methodLink RX0 3 objectInit, Cond.instanceMethod objectInit, Cond.code objectInit ⟨#[0xb1]⟩ 1 none, Cond.fieldLink RX0 9 "ViewStamps$Letter" "from" "I", Cond.fieldLink RX0 15 "ViewStamps$Letter" "to" "I", Cond.fieldLink RX0 18 "ViewStamps$Letter" "sort" "I", Cond.fieldLink RX0 21 "ViewStamps$Letter" "view" "I", Cond.fieldLink RX0 24 "ViewStamps$Letter" "log" "LViewStamps$Log;", Cond.fieldLink RX0 28 "ViewStamps$Letter" "sure" "I", Cond.fieldLink RX0 31 "ViewStamps$Letter" "count" "I", Cond.methodLink RX2 100 yX3_add, Cond.instanceMethod yX3_add, Cond.selects RX3 yX3_add yX3_add, Cond.initialized RX3, Cond.code yX3_add cX3_add 2 none, Cond.fieldLink RX3 17 "ViewStamps$Pool" "posted" "I", Cond.fieldLink RX3 11 "ViewStamps$Pool" "letters" "[LViewStamps$Letter;", Cond.fieldLink RX3 21 "ViewStamps$Pool" "lost" "I"]
def wsX2_postOk : List Cond := .code yX2_postOk cX2_postOk 1 none :: ((wsX2_postOk_r1 ++ wsX2_postOk_r2) ++ wsX20 ++ wsX10 ++ wsX00 ++ wsX30)
def wsX2_castVote_r1 : List Cond := [Cond.fieldLink RX2 78 "ViewStamps$Node" "voted" "Z", Cond.fieldLink RX2 51 "ViewStamps$Node" "view" "I", Cond.fieldLink RX2 54 "ViewStamps$Node" "lastView" "I", Cond.fieldLink RX2 38 "ViewStamps$Node" "votes" "[LViewStamps$Letter;", Cond.fieldLink RX2 15 "ViewStamps$Node" "number" "I", Cond.fieldLink RX2 25 "ViewStamps$Node" "pool" "LViewStamps$Pool;", Cond.methodLink RX2 184 yX2_firstOf, Cond.instanceMethod yX2_firstOf, Cond.selects RX2 yX2_firstOf yX2_firstOf, Cond.initialized RX2, Cond.code yX2_firstOf cX2_firstOf 2 (some .int), Cond.fieldLink RX2 19 "ViewStamps$Node" "size" "I", Cond.methodLink RX2 96 yX2_write, Cond.instanceMethod yX2_write, Cond.selects RX2 yX2_write yX2_write, Cond.code yX2_write cX2_write 5 (some (.object "ViewStamps$Letter")), Cond.classLink RX2 36 RX0, Cond.instantiable RX0 8, Cond.initialized RX0, Cond.fieldLink RX2 33 "ViewStamps$Node" "log" "LViewStamps$Log;", Cond.fieldLink RX2 29 "ViewStamps$Node" "empty" "LViewStamps$Log;", Cond.fieldLink RX2 62 "ViewStamps$Node" "sure" "I", Cond.methodLink RX2 197 yX0_init, Cond.instanceMethod yX0_init]
def wsX2_castVote_r2 : List Cond := [Cond.code yX0_init cX0_init 8 none, Cond.methodLink RX0 3 objectInit, Cond.instanceMethod objectInit, Cond.code objectInit ⟨#[0xb1]⟩ 1 none, Cond.fieldLink RX0 9 "ViewStamps$Letter" "from" "I", Cond.fieldLink RX0 15 "ViewStamps$Letter" "to" "I", Cond.fieldLink RX0 18 "ViewStamps$Letter" "sort" "I", Cond.fieldLink RX0 21 "ViewStamps$Letter" "view" "I", Cond.fieldLink RX0 24 "ViewStamps$Letter" "log" "LViewStamps$Log;", Cond.fieldLink RX0 28 "ViewStamps$Letter" "sure" "I", Cond.fieldLink RX0 31 "ViewStamps$Letter" "count" "I", Cond.methodLink RX2 82 yX2_isFirst, Cond.instanceMethod yX2_isFirst, Cond.selects RX2 yX2_isFirst yX2_isFirst, Cond.code yX2_isFirst cX2_isFirst 1 (some .boolean), Cond.methodLink RX2 100 yX3_add, Cond.instanceMethod yX3_add, Cond.selects RX3 yX3_add yX3_add, Cond.initialized RX3, Cond.code yX3_add cX3_add 2 none, Cond.fieldLink RX3 17 "ViewStamps$Pool" "posted" "I", Cond.fieldLink RX3 11 "ViewStamps$Pool" "letters" "[LViewStamps$Letter;", Cond.fieldLink RX3 21 "ViewStamps$Pool" "lost" "I"]
def wsX2_castVote : List Cond := .code yX2_castVote cX2_castVote 2 none :: ((wsX2_castVote_r1 ++ wsX2_castVote_r2) ++ wsX20 ++ wsX00 ++ wsX30)
def wsX2_postAgain_r1 : List Cond := [Cond.fieldLink RX2 48 "ViewStamps$Node" "status" "I", Cond.fieldLink RX2 19 "ViewStamps$Node" "size" "I", Cond.fieldLink RX2 78 "ViewStamps$Node" "voted" "Z", Cond.fieldLink RX2 119 "ViewStamps$Node" "nonce" "I", Cond.methodLink RX2 82 yX2_isFirst, Cond.instanceMethod yX2_isFirst, Cond.selects RX2 yX2_isFirst yX2_isFirst, Cond.initialized RX2, Cond.code yX2_isFirst cX2_isFirst 1 (some .boolean), Cond.fieldLink RX2 51 "ViewStamps$Node" "view" "I", Cond.fieldLink RX2 15 "ViewStamps$Node" "number" "I", Cond.methodLink RX2 184 yX2_firstOf, Cond.instanceMethod yX2_firstOf, Cond.selects RX2 yX2_firstOf yX2_firstOf, Cond.code yX2_firstOf cX2_firstOf 2 (some .int), Cond.methodLink RX2 113 yX2_postOk, Cond.instanceMethod yX2_postOk, Cond.selects RX2 yX2_postOk yX2_postOk, Cond.code yX2_postOk cX2_postOk 1 none, Cond.fieldLink RX2 25 "ViewStamps$Node" "pool" "LViewStamps$Pool;", Cond.fieldLink RX2 33 "ViewStamps$Node" "log" "LViewStamps$Log;", Cond.methodLink RX2 57 yX1_size, Cond.instanceMethod yX1_size, Cond.selects RX1 yX1_size yX1_size]
def wsX2_postAgain_r2 : List Cond := [Cond.initialized RX1, Cond.code yX1_size cX1_size 1 (some .int), Cond.fieldLink RX1 9 "ViewStamps$Log" "cells" "[I", Cond.methodLink RX2 96 yX2_write, Cond.instanceMethod yX2_write, Cond.selects RX2 yX2_write yX2_write, Cond.code yX2_write cX2_write 5 (some (.object "ViewStamps$Letter")), Cond.classLink RX2 36 RX0, Cond.instantiable RX0 8, Cond.initialized RX0, Cond.fieldLink RX2 29 "ViewStamps$Node" "empty" "LViewStamps$Log;", Cond.fieldLink RX2 62 "ViewStamps$Node" "sure" "I", Cond.methodLink RX2 197 yX0_init, Cond.instanceMethod yX0_init, Cond.code yX0_init cX0_init 8 none, Cond.methodLink RX0 3 objectInit, Cond.instanceMethod objectInit, Cond.code objectInit ⟨#[0xb1]⟩ 1 none, Cond.fieldLink RX0 9 "ViewStamps$Letter" "from" "I", Cond.fieldLink RX0 15 "ViewStamps$Letter" "to" "I", Cond.fieldLink RX0 18 "ViewStamps$Letter" "sort" "I", Cond.fieldLink RX0 21 "ViewStamps$Letter" "view" "I", Cond.fieldLink RX0 24 "ViewStamps$Letter" "log" "LViewStamps$Log;", Cond.fieldLink RX0 28 "ViewStamps$Letter" "sure" "I"]
def wsX2_postAgain_r3 : List Cond := [Cond.fieldLink RX0 31 "ViewStamps$Letter" "count" "I", Cond.methodLink RX2 100 yX3_add, Cond.instanceMethod yX3_add, Cond.selects RX3 yX3_add yX3_add, Cond.initialized RX3, Cond.code yX3_add cX3_add 2 none, Cond.fieldLink RX3 17 "ViewStamps$Pool" "posted" "I", Cond.fieldLink RX3 11 "ViewStamps$Pool" "letters" "[LViewStamps$Letter;", Cond.fieldLink RX3 21 "ViewStamps$Pool" "lost" "I", Cond.methodLink RX2 109 yX2_postToAll, Cond.instanceMethod yX2_postToAll, Cond.selects RX2 yX2_postToAll yX2_postToAll, Cond.code yX2_postToAll cX2_postToAll 4 none, Cond.methodLink RX2 116 yX2_castVote, Cond.instanceMethod yX2_castVote, Cond.selects RX2 yX2_castVote yX2_castVote, Cond.code yX2_castVote cX2_castVote 2 none, Cond.fieldLink RX2 54 "ViewStamps$Node" "lastView" "I", Cond.fieldLink RX2 38 "ViewStamps$Node" "votes" "[LViewStamps$Letter;"]
def wsX2_postAgain : List Cond := .code yX2_postAgain cX2_postAgain 1 (some .int) :: ((wsX2_postAgain_r1 ++ (wsX2_postAgain_r2 ++ wsX2_postAgain_r3)) ++ wsX20 ++ wsX10 ++ wsX00 ++ wsX30)
def wsX2_forgetTales : List Cond := .code yX2_forgetTales cX2_forgetTales 2 none :: ([.fieldLink RX2 19 "ViewStamps$Node" "size" "I", .fieldLink RX2 42 "ViewStamps$Node" "tales" "[LViewStamps$Letter;"] ++ wsX20)
def wsX2_loseAll_r1 : List Cond := [Cond.fieldLink RX2 48 "ViewStamps$Node" "status" "I", Cond.fieldLink RX2 51 "ViewStamps$Node" "view" "I", Cond.fieldLink RX2 54 "ViewStamps$Node" "lastView" "I", Cond.fieldLink RX2 62 "ViewStamps$Node" "sure" "I", Cond.fieldLink RX2 29 "ViewStamps$Node" "empty" "LViewStamps$Log;", Cond.fieldLink RX2 33 "ViewStamps$Node" "log" "LViewStamps$Log;", Cond.fieldLink RX2 119 "ViewStamps$Node" "nonce" "I", Cond.fieldLink RX2 45 "ViewStamps$Node" "told" "[I", Cond.methodLink RX2 106 yX2_forgetVotes, Cond.instanceMethod yX2_forgetVotes, Cond.selects RX2 yX2_forgetVotes yX2_forgetVotes, Cond.initialized RX2, Cond.code yX2_forgetVotes cX2_forgetVotes 2 none, Cond.fieldLink RX2 65 "ViewStamps$Node" "voters" "I", Cond.fieldLink RX2 78 "ViewStamps$Node" "voted" "Z", Cond.fieldLink RX2 19 "ViewStamps$Node" "size" "I", Cond.fieldLink RX2 38 "ViewStamps$Node" "votes" "[LViewStamps$Letter;", Cond.methodLink RX2 122 yX2_forgetTales, Cond.instanceMethod yX2_forgetTales, Cond.selects RX2 yX2_forgetTales yX2_forgetTales, Cond.code yX2_forgetTales cX2_forgetTales 2 none, Cond.fieldLink RX2 42 "ViewStamps$Node" "tales" "[LViewStamps$Letter;", Cond.methodLink RX2 86 yJ7_fill_53178, Cond.static yJ7_fill_53178]
def wsX2_loseAll_r2 : List Cond := [Cond.initialized RJ7, Cond.code yJ7_fill_53178 cJ7_fill_53178 4 none]
def wsX2_loseAll : List Cond := .code yX2_loseAll cX2_loseAll 1 none :: ((wsX2_loseAll_r1 ++ wsX2_loseAll_r2) ++ wsX20)
def wsX2_startRecovery_r1 : List Cond := [Cond.fieldLink RX2 48 "ViewStamps$Node" "status" "I", Cond.fieldLink RX2 119 "ViewStamps$Node" "nonce" "I", Cond.methodLink RX2 122 yX2_forgetTales, Cond.instanceMethod yX2_forgetTales, Cond.selects RX2 yX2_forgetTales yX2_forgetTales, Cond.initialized RX2, Cond.code yX2_forgetTales cX2_forgetTales 2 none, Cond.fieldLink RX2 19 "ViewStamps$Node" "size" "I", Cond.fieldLink RX2 42 "ViewStamps$Node" "tales" "[LViewStamps$Letter;", Cond.methodLink RX2 109 yX2_postToAll, Cond.instanceMethod yX2_postToAll, Cond.selects RX2 yX2_postToAll yX2_postToAll, Cond.code yX2_postToAll cX2_postToAll 4 none, Cond.fieldLink RX2 15 "ViewStamps$Node" "number" "I", Cond.fieldLink RX2 25 "ViewStamps$Node" "pool" "LViewStamps$Pool;", Cond.methodLink RX2 96 yX2_write, Cond.instanceMethod yX2_write, Cond.selects RX2 yX2_write yX2_write, Cond.code yX2_write cX2_write 5 (some (.object "ViewStamps$Letter")), Cond.classLink RX2 36 RX0, Cond.instantiable RX0 8, Cond.initialized RX0, Cond.fieldLink RX2 51 "ViewStamps$Node" "view" "I", Cond.fieldLink RX2 33 "ViewStamps$Node" "log" "LViewStamps$Log;"]
def wsX2_startRecovery_r2 : List Cond := [Cond.fieldLink RX2 29 "ViewStamps$Node" "empty" "LViewStamps$Log;", Cond.fieldLink RX2 62 "ViewStamps$Node" "sure" "I", Cond.methodLink RX2 197 yX0_init, Cond.instanceMethod yX0_init, Cond.code yX0_init cX0_init 8 none, Cond.methodLink RX0 3 objectInit, Cond.instanceMethod objectInit, Cond.code objectInit ⟨#[0xb1]⟩ 1 none, Cond.fieldLink RX0 9 "ViewStamps$Letter" "from" "I", Cond.fieldLink RX0 15 "ViewStamps$Letter" "to" "I", Cond.fieldLink RX0 18 "ViewStamps$Letter" "sort" "I", Cond.fieldLink RX0 21 "ViewStamps$Letter" "view" "I", Cond.fieldLink RX0 24 "ViewStamps$Letter" "log" "LViewStamps$Log;", Cond.fieldLink RX0 28 "ViewStamps$Letter" "sure" "I", Cond.fieldLink RX0 31 "ViewStamps$Letter" "count" "I", Cond.methodLink RX2 100 yX3_add, Cond.instanceMethod yX3_add, Cond.selects RX3 yX3_add yX3_add, Cond.initialized RX3, Cond.code yX3_add cX3_add 2 none, Cond.fieldLink RX3 17 "ViewStamps$Pool" "posted" "I", Cond.fieldLink RX3 11 "ViewStamps$Pool" "letters" "[LViewStamps$Letter;", Cond.fieldLink RX3 21 "ViewStamps$Pool" "lost" "I"]
def wsX2_startRecovery : List Cond := .code yX2_startRecovery cX2_startRecovery 2 none :: ((wsX2_startRecovery_r1 ++ wsX2_startRecovery_r2) ++ wsX20 ++ wsX00 ++ wsX30)
def wsX2_hearAsk_r1 : List Cond := [Cond.fieldLink RX2 48 "ViewStamps$Node" "status" "I", Cond.fieldLink RX2 25 "ViewStamps$Node" "pool" "LViewStamps$Pool;", Cond.fieldLink RX2 169 "ViewStamps$Letter" "from" "I", Cond.fieldLink RX2 172 "ViewStamps$Letter" "count" "I", Cond.methodLink RX2 96 yX2_write, Cond.instanceMethod yX2_write, Cond.selects RX2 yX2_write yX2_write, Cond.initialized RX2, Cond.code yX2_write cX2_write 5 (some (.object "ViewStamps$Letter")), Cond.classLink RX2 36 RX0, Cond.instantiable RX0 8, Cond.initialized RX0, Cond.fieldLink RX2 15 "ViewStamps$Node" "number" "I", Cond.fieldLink RX2 51 "ViewStamps$Node" "view" "I", Cond.fieldLink RX2 33 "ViewStamps$Node" "log" "LViewStamps$Log;", Cond.fieldLink RX2 29 "ViewStamps$Node" "empty" "LViewStamps$Log;", Cond.fieldLink RX2 62 "ViewStamps$Node" "sure" "I", Cond.methodLink RX2 197 yX0_init, Cond.instanceMethod yX0_init, Cond.code yX0_init cX0_init 8 none, Cond.methodLink RX0 3 objectInit, Cond.instanceMethod objectInit, Cond.code objectInit ⟨#[0xb1]⟩ 1 none, Cond.fieldLink RX0 9 "ViewStamps$Letter" "from" "I"]
def wsX2_hearAsk_r2 : List Cond := [Cond.fieldLink RX0 15 "ViewStamps$Letter" "to" "I", Cond.fieldLink RX0 18 "ViewStamps$Letter" "sort" "I", Cond.fieldLink RX0 21 "ViewStamps$Letter" "view" "I", Cond.fieldLink RX0 24 "ViewStamps$Letter" "log" "LViewStamps$Log;", Cond.fieldLink RX0 28 "ViewStamps$Letter" "sure" "I", Cond.fieldLink RX0 31 "ViewStamps$Letter" "count" "I", Cond.methodLink RX2 100 yX3_add, Cond.instanceMethod yX3_add, Cond.selects RX3 yX3_add yX3_add, Cond.initialized RX3, Cond.code yX3_add cX3_add 2 none, Cond.fieldLink RX3 17 "ViewStamps$Pool" "posted" "I", Cond.fieldLink RX3 11 "ViewStamps$Pool" "letters" "[LViewStamps$Letter;", Cond.fieldLink RX3 21 "ViewStamps$Pool" "lost" "I"]
def wsX2_hearAsk : List Cond := .code yX2_hearAsk cX2_hearAsk 2 (some .boolean) :: ((wsX2_hearAsk_r1 ++ wsX2_hearAsk_r2) ++ wsX20 ++ wsX00 ++ wsX30)
def wsX2_settleIn : List Cond := .code yX2_settleIn cX2_settleIn 2 none :: ([.fieldLink RX2 51 "ViewStamps$Node" "view" "I", .fieldLink RX2 54 "ViewStamps$Node" "lastView" "I", .fieldLink RX2 48 "ViewStamps$Node" "status" "I"] ++ wsX20)
def wsX2_believeFirst : List Cond := .code yX2_believeFirst cX2_believeFirst 6 none :: ([.fieldLink RX2 42 "ViewStamps$Node" "tales" "[LViewStamps$Letter;", .fieldLink RX2 138 "ViewStamps$Letter" "view" "I", .methodLink RX2 153 Lib.Math.max.name, .static Lib.Math.max.name, .initialized "java/lang/Math", .code Lib.Math.max.name Lib.Math.max.code 2 (some .int), .fieldLink RX2 151 "ViewStamps$Letter" "log" "LViewStamps$Log;", .fieldLink RX2 33 "ViewStamps$Node" "log" "LViewStamps$Log;", .fieldLink RX2 152 "ViewStamps$Letter" "sure" "I", .fieldLink RX2 62 "ViewStamps$Node" "sure" "I", .methodLink RX2 184 yX2_firstOf, .instanceMethod yX2_firstOf, .selects RX2 yX2_firstOf yX2_firstOf, .initialized RX2, .code yX2_firstOf cX2_firstOf 2 (some .int), .fieldLink RX2 19 "ViewStamps$Node" "size" "I", .methodLink RX2 162 yX2_settleIn, .instanceMethod yX2_settleIn, .selects RX2 yX2_settleIn yX2_settleIn, .code yX2_settleIn cX2_settleIn 2 none, .fieldLink RX2 51 "ViewStamps$Node" "view" "I", .fieldLink RX2 54 "ViewStamps$Node" "lastView" "I", .fieldLink RX2 48 "ViewStamps$Node" "status" "I"] ++ wsX20 ++ wsX00)
def wsX2_hearTell_r1 : List Cond := [Cond.fieldLink RX2 48 "ViewStamps$Node" "status" "I", Cond.fieldLink RX2 119 "ViewStamps$Node" "nonce" "I", Cond.fieldLink RX2 172 "ViewStamps$Letter" "count" "I", Cond.fieldLink RX2 42 "ViewStamps$Node" "tales" "[LViewStamps$Letter;", Cond.fieldLink RX2 169 "ViewStamps$Letter" "from" "I", Cond.fieldLink RX2 22 "ViewStamps$Node" "enough" "I", Cond.methodLink RX2 74 yX2_countLetters, Cond.static yX2_countLetters, Cond.initialized RX2, Cond.code yX2_countLetters cX2_countLetters 6 (some .int), Cond.methodLink RX2 187 yX2_believeFirst, Cond.instanceMethod yX2_believeFirst, Cond.selects RX2 yX2_believeFirst yX2_believeFirst, Cond.code yX2_believeFirst cX2_believeFirst 6 none, Cond.fieldLink RX2 138 "ViewStamps$Letter" "view" "I", Cond.methodLink RX2 153 Lib.Math.max.name, Cond.static Lib.Math.max.name, Cond.initialized "java/lang/Math", Cond.code Lib.Math.max.name Lib.Math.max.code 2 (some .int), Cond.fieldLink RX2 151 "ViewStamps$Letter" "log" "LViewStamps$Log;", Cond.fieldLink RX2 33 "ViewStamps$Node" "log" "LViewStamps$Log;", Cond.fieldLink RX2 152 "ViewStamps$Letter" "sure" "I", Cond.fieldLink RX2 62 "ViewStamps$Node" "sure" "I", Cond.methodLink RX2 184 yX2_firstOf]
def wsX2_hearTell_r2 : List Cond := [Cond.instanceMethod yX2_firstOf, Cond.selects RX2 yX2_firstOf yX2_firstOf, Cond.code yX2_firstOf cX2_firstOf 2 (some .int), Cond.fieldLink RX2 19 "ViewStamps$Node" "size" "I", Cond.methodLink RX2 162 yX2_settleIn, Cond.instanceMethod yX2_settleIn, Cond.selects RX2 yX2_settleIn yX2_settleIn, Cond.code yX2_settleIn cX2_settleIn 2 none, Cond.fieldLink RX2 51 "ViewStamps$Node" "view" "I", Cond.fieldLink RX2 54 "ViewStamps$Node" "lastView" "I"]
def wsX2_hearTell : List Cond := .code yX2_hearTell cX2_hearTell 2 (some .boolean) :: ((wsX2_hearTell_r1 ++ wsX2_hearTell_r2) ++ wsX20 ++ wsX00)
def wsX2_hearLog_r1 : List Cond := [Cond.fieldLink RX2 51 "ViewStamps$Node" "view" "I", Cond.fieldLink RX2 138 "ViewStamps$Letter" "view" "I", Cond.fieldLink RX2 48 "ViewStamps$Node" "status" "I", Cond.fieldLink RX2 151 "ViewStamps$Letter" "log" "LViewStamps$Log;", Cond.fieldLink RX2 33 "ViewStamps$Node" "log" "LViewStamps$Log;", Cond.fieldLink RX2 62 "ViewStamps$Node" "sure" "I", Cond.fieldLink RX2 152 "ViewStamps$Letter" "sure" "I", Cond.methodLink RX2 153 Lib.Math.max.name, Cond.static Lib.Math.max.name, Cond.initialized "java/lang/Math", Cond.code Lib.Math.max.name Lib.Math.max.code 2 (some .int), Cond.methodLink RX2 159 Lib.Math.min.name, Cond.static Lib.Math.min.name, Cond.code Lib.Math.min.name Lib.Math.min.code 2 (some .int), Cond.methodLink RX2 82 yX2_isFirst, Cond.instanceMethod yX2_isFirst, Cond.selects RX2 yX2_isFirst yX2_isFirst, Cond.initialized RX2, Cond.code yX2_isFirst cX2_isFirst 1 (some .boolean), Cond.fieldLink RX2 15 "ViewStamps$Node" "number" "I", Cond.methodLink RX2 184 yX2_firstOf, Cond.instanceMethod yX2_firstOf, Cond.selects RX2 yX2_firstOf yX2_firstOf, Cond.code yX2_firstOf cX2_firstOf 2 (some .int)]
def wsX2_hearLog_r2 : List Cond := [Cond.fieldLink RX2 19 "ViewStamps$Node" "size" "I", Cond.methodLink RX2 57 yX1_size, Cond.instanceMethod yX1_size, Cond.selects RX1 yX1_size yX1_size, Cond.initialized RX1, Cond.code yX1_size cX1_size 1 (some .int), Cond.fieldLink RX1 9 "ViewStamps$Log" "cells" "[I", Cond.methodLink RX2 162 yX2_settleIn, Cond.instanceMethod yX2_settleIn, Cond.selects RX2 yX2_settleIn yX2_settleIn, Cond.code yX2_settleIn cX2_settleIn 2 none, Cond.fieldLink RX2 54 "ViewStamps$Node" "lastView" "I", Cond.methodLink RX2 113 yX2_postOk, Cond.instanceMethod yX2_postOk, Cond.selects RX2 yX2_postOk yX2_postOk, Cond.code yX2_postOk cX2_postOk 1 none, Cond.fieldLink RX2 25 "ViewStamps$Node" "pool" "LViewStamps$Pool;", Cond.methodLink RX2 96 yX2_write, Cond.instanceMethod yX2_write, Cond.selects RX2 yX2_write yX2_write, Cond.code yX2_write cX2_write 5 (some (.object "ViewStamps$Letter")), Cond.classLink RX2 36 RX0, Cond.instantiable RX0 8, Cond.initialized RX0]
def wsX2_hearLog_r3 : List Cond := [Cond.fieldLink RX2 29 "ViewStamps$Node" "empty" "LViewStamps$Log;", Cond.methodLink RX2 197 yX0_init, Cond.instanceMethod yX0_init, Cond.code yX0_init cX0_init 8 none, Cond.methodLink RX0 3 objectInit, Cond.instanceMethod objectInit, Cond.code objectInit ⟨#[0xb1]⟩ 1 none, Cond.fieldLink RX0 9 "ViewStamps$Letter" "from" "I", Cond.fieldLink RX0 15 "ViewStamps$Letter" "to" "I", Cond.fieldLink RX0 18 "ViewStamps$Letter" "sort" "I", Cond.fieldLink RX0 21 "ViewStamps$Letter" "view" "I", Cond.fieldLink RX0 24 "ViewStamps$Letter" "log" "LViewStamps$Log;", Cond.fieldLink RX0 28 "ViewStamps$Letter" "sure" "I", Cond.fieldLink RX0 31 "ViewStamps$Letter" "count" "I", Cond.methodLink RX2 100 yX3_add, Cond.instanceMethod yX3_add, Cond.selects RX3 yX3_add yX3_add, Cond.initialized RX3, Cond.code yX3_add cX3_add 2 none, Cond.fieldLink RX3 17 "ViewStamps$Pool" "posted" "I", Cond.fieldLink RX3 11 "ViewStamps$Pool" "letters" "[LViewStamps$Letter;", Cond.fieldLink RX3 21 "ViewStamps$Pool" "lost" "I"]
def wsX2_hearLog : List Cond := .code yX2_hearLog cX2_hearLog 3 (some .boolean) :: ((wsX2_hearLog_r1 ++ (wsX2_hearLog_r2 ++ wsX2_hearLog_r3)) ++ wsX20 ++ wsX00 ++ wsX10 ++ wsX30)
def wsX2_countTold : List Cond := .code yX2_countTold cX2_countTold 7 (some .int) :: ([.fieldLink RX2 45 "ViewStamps$Node" "told" "[I"] ++ wsX20)
def wsX2_heldByEnough : List Cond := .code yX2_heldByEnough cX2_heldByEnough 6 (some .int) :: ([.fieldLink RX2 45 "ViewStamps$Node" "told" "[I", .fieldLink RX2 22 "ViewStamps$Node" "enough" "I", .methodLink RX2 194 yX2_countTold, .instanceMethod yX2_countTold, .selects RX2 yX2_countTold yX2_countTold, .initialized RX2, .code yX2_countTold cX2_countTold 7 (some .int)] ++ wsX20)
def wsX2_hearOk_r1 : List Cond := [Cond.fieldLink RX2 51 "ViewStamps$Node" "view" "I", Cond.fieldLink RX2 138 "ViewStamps$Letter" "view" "I", Cond.fieldLink RX2 45 "ViewStamps$Node" "told" "[I", Cond.fieldLink RX2 169 "ViewStamps$Letter" "from" "I", Cond.fieldLink RX2 172 "ViewStamps$Letter" "count" "I", Cond.methodLink RX2 153 Lib.Math.max.name, Cond.static Lib.Math.max.name, Cond.initialized "java/lang/Math", Cond.code Lib.Math.max.name Lib.Math.max.code 2 (some .int), Cond.fieldLink RX2 62 "ViewStamps$Node" "sure" "I", Cond.fieldLink RX2 33 "ViewStamps$Node" "log" "LViewStamps$Log;", Cond.methodLink RX2 159 Lib.Math.min.name, Cond.static Lib.Math.min.name, Cond.code Lib.Math.min.name Lib.Math.min.code 2 (some .int), Cond.methodLink RX2 166 yX2_leads, Cond.instanceMethod yX2_leads, Cond.selects RX2 yX2_leads yX2_leads, Cond.initialized RX2, Cond.code yX2_leads cX2_leads 1 (some .boolean), Cond.fieldLink RX2 48 "ViewStamps$Node" "status" "I", Cond.methodLink RX2 82 yX2_isFirst, Cond.instanceMethod yX2_isFirst, Cond.selects RX2 yX2_isFirst yX2_isFirst, Cond.code yX2_isFirst cX2_isFirst 1 (some .boolean)]
def wsX2_hearOk_r2 : List Cond := [Cond.fieldLink RX2 15 "ViewStamps$Node" "number" "I", Cond.methodLink RX2 184 yX2_firstOf, Cond.instanceMethod yX2_firstOf, Cond.selects RX2 yX2_firstOf yX2_firstOf, Cond.code yX2_firstOf cX2_firstOf 2 (some .int), Cond.fieldLink RX2 19 "ViewStamps$Node" "size" "I", Cond.methodLink RX2 175 yX2_heldByEnough, Cond.instanceMethod yX2_heldByEnough, Cond.selects RX2 yX2_heldByEnough yX2_heldByEnough, Cond.code yX2_heldByEnough cX2_heldByEnough 6 (some .int), Cond.fieldLink RX2 22 "ViewStamps$Node" "enough" "I", Cond.methodLink RX2 194 yX2_countTold, Cond.instanceMethod yX2_countTold, Cond.selects RX2 yX2_countTold yX2_countTold, Cond.code yX2_countTold cX2_countTold 7 (some .int), Cond.methodLink RX2 57 yX1_size, Cond.instanceMethod yX1_size, Cond.selects RX1 yX1_size yX1_size, Cond.initialized RX1, Cond.code yX1_size cX1_size 1 (some .int), Cond.fieldLink RX1 9 "ViewStamps$Log" "cells" "[I"]
def wsX2_hearOk : List Cond := .code yX2_hearOk cX2_hearOk 2 (some .boolean) :: ((wsX2_hearOk_r1 ++ wsX2_hearOk_r2) ++ wsX20 ++ wsX00 ++ wsX10)
def wsX2_isAhead : List Cond := .code yX2_isAhead cX2_isAhead 2 (some .boolean) :: ([.fieldLink RX2 172 "ViewStamps$Letter" "count" "I", .fieldLink RX2 151 "ViewStamps$Letter" "log" "LViewStamps$Log;", .methodLink RX2 57 yX1_size, .instanceMethod yX1_size, .selects RX1 yX1_size yX1_size, .initialized RX1, .code yX1_size cX1_size 1 (some .int), .fieldLink RX1 9 "ViewStamps$Log" "cells" "[I"] ++ wsX00 ++ wsX10)
def wsX2_leadIfElected_r1 : List Cond := [Cond.fieldLink RX2 38 "ViewStamps$Node" "votes" "[LViewStamps$Letter;", Cond.fieldLink RX2 15 "ViewStamps$Node" "number" "I", Cond.fieldLink RX2 22 "ViewStamps$Node" "enough" "I", Cond.fieldLink RX2 152 "ViewStamps$Letter" "sure" "I", Cond.methodLink RX2 153 Lib.Math.max.name, Cond.static Lib.Math.max.name, Cond.initialized "java/lang/Math", Cond.code Lib.Math.max.name Lib.Math.max.code 2 (some .int), Cond.fieldLink RX2 151 "ViewStamps$Letter" "log" "LViewStamps$Log;", Cond.fieldLink RX2 33 "ViewStamps$Node" "log" "LViewStamps$Log;", Cond.methodLink RX2 159 Lib.Math.min.name, Cond.static Lib.Math.min.name, Cond.code Lib.Math.min.name Lib.Math.min.code 2 (some .int), Cond.fieldLink RX2 62 "ViewStamps$Node" "sure" "I", Cond.fieldLink RX2 51 "ViewStamps$Node" "view" "I", Cond.fieldLink RX2 45 "ViewStamps$Node" "told" "[I", Cond.methodLink RX2 74 yX2_countLetters, Cond.static yX2_countLetters, Cond.initialized RX2, Cond.code yX2_countLetters cX2_countLetters 6 (some .int), Cond.methodLink RX2 190 yX2_isAhead, Cond.static yX2_isAhead, Cond.code yX2_isAhead cX2_isAhead 2 (some .boolean), Cond.fieldLink RX2 172 "ViewStamps$Letter" "count" "I"]
def wsX2_leadIfElected_r2 : List Cond := [Cond.methodLink RX2 57 yX1_size, Cond.instanceMethod yX1_size, Cond.selects RX1 yX1_size yX1_size, Cond.initialized RX1, Cond.code yX1_size cX1_size 1 (some .int), Cond.fieldLink RX1 9 "ViewStamps$Log" "cells" "[I", Cond.methodLink RX2 162 yX2_settleIn, Cond.instanceMethod yX2_settleIn, Cond.selects RX2 yX2_settleIn yX2_settleIn, Cond.code yX2_settleIn cX2_settleIn 2 none, Cond.fieldLink RX2 54 "ViewStamps$Node" "lastView" "I", Cond.fieldLink RX2 48 "ViewStamps$Node" "status" "I", Cond.methodLink RX2 86 yJ7_fill_53178, Cond.static yJ7_fill_53178, Cond.initialized RJ7, Cond.code yJ7_fill_53178 cJ7_fill_53178 4 none, Cond.methodLink RX2 109 yX2_postToAll, Cond.instanceMethod yX2_postToAll, Cond.selects RX2 yX2_postToAll yX2_postToAll, Cond.code yX2_postToAll cX2_postToAll 4 none, Cond.fieldLink RX2 19 "ViewStamps$Node" "size" "I", Cond.fieldLink RX2 25 "ViewStamps$Node" "pool" "LViewStamps$Pool;", Cond.methodLink RX2 96 yX2_write, Cond.instanceMethod yX2_write]
def wsX2_leadIfElected_r3 : List Cond := [Cond.selects RX2 yX2_write yX2_write, Cond.code yX2_write cX2_write 5 (some (.object "ViewStamps$Letter")), Cond.classLink RX2 36 RX0, Cond.instantiable RX0 8, Cond.initialized RX0, Cond.fieldLink RX2 29 "ViewStamps$Node" "empty" "LViewStamps$Log;", Cond.methodLink RX2 197 yX0_init, Cond.instanceMethod yX0_init, Cond.code yX0_init cX0_init 8 none, Cond.methodLink RX0 3 objectInit, Cond.instanceMethod objectInit, Cond.code objectInit ⟨#[0xb1]⟩ 1 none, Cond.fieldLink RX0 9 "ViewStamps$Letter" "from" "I", Cond.fieldLink RX0 15 "ViewStamps$Letter" "to" "I", Cond.fieldLink RX0 18 "ViewStamps$Letter" "sort" "I", Cond.fieldLink RX0 21 "ViewStamps$Letter" "view" "I", Cond.fieldLink RX0 24 "ViewStamps$Letter" "log" "LViewStamps$Log;", Cond.fieldLink RX0 28 "ViewStamps$Letter" "sure" "I", Cond.fieldLink RX0 31 "ViewStamps$Letter" "count" "I", Cond.methodLink RX2 100 yX3_add, Cond.instanceMethod yX3_add, Cond.selects RX3 yX3_add yX3_add, Cond.initialized RX3, Cond.code yX3_add cX3_add 2 none]
def wsX2_leadIfElected_r4 : List Cond := [Cond.fieldLink RX3 17 "ViewStamps$Pool" "posted" "I", Cond.fieldLink RX3 11 "ViewStamps$Pool" "letters" "[LViewStamps$Letter;", Cond.fieldLink RX3 21 "ViewStamps$Pool" "lost" "I"]
def wsX2_leadIfElected : List Cond := .code yX2_leadIfElected cX2_leadIfElected 7 none :: ((wsX2_leadIfElected_r1 ++ (wsX2_leadIfElected_r2 ++ (wsX2_leadIfElected_r3 ++ wsX2_leadIfElected_r4))) ++ wsX20 ++ wsX00 ++ wsX10 ++ wsX30)
def wsX2_hearChange_r1 : List Cond := [Cond.fieldLink RX2 51 "ViewStamps$Node" "view" "I", Cond.fieldLink RX2 138 "ViewStamps$Letter" "view" "I", Cond.fieldLink RX2 169 "ViewStamps$Letter" "from" "I", Cond.fieldLink RX2 48 "ViewStamps$Node" "status" "I", Cond.fieldLink RX2 65 "ViewStamps$Node" "voters" "I", Cond.fieldLink RX2 78 "ViewStamps$Node" "voted" "Z", Cond.fieldLink RX2 22 "ViewStamps$Node" "enough" "I", Cond.methodLink RX2 178 yX2_changeTo, Cond.instanceMethod yX2_changeTo, Cond.selects RX2 yX2_changeTo yX2_changeTo, Cond.initialized RX2, Cond.code yX2_changeTo cX2_changeTo 2 none, Cond.methodLink RX2 106 yX2_forgetVotes, Cond.instanceMethod yX2_forgetVotes, Cond.selects RX2 yX2_forgetVotes yX2_forgetVotes, Cond.code yX2_forgetVotes cX2_forgetVotes 2 none, Cond.fieldLink RX2 19 "ViewStamps$Node" "size" "I", Cond.fieldLink RX2 38 "ViewStamps$Node" "votes" "[LViewStamps$Letter;", Cond.methodLink RX2 109 yX2_postToAll, Cond.instanceMethod yX2_postToAll, Cond.selects RX2 yX2_postToAll yX2_postToAll, Cond.code yX2_postToAll cX2_postToAll 4 none, Cond.fieldLink RX2 15 "ViewStamps$Node" "number" "I", Cond.fieldLink RX2 25 "ViewStamps$Node" "pool" "LViewStamps$Pool;"]
def wsX2_hearChange_r2 : List Cond := [Cond.methodLink RX2 96 yX2_write, Cond.instanceMethod yX2_write, Cond.selects RX2 yX2_write yX2_write, Cond.code yX2_write cX2_write 5 (some (.object "ViewStamps$Letter")), Cond.classLink RX2 36 RX0, Cond.instantiable RX0 8, Cond.initialized RX0, Cond.fieldLink RX2 33 "ViewStamps$Node" "log" "LViewStamps$Log;", Cond.fieldLink RX2 29 "ViewStamps$Node" "empty" "LViewStamps$Log;", Cond.fieldLink RX2 62 "ViewStamps$Node" "sure" "I", Cond.methodLink RX2 197 yX0_init, Cond.instanceMethod yX0_init, Cond.code yX0_init cX0_init 8 none, Cond.methodLink RX0 3 objectInit, Cond.instanceMethod objectInit, Cond.code objectInit ⟨#[0xb1]⟩ 1 none, Cond.fieldLink RX0 9 "ViewStamps$Letter" "from" "I", Cond.fieldLink RX0 15 "ViewStamps$Letter" "to" "I", Cond.fieldLink RX0 18 "ViewStamps$Letter" "sort" "I", Cond.fieldLink RX0 21 "ViewStamps$Letter" "view" "I", Cond.fieldLink RX0 24 "ViewStamps$Letter" "log" "LViewStamps$Log;", Cond.fieldLink RX0 28 "ViewStamps$Letter" "sure" "I", Cond.fieldLink RX0 31 "ViewStamps$Letter" "count" "I", Cond.methodLink RX2 100 yX3_add]
def wsX2_hearChange_r3 : List Cond := [Cond.instanceMethod yX3_add, Cond.selects RX3 yX3_add yX3_add, Cond.initialized RX3, Cond.code yX3_add cX3_add 2 none, Cond.fieldLink RX3 17 "ViewStamps$Pool" "posted" "I", Cond.fieldLink RX3 11 "ViewStamps$Pool" "letters" "[LViewStamps$Letter;", Cond.fieldLink RX3 21 "ViewStamps$Pool" "lost" "I", Cond.methodLink RX2 68 yJ6_bitCount_0f7a4, Cond.static yJ6_bitCount_0f7a4, Cond.initialized RJ6, Cond.code yJ6_bitCount_0f7a4 cJ6_bitCount_0f7a4 1 (some .int), Cond.constant RJ6 265 (1431655765), Cond.constant RJ6 266 (858993459), Cond.constant RJ6 267 (252645135), Cond.methodLink RX2 116 yX2_castVote, Cond.instanceMethod yX2_castVote, Cond.selects RX2 yX2_castVote yX2_castVote, Cond.code yX2_castVote cX2_castVote 2 none, Cond.fieldLink RX2 54 "ViewStamps$Node" "lastView" "I", Cond.methodLink RX2 184 yX2_firstOf, Cond.instanceMethod yX2_firstOf, Cond.selects RX2 yX2_firstOf yX2_firstOf, Cond.code yX2_firstOf cX2_firstOf 2 (some .int), Cond.methodLink RX2 82 yX2_isFirst]
def wsX2_hearChange_r4 : List Cond := [Cond.instanceMethod yX2_isFirst, Cond.selects RX2 yX2_isFirst yX2_isFirst, Cond.code yX2_isFirst cX2_isFirst 1 (some .boolean), Cond.methodLink RX2 181 yX2_leadIfElected, Cond.instanceMethod yX2_leadIfElected, Cond.selects RX2 yX2_leadIfElected yX2_leadIfElected, Cond.code yX2_leadIfElected cX2_leadIfElected 7 none, Cond.fieldLink RX2 152 "ViewStamps$Letter" "sure" "I", Cond.methodLink RX2 153 Lib.Math.max.name, Cond.static Lib.Math.max.name, Cond.initialized "java/lang/Math", Cond.code Lib.Math.max.name Lib.Math.max.code 2 (some .int), Cond.fieldLink RX2 151 "ViewStamps$Letter" "log" "LViewStamps$Log;", Cond.methodLink RX2 159 Lib.Math.min.name, Cond.static Lib.Math.min.name, Cond.code Lib.Math.min.name Lib.Math.min.code 2 (some .int), Cond.fieldLink RX2 45 "ViewStamps$Node" "told" "[I", Cond.methodLink RX2 74 yX2_countLetters, Cond.static yX2_countLetters, Cond.code yX2_countLetters cX2_countLetters 6 (some .int), Cond.methodLink RX2 190 yX2_isAhead, Cond.static yX2_isAhead, Cond.code yX2_isAhead cX2_isAhead 2 (some .boolean), Cond.fieldLink RX2 172 "ViewStamps$Letter" "count" "I"]
def wsX2_hearChange_r5 : List Cond := [Cond.methodLink RX2 57 yX1_size, Cond.instanceMethod yX1_size, Cond.selects RX1 yX1_size yX1_size, Cond.initialized RX1, Cond.code yX1_size cX1_size 1 (some .int), Cond.fieldLink RX1 9 "ViewStamps$Log" "cells" "[I", Cond.methodLink RX2 162 yX2_settleIn, Cond.instanceMethod yX2_settleIn, Cond.selects RX2 yX2_settleIn yX2_settleIn, Cond.code yX2_settleIn cX2_settleIn 2 none, Cond.methodLink RX2 86 yJ7_fill_53178, Cond.static yJ7_fill_53178, Cond.initialized RJ7, Cond.code yJ7_fill_53178 cJ7_fill_53178 4 none]
def wsX2_hearChange : List Cond := .code yX2_hearChange cX2_hearChange 3 (some .boolean) :: ((wsX2_hearChange_r1 ++ (wsX2_hearChange_r2 ++ (wsX2_hearChange_r3 ++ (wsX2_hearChange_r4 ++ wsX2_hearChange_r5)))) ++ wsX20 ++ wsX00 ++ wsX30 ++ wsX10)
def wsX2_hearVote_r1 : List Cond := [Cond.fieldLink RX2 138 "ViewStamps$Letter" "view" "I", Cond.fieldLink RX2 15 "ViewStamps$Node" "number" "I", Cond.fieldLink RX2 51 "ViewStamps$Node" "view" "I", Cond.fieldLink RX2 48 "ViewStamps$Node" "status" "I", Cond.fieldLink RX2 38 "ViewStamps$Node" "votes" "[LViewStamps$Letter;", Cond.fieldLink RX2 169 "ViewStamps$Letter" "from" "I", Cond.methodLink RX2 184 yX2_firstOf, Cond.instanceMethod yX2_firstOf, Cond.selects RX2 yX2_firstOf yX2_firstOf, Cond.initialized RX2, Cond.code yX2_firstOf cX2_firstOf 2 (some .int), Cond.fieldLink RX2 19 "ViewStamps$Node" "size" "I", Cond.methodLink RX2 178 yX2_changeTo, Cond.instanceMethod yX2_changeTo, Cond.selects RX2 yX2_changeTo yX2_changeTo, Cond.code yX2_changeTo cX2_changeTo 2 none, Cond.methodLink RX2 106 yX2_forgetVotes, Cond.instanceMethod yX2_forgetVotes, Cond.selects RX2 yX2_forgetVotes yX2_forgetVotes, Cond.code yX2_forgetVotes cX2_forgetVotes 2 none, Cond.fieldLink RX2 65 "ViewStamps$Node" "voters" "I", Cond.fieldLink RX2 78 "ViewStamps$Node" "voted" "Z", Cond.methodLink RX2 109 yX2_postToAll, Cond.instanceMethod yX2_postToAll]
def wsX2_hearVote_r2 : List Cond := [Cond.selects RX2 yX2_postToAll yX2_postToAll, Cond.code yX2_postToAll cX2_postToAll 4 none, Cond.fieldLink RX2 25 "ViewStamps$Node" "pool" "LViewStamps$Pool;", Cond.methodLink RX2 96 yX2_write, Cond.instanceMethod yX2_write, Cond.selects RX2 yX2_write yX2_write, Cond.code yX2_write cX2_write 5 (some (.object "ViewStamps$Letter")), Cond.classLink RX2 36 RX0, Cond.instantiable RX0 8, Cond.initialized RX0, Cond.fieldLink RX2 33 "ViewStamps$Node" "log" "LViewStamps$Log;", Cond.fieldLink RX2 29 "ViewStamps$Node" "empty" "LViewStamps$Log;", Cond.fieldLink RX2 62 "ViewStamps$Node" "sure" "I", Cond.methodLink RX2 197 yX0_init, Cond.instanceMethod yX0_init, Cond.code yX0_init cX0_init 8 none, Cond.methodLink RX0 3 objectInit, Cond.instanceMethod objectInit, Cond.code objectInit ⟨#[0xb1]⟩ 1 none, Cond.fieldLink RX0 9 "ViewStamps$Letter" "from" "I", Cond.fieldLink RX0 15 "ViewStamps$Letter" "to" "I", Cond.fieldLink RX0 18 "ViewStamps$Letter" "sort" "I", Cond.fieldLink RX0 21 "ViewStamps$Letter" "view" "I", Cond.fieldLink RX0 24 "ViewStamps$Letter" "log" "LViewStamps$Log;"]
def wsX2_hearVote_r3 : List Cond := [Cond.fieldLink RX0 28 "ViewStamps$Letter" "sure" "I", Cond.fieldLink RX0 31 "ViewStamps$Letter" "count" "I", Cond.methodLink RX2 100 yX3_add, Cond.instanceMethod yX3_add, Cond.selects RX3 yX3_add yX3_add, Cond.initialized RX3, Cond.code yX3_add cX3_add 2 none, Cond.fieldLink RX3 17 "ViewStamps$Pool" "posted" "I", Cond.fieldLink RX3 11 "ViewStamps$Pool" "letters" "[LViewStamps$Letter;", Cond.fieldLink RX3 21 "ViewStamps$Pool" "lost" "I", Cond.methodLink RX2 181 yX2_leadIfElected, Cond.instanceMethod yX2_leadIfElected, Cond.selects RX2 yX2_leadIfElected yX2_leadIfElected, Cond.code yX2_leadIfElected cX2_leadIfElected 7 none, Cond.fieldLink RX2 22 "ViewStamps$Node" "enough" "I", Cond.fieldLink RX2 152 "ViewStamps$Letter" "sure" "I", Cond.methodLink RX2 153 Lib.Math.max.name, Cond.static Lib.Math.max.name, Cond.initialized "java/lang/Math", Cond.code Lib.Math.max.name Lib.Math.max.code 2 (some .int), Cond.fieldLink RX2 151 "ViewStamps$Letter" "log" "LViewStamps$Log;", Cond.methodLink RX2 159 Lib.Math.min.name, Cond.static Lib.Math.min.name, Cond.code Lib.Math.min.name Lib.Math.min.code 2 (some .int)]
def wsX2_hearVote_r4 : List Cond := [Cond.fieldLink RX2 45 "ViewStamps$Node" "told" "[I", Cond.methodLink RX2 74 yX2_countLetters, Cond.static yX2_countLetters, Cond.code yX2_countLetters cX2_countLetters 6 (some .int), Cond.methodLink RX2 190 yX2_isAhead, Cond.static yX2_isAhead, Cond.code yX2_isAhead cX2_isAhead 2 (some .boolean), Cond.fieldLink RX2 172 "ViewStamps$Letter" "count" "I", Cond.methodLink RX2 57 yX1_size, Cond.instanceMethod yX1_size, Cond.selects RX1 yX1_size yX1_size, Cond.initialized RX1, Cond.code yX1_size cX1_size 1 (some .int), Cond.fieldLink RX1 9 "ViewStamps$Log" "cells" "[I", Cond.methodLink RX2 162 yX2_settleIn, Cond.instanceMethod yX2_settleIn, Cond.selects RX2 yX2_settleIn yX2_settleIn, Cond.code yX2_settleIn cX2_settleIn 2 none, Cond.fieldLink RX2 54 "ViewStamps$Node" "lastView" "I", Cond.methodLink RX2 86 yJ7_fill_53178, Cond.static yJ7_fill_53178, Cond.initialized RJ7, Cond.code yJ7_fill_53178 cJ7_fill_53178 4 none]
def wsX2_hearVote : List Cond := .code yX2_hearVote cX2_hearVote 2 (some .boolean) :: ((wsX2_hearVote_r1 ++ (wsX2_hearVote_r2 ++ (wsX2_hearVote_r3 ++ wsX2_hearVote_r4))) ++ wsX00 ++ wsX20 ++ wsX30 ++ wsX10)
def wsX2_hear_r1 : List Cond := [Cond.fieldLink RX2 125 "ViewStamps$Letter" "sort" "I", Cond.fieldLink RX2 51 "ViewStamps$Node" "view" "I", Cond.fieldLink RX2 138 "ViewStamps$Letter" "view" "I", Cond.methodLink RX2 128 yX2_hearAsk, Cond.instanceMethod yX2_hearAsk, Cond.selects RX2 yX2_hearAsk yX2_hearAsk, Cond.initialized RX2, Cond.code yX2_hearAsk cX2_hearAsk 2 (some .boolean), Cond.fieldLink RX2 48 "ViewStamps$Node" "status" "I", Cond.fieldLink RX2 25 "ViewStamps$Node" "pool" "LViewStamps$Pool;", Cond.fieldLink RX2 169 "ViewStamps$Letter" "from" "I", Cond.fieldLink RX2 172 "ViewStamps$Letter" "count" "I", Cond.methodLink RX2 96 yX2_write, Cond.instanceMethod yX2_write, Cond.selects RX2 yX2_write yX2_write, Cond.code yX2_write cX2_write 5 (some (.object "ViewStamps$Letter")), Cond.classLink RX2 36 RX0, Cond.instantiable RX0 8, Cond.initialized RX0, Cond.fieldLink RX2 15 "ViewStamps$Node" "number" "I", Cond.fieldLink RX2 33 "ViewStamps$Node" "log" "LViewStamps$Log;", Cond.fieldLink RX2 29 "ViewStamps$Node" "empty" "LViewStamps$Log;", Cond.fieldLink RX2 62 "ViewStamps$Node" "sure" "I", Cond.methodLink RX2 197 yX0_init]
def wsX2_hear_r2 : List Cond := [Cond.instanceMethod yX0_init, Cond.code yX0_init cX0_init 8 none, Cond.methodLink RX0 3 objectInit, Cond.instanceMethod objectInit, Cond.code objectInit ⟨#[0xb1]⟩ 1 none, Cond.fieldLink RX0 9 "ViewStamps$Letter" "from" "I", Cond.fieldLink RX0 15 "ViewStamps$Letter" "to" "I", Cond.fieldLink RX0 18 "ViewStamps$Letter" "sort" "I", Cond.fieldLink RX0 21 "ViewStamps$Letter" "view" "I", Cond.fieldLink RX0 24 "ViewStamps$Letter" "log" "LViewStamps$Log;", Cond.fieldLink RX0 28 "ViewStamps$Letter" "sure" "I", Cond.fieldLink RX0 31 "ViewStamps$Letter" "count" "I", Cond.methodLink RX2 100 yX3_add, Cond.instanceMethod yX3_add, Cond.selects RX3 yX3_add yX3_add, Cond.initialized RX3, Cond.code yX3_add cX3_add 2 none, Cond.fieldLink RX3 17 "ViewStamps$Pool" "posted" "I", Cond.fieldLink RX3 11 "ViewStamps$Pool" "letters" "[LViewStamps$Letter;", Cond.fieldLink RX3 21 "ViewStamps$Pool" "lost" "I", Cond.methodLink RX2 132 yX2_hearTell, Cond.instanceMethod yX2_hearTell, Cond.selects RX2 yX2_hearTell yX2_hearTell, Cond.code yX2_hearTell cX2_hearTell 2 (some .boolean)]
def wsX2_hear_r3 : List Cond := [Cond.fieldLink RX2 119 "ViewStamps$Node" "nonce" "I", Cond.fieldLink RX2 42 "ViewStamps$Node" "tales" "[LViewStamps$Letter;", Cond.fieldLink RX2 22 "ViewStamps$Node" "enough" "I", Cond.methodLink RX2 74 yX2_countLetters, Cond.static yX2_countLetters, Cond.code yX2_countLetters cX2_countLetters 6 (some .int), Cond.methodLink RX2 187 yX2_believeFirst, Cond.instanceMethod yX2_believeFirst, Cond.selects RX2 yX2_believeFirst yX2_believeFirst, Cond.code yX2_believeFirst cX2_believeFirst 6 none, Cond.methodLink RX2 153 Lib.Math.max.name, Cond.static Lib.Math.max.name, Cond.initialized "java/lang/Math", Cond.code Lib.Math.max.name Lib.Math.max.code 2 (some .int), Cond.fieldLink RX2 151 "ViewStamps$Letter" "log" "LViewStamps$Log;", Cond.fieldLink RX2 152 "ViewStamps$Letter" "sure" "I", Cond.methodLink RX2 184 yX2_firstOf, Cond.instanceMethod yX2_firstOf, Cond.selects RX2 yX2_firstOf yX2_firstOf, Cond.code yX2_firstOf cX2_firstOf 2 (some .int), Cond.fieldLink RX2 19 "ViewStamps$Node" "size" "I", Cond.methodLink RX2 162 yX2_settleIn, Cond.instanceMethod yX2_settleIn, Cond.selects RX2 yX2_settleIn yX2_settleIn]
def wsX2_hear_r4 : List Cond := [Cond.code yX2_settleIn cX2_settleIn 2 none, Cond.fieldLink RX2 54 "ViewStamps$Node" "lastView" "I", Cond.methodLink RX2 135 yX2_isDown, Cond.instanceMethod yX2_isDown, Cond.selects RX2 yX2_isDown yX2_isDown, Cond.code yX2_isDown cX2_isDown 1 (some .boolean), Cond.methodLink RX2 139 yX2_hearLog, Cond.instanceMethod yX2_hearLog, Cond.selects RX2 yX2_hearLog yX2_hearLog, Cond.code yX2_hearLog cX2_hearLog 3 (some .boolean), Cond.methodLink RX2 159 Lib.Math.min.name, Cond.static Lib.Math.min.name, Cond.code Lib.Math.min.name Lib.Math.min.code 2 (some .int), Cond.methodLink RX2 82 yX2_isFirst, Cond.instanceMethod yX2_isFirst, Cond.selects RX2 yX2_isFirst yX2_isFirst, Cond.code yX2_isFirst cX2_isFirst 1 (some .boolean), Cond.methodLink RX2 57 yX1_size, Cond.instanceMethod yX1_size, Cond.selects RX1 yX1_size yX1_size, Cond.initialized RX1, Cond.code yX1_size cX1_size 1 (some .int), Cond.fieldLink RX1 9 "ViewStamps$Log" "cells" "[I", Cond.methodLink RX2 113 yX2_postOk]
def wsX2_hear_r5 : List Cond := [Cond.instanceMethod yX2_postOk, Cond.selects RX2 yX2_postOk yX2_postOk, Cond.code yX2_postOk cX2_postOk 1 none, Cond.methodLink RX2 142 yX2_hearOk, Cond.instanceMethod yX2_hearOk, Cond.selects RX2 yX2_hearOk yX2_hearOk, Cond.code yX2_hearOk cX2_hearOk 2 (some .boolean), Cond.fieldLink RX2 45 "ViewStamps$Node" "told" "[I", Cond.methodLink RX2 166 yX2_leads, Cond.instanceMethod yX2_leads, Cond.selects RX2 yX2_leads yX2_leads, Cond.code yX2_leads cX2_leads 1 (some .boolean), Cond.methodLink RX2 175 yX2_heldByEnough, Cond.instanceMethod yX2_heldByEnough, Cond.selects RX2 yX2_heldByEnough yX2_heldByEnough, Cond.code yX2_heldByEnough cX2_heldByEnough 6 (some .int), Cond.methodLink RX2 194 yX2_countTold, Cond.instanceMethod yX2_countTold, Cond.selects RX2 yX2_countTold yX2_countTold, Cond.code yX2_countTold cX2_countTold 7 (some .int), Cond.methodLink RX2 145 yX2_hearChange, Cond.instanceMethod yX2_hearChange, Cond.selects RX2 yX2_hearChange yX2_hearChange, Cond.code yX2_hearChange cX2_hearChange 3 (some .boolean)]
def wsX2_hear_r6 : List Cond := [Cond.fieldLink RX2 65 "ViewStamps$Node" "voters" "I", Cond.fieldLink RX2 78 "ViewStamps$Node" "voted" "Z", Cond.methodLink RX2 178 yX2_changeTo, Cond.instanceMethod yX2_changeTo, Cond.selects RX2 yX2_changeTo yX2_changeTo, Cond.code yX2_changeTo cX2_changeTo 2 none, Cond.methodLink RX2 106 yX2_forgetVotes, Cond.instanceMethod yX2_forgetVotes, Cond.selects RX2 yX2_forgetVotes yX2_forgetVotes, Cond.code yX2_forgetVotes cX2_forgetVotes 2 none, Cond.fieldLink RX2 38 "ViewStamps$Node" "votes" "[LViewStamps$Letter;", Cond.methodLink RX2 109 yX2_postToAll, Cond.instanceMethod yX2_postToAll, Cond.selects RX2 yX2_postToAll yX2_postToAll, Cond.code yX2_postToAll cX2_postToAll 4 none, Cond.methodLink RX2 68 yJ6_bitCount_0f7a4, Cond.static yJ6_bitCount_0f7a4, Cond.initialized RJ6, Cond.code yJ6_bitCount_0f7a4 cJ6_bitCount_0f7a4 1 (some .int), Cond.constant RJ6 265 (1431655765), Cond.constant RJ6 266 (858993459), Cond.constant RJ6 267 (252645135), Cond.methodLink RX2 116 yX2_castVote, Cond.instanceMethod yX2_castVote]
def wsX2_hear_r7 : List Cond := [Cond.selects RX2 yX2_castVote yX2_castVote, Cond.code yX2_castVote cX2_castVote 2 none, Cond.methodLink RX2 181 yX2_leadIfElected, Cond.instanceMethod yX2_leadIfElected, Cond.selects RX2 yX2_leadIfElected yX2_leadIfElected, Cond.code yX2_leadIfElected cX2_leadIfElected 7 none, Cond.methodLink RX2 190 yX2_isAhead, Cond.static yX2_isAhead, Cond.code yX2_isAhead cX2_isAhead 2 (some .boolean), Cond.methodLink RX2 86 yJ7_fill_53178, Cond.static yJ7_fill_53178, Cond.initialized RJ7, Cond.code yJ7_fill_53178 cJ7_fill_53178 4 none, Cond.methodLink RX2 148 yX2_hearVote, Cond.instanceMethod yX2_hearVote, Cond.selects RX2 yX2_hearVote yX2_hearVote, Cond.code yX2_hearVote cX2_hearVote 2 (some .boolean)]
def wsX2_hear : List Cond := .code yX2_hear cX2_hear 2 (some .boolean) :: ((wsX2_hear_r1 ++ (wsX2_hear_r2 ++ (wsX2_hear_r3 ++ (wsX2_hear_r4 ++ (wsX2_hear_r5 ++ (wsX2_hear_r6 ++ wsX2_hear_r7)))))) ++ wsX00 ++ wsX20 ++ wsX30 ++ wsX10)
def wsX3_init : List Cond := .code yX3_init cX3_init 1 none :: ([.methodLink RX3 3 objectInit, .instanceMethod objectInit, .code objectInit ⟨#[0xb1]⟩ 1 none, .classLink RX3 9 RX0, .fieldLink RX3 11 "ViewStamps$Pool" "letters" "[LViewStamps$Letter;"] ++ wsX30)
def wsX3_at : List Cond := .code yX3_at cX3_at 2 (some (.object "ViewStamps$Letter")) :: ([.fieldLink RX3 17 "ViewStamps$Pool" "posted" "I", .fieldLink RX3 11 "ViewStamps$Pool" "letters" "[LViewStamps$Letter;"] ++ wsX30)
def wsX3_standing : List Cond := .code yX3_standing cX3_standing 3 (some (.object "ViewStamps$Letter")) :: ([.fieldLink RX3 28 "ViewStamps$Letter" "dropped" "Z", .methodLink RX3 24 yX3_at, .instanceMethod yX3_at, .selects RX3 yX3_at yX3_at, .initialized RX3, .code yX3_at cX3_at 2 (some (.object "ViewStamps$Letter")), .fieldLink RX3 17 "ViewStamps$Pool" "posted" "I", .fieldLink RX3 11 "ViewStamps$Pool" "letters" "[LViewStamps$Letter;"] ++ wsX00 ++ wsX30)
def wsX3_countDropped : List Cond := .code yX3_countDropped cX3_countDropped 6 (some .int) :: ([.fieldLink RX3 11 "ViewStamps$Pool" "letters" "[LViewStamps$Letter;", .fieldLink RX3 28 "ViewStamps$Letter" "dropped" "Z"] ++ wsX30 ++ wsX00)
def wsX4_init_r1 : List Cond := [Cond.methodLink RX4 1 objectInit, Cond.instanceMethod objectInit, Cond.code objectInit ⟨#[0xb1]⟩ 1 none, Cond.classLink RX4 7 RX1, Cond.instantiable RX1 1, Cond.initialized RX1, Cond.arrayClass .int, Cond.classLink RX4 12 RX3, Cond.instantiable RX3 3, Cond.initialized RX3, Cond.fieldLink RX4 15 "ViewStamps" "pool" "LViewStamps$Pool;", Cond.classLink RX4 21 RX2, Cond.fieldLink RX4 23 "ViewStamps" "nodes" "[LViewStamps$Node;", Cond.instantiable RX2 17, Cond.initialized RX2, Cond.arrayClass .boolean, Cond.fieldLink RX4 30 "ViewStamps" "cutLines" "[Z", Cond.methodLink RX4 9 yX1_init, Cond.instanceMethod yX1_init, Cond.code yX1_init cX1_init 2 none, Cond.methodLink RX1 3 objectInit, Cond.fieldLink RX1 9 "ViewStamps$Log" "cells" "[I", Cond.instanceMethod yX3_init, Cond.code yX3_init cX3_init 1 none]
def wsX4_init_r2 : List Cond := [Cond.methodLink RX3 3 objectInit, Cond.classLink RX3 9 RX0, Cond.fieldLink RX3 11 "ViewStamps$Pool" "letters" "[LViewStamps$Letter;", Cond.methodLink RX4 27 yX2_init, Cond.instanceMethod yX2_init, Cond.code yX2_init cX2_init 5 none, Cond.methodLink RX2 3 objectInit, Cond.fieldLink RX2 9 "ViewStamps$Node" "registers" "[I", Cond.fieldLink RX2 15 "ViewStamps$Node" "number" "I", Cond.fieldLink RX2 19 "ViewStamps$Node" "size" "I", Cond.fieldLink RX2 22 "ViewStamps$Node" "enough" "I", Cond.fieldLink RX2 25 "ViewStamps$Node" "pool" "LViewStamps$Pool;", Cond.fieldLink RX2 29 "ViewStamps$Node" "empty" "LViewStamps$Log;", Cond.fieldLink RX2 33 "ViewStamps$Node" "log" "LViewStamps$Log;", Cond.classLink RX2 36 RX0, Cond.fieldLink RX2 38 "ViewStamps$Node" "votes" "[LViewStamps$Letter;", Cond.fieldLink RX2 42 "ViewStamps$Node" "tales" "[LViewStamps$Letter;", Cond.fieldLink RX2 45 "ViewStamps$Node" "told" "[I"]
def wsX4_init : List Cond := .code yX4_init cX4_init 5 none :: ((wsX4_init_r1 ++ wsX4_init_r2) ++ wsX10 ++ wsX30 ++ wsX40 ++ wsX20)
def wsX4_nodeAt : List Cond := .code yX4_nodeAt cX4_nodeAt 2 (some (.object "ViewStamps$Node")) :: ([.fieldLink RX4 23 "ViewStamps" "nodes" "[LViewStamps$Node;"] ++ wsX40)
def wsX4_isBelow : List Cond := .code yX4_isBelow cX4_isBelow 2 (some .boolean) :: ([])
def wsX4_isEntry : List Cond := .code yX4_isEntry cX4_isEntry 5 (some .boolean) :: ([.constant RX4 110 (1000000), .methodLink RX4 171 yX4_isBelow, .static yX4_isBelow, .initialized RX4, .code yX4_isBelow cX4_isBelow 2 (some .boolean)])
def wsX4_request_r1 : List Cond := [Cond.fieldLink RX4 46 "ViewStamps$Node" "log" "LViewStamps$Log;", Cond.methodLink RX4 34 yX4_nodeAt, Cond.instanceMethod yX4_nodeAt, Cond.selects RX4 yX4_nodeAt yX4_nodeAt, Cond.initialized RX4, Cond.code yX4_nodeAt cX4_nodeAt 2 (some (.object "ViewStamps$Node")), Cond.fieldLink RX4 23 "ViewStamps" "nodes" "[LViewStamps$Node;", Cond.methodLink RX4 38 yX4_isEntry, Cond.static yX4_isEntry, Cond.code yX4_isEntry cX4_isEntry 5 (some .boolean), Cond.constant RX4 110 (1000000), Cond.methodLink RX4 171 yX4_isBelow, Cond.static yX4_isBelow, Cond.code yX4_isBelow cX4_isBelow 2 (some .boolean), Cond.methodLink RX4 42 yX2_leads, Cond.instanceMethod yX2_leads, Cond.selects RX2 yX2_leads yX2_leads, Cond.initialized RX2, Cond.code yX2_leads cX2_leads 1 (some .boolean), Cond.fieldLink RX2 48 "ViewStamps$Node" "status" "I", Cond.methodLink RX2 82 yX2_isFirst, Cond.instanceMethod yX2_isFirst, Cond.selects RX2 yX2_isFirst yX2_isFirst, Cond.code yX2_isFirst cX2_isFirst 1 (some .boolean)]
def wsX4_request_r2 : List Cond := [Cond.fieldLink RX2 51 "ViewStamps$Node" "view" "I", Cond.fieldLink RX2 15 "ViewStamps$Node" "number" "I", Cond.methodLink RX2 184 yX2_firstOf, Cond.instanceMethod yX2_firstOf, Cond.selects RX2 yX2_firstOf yX2_firstOf, Cond.code yX2_firstOf cX2_firstOf 2 (some .int), Cond.fieldLink RX2 19 "ViewStamps$Node" "size" "I", Cond.methodLink RX4 50 yX1_answers, Cond.instanceMethod yX1_answers, Cond.selects RX1 yX1_answers yX1_answers, Cond.initialized RX1, Cond.code yX1_answers cX1_answers 4 (some .boolean), Cond.methodLink RX1 15 yX1_size, Cond.instanceMethod yX1_size, Cond.selects RX1 yX1_size yX1_size, Cond.code yX1_size cX1_size 1 (some .int), Cond.fieldLink RX1 9 "ViewStamps$Log" "cells" "[I", Cond.methodLink RX1 29 yX1_field, Cond.instanceMethod yX1_field, Cond.selects RX1 yX1_field yX1_field, Cond.code yX1_field cX1_field 3 (some .int), Cond.constant RX1 19 (-2147483648), Cond.methodLink RX4 54 yX1_size, Cond.methodLink RX4 58 yX1_with]
def wsX4_request_r3 : List Cond := [Cond.instanceMethod yX1_with, Cond.selects RX1 yX1_with yX1_with, Cond.code yX1_with cX1_with 9 (some (.object "ViewStamps$Log")), Cond.classLink RX1 10 RX1, Cond.instantiable RX1 1, Cond.methodLink RX1 20 yJ7_copyOf_59c91, Cond.static yJ7_copyOf_59c91, Cond.initialized RJ7, Cond.code yJ7_copyOf_59c91 cJ7_copyOf_59c91 3 (some (.array .int)), Cond.methodLink RJ7 316 ⟨"[I", "clone", "()Ljava/lang/Object;"⟩, Cond.sameMethod "[I" "java/lang/Object" "clone" "()Ljava/lang/Object;", Cond.native ⟨"java/lang/Object", "clone", "()Ljava/lang/Object;"⟩, Cond.instanceMethod ⟨"java/lang/Object", "clone", "()Ljava/lang/Object;"⟩, Cond.selects "[I" ⟨"[I", "clone", "()Ljava/lang/Object;"⟩ ⟨"java/lang/Object", "clone", "()Ljava/lang/Object;"⟩, Cond.classLink RJ7 317 "[I", Cond.arrayClass .int, Cond.methodLink RJ7 304 Lib.Math.min.name, Cond.static Lib.Math.min.name, Cond.initialized "java/lang/Math", Cond.code Lib.Math.min.name Lib.Math.min.code 2 (some .int), Cond.methodLink RJ7 150 arraycopyName, Cond.native arraycopyName, Cond.static arraycopyName, Cond.initialized "java/lang/System"]
def wsX4_request_r4 : List Cond := [Cond.methodLink RX1 26 yX1_init, Cond.instanceMethod yX1_init, Cond.code yX1_init cX1_init 2 none, Cond.methodLink RX1 3 objectInit, Cond.instanceMethod objectInit, Cond.code objectInit ⟨#[0xb1]⟩ 1 none, Cond.methodLink RX4 62 yX2_postToAll, Cond.instanceMethod yX2_postToAll, Cond.selects RX2 yX2_postToAll yX2_postToAll, Cond.code yX2_postToAll cX2_postToAll 4 none, Cond.fieldLink RX2 25 "ViewStamps$Node" "pool" "LViewStamps$Pool;", Cond.methodLink RX2 96 yX2_write, Cond.instanceMethod yX2_write, Cond.selects RX2 yX2_write yX2_write, Cond.code yX2_write cX2_write 5 (some (.object "ViewStamps$Letter")), Cond.classLink RX2 36 RX0, Cond.instantiable RX0 8, Cond.initialized RX0, Cond.fieldLink RX2 33 "ViewStamps$Node" "log" "LViewStamps$Log;", Cond.fieldLink RX2 29 "ViewStamps$Node" "empty" "LViewStamps$Log;", Cond.fieldLink RX2 62 "ViewStamps$Node" "sure" "I", Cond.methodLink RX2 197 yX0_init, Cond.instanceMethod yX0_init, Cond.code yX0_init cX0_init 8 none]
def wsX4_request_r5 : List Cond := [Cond.methodLink RX0 3 objectInit, Cond.fieldLink RX0 9 "ViewStamps$Letter" "from" "I", Cond.fieldLink RX0 15 "ViewStamps$Letter" "to" "I", Cond.fieldLink RX0 18 "ViewStamps$Letter" "sort" "I", Cond.fieldLink RX0 21 "ViewStamps$Letter" "view" "I", Cond.fieldLink RX0 24 "ViewStamps$Letter" "log" "LViewStamps$Log;", Cond.fieldLink RX0 28 "ViewStamps$Letter" "sure" "I", Cond.fieldLink RX0 31 "ViewStamps$Letter" "count" "I", Cond.methodLink RX2 100 yX3_add, Cond.instanceMethod yX3_add, Cond.selects RX3 yX3_add yX3_add, Cond.initialized RX3, Cond.code yX3_add cX3_add 2 none, Cond.fieldLink RX3 17 "ViewStamps$Pool" "posted" "I", Cond.fieldLink RX3 11 "ViewStamps$Pool" "letters" "[LViewStamps$Letter;", Cond.fieldLink RX3 21 "ViewStamps$Pool" "lost" "I"]
def wsX4_request : List Cond := .code yX4_request cX4_request 9 (some .int) :: ((wsX4_request_r1 ++ (wsX4_request_r2 ++ (wsX4_request_r3 ++ (wsX4_request_r4 ++ wsX4_request_r5)))) ++ wsX20 ++ wsX40 ++ wsX10 ++ wsX00 ++ wsX30)
def wsX4_lineBetween : List Cond := .code yX4_lineBetween cX4_lineBetween 3 (some .int) :: ([.methodLink RX4 151 Lib.Math.min.name, .static Lib.Math.min.name, .initialized "java/lang/Math", .code Lib.Math.min.name Lib.Math.min.code 2 (some .int), .fieldLink RX4 23 "ViewStamps" "nodes" "[LViewStamps$Node;", .methodLink RX4 174 Lib.Math.max.name, .static Lib.Math.max.name, .code Lib.Math.max.name Lib.Math.max.code 2 (some .int)] ++ wsX40)
def wsX4_deliver_r1 : List Cond := [Cond.fieldLink RX4 15 "ViewStamps" "pool" "LViewStamps$Pool;", Cond.fieldLink RX4 30 "ViewStamps" "cutLines" "[Z", Cond.fieldLink RX4 70 "ViewStamps$Letter" "from" "I", Cond.fieldLink RX4 76 "ViewStamps$Letter" "to" "I", Cond.fieldLink RX4 23 "ViewStamps" "nodes" "[LViewStamps$Node;", Cond.methodLink RX4 66 yX3_standing, Cond.instanceMethod yX3_standing, Cond.selects RX3 yX3_standing yX3_standing, Cond.initialized RX3, Cond.code yX3_standing cX3_standing 3 (some (.object "ViewStamps$Letter")), Cond.fieldLink RX3 28 "ViewStamps$Letter" "dropped" "Z", Cond.methodLink RX3 24 yX3_at, Cond.instanceMethod yX3_at, Cond.selects RX3 yX3_at yX3_at, Cond.code yX3_at cX3_at 2 (some (.object "ViewStamps$Letter")), Cond.fieldLink RX3 17 "ViewStamps$Pool" "posted" "I", Cond.fieldLink RX3 11 "ViewStamps$Pool" "letters" "[LViewStamps$Letter;", Cond.methodLink RX4 79 yX4_lineBetween, Cond.instanceMethod yX4_lineBetween, Cond.selects RX4 yX4_lineBetween yX4_lineBetween, Cond.initialized RX4, Cond.code yX4_lineBetween cX4_lineBetween 3 (some .int), Cond.methodLink RX4 151 Lib.Math.min.name, Cond.static Lib.Math.min.name]
def wsX4_deliver_r2 : List Cond := [Cond.initialized "java/lang/Math", Cond.code Lib.Math.min.name Lib.Math.min.code 2 (some .int), Cond.methodLink RX4 174 Lib.Math.max.name, Cond.static Lib.Math.max.name, Cond.code Lib.Math.max.name Lib.Math.max.code 2 (some .int), Cond.methodLink RX4 83 yX2_hear, Cond.instanceMethod yX2_hear, Cond.selects RX2 yX2_hear yX2_hear, Cond.initialized RX2, Cond.code yX2_hear cX2_hear 2 (some .boolean), Cond.fieldLink RX2 125 "ViewStamps$Letter" "sort" "I", Cond.fieldLink RX2 51 "ViewStamps$Node" "view" "I", Cond.fieldLink RX2 138 "ViewStamps$Letter" "view" "I", Cond.methodLink RX2 128 yX2_hearAsk, Cond.instanceMethod yX2_hearAsk, Cond.selects RX2 yX2_hearAsk yX2_hearAsk, Cond.code yX2_hearAsk cX2_hearAsk 2 (some .boolean), Cond.fieldLink RX2 48 "ViewStamps$Node" "status" "I", Cond.fieldLink RX2 25 "ViewStamps$Node" "pool" "LViewStamps$Pool;", Cond.fieldLink RX2 169 "ViewStamps$Letter" "from" "I", Cond.fieldLink RX2 172 "ViewStamps$Letter" "count" "I", Cond.methodLink RX2 96 yX2_write, Cond.instanceMethod yX2_write, Cond.selects RX2 yX2_write yX2_write]
def wsX4_deliver_r3 : List Cond := [Cond.code yX2_write cX2_write 5 (some (.object "ViewStamps$Letter")), Cond.classLink RX2 36 RX0, Cond.instantiable RX0 8, Cond.initialized RX0, Cond.fieldLink RX2 15 "ViewStamps$Node" "number" "I", Cond.fieldLink RX2 33 "ViewStamps$Node" "log" "LViewStamps$Log;", Cond.fieldLink RX2 29 "ViewStamps$Node" "empty" "LViewStamps$Log;", Cond.fieldLink RX2 62 "ViewStamps$Node" "sure" "I", Cond.methodLink RX2 197 yX0_init, Cond.instanceMethod yX0_init, Cond.code yX0_init cX0_init 8 none, Cond.methodLink RX0 3 objectInit, Cond.instanceMethod objectInit, Cond.code objectInit ⟨#[0xb1]⟩ 1 none, Cond.fieldLink RX0 9 "ViewStamps$Letter" "from" "I", Cond.fieldLink RX0 15 "ViewStamps$Letter" "to" "I", Cond.fieldLink RX0 18 "ViewStamps$Letter" "sort" "I", Cond.fieldLink RX0 21 "ViewStamps$Letter" "view" "I", Cond.fieldLink RX0 24 "ViewStamps$Letter" "log" "LViewStamps$Log;", Cond.fieldLink RX0 28 "ViewStamps$Letter" "sure" "I", Cond.fieldLink RX0 31 "ViewStamps$Letter" "count" "I", Cond.methodLink RX2 100 yX3_add, Cond.instanceMethod yX3_add, Cond.selects RX3 yX3_add yX3_add]
def wsX4_deliver_r4 : List Cond := [Cond.code yX3_add cX3_add 2 none, Cond.fieldLink RX3 21 "ViewStamps$Pool" "lost" "I", Cond.methodLink RX2 132 yX2_hearTell, Cond.instanceMethod yX2_hearTell, Cond.selects RX2 yX2_hearTell yX2_hearTell, Cond.code yX2_hearTell cX2_hearTell 2 (some .boolean), Cond.fieldLink RX2 119 "ViewStamps$Node" "nonce" "I", Cond.fieldLink RX2 42 "ViewStamps$Node" "tales" "[LViewStamps$Letter;", Cond.fieldLink RX2 22 "ViewStamps$Node" "enough" "I", Cond.methodLink RX2 74 yX2_countLetters, Cond.static yX2_countLetters, Cond.code yX2_countLetters cX2_countLetters 6 (some .int), Cond.methodLink RX2 187 yX2_believeFirst, Cond.instanceMethod yX2_believeFirst, Cond.selects RX2 yX2_believeFirst yX2_believeFirst, Cond.code yX2_believeFirst cX2_believeFirst 6 none, Cond.methodLink RX2 153 Lib.Math.max.name, Cond.fieldLink RX2 151 "ViewStamps$Letter" "log" "LViewStamps$Log;", Cond.fieldLink RX2 152 "ViewStamps$Letter" "sure" "I", Cond.methodLink RX2 184 yX2_firstOf, Cond.instanceMethod yX2_firstOf, Cond.selects RX2 yX2_firstOf yX2_firstOf, Cond.code yX2_firstOf cX2_firstOf 2 (some .int), Cond.fieldLink RX2 19 "ViewStamps$Node" "size" "I"]
def wsX4_deliver_r5 : List Cond := [Cond.methodLink RX2 162 yX2_settleIn, Cond.instanceMethod yX2_settleIn, Cond.selects RX2 yX2_settleIn yX2_settleIn, Cond.code yX2_settleIn cX2_settleIn 2 none, Cond.fieldLink RX2 54 "ViewStamps$Node" "lastView" "I", Cond.methodLink RX2 135 yX2_isDown, Cond.instanceMethod yX2_isDown, Cond.selects RX2 yX2_isDown yX2_isDown, Cond.code yX2_isDown cX2_isDown 1 (some .boolean), Cond.methodLink RX2 139 yX2_hearLog, Cond.instanceMethod yX2_hearLog, Cond.selects RX2 yX2_hearLog yX2_hearLog, Cond.code yX2_hearLog cX2_hearLog 3 (some .boolean), Cond.methodLink RX2 159 Lib.Math.min.name, Cond.methodLink RX2 82 yX2_isFirst, Cond.instanceMethod yX2_isFirst, Cond.selects RX2 yX2_isFirst yX2_isFirst, Cond.code yX2_isFirst cX2_isFirst 1 (some .boolean), Cond.methodLink RX2 57 yX1_size, Cond.instanceMethod yX1_size, Cond.selects RX1 yX1_size yX1_size, Cond.initialized RX1, Cond.code yX1_size cX1_size 1 (some .int), Cond.fieldLink RX1 9 "ViewStamps$Log" "cells" "[I"]
def wsX4_deliver_r6 : List Cond := [Cond.methodLink RX2 113 yX2_postOk, Cond.instanceMethod yX2_postOk, Cond.selects RX2 yX2_postOk yX2_postOk, Cond.code yX2_postOk cX2_postOk 1 none, Cond.methodLink RX2 142 yX2_hearOk, Cond.instanceMethod yX2_hearOk, Cond.selects RX2 yX2_hearOk yX2_hearOk, Cond.code yX2_hearOk cX2_hearOk 2 (some .boolean), Cond.fieldLink RX2 45 "ViewStamps$Node" "told" "[I", Cond.methodLink RX2 166 yX2_leads, Cond.instanceMethod yX2_leads, Cond.selects RX2 yX2_leads yX2_leads, Cond.code yX2_leads cX2_leads 1 (some .boolean), Cond.methodLink RX2 175 yX2_heldByEnough, Cond.instanceMethod yX2_heldByEnough, Cond.selects RX2 yX2_heldByEnough yX2_heldByEnough, Cond.code yX2_heldByEnough cX2_heldByEnough 6 (some .int), Cond.methodLink RX2 194 yX2_countTold, Cond.instanceMethod yX2_countTold, Cond.selects RX2 yX2_countTold yX2_countTold, Cond.code yX2_countTold cX2_countTold 7 (some .int), Cond.methodLink RX2 145 yX2_hearChange, Cond.instanceMethod yX2_hearChange, Cond.selects RX2 yX2_hearChange yX2_hearChange]
def wsX4_deliver_r7 : List Cond := [Cond.code yX2_hearChange cX2_hearChange 3 (some .boolean), Cond.fieldLink RX2 65 "ViewStamps$Node" "voters" "I", Cond.fieldLink RX2 78 "ViewStamps$Node" "voted" "Z", Cond.methodLink RX2 178 yX2_changeTo, Cond.instanceMethod yX2_changeTo, Cond.selects RX2 yX2_changeTo yX2_changeTo, Cond.code yX2_changeTo cX2_changeTo 2 none, Cond.methodLink RX2 106 yX2_forgetVotes, Cond.instanceMethod yX2_forgetVotes, Cond.selects RX2 yX2_forgetVotes yX2_forgetVotes, Cond.code yX2_forgetVotes cX2_forgetVotes 2 none, Cond.fieldLink RX2 38 "ViewStamps$Node" "votes" "[LViewStamps$Letter;", Cond.methodLink RX2 109 yX2_postToAll, Cond.instanceMethod yX2_postToAll, Cond.selects RX2 yX2_postToAll yX2_postToAll, Cond.code yX2_postToAll cX2_postToAll 4 none, Cond.methodLink RX2 68 yJ6_bitCount_0f7a4, Cond.static yJ6_bitCount_0f7a4, Cond.initialized RJ6, Cond.code yJ6_bitCount_0f7a4 cJ6_bitCount_0f7a4 1 (some .int), Cond.constant RJ6 265 (1431655765), Cond.constant RJ6 266 (858993459), Cond.constant RJ6 267 (252645135), Cond.methodLink RX2 116 yX2_castVote]
def wsX4_deliver_r8 : List Cond := [Cond.instanceMethod yX2_castVote, Cond.selects RX2 yX2_castVote yX2_castVote, Cond.code yX2_castVote cX2_castVote 2 none, Cond.methodLink RX2 181 yX2_leadIfElected, Cond.instanceMethod yX2_leadIfElected, Cond.selects RX2 yX2_leadIfElected yX2_leadIfElected, Cond.code yX2_leadIfElected cX2_leadIfElected 7 none, Cond.methodLink RX2 190 yX2_isAhead, Cond.static yX2_isAhead, Cond.code yX2_isAhead cX2_isAhead 2 (some .boolean), Cond.methodLink RX2 86 yJ7_fill_53178, Cond.static yJ7_fill_53178, Cond.initialized RJ7, Cond.code yJ7_fill_53178 cJ7_fill_53178 4 none, Cond.methodLink RX2 148 yX2_hearVote, Cond.instanceMethod yX2_hearVote, Cond.selects RX2 yX2_hearVote yX2_hearVote, Cond.code yX2_hearVote cX2_hearVote 2 (some .boolean)]
def wsX4_deliver : List Cond := .code yX4_deliver cX4_deliver 3 (some .int) :: ((wsX4_deliver_r1 ++ (wsX4_deliver_r2 ++ (wsX4_deliver_r3 ++ (wsX4_deliver_r4 ++ (wsX4_deliver_r5 ++ (wsX4_deliver_r6 ++ (wsX4_deliver_r7 ++ wsX4_deliver_r8))))))) ++ wsX40 ++ wsX00 ++ wsX30 ++ wsX20 ++ wsX10)
def wsX4_drop : List Cond := .code yX4_drop cX4_drop 3 (some .int) :: ([.fieldLink RX4 15 "ViewStamps" "pool" "LViewStamps$Pool;", .fieldLink RX4 87 "ViewStamps$Letter" "dropped" "Z", .methodLink RX4 66 yX3_standing, .instanceMethod yX3_standing, .selects RX3 yX3_standing yX3_standing, .initialized RX3, .code yX3_standing cX3_standing 3 (some (.object "ViewStamps$Letter")), .fieldLink RX3 28 "ViewStamps$Letter" "dropped" "Z", .methodLink RX3 24 yX3_at, .instanceMethod yX3_at, .selects RX3 yX3_at yX3_at, .code yX3_at cX3_at 2 (some (.object "ViewStamps$Letter")), .fieldLink RX3 17 "ViewStamps$Pool" "posted" "I", .fieldLink RX3 11 "ViewStamps$Pool" "letters" "[LViewStamps$Letter;"] ++ wsX40 ++ wsX00 ++ wsX30)
def wsX4_cut : List Cond := .code yX4_cut cX4_cut 6 (some .int) :: ([.fieldLink RX4 30 "ViewStamps" "cutLines" "[Z", .methodLink RX4 34 yX4_nodeAt, .instanceMethod yX4_nodeAt, .selects RX4 yX4_nodeAt yX4_nodeAt, .initialized RX4, .code yX4_nodeAt cX4_nodeAt 2 (some (.object "ViewStamps$Node")), .fieldLink RX4 23 "ViewStamps" "nodes" "[LViewStamps$Node;", .methodLink RX4 79 yX4_lineBetween, .instanceMethod yX4_lineBetween, .selects RX4 yX4_lineBetween yX4_lineBetween, .code yX4_lineBetween cX4_lineBetween 3 (some .int), .methodLink RX4 151 Lib.Math.min.name, .static Lib.Math.min.name, .initialized "java/lang/Math", .code Lib.Math.min.name Lib.Math.min.code 2 (some .int), .methodLink RX4 174 Lib.Math.max.name, .static Lib.Math.max.name, .code Lib.Math.max.name Lib.Math.max.code 2 (some .int)] ++ wsX40)
def wsX4_timeout_r1 : List Cond := [Cond.fieldLink RX4 94 "ViewStamps$Node" "view" "I", Cond.methodLink RX4 34 yX4_nodeAt, Cond.instanceMethod yX4_nodeAt, Cond.selects RX4 yX4_nodeAt yX4_nodeAt, Cond.initialized RX4, Cond.code yX4_nodeAt cX4_nodeAt 2 (some (.object "ViewStamps$Node")), Cond.fieldLink RX4 23 "ViewStamps" "nodes" "[LViewStamps$Node;", Cond.methodLink RX4 91 yX2_isDown, Cond.instanceMethod yX2_isDown, Cond.selects RX2 yX2_isDown yX2_isDown, Cond.initialized RX2, Cond.code yX2_isDown cX2_isDown 1 (some .boolean), Cond.fieldLink RX2 48 "ViewStamps$Node" "status" "I", Cond.methodLink RX4 97 yX2_changeTo, Cond.instanceMethod yX2_changeTo, Cond.selects RX2 yX2_changeTo yX2_changeTo, Cond.code yX2_changeTo cX2_changeTo 2 none, Cond.fieldLink RX2 51 "ViewStamps$Node" "view" "I", Cond.methodLink RX2 106 yX2_forgetVotes, Cond.instanceMethod yX2_forgetVotes, Cond.selects RX2 yX2_forgetVotes yX2_forgetVotes, Cond.code yX2_forgetVotes cX2_forgetVotes 2 none, Cond.fieldLink RX2 65 "ViewStamps$Node" "voters" "I", Cond.fieldLink RX2 78 "ViewStamps$Node" "voted" "Z"]
def wsX4_timeout_r2 : List Cond := [Cond.fieldLink RX2 19 "ViewStamps$Node" "size" "I", Cond.fieldLink RX2 38 "ViewStamps$Node" "votes" "[LViewStamps$Letter;", Cond.methodLink RX2 109 yX2_postToAll, Cond.instanceMethod yX2_postToAll, Cond.selects RX2 yX2_postToAll yX2_postToAll, Cond.code yX2_postToAll cX2_postToAll 4 none, Cond.fieldLink RX2 15 "ViewStamps$Node" "number" "I", Cond.fieldLink RX2 25 "ViewStamps$Node" "pool" "LViewStamps$Pool;", Cond.methodLink RX2 96 yX2_write, Cond.instanceMethod yX2_write, Cond.selects RX2 yX2_write yX2_write, Cond.code yX2_write cX2_write 5 (some (.object "ViewStamps$Letter")), Cond.classLink RX2 36 RX0, Cond.instantiable RX0 8, Cond.initialized RX0, Cond.fieldLink RX2 33 "ViewStamps$Node" "log" "LViewStamps$Log;", Cond.fieldLink RX2 29 "ViewStamps$Node" "empty" "LViewStamps$Log;", Cond.fieldLink RX2 62 "ViewStamps$Node" "sure" "I", Cond.methodLink RX2 197 yX0_init, Cond.instanceMethod yX0_init, Cond.code yX0_init cX0_init 8 none, Cond.methodLink RX0 3 objectInit, Cond.instanceMethod objectInit, Cond.code objectInit ⟨#[0xb1]⟩ 1 none]
def wsX4_timeout_r3 : List Cond := [Cond.fieldLink RX0 9 "ViewStamps$Letter" "from" "I", Cond.fieldLink RX0 15 "ViewStamps$Letter" "to" "I", Cond.fieldLink RX0 18 "ViewStamps$Letter" "sort" "I", Cond.fieldLink RX0 21 "ViewStamps$Letter" "view" "I", Cond.fieldLink RX0 24 "ViewStamps$Letter" "log" "LViewStamps$Log;", Cond.fieldLink RX0 28 "ViewStamps$Letter" "sure" "I", Cond.fieldLink RX0 31 "ViewStamps$Letter" "count" "I", Cond.methodLink RX2 100 yX3_add, Cond.instanceMethod yX3_add, Cond.selects RX3 yX3_add yX3_add, Cond.initialized RX3, Cond.code yX3_add cX3_add 2 none, Cond.fieldLink RX3 17 "ViewStamps$Pool" "posted" "I", Cond.fieldLink RX3 11 "ViewStamps$Pool" "letters" "[LViewStamps$Letter;", Cond.fieldLink RX3 21 "ViewStamps$Pool" "lost" "I"]
def wsX4_timeout : List Cond := .code yX4_timeout cX4_timeout 3 (some .int) :: ((wsX4_timeout_r1 ++ (wsX4_timeout_r2 ++ wsX4_timeout_r3)) ++ wsX20 ++ wsX40 ++ wsX00 ++ wsX30)
def wsX4_resend_r1 : List Cond := [Cond.fieldLink RX4 101 "ViewStamps$Node" "status" "I", Cond.methodLink RX4 34 yX4_nodeAt, Cond.instanceMethod yX4_nodeAt, Cond.selects RX4 yX4_nodeAt yX4_nodeAt, Cond.initialized RX4, Cond.code yX4_nodeAt cX4_nodeAt 2 (some (.object "ViewStamps$Node")), Cond.fieldLink RX4 23 "ViewStamps" "nodes" "[LViewStamps$Node;", Cond.methodLink RX4 104 yX2_postAgain, Cond.instanceMethod yX2_postAgain, Cond.selects RX2 yX2_postAgain yX2_postAgain, Cond.initialized RX2, Cond.code yX2_postAgain cX2_postAgain 1 (some .int), Cond.fieldLink RX2 48 "ViewStamps$Node" "status" "I", Cond.fieldLink RX2 19 "ViewStamps$Node" "size" "I", Cond.fieldLink RX2 78 "ViewStamps$Node" "voted" "Z", Cond.fieldLink RX2 119 "ViewStamps$Node" "nonce" "I", Cond.methodLink RX2 82 yX2_isFirst, Cond.instanceMethod yX2_isFirst, Cond.selects RX2 yX2_isFirst yX2_isFirst, Cond.code yX2_isFirst cX2_isFirst 1 (some .boolean), Cond.fieldLink RX2 51 "ViewStamps$Node" "view" "I", Cond.fieldLink RX2 15 "ViewStamps$Node" "number" "I", Cond.methodLink RX2 184 yX2_firstOf, Cond.instanceMethod yX2_firstOf]
def wsX4_resend_r2 : List Cond := [Cond.selects RX2 yX2_firstOf yX2_firstOf, Cond.code yX2_firstOf cX2_firstOf 2 (some .int), Cond.methodLink RX2 113 yX2_postOk, Cond.instanceMethod yX2_postOk, Cond.selects RX2 yX2_postOk yX2_postOk, Cond.code yX2_postOk cX2_postOk 1 none, Cond.fieldLink RX2 25 "ViewStamps$Node" "pool" "LViewStamps$Pool;", Cond.fieldLink RX2 33 "ViewStamps$Node" "log" "LViewStamps$Log;", Cond.methodLink RX2 57 yX1_size, Cond.instanceMethod yX1_size, Cond.selects RX1 yX1_size yX1_size, Cond.initialized RX1, Cond.code yX1_size cX1_size 1 (some .int), Cond.fieldLink RX1 9 "ViewStamps$Log" "cells" "[I", Cond.methodLink RX2 96 yX2_write, Cond.instanceMethod yX2_write, Cond.selects RX2 yX2_write yX2_write, Cond.code yX2_write cX2_write 5 (some (.object "ViewStamps$Letter")), Cond.classLink RX2 36 RX0, Cond.instantiable RX0 8, Cond.initialized RX0, Cond.fieldLink RX2 29 "ViewStamps$Node" "empty" "LViewStamps$Log;", Cond.fieldLink RX2 62 "ViewStamps$Node" "sure" "I", Cond.methodLink RX2 197 yX0_init]
def wsX4_resend_r3 : List Cond := [Cond.instanceMethod yX0_init, Cond.code yX0_init cX0_init 8 none, Cond.methodLink RX0 3 objectInit, Cond.instanceMethod objectInit, Cond.code objectInit ⟨#[0xb1]⟩ 1 none, Cond.fieldLink RX0 9 "ViewStamps$Letter" "from" "I", Cond.fieldLink RX0 15 "ViewStamps$Letter" "to" "I", Cond.fieldLink RX0 18 "ViewStamps$Letter" "sort" "I", Cond.fieldLink RX0 21 "ViewStamps$Letter" "view" "I", Cond.fieldLink RX0 24 "ViewStamps$Letter" "log" "LViewStamps$Log;", Cond.fieldLink RX0 28 "ViewStamps$Letter" "sure" "I", Cond.fieldLink RX0 31 "ViewStamps$Letter" "count" "I", Cond.methodLink RX2 100 yX3_add, Cond.instanceMethod yX3_add, Cond.selects RX3 yX3_add yX3_add, Cond.initialized RX3, Cond.code yX3_add cX3_add 2 none, Cond.fieldLink RX3 17 "ViewStamps$Pool" "posted" "I", Cond.fieldLink RX3 11 "ViewStamps$Pool" "letters" "[LViewStamps$Letter;", Cond.fieldLink RX3 21 "ViewStamps$Pool" "lost" "I", Cond.methodLink RX2 109 yX2_postToAll, Cond.instanceMethod yX2_postToAll, Cond.selects RX2 yX2_postToAll yX2_postToAll, Cond.code yX2_postToAll cX2_postToAll 4 none]
def wsX4_resend_r4 : List Cond := [Cond.methodLink RX2 116 yX2_castVote, Cond.instanceMethod yX2_castVote, Cond.selects RX2 yX2_castVote yX2_castVote, Cond.code yX2_castVote cX2_castVote 2 none, Cond.fieldLink RX2 54 "ViewStamps$Node" "lastView" "I", Cond.fieldLink RX2 38 "ViewStamps$Node" "votes" "[LViewStamps$Letter;"]
def wsX4_resend : List Cond := .code yX4_resend cX4_resend 3 (some .int) :: ((wsX4_resend_r1 ++ (wsX4_resend_r2 ++ (wsX4_resend_r3 ++ wsX4_resend_r4))) ++ wsX20 ++ wsX40 ++ wsX10 ++ wsX00 ++ wsX30)
def wsX4_crash_r1 : List Cond := [Cond.fieldLink RX4 101 "ViewStamps$Node" "status" "I", Cond.fieldLink RX4 46 "ViewStamps$Node" "log" "LViewStamps$Log;", Cond.methodLink RX4 34 yX4_nodeAt, Cond.instanceMethod yX4_nodeAt, Cond.selects RX4 yX4_nodeAt yX4_nodeAt, Cond.initialized RX4, Cond.code yX4_nodeAt cX4_nodeAt 2 (some (.object "ViewStamps$Node")), Cond.fieldLink RX4 23 "ViewStamps" "nodes" "[LViewStamps$Node;", Cond.methodLink RX4 54 yX1_size, Cond.instanceMethod yX1_size, Cond.selects RX1 yX1_size yX1_size, Cond.initialized RX1, Cond.code yX1_size cX1_size 1 (some .int), Cond.fieldLink RX1 9 "ViewStamps$Log" "cells" "[I", Cond.methodLink RX4 107 yX2_loseAll, Cond.instanceMethod yX2_loseAll, Cond.selects RX2 yX2_loseAll yX2_loseAll, Cond.initialized RX2, Cond.code yX2_loseAll cX2_loseAll 1 none, Cond.fieldLink RX2 48 "ViewStamps$Node" "status" "I", Cond.fieldLink RX2 51 "ViewStamps$Node" "view" "I", Cond.fieldLink RX2 54 "ViewStamps$Node" "lastView" "I", Cond.fieldLink RX2 62 "ViewStamps$Node" "sure" "I", Cond.fieldLink RX2 29 "ViewStamps$Node" "empty" "LViewStamps$Log;"]
def wsX4_crash_r2 : List Cond := [Cond.fieldLink RX2 33 "ViewStamps$Node" "log" "LViewStamps$Log;", Cond.fieldLink RX2 119 "ViewStamps$Node" "nonce" "I", Cond.fieldLink RX2 45 "ViewStamps$Node" "told" "[I", Cond.methodLink RX2 106 yX2_forgetVotes, Cond.instanceMethod yX2_forgetVotes, Cond.selects RX2 yX2_forgetVotes yX2_forgetVotes, Cond.code yX2_forgetVotes cX2_forgetVotes 2 none, Cond.fieldLink RX2 65 "ViewStamps$Node" "voters" "I", Cond.fieldLink RX2 78 "ViewStamps$Node" "voted" "Z", Cond.fieldLink RX2 19 "ViewStamps$Node" "size" "I", Cond.fieldLink RX2 38 "ViewStamps$Node" "votes" "[LViewStamps$Letter;", Cond.methodLink RX2 122 yX2_forgetTales, Cond.instanceMethod yX2_forgetTales, Cond.selects RX2 yX2_forgetTales yX2_forgetTales, Cond.code yX2_forgetTales cX2_forgetTales 2 none, Cond.fieldLink RX2 42 "ViewStamps$Node" "tales" "[LViewStamps$Letter;", Cond.methodLink RX2 86 yJ7_fill_53178, Cond.static yJ7_fill_53178, Cond.initialized RJ7, Cond.code yJ7_fill_53178 cJ7_fill_53178 4 none]
def wsX4_crash : List Cond := .code yX4_crash cX4_crash 4 (some .int) :: ((wsX4_crash_r1 ++ wsX4_crash_r2) ++ wsX20 ++ wsX40 ++ wsX10)
def wsX4_recover_r1 : List Cond := [Cond.constant RX4 110 (1000000), Cond.fieldLink RX4 101 "ViewStamps$Node" "status" "I", Cond.methodLink RX4 34 yX4_nodeAt, Cond.instanceMethod yX4_nodeAt, Cond.selects RX4 yX4_nodeAt yX4_nodeAt, Cond.initialized RX4, Cond.code yX4_nodeAt cX4_nodeAt 2 (some (.object "ViewStamps$Node")), Cond.fieldLink RX4 23 "ViewStamps" "nodes" "[LViewStamps$Node;", Cond.methodLink RX4 111 yX2_startRecovery, Cond.instanceMethod yX2_startRecovery, Cond.selects RX2 yX2_startRecovery yX2_startRecovery, Cond.initialized RX2, Cond.code yX2_startRecovery cX2_startRecovery 2 none, Cond.fieldLink RX2 48 "ViewStamps$Node" "status" "I", Cond.fieldLink RX2 119 "ViewStamps$Node" "nonce" "I", Cond.methodLink RX2 122 yX2_forgetTales, Cond.instanceMethod yX2_forgetTales, Cond.selects RX2 yX2_forgetTales yX2_forgetTales, Cond.code yX2_forgetTales cX2_forgetTales 2 none, Cond.fieldLink RX2 19 "ViewStamps$Node" "size" "I", Cond.fieldLink RX2 42 "ViewStamps$Node" "tales" "[LViewStamps$Letter;", Cond.methodLink RX2 109 yX2_postToAll, Cond.instanceMethod yX2_postToAll, Cond.selects RX2 yX2_postToAll yX2_postToAll]
def wsX4_recover_r2 : List Cond := [Cond.code yX2_postToAll cX2_postToAll 4 none, Cond.fieldLink RX2 15 "ViewStamps$Node" "number" "I", Cond.fieldLink RX2 25 "ViewStamps$Node" "pool" "LViewStamps$Pool;", Cond.methodLink RX2 96 yX2_write, Cond.instanceMethod yX2_write, Cond.selects RX2 yX2_write yX2_write, Cond.code yX2_write cX2_write 5 (some (.object "ViewStamps$Letter")), Cond.classLink RX2 36 RX0, Cond.instantiable RX0 8, Cond.initialized RX0, Cond.fieldLink RX2 51 "ViewStamps$Node" "view" "I", Cond.fieldLink RX2 33 "ViewStamps$Node" "log" "LViewStamps$Log;", Cond.fieldLink RX2 29 "ViewStamps$Node" "empty" "LViewStamps$Log;", Cond.fieldLink RX2 62 "ViewStamps$Node" "sure" "I", Cond.methodLink RX2 197 yX0_init, Cond.instanceMethod yX0_init, Cond.code yX0_init cX0_init 8 none, Cond.methodLink RX0 3 objectInit, Cond.instanceMethod objectInit, Cond.code objectInit ⟨#[0xb1]⟩ 1 none, Cond.fieldLink RX0 9 "ViewStamps$Letter" "from" "I", Cond.fieldLink RX0 15 "ViewStamps$Letter" "to" "I", Cond.fieldLink RX0 18 "ViewStamps$Letter" "sort" "I", Cond.fieldLink RX0 21 "ViewStamps$Letter" "view" "I"]
def wsX4_recover_r3 : List Cond := [Cond.fieldLink RX0 24 "ViewStamps$Letter" "log" "LViewStamps$Log;", Cond.fieldLink RX0 28 "ViewStamps$Letter" "sure" "I", Cond.fieldLink RX0 31 "ViewStamps$Letter" "count" "I", Cond.methodLink RX2 100 yX3_add, Cond.instanceMethod yX3_add, Cond.selects RX3 yX3_add yX3_add, Cond.initialized RX3, Cond.code yX3_add cX3_add 2 none, Cond.fieldLink RX3 17 "ViewStamps$Pool" "posted" "I", Cond.fieldLink RX3 11 "ViewStamps$Pool" "letters" "[LViewStamps$Letter;", Cond.fieldLink RX3 21 "ViewStamps$Pool" "lost" "I"]
def wsX4_recover : List Cond := .code yX4_recover cX4_recover 4 (some .int) :: ((wsX4_recover_r1 ++ (wsX4_recover_r2 ++ wsX4_recover_r3)) ++ wsX20 ++ wsX40 ++ wsX00 ++ wsX30)
def wsX4_node_r1 : List Cond := [Cond.methodLink RX4 34 yX4_nodeAt, Cond.instanceMethod yX4_nodeAt, Cond.selects RX4 yX4_nodeAt yX4_nodeAt, Cond.initialized RX4, Cond.code yX4_nodeAt cX4_nodeAt 2 (some (.object "ViewStamps$Node")), Cond.fieldLink RX4 23 "ViewStamps" "nodes" "[LViewStamps$Node;", Cond.methodLink RX4 114 yX2_field, Cond.instanceMethod yX2_field, Cond.selects RX2 yX2_field yX2_field, Cond.initialized RX2, Cond.code yX2_field cX2_field 3 (some .int), Cond.fieldLink RX2 48 "ViewStamps$Node" "status" "I", Cond.fieldLink RX2 51 "ViewStamps$Node" "view" "I", Cond.fieldLink RX2 54 "ViewStamps$Node" "lastView" "I", Cond.fieldLink RX2 33 "ViewStamps$Node" "log" "LViewStamps$Log;", Cond.fieldLink RX2 62 "ViewStamps$Node" "sure" "I", Cond.fieldLink RX2 65 "ViewStamps$Node" "voters" "I", Cond.fieldLink RX2 38 "ViewStamps$Node" "votes" "[LViewStamps$Letter;", Cond.fieldLink RX2 78 "ViewStamps$Node" "voted" "Z", Cond.fieldLink RX2 42 "ViewStamps$Node" "tales" "[LViewStamps$Letter;", Cond.methodLink RX2 57 yX1_size, Cond.instanceMethod yX1_size, Cond.selects RX1 yX1_size yX1_size, Cond.initialized RX1]
def wsX4_node_r2 : List Cond := [Cond.code yX1_size cX1_size 1 (some .int), Cond.fieldLink RX1 9 "ViewStamps$Log" "cells" "[I", Cond.methodLink RX2 68 yJ6_bitCount_0f7a4, Cond.static yJ6_bitCount_0f7a4, Cond.initialized RJ6, Cond.code yJ6_bitCount_0f7a4 cJ6_bitCount_0f7a4 1 (some .int), Cond.constant RJ6 265 (1431655765), Cond.constant RJ6 266 (858993459), Cond.constant RJ6 267 (252645135), Cond.methodLink RX2 74 yX2_countLetters, Cond.static yX2_countLetters, Cond.code yX2_countLetters cX2_countLetters 6 (some .int)]
def wsX4_node : List Cond := .code yX4_node cX4_node 4 (some .int) :: ((wsX4_node_r1 ++ wsX4_node_r2) ++ wsX40 ++ wsX20 ++ wsX10)
def wsX4_entry : List Cond := .code yX4_entry cX4_entry 5 (some .int) :: ([.constant RX4 118 (-2147483648), .fieldLink RX4 46 "ViewStamps$Node" "log" "LViewStamps$Log;", .methodLink RX4 34 yX4_nodeAt, .instanceMethod yX4_nodeAt, .selects RX4 yX4_nodeAt yX4_nodeAt, .initialized RX4, .code yX4_nodeAt cX4_nodeAt 2 (some (.object "ViewStamps$Node")), .fieldLink RX4 23 "ViewStamps" "nodes" "[LViewStamps$Node;", .methodLink RX4 119 yX1_field, .instanceMethod yX1_field, .selects RX1 yX1_field yX1_field, .initialized RX1, .code yX1_field cX1_field 3 (some .int), .constant RX1 19 (-2147483648), .fieldLink RX1 9 "ViewStamps$Log" "cells" "[I", .methodLink RX1 15 yX1_size, .instanceMethod yX1_size, .selects RX1 yX1_size yX1_size, .code yX1_size cX1_size 1 (some .int)] ++ wsX20 ++ wsX40 ++ wsX10)
def wsX4_register_r1 : List Cond := [Cond.constant RX4 118 (-2147483648), Cond.methodLink RX4 34 yX4_nodeAt, Cond.instanceMethod yX4_nodeAt, Cond.selects RX4 yX4_nodeAt yX4_nodeAt, Cond.initialized RX4, Cond.code yX4_nodeAt cX4_nodeAt 2 (some (.object "ViewStamps$Node")), Cond.fieldLink RX4 23 "ViewStamps" "nodes" "[LViewStamps$Node;", Cond.methodLink RX4 121 yX2_workOutRegisters, Cond.instanceMethod yX2_workOutRegisters, Cond.selects RX2 yX2_workOutRegisters yX2_workOutRegisters, Cond.initialized RX2, Cond.code yX2_workOutRegisters cX2_workOutRegisters 1 (some (.array .int)), Cond.fieldLink RX2 9 "ViewStamps$Node" "registers" "[I", Cond.fieldLink RX2 33 "ViewStamps$Node" "log" "LViewStamps$Log;", Cond.fieldLink RX2 62 "ViewStamps$Node" "sure" "I", Cond.methodLink RX2 86 yJ7_fill_53178, Cond.static yJ7_fill_53178, Cond.initialized RJ7, Cond.code yJ7_fill_53178 cJ7_fill_53178 4 none, Cond.methodLink RX2 92 yX1_play, Cond.instanceMethod yX1_play, Cond.selects RX1 yX1_play yX1_play, Cond.initialized RX1, Cond.code yX1_play cX1_play 6 none]
def wsX4_register_r2 : List Cond := [Cond.methodLink RX1 29 yX1_field, Cond.instanceMethod yX1_field, Cond.selects RX1 yX1_field yX1_field, Cond.code yX1_field cX1_field 3 (some .int), Cond.constant RX1 19 (-2147483648), Cond.fieldLink RX1 9 "ViewStamps$Log" "cells" "[I", Cond.methodLink RX1 15 yX1_size, Cond.instanceMethod yX1_size, Cond.selects RX1 yX1_size yX1_size, Cond.code yX1_size cX1_size 1 (some .int)]
def wsX4_register : List Cond := .code yX4_register cX4_register 4 (some .int) :: ((wsX4_register_r1 ++ wsX4_register_r2) ++ wsX40 ++ wsX20 ++ wsX10)
def wsX4_known : List Cond := .code yX4_known cX4_known 4 (some .int) :: ([.fieldLink RX4 125 "ViewStamps$Node" "told" "[I", .methodLink RX4 34 yX4_nodeAt, .instanceMethod yX4_nodeAt, .selects RX4 yX4_nodeAt yX4_nodeAt, .initialized RX4, .code yX4_nodeAt cX4_nodeAt 2 (some (.object "ViewStamps$Node")), .fieldLink RX4 23 "ViewStamps" "nodes" "[LViewStamps$Node;", .methodLink RX4 42 yX2_leads, .instanceMethod yX2_leads, .selects RX2 yX2_leads yX2_leads, .initialized RX2, .code yX2_leads cX2_leads 1 (some .boolean), .fieldLink RX2 48 "ViewStamps$Node" "status" "I", .methodLink RX2 82 yX2_isFirst, .instanceMethod yX2_isFirst, .selects RX2 yX2_isFirst yX2_isFirst, .code yX2_isFirst cX2_isFirst 1 (some .boolean), .fieldLink RX2 51 "ViewStamps$Node" "view" "I", .fieldLink RX2 15 "ViewStamps$Node" "number" "I", .methodLink RX2 184 yX2_firstOf, .instanceMethod yX2_firstOf, .selects RX2 yX2_firstOf yX2_firstOf, .code yX2_firstOf cX2_firstOf 2 (some .int), .fieldLink RX2 19 "ViewStamps$Node" "size" "I"] ++ wsX20 ++ wsX40)
def wsX4_letter_r1 : List Cond := [Cond.fieldLink RX4 15 "ViewStamps" "pool" "LViewStamps$Pool;", Cond.methodLink RX4 129 yX3_at, Cond.instanceMethod yX3_at, Cond.selects RX3 yX3_at yX3_at, Cond.initialized RX3, Cond.code yX3_at cX3_at 2 (some (.object "ViewStamps$Letter")), Cond.fieldLink RX3 17 "ViewStamps$Pool" "posted" "I", Cond.fieldLink RX3 11 "ViewStamps$Pool" "letters" "[LViewStamps$Letter;", Cond.methodLink RX4 132 yX0_field, Cond.instanceMethod yX0_field, Cond.selects RX0 yX0_field yX0_field, Cond.initialized RX0, Cond.code yX0_field cX0_field 2 (some .int), Cond.fieldLink RX0 9 "ViewStamps$Letter" "from" "I", Cond.fieldLink RX0 15 "ViewStamps$Letter" "to" "I", Cond.fieldLink RX0 18 "ViewStamps$Letter" "sort" "I", Cond.fieldLink RX0 21 "ViewStamps$Letter" "view" "I", Cond.fieldLink RX0 24 "ViewStamps$Letter" "log" "LViewStamps$Log;", Cond.fieldLink RX0 28 "ViewStamps$Letter" "sure" "I", Cond.fieldLink RX0 31 "ViewStamps$Letter" "count" "I", Cond.fieldLink RX0 40 "ViewStamps$Letter" "dropped" "Z", Cond.methodLink RX0 34 yX1_size, Cond.instanceMethod yX1_size, Cond.selects RX1 yX1_size yX1_size]
def wsX4_letter_r2 : List Cond := [Cond.initialized RX1, Cond.code yX1_size cX1_size 1 (some .int), Cond.fieldLink RX1 9 "ViewStamps$Log" "cells" "[I"]
def wsX4_letter : List Cond := .code yX4_letter cX4_letter 4 (some .int) :: ((wsX4_letter_r1 ++ wsX4_letter_r2) ++ wsX40 ++ wsX30 ++ wsX00 ++ wsX10)
def wsX4_countCutLines : List Cond := .code yX4_countCutLines cX4_countCutLines 6 (some .int) :: ([.fieldLink RX4 30 "ViewStamps" "cutLines" "[Z"] ++ wsX40)
def wsX4_countNormal : List Cond := .code yX4_countNormal cX4_countNormal 6 (some .int) :: ([.fieldLink RX4 23 "ViewStamps" "nodes" "[LViewStamps$Node;", .fieldLink RX4 101 "ViewStamps$Node" "status" "I"] ++ wsX40 ++ wsX20)
def wsX4_count : List Cond := .code yX4_count cX4_count 2 (some .int) :: ([.fieldLink RX4 15 "ViewStamps" "pool" "LViewStamps$Pool;", .fieldLink RX4 133 "ViewStamps$Pool" "posted" "I", .fieldLink RX4 139 "ViewStamps$Pool" "lost" "I", .methodLink RX4 136 yX3_countDropped, .instanceMethod yX3_countDropped, .selects RX3 yX3_countDropped yX3_countDropped, .initialized RX3, .code yX3_countDropped cX3_countDropped 6 (some .int), .fieldLink RX3 11 "ViewStamps$Pool" "letters" "[LViewStamps$Letter;", .fieldLink RX3 28 "ViewStamps$Letter" "dropped" "Z", .methodLink RX4 142 yX4_countCutLines, .instanceMethod yX4_countCutLines, .selects RX4 yX4_countCutLines yX4_countCutLines, .initialized RX4, .code yX4_countCutLines cX4_countCutLines 6 (some .int), .fieldLink RX4 30 "ViewStamps" "cutLines" "[Z", .methodLink RX4 145 yX4_countNormal, .instanceMethod yX4_countNormal, .selects RX4 yX4_countNormal yX4_countNormal, .code yX4_countNormal cX4_countNormal 6 (some .int), .fieldLink RX4 23 "ViewStamps" "nodes" "[LViewStamps$Node;", .fieldLink RX4 101 "ViewStamps$Node" "status" "I"] ++ wsX40 ++ wsX30 ++ wsX00 ++ wsX20)
def wsX4_unlike : List Cond := .code yX4_unlike cX4_unlike 4 (some .int) :: ([.fieldLink RX4 23 "ViewStamps" "nodes" "[LViewStamps$Node;", .fieldLink RX4 148 "ViewStamps$Node" "sure" "I", .methodLink RX4 151 Lib.Math.min.name, .static Lib.Math.min.name, .initialized "java/lang/Math", .code Lib.Math.min.name Lib.Math.min.code 2 (some .int), .fieldLink RX4 46 "ViewStamps$Node" "log" "LViewStamps$Log;", .methodLink RX4 156 yX1_isLike, .instanceMethod yX1_isLike, .selects RX1 yX1_isLike yX1_isLike, .initialized RX1, .code yX1_isLike cX1_isLike 5 (some .boolean), .methodLink RX1 29 yX1_field, .instanceMethod yX1_field, .selects RX1 yX1_field yX1_field, .code yX1_field cX1_field 3 (some .int), .constant RX1 19 (-2147483648), .fieldLink RX1 9 "ViewStamps$Log" "cells" "[I", .methodLink RX1 15 yX1_size, .instanceMethod yX1_size, .selects RX1 yX1_size yX1_size, .code yX1_size cX1_size 1 (some .int)] ++ wsX40 ++ wsX20 ++ wsX10)
def wsX4_digestOfNode_r1 : List Cond := [Cond.constantLong RX4 166 (31), Cond.fieldLink RX4 46 "ViewStamps$Node" "log" "LViewStamps$Log;", Cond.methodLink RX4 114 yX2_field, Cond.instanceMethod yX2_field, Cond.selects RX2 yX2_field yX2_field, Cond.initialized RX2, Cond.code yX2_field cX2_field 3 (some .int), Cond.fieldLink RX2 48 "ViewStamps$Node" "status" "I", Cond.fieldLink RX2 51 "ViewStamps$Node" "view" "I", Cond.fieldLink RX2 54 "ViewStamps$Node" "lastView" "I", Cond.fieldLink RX2 33 "ViewStamps$Node" "log" "LViewStamps$Log;", Cond.fieldLink RX2 62 "ViewStamps$Node" "sure" "I", Cond.fieldLink RX2 65 "ViewStamps$Node" "voters" "I", Cond.fieldLink RX2 38 "ViewStamps$Node" "votes" "[LViewStamps$Letter;", Cond.fieldLink RX2 78 "ViewStamps$Node" "voted" "Z", Cond.fieldLink RX2 42 "ViewStamps$Node" "tales" "[LViewStamps$Letter;", Cond.methodLink RX2 57 yX1_size, Cond.instanceMethod yX1_size, Cond.selects RX1 yX1_size yX1_size, Cond.initialized RX1, Cond.code yX1_size cX1_size 1 (some .int), Cond.fieldLink RX1 9 "ViewStamps$Log" "cells" "[I", Cond.methodLink RX2 68 yJ6_bitCount_0f7a4, Cond.static yJ6_bitCount_0f7a4]
def wsX4_digestOfNode_r2 : List Cond := [Cond.initialized RJ6, Cond.code yJ6_bitCount_0f7a4 cJ6_bitCount_0f7a4 1 (some .int), Cond.constant RJ6 265 (1431655765), Cond.constant RJ6 266 (858993459), Cond.constant RJ6 267 (252645135), Cond.methodLink RX2 74 yX2_countLetters, Cond.static yX2_countLetters, Cond.code yX2_countLetters cX2_countLetters 6 (some .int), Cond.methodLink RX4 54 yX1_size, Cond.methodLink RX4 119 yX1_field, Cond.instanceMethod yX1_field, Cond.selects RX1 yX1_field yX1_field, Cond.code yX1_field cX1_field 3 (some .int), Cond.constant RX1 19 (-2147483648), Cond.methodLink RX1 15 yX1_size, Cond.methodLink RX4 121 yX2_workOutRegisters, Cond.instanceMethod yX2_workOutRegisters, Cond.selects RX2 yX2_workOutRegisters yX2_workOutRegisters, Cond.code yX2_workOutRegisters cX2_workOutRegisters 1 (some (.array .int)), Cond.fieldLink RX2 9 "ViewStamps$Node" "registers" "[I", Cond.methodLink RX2 86 yJ7_fill_53178, Cond.static yJ7_fill_53178, Cond.initialized RJ7, Cond.code yJ7_fill_53178 cJ7_fill_53178 4 none]
def wsX4_digestOfNode_r3 : List Cond := [Cond.methodLink RX2 92 yX1_play, Cond.instanceMethod yX1_play, Cond.selects RX1 yX1_play yX1_play, Cond.code yX1_play cX1_play 6 none, Cond.methodLink RX1 29 yX1_field]
def wsX4_digestOfNode : List Cond := .code yX4_digestOfNode cX4_digestOfNode 9 (some .long) :: ((wsX4_digestOfNode_r1 ++ (wsX4_digestOfNode_r2 ++ wsX4_digestOfNode_r3)) ++ wsX20 ++ wsX10)
def wsX4_digest_r1 : List Cond := [Cond.constantLong RX4 160 (17), Cond.fieldLink RX4 23 "ViewStamps" "nodes" "[LViewStamps$Node;", Cond.fieldLink RX4 15 "ViewStamps" "pool" "LViewStamps$Pool;", Cond.fieldLink RX4 133 "ViewStamps$Pool" "posted" "I", Cond.constantLong RX4 166 (31), Cond.methodLink RX4 162 yX4_digestOfNode, Cond.static yX4_digestOfNode, Cond.initialized RX4, Cond.code yX4_digestOfNode cX4_digestOfNode 9 (some .long), Cond.fieldLink RX4 46 "ViewStamps$Node" "log" "LViewStamps$Log;", Cond.methodLink RX4 114 yX2_field, Cond.instanceMethod yX2_field, Cond.selects RX2 yX2_field yX2_field, Cond.initialized RX2, Cond.code yX2_field cX2_field 3 (some .int), Cond.fieldLink RX2 48 "ViewStamps$Node" "status" "I", Cond.fieldLink RX2 51 "ViewStamps$Node" "view" "I", Cond.fieldLink RX2 54 "ViewStamps$Node" "lastView" "I", Cond.fieldLink RX2 33 "ViewStamps$Node" "log" "LViewStamps$Log;", Cond.fieldLink RX2 62 "ViewStamps$Node" "sure" "I", Cond.fieldLink RX2 65 "ViewStamps$Node" "voters" "I", Cond.fieldLink RX2 38 "ViewStamps$Node" "votes" "[LViewStamps$Letter;", Cond.fieldLink RX2 78 "ViewStamps$Node" "voted" "Z", Cond.fieldLink RX2 42 "ViewStamps$Node" "tales" "[LViewStamps$Letter;"]
def wsX4_digest_r2 : List Cond := [Cond.methodLink RX2 57 yX1_size, Cond.instanceMethod yX1_size, Cond.selects RX1 yX1_size yX1_size, Cond.initialized RX1, Cond.code yX1_size cX1_size 1 (some .int), Cond.fieldLink RX1 9 "ViewStamps$Log" "cells" "[I", Cond.methodLink RX2 68 yJ6_bitCount_0f7a4, Cond.static yJ6_bitCount_0f7a4, Cond.initialized RJ6, Cond.code yJ6_bitCount_0f7a4 cJ6_bitCount_0f7a4 1 (some .int), Cond.constant RJ6 265 (1431655765), Cond.constant RJ6 266 (858993459), Cond.constant RJ6 267 (252645135), Cond.methodLink RX2 74 yX2_countLetters, Cond.static yX2_countLetters, Cond.code yX2_countLetters cX2_countLetters 6 (some .int), Cond.methodLink RX4 54 yX1_size, Cond.methodLink RX4 119 yX1_field, Cond.instanceMethod yX1_field, Cond.selects RX1 yX1_field yX1_field, Cond.code yX1_field cX1_field 3 (some .int), Cond.constant RX1 19 (-2147483648), Cond.methodLink RX1 15 yX1_size, Cond.methodLink RX4 121 yX2_workOutRegisters]
def wsX4_digest_r3 : List Cond := [Cond.instanceMethod yX2_workOutRegisters, Cond.selects RX2 yX2_workOutRegisters yX2_workOutRegisters, Cond.code yX2_workOutRegisters cX2_workOutRegisters 1 (some (.array .int)), Cond.fieldLink RX2 9 "ViewStamps$Node" "registers" "[I", Cond.methodLink RX2 86 yJ7_fill_53178, Cond.static yJ7_fill_53178, Cond.initialized RJ7, Cond.code yJ7_fill_53178 cJ7_fill_53178 4 none, Cond.methodLink RX2 92 yX1_play, Cond.instanceMethod yX1_play, Cond.selects RX1 yX1_play yX1_play, Cond.code yX1_play cX1_play 6 none, Cond.methodLink RX1 29 yX1_field, Cond.methodLink RX4 168 yX4_letter, Cond.instanceMethod yX4_letter, Cond.selects RX4 yX4_letter yX4_letter, Cond.code yX4_letter cX4_letter 4 (some .int), Cond.methodLink RX4 129 yX3_at, Cond.instanceMethod yX3_at, Cond.selects RX3 yX3_at yX3_at, Cond.initialized RX3, Cond.code yX3_at cX3_at 2 (some (.object "ViewStamps$Letter")), Cond.fieldLink RX3 17 "ViewStamps$Pool" "posted" "I", Cond.fieldLink RX3 11 "ViewStamps$Pool" "letters" "[LViewStamps$Letter;"]
def wsX4_digest_r4 : List Cond := [Cond.methodLink RX4 132 yX0_field, Cond.instanceMethod yX0_field, Cond.selects RX0 yX0_field yX0_field, Cond.initialized RX0, Cond.code yX0_field cX0_field 2 (some .int), Cond.fieldLink RX0 9 "ViewStamps$Letter" "from" "I", Cond.fieldLink RX0 15 "ViewStamps$Letter" "to" "I", Cond.fieldLink RX0 18 "ViewStamps$Letter" "sort" "I", Cond.fieldLink RX0 21 "ViewStamps$Letter" "view" "I", Cond.fieldLink RX0 24 "ViewStamps$Letter" "log" "LViewStamps$Log;", Cond.fieldLink RX0 28 "ViewStamps$Letter" "sure" "I", Cond.fieldLink RX0 31 "ViewStamps$Letter" "count" "I", Cond.fieldLink RX0 40 "ViewStamps$Letter" "dropped" "Z", Cond.methodLink RX0 34 yX1_size]
def wsX4_digest : List Cond := .code yX4_digest cX4_digest 7 (some .long) :: ((wsX4_digest_r1 ++ (wsX4_digest_r2 ++ (wsX4_digest_r3 ++ wsX4_digest_r4))) ++ wsX40 ++ wsX30 ++ wsX20 ++ wsX10 ++ wsX00)
def wsX5_init_r1 : List Cond := [Cond.methodLink RX5 1 objectInit, Cond.instanceMethod objectInit, Cond.code objectInit ⟨#[0xb1]⟩ 1 none, Cond.arrayClass .int, Cond.fieldLink RX5 7 "ViewStampsModel" "logs" "[I", Cond.fieldLink RX5 13 "ViewStampsModel" "many" "[I", Cond.fieldLink RX5 16 "ViewStampsModel" "sure" "[I", Cond.fieldLink RX5 19 "ViewStampsModel" "status" "[I", Cond.fieldLink RX5 22 "ViewStampsModel" "view" "[I", Cond.fieldLink RX5 25 "ViewStampsModel" "lastView" "[I", Cond.arrayClass .boolean, Cond.fieldLink RX5 28 "ViewStampsModel" "voted" "[Z", Cond.fieldLink RX5 32 "ViewStampsModel" "nonce" "[I", Cond.fieldLink RX5 35 "ViewStampsModel" "knows" "[I", Cond.fieldLink RX5 38 "ViewStampsModel" "isVoter" "[Z", Cond.fieldLink RX5 41 "ViewStampsModel" "hasVote" "[Z", Cond.fieldLink RX5 44 "ViewStampsModel" "voteCount" "[I", Cond.fieldLink RX5 47 "ViewStampsModel" "hasTale" "[Z", Cond.fieldLink RX5 50 "ViewStampsModel" "taleView" "[I", Cond.fieldLink RX5 53 "ViewStampsModel" "isCut" "[Z", Cond.fieldLink RX5 56 "ViewStampsModel" "from" "[I", Cond.fieldLink RX5 59 "ViewStampsModel" "to" "[I", Cond.fieldLink RX5 62 "ViewStampsModel" "sort" "[I", Cond.fieldLink RX5 65 "ViewStampsModel" "letterView" "[I"]
def wsX5_init_r2 : List Cond := [Cond.fieldLink RX5 68 "ViewStampsModel" "counts" "[I", Cond.fieldLink RX5 71 "ViewStampsModel" "dropped" "[Z", Cond.fieldLink RX5 74 "ViewStampsModel" "registers" "[I", Cond.fieldLink RX5 77 "ViewStampsModel" "n" "I", Cond.fieldLink RX5 81 "ViewStampsModel" "f" "I"]
def wsX5_init : List Cond := .code yX5_init cX5_init 2 none :: ((wsX5_init_r1 ++ wsX5_init_r2) ++ wsX50)
def wsX5_in : List Cond := .code yX5_in cX5_in 3 (some .boolean) :: ([])
def wsX5_isNode : List Cond := .code yX5_isNode cX5_isNode 2 (some .boolean) :: ([.fieldLink RX5 77 "ViewStampsModel" "n" "I", .methodLink RX5 84 yX5_in, .static yX5_in, .initialized RX5, .code yX5_in cX5_in 3 (some .boolean)] ++ wsX50)
def wsX5_isFirst : List Cond := .code yX5_isFirst cX5_isFirst 2 (some .boolean) :: ([.fieldLink RX5 22 "ViewStampsModel" "view" "[I", .fieldLink RX5 77 "ViewStampsModel" "n" "I"] ++ wsX50)
def wsX5_copyLog : List Cond := .code yX5_copyLog cX5_copyLog 4 none :: ([.fieldLink RX5 13 "ViewStampsModel" "many" "[I", .fieldLink RX5 16 "ViewStampsModel" "sure" "[I", .fieldLink RX5 7 "ViewStampsModel" "logs" "[I"] ++ wsX50)
def wsX5_lesser : List Cond := .code yX5_lesser cX5_lesser 2 (some .int) :: ([])
def wsX5_greater : List Cond := .code yX5_greater cX5_greater 2 (some .int) :: ([])
def wsX5_hasLog : List Cond := .code yX5_hasLog cX5_hasLog 1 (some .boolean) :: ([])
def wsX5_post : List Cond := .code yX5_post cX5_post 6 none :: ([.fieldLink RX5 88 "ViewStampsModel" "letters" "I", .fieldLink RX5 91 "ViewStampsModel" "lost" "I", .fieldLink RX5 56 "ViewStampsModel" "from" "[I", .fieldLink RX5 59 "ViewStampsModel" "to" "[I", .fieldLink RX5 62 "ViewStampsModel" "sort" "[I", .fieldLink RX5 65 "ViewStampsModel" "letterView" "[I", .fieldLink RX5 68 "ViewStampsModel" "counts" "[I", .methodLink RX5 94 yX5_hasLog, .static yX5_hasLog, .initialized RX5, .code yX5_hasLog cX5_hasLog 1 (some .boolean), .methodLink RX5 98 yX5_copyLog, .instanceMethod yX5_copyLog, .selects RX5 yX5_copyLog yX5_copyLog, .code yX5_copyLog cX5_copyLog 4 none, .fieldLink RX5 13 "ViewStampsModel" "many" "[I", .fieldLink RX5 16 "ViewStampsModel" "sure" "[I", .fieldLink RX5 7 "ViewStampsModel" "logs" "[I"] ++ wsX50)
def wsX5_postAll : List Cond := .code yX5_postAll cX5_postAll 6 (some .int) :: ([.fieldLink RX5 77 "ViewStampsModel" "n" "I", .methodLink RX5 102 yX5_post, .instanceMethod yX5_post, .selects RX5 yX5_post yX5_post, .initialized RX5, .code yX5_post cX5_post 6 none, .fieldLink RX5 88 "ViewStampsModel" "letters" "I", .fieldLink RX5 91 "ViewStampsModel" "lost" "I", .fieldLink RX5 56 "ViewStampsModel" "from" "[I", .fieldLink RX5 59 "ViewStampsModel" "to" "[I", .fieldLink RX5 62 "ViewStampsModel" "sort" "[I", .fieldLink RX5 65 "ViewStampsModel" "letterView" "[I", .fieldLink RX5 68 "ViewStampsModel" "counts" "[I", .methodLink RX5 94 yX5_hasLog, .static yX5_hasLog, .code yX5_hasLog cX5_hasLog 1 (some .boolean), .methodLink RX5 98 yX5_copyLog, .instanceMethod yX5_copyLog, .selects RX5 yX5_copyLog yX5_copyLog, .code yX5_copyLog cX5_copyLog 4 none, .fieldLink RX5 13 "ViewStampsModel" "many" "[I", .fieldLink RX5 16 "ViewStampsModel" "sure" "[I", .fieldLink RX5 7 "ViewStampsModel" "logs" "[I"] ++ wsX50)
def wsX5_postOk : List Cond := .code yX5_postOk cX5_postOk 2 none :: ([.fieldLink RX5 22 "ViewStampsModel" "view" "[I", .fieldLink RX5 77 "ViewStampsModel" "n" "I", .fieldLink RX5 13 "ViewStampsModel" "many" "[I", .methodLink RX5 102 yX5_post, .instanceMethod yX5_post, .selects RX5 yX5_post yX5_post, .initialized RX5, .code yX5_post cX5_post 6 none, .fieldLink RX5 88 "ViewStampsModel" "letters" "I", .fieldLink RX5 91 "ViewStampsModel" "lost" "I", .fieldLink RX5 56 "ViewStampsModel" "from" "[I", .fieldLink RX5 59 "ViewStampsModel" "to" "[I", .fieldLink RX5 62 "ViewStampsModel" "sort" "[I", .fieldLink RX5 65 "ViewStampsModel" "letterView" "[I", .fieldLink RX5 68 "ViewStampsModel" "counts" "[I", .methodLink RX5 94 yX5_hasLog, .static yX5_hasLog, .code yX5_hasLog cX5_hasLog 1 (some .boolean), .methodLink RX5 98 yX5_copyLog, .instanceMethod yX5_copyLog, .selects RX5 yX5_copyLog yX5_copyLog, .code yX5_copyLog cX5_copyLog 4 none, .fieldLink RX5 16 "ViewStampsModel" "sure" "[I", .fieldLink RX5 7 "ViewStampsModel" "logs" "[I"] ++ wsX50)
def wsX5_havingAs_r1 : List Cond := [Cond.fieldLink RX5 16 "ViewStampsModel" "sure" "[I", Cond.fieldLink RX5 13 "ViewStampsModel" "many" "[I", Cond.fieldLink RX5 22 "ViewStampsModel" "view" "[I", Cond.fieldLink RX5 25 "ViewStampsModel" "lastView" "[I", Cond.fieldLink RX5 19 "ViewStampsModel" "status" "[I", Cond.methodLink RX5 98 yX5_copyLog, Cond.instanceMethod yX5_copyLog, Cond.selects RX5 yX5_copyLog yX5_copyLog, Cond.initialized RX5, Cond.code yX5_copyLog cX5_copyLog 4 none, Cond.fieldLink RX5 7 "ViewStampsModel" "logs" "[I", Cond.methodLink RX5 106 yX5_greater, Cond.static yX5_greater, Cond.code yX5_greater cX5_greater 2 (some .int), Cond.methodLink RX5 110 yX5_lesser, Cond.static yX5_lesser, Cond.code yX5_lesser cX5_lesser 2 (some .int), Cond.methodLink RX5 113 yX5_postOk, Cond.instanceMethod yX5_postOk, Cond.selects RX5 yX5_postOk yX5_postOk, Cond.code yX5_postOk cX5_postOk 2 none, Cond.fieldLink RX5 77 "ViewStampsModel" "n" "I", Cond.methodLink RX5 102 yX5_post, Cond.instanceMethod yX5_post]
def wsX5_havingAs_r2 : List Cond := [Cond.selects RX5 yX5_post yX5_post, Cond.code yX5_post cX5_post 6 none, Cond.fieldLink RX5 88 "ViewStampsModel" "letters" "I", Cond.fieldLink RX5 91 "ViewStampsModel" "lost" "I", Cond.fieldLink RX5 56 "ViewStampsModel" "from" "[I", Cond.fieldLink RX5 59 "ViewStampsModel" "to" "[I", Cond.fieldLink RX5 62 "ViewStampsModel" "sort" "[I", Cond.fieldLink RX5 65 "ViewStampsModel" "letterView" "[I", Cond.fieldLink RX5 68 "ViewStampsModel" "counts" "[I", Cond.methodLink RX5 94 yX5_hasLog, Cond.static yX5_hasLog, Cond.code yX5_hasLog cX5_hasLog 1 (some .boolean)]
def wsX5_havingAs : List Cond := .code yX5_havingAs cX5_havingAs 5 none :: ((wsX5_havingAs_r1 ++ wsX5_havingAs_r2) ++ wsX50)
def wsX5_prepares_r1 : List Cond := [Cond.fieldLink RX5 22 "ViewStampsModel" "view" "[I", Cond.fieldLink RX5 19 "ViewStampsModel" "status" "[I", Cond.fieldLink RX5 16 "ViewStampsModel" "sure" "[I", Cond.fieldLink RX5 13 "ViewStampsModel" "many" "[I", Cond.methodLink RX5 117 yX5_havingAs, Cond.instanceMethod yX5_havingAs, Cond.selects RX5 yX5_havingAs yX5_havingAs, Cond.initialized RX5, Cond.code yX5_havingAs cX5_havingAs 5 none, Cond.fieldLink RX5 25 "ViewStampsModel" "lastView" "[I", Cond.methodLink RX5 98 yX5_copyLog, Cond.instanceMethod yX5_copyLog, Cond.selects RX5 yX5_copyLog yX5_copyLog, Cond.code yX5_copyLog cX5_copyLog 4 none, Cond.fieldLink RX5 7 "ViewStampsModel" "logs" "[I", Cond.methodLink RX5 106 yX5_greater, Cond.static yX5_greater, Cond.code yX5_greater cX5_greater 2 (some .int), Cond.methodLink RX5 110 yX5_lesser, Cond.static yX5_lesser, Cond.code yX5_lesser cX5_lesser 2 (some .int), Cond.methodLink RX5 113 yX5_postOk, Cond.instanceMethod yX5_postOk, Cond.selects RX5 yX5_postOk yX5_postOk]
def wsX5_prepares_r2 : List Cond := [Cond.code yX5_postOk cX5_postOk 2 none, Cond.fieldLink RX5 77 "ViewStampsModel" "n" "I", Cond.methodLink RX5 102 yX5_post, Cond.instanceMethod yX5_post, Cond.selects RX5 yX5_post yX5_post, Cond.code yX5_post cX5_post 6 none, Cond.fieldLink RX5 88 "ViewStampsModel" "letters" "I", Cond.fieldLink RX5 91 "ViewStampsModel" "lost" "I", Cond.fieldLink RX5 56 "ViewStampsModel" "from" "[I", Cond.fieldLink RX5 59 "ViewStampsModel" "to" "[I", Cond.fieldLink RX5 62 "ViewStampsModel" "sort" "[I", Cond.fieldLink RX5 65 "ViewStampsModel" "letterView" "[I", Cond.fieldLink RX5 68 "ViewStampsModel" "counts" "[I", Cond.methodLink RX5 94 yX5_hasLog, Cond.static yX5_hasLog, Cond.code yX5_hasLog cX5_hasLog 1 (some .boolean), Cond.methodLink RX5 121 yX5_isFirst, Cond.instanceMethod yX5_isFirst, Cond.selects RX5 yX5_isFirst yX5_isFirst, Cond.code yX5_isFirst cX5_isFirst 2 (some .boolean)]
def wsX5_prepares : List Cond := .code yX5_prepares cX5_prepares 6 (some .boolean) :: ((wsX5_prepares_r1 ++ wsX5_prepares_r2) ++ wsX50)
def wsX5_hears : List Cond := .code yX5_hears cX5_hears 8 (some .boolean) :: ([.fieldLink RX5 22 "ViewStampsModel" "view" "[I", .fieldLink RX5 19 "ViewStampsModel" "status" "[I", .fieldLink RX5 35 "ViewStampsModel" "knows" "[I", .fieldLink RX5 13 "ViewStampsModel" "many" "[I", .fieldLink RX5 16 "ViewStampsModel" "sure" "[I", .fieldLink RX5 77 "ViewStampsModel" "n" "I", .fieldLink RX5 81 "ViewStampsModel" "f" "I", .methodLink RX5 121 yX5_isFirst, .instanceMethod yX5_isFirst, .selects RX5 yX5_isFirst yX5_isFirst, .initialized RX5, .code yX5_isFirst cX5_isFirst 2 (some .boolean), .methodLink RX5 106 yX5_greater, .static yX5_greater, .code yX5_greater cX5_greater 2 (some .int)] ++ wsX50)
def wsX5_forget : List Cond := .code yX5_forget cX5_forget 3 none :: ([.fieldLink RX5 38 "ViewStampsModel" "isVoter" "[Z", .fieldLink RX5 41 "ViewStampsModel" "hasVote" "[Z", .fieldLink RX5 28 "ViewStampsModel" "voted" "[Z"] ++ wsX50)
def wsX5_changes_r1 : List Cond := [Cond.fieldLink RX5 22 "ViewStampsModel" "view" "[I", Cond.fieldLink RX5 19 "ViewStampsModel" "status" "[I", Cond.methodLink RX5 124 yX5_forget, Cond.instanceMethod yX5_forget, Cond.selects RX5 yX5_forget yX5_forget, Cond.initialized RX5, Cond.code yX5_forget cX5_forget 3 none, Cond.fieldLink RX5 38 "ViewStampsModel" "isVoter" "[Z", Cond.fieldLink RX5 41 "ViewStampsModel" "hasVote" "[Z", Cond.fieldLink RX5 28 "ViewStampsModel" "voted" "[Z", Cond.methodLink RX5 127 yX5_postAll, Cond.instanceMethod yX5_postAll, Cond.selects RX5 yX5_postAll yX5_postAll, Cond.code yX5_postAll cX5_postAll 6 (some .int), Cond.fieldLink RX5 77 "ViewStampsModel" "n" "I", Cond.methodLink RX5 102 yX5_post, Cond.instanceMethod yX5_post, Cond.selects RX5 yX5_post yX5_post, Cond.code yX5_post cX5_post 6 none, Cond.fieldLink RX5 88 "ViewStampsModel" "letters" "I", Cond.fieldLink RX5 91 "ViewStampsModel" "lost" "I", Cond.fieldLink RX5 56 "ViewStampsModel" "from" "[I", Cond.fieldLink RX5 59 "ViewStampsModel" "to" "[I", Cond.fieldLink RX5 62 "ViewStampsModel" "sort" "[I"]
def wsX5_changes_r2 : List Cond := [Cond.fieldLink RX5 65 "ViewStampsModel" "letterView" "[I", Cond.fieldLink RX5 68 "ViewStampsModel" "counts" "[I", Cond.methodLink RX5 94 yX5_hasLog, Cond.static yX5_hasLog, Cond.code yX5_hasLog cX5_hasLog 1 (some .boolean), Cond.methodLink RX5 98 yX5_copyLog, Cond.instanceMethod yX5_copyLog, Cond.selects RX5 yX5_copyLog yX5_copyLog, Cond.code yX5_copyLog cX5_copyLog 4 none, Cond.fieldLink RX5 13 "ViewStampsModel" "many" "[I", Cond.fieldLink RX5 16 "ViewStampsModel" "sure" "[I", Cond.fieldLink RX5 7 "ViewStampsModel" "logs" "[I"]
def wsX5_changes : List Cond := .code yX5_changes cX5_changes 4 none :: ((wsX5_changes_r1 ++ wsX5_changes_r2) ++ wsX50)
def wsX5_voters : List Cond := .code yX5_voters cX5_voters 4 (some .int) :: ([.fieldLink RX5 77 "ViewStampsModel" "n" "I", .fieldLink RX5 38 "ViewStampsModel" "isVoter" "[Z"] ++ wsX50)
def wsX5_votes : List Cond := .code yX5_votes cX5_votes 4 (some .int) :: ([.fieldLink RX5 77 "ViewStampsModel" "n" "I", .fieldLink RX5 41 "ViewStampsModel" "hasVote" "[Z"] ++ wsX50)
def wsX5_takesVote_r1 : List Cond := [Cond.fieldLink RX5 19 "ViewStampsModel" "status" "[I", Cond.fieldLink RX5 41 "ViewStampsModel" "hasVote" "[Z", Cond.fieldLink RX5 44 "ViewStampsModel" "voteCount" "[I", Cond.fieldLink RX5 81 "ViewStampsModel" "f" "I", Cond.fieldLink RX5 77 "ViewStampsModel" "n" "I", Cond.fieldLink RX5 16 "ViewStampsModel" "sure" "[I", Cond.fieldLink RX5 13 "ViewStampsModel" "many" "[I", Cond.fieldLink RX5 25 "ViewStampsModel" "lastView" "[I", Cond.fieldLink RX5 22 "ViewStampsModel" "view" "[I", Cond.fieldLink RX5 35 "ViewStampsModel" "knows" "[I", Cond.methodLink RX5 98 yX5_copyLog, Cond.instanceMethod yX5_copyLog, Cond.selects RX5 yX5_copyLog yX5_copyLog, Cond.initialized RX5, Cond.code yX5_copyLog cX5_copyLog 4 none, Cond.fieldLink RX5 7 "ViewStampsModel" "logs" "[I", Cond.methodLink RX5 142 yX5_votes, Cond.instanceMethod yX5_votes, Cond.selects RX5 yX5_votes yX5_votes, Cond.code yX5_votes cX5_votes 4 (some .int), Cond.methodLink RX5 106 yX5_greater, Cond.static yX5_greater, Cond.code yX5_greater cX5_greater 2 (some .int), Cond.methodLink RX5 110 yX5_lesser]
def wsX5_takesVote_r2 : List Cond := [Cond.static yX5_lesser, Cond.code yX5_lesser cX5_lesser 2 (some .int), Cond.methodLink RX5 127 yX5_postAll, Cond.instanceMethod yX5_postAll, Cond.selects RX5 yX5_postAll yX5_postAll, Cond.code yX5_postAll cX5_postAll 6 (some .int), Cond.methodLink RX5 102 yX5_post, Cond.instanceMethod yX5_post, Cond.selects RX5 yX5_post yX5_post, Cond.code yX5_post cX5_post 6 none, Cond.fieldLink RX5 88 "ViewStampsModel" "letters" "I", Cond.fieldLink RX5 91 "ViewStampsModel" "lost" "I", Cond.fieldLink RX5 56 "ViewStampsModel" "from" "[I", Cond.fieldLink RX5 59 "ViewStampsModel" "to" "[I", Cond.fieldLink RX5 62 "ViewStampsModel" "sort" "[I", Cond.fieldLink RX5 65 "ViewStampsModel" "letterView" "[I", Cond.fieldLink RX5 68 "ViewStampsModel" "counts" "[I", Cond.methodLink RX5 94 yX5_hasLog, Cond.static yX5_hasLog, Cond.code yX5_hasLog cX5_hasLog 1 (some .boolean)]
def wsX5_takesVote : List Cond := .code yX5_takesVote cX5_takesVote 10 (some .boolean) :: ((wsX5_takesVote_r1 ++ wsX5_takesVote_r2) ++ wsX50)
def wsX5_isAsked_r1 : List Cond := [Cond.fieldLink RX5 22 "ViewStampsModel" "view" "[I", Cond.fieldLink RX5 19 "ViewStampsModel" "status" "[I", Cond.fieldLink RX5 38 "ViewStampsModel" "isVoter" "[Z", Cond.fieldLink RX5 81 "ViewStampsModel" "f" "I", Cond.fieldLink RX5 28 "ViewStampsModel" "voted" "[Z", Cond.fieldLink RX5 25 "ViewStampsModel" "lastView" "[I", Cond.fieldLink RX5 77 "ViewStampsModel" "n" "I", Cond.methodLink RX5 131 yX5_changes, Cond.instanceMethod yX5_changes, Cond.selects RX5 yX5_changes yX5_changes, Cond.initialized RX5, Cond.code yX5_changes cX5_changes 4 none, Cond.methodLink RX5 124 yX5_forget, Cond.instanceMethod yX5_forget, Cond.selects RX5 yX5_forget yX5_forget, Cond.code yX5_forget cX5_forget 3 none, Cond.fieldLink RX5 41 "ViewStampsModel" "hasVote" "[Z", Cond.methodLink RX5 127 yX5_postAll, Cond.instanceMethod yX5_postAll, Cond.selects RX5 yX5_postAll yX5_postAll, Cond.code yX5_postAll cX5_postAll 6 (some .int), Cond.methodLink RX5 102 yX5_post, Cond.instanceMethod yX5_post, Cond.selects RX5 yX5_post yX5_post]
def wsX5_isAsked_r2 : List Cond := [Cond.code yX5_post cX5_post 6 none, Cond.fieldLink RX5 88 "ViewStampsModel" "letters" "I", Cond.fieldLink RX5 91 "ViewStampsModel" "lost" "I", Cond.fieldLink RX5 56 "ViewStampsModel" "from" "[I", Cond.fieldLink RX5 59 "ViewStampsModel" "to" "[I", Cond.fieldLink RX5 62 "ViewStampsModel" "sort" "[I", Cond.fieldLink RX5 65 "ViewStampsModel" "letterView" "[I", Cond.fieldLink RX5 68 "ViewStampsModel" "counts" "[I", Cond.methodLink RX5 94 yX5_hasLog, Cond.static yX5_hasLog, Cond.code yX5_hasLog cX5_hasLog 1 (some .boolean), Cond.methodLink RX5 98 yX5_copyLog, Cond.instanceMethod yX5_copyLog, Cond.selects RX5 yX5_copyLog yX5_copyLog, Cond.code yX5_copyLog cX5_copyLog 4 none, Cond.fieldLink RX5 13 "ViewStampsModel" "many" "[I", Cond.fieldLink RX5 16 "ViewStampsModel" "sure" "[I", Cond.fieldLink RX5 7 "ViewStampsModel" "logs" "[I", Cond.methodLink RX5 134 yX5_voters, Cond.instanceMethod yX5_voters, Cond.selects RX5 yX5_voters yX5_voters, Cond.code yX5_voters cX5_voters 4 (some .int), Cond.methodLink RX5 121 yX5_isFirst, Cond.instanceMethod yX5_isFirst]
def wsX5_isAsked_r3 : List Cond := [Cond.selects RX5 yX5_isFirst yX5_isFirst, Cond.code yX5_isFirst cX5_isFirst 2 (some .boolean), Cond.methodLink RX5 138 yX5_takesVote, Cond.instanceMethod yX5_takesVote, Cond.selects RX5 yX5_takesVote yX5_takesVote, Cond.code yX5_takesVote cX5_takesVote 10 (some .boolean), Cond.fieldLink RX5 44 "ViewStampsModel" "voteCount" "[I", Cond.fieldLink RX5 35 "ViewStampsModel" "knows" "[I", Cond.methodLink RX5 142 yX5_votes, Cond.instanceMethod yX5_votes, Cond.selects RX5 yX5_votes yX5_votes, Cond.code yX5_votes cX5_votes 4 (some .int), Cond.methodLink RX5 106 yX5_greater, Cond.static yX5_greater, Cond.code yX5_greater cX5_greater 2 (some .int), Cond.methodLink RX5 110 yX5_lesser, Cond.static yX5_lesser, Cond.code yX5_lesser cX5_lesser 2 (some .int)]
def wsX5_isAsked : List Cond := .code yX5_isAsked cX5_isAsked 6 (some .boolean) :: ((wsX5_isAsked_r1 ++ (wsX5_isAsked_r2 ++ wsX5_isAsked_r3)) ++ wsX50)
def wsX5_isVoted_r1 : List Cond := [Cond.fieldLink RX5 77 "ViewStampsModel" "n" "I", Cond.fieldLink RX5 22 "ViewStampsModel" "view" "[I", Cond.methodLink RX5 131 yX5_changes, Cond.instanceMethod yX5_changes, Cond.selects RX5 yX5_changes yX5_changes, Cond.initialized RX5, Cond.code yX5_changes cX5_changes 4 none, Cond.fieldLink RX5 19 "ViewStampsModel" "status" "[I", Cond.methodLink RX5 124 yX5_forget, Cond.instanceMethod yX5_forget, Cond.selects RX5 yX5_forget yX5_forget, Cond.code yX5_forget cX5_forget 3 none, Cond.fieldLink RX5 38 "ViewStampsModel" "isVoter" "[Z", Cond.fieldLink RX5 41 "ViewStampsModel" "hasVote" "[Z", Cond.fieldLink RX5 28 "ViewStampsModel" "voted" "[Z", Cond.methodLink RX5 127 yX5_postAll, Cond.instanceMethod yX5_postAll, Cond.selects RX5 yX5_postAll yX5_postAll, Cond.code yX5_postAll cX5_postAll 6 (some .int), Cond.methodLink RX5 102 yX5_post, Cond.instanceMethod yX5_post, Cond.selects RX5 yX5_post yX5_post, Cond.code yX5_post cX5_post 6 none, Cond.fieldLink RX5 88 "ViewStampsModel" "letters" "I"]
def wsX5_isVoted_r2 : List Cond := [Cond.fieldLink RX5 91 "ViewStampsModel" "lost" "I", Cond.fieldLink RX5 56 "ViewStampsModel" "from" "[I", Cond.fieldLink RX5 59 "ViewStampsModel" "to" "[I", Cond.fieldLink RX5 62 "ViewStampsModel" "sort" "[I", Cond.fieldLink RX5 65 "ViewStampsModel" "letterView" "[I", Cond.fieldLink RX5 68 "ViewStampsModel" "counts" "[I", Cond.methodLink RX5 94 yX5_hasLog, Cond.static yX5_hasLog, Cond.code yX5_hasLog cX5_hasLog 1 (some .boolean), Cond.methodLink RX5 98 yX5_copyLog, Cond.instanceMethod yX5_copyLog, Cond.selects RX5 yX5_copyLog yX5_copyLog, Cond.code yX5_copyLog cX5_copyLog 4 none, Cond.fieldLink RX5 13 "ViewStampsModel" "many" "[I", Cond.fieldLink RX5 16 "ViewStampsModel" "sure" "[I", Cond.fieldLink RX5 7 "ViewStampsModel" "logs" "[I", Cond.methodLink RX5 138 yX5_takesVote, Cond.instanceMethod yX5_takesVote, Cond.selects RX5 yX5_takesVote yX5_takesVote, Cond.code yX5_takesVote cX5_takesVote 10 (some .boolean), Cond.fieldLink RX5 44 "ViewStampsModel" "voteCount" "[I", Cond.fieldLink RX5 81 "ViewStampsModel" "f" "I", Cond.fieldLink RX5 25 "ViewStampsModel" "lastView" "[I", Cond.fieldLink RX5 35 "ViewStampsModel" "knows" "[I"]
def wsX5_isVoted_r3 : List Cond := [Cond.methodLink RX5 142 yX5_votes, Cond.instanceMethod yX5_votes, Cond.selects RX5 yX5_votes yX5_votes, Cond.code yX5_votes cX5_votes 4 (some .int), Cond.methodLink RX5 106 yX5_greater, Cond.static yX5_greater, Cond.code yX5_greater cX5_greater 2 (some .int), Cond.methodLink RX5 110 yX5_lesser, Cond.static yX5_lesser, Cond.code yX5_lesser cX5_lesser 2 (some .int)]
def wsX5_isVoted : List Cond := .code yX5_isVoted cX5_isVoted 7 (some .boolean) :: ((wsX5_isVoted_r1 ++ (wsX5_isVoted_r2 ++ wsX5_isVoted_r3)) ++ wsX50)
def wsX5_hearsTale : List Cond := .code yX5_hearsTale cX5_hearsTale 9 (some .boolean) :: ([.fieldLink RX5 19 "ViewStampsModel" "status" "[I", .fieldLink RX5 32 "ViewStampsModel" "nonce" "[I", .fieldLink RX5 47 "ViewStampsModel" "hasTale" "[Z", .fieldLink RX5 50 "ViewStampsModel" "taleView" "[I", .fieldLink RX5 77 "ViewStampsModel" "n" "I", .fieldLink RX5 81 "ViewStampsModel" "f" "I", .fieldLink RX5 22 "ViewStampsModel" "view" "[I", .fieldLink RX5 25 "ViewStampsModel" "lastView" "[I", .methodLink RX5 98 yX5_copyLog, .instanceMethod yX5_copyLog, .selects RX5 yX5_copyLog yX5_copyLog, .initialized RX5, .code yX5_copyLog cX5_copyLog 4 none, .fieldLink RX5 13 "ViewStampsModel" "many" "[I", .fieldLink RX5 16 "ViewStampsModel" "sure" "[I", .fieldLink RX5 7 "ViewStampsModel" "logs" "[I", .methodLink RX5 106 yX5_greater, .static yX5_greater, .code yX5_greater cX5_greater 2 (some .int)] ++ wsX50)
def wsX5_isNew : List Cond := .code yX5_isNew cX5_isNew 6 (some .boolean) :: ([.fieldLink RX5 13 "ViewStampsModel" "many" "[I", .fieldLink RX5 7 "ViewStampsModel" "logs" "[I"] ++ wsX50)
def wsX5_request_r1 : List Cond := [Cond.constant RX5 148 (1000000), Cond.fieldLink RX5 19 "ViewStampsModel" "status" "[I", Cond.fieldLink RX5 13 "ViewStampsModel" "many" "[I", Cond.fieldLink RX5 7 "ViewStampsModel" "logs" "[I", Cond.fieldLink RX5 22 "ViewStampsModel" "view" "[I", Cond.methodLink RX5 145 yX5_isNode, Cond.instanceMethod yX5_isNode, Cond.selects RX5 yX5_isNode yX5_isNode, Cond.initialized RX5, Cond.code yX5_isNode cX5_isNode 2 (some .boolean), Cond.fieldLink RX5 77 "ViewStampsModel" "n" "I", Cond.methodLink RX5 84 yX5_in, Cond.static yX5_in, Cond.code yX5_in cX5_in 3 (some .boolean), Cond.methodLink RX5 121 yX5_isFirst, Cond.instanceMethod yX5_isFirst, Cond.selects RX5 yX5_isFirst yX5_isFirst, Cond.code yX5_isFirst cX5_isFirst 2 (some .boolean), Cond.methodLink RX5 149 yX5_isNew, Cond.instanceMethod yX5_isNew, Cond.selects RX5 yX5_isNew yX5_isNew, Cond.code yX5_isNew cX5_isNew 6 (some .boolean), Cond.methodLink RX5 127 yX5_postAll, Cond.instanceMethod yX5_postAll]
def wsX5_request_r2 : List Cond := [Cond.selects RX5 yX5_postAll yX5_postAll, Cond.code yX5_postAll cX5_postAll 6 (some .int), Cond.methodLink RX5 102 yX5_post, Cond.instanceMethod yX5_post, Cond.selects RX5 yX5_post yX5_post, Cond.code yX5_post cX5_post 6 none, Cond.fieldLink RX5 88 "ViewStampsModel" "letters" "I", Cond.fieldLink RX5 91 "ViewStampsModel" "lost" "I", Cond.fieldLink RX5 56 "ViewStampsModel" "from" "[I", Cond.fieldLink RX5 59 "ViewStampsModel" "to" "[I", Cond.fieldLink RX5 62 "ViewStampsModel" "sort" "[I", Cond.fieldLink RX5 65 "ViewStampsModel" "letterView" "[I", Cond.fieldLink RX5 68 "ViewStampsModel" "counts" "[I", Cond.methodLink RX5 94 yX5_hasLog, Cond.static yX5_hasLog, Cond.code yX5_hasLog cX5_hasLog 1 (some .boolean), Cond.methodLink RX5 98 yX5_copyLog, Cond.instanceMethod yX5_copyLog, Cond.selects RX5 yX5_copyLog yX5_copyLog, Cond.code yX5_copyLog cX5_copyLog 4 none, Cond.fieldLink RX5 16 "ViewStampsModel" "sure" "[I"]
def wsX5_request : List Cond := .code yX5_request cX5_request 10 (some .int) :: ((wsX5_request_r1 ++ wsX5_request_r2) ++ wsX50)
def wsX5_isThere : List Cond := .code yX5_isThere cX5_isThere 2 (some .boolean) :: ([.fieldLink RX5 88 "ViewStampsModel" "letters" "I", .fieldLink RX5 71 "ViewStampsModel" "dropped" "[Z", .methodLink RX5 84 yX5_in, .static yX5_in, .initialized RX5, .code yX5_in cX5_in 3 (some .boolean)] ++ wsX50)
def wsX5_does_r1 : List Cond := [Cond.fieldLink RX5 59 "ViewStampsModel" "to" "[I", Cond.fieldLink RX5 65 "ViewStampsModel" "letterView" "[I", Cond.fieldLink RX5 62 "ViewStampsModel" "sort" "[I", Cond.fieldLink RX5 19 "ViewStampsModel" "status" "[I", Cond.fieldLink RX5 22 "ViewStampsModel" "view" "[I", Cond.fieldLink RX5 56 "ViewStampsModel" "from" "[I", Cond.fieldLink RX5 68 "ViewStampsModel" "counts" "[I", Cond.methodLink RX5 152 yX5_prepares, Cond.instanceMethod yX5_prepares, Cond.selects RX5 yX5_prepares yX5_prepares, Cond.initialized RX5, Cond.code yX5_prepares cX5_prepares 6 (some .boolean), Cond.fieldLink RX5 16 "ViewStampsModel" "sure" "[I", Cond.fieldLink RX5 13 "ViewStampsModel" "many" "[I", Cond.methodLink RX5 117 yX5_havingAs, Cond.instanceMethod yX5_havingAs, Cond.selects RX5 yX5_havingAs yX5_havingAs, Cond.code yX5_havingAs cX5_havingAs 5 none, Cond.fieldLink RX5 25 "ViewStampsModel" "lastView" "[I", Cond.methodLink RX5 98 yX5_copyLog, Cond.instanceMethod yX5_copyLog, Cond.selects RX5 yX5_copyLog yX5_copyLog, Cond.code yX5_copyLog cX5_copyLog 4 none, Cond.fieldLink RX5 7 "ViewStampsModel" "logs" "[I"]
def wsX5_does_r2 : List Cond := [Cond.methodLink RX5 106 yX5_greater, Cond.static yX5_greater, Cond.code yX5_greater cX5_greater 2 (some .int), Cond.methodLink RX5 110 yX5_lesser, Cond.static yX5_lesser, Cond.code yX5_lesser cX5_lesser 2 (some .int), Cond.methodLink RX5 113 yX5_postOk, Cond.instanceMethod yX5_postOk, Cond.selects RX5 yX5_postOk yX5_postOk, Cond.code yX5_postOk cX5_postOk 2 none, Cond.fieldLink RX5 77 "ViewStampsModel" "n" "I", Cond.methodLink RX5 102 yX5_post, Cond.instanceMethod yX5_post, Cond.selects RX5 yX5_post yX5_post, Cond.code yX5_post cX5_post 6 none, Cond.fieldLink RX5 88 "ViewStampsModel" "letters" "I", Cond.fieldLink RX5 91 "ViewStampsModel" "lost" "I", Cond.methodLink RX5 94 yX5_hasLog, Cond.static yX5_hasLog, Cond.code yX5_hasLog cX5_hasLog 1 (some .boolean), Cond.methodLink RX5 121 yX5_isFirst, Cond.instanceMethod yX5_isFirst, Cond.selects RX5 yX5_isFirst yX5_isFirst, Cond.code yX5_isFirst cX5_isFirst 2 (some .boolean)]
def wsX5_does_r3 : List Cond := [Cond.methodLink RX5 155 yX5_hears, Cond.instanceMethod yX5_hears, Cond.selects RX5 yX5_hears yX5_hears, Cond.code yX5_hears cX5_hears 8 (some .boolean), Cond.fieldLink RX5 35 "ViewStampsModel" "knows" "[I", Cond.fieldLink RX5 81 "ViewStampsModel" "f" "I", Cond.methodLink RX5 158 yX5_isAsked, Cond.instanceMethod yX5_isAsked, Cond.selects RX5 yX5_isAsked yX5_isAsked, Cond.code yX5_isAsked cX5_isAsked 6 (some .boolean), Cond.fieldLink RX5 38 "ViewStampsModel" "isVoter" "[Z", Cond.fieldLink RX5 28 "ViewStampsModel" "voted" "[Z", Cond.methodLink RX5 131 yX5_changes, Cond.instanceMethod yX5_changes, Cond.selects RX5 yX5_changes yX5_changes, Cond.code yX5_changes cX5_changes 4 none, Cond.methodLink RX5 124 yX5_forget, Cond.instanceMethod yX5_forget, Cond.selects RX5 yX5_forget yX5_forget, Cond.code yX5_forget cX5_forget 3 none, Cond.fieldLink RX5 41 "ViewStampsModel" "hasVote" "[Z", Cond.methodLink RX5 127 yX5_postAll, Cond.instanceMethod yX5_postAll, Cond.selects RX5 yX5_postAll yX5_postAll]
def wsX5_does_r4 : List Cond := [Cond.code yX5_postAll cX5_postAll 6 (some .int), Cond.methodLink RX5 134 yX5_voters, Cond.instanceMethod yX5_voters, Cond.selects RX5 yX5_voters yX5_voters, Cond.code yX5_voters cX5_voters 4 (some .int), Cond.methodLink RX5 138 yX5_takesVote, Cond.instanceMethod yX5_takesVote, Cond.selects RX5 yX5_takesVote yX5_takesVote, Cond.code yX5_takesVote cX5_takesVote 10 (some .boolean), Cond.fieldLink RX5 44 "ViewStampsModel" "voteCount" "[I", Cond.methodLink RX5 142 yX5_votes, Cond.instanceMethod yX5_votes, Cond.selects RX5 yX5_votes yX5_votes, Cond.code yX5_votes cX5_votes 4 (some .int), Cond.methodLink RX5 161 yX5_isVoted, Cond.instanceMethod yX5_isVoted, Cond.selects RX5 yX5_isVoted yX5_isVoted, Cond.code yX5_isVoted cX5_isVoted 7 (some .boolean), Cond.methodLink RX5 165 yX5_hearsTale, Cond.instanceMethod yX5_hearsTale, Cond.selects RX5 yX5_hearsTale yX5_hearsTale, Cond.code yX5_hearsTale cX5_hearsTale 9 (some .boolean), Cond.fieldLink RX5 32 "ViewStampsModel" "nonce" "[I", Cond.fieldLink RX5 47 "ViewStampsModel" "hasTale" "[Z"]
def wsX5_does_r5 : List Cond := [Cond.fieldLink RX5 50 "ViewStampsModel" "taleView" "[I"]
def wsX5_does : List Cond := .code yX5_does cX5_does 5 (some .boolean) :: ((wsX5_does_r1 ++ (wsX5_does_r2 ++ (wsX5_does_r3 ++ (wsX5_does_r4 ++ wsX5_does_r5)))) ++ wsX50)
def wsX5_deliver_r1 : List Cond := [Cond.fieldLink RX5 53 "ViewStampsModel" "isCut" "[Z", Cond.fieldLink RX5 56 "ViewStampsModel" "from" "[I", Cond.fieldLink RX5 59 "ViewStampsModel" "to" "[I", Cond.methodLink RX5 168 yX5_isThere, Cond.instanceMethod yX5_isThere, Cond.selects RX5 yX5_isThere yX5_isThere, Cond.initialized RX5, Cond.code yX5_isThere cX5_isThere 2 (some .boolean), Cond.fieldLink RX5 88 "ViewStampsModel" "letters" "I", Cond.fieldLink RX5 71 "ViewStampsModel" "dropped" "[Z", Cond.methodLink RX5 84 yX5_in, Cond.static yX5_in, Cond.code yX5_in cX5_in 3 (some .boolean), Cond.methodLink RX5 171 yX5_does, Cond.instanceMethod yX5_does, Cond.selects RX5 yX5_does yX5_does, Cond.code yX5_does cX5_does 5 (some .boolean), Cond.fieldLink RX5 65 "ViewStampsModel" "letterView" "[I", Cond.fieldLink RX5 62 "ViewStampsModel" "sort" "[I", Cond.fieldLink RX5 19 "ViewStampsModel" "status" "[I", Cond.fieldLink RX5 22 "ViewStampsModel" "view" "[I", Cond.fieldLink RX5 68 "ViewStampsModel" "counts" "[I", Cond.methodLink RX5 152 yX5_prepares, Cond.instanceMethod yX5_prepares]
def wsX5_deliver_r2 : List Cond := [Cond.selects RX5 yX5_prepares yX5_prepares, Cond.code yX5_prepares cX5_prepares 6 (some .boolean), Cond.fieldLink RX5 16 "ViewStampsModel" "sure" "[I", Cond.fieldLink RX5 13 "ViewStampsModel" "many" "[I", Cond.methodLink RX5 117 yX5_havingAs, Cond.instanceMethod yX5_havingAs, Cond.selects RX5 yX5_havingAs yX5_havingAs, Cond.code yX5_havingAs cX5_havingAs 5 none, Cond.fieldLink RX5 25 "ViewStampsModel" "lastView" "[I", Cond.methodLink RX5 98 yX5_copyLog, Cond.instanceMethod yX5_copyLog, Cond.selects RX5 yX5_copyLog yX5_copyLog, Cond.code yX5_copyLog cX5_copyLog 4 none, Cond.fieldLink RX5 7 "ViewStampsModel" "logs" "[I", Cond.methodLink RX5 106 yX5_greater, Cond.static yX5_greater, Cond.code yX5_greater cX5_greater 2 (some .int), Cond.methodLink RX5 110 yX5_lesser, Cond.static yX5_lesser, Cond.code yX5_lesser cX5_lesser 2 (some .int), Cond.methodLink RX5 113 yX5_postOk, Cond.instanceMethod yX5_postOk, Cond.selects RX5 yX5_postOk yX5_postOk, Cond.code yX5_postOk cX5_postOk 2 none]
def wsX5_deliver_r3 : List Cond := [Cond.fieldLink RX5 77 "ViewStampsModel" "n" "I", Cond.methodLink RX5 102 yX5_post, Cond.instanceMethod yX5_post, Cond.selects RX5 yX5_post yX5_post, Cond.code yX5_post cX5_post 6 none, Cond.fieldLink RX5 91 "ViewStampsModel" "lost" "I", Cond.methodLink RX5 94 yX5_hasLog, Cond.static yX5_hasLog, Cond.code yX5_hasLog cX5_hasLog 1 (some .boolean), Cond.methodLink RX5 121 yX5_isFirst, Cond.instanceMethod yX5_isFirst, Cond.selects RX5 yX5_isFirst yX5_isFirst, Cond.code yX5_isFirst cX5_isFirst 2 (some .boolean), Cond.methodLink RX5 155 yX5_hears, Cond.instanceMethod yX5_hears, Cond.selects RX5 yX5_hears yX5_hears, Cond.code yX5_hears cX5_hears 8 (some .boolean), Cond.fieldLink RX5 35 "ViewStampsModel" "knows" "[I", Cond.fieldLink RX5 81 "ViewStampsModel" "f" "I", Cond.methodLink RX5 158 yX5_isAsked, Cond.instanceMethod yX5_isAsked, Cond.selects RX5 yX5_isAsked yX5_isAsked, Cond.code yX5_isAsked cX5_isAsked 6 (some .boolean), Cond.fieldLink RX5 38 "ViewStampsModel" "isVoter" "[Z"]
def wsX5_deliver_r4 : List Cond := [Cond.fieldLink RX5 28 "ViewStampsModel" "voted" "[Z", Cond.methodLink RX5 131 yX5_changes, Cond.instanceMethod yX5_changes, Cond.selects RX5 yX5_changes yX5_changes, Cond.code yX5_changes cX5_changes 4 none, Cond.methodLink RX5 124 yX5_forget, Cond.instanceMethod yX5_forget, Cond.selects RX5 yX5_forget yX5_forget, Cond.code yX5_forget cX5_forget 3 none, Cond.fieldLink RX5 41 "ViewStampsModel" "hasVote" "[Z", Cond.methodLink RX5 127 yX5_postAll, Cond.instanceMethod yX5_postAll, Cond.selects RX5 yX5_postAll yX5_postAll, Cond.code yX5_postAll cX5_postAll 6 (some .int), Cond.methodLink RX5 134 yX5_voters, Cond.instanceMethod yX5_voters, Cond.selects RX5 yX5_voters yX5_voters, Cond.code yX5_voters cX5_voters 4 (some .int), Cond.methodLink RX5 138 yX5_takesVote, Cond.instanceMethod yX5_takesVote, Cond.selects RX5 yX5_takesVote yX5_takesVote, Cond.code yX5_takesVote cX5_takesVote 10 (some .boolean), Cond.fieldLink RX5 44 "ViewStampsModel" "voteCount" "[I", Cond.methodLink RX5 142 yX5_votes]
def wsX5_deliver_r5 : List Cond := [Cond.instanceMethod yX5_votes, Cond.selects RX5 yX5_votes yX5_votes, Cond.code yX5_votes cX5_votes 4 (some .int), Cond.methodLink RX5 161 yX5_isVoted, Cond.instanceMethod yX5_isVoted, Cond.selects RX5 yX5_isVoted yX5_isVoted, Cond.code yX5_isVoted cX5_isVoted 7 (some .boolean), Cond.methodLink RX5 165 yX5_hearsTale, Cond.instanceMethod yX5_hearsTale, Cond.selects RX5 yX5_hearsTale yX5_hearsTale, Cond.code yX5_hearsTale cX5_hearsTale 9 (some .boolean), Cond.fieldLink RX5 32 "ViewStampsModel" "nonce" "[I", Cond.fieldLink RX5 47 "ViewStampsModel" "hasTale" "[Z", Cond.fieldLink RX5 50 "ViewStampsModel" "taleView" "[I"]
def wsX5_deliver : List Cond := .code yX5_deliver cX5_deliver 2 (some .int) :: ((wsX5_deliver_r1 ++ (wsX5_deliver_r2 ++ (wsX5_deliver_r3 ++ (wsX5_deliver_r4 ++ wsX5_deliver_r5)))) ++ wsX50)
def wsX5_drop : List Cond := .code yX5_drop cX5_drop 2 (some .int) :: ([.fieldLink RX5 71 "ViewStampsModel" "dropped" "[Z", .methodLink RX5 168 yX5_isThere, .instanceMethod yX5_isThere, .selects RX5 yX5_isThere yX5_isThere, .initialized RX5, .code yX5_isThere cX5_isThere 2 (some .boolean), .fieldLink RX5 88 "ViewStampsModel" "letters" "I", .methodLink RX5 84 yX5_in, .static yX5_in, .code yX5_in cX5_in 3 (some .boolean)] ++ wsX50)
def wsX5_cut : List Cond := .code yX5_cut cX5_cut 5 (some .int) :: ([.fieldLink RX5 53 "ViewStampsModel" "isCut" "[Z", .methodLink RX5 145 yX5_isNode, .instanceMethod yX5_isNode, .selects RX5 yX5_isNode yX5_isNode, .initialized RX5, .code yX5_isNode cX5_isNode 2 (some .boolean), .fieldLink RX5 77 "ViewStampsModel" "n" "I", .methodLink RX5 84 yX5_in, .static yX5_in, .code yX5_in cX5_in 3 (some .boolean)] ++ wsX50)
def wsX5_timeout_r1 : List Cond := [Cond.fieldLink RX5 19 "ViewStampsModel" "status" "[I", Cond.fieldLink RX5 22 "ViewStampsModel" "view" "[I", Cond.methodLink RX5 145 yX5_isNode, Cond.instanceMethod yX5_isNode, Cond.selects RX5 yX5_isNode yX5_isNode, Cond.initialized RX5, Cond.code yX5_isNode cX5_isNode 2 (some .boolean), Cond.fieldLink RX5 77 "ViewStampsModel" "n" "I", Cond.methodLink RX5 84 yX5_in, Cond.static yX5_in, Cond.code yX5_in cX5_in 3 (some .boolean), Cond.methodLink RX5 131 yX5_changes, Cond.instanceMethod yX5_changes, Cond.selects RX5 yX5_changes yX5_changes, Cond.code yX5_changes cX5_changes 4 none, Cond.methodLink RX5 124 yX5_forget, Cond.instanceMethod yX5_forget, Cond.selects RX5 yX5_forget yX5_forget, Cond.code yX5_forget cX5_forget 3 none, Cond.fieldLink RX5 38 "ViewStampsModel" "isVoter" "[Z", Cond.fieldLink RX5 41 "ViewStampsModel" "hasVote" "[Z", Cond.fieldLink RX5 28 "ViewStampsModel" "voted" "[Z", Cond.methodLink RX5 127 yX5_postAll, Cond.instanceMethod yX5_postAll]
def wsX5_timeout_r2 : List Cond := [Cond.selects RX5 yX5_postAll yX5_postAll, Cond.code yX5_postAll cX5_postAll 6 (some .int), Cond.methodLink RX5 102 yX5_post, Cond.instanceMethod yX5_post, Cond.selects RX5 yX5_post yX5_post, Cond.code yX5_post cX5_post 6 none, Cond.fieldLink RX5 88 "ViewStampsModel" "letters" "I", Cond.fieldLink RX5 91 "ViewStampsModel" "lost" "I", Cond.fieldLink RX5 56 "ViewStampsModel" "from" "[I", Cond.fieldLink RX5 59 "ViewStampsModel" "to" "[I", Cond.fieldLink RX5 62 "ViewStampsModel" "sort" "[I", Cond.fieldLink RX5 65 "ViewStampsModel" "letterView" "[I", Cond.fieldLink RX5 68 "ViewStampsModel" "counts" "[I", Cond.methodLink RX5 94 yX5_hasLog, Cond.static yX5_hasLog, Cond.code yX5_hasLog cX5_hasLog 1 (some .boolean), Cond.methodLink RX5 98 yX5_copyLog, Cond.instanceMethod yX5_copyLog, Cond.selects RX5 yX5_copyLog yX5_copyLog, Cond.code yX5_copyLog cX5_copyLog 4 none, Cond.fieldLink RX5 13 "ViewStampsModel" "many" "[I", Cond.fieldLink RX5 16 "ViewStampsModel" "sure" "[I", Cond.fieldLink RX5 7 "ViewStampsModel" "logs" "[I"]
def wsX5_timeout : List Cond := .code yX5_timeout cX5_timeout 2 (some .int) :: ((wsX5_timeout_r1 ++ wsX5_timeout_r2) ++ wsX50)
def wsX5_resend_r1 : List Cond := [Cond.fieldLink RX5 19 "ViewStampsModel" "status" "[I", Cond.fieldLink RX5 22 "ViewStampsModel" "view" "[I", Cond.fieldLink RX5 28 "ViewStampsModel" "voted" "[Z", Cond.fieldLink RX5 77 "ViewStampsModel" "n" "I", Cond.fieldLink RX5 25 "ViewStampsModel" "lastView" "[I", Cond.fieldLink RX5 32 "ViewStampsModel" "nonce" "[I", Cond.methodLink RX5 145 yX5_isNode, Cond.instanceMethod yX5_isNode, Cond.selects RX5 yX5_isNode yX5_isNode, Cond.initialized RX5, Cond.code yX5_isNode cX5_isNode 2 (some .boolean), Cond.methodLink RX5 84 yX5_in, Cond.static yX5_in, Cond.code yX5_in cX5_in 3 (some .boolean), Cond.methodLink RX5 121 yX5_isFirst, Cond.instanceMethod yX5_isFirst, Cond.selects RX5 yX5_isFirst yX5_isFirst, Cond.code yX5_isFirst cX5_isFirst 2 (some .boolean), Cond.methodLink RX5 127 yX5_postAll, Cond.instanceMethod yX5_postAll, Cond.selects RX5 yX5_postAll yX5_postAll, Cond.code yX5_postAll cX5_postAll 6 (some .int), Cond.methodLink RX5 102 yX5_post, Cond.instanceMethod yX5_post]
def wsX5_resend_r2 : List Cond := [Cond.selects RX5 yX5_post yX5_post, Cond.code yX5_post cX5_post 6 none, Cond.fieldLink RX5 88 "ViewStampsModel" "letters" "I", Cond.fieldLink RX5 91 "ViewStampsModel" "lost" "I", Cond.fieldLink RX5 56 "ViewStampsModel" "from" "[I", Cond.fieldLink RX5 59 "ViewStampsModel" "to" "[I", Cond.fieldLink RX5 62 "ViewStampsModel" "sort" "[I", Cond.fieldLink RX5 65 "ViewStampsModel" "letterView" "[I", Cond.fieldLink RX5 68 "ViewStampsModel" "counts" "[I", Cond.methodLink RX5 94 yX5_hasLog, Cond.static yX5_hasLog, Cond.code yX5_hasLog cX5_hasLog 1 (some .boolean), Cond.methodLink RX5 98 yX5_copyLog, Cond.instanceMethod yX5_copyLog, Cond.selects RX5 yX5_copyLog yX5_copyLog, Cond.code yX5_copyLog cX5_copyLog 4 none, Cond.fieldLink RX5 13 "ViewStampsModel" "many" "[I", Cond.fieldLink RX5 16 "ViewStampsModel" "sure" "[I", Cond.fieldLink RX5 7 "ViewStampsModel" "logs" "[I", Cond.methodLink RX5 113 yX5_postOk, Cond.instanceMethod yX5_postOk, Cond.selects RX5 yX5_postOk yX5_postOk, Cond.code yX5_postOk cX5_postOk 2 none]
def wsX5_resend : List Cond := .code yX5_resend cX5_resend 3 (some .int) :: ((wsX5_resend_r1 ++ wsX5_resend_r2) ++ wsX50)
def wsX5_crash : List Cond := .code yX5_crash cX5_crash 4 (some .int) :: ([.fieldLink RX5 19 "ViewStampsModel" "status" "[I", .fieldLink RX5 13 "ViewStampsModel" "many" "[I", .fieldLink RX5 22 "ViewStampsModel" "view" "[I", .fieldLink RX5 25 "ViewStampsModel" "lastView" "[I", .fieldLink RX5 16 "ViewStampsModel" "sure" "[I", .fieldLink RX5 35 "ViewStampsModel" "knows" "[I", .fieldLink RX5 47 "ViewStampsModel" "hasTale" "[Z", .methodLink RX5 145 yX5_isNode, .instanceMethod yX5_isNode, .selects RX5 yX5_isNode yX5_isNode, .initialized RX5, .code yX5_isNode cX5_isNode 2 (some .boolean), .fieldLink RX5 77 "ViewStampsModel" "n" "I", .methodLink RX5 84 yX5_in, .static yX5_in, .code yX5_in cX5_in 3 (some .boolean), .methodLink RX5 124 yX5_forget, .instanceMethod yX5_forget, .selects RX5 yX5_forget yX5_forget, .code yX5_forget cX5_forget 3 none, .fieldLink RX5 38 "ViewStampsModel" "isVoter" "[Z", .fieldLink RX5 41 "ViewStampsModel" "hasVote" "[Z", .fieldLink RX5 28 "ViewStampsModel" "voted" "[Z"] ++ wsX50)
def wsX5_recover_r1 : List Cond := [Cond.constant RX5 148 (1000000), Cond.fieldLink RX5 19 "ViewStampsModel" "status" "[I", Cond.fieldLink RX5 32 "ViewStampsModel" "nonce" "[I", Cond.fieldLink RX5 47 "ViewStampsModel" "hasTale" "[Z", Cond.methodLink RX5 145 yX5_isNode, Cond.instanceMethod yX5_isNode, Cond.selects RX5 yX5_isNode yX5_isNode, Cond.initialized RX5, Cond.code yX5_isNode cX5_isNode 2 (some .boolean), Cond.fieldLink RX5 77 "ViewStampsModel" "n" "I", Cond.methodLink RX5 84 yX5_in, Cond.static yX5_in, Cond.code yX5_in cX5_in 3 (some .boolean), Cond.methodLink RX5 127 yX5_postAll, Cond.instanceMethod yX5_postAll, Cond.selects RX5 yX5_postAll yX5_postAll, Cond.code yX5_postAll cX5_postAll 6 (some .int), Cond.methodLink RX5 102 yX5_post, Cond.instanceMethod yX5_post, Cond.selects RX5 yX5_post yX5_post, Cond.code yX5_post cX5_post 6 none, Cond.fieldLink RX5 88 "ViewStampsModel" "letters" "I", Cond.fieldLink RX5 91 "ViewStampsModel" "lost" "I", Cond.fieldLink RX5 56 "ViewStampsModel" "from" "[I"]
def wsX5_recover_r2 : List Cond := [Cond.fieldLink RX5 59 "ViewStampsModel" "to" "[I", Cond.fieldLink RX5 62 "ViewStampsModel" "sort" "[I", Cond.fieldLink RX5 65 "ViewStampsModel" "letterView" "[I", Cond.fieldLink RX5 68 "ViewStampsModel" "counts" "[I", Cond.methodLink RX5 94 yX5_hasLog, Cond.static yX5_hasLog, Cond.code yX5_hasLog cX5_hasLog 1 (some .boolean), Cond.methodLink RX5 98 yX5_copyLog, Cond.instanceMethod yX5_copyLog, Cond.selects RX5 yX5_copyLog yX5_copyLog, Cond.code yX5_copyLog cX5_copyLog 4 none, Cond.fieldLink RX5 13 "ViewStampsModel" "many" "[I", Cond.fieldLink RX5 16 "ViewStampsModel" "sure" "[I", Cond.fieldLink RX5 7 "ViewStampsModel" "logs" "[I"]
def wsX5_recover : List Cond := .code yX5_recover cX5_recover 4 (some .int) :: ((wsX5_recover_r1 ++ wsX5_recover_r2) ++ wsX50)
def wsX5_tales : List Cond := .code yX5_tales cX5_tales 4 (some .int) :: ([.fieldLink RX5 77 "ViewStampsModel" "n" "I", .fieldLink RX5 47 "ViewStampsModel" "hasTale" "[Z"] ++ wsX50)
def wsX5_node_r1 : List Cond := [Cond.fieldLink RX5 19 "ViewStampsModel" "status" "[I", Cond.fieldLink RX5 22 "ViewStampsModel" "view" "[I", Cond.fieldLink RX5 25 "ViewStampsModel" "lastView" "[I", Cond.fieldLink RX5 13 "ViewStampsModel" "many" "[I", Cond.fieldLink RX5 16 "ViewStampsModel" "sure" "[I", Cond.fieldLink RX5 28 "ViewStampsModel" "voted" "[Z", Cond.methodLink RX5 145 yX5_isNode, Cond.instanceMethod yX5_isNode, Cond.selects RX5 yX5_isNode yX5_isNode, Cond.initialized RX5, Cond.code yX5_isNode cX5_isNode 2 (some .boolean), Cond.fieldLink RX5 77 "ViewStampsModel" "n" "I", Cond.methodLink RX5 84 yX5_in, Cond.static yX5_in, Cond.code yX5_in cX5_in 3 (some .boolean), Cond.methodLink RX5 134 yX5_voters, Cond.instanceMethod yX5_voters, Cond.selects RX5 yX5_voters yX5_voters, Cond.code yX5_voters cX5_voters 4 (some .int), Cond.fieldLink RX5 38 "ViewStampsModel" "isVoter" "[Z", Cond.methodLink RX5 142 yX5_votes, Cond.instanceMethod yX5_votes, Cond.selects RX5 yX5_votes yX5_votes, Cond.code yX5_votes cX5_votes 4 (some .int)]
def wsX5_node_r2 : List Cond := [Cond.fieldLink RX5 41 "ViewStampsModel" "hasVote" "[Z", Cond.methodLink RX5 174 yX5_tales, Cond.instanceMethod yX5_tales, Cond.selects RX5 yX5_tales yX5_tales, Cond.code yX5_tales cX5_tales 4 (some .int), Cond.fieldLink RX5 47 "ViewStampsModel" "hasTale" "[Z"]
def wsX5_node : List Cond := .code yX5_node cX5_node 4 (some .int) :: ((wsX5_node_r1 ++ wsX5_node_r2) ++ wsX50)
def wsX5_entry : List Cond := .code yX5_entry cX5_entry 4 (some .int) :: ([.fieldLink RX5 13 "ViewStampsModel" "many" "[I", .constant RX5 177 (-2147483648), .fieldLink RX5 7 "ViewStampsModel" "logs" "[I", .methodLink RX5 145 yX5_isNode, .instanceMethod yX5_isNode, .selects RX5 yX5_isNode yX5_isNode, .initialized RX5, .code yX5_isNode cX5_isNode 2 (some .boolean), .fieldLink RX5 77 "ViewStampsModel" "n" "I", .methodLink RX5 84 yX5_in, .static yX5_in, .code yX5_in cX5_in 3 (some .boolean)] ++ wsX50)
def wsX5_register : List Cond := .code yX5_register cX5_register 8 (some .int) :: ([.constant RX5 177 (-2147483648), .fieldLink RX5 74 "ViewStampsModel" "registers" "[I", .fieldLink RX5 16 "ViewStampsModel" "sure" "[I", .fieldLink RX5 7 "ViewStampsModel" "logs" "[I", .methodLink RX5 145 yX5_isNode, .instanceMethod yX5_isNode, .selects RX5 yX5_isNode yX5_isNode, .initialized RX5, .code yX5_isNode cX5_isNode 2 (some .boolean), .fieldLink RX5 77 "ViewStampsModel" "n" "I", .methodLink RX5 84 yX5_in, .static yX5_in, .code yX5_in cX5_in 3 (some .boolean)] ++ wsX50)
def wsX5_known : List Cond := .code yX5_known cX5_known 3 (some .int) :: ([.fieldLink RX5 19 "ViewStampsModel" "status" "[I", .fieldLink RX5 35 "ViewStampsModel" "knows" "[I", .methodLink RX5 145 yX5_isNode, .instanceMethod yX5_isNode, .selects RX5 yX5_isNode yX5_isNode, .initialized RX5, .code yX5_isNode cX5_isNode 2 (some .boolean), .fieldLink RX5 77 "ViewStampsModel" "n" "I", .methodLink RX5 84 yX5_in, .static yX5_in, .code yX5_in cX5_in 3 (some .boolean), .methodLink RX5 121 yX5_isFirst, .instanceMethod yX5_isFirst, .selects RX5 yX5_isFirst yX5_isFirst, .code yX5_isFirst cX5_isFirst 2 (some .boolean), .fieldLink RX5 22 "ViewStampsModel" "view" "[I"] ++ wsX50)
def wsX5_letter : List Cond := .code yX5_letter cX5_letter 4 (some .int) :: ([.fieldLink RX5 88 "ViewStampsModel" "letters" "I", .fieldLink RX5 62 "ViewStampsModel" "sort" "[I", .fieldLink RX5 56 "ViewStampsModel" "from" "[I", .fieldLink RX5 59 "ViewStampsModel" "to" "[I", .fieldLink RX5 65 "ViewStampsModel" "letterView" "[I", .fieldLink RX5 13 "ViewStampsModel" "many" "[I", .fieldLink RX5 16 "ViewStampsModel" "sure" "[I", .fieldLink RX5 68 "ViewStampsModel" "counts" "[I", .fieldLink RX5 71 "ViewStampsModel" "dropped" "[Z", .methodLink RX5 84 yX5_in, .static yX5_in, .initialized RX5, .code yX5_in cX5_in 3 (some .boolean), .methodLink RX5 94 yX5_hasLog, .static yX5_hasLog, .code yX5_hasLog cX5_hasLog 1 (some .boolean)] ++ wsX50)
def wsX5_count : List Cond := .code yX5_count cX5_count 5 (some .int) :: ([.fieldLink RX5 88 "ViewStampsModel" "letters" "I", .fieldLink RX5 71 "ViewStampsModel" "dropped" "[Z", .fieldLink RX5 91 "ViewStampsModel" "lost" "I", .fieldLink RX5 77 "ViewStampsModel" "n" "I", .fieldLink RX5 53 "ViewStampsModel" "isCut" "[Z", .fieldLink RX5 19 "ViewStampsModel" "status" "[I"] ++ wsX50)
def wsX5_unlike : List Cond := .code yX5_unlike cX5_unlike 5 (some .int) :: ([.fieldLink RX5 77 "ViewStampsModel" "n" "I", .fieldLink RX5 16 "ViewStampsModel" "sure" "[I", .fieldLink RX5 7 "ViewStampsModel" "logs" "[I", .methodLink RX5 110 yX5_lesser, .static yX5_lesser, .initialized RX5, .code yX5_lesser cX5_lesser 2 (some .int)] ++ wsX50)
def wsX5_digest_r1 : List Cond := [Cond.constantLong RX5 178 (17), Cond.fieldLink RX5 77 "ViewStampsModel" "n" "I", Cond.constantLong RX5 180 (31), Cond.fieldLink RX5 13 "ViewStampsModel" "many" "[I", Cond.fieldLink RX5 7 "ViewStampsModel" "logs" "[I", Cond.fieldLink RX5 88 "ViewStampsModel" "letters" "I", Cond.methodLink RX5 182 yX5_node, Cond.instanceMethod yX5_node, Cond.selects RX5 yX5_node yX5_node, Cond.initialized RX5, Cond.code yX5_node cX5_node 4 (some .int), Cond.fieldLink RX5 19 "ViewStampsModel" "status" "[I", Cond.fieldLink RX5 22 "ViewStampsModel" "view" "[I", Cond.fieldLink RX5 25 "ViewStampsModel" "lastView" "[I", Cond.fieldLink RX5 16 "ViewStampsModel" "sure" "[I", Cond.fieldLink RX5 28 "ViewStampsModel" "voted" "[Z", Cond.methodLink RX5 145 yX5_isNode, Cond.instanceMethod yX5_isNode, Cond.selects RX5 yX5_isNode yX5_isNode, Cond.code yX5_isNode cX5_isNode 2 (some .boolean), Cond.methodLink RX5 84 yX5_in, Cond.static yX5_in, Cond.code yX5_in cX5_in 3 (some .boolean), Cond.methodLink RX5 134 yX5_voters]
def wsX5_digest_r2 : List Cond := [Cond.instanceMethod yX5_voters, Cond.selects RX5 yX5_voters yX5_voters, Cond.code yX5_voters cX5_voters 4 (some .int), Cond.fieldLink RX5 38 "ViewStampsModel" "isVoter" "[Z", Cond.methodLink RX5 142 yX5_votes, Cond.instanceMethod yX5_votes, Cond.selects RX5 yX5_votes yX5_votes, Cond.code yX5_votes cX5_votes 4 (some .int), Cond.fieldLink RX5 41 "ViewStampsModel" "hasVote" "[Z", Cond.methodLink RX5 174 yX5_tales, Cond.instanceMethod yX5_tales, Cond.selects RX5 yX5_tales yX5_tales, Cond.code yX5_tales cX5_tales 4 (some .int), Cond.fieldLink RX5 47 "ViewStampsModel" "hasTale" "[Z", Cond.methodLink RX5 185 yX5_register, Cond.instanceMethod yX5_register, Cond.selects RX5 yX5_register yX5_register, Cond.code yX5_register cX5_register 8 (some .int), Cond.constant RX5 177 (-2147483648), Cond.fieldLink RX5 74 "ViewStampsModel" "registers" "[I", Cond.methodLink RX5 188 yX5_letter, Cond.instanceMethod yX5_letter, Cond.selects RX5 yX5_letter yX5_letter, Cond.code yX5_letter cX5_letter 4 (some .int)]
def wsX5_digest_r3 : List Cond := [Cond.fieldLink RX5 62 "ViewStampsModel" "sort" "[I", Cond.fieldLink RX5 56 "ViewStampsModel" "from" "[I", Cond.fieldLink RX5 59 "ViewStampsModel" "to" "[I", Cond.fieldLink RX5 65 "ViewStampsModel" "letterView" "[I", Cond.fieldLink RX5 68 "ViewStampsModel" "counts" "[I", Cond.fieldLink RX5 71 "ViewStampsModel" "dropped" "[Z", Cond.methodLink RX5 94 yX5_hasLog, Cond.static yX5_hasLog, Cond.code yX5_hasLog cX5_hasLog 1 (some .boolean)]
def wsX5_digest : List Cond := .code yX5_digest cX5_digest 5 (some .long) :: ((wsX5_digest_r1 ++ (wsX5_digest_r2 ++ wsX5_digest_r3)) ++ wsX50)
def wsJ9_max_7cf53 : List Cond := .code yJ9_max_7cf53 cJ9_max_7cf53 2 (some .int) :: ([])
def wsJ9_min_7cf53 : List Cond := .code yJ9_min_7cf53 cJ9_min_7cf53 2 (some .int) :: ([])
def wsL_cell : List Cond := .code yL_cell cL_cell 2 (some .int) :: ([])
def wsL_law_r1 : List Cond := [Cond.classLink RL 7 RX4, Cond.instantiable RX4 3, Cond.initialized RX4, Cond.classLink RL 18 RX5, Cond.instantiable RX5 26, Cond.initialized RX5, Cond.methodLink RL 9 yL_cell, Cond.static yL_cell, Cond.initialized RL, Cond.code yL_cell cL_cell 2 (some .int), Cond.methodLink RL 15 yX4_init, Cond.instanceMethod yX4_init, Cond.code yX4_init cX4_init 5 none, Cond.methodLink RX4 1 objectInit, Cond.instanceMethod objectInit, Cond.code objectInit ⟨#[0xb1]⟩ 1 none, Cond.classLink RX4 7 RX1, Cond.instantiable RX1 1, Cond.initialized RX1, Cond.arrayClass .int, Cond.classLink RX4 12 RX3, Cond.instantiable RX3 3, Cond.initialized RX3, Cond.fieldLink RX4 15 "ViewStamps" "pool" "LViewStamps$Pool;"]
def wsL_law_r2 : List Cond := [Cond.classLink RX4 21 RX2, Cond.fieldLink RX4 23 "ViewStamps" "nodes" "[LViewStamps$Node;", Cond.instantiable RX2 17, Cond.initialized RX2, Cond.arrayClass .boolean, Cond.fieldLink RX4 30 "ViewStamps" "cutLines" "[Z", Cond.methodLink RX4 9 yX1_init, Cond.instanceMethod yX1_init, Cond.code yX1_init cX1_init 2 none, Cond.methodLink RX1 3 objectInit, Cond.fieldLink RX1 9 "ViewStamps$Log" "cells" "[I", Cond.instanceMethod yX3_init, Cond.code yX3_init cX3_init 1 none, Cond.methodLink RX3 3 objectInit, Cond.classLink RX3 9 RX0, Cond.fieldLink RX3 11 "ViewStamps$Pool" "letters" "[LViewStamps$Letter;", Cond.methodLink RX4 27 yX2_init, Cond.instanceMethod yX2_init, Cond.code yX2_init cX2_init 5 none, Cond.methodLink RX2 3 objectInit, Cond.fieldLink RX2 9 "ViewStamps$Node" "registers" "[I", Cond.fieldLink RX2 15 "ViewStamps$Node" "number" "I", Cond.fieldLink RX2 19 "ViewStamps$Node" "size" "I", Cond.fieldLink RX2 22 "ViewStamps$Node" "enough" "I"]
def wsL_law_r3 : List Cond := [Cond.fieldLink RX2 25 "ViewStamps$Node" "pool" "LViewStamps$Pool;", Cond.fieldLink RX2 29 "ViewStamps$Node" "empty" "LViewStamps$Log;", Cond.fieldLink RX2 33 "ViewStamps$Node" "log" "LViewStamps$Log;", Cond.classLink RX2 36 RX0, Cond.fieldLink RX2 38 "ViewStamps$Node" "votes" "[LViewStamps$Letter;", Cond.fieldLink RX2 42 "ViewStamps$Node" "tales" "[LViewStamps$Letter;", Cond.fieldLink RX2 45 "ViewStamps$Node" "told" "[I", Cond.methodLink RL 20 yX5_init, Cond.instanceMethod yX5_init, Cond.code yX5_init cX5_init 2 none, Cond.methodLink RX5 1 objectInit, Cond.fieldLink RX5 7 "ViewStampsModel" "logs" "[I", Cond.fieldLink RX5 13 "ViewStampsModel" "many" "[I", Cond.fieldLink RX5 16 "ViewStampsModel" "sure" "[I", Cond.fieldLink RX5 19 "ViewStampsModel" "status" "[I", Cond.fieldLink RX5 22 "ViewStampsModel" "view" "[I", Cond.fieldLink RX5 25 "ViewStampsModel" "lastView" "[I", Cond.fieldLink RX5 28 "ViewStampsModel" "voted" "[Z", Cond.fieldLink RX5 32 "ViewStampsModel" "nonce" "[I", Cond.fieldLink RX5 35 "ViewStampsModel" "knows" "[I", Cond.fieldLink RX5 38 "ViewStampsModel" "isVoter" "[Z", Cond.fieldLink RX5 41 "ViewStampsModel" "hasVote" "[Z", Cond.fieldLink RX5 44 "ViewStampsModel" "voteCount" "[I", Cond.fieldLink RX5 47 "ViewStampsModel" "hasTale" "[Z"]
def wsL_law_r4 : List Cond := [Cond.fieldLink RX5 50 "ViewStampsModel" "taleView" "[I", Cond.fieldLink RX5 53 "ViewStampsModel" "isCut" "[Z", Cond.fieldLink RX5 56 "ViewStampsModel" "from" "[I", Cond.fieldLink RX5 59 "ViewStampsModel" "to" "[I", Cond.fieldLink RX5 62 "ViewStampsModel" "sort" "[I", Cond.fieldLink RX5 65 "ViewStampsModel" "letterView" "[I", Cond.fieldLink RX5 68 "ViewStampsModel" "counts" "[I", Cond.fieldLink RX5 71 "ViewStampsModel" "dropped" "[Z", Cond.fieldLink RX5 74 "ViewStampsModel" "registers" "[I", Cond.fieldLink RX5 77 "ViewStampsModel" "n" "I", Cond.fieldLink RX5 81 "ViewStampsModel" "f" "I", Cond.methodLink RL 21 yX4_request, Cond.instanceMethod yX4_request, Cond.selects RX4 yX4_request yX4_request, Cond.code yX4_request cX4_request 9 (some .int), Cond.fieldLink RX4 46 "ViewStamps$Node" "log" "LViewStamps$Log;", Cond.methodLink RX4 34 yX4_nodeAt, Cond.instanceMethod yX4_nodeAt, Cond.selects RX4 yX4_nodeAt yX4_nodeAt, Cond.code yX4_nodeAt cX4_nodeAt 2 (some (.object "ViewStamps$Node")), Cond.methodLink RX4 38 yX4_isEntry, Cond.static yX4_isEntry, Cond.code yX4_isEntry cX4_isEntry 5 (some .boolean), Cond.constant RX4 110 (1000000)]
def wsL_law_r5 : List Cond := [Cond.methodLink RX4 171 yX4_isBelow, Cond.static yX4_isBelow, Cond.code yX4_isBelow cX4_isBelow 2 (some .boolean), Cond.methodLink RX4 42 yX2_leads, Cond.instanceMethod yX2_leads, Cond.selects RX2 yX2_leads yX2_leads, Cond.code yX2_leads cX2_leads 1 (some .boolean), Cond.fieldLink RX2 48 "ViewStamps$Node" "status" "I", Cond.methodLink RX2 82 yX2_isFirst, Cond.instanceMethod yX2_isFirst, Cond.selects RX2 yX2_isFirst yX2_isFirst, Cond.code yX2_isFirst cX2_isFirst 1 (some .boolean), Cond.fieldLink RX2 51 "ViewStamps$Node" "view" "I", Cond.methodLink RX2 184 yX2_firstOf, Cond.instanceMethod yX2_firstOf, Cond.selects RX2 yX2_firstOf yX2_firstOf, Cond.code yX2_firstOf cX2_firstOf 2 (some .int), Cond.methodLink RX4 50 yX1_answers, Cond.instanceMethod yX1_answers, Cond.selects RX1 yX1_answers yX1_answers, Cond.code yX1_answers cX1_answers 4 (some .boolean), Cond.methodLink RX1 15 yX1_size, Cond.instanceMethod yX1_size, Cond.selects RX1 yX1_size yX1_size]
def wsL_law_r6 : List Cond := [Cond.code yX1_size cX1_size 1 (some .int), Cond.methodLink RX1 29 yX1_field, Cond.instanceMethod yX1_field, Cond.selects RX1 yX1_field yX1_field, Cond.code yX1_field cX1_field 3 (some .int), Cond.constant RX1 19 (-2147483648), Cond.methodLink RX4 54 yX1_size, Cond.methodLink RX4 58 yX1_with, Cond.instanceMethod yX1_with, Cond.selects RX1 yX1_with yX1_with, Cond.code yX1_with cX1_with 9 (some (.object "ViewStamps$Log")), Cond.classLink RX1 10 RX1, Cond.methodLink RX1 20 yJ7_copyOf_59c91, Cond.static yJ7_copyOf_59c91, Cond.initialized RJ7, Cond.code yJ7_copyOf_59c91 cJ7_copyOf_59c91 3 (some (.array .int)), Cond.methodLink RJ7 316 ⟨"[I", "clone", "()Ljava/lang/Object;"⟩, Cond.sameMethod "[I" "java/lang/Object" "clone" "()Ljava/lang/Object;", Cond.native ⟨"java/lang/Object", "clone", "()Ljava/lang/Object;"⟩, Cond.instanceMethod ⟨"java/lang/Object", "clone", "()Ljava/lang/Object;"⟩, Cond.selects "[I" ⟨"[I", "clone", "()Ljava/lang/Object;"⟩ ⟨"java/lang/Object", "clone", "()Ljava/lang/Object;"⟩, Cond.classLink RJ7 317 "[I", Cond.methodLink RJ7 304 Lib.Math.min.name, Cond.static Lib.Math.min.name]
def wsL_law_r7 : List Cond := [Cond.initialized "java/lang/Math", Cond.code Lib.Math.min.name Lib.Math.min.code 2 (some .int), Cond.methodLink RJ7 150 arraycopyName, Cond.native arraycopyName, Cond.static arraycopyName, Cond.initialized "java/lang/System", Cond.methodLink RX1 26 yX1_init, Cond.methodLink RX4 62 yX2_postToAll, Cond.instanceMethod yX2_postToAll, Cond.selects RX2 yX2_postToAll yX2_postToAll, Cond.code yX2_postToAll cX2_postToAll 4 none, Cond.methodLink RX2 96 yX2_write, Cond.instanceMethod yX2_write, Cond.selects RX2 yX2_write yX2_write, Cond.code yX2_write cX2_write 5 (some (.object "ViewStamps$Letter")), Cond.instantiable RX0 8, Cond.initialized RX0, Cond.fieldLink RX2 62 "ViewStamps$Node" "sure" "I", Cond.methodLink RX2 197 yX0_init, Cond.instanceMethod yX0_init, Cond.code yX0_init cX0_init 8 none, Cond.methodLink RX0 3 objectInit, Cond.fieldLink RX0 9 "ViewStamps$Letter" "from" "I", Cond.fieldLink RX0 15 "ViewStamps$Letter" "to" "I"]
def wsL_law_r8 : List Cond := [Cond.fieldLink RX0 18 "ViewStamps$Letter" "sort" "I", Cond.fieldLink RX0 21 "ViewStamps$Letter" "view" "I", Cond.fieldLink RX0 24 "ViewStamps$Letter" "log" "LViewStamps$Log;", Cond.fieldLink RX0 28 "ViewStamps$Letter" "sure" "I", Cond.fieldLink RX0 31 "ViewStamps$Letter" "count" "I", Cond.methodLink RX2 100 yX3_add, Cond.instanceMethod yX3_add, Cond.selects RX3 yX3_add yX3_add, Cond.code yX3_add cX3_add 2 none, Cond.fieldLink RX3 17 "ViewStamps$Pool" "posted" "I", Cond.fieldLink RX3 21 "ViewStamps$Pool" "lost" "I", Cond.methodLink RL 25 yX5_request, Cond.instanceMethod yX5_request, Cond.selects RX5 yX5_request yX5_request, Cond.code yX5_request cX5_request 10 (some .int), Cond.constant RX5 148 (1000000), Cond.methodLink RX5 145 yX5_isNode, Cond.instanceMethod yX5_isNode, Cond.selects RX5 yX5_isNode yX5_isNode, Cond.code yX5_isNode cX5_isNode 2 (some .boolean), Cond.methodLink RX5 84 yX5_in, Cond.static yX5_in, Cond.code yX5_in cX5_in 3 (some .boolean), Cond.methodLink RX5 121 yX5_isFirst]
def wsL_law_r9 : List Cond := [Cond.instanceMethod yX5_isFirst, Cond.selects RX5 yX5_isFirst yX5_isFirst, Cond.code yX5_isFirst cX5_isFirst 2 (some .boolean), Cond.methodLink RX5 149 yX5_isNew, Cond.instanceMethod yX5_isNew, Cond.selects RX5 yX5_isNew yX5_isNew, Cond.code yX5_isNew cX5_isNew 6 (some .boolean), Cond.methodLink RX5 127 yX5_postAll, Cond.instanceMethod yX5_postAll, Cond.selects RX5 yX5_postAll yX5_postAll, Cond.code yX5_postAll cX5_postAll 6 (some .int), Cond.methodLink RX5 102 yX5_post, Cond.instanceMethod yX5_post, Cond.selects RX5 yX5_post yX5_post, Cond.code yX5_post cX5_post 6 none, Cond.fieldLink RX5 88 "ViewStampsModel" "letters" "I", Cond.fieldLink RX5 91 "ViewStampsModel" "lost" "I", Cond.methodLink RX5 94 yX5_hasLog, Cond.static yX5_hasLog, Cond.code yX5_hasLog cX5_hasLog 1 (some .boolean), Cond.methodLink RX5 98 yX5_copyLog, Cond.instanceMethod yX5_copyLog, Cond.selects RX5 yX5_copyLog yX5_copyLog, Cond.code yX5_copyLog cX5_copyLog 4 none]
def wsL_law_r10 : List Cond := [Cond.methodLink RL 26 yX4_deliver, Cond.instanceMethod yX4_deliver, Cond.selects RX4 yX4_deliver yX4_deliver, Cond.code yX4_deliver cX4_deliver 3 (some .int), Cond.fieldLink RX4 70 "ViewStamps$Letter" "from" "I", Cond.fieldLink RX4 76 "ViewStamps$Letter" "to" "I", Cond.methodLink RX4 66 yX3_standing, Cond.instanceMethod yX3_standing, Cond.selects RX3 yX3_standing yX3_standing, Cond.code yX3_standing cX3_standing 3 (some (.object "ViewStamps$Letter")), Cond.fieldLink RX3 28 "ViewStamps$Letter" "dropped" "Z", Cond.methodLink RX3 24 yX3_at, Cond.instanceMethod yX3_at, Cond.selects RX3 yX3_at yX3_at, Cond.code yX3_at cX3_at 2 (some (.object "ViewStamps$Letter")), Cond.methodLink RX4 79 yX4_lineBetween, Cond.instanceMethod yX4_lineBetween, Cond.selects RX4 yX4_lineBetween yX4_lineBetween, Cond.code yX4_lineBetween cX4_lineBetween 3 (some .int), Cond.methodLink RX4 151 Lib.Math.min.name, Cond.methodLink RX4 174 Lib.Math.max.name, Cond.static Lib.Math.max.name, Cond.code Lib.Math.max.name Lib.Math.max.code 2 (some .int), Cond.methodLink RX4 83 yX2_hear]
def wsL_law_r11 : List Cond := [Cond.instanceMethod yX2_hear, Cond.selects RX2 yX2_hear yX2_hear, Cond.code yX2_hear cX2_hear 2 (some .boolean), Cond.fieldLink RX2 125 "ViewStamps$Letter" "sort" "I", Cond.fieldLink RX2 138 "ViewStamps$Letter" "view" "I", Cond.methodLink RX2 128 yX2_hearAsk, Cond.instanceMethod yX2_hearAsk, Cond.selects RX2 yX2_hearAsk yX2_hearAsk, Cond.code yX2_hearAsk cX2_hearAsk 2 (some .boolean), Cond.fieldLink RX2 169 "ViewStamps$Letter" "from" "I", Cond.fieldLink RX2 172 "ViewStamps$Letter" "count" "I", Cond.methodLink RX2 132 yX2_hearTell, Cond.instanceMethod yX2_hearTell, Cond.selects RX2 yX2_hearTell yX2_hearTell, Cond.code yX2_hearTell cX2_hearTell 2 (some .boolean), Cond.fieldLink RX2 119 "ViewStamps$Node" "nonce" "I", Cond.methodLink RX2 74 yX2_countLetters, Cond.static yX2_countLetters, Cond.code yX2_countLetters cX2_countLetters 6 (some .int), Cond.methodLink RX2 187 yX2_believeFirst, Cond.instanceMethod yX2_believeFirst, Cond.selects RX2 yX2_believeFirst yX2_believeFirst, Cond.code yX2_believeFirst cX2_believeFirst 6 none, Cond.methodLink RX2 153 Lib.Math.max.name]
def wsL_law_r12 : List Cond := [Cond.fieldLink RX2 151 "ViewStamps$Letter" "log" "LViewStamps$Log;", Cond.fieldLink RX2 152 "ViewStamps$Letter" "sure" "I", Cond.methodLink RX2 162 yX2_settleIn, Cond.instanceMethod yX2_settleIn, Cond.selects RX2 yX2_settleIn yX2_settleIn, Cond.code yX2_settleIn cX2_settleIn 2 none, Cond.fieldLink RX2 54 "ViewStamps$Node" "lastView" "I", Cond.methodLink RX2 135 yX2_isDown, Cond.instanceMethod yX2_isDown, Cond.selects RX2 yX2_isDown yX2_isDown, Cond.code yX2_isDown cX2_isDown 1 (some .boolean), Cond.methodLink RX2 139 yX2_hearLog, Cond.instanceMethod yX2_hearLog, Cond.selects RX2 yX2_hearLog yX2_hearLog, Cond.code yX2_hearLog cX2_hearLog 3 (some .boolean), Cond.methodLink RX2 159 Lib.Math.min.name, Cond.methodLink RX2 57 yX1_size, Cond.methodLink RX2 113 yX2_postOk, Cond.instanceMethod yX2_postOk, Cond.selects RX2 yX2_postOk yX2_postOk, Cond.code yX2_postOk cX2_postOk 1 none, Cond.methodLink RX2 142 yX2_hearOk, Cond.instanceMethod yX2_hearOk, Cond.selects RX2 yX2_hearOk yX2_hearOk]
def wsL_law_r13 : List Cond := [Cond.code yX2_hearOk cX2_hearOk 2 (some .boolean), Cond.methodLink RX2 166 yX2_leads, Cond.methodLink RX2 175 yX2_heldByEnough, Cond.instanceMethod yX2_heldByEnough, Cond.selects RX2 yX2_heldByEnough yX2_heldByEnough, Cond.code yX2_heldByEnough cX2_heldByEnough 6 (some .int), Cond.methodLink RX2 194 yX2_countTold, Cond.instanceMethod yX2_countTold, Cond.selects RX2 yX2_countTold yX2_countTold, Cond.code yX2_countTold cX2_countTold 7 (some .int), Cond.methodLink RX2 145 yX2_hearChange, Cond.instanceMethod yX2_hearChange, Cond.selects RX2 yX2_hearChange yX2_hearChange, Cond.code yX2_hearChange cX2_hearChange 3 (some .boolean), Cond.fieldLink RX2 65 "ViewStamps$Node" "voters" "I", Cond.fieldLink RX2 78 "ViewStamps$Node" "voted" "Z", Cond.methodLink RX2 178 yX2_changeTo, Cond.instanceMethod yX2_changeTo, Cond.selects RX2 yX2_changeTo yX2_changeTo, Cond.code yX2_changeTo cX2_changeTo 2 none, Cond.methodLink RX2 106 yX2_forgetVotes, Cond.instanceMethod yX2_forgetVotes, Cond.selects RX2 yX2_forgetVotes yX2_forgetVotes, Cond.code yX2_forgetVotes cX2_forgetVotes 2 none]
def wsL_law_r14 : List Cond := [Cond.methodLink RX2 109 yX2_postToAll, Cond.methodLink RX2 68 yJ6_bitCount_0f7a4, Cond.static yJ6_bitCount_0f7a4, Cond.initialized RJ6, Cond.code yJ6_bitCount_0f7a4 cJ6_bitCount_0f7a4 1 (some .int), Cond.constant RJ6 265 (1431655765), Cond.constant RJ6 266 (858993459), Cond.constant RJ6 267 (252645135), Cond.methodLink RX2 116 yX2_castVote, Cond.instanceMethod yX2_castVote, Cond.selects RX2 yX2_castVote yX2_castVote, Cond.code yX2_castVote cX2_castVote 2 none, Cond.methodLink RX2 181 yX2_leadIfElected, Cond.instanceMethod yX2_leadIfElected, Cond.selects RX2 yX2_leadIfElected yX2_leadIfElected, Cond.code yX2_leadIfElected cX2_leadIfElected 7 none, Cond.methodLink RX2 190 yX2_isAhead, Cond.static yX2_isAhead, Cond.code yX2_isAhead cX2_isAhead 2 (some .boolean), Cond.methodLink RX2 86 yJ7_fill_53178, Cond.static yJ7_fill_53178, Cond.code yJ7_fill_53178 cJ7_fill_53178 4 none, Cond.methodLink RX2 148 yX2_hearVote, Cond.instanceMethod yX2_hearVote]
def wsL_law_r15 : List Cond := [Cond.selects RX2 yX2_hearVote yX2_hearVote, Cond.code yX2_hearVote cX2_hearVote 2 (some .boolean), Cond.methodLink RL 30 yX5_deliver, Cond.instanceMethod yX5_deliver, Cond.selects RX5 yX5_deliver yX5_deliver, Cond.code yX5_deliver cX5_deliver 2 (some .int), Cond.methodLink RX5 168 yX5_isThere, Cond.instanceMethod yX5_isThere, Cond.selects RX5 yX5_isThere yX5_isThere, Cond.code yX5_isThere cX5_isThere 2 (some .boolean), Cond.methodLink RX5 171 yX5_does, Cond.instanceMethod yX5_does, Cond.selects RX5 yX5_does yX5_does, Cond.code yX5_does cX5_does 5 (some .boolean), Cond.methodLink RX5 152 yX5_prepares, Cond.instanceMethod yX5_prepares, Cond.selects RX5 yX5_prepares yX5_prepares, Cond.code yX5_prepares cX5_prepares 6 (some .boolean), Cond.methodLink RX5 117 yX5_havingAs, Cond.instanceMethod yX5_havingAs, Cond.selects RX5 yX5_havingAs yX5_havingAs, Cond.code yX5_havingAs cX5_havingAs 5 none, Cond.methodLink RX5 106 yX5_greater, Cond.static yX5_greater]
def wsL_law_r16 : List Cond := [Cond.code yX5_greater cX5_greater 2 (some .int), Cond.methodLink RX5 110 yX5_lesser, Cond.static yX5_lesser, Cond.code yX5_lesser cX5_lesser 2 (some .int), Cond.methodLink RX5 113 yX5_postOk, Cond.instanceMethod yX5_postOk, Cond.selects RX5 yX5_postOk yX5_postOk, Cond.code yX5_postOk cX5_postOk 2 none, Cond.methodLink RX5 155 yX5_hears, Cond.instanceMethod yX5_hears, Cond.selects RX5 yX5_hears yX5_hears, Cond.code yX5_hears cX5_hears 8 (some .boolean), Cond.methodLink RX5 158 yX5_isAsked, Cond.instanceMethod yX5_isAsked, Cond.selects RX5 yX5_isAsked yX5_isAsked, Cond.code yX5_isAsked cX5_isAsked 6 (some .boolean), Cond.methodLink RX5 131 yX5_changes, Cond.instanceMethod yX5_changes, Cond.selects RX5 yX5_changes yX5_changes, Cond.code yX5_changes cX5_changes 4 none, Cond.methodLink RX5 124 yX5_forget, Cond.instanceMethod yX5_forget, Cond.selects RX5 yX5_forget yX5_forget, Cond.code yX5_forget cX5_forget 3 none]
def wsL_law_r17 : List Cond := [Cond.methodLink RX5 134 yX5_voters, Cond.instanceMethod yX5_voters, Cond.selects RX5 yX5_voters yX5_voters, Cond.code yX5_voters cX5_voters 4 (some .int), Cond.methodLink RX5 138 yX5_takesVote, Cond.instanceMethod yX5_takesVote, Cond.selects RX5 yX5_takesVote yX5_takesVote, Cond.code yX5_takesVote cX5_takesVote 10 (some .boolean), Cond.methodLink RX5 142 yX5_votes, Cond.instanceMethod yX5_votes, Cond.selects RX5 yX5_votes yX5_votes, Cond.code yX5_votes cX5_votes 4 (some .int), Cond.methodLink RX5 161 yX5_isVoted, Cond.instanceMethod yX5_isVoted, Cond.selects RX5 yX5_isVoted yX5_isVoted, Cond.code yX5_isVoted cX5_isVoted 7 (some .boolean), Cond.methodLink RX5 165 yX5_hearsTale, Cond.instanceMethod yX5_hearsTale, Cond.selects RX5 yX5_hearsTale yX5_hearsTale, Cond.code yX5_hearsTale cX5_hearsTale 9 (some .boolean), Cond.methodLink RL 31 yX4_drop, Cond.instanceMethod yX4_drop, Cond.selects RX4 yX4_drop yX4_drop, Cond.code yX4_drop cX4_drop 3 (some .int)]
def wsL_law_r18 : List Cond := [Cond.fieldLink RX4 87 "ViewStamps$Letter" "dropped" "Z", Cond.methodLink RL 34 yX5_drop, Cond.instanceMethod yX5_drop, Cond.selects RX5 yX5_drop yX5_drop, Cond.code yX5_drop cX5_drop 2 (some .int), Cond.methodLink RL 35 yX4_cut, Cond.instanceMethod yX4_cut, Cond.selects RX4 yX4_cut yX4_cut, Cond.code yX4_cut cX4_cut 6 (some .int), Cond.methodLink RL 39 yX5_cut, Cond.instanceMethod yX5_cut, Cond.selects RX5 yX5_cut yX5_cut, Cond.code yX5_cut cX5_cut 5 (some .int), Cond.methodLink RL 40 yX4_timeout, Cond.instanceMethod yX4_timeout, Cond.selects RX4 yX4_timeout yX4_timeout, Cond.code yX4_timeout cX4_timeout 3 (some .int), Cond.fieldLink RX4 94 "ViewStamps$Node" "view" "I", Cond.methodLink RX4 91 yX2_isDown, Cond.methodLink RX4 97 yX2_changeTo, Cond.methodLink RL 43 yX5_timeout, Cond.instanceMethod yX5_timeout, Cond.selects RX5 yX5_timeout yX5_timeout, Cond.code yX5_timeout cX5_timeout 2 (some .int)]
def wsL_law_r19 : List Cond := [Cond.methodLink RL 44 yX4_resend, Cond.instanceMethod yX4_resend, Cond.selects RX4 yX4_resend yX4_resend, Cond.code yX4_resend cX4_resend 3 (some .int), Cond.fieldLink RX4 101 "ViewStamps$Node" "status" "I", Cond.methodLink RX4 104 yX2_postAgain, Cond.instanceMethod yX2_postAgain, Cond.selects RX2 yX2_postAgain yX2_postAgain, Cond.code yX2_postAgain cX2_postAgain 1 (some .int), Cond.methodLink RL 47 yX5_resend, Cond.instanceMethod yX5_resend, Cond.selects RX5 yX5_resend yX5_resend, Cond.code yX5_resend cX5_resend 3 (some .int), Cond.methodLink RL 48 yX4_crash, Cond.instanceMethod yX4_crash, Cond.selects RX4 yX4_crash yX4_crash, Cond.code yX4_crash cX4_crash 4 (some .int), Cond.methodLink RX4 107 yX2_loseAll, Cond.instanceMethod yX2_loseAll, Cond.selects RX2 yX2_loseAll yX2_loseAll, Cond.code yX2_loseAll cX2_loseAll 1 none, Cond.methodLink RX2 122 yX2_forgetTales, Cond.instanceMethod yX2_forgetTales, Cond.selects RX2 yX2_forgetTales yX2_forgetTales]
def wsL_law_r20 : List Cond := [Cond.code yX2_forgetTales cX2_forgetTales 2 none, Cond.methodLink RL 51 yX5_crash, Cond.instanceMethod yX5_crash, Cond.selects RX5 yX5_crash yX5_crash, Cond.code yX5_crash cX5_crash 4 (some .int), Cond.methodLink RL 52 yX4_recover, Cond.instanceMethod yX4_recover, Cond.selects RX4 yX4_recover yX4_recover, Cond.code yX4_recover cX4_recover 4 (some .int), Cond.methodLink RX4 111 yX2_startRecovery, Cond.instanceMethod yX2_startRecovery, Cond.selects RX2 yX2_startRecovery yX2_startRecovery, Cond.code yX2_startRecovery cX2_startRecovery 2 none, Cond.methodLink RL 56 yX5_recover, Cond.instanceMethod yX5_recover, Cond.selects RX5 yX5_recover yX5_recover, Cond.code yX5_recover cX5_recover 4 (some .int), Cond.methodLink RL 57 yX4_node, Cond.instanceMethod yX4_node, Cond.selects RX4 yX4_node yX4_node, Cond.code yX4_node cX4_node 4 (some .int), Cond.methodLink RX4 114 yX2_field, Cond.instanceMethod yX2_field, Cond.selects RX2 yX2_field yX2_field]
def wsL_law_r21 : List Cond := [Cond.code yX2_field cX2_field 3 (some .int), Cond.methodLink RL 60 yX5_node, Cond.instanceMethod yX5_node, Cond.selects RX5 yX5_node yX5_node, Cond.code yX5_node cX5_node 4 (some .int), Cond.methodLink RX5 174 yX5_tales, Cond.instanceMethod yX5_tales, Cond.selects RX5 yX5_tales yX5_tales, Cond.code yX5_tales cX5_tales 4 (some .int), Cond.methodLink RL 61 yX4_entry, Cond.instanceMethod yX4_entry, Cond.selects RX4 yX4_entry yX4_entry, Cond.code yX4_entry cX4_entry 5 (some .int), Cond.constant RX4 118 (-2147483648), Cond.methodLink RX4 119 yX1_field, Cond.methodLink RL 65 yX5_entry, Cond.instanceMethod yX5_entry, Cond.selects RX5 yX5_entry yX5_entry, Cond.code yX5_entry cX5_entry 4 (some .int), Cond.constant RX5 177 (-2147483648), Cond.methodLink RL 66 yX4_register, Cond.instanceMethod yX4_register, Cond.selects RX4 yX4_register yX4_register, Cond.code yX4_register cX4_register 4 (some .int)]
def wsL_law_r22 : List Cond := [Cond.methodLink RX4 121 yX2_workOutRegisters, Cond.instanceMethod yX2_workOutRegisters, Cond.selects RX2 yX2_workOutRegisters yX2_workOutRegisters, Cond.code yX2_workOutRegisters cX2_workOutRegisters 1 (some (.array .int)), Cond.methodLink RX2 92 yX1_play, Cond.instanceMethod yX1_play, Cond.selects RX1 yX1_play yX1_play, Cond.code yX1_play cX1_play 6 none, Cond.methodLink RL 69 yX5_register, Cond.instanceMethod yX5_register, Cond.selects RX5 yX5_register yX5_register, Cond.code yX5_register cX5_register 8 (some .int), Cond.methodLink RL 70 yX4_known, Cond.instanceMethod yX4_known, Cond.selects RX4 yX4_known yX4_known, Cond.code yX4_known cX4_known 4 (some .int), Cond.fieldLink RX4 125 "ViewStamps$Node" "told" "[I", Cond.methodLink RL 73 yX5_known, Cond.instanceMethod yX5_known, Cond.selects RX5 yX5_known yX5_known, Cond.code yX5_known cX5_known 3 (some .int), Cond.methodLink RL 74 yX4_letter, Cond.instanceMethod yX4_letter, Cond.selects RX4 yX4_letter yX4_letter]
def wsL_law_r23 : List Cond := [Cond.code yX4_letter cX4_letter 4 (some .int), Cond.methodLink RX4 129 yX3_at, Cond.methodLink RX4 132 yX0_field, Cond.instanceMethod yX0_field, Cond.selects RX0 yX0_field yX0_field, Cond.code yX0_field cX0_field 2 (some .int), Cond.fieldLink RX0 40 "ViewStamps$Letter" "dropped" "Z", Cond.methodLink RX0 34 yX1_size, Cond.methodLink RL 77 yX5_letter, Cond.instanceMethod yX5_letter, Cond.selects RX5 yX5_letter yX5_letter, Cond.code yX5_letter cX5_letter 4 (some .int), Cond.methodLink RL 78 yX4_count, Cond.instanceMethod yX4_count, Cond.selects RX4 yX4_count yX4_count, Cond.code yX4_count cX4_count 2 (some .int), Cond.fieldLink RX4 133 "ViewStamps$Pool" "posted" "I", Cond.fieldLink RX4 139 "ViewStamps$Pool" "lost" "I", Cond.methodLink RX4 136 yX3_countDropped, Cond.instanceMethod yX3_countDropped, Cond.selects RX3 yX3_countDropped yX3_countDropped, Cond.code yX3_countDropped cX3_countDropped 6 (some .int), Cond.methodLink RX4 142 yX4_countCutLines, Cond.instanceMethod yX4_countCutLines]
def wsL_law_r24 : List Cond := [Cond.selects RX4 yX4_countCutLines yX4_countCutLines, Cond.code yX4_countCutLines cX4_countCutLines 6 (some .int), Cond.methodLink RX4 145 yX4_countNormal, Cond.instanceMethod yX4_countNormal, Cond.selects RX4 yX4_countNormal yX4_countNormal, Cond.code yX4_countNormal cX4_countNormal 6 (some .int), Cond.methodLink RL 81 yX5_count, Cond.instanceMethod yX5_count, Cond.selects RX5 yX5_count yX5_count, Cond.code yX5_count cX5_count 5 (some .int), Cond.methodLink RL 82 yX4_unlike, Cond.instanceMethod yX4_unlike, Cond.selects RX4 yX4_unlike yX4_unlike, Cond.code yX4_unlike cX4_unlike 4 (some .int), Cond.fieldLink RX4 148 "ViewStamps$Node" "sure" "I", Cond.methodLink RX4 156 yX1_isLike, Cond.instanceMethod yX1_isLike, Cond.selects RX1 yX1_isLike yX1_isLike, Cond.code yX1_isLike cX1_isLike 5 (some .boolean), Cond.methodLink RL 86 yX5_unlike, Cond.instanceMethod yX5_unlike, Cond.selects RX5 yX5_unlike yX5_unlike, Cond.code yX5_unlike cX5_unlike 5 (some .int), Cond.methodLink RL 87 yX4_digest]
def wsL_law_r25 : List Cond := [Cond.instanceMethod yX4_digest, Cond.selects RX4 yX4_digest yX4_digest, Cond.code yX4_digest cX4_digest 7 (some .long), Cond.constantLong RX4 160 (17), Cond.constantLong RX4 166 (31), Cond.methodLink RX4 162 yX4_digestOfNode, Cond.static yX4_digestOfNode, Cond.code yX4_digestOfNode cX4_digestOfNode 9 (some .long), Cond.methodLink RX4 168 yX4_letter, Cond.methodLink RL 91 yX5_digest, Cond.instanceMethod yX5_digest, Cond.selects RX5 yX5_digest yX5_digest, Cond.code yX5_digest cX5_digest 5 (some .long), Cond.constantLong RX5 178 (17), Cond.constantLong RX5 180 (31), Cond.methodLink RX5 182 yX5_node, Cond.methodLink RX5 185 yX5_register, Cond.methodLink RX5 188 yX5_letter]
def wsL_law : List Cond := (wsL_law_r1 ++ (wsL_law_r2 ++ (wsL_law_r3 ++ (wsL_law_r4 ++ (wsL_law_r5 ++ (wsL_law_r6 ++ (wsL_law_r7 ++ (wsL_law_r8 ++ (wsL_law_r9 ++ (wsL_law_r10 ++ (wsL_law_r11 ++ (wsL_law_r12 ++ (wsL_law_r13 ++ (wsL_law_r14 ++ (wsL_law_r15 ++ (wsL_law_r16 ++ (wsL_law_r17 ++ (wsL_law_r18 ++ (wsL_law_r19 ++ (wsL_law_r20 ++ (wsL_law_r21 ++ (wsL_law_r22 ++ (wsL_law_r23 ++ (wsL_law_r24 ++ wsL_law_r25)))))))))))))))))))))))) ++ wsX40 ++ wsX50 ++ wsX10 ++ wsX30 ++ wsX20 ++ wsX00 ++ ([] : List Cond)
end
section
theorem dX0_init_0 : decode cX0_init 0 = .ok (.aload_n 0, 1) := by decide +kernel
theorem dX0_init_1 : decode cX0_init 1 = .ok (.invokespecial 3, 3) := by decide +kernel
theorem dX0_init_4 : decode cX0_init 4 = .ok (.aload_n 0, 1) := by decide +kernel
theorem dX0_init_5 : decode cX0_init 5 = .ok (.iload_n 1, 1) := by decide +kernel
theorem dX0_init_6 : decode cX0_init 6 = .ok (.putfield 9, 3) := by decide +kernel
theorem dX0_init_9 : decode cX0_init 9 = .ok (.aload_n 0, 1) := by decide +kernel
theorem dX0_init_10 : decode cX0_init 10 = .ok (.iload_n 2, 1) := by decide +kernel
theorem dX0_init_11 : decode cX0_init 11 = .ok (.putfield 15, 3) := by decide +kernel
theorem dX0_init_14 : decode cX0_init 14 = .ok (.aload_n 0, 1) := by decide +kernel
theorem dX0_init_15 : decode cX0_init 15 = .ok (.iload_n 3, 1) := by decide +kernel
theorem dX0_init_16 : decode cX0_init 16 = .ok (.putfield 18, 3) := by decide +kernel
theorem dX0_init_19 : decode cX0_init 19 = .ok (.aload_n 0, 1) := by decide +kernel
theorem dX0_init_20 : decode cX0_init 20 = .ok (.iload 4, 2) := by decide +kernel
theorem dX0_init_22 : decode cX0_init 22 = .ok (.putfield 21, 3) := by decide +kernel
theorem dX0_init_25 : decode cX0_init 25 = .ok (.aload_n 0, 1) := by decide +kernel
theorem dX0_init_26 : decode cX0_init 26 = .ok (.aload 5, 2) := by decide +kernel
theorem dX0_init_28 : decode cX0_init 28 = .ok (.putfield 24, 3) := by decide +kernel
theorem dX0_init_31 : decode cX0_init 31 = .ok (.aload_n 0, 1) := by decide +kernel
theorem dX0_init_32 : decode cX0_init 32 = .ok (.iload 6, 2) := by decide +kernel
theorem dX0_init_34 : decode cX0_init 34 = .ok (.putfield 28, 3) := by decide +kernel
theorem dX0_init_37 : decode cX0_init 37 = .ok (.aload_n 0, 1) := by decide +kernel
theorem dX0_init_38 : decode cX0_init 38 = .ok (.iload 7, 2) := by decide +kernel
theorem dX0_init_40 : decode cX0_init 40 = .ok (.putfield 31, 3) := by decide +kernel
theorem dX0_init_43 : decode cX0_init 43 = .ok (.return_, 1) := by decide +kernel
set_option maxRecDepth 20000 in
theorem ggX0_field_X1_size : GoodIn wsX0_field wsX1_size := goodIn_r _ [13, 14, 23] (by decide +kernel) (by decide +kernel)
set_option maxRecDepth 20000 in
theorem gX0_field_X1_size : GoodIn wsX0_field (wsV RX0 34 RX1 yX1_size wsX1_size) := goodIn_app (goodIn_of _ (by decide +kernel)) ggX0_field_X1_size
theorem dX0_field_0 : decode cX0_field 0 = .ok (.iload_n 1, 1) := by decide +kernel
theorem dX0_field_1 : decode cX0_field 1 = .ok (.tableswitch 98 0 7 #[47, 52, 57, 62, 67, 75, 80, 85], 47) := by decide +kernel
theorem dX0_field_48 : decode cX0_field 48 = .ok (.aload_n 0, 1) := by decide +kernel
theorem dX0_field_49 : decode cX0_field 49 = .ok (.getfield 9, 3) := by decide +kernel
theorem dX0_field_52 : decode cX0_field 52 = .ok (.ireturn, 1) := by decide +kernel
theorem dX0_field_53 : decode cX0_field 53 = .ok (.aload_n 0, 1) := by decide +kernel
theorem dX0_field_54 : decode cX0_field 54 = .ok (.getfield 15, 3) := by decide +kernel
theorem dX0_field_57 : decode cX0_field 57 = .ok (.ireturn, 1) := by decide +kernel
theorem dX0_field_58 : decode cX0_field 58 = .ok (.aload_n 0, 1) := by decide +kernel
theorem dX0_field_59 : decode cX0_field 59 = .ok (.getfield 18, 3) := by decide +kernel
theorem dX0_field_62 : decode cX0_field 62 = .ok (.ireturn, 1) := by decide +kernel
theorem dX0_field_63 : decode cX0_field 63 = .ok (.aload_n 0, 1) := by decide +kernel
theorem dX0_field_64 : decode cX0_field 64 = .ok (.getfield 21, 3) := by decide +kernel
theorem dX0_field_67 : decode cX0_field 67 = .ok (.ireturn, 1) := by decide +kernel
theorem dX0_field_68 : decode cX0_field 68 = .ok (.aload_n 0, 1) := by decide +kernel
theorem dX0_field_69 : decode cX0_field 69 = .ok (.getfield 24, 3) := by decide +kernel
theorem dX0_field_72 : decode cX0_field 72 = .ok (.invokevirtual 34, 3) := by decide +kernel
theorem dX0_field_75 : decode cX0_field 75 = .ok (.ireturn, 1) := by decide +kernel
theorem dX0_field_76 : decode cX0_field 76 = .ok (.aload_n 0, 1) := by decide +kernel
theorem dX0_field_77 : decode cX0_field 77 = .ok (.getfield 28, 3) := by decide +kernel
theorem dX0_field_80 : decode cX0_field 80 = .ok (.ireturn, 1) := by decide +kernel
theorem dX0_field_81 : decode cX0_field 81 = .ok (.aload_n 0, 1) := by decide +kernel
theorem dX0_field_82 : decode cX0_field 82 = .ok (.getfield 31, 3) := by decide +kernel
theorem dX0_field_85 : decode cX0_field 85 = .ok (.ireturn, 1) := by decide +kernel
theorem dX0_field_86 : decode cX0_field 86 = .ok (.aload_n 0, 1) := by decide +kernel
theorem dX0_field_87 : decode cX0_field 87 = .ok (.getfield 40, 3) := by decide +kernel
theorem dX0_field_90 : decode cX0_field 90 = .ok (.ifCond .eq 7, 3) := by decide +kernel
theorem dX0_field_93 : decode cX0_field 93 = .ok (.iconst 1, 1) := by decide +kernel
theorem dX0_field_94 : decode cX0_field 94 = .ok (.goto 4, 3) := by decide +kernel
theorem dX0_field_97 : decode cX0_field 97 = .ok (.iconst 0, 1) := by decide +kernel
theorem dX0_field_98 : decode cX0_field 98 = .ok (.ireturn, 1) := by decide +kernel
theorem dX0_field_99 : decode cX0_field 99 = .ok (.bipush (-2), 2) := by decide +kernel
theorem dX0_field_101 : decode cX0_field 101 = .ok (.ireturn, 1) := by decide +kernel
theorem dX1_init_0 : decode cX1_init 0 = .ok (.aload_n 0, 1) := by decide +kernel
theorem dX1_init_1 : decode cX1_init 1 = .ok (.invokespecial 3, 3) := by decide +kernel
theorem dX1_init_4 : decode cX1_init 4 = .ok (.aload_n 0, 1) := by decide +kernel
theorem dX1_init_5 : decode cX1_init 5 = .ok (.aload_n 1, 1) := by decide +kernel
theorem dX1_init_6 : decode cX1_init 6 = .ok (.putfield 9, 3) := by decide +kernel
theorem dX1_init_9 : decode cX1_init 9 = .ok (.return_, 1) := by decide +kernel
theorem dX1_size_0 : decode cX1_size 0 = .ok (.aload_n 0, 1) := by decide +kernel
theorem dX1_size_1 : decode cX1_size 1 = .ok (.getfield 9, 3) := by decide +kernel
theorem dX1_size_4 : decode cX1_size 4 = .ok (.arraylength, 1) := by decide +kernel
theorem dX1_size_5 : decode cX1_size 5 = .ok (.bipush 6, 2) := by decide +kernel
theorem dX1_size_7 : decode cX1_size 7 = .ok (.idiv, 1) := by decide +kernel
theorem dX1_size_8 : decode cX1_size 8 = .ok (.ireturn, 1) := by decide +kernel
set_option maxRecDepth 20000 in
theorem ggX1_field_X1_size : GoodIn wsX1_field wsX1_size := goodIn_r _ [7, 2, 8] (by decide +kernel) (by decide +kernel)
set_option maxRecDepth 20000 in
theorem gX1_field_X1_size : GoodIn wsX1_field (wsV RX1 15 RX1 yX1_size wsX1_size) := goodIn_app (goodIn_of _ (by decide +kernel)) ggX1_field_X1_size
theorem dX1_field_0 : decode cX1_field 0 = .ok (.iload_n 1, 1) := by decide +kernel
theorem dX1_field_1 : decode cX1_field 1 = .ok (.iconst 1, 1) := by decide +kernel
theorem dX1_field_2 : decode cX1_field 2 = .ok (.if_icmp .lt 21, 3) := by decide +kernel
theorem dX1_field_5 : decode cX1_field 5 = .ok (.iload_n 1, 1) := by decide +kernel
theorem dX1_field_6 : decode cX1_field 6 = .ok (.aload_n 0, 1) := by decide +kernel
theorem dX1_field_7 : decode cX1_field 7 = .ok (.invokevirtual 15, 3) := by decide +kernel
theorem dX1_field_10 : decode cX1_field 10 = .ok (.if_icmp .gt 13, 3) := by decide +kernel
theorem dX1_field_13 : decode cX1_field 13 = .ok (.iload_n 2, 1) := by decide +kernel
theorem dX1_field_14 : decode cX1_field 14 = .ok (.ifCond .lt 9, 3) := by decide +kernel
theorem dX1_field_17 : decode cX1_field 17 = .ok (.iload_n 2, 1) := by decide +kernel
theorem dX1_field_18 : decode cX1_field 18 = .ok (.bipush 6, 2) := by decide +kernel
theorem dX1_field_20 : decode cX1_field 20 = .ok (.if_icmp .lt 6, 3) := by decide +kernel
theorem dX1_field_23 : decode cX1_field 23 = .ok (.ldc 19, 2) := by decide +kernel
theorem dX1_field_25 : decode cX1_field 25 = .ok (.ireturn, 1) := by decide +kernel
theorem dX1_field_26 : decode cX1_field 26 = .ok (.aload_n 0, 1) := by decide +kernel
theorem dX1_field_27 : decode cX1_field 27 = .ok (.getfield 9, 3) := by decide +kernel
theorem dX1_field_30 : decode cX1_field 30 = .ok (.iload_n 1, 1) := by decide +kernel
theorem dX1_field_31 : decode cX1_field 31 = .ok (.iconst 1, 1) := by decide +kernel
theorem dX1_field_32 : decode cX1_field 32 = .ok (.isub, 1) := by decide +kernel
theorem dX1_field_33 : decode cX1_field 33 = .ok (.bipush 6, 2) := by decide +kernel
theorem dX1_field_35 : decode cX1_field 35 = .ok (.imul, 1) := by decide +kernel
theorem dX1_field_36 : decode cX1_field 36 = .ok (.iload_n 2, 1) := by decide +kernel
theorem dX1_field_37 : decode cX1_field 37 = .ok (.iadd, 1) := by decide +kernel
theorem dX1_field_38 : decode cX1_field 38 = .ok (.iaload, 1) := by decide +kernel
theorem dX1_field_39 : decode cX1_field 39 = .ok (.ireturn, 1) := by decide +kernel
set_option maxRecDepth 20000 in
theorem ggX1_with_J7_copyOf_59c91 : GoodIn wsX1_with wsJ7_copyOf_59c91 := goodIn_r _ [8, 9, 10, 11, 12, 13, 14, 15, 16, 17, 18, 19, 20, 21, 22, 23] (by decide +kernel) (by decide +kernel)
set_option maxRecDepth 20000 in
theorem gX1_with_J7_copyOf_59c91 : GoodIn wsX1_with (va_wsS RX1 20 yJ7_copyOf_59c91 wsJ7_copyOf_59c91) := goodIn_app (goodIn_of _ (by decide +kernel)) ggX1_with_J7_copyOf_59c91
set_option maxRecDepth 20000 in
theorem ggX1_with_X1_init : GoodIn wsX1_with wsX1_init := goodIn_r _ [26, 27, 28, 29, 1, 30] (by decide +kernel) (by decide +kernel)
set_option maxRecDepth 20000 in
theorem gX1_with_X1_init : GoodIn wsX1_with (wsX1_init) := ggX1_with_X1_init
theorem dX1_with_0 : decode cX1_with 0 = .ok (.aload_n 0, 1) := by decide +kernel
theorem dX1_with_1 : decode cX1_with 1 = .ok (.getfield 9, 3) := by decide +kernel
theorem dX1_with_4 : decode cX1_with 4 = .ok (.arraylength, 1) := by decide +kernel
theorem dX1_with_5 : decode cX1_with 5 = .ok (.istore 7, 2) := by decide +kernel
theorem dX1_with_7 : decode cX1_with 7 = .ok (.aload_n 0, 1) := by decide +kernel
theorem dX1_with_8 : decode cX1_with 8 = .ok (.getfield 9, 3) := by decide +kernel
theorem dX1_with_11 : decode cX1_with 11 = .ok (.iload 7, 2) := by decide +kernel
theorem dX1_with_13 : decode cX1_with 13 = .ok (.bipush 6, 2) := by decide +kernel
theorem dX1_with_15 : decode cX1_with 15 = .ok (.iadd, 1) := by decide +kernel
theorem dX1_with_16 : decode cX1_with 16 = .ok (.invokestatic 20, 3) := by decide +kernel
theorem dX1_with_19 : decode cX1_with 19 = .ok (.astore 8, 2) := by decide +kernel
theorem dX1_with_21 : decode cX1_with 21 = .ok (.aload 8, 2) := by decide +kernel
theorem dX1_with_23 : decode cX1_with 23 = .ok (.iload 7, 2) := by decide +kernel
theorem dX1_with_25 : decode cX1_with 25 = .ok (.iconst 0, 1) := by decide +kernel
theorem dX1_with_26 : decode cX1_with 26 = .ok (.iadd, 1) := by decide +kernel
theorem dX1_with_27 : decode cX1_with 27 = .ok (.iload_n 1, 1) := by decide +kernel
theorem dX1_with_28 : decode cX1_with 28 = .ok (.iastore, 1) := by decide +kernel
theorem dX1_with_29 : decode cX1_with 29 = .ok (.aload 8, 2) := by decide +kernel
theorem dX1_with_31 : decode cX1_with 31 = .ok (.iload 7, 2) := by decide +kernel
theorem dX1_with_33 : decode cX1_with 33 = .ok (.iconst 1, 1) := by decide +kernel
theorem dX1_with_34 : decode cX1_with 34 = .ok (.iadd, 1) := by decide +kernel
theorem dX1_with_35 : decode cX1_with 35 = .ok (.iload_n 2, 1) := by decide +kernel
theorem dX1_with_36 : decode cX1_with 36 = .ok (.iastore, 1) := by decide +kernel
theorem dX1_with_37 : decode cX1_with 37 = .ok (.aload 8, 2) := by decide +kernel
theorem dX1_with_39 : decode cX1_with 39 = .ok (.iload 7, 2) := by decide +kernel
theorem dX1_with_41 : decode cX1_with 41 = .ok (.iconst 2, 1) := by decide +kernel
theorem dX1_with_42 : decode cX1_with 42 = .ok (.iadd, 1) := by decide +kernel
theorem dX1_with_43 : decode cX1_with 43 = .ok (.iload_n 3, 1) := by decide +kernel
theorem dX1_with_44 : decode cX1_with 44 = .ok (.iastore, 1) := by decide +kernel
theorem dX1_with_45 : decode cX1_with 45 = .ok (.aload 8, 2) := by decide +kernel
theorem dX1_with_47 : decode cX1_with 47 = .ok (.iload 7, 2) := by decide +kernel
theorem dX1_with_49 : decode cX1_with 49 = .ok (.iconst 3, 1) := by decide +kernel
theorem dX1_with_50 : decode cX1_with 50 = .ok (.iadd, 1) := by decide +kernel
theorem dX1_with_51 : decode cX1_with 51 = .ok (.iload 4, 2) := by decide +kernel
theorem dX1_with_53 : decode cX1_with 53 = .ok (.iastore, 1) := by decide +kernel
theorem dX1_with_54 : decode cX1_with 54 = .ok (.aload 8, 2) := by decide +kernel
theorem dX1_with_56 : decode cX1_with 56 = .ok (.iload 7, 2) := by decide +kernel
theorem dX1_with_58 : decode cX1_with 58 = .ok (.iconst 4, 1) := by decide +kernel
theorem dX1_with_59 : decode cX1_with 59 = .ok (.iadd, 1) := by decide +kernel
theorem dX1_with_60 : decode cX1_with 60 = .ok (.iload 5, 2) := by decide +kernel
theorem dX1_with_62 : decode cX1_with 62 = .ok (.iastore, 1) := by decide +kernel
theorem dX1_with_63 : decode cX1_with 63 = .ok (.aload 8, 2) := by decide +kernel
theorem dX1_with_65 : decode cX1_with 65 = .ok (.iload 7, 2) := by decide +kernel
theorem dX1_with_67 : decode cX1_with 67 = .ok (.iconst 5, 1) := by decide +kernel
theorem dX1_with_68 : decode cX1_with 68 = .ok (.iadd, 1) := by decide +kernel
theorem dX1_with_69 : decode cX1_with 69 = .ok (.iload 6, 2) := by decide +kernel
theorem dX1_with_71 : decode cX1_with 71 = .ok (.iastore, 1) := by decide +kernel
theorem dX1_with_72 : decode cX1_with 72 = .ok (.new 10, 3) := by decide +kernel
theorem dX1_with_75 : decode cX1_with 75 = .ok (.dup, 1) := by decide +kernel
theorem dX1_with_76 : decode cX1_with 76 = .ok (.aload 8, 2) := by decide +kernel
theorem dX1_with_78 : decode cX1_with 78 = .ok (.invokespecial 26, 3) := by decide +kernel
theorem dX1_with_81 : decode cX1_with 81 = .ok (.areturn, 1) := by decide +kernel
set_option maxRecDepth 20000 in
theorem ggX1_answers_X1_size : GoodIn wsX1_answers wsX1_size := goodIn_r _ [5, 6, 12] (by decide +kernel) (by decide +kernel)
set_option maxRecDepth 20000 in
theorem gX1_answers_X1_size : GoodIn wsX1_answers (wsV RX1 15 RX1 yX1_size wsX1_size) := goodIn_app (goodIn_of _ (by decide +kernel)) ggX1_answers_X1_size
set_option maxRecDepth 20000 in
theorem ggX1_answers_X1_field : GoodIn wsX1_answers wsX1_field := goodIn_r _ [10, 11, 6, 1, 2, 3, 4, 5, 12] (by decide +kernel) (by decide +kernel)
set_option maxRecDepth 20000 in
theorem gX1_answers_X1_field : GoodIn wsX1_answers (wsV RX1 29 RX1 yX1_field wsX1_field) := goodIn_app (goodIn_of _ (by decide +kernel)) ggX1_answers_X1_field
theorem dX1_answers_0 : decode cX1_answers 0 = .ok (.iconst 1, 1) := by decide +kernel
theorem dX1_answers_1 : decode cX1_answers 1 = .ok (.istore_n 3, 1) := by decide +kernel
theorem dX1_answers_2 : decode cX1_answers 2 = .ok (.iload_n 3, 1) := by decide +kernel
theorem dX1_answers_3 : decode cX1_answers 3 = .ok (.aload_n 0, 1) := by decide +kernel
theorem dX1_answers_4 : decode cX1_answers 4 = .ok (.invokevirtual 15, 3) := by decide +kernel
theorem dX1_answers_7 : decode cX1_answers 7 = .ok (.if_icmp .gt 31, 3) := by decide +kernel
theorem dX1_answers_10 : decode cX1_answers 10 = .ok (.aload_n 0, 1) := by decide +kernel
theorem dX1_answers_11 : decode cX1_answers 11 = .ok (.iload_n 3, 1) := by decide +kernel
theorem dX1_answers_12 : decode cX1_answers 12 = .ok (.iconst 0, 1) := by decide +kernel
theorem dX1_answers_13 : decode cX1_answers 13 = .ok (.invokevirtual 29, 3) := by decide +kernel
theorem dX1_answers_16 : decode cX1_answers 16 = .ok (.iload_n 1, 1) := by decide +kernel
theorem dX1_answers_17 : decode cX1_answers 17 = .ok (.if_icmp .ne 15, 3) := by decide +kernel
theorem dX1_answers_20 : decode cX1_answers 20 = .ok (.aload_n 0, 1) := by decide +kernel
theorem dX1_answers_21 : decode cX1_answers 21 = .ok (.iload_n 3, 1) := by decide +kernel
theorem dX1_answers_22 : decode cX1_answers 22 = .ok (.iconst 1, 1) := by decide +kernel
theorem dX1_answers_23 : decode cX1_answers 23 = .ok (.invokevirtual 29, 3) := by decide +kernel
theorem dX1_answers_26 : decode cX1_answers 26 = .ok (.iload_n 2, 1) := by decide +kernel
theorem dX1_answers_27 : decode cX1_answers 27 = .ok (.if_icmp .lt 5, 3) := by decide +kernel
theorem dX1_answers_30 : decode cX1_answers 30 = .ok (.iconst 1, 1) := by decide +kernel
theorem dX1_answers_31 : decode cX1_answers 31 = .ok (.ireturn, 1) := by decide +kernel
theorem dX1_answers_32 : decode cX1_answers 32 = .ok (.iinc 3 1, 3) := by decide +kernel
theorem dX1_answers_35 : decode cX1_answers 35 = .ok (.goto (-33), 3) := by decide +kernel
theorem dX1_answers_38 : decode cX1_answers 38 = .ok (.iconst 0, 1) := by decide +kernel
theorem dX1_answers_39 : decode cX1_answers 39 = .ok (.ireturn, 1) := by decide +kernel
set_option maxRecDepth 20000 in
theorem ggX1_isLike_X1_field : GoodIn wsX1_isLike wsX1_field := goodIn_r _ [5, 6, 7, 8, 9, 10, 4, 11, 12] (by decide +kernel) (by decide +kernel)
set_option maxRecDepth 20000 in
theorem gX1_isLike_X1_field : GoodIn wsX1_isLike (wsV RX1 29 RX1 yX1_field wsX1_field) := goodIn_app (goodIn_of _ (by decide +kernel)) ggX1_isLike_X1_field
theorem dX1_isLike_0 : decode cX1_isLike 0 = .ok (.iconst 1, 1) := by decide +kernel
theorem dX1_isLike_1 : decode cX1_isLike 1 = .ok (.istore_n 3, 1) := by decide +kernel
theorem dX1_isLike_2 : decode cX1_isLike 2 = .ok (.iload_n 3, 1) := by decide +kernel
theorem dX1_isLike_3 : decode cX1_isLike 3 = .ok (.iload_n 2, 1) := by decide +kernel
theorem dX1_isLike_4 : decode cX1_isLike 4 = .ok (.if_icmp .gt 44, 3) := by decide +kernel
theorem dX1_isLike_7 : decode cX1_isLike 7 = .ok (.iconst 0, 1) := by decide +kernel
theorem dX1_isLike_8 : decode cX1_isLike 8 = .ok (.istore 4, 2) := by decide +kernel
theorem dX1_isLike_10 : decode cX1_isLike 10 = .ok (.iload 4, 2) := by decide +kernel
theorem dX1_isLike_12 : decode cX1_isLike 12 = .ok (.bipush 6, 2) := by decide +kernel
theorem dX1_isLike_14 : decode cX1_isLike 14 = .ok (.if_icmp .ge 28, 3) := by decide +kernel
theorem dX1_isLike_17 : decode cX1_isLike 17 = .ok (.aload_n 0, 1) := by decide +kernel
theorem dX1_isLike_18 : decode cX1_isLike 18 = .ok (.iload_n 3, 1) := by decide +kernel
theorem dX1_isLike_19 : decode cX1_isLike 19 = .ok (.iload 4, 2) := by decide +kernel
theorem dX1_isLike_21 : decode cX1_isLike 21 = .ok (.invokevirtual 29, 3) := by decide +kernel
theorem dX1_isLike_24 : decode cX1_isLike 24 = .ok (.aload_n 1, 1) := by decide +kernel
theorem dX1_isLike_25 : decode cX1_isLike 25 = .ok (.iload_n 3, 1) := by decide +kernel
theorem dX1_isLike_26 : decode cX1_isLike 26 = .ok (.iload 4, 2) := by decide +kernel
theorem dX1_isLike_28 : decode cX1_isLike 28 = .ok (.invokevirtual 29, 3) := by decide +kernel
theorem dX1_isLike_31 : decode cX1_isLike 31 = .ok (.if_icmp .eq 5, 3) := by decide +kernel
theorem dX1_isLike_34 : decode cX1_isLike 34 = .ok (.iconst 0, 1) := by decide +kernel
theorem dX1_isLike_35 : decode cX1_isLike 35 = .ok (.ireturn, 1) := by decide +kernel
theorem dX1_isLike_36 : decode cX1_isLike 36 = .ok (.iinc 4 1, 3) := by decide +kernel
theorem dX1_isLike_39 : decode cX1_isLike 39 = .ok (.goto (-29), 3) := by decide +kernel
theorem dX1_isLike_42 : decode cX1_isLike 42 = .ok (.iinc 3 1, 3) := by decide +kernel
theorem dX1_isLike_45 : decode cX1_isLike 45 = .ok (.goto (-43), 3) := by decide +kernel
theorem dX1_isLike_48 : decode cX1_isLike 48 = .ok (.iconst 1, 1) := by decide +kernel
theorem dX1_isLike_49 : decode cX1_isLike 49 = .ok (.ireturn, 1) := by decide +kernel
set_option maxRecDepth 20000 in
theorem ggX1_play_X1_field : GoodIn wsX1_play wsX1_field := goodIn_r _ [5, 6, 7, 8, 9, 10, 4, 11, 12] (by decide +kernel) (by decide +kernel)
set_option maxRecDepth 20000 in
theorem gX1_play_X1_field : GoodIn wsX1_play (wsV RX1 29 RX1 yX1_field wsX1_field) := goodIn_app (goodIn_of _ (by decide +kernel)) ggX1_play_X1_field
theorem dX1_play_0 : decode cX1_play 0 = .ok (.iconst 1, 1) := by decide +kernel
theorem dX1_play_1 : decode cX1_play 1 = .ok (.istore_n 3, 1) := by decide +kernel
theorem dX1_play_2 : decode cX1_play 2 = .ok (.iload_n 3, 1) := by decide +kernel
theorem dX1_play_3 : decode cX1_play 3 = .ok (.iload_n 1, 1) := by decide +kernel
theorem dX1_play_4 : decode cX1_play 4 = .ok (.if_icmp .gt 113, 3) := by decide +kernel
theorem dX1_play_7 : decode cX1_play 7 = .ok (.aload_n 0, 1) := by decide +kernel
theorem dX1_play_8 : decode cX1_play 8 = .ok (.iload_n 3, 1) := by decide +kernel
theorem dX1_play_9 : decode cX1_play 9 = .ok (.iconst 3, 1) := by decide +kernel
theorem dX1_play_10 : decode cX1_play 10 = .ok (.invokevirtual 29, 3) := by decide +kernel
theorem dX1_play_13 : decode cX1_play 13 = .ok (.istore 4, 2) := by decide +kernel
theorem dX1_play_15 : decode cX1_play 15 = .ok (.aload_n 0, 1) := by decide +kernel
theorem dX1_play_16 : decode cX1_play 16 = .ok (.iload_n 3, 1) := by decide +kernel
theorem dX1_play_17 : decode cX1_play 17 = .ok (.iconst 5, 1) := by decide +kernel
theorem dX1_play_18 : decode cX1_play 18 = .ok (.invokevirtual 29, 3) := by decide +kernel
theorem dX1_play_21 : decode cX1_play 21 = .ok (.istore 5, 2) := by decide +kernel
theorem dX1_play_23 : decode cX1_play 23 = .ok (.aload_n 0, 1) := by decide +kernel
theorem dX1_play_24 : decode cX1_play 24 = .ok (.iload_n 3, 1) := by decide +kernel
theorem dX1_play_25 : decode cX1_play 25 = .ok (.iconst 2, 1) := by decide +kernel
theorem dX1_play_26 : decode cX1_play 26 = .ok (.invokevirtual 29, 3) := by decide +kernel
theorem dX1_play_29 : decode cX1_play 29 = .ok (.tableswitch 82 0 2 #[27, 36, 48], 27) := by decide +kernel
theorem dX1_play_56 : decode cX1_play 56 = .ok (.aload_n 2, 1) := by decide +kernel
theorem dX1_play_57 : decode cX1_play 57 = .ok (.iload 4, 2) := by decide +kernel
theorem dX1_play_59 : decode cX1_play 59 = .ok (.iload 5, 2) := by decide +kernel
theorem dX1_play_61 : decode cX1_play 61 = .ok (.iastore, 1) := by decide +kernel
theorem dX1_play_62 : decode cX1_play 62 = .ok (.goto 49, 3) := by decide +kernel
theorem dX1_play_65 : decode cX1_play 65 = .ok (.aload_n 2, 1) := by decide +kernel
theorem dX1_play_66 : decode cX1_play 66 = .ok (.iload 4, 2) := by decide +kernel
theorem dX1_play_68 : decode cX1_play 68 = .ok (.dup2, 1) := by decide +kernel
theorem dX1_play_69 : decode cX1_play 69 = .ok (.iaload, 1) := by decide +kernel
theorem dX1_play_70 : decode cX1_play 70 = .ok (.iload 5, 2) := by decide +kernel
theorem dX1_play_72 : decode cX1_play 72 = .ok (.iadd, 1) := by decide +kernel
theorem dX1_play_73 : decode cX1_play 73 = .ok (.iastore, 1) := by decide +kernel
theorem dX1_play_74 : decode cX1_play 74 = .ok (.goto 37, 3) := by decide +kernel
theorem dX1_play_77 : decode cX1_play 77 = .ok (.aload_n 2, 1) := by decide +kernel
theorem dX1_play_78 : decode cX1_play 78 = .ok (.iload 4, 2) := by decide +kernel
theorem dX1_play_80 : decode cX1_play 80 = .ok (.iaload, 1) := by decide +kernel
theorem dX1_play_81 : decode cX1_play 81 = .ok (.iload 5, 2) := by decide +kernel
theorem dX1_play_83 : decode cX1_play 83 = .ok (.if_icmp .lt 28, 3) := by decide +kernel
theorem dX1_play_86 : decode cX1_play 86 = .ok (.aload_n 2, 1) := by decide +kernel
theorem dX1_play_87 : decode cX1_play 87 = .ok (.iload 4, 2) := by decide +kernel
theorem dX1_play_89 : decode cX1_play 89 = .ok (.dup2, 1) := by decide +kernel
theorem dX1_play_90 : decode cX1_play 90 = .ok (.iaload, 1) := by decide +kernel
theorem dX1_play_91 : decode cX1_play 91 = .ok (.iload 5, 2) := by decide +kernel
theorem dX1_play_93 : decode cX1_play 93 = .ok (.isub, 1) := by decide +kernel
theorem dX1_play_94 : decode cX1_play 94 = .ok (.iastore, 1) := by decide +kernel
theorem dX1_play_95 : decode cX1_play 95 = .ok (.aload_n 2, 1) := by decide +kernel
theorem dX1_play_96 : decode cX1_play 96 = .ok (.aload_n 0, 1) := by decide +kernel
theorem dX1_play_97 : decode cX1_play 97 = .ok (.iload_n 3, 1) := by decide +kernel
theorem dX1_play_98 : decode cX1_play 98 = .ok (.iconst 4, 1) := by decide +kernel
theorem dX1_play_99 : decode cX1_play 99 = .ok (.invokevirtual 29, 3) := by decide +kernel
theorem dX1_play_102 : decode cX1_play 102 = .ok (.dup2, 1) := by decide +kernel
theorem dX1_play_103 : decode cX1_play 103 = .ok (.iaload, 1) := by decide +kernel
theorem dX1_play_104 : decode cX1_play 104 = .ok (.iload 5, 2) := by decide +kernel
theorem dX1_play_106 : decode cX1_play 106 = .ok (.iadd, 1) := by decide +kernel
theorem dX1_play_107 : decode cX1_play 107 = .ok (.iastore, 1) := by decide +kernel
theorem dX1_play_108 : decode cX1_play 108 = .ok (.goto 3, 3) := by decide +kernel
theorem dX1_play_111 : decode cX1_play 111 = .ok (.iinc 3 1, 3) := by decide +kernel
theorem dX1_play_114 : decode cX1_play 114 = .ok (.goto (-112), 3) := by decide +kernel
theorem dX1_play_117 : decode cX1_play 117 = .ok (.return_, 1) := by decide +kernel
theorem dX2_init_0 : decode cX2_init 0 = .ok (.aload_n 0, 1) := by decide +kernel
theorem dX2_init_1 : decode cX2_init 1 = .ok (.invokespecial 3, 3) := by decide +kernel
theorem dX2_init_4 : decode cX2_init 4 = .ok (.aload_n 0, 1) := by decide +kernel
theorem dX2_init_5 : decode cX2_init 5 = .ok (.bipush 8, 2) := by decide +kernel
theorem dX2_init_7 : decode cX2_init 7 = .ok (.newarray .int, 2) := by decide +kernel
theorem dX2_init_9 : decode cX2_init 9 = .ok (.putfield 9, 3) := by decide +kernel
theorem dX2_init_12 : decode cX2_init 12 = .ok (.aload_n 0, 1) := by decide +kernel
theorem dX2_init_13 : decode cX2_init 13 = .ok (.iload_n 1, 1) := by decide +kernel
theorem dX2_init_14 : decode cX2_init 14 = .ok (.putfield 15, 3) := by decide +kernel
theorem dX2_init_17 : decode cX2_init 17 = .ok (.aload_n 0, 1) := by decide +kernel
theorem dX2_init_18 : decode cX2_init 18 = .ok (.iload_n 2, 1) := by decide +kernel
theorem dX2_init_19 : decode cX2_init 19 = .ok (.putfield 19, 3) := by decide +kernel
theorem dX2_init_22 : decode cX2_init 22 = .ok (.aload_n 0, 1) := by decide +kernel
theorem dX2_init_23 : decode cX2_init 23 = .ok (.iload_n 2, 1) := by decide +kernel
theorem dX2_init_24 : decode cX2_init 24 = .ok (.iconst 5, 1) := by decide +kernel
theorem dX2_init_25 : decode cX2_init 25 = .ok (.if_icmp .ne 7, 3) := by decide +kernel
theorem dX2_init_28 : decode cX2_init 28 = .ok (.iconst 2, 1) := by decide +kernel
theorem dX2_init_29 : decode cX2_init 29 = .ok (.goto 4, 3) := by decide +kernel
theorem dX2_init_32 : decode cX2_init 32 = .ok (.iconst 1, 1) := by decide +kernel
theorem dX2_init_33 : decode cX2_init 33 = .ok (.putfield 22, 3) := by decide +kernel
theorem dX2_init_36 : decode cX2_init 36 = .ok (.aload_n 0, 1) := by decide +kernel
theorem dX2_init_37 : decode cX2_init 37 = .ok (.aload_n 3, 1) := by decide +kernel
theorem dX2_init_38 : decode cX2_init 38 = .ok (.putfield 25, 3) := by decide +kernel
theorem dX2_init_41 : decode cX2_init 41 = .ok (.aload_n 0, 1) := by decide +kernel
theorem dX2_init_42 : decode cX2_init 42 = .ok (.aload 4, 2) := by decide +kernel
theorem dX2_init_44 : decode cX2_init 44 = .ok (.putfield 29, 3) := by decide +kernel
theorem dX2_init_47 : decode cX2_init 47 = .ok (.aload_n 0, 1) := by decide +kernel
theorem dX2_init_48 : decode cX2_init 48 = .ok (.aload 4, 2) := by decide +kernel
theorem dX2_init_50 : decode cX2_init 50 = .ok (.putfield 33, 3) := by decide +kernel
theorem dX2_init_53 : decode cX2_init 53 = .ok (.aload_n 0, 1) := by decide +kernel
theorem dX2_init_54 : decode cX2_init 54 = .ok (.iload_n 2, 1) := by decide +kernel
theorem dX2_init_55 : decode cX2_init 55 = .ok (.anewarray 36, 3) := by decide +kernel
theorem dX2_init_58 : decode cX2_init 58 = .ok (.putfield 38, 3) := by decide +kernel
theorem dX2_init_61 : decode cX2_init 61 = .ok (.aload_n 0, 1) := by decide +kernel
theorem dX2_init_62 : decode cX2_init 62 = .ok (.iload_n 2, 1) := by decide +kernel
theorem dX2_init_63 : decode cX2_init 63 = .ok (.anewarray 36, 3) := by decide +kernel
theorem dX2_init_66 : decode cX2_init 66 = .ok (.putfield 42, 3) := by decide +kernel
theorem dX2_init_69 : decode cX2_init 69 = .ok (.aload_n 0, 1) := by decide +kernel
theorem dX2_init_70 : decode cX2_init 70 = .ok (.iload_n 2, 1) := by decide +kernel
theorem dX2_init_71 : decode cX2_init 71 = .ok (.newarray .int, 2) := by decide +kernel
theorem dX2_init_73 : decode cX2_init 73 = .ok (.putfield 45, 3) := by decide +kernel
theorem dX2_init_76 : decode cX2_init 76 = .ok (.return_, 1) := by decide +kernel
set_option maxRecDepth 20000 in
theorem ggX2_field_X1_size : GoodIn wsX2_field wsX1_size := goodIn_r _ [14, 15, 44] (by decide +kernel) (by decide +kernel)
set_option maxRecDepth 20000 in
theorem gX2_field_X1_size : GoodIn wsX2_field (wsV RX2 57 RX1 yX1_size wsX1_size) := goodIn_app (goodIn_of _ (by decide +kernel)) ggX2_field_X1_size
set_option maxRecDepth 20000 in
theorem ggX2_field_J6_bitCount_0f7a4 : GoodIn wsX2_field wsJ6_bitCount_0f7a4 := goodIn_r _ [19, 20, 21, 22] (by decide +kernel) (by decide +kernel)
set_option maxRecDepth 20000 in
theorem gX2_field_J6_bitCount_0f7a4 : GoodIn wsX2_field (va_wsS RX2 68 yJ6_bitCount_0f7a4 wsJ6_bitCount_0f7a4) := goodIn_app (goodIn_of _ (by decide +kernel)) ggX2_field_J6_bitCount_0f7a4
set_option maxRecDepth 20000 in
theorem ggX2_field_X2_countLetters : GoodIn wsX2_field wsX2_countLetters := goodIn_r _ [26] (by decide +kernel) (by decide +kernel)
set_option maxRecDepth 20000 in
theorem gX2_field_X2_countLetters : GoodIn wsX2_field (va_wsS RX2 74 yX2_countLetters wsX2_countLetters) := goodIn_app (goodIn_of _ (by decide +kernel)) ggX2_field_X2_countLetters
theorem dX2_field_0 : decode cX2_field 0 = .ok (.aload_n 0, 1) := by decide +kernel
theorem dX2_field_1 : decode cX2_field 1 = .ok (.getfield 48, 3) := by decide +kernel
theorem dX2_field_4 : decode cX2_field 4 = .ok (.iconst 1, 1) := by decide +kernel
theorem dX2_field_5 : decode cX2_field 5 = .ok (.if_icmp .ne 7, 3) := by decide +kernel
theorem dX2_field_8 : decode cX2_field 8 = .ok (.iconst 1, 1) := by decide +kernel
theorem dX2_field_9 : decode cX2_field 9 = .ok (.goto 4, 3) := by decide +kernel
theorem dX2_field_12 : decode cX2_field 12 = .ok (.iconst 0, 1) := by decide +kernel
theorem dX2_field_13 : decode cX2_field 13 = .ok (.istore_n 2, 1) := by decide +kernel
theorem dX2_field_14 : decode cX2_field 14 = .ok (.iload_n 1, 1) := by decide +kernel
theorem dX2_field_15 : decode cX2_field 15 = .ok (.tableswitch 146 0 8 #[49, 54, 59, 64, 72, 77, 93, 109, 126], 49) := by decide +kernel
theorem dX2_field_64 : decode cX2_field 64 = .ok (.aload_n 0, 1) := by decide +kernel
theorem dX2_field_65 : decode cX2_field 65 = .ok (.getfield 48, 3) := by decide +kernel
theorem dX2_field_68 : decode cX2_field 68 = .ok (.ireturn, 1) := by decide +kernel
theorem dX2_field_69 : decode cX2_field 69 = .ok (.aload_n 0, 1) := by decide +kernel
theorem dX2_field_70 : decode cX2_field 70 = .ok (.getfield 51, 3) := by decide +kernel
theorem dX2_field_73 : decode cX2_field 73 = .ok (.ireturn, 1) := by decide +kernel
theorem dX2_field_74 : decode cX2_field 74 = .ok (.aload_n 0, 1) := by decide +kernel
theorem dX2_field_75 : decode cX2_field 75 = .ok (.getfield 54, 3) := by decide +kernel
theorem dX2_field_78 : decode cX2_field 78 = .ok (.ireturn, 1) := by decide +kernel
theorem dX2_field_79 : decode cX2_field 79 = .ok (.aload_n 0, 1) := by decide +kernel
theorem dX2_field_80 : decode cX2_field 80 = .ok (.getfield 33, 3) := by decide +kernel
theorem dX2_field_83 : decode cX2_field 83 = .ok (.invokevirtual 57, 3) := by decide +kernel
theorem dX2_field_86 : decode cX2_field 86 = .ok (.ireturn, 1) := by decide +kernel
theorem dX2_field_87 : decode cX2_field 87 = .ok (.aload_n 0, 1) := by decide +kernel
theorem dX2_field_88 : decode cX2_field 88 = .ok (.getfield 62, 3) := by decide +kernel
theorem dX2_field_91 : decode cX2_field 91 = .ok (.ireturn, 1) := by decide +kernel
theorem dX2_field_92 : decode cX2_field 92 = .ok (.iload_n 2, 1) := by decide +kernel
theorem dX2_field_93 : decode cX2_field 93 = .ok (.ifCond .eq 13, 3) := by decide +kernel
theorem dX2_field_96 : decode cX2_field 96 = .ok (.aload_n 0, 1) := by decide +kernel
theorem dX2_field_97 : decode cX2_field 97 = .ok (.getfield 65, 3) := by decide +kernel
theorem dX2_field_100 : decode cX2_field 100 = .ok (.invokestatic 68, 3) := by decide +kernel
theorem dX2_field_103 : decode cX2_field 103 = .ok (.goto 4, 3) := by decide +kernel
theorem dX2_field_106 : decode cX2_field 106 = .ok (.iconst 0, 1) := by decide +kernel
theorem dX2_field_107 : decode cX2_field 107 = .ok (.ireturn, 1) := by decide +kernel
theorem dX2_field_108 : decode cX2_field 108 = .ok (.iload_n 2, 1) := by decide +kernel
theorem dX2_field_109 : decode cX2_field 109 = .ok (.ifCond .eq 13, 3) := by decide +kernel
theorem dX2_field_112 : decode cX2_field 112 = .ok (.aload_n 0, 1) := by decide +kernel
theorem dX2_field_113 : decode cX2_field 113 = .ok (.getfield 38, 3) := by decide +kernel
theorem dX2_field_116 : decode cX2_field 116 = .ok (.invokestatic 74, 3) := by decide +kernel
theorem dX2_field_119 : decode cX2_field 119 = .ok (.goto 4, 3) := by decide +kernel
theorem dX2_field_122 : decode cX2_field 122 = .ok (.iconst 0, 1) := by decide +kernel
theorem dX2_field_123 : decode cX2_field 123 = .ok (.ireturn, 1) := by decide +kernel
theorem dX2_field_124 : decode cX2_field 124 = .ok (.iload_n 2, 1) := by decide +kernel
theorem dX2_field_125 : decode cX2_field 125 = .ok (.ifCond .eq 14, 3) := by decide +kernel
theorem dX2_field_128 : decode cX2_field 128 = .ok (.aload_n 0, 1) := by decide +kernel
theorem dX2_field_129 : decode cX2_field 129 = .ok (.getfield 78, 3) := by decide +kernel
theorem dX2_field_132 : decode cX2_field 132 = .ok (.ifCond .eq 7, 3) := by decide +kernel
theorem dX2_field_135 : decode cX2_field 135 = .ok (.iconst 1, 1) := by decide +kernel
theorem dX2_field_136 : decode cX2_field 136 = .ok (.goto 4, 3) := by decide +kernel
theorem dX2_field_139 : decode cX2_field 139 = .ok (.iconst 0, 1) := by decide +kernel
theorem dX2_field_140 : decode cX2_field 140 = .ok (.ireturn, 1) := by decide +kernel
theorem dX2_field_141 : decode cX2_field 141 = .ok (.aload_n 0, 1) := by decide +kernel
theorem dX2_field_142 : decode cX2_field 142 = .ok (.getfield 48, 3) := by decide +kernel
theorem dX2_field_145 : decode cX2_field 145 = .ok (.iconst 2, 1) := by decide +kernel
theorem dX2_field_146 : decode cX2_field 146 = .ok (.if_icmp .ne 13, 3) := by decide +kernel
theorem dX2_field_149 : decode cX2_field 149 = .ok (.aload_n 0, 1) := by decide +kernel
theorem dX2_field_150 : decode cX2_field 150 = .ok (.getfield 42, 3) := by decide +kernel
theorem dX2_field_153 : decode cX2_field 153 = .ok (.invokestatic 74, 3) := by decide +kernel
theorem dX2_field_156 : decode cX2_field 156 = .ok (.goto 4, 3) := by decide +kernel
theorem dX2_field_159 : decode cX2_field 159 = .ok (.iconst 0, 1) := by decide +kernel
theorem dX2_field_160 : decode cX2_field 160 = .ok (.ireturn, 1) := by decide +kernel
theorem dX2_field_161 : decode cX2_field 161 = .ok (.bipush (-2), 2) := by decide +kernel
theorem dX2_field_163 : decode cX2_field 163 = .ok (.ireturn, 1) := by decide +kernel
set_option maxRecDepth 20000 in
theorem ggX2_leads_X2_isFirst : GoodIn wsX2_leads wsX2_isFirst := goodIn_r _ [6, 7, 8, 9, 10, 11, 5, 12, 13, 14, 15, 16, 17, 18, 19, 20, 21, 22, 23, 24, 25, 26, 27, 28, 29, 30] (by decide +kernel) (by decide +kernel)
set_option maxRecDepth 20000 in
theorem gX2_leads_X2_isFirst : GoodIn wsX2_leads (wsV RX2 82 RX2 yX2_isFirst wsX2_isFirst) := goodIn_app (goodIn_of _ (by decide +kernel)) ggX2_leads_X2_isFirst
theorem dX2_leads_0 : decode cX2_leads 0 = .ok (.aload_n 0, 1) := by decide +kernel
theorem dX2_leads_1 : decode cX2_leads 1 = .ok (.getfield 48, 3) := by decide +kernel
theorem dX2_leads_4 : decode cX2_leads 4 = .ok (.ifCond .ne 14, 3) := by decide +kernel
theorem dX2_leads_7 : decode cX2_leads 7 = .ok (.aload_n 0, 1) := by decide +kernel
theorem dX2_leads_8 : decode cX2_leads 8 = .ok (.invokevirtual 82, 3) := by decide +kernel
theorem dX2_leads_11 : decode cX2_leads 11 = .ok (.ifCond .eq 7, 3) := by decide +kernel
theorem dX2_leads_14 : decode cX2_leads 14 = .ok (.iconst 1, 1) := by decide +kernel
theorem dX2_leads_15 : decode cX2_leads 15 = .ok (.goto 4, 3) := by decide +kernel
theorem dX2_leads_18 : decode cX2_leads 18 = .ok (.iconst 0, 1) := by decide +kernel
theorem dX2_leads_19 : decode cX2_leads 19 = .ok (.ireturn, 1) := by decide +kernel
theorem dX2_isDown_0 : decode cX2_isDown 0 = .ok (.aload_n 0, 1) := by decide +kernel
theorem dX2_isDown_1 : decode cX2_isDown 1 = .ok (.getfield 48, 3) := by decide +kernel
theorem dX2_isDown_4 : decode cX2_isDown 4 = .ok (.iconst 2, 1) := by decide +kernel
theorem dX2_isDown_5 : decode cX2_isDown 5 = .ok (.if_icmp .eq 11, 3) := by decide +kernel
theorem dX2_isDown_8 : decode cX2_isDown 8 = .ok (.aload_n 0, 1) := by decide +kernel
theorem dX2_isDown_9 : decode cX2_isDown 9 = .ok (.getfield 48, 3) := by decide +kernel
theorem dX2_isDown_12 : decode cX2_isDown 12 = .ok (.iconst 3, 1) := by decide +kernel
theorem dX2_isDown_13 : decode cX2_isDown 13 = .ok (.if_icmp .ne 7, 3) := by decide +kernel
theorem dX2_isDown_16 : decode cX2_isDown 16 = .ok (.iconst 1, 1) := by decide +kernel
theorem dX2_isDown_17 : decode cX2_isDown 17 = .ok (.goto 4, 3) := by decide +kernel
theorem dX2_isDown_20 : decode cX2_isDown 20 = .ok (.iconst 0, 1) := by decide +kernel
theorem dX2_isDown_21 : decode cX2_isDown 21 = .ok (.ireturn, 1) := by decide +kernel
set_option maxRecDepth 20000 in
theorem ggX2_workOutRegisters_J7_fill_53178 : GoodIn wsX2_workOutRegisters wsJ7_fill_53178 := goodIn_r _ [7] (by decide +kernel) (by decide +kernel)
set_option maxRecDepth 20000 in
theorem gX2_workOutRegisters_J7_fill_53178 : GoodIn wsX2_workOutRegisters (va_wsS RX2 86 yJ7_fill_53178 wsJ7_fill_53178) := goodIn_app (goodIn_of _ (by decide +kernel)) ggX2_workOutRegisters_J7_fill_53178
set_option maxRecDepth 20000 in
theorem ggX2_workOutRegisters_X1_play : GoodIn wsX2_workOutRegisters wsX1_play := goodIn_r _ [12, 13, 14, 15, 11, 16, 17, 18, 19, 20, 21, 22, 40] (by decide +kernel) (by decide +kernel)
set_option maxRecDepth 20000 in
theorem gX2_workOutRegisters_X1_play : GoodIn wsX2_workOutRegisters (wsV RX2 92 RX1 yX1_play wsX1_play) := goodIn_app (goodIn_of _ (by decide +kernel)) ggX2_workOutRegisters_X1_play
theorem dX2_workOutRegisters_0 : decode cX2_workOutRegisters 0 = .ok (.aload_n 0, 1) := by decide +kernel
theorem dX2_workOutRegisters_1 : decode cX2_workOutRegisters 1 = .ok (.getfield 9, 3) := by decide +kernel
theorem dX2_workOutRegisters_4 : decode cX2_workOutRegisters 4 = .ok (.iconst 0, 1) := by decide +kernel
theorem dX2_workOutRegisters_5 : decode cX2_workOutRegisters 5 = .ok (.invokestatic 86, 3) := by decide +kernel
theorem dX2_workOutRegisters_8 : decode cX2_workOutRegisters 8 = .ok (.aload_n 0, 1) := by decide +kernel
theorem dX2_workOutRegisters_9 : decode cX2_workOutRegisters 9 = .ok (.getfield 33, 3) := by decide +kernel
theorem dX2_workOutRegisters_12 : decode cX2_workOutRegisters 12 = .ok (.aload_n 0, 1) := by decide +kernel
theorem dX2_workOutRegisters_13 : decode cX2_workOutRegisters 13 = .ok (.getfield 62, 3) := by decide +kernel
theorem dX2_workOutRegisters_16 : decode cX2_workOutRegisters 16 = .ok (.aload_n 0, 1) := by decide +kernel
theorem dX2_workOutRegisters_17 : decode cX2_workOutRegisters 17 = .ok (.getfield 9, 3) := by decide +kernel
theorem dX2_workOutRegisters_20 : decode cX2_workOutRegisters 20 = .ok (.invokevirtual 92, 3) := by decide +kernel
theorem dX2_workOutRegisters_23 : decode cX2_workOutRegisters 23 = .ok (.aload_n 0, 1) := by decide +kernel
theorem dX2_workOutRegisters_24 : decode cX2_workOutRegisters 24 = .ok (.getfield 9, 3) := by decide +kernel
theorem dX2_workOutRegisters_27 : decode cX2_workOutRegisters 27 = .ok (.areturn, 1) := by decide +kernel
set_option maxRecDepth 20000 in
theorem ggX2_postToAll_X2_write : GoodIn wsX2_postToAll wsX2_write := goodIn_r _ [8, 9, 10, 11, 2, 12, 13, 14, 15, 16, 17, 18, 19, 20, 21, 22, 23, 24, 25, 26, 27, 28, 54, 55, 56, 57, 58, 59, 60, 61, 37, 38, 39, 40, 41, 42, 43, 44, 45, 46, 47, 48, 49, 50, 51, 52, 53] (by decide +kernel) (by decide +kernel)
set_option maxRecDepth 20000 in
theorem gX2_postToAll_X2_write : GoodIn wsX2_postToAll (wsV RX2 96 RX2 yX2_write wsX2_write) := goodIn_app (goodIn_of _ (by decide +kernel)) ggX2_postToAll_X2_write
set_option maxRecDepth 20000 in
theorem ggX2_postToAll_X3_add : GoodIn wsX2_postToAll wsX3_add := goodIn_r _ [33, 34, 35, 36, 62, 63, 64] (by decide +kernel) (by decide +kernel)
set_option maxRecDepth 20000 in
theorem gX2_postToAll_X3_add : GoodIn wsX2_postToAll (wsV RX2 100 RX3 yX3_add wsX3_add) := goodIn_app (goodIn_of _ (by decide +kernel)) ggX2_postToAll_X3_add
theorem dX2_postToAll_0 : decode cX2_postToAll 0 = .ok (.iconst 0, 1) := by decide +kernel
theorem dX2_postToAll_1 : decode cX2_postToAll 1 = .ok (.istore_n 3, 1) := by decide +kernel
theorem dX2_postToAll_2 : decode cX2_postToAll 2 = .ok (.iload_n 3, 1) := by decide +kernel
theorem dX2_postToAll_3 : decode cX2_postToAll 3 = .ok (.aload_n 0, 1) := by decide +kernel
theorem dX2_postToAll_4 : decode cX2_postToAll 4 = .ok (.getfield 19, 3) := by decide +kernel
theorem dX2_postToAll_7 : decode cX2_postToAll 7 = .ok (.if_icmp .ge 31, 3) := by decide +kernel
theorem dX2_postToAll_10 : decode cX2_postToAll 10 = .ok (.iload_n 3, 1) := by decide +kernel
theorem dX2_postToAll_11 : decode cX2_postToAll 11 = .ok (.aload_n 0, 1) := by decide +kernel
theorem dX2_postToAll_12 : decode cX2_postToAll 12 = .ok (.getfield 15, 3) := by decide +kernel
theorem dX2_postToAll_15 : decode cX2_postToAll 15 = .ok (.if_icmp .eq 17, 3) := by decide +kernel
theorem dX2_postToAll_18 : decode cX2_postToAll 18 = .ok (.aload_n 0, 1) := by decide +kernel
theorem dX2_postToAll_19 : decode cX2_postToAll 19 = .ok (.getfield 25, 3) := by decide +kernel
theorem dX2_postToAll_22 : decode cX2_postToAll 22 = .ok (.aload_n 0, 1) := by decide +kernel
theorem dX2_postToAll_23 : decode cX2_postToAll 23 = .ok (.iload_n 3, 1) := by decide +kernel
theorem dX2_postToAll_24 : decode cX2_postToAll 24 = .ok (.iload_n 1, 1) := by decide +kernel
theorem dX2_postToAll_25 : decode cX2_postToAll 25 = .ok (.iload_n 2, 1) := by decide +kernel
theorem dX2_postToAll_26 : decode cX2_postToAll 26 = .ok (.invokevirtual 96, 3) := by decide +kernel
theorem dX2_postToAll_29 : decode cX2_postToAll 29 = .ok (.invokevirtual 100, 3) := by decide +kernel
theorem dX2_postToAll_32 : decode cX2_postToAll 32 = .ok (.iinc 3 1, 3) := by decide +kernel
theorem dX2_postToAll_35 : decode cX2_postToAll 35 = .ok (.goto (-33), 3) := by decide +kernel
theorem dX2_postToAll_38 : decode cX2_postToAll 38 = .ok (.return_, 1) := by decide +kernel
set_option maxRecDepth 20000 in
theorem ggX2_changeTo_X2_forgetVotes : GoodIn wsX2_changeTo wsX2_forgetVotes := goodIn_r _ [7, 8, 9, 10, 11, 49, 50, 51, 52, 53, 54, 55, 56, 57, 58, 59, 60, 61, 62, 63, 64, 65] (by decide +kernel) (by decide +kernel)
set_option maxRecDepth 20000 in
theorem gX2_changeTo_X2_forgetVotes : GoodIn wsX2_changeTo (wsV RX2 106 RX2 yX2_forgetVotes wsX2_forgetVotes) := goodIn_app (goodIn_of _ (by decide +kernel)) ggX2_changeTo_X2_forgetVotes
set_option maxRecDepth 20000 in
theorem ggX2_changeTo_X2_postToAll : GoodIn wsX2_changeTo wsX2_postToAll := goodIn_r _ [15, 10, 16, 17, 18, 19, 20, 6, 21, 22, 23, 24, 1, 25, 26, 27, 28, 29, 30, 31, 32, 33, 34, 35, 36, 37, 38, 39, 40, 41, 42, 43, 44, 45, 46, 47, 48, 49, 50, 51, 52, 53, 54, 55, 56, 57, 58, 59, 60, 61, 62, 63, 64, 65, 66, 67, 68, 69, 70, 71, 72, 73, 74, 75, 76] (by decide +kernel) (by decide +kernel)
set_option maxRecDepth 20000 in
theorem gX2_changeTo_X2_postToAll : GoodIn wsX2_changeTo (wsV RX2 109 RX2 yX2_postToAll wsX2_postToAll) := goodIn_app (goodIn_of _ (by decide +kernel)) ggX2_changeTo_X2_postToAll
theorem dX2_changeTo_0 : decode cX2_changeTo 0 = .ok (.aload_n 0, 1) := by decide +kernel
theorem dX2_changeTo_1 : decode cX2_changeTo 1 = .ok (.iload_n 1, 1) := by decide +kernel
theorem dX2_changeTo_2 : decode cX2_changeTo 2 = .ok (.putfield 51, 3) := by decide +kernel
theorem dX2_changeTo_5 : decode cX2_changeTo 5 = .ok (.aload_n 0, 1) := by decide +kernel
theorem dX2_changeTo_6 : decode cX2_changeTo 6 = .ok (.iconst 1, 1) := by decide +kernel
theorem dX2_changeTo_7 : decode cX2_changeTo 7 = .ok (.putfield 48, 3) := by decide +kernel
theorem dX2_changeTo_10 : decode cX2_changeTo 10 = .ok (.aload_n 0, 1) := by decide +kernel
theorem dX2_changeTo_11 : decode cX2_changeTo 11 = .ok (.invokevirtual 106, 3) := by decide +kernel
theorem dX2_changeTo_14 : decode cX2_changeTo 14 = .ok (.aload_n 0, 1) := by decide +kernel
theorem dX2_changeTo_15 : decode cX2_changeTo 15 = .ok (.iconst 3, 1) := by decide +kernel
theorem dX2_changeTo_16 : decode cX2_changeTo 16 = .ok (.iconst 0, 1) := by decide +kernel
theorem dX2_changeTo_17 : decode cX2_changeTo 17 = .ok (.invokevirtual 109, 3) := by decide +kernel
theorem dX2_changeTo_20 : decode cX2_changeTo 20 = .ok (.return_, 1) := by decide +kernel
set_option maxRecDepth 20000 in
theorem ggX2_postAgain_X2_isFirst : GoodIn wsX2_postAgain wsX2_isFirst := goodIn_r _ [9, 10, 11, 12, 13, 14, 8, 15, 2, 68, 69, 70, 71, 72, 73, 74, 75, 76, 77, 78, 79, 80, 81, 82, 83, 84] (by decide +kernel) (by decide +kernel)
set_option maxRecDepth 20000 in
theorem gX2_postAgain_X2_isFirst : GoodIn wsX2_postAgain (wsV RX2 82 RX2 yX2_isFirst wsX2_isFirst) := goodIn_app (goodIn_of _ (by decide +kernel)) ggX2_postAgain_X2_isFirst
set_option maxRecDepth 20000 in
theorem ggX2_postAgain_X2_postOk : GoodIn wsX2_postAgain wsX2_postOk := goodIn_r _ [19, 20, 10, 21, 12, 13, 14, 8, 15, 2, 22, 23, 24, 25, 26, 27, 28, 29, 30, 31, 32, 33, 34, 11, 35, 36, 37, 38, 39, 40, 41, 42, 43, 44, 45, 46, 47, 48, 49, 50, 51, 52, 53, 54, 55, 56, 57, 68, 69, 70, 71, 72, 73, 74, 75, 76, 77, 78, 79, 80, 81, 82, 83, 84, 85, 86, 87, 88, 89, 90, 91, 92, 93, 94, 95, 96] (by decide +kernel) (by decide +kernel)
set_option maxRecDepth 20000 in
theorem gX2_postAgain_X2_postOk : GoodIn wsX2_postAgain (wsV RX2 113 RX2 yX2_postOk wsX2_postOk) := goodIn_app (goodIn_of _ (by decide +kernel)) ggX2_postAgain_X2_postOk
set_option maxRecDepth 20000 in
theorem ggX2_postAgain_X2_postToAll : GoodIn wsX2_postAgain wsX2_postToAll := goodIn_r _ [61, 2, 11, 20, 28, 29, 30, 8, 31, 32, 33, 34, 10, 21, 35, 36, 37, 38, 39, 40, 41, 42, 43, 44, 45, 46, 47, 48, 49, 50, 51, 52, 53, 54, 55, 56, 57, 68, 69, 70, 71, 72, 73, 74, 75, 76, 77, 78, 79, 80, 81, 82, 83, 84, 86, 87, 88, 89, 90, 91, 92, 93, 94, 95, 96] (by decide +kernel) (by decide +kernel)
set_option maxRecDepth 20000 in
theorem gX2_postAgain_X2_postToAll : GoodIn wsX2_postAgain (wsV RX2 109 RX2 yX2_postToAll wsX2_postToAll) := goodIn_app (goodIn_of _ (by decide +kernel)) ggX2_postAgain_X2_postToAll
set_option maxRecDepth 20000 in
theorem ggX2_postAgain_X2_castVote : GoodIn wsX2_postAgain wsX2_castVote := goodIn_r _ [65, 3, 10, 66, 67, 11, 20, 12, 13, 14, 8, 15, 2, 28, 29, 30, 31, 32, 33, 34, 21, 35, 36, 37, 38, 39, 40, 41, 42, 43, 44, 45, 46, 47, 48, 49, 5, 6, 7, 9, 50, 51, 52, 53, 54, 55, 56, 57, 68, 69, 70, 71, 72, 73, 74, 75, 76, 77, 78, 79, 80, 81, 82, 83, 84, 86, 87, 88, 89, 90, 91, 92, 93, 94, 95, 96] (by decide +kernel) (by decide +kernel)
set_option maxRecDepth 20000 in
theorem gX2_postAgain_X2_castVote : GoodIn wsX2_postAgain (wsV RX2 116 RX2 yX2_castVote wsX2_castVote) := goodIn_app (goodIn_of _ (by decide +kernel)) ggX2_postAgain_X2_castVote
theorem dX2_postAgain_0 : decode cX2_postAgain 0 = .ok (.aload_n 0, 1) := by decide +kernel
theorem dX2_postAgain_1 : decode cX2_postAgain 1 = .ok (.getfield 48, 3) := by decide +kernel
theorem dX2_postAgain_4 : decode cX2_postAgain 4 = .ok (.tableswitch 107 0 2 #[28, 54, 90], 28) := by decide +kernel
theorem dX2_postAgain_32 : decode cX2_postAgain 32 = .ok (.aload_n 0, 1) := by decide +kernel
theorem dX2_postAgain_33 : decode cX2_postAgain 33 = .ok (.invokevirtual 82, 3) := by decide +kernel
theorem dX2_postAgain_36 : decode cX2_postAgain 36 = .ok (.ifCond .ne 9, 3) := by decide +kernel
theorem dX2_postAgain_39 : decode cX2_postAgain 39 = .ok (.aload_n 0, 1) := by decide +kernel
theorem dX2_postAgain_40 : decode cX2_postAgain 40 = .ok (.invokevirtual 113, 3) := by decide +kernel
theorem dX2_postAgain_43 : decode cX2_postAgain 43 = .ok (.iconst 1, 1) := by decide +kernel
theorem dX2_postAgain_44 : decode cX2_postAgain 44 = .ok (.ireturn, 1) := by decide +kernel
theorem dX2_postAgain_45 : decode cX2_postAgain 45 = .ok (.aload_n 0, 1) := by decide +kernel
theorem dX2_postAgain_46 : decode cX2_postAgain 46 = .ok (.iconst 1, 1) := by decide +kernel
theorem dX2_postAgain_47 : decode cX2_postAgain 47 = .ok (.iconst 0, 1) := by decide +kernel
theorem dX2_postAgain_48 : decode cX2_postAgain 48 = .ok (.invokevirtual 109, 3) := by decide +kernel
theorem dX2_postAgain_51 : decode cX2_postAgain 51 = .ok (.aload_n 0, 1) := by decide +kernel
theorem dX2_postAgain_52 : decode cX2_postAgain 52 = .ok (.getfield 19, 3) := by decide +kernel
theorem dX2_postAgain_55 : decode cX2_postAgain 55 = .ok (.iconst 1, 1) := by decide +kernel
theorem dX2_postAgain_56 : decode cX2_postAgain 56 = .ok (.isub, 1) := by decide +kernel
theorem dX2_postAgain_57 : decode cX2_postAgain 57 = .ok (.ireturn, 1) := by decide +kernel
theorem dX2_postAgain_58 : decode cX2_postAgain 58 = .ok (.aload_n 0, 1) := by decide +kernel
theorem dX2_postAgain_59 : decode cX2_postAgain 59 = .ok (.iconst 3, 1) := by decide +kernel
theorem dX2_postAgain_60 : decode cX2_postAgain 60 = .ok (.iconst 0, 1) := by decide +kernel
theorem dX2_postAgain_61 : decode cX2_postAgain 61 = .ok (.invokevirtual 109, 3) := by decide +kernel
theorem dX2_postAgain_64 : decode cX2_postAgain 64 = .ok (.aload_n 0, 1) := by decide +kernel
theorem dX2_postAgain_65 : decode cX2_postAgain 65 = .ok (.getfield 78, 3) := by decide +kernel
theorem dX2_postAgain_68 : decode cX2_postAgain 68 = .ok (.ifCond .eq 10, 3) := by decide +kernel
theorem dX2_postAgain_71 : decode cX2_postAgain 71 = .ok (.aload_n 0, 1) := by decide +kernel
theorem dX2_postAgain_72 : decode cX2_postAgain 72 = .ok (.invokevirtual 82, 3) := by decide +kernel
theorem dX2_postAgain_75 : decode cX2_postAgain 75 = .ok (.ifCond .eq 10, 3) := by decide +kernel
theorem dX2_postAgain_78 : decode cX2_postAgain 78 = .ok (.aload_n 0, 1) := by decide +kernel
theorem dX2_postAgain_79 : decode cX2_postAgain 79 = .ok (.getfield 19, 3) := by decide +kernel
theorem dX2_postAgain_82 : decode cX2_postAgain 82 = .ok (.iconst 1, 1) := by decide +kernel
theorem dX2_postAgain_83 : decode cX2_postAgain 83 = .ok (.isub, 1) := by decide +kernel
theorem dX2_postAgain_84 : decode cX2_postAgain 84 = .ok (.ireturn, 1) := by decide +kernel
theorem dX2_postAgain_85 : decode cX2_postAgain 85 = .ok (.aload_n 0, 1) := by decide +kernel
theorem dX2_postAgain_86 : decode cX2_postAgain 86 = .ok (.invokevirtual 116, 3) := by decide +kernel
theorem dX2_postAgain_89 : decode cX2_postAgain 89 = .ok (.aload_n 0, 1) := by decide +kernel
theorem dX2_postAgain_90 : decode cX2_postAgain 90 = .ok (.getfield 19, 3) := by decide +kernel
theorem dX2_postAgain_93 : decode cX2_postAgain 93 = .ok (.ireturn, 1) := by decide +kernel
theorem dX2_postAgain_94 : decode cX2_postAgain 94 = .ok (.aload_n 0, 1) := by decide +kernel
theorem dX2_postAgain_95 : decode cX2_postAgain 95 = .ok (.bipush 6, 2) := by decide +kernel
theorem dX2_postAgain_97 : decode cX2_postAgain 97 = .ok (.aload_n 0, 1) := by decide +kernel
theorem dX2_postAgain_98 : decode cX2_postAgain 98 = .ok (.getfield 119, 3) := by decide +kernel
theorem dX2_postAgain_101 : decode cX2_postAgain 101 = .ok (.invokevirtual 109, 3) := by decide +kernel
theorem dX2_postAgain_104 : decode cX2_postAgain 104 = .ok (.aload_n 0, 1) := by decide +kernel
theorem dX2_postAgain_105 : decode cX2_postAgain 105 = .ok (.getfield 19, 3) := by decide +kernel
theorem dX2_postAgain_108 : decode cX2_postAgain 108 = .ok (.iconst 1, 1) := by decide +kernel
theorem dX2_postAgain_109 : decode cX2_postAgain 109 = .ok (.isub, 1) := by decide +kernel
theorem dX2_postAgain_110 : decode cX2_postAgain 110 = .ok (.ireturn, 1) := by decide +kernel
theorem dX2_postAgain_111 : decode cX2_postAgain 111 = .ok (.iconst 0, 1) := by decide +kernel
theorem dX2_postAgain_112 : decode cX2_postAgain 112 = .ok (.ireturn, 1) := by decide +kernel
set_option maxRecDepth 20000 in
theorem ggX2_loseAll_X2_forgetVotes : GoodIn wsX2_loseAll wsX2_forgetVotes := goodIn_r _ [13, 14, 15, 16, 17, 27, 28, 29, 30, 31, 32, 33, 34, 35, 36, 37, 38, 39, 40, 41, 42, 43] (by decide +kernel) (by decide +kernel)
set_option maxRecDepth 20000 in
theorem gX2_loseAll_X2_forgetVotes : GoodIn wsX2_loseAll (wsV RX2 106 RX2 yX2_forgetVotes wsX2_forgetVotes) := goodIn_app (goodIn_of _ (by decide +kernel)) ggX2_loseAll_X2_forgetVotes
set_option maxRecDepth 20000 in
theorem ggX2_loseAll_X2_forgetTales : GoodIn wsX2_loseAll wsX2_forgetTales := goodIn_r _ [21, 16, 22, 27, 28, 29, 30, 31, 32, 33, 34, 35, 36, 37, 38, 39, 40, 41, 42, 43] (by decide +kernel) (by decide +kernel)
set_option maxRecDepth 20000 in
theorem gX2_loseAll_X2_forgetTales : GoodIn wsX2_loseAll (wsV RX2 122 RX2 yX2_forgetTales wsX2_forgetTales) := goodIn_app (goodIn_of _ (by decide +kernel)) ggX2_loseAll_X2_forgetTales
set_option maxRecDepth 20000 in
theorem ggX2_loseAll_J7_fill_53178 : GoodIn wsX2_loseAll wsJ7_fill_53178 := goodIn_r _ [26] (by decide +kernel) (by decide +kernel)
set_option maxRecDepth 20000 in
theorem gX2_loseAll_J7_fill_53178 : GoodIn wsX2_loseAll (va_wsS RX2 86 yJ7_fill_53178 wsJ7_fill_53178) := goodIn_app (goodIn_of _ (by decide +kernel)) ggX2_loseAll_J7_fill_53178
theorem dX2_loseAll_0 : decode cX2_loseAll 0 = .ok (.aload_n 0, 1) := by decide +kernel
theorem dX2_loseAll_1 : decode cX2_loseAll 1 = .ok (.iconst 3, 1) := by decide +kernel
theorem dX2_loseAll_2 : decode cX2_loseAll 2 = .ok (.putfield 48, 3) := by decide +kernel
theorem dX2_loseAll_5 : decode cX2_loseAll 5 = .ok (.aload_n 0, 1) := by decide +kernel
theorem dX2_loseAll_6 : decode cX2_loseAll 6 = .ok (.iconst 0, 1) := by decide +kernel
theorem dX2_loseAll_7 : decode cX2_loseAll 7 = .ok (.putfield 51, 3) := by decide +kernel
theorem dX2_loseAll_10 : decode cX2_loseAll 10 = .ok (.aload_n 0, 1) := by decide +kernel
theorem dX2_loseAll_11 : decode cX2_loseAll 11 = .ok (.iconst 0, 1) := by decide +kernel
theorem dX2_loseAll_12 : decode cX2_loseAll 12 = .ok (.putfield 54, 3) := by decide +kernel
theorem dX2_loseAll_15 : decode cX2_loseAll 15 = .ok (.aload_n 0, 1) := by decide +kernel
theorem dX2_loseAll_16 : decode cX2_loseAll 16 = .ok (.iconst 0, 1) := by decide +kernel
theorem dX2_loseAll_17 : decode cX2_loseAll 17 = .ok (.putfield 62, 3) := by decide +kernel
theorem dX2_loseAll_20 : decode cX2_loseAll 20 = .ok (.aload_n 0, 1) := by decide +kernel
theorem dX2_loseAll_21 : decode cX2_loseAll 21 = .ok (.aload_n 0, 1) := by decide +kernel
theorem dX2_loseAll_22 : decode cX2_loseAll 22 = .ok (.getfield 29, 3) := by decide +kernel
theorem dX2_loseAll_25 : decode cX2_loseAll 25 = .ok (.putfield 33, 3) := by decide +kernel
theorem dX2_loseAll_28 : decode cX2_loseAll 28 = .ok (.aload_n 0, 1) := by decide +kernel
theorem dX2_loseAll_29 : decode cX2_loseAll 29 = .ok (.iconst 0, 1) := by decide +kernel
theorem dX2_loseAll_30 : decode cX2_loseAll 30 = .ok (.putfield 119, 3) := by decide +kernel
theorem dX2_loseAll_33 : decode cX2_loseAll 33 = .ok (.aload_n 0, 1) := by decide +kernel
theorem dX2_loseAll_34 : decode cX2_loseAll 34 = .ok (.invokevirtual 106, 3) := by decide +kernel
theorem dX2_loseAll_37 : decode cX2_loseAll 37 = .ok (.aload_n 0, 1) := by decide +kernel
theorem dX2_loseAll_38 : decode cX2_loseAll 38 = .ok (.invokevirtual 122, 3) := by decide +kernel
theorem dX2_loseAll_41 : decode cX2_loseAll 41 = .ok (.aload_n 0, 1) := by decide +kernel
theorem dX2_loseAll_42 : decode cX2_loseAll 42 = .ok (.getfield 45, 3) := by decide +kernel
theorem dX2_loseAll_45 : decode cX2_loseAll 45 = .ok (.iconst 0, 1) := by decide +kernel
theorem dX2_loseAll_46 : decode cX2_loseAll 46 = .ok (.invokestatic 86, 3) := by decide +kernel
theorem dX2_loseAll_49 : decode cX2_loseAll 49 = .ok (.return_, 1) := by decide +kernel
set_option maxRecDepth 20000 in
theorem ggX2_startRecovery_X2_forgetTales : GoodIn wsX2_startRecovery wsX2_forgetTales := goodIn_r _ [7, 8, 9, 48, 49, 50, 51, 52, 53, 54, 55, 56, 57, 58, 59, 60, 61, 62, 63, 64] (by decide +kernel) (by decide +kernel)
set_option maxRecDepth 20000 in
theorem gX2_startRecovery_X2_forgetTales : GoodIn wsX2_startRecovery (wsV RX2 122 RX2 yX2_forgetTales wsX2_forgetTales) := goodIn_app (goodIn_of _ (by decide +kernel)) ggX2_startRecovery_X2_forgetTales
set_option maxRecDepth 20000 in
theorem ggX2_startRecovery_X2_postToAll : GoodIn wsX2_startRecovery wsX2_postToAll := goodIn_r _ [13, 8, 14, 15, 16, 17, 18, 6, 19, 20, 21, 22, 23, 24, 25, 26, 27, 28, 29, 30, 31, 32, 33, 34, 35, 36, 37, 38, 39, 40, 41, 42, 43, 44, 45, 46, 47, 48, 49, 50, 51, 52, 53, 54, 55, 56, 57, 58, 59, 60, 61, 62, 63, 64, 65, 66, 67, 68, 69, 70, 71, 72, 73, 74, 75] (by decide +kernel) (by decide +kernel)
set_option maxRecDepth 20000 in
theorem gX2_startRecovery_X2_postToAll : GoodIn wsX2_startRecovery (wsV RX2 109 RX2 yX2_postToAll wsX2_postToAll) := goodIn_app (goodIn_of _ (by decide +kernel)) ggX2_startRecovery_X2_postToAll
theorem dX2_startRecovery_0 : decode cX2_startRecovery 0 = .ok (.aload_n 0, 1) := by decide +kernel
theorem dX2_startRecovery_1 : decode cX2_startRecovery 1 = .ok (.iconst 2, 1) := by decide +kernel
theorem dX2_startRecovery_2 : decode cX2_startRecovery 2 = .ok (.putfield 48, 3) := by decide +kernel
theorem dX2_startRecovery_5 : decode cX2_startRecovery 5 = .ok (.aload_n 0, 1) := by decide +kernel
theorem dX2_startRecovery_6 : decode cX2_startRecovery 6 = .ok (.iload_n 1, 1) := by decide +kernel
theorem dX2_startRecovery_7 : decode cX2_startRecovery 7 = .ok (.putfield 119, 3) := by decide +kernel
theorem dX2_startRecovery_10 : decode cX2_startRecovery 10 = .ok (.aload_n 0, 1) := by decide +kernel
theorem dX2_startRecovery_11 : decode cX2_startRecovery 11 = .ok (.invokevirtual 122, 3) := by decide +kernel
theorem dX2_startRecovery_14 : decode cX2_startRecovery 14 = .ok (.aload_n 0, 1) := by decide +kernel
theorem dX2_startRecovery_15 : decode cX2_startRecovery 15 = .ok (.bipush 6, 2) := by decide +kernel
theorem dX2_startRecovery_17 : decode cX2_startRecovery 17 = .ok (.aload_n 0, 1) := by decide +kernel
theorem dX2_startRecovery_18 : decode cX2_startRecovery 18 = .ok (.getfield 119, 3) := by decide +kernel
theorem dX2_startRecovery_21 : decode cX2_startRecovery 21 = .ok (.invokevirtual 109, 3) := by decide +kernel
theorem dX2_startRecovery_24 : decode cX2_startRecovery 24 = .ok (.return_, 1) := by decide +kernel
set_option maxRecDepth 20000 in
theorem ggX2_hear_X2_hearAsk : GoodIn wsX2_hear wsX2_hearAsk := goodIn_r _ [8, 9, 10, 11, 12, 13, 14, 15, 7, 16, 17, 18, 19, 20, 2, 21, 22, 23, 24, 25, 26, 27, 28, 29, 30, 31, 32, 33, 34, 35, 36, 37, 38, 39, 40, 41, 42, 43, 44, 170, 171, 172, 173, 174, 175, 176, 177, 178, 179, 180, 181, 182, 183, 184, 185, 186, 162, 163, 164, 165, 166, 167, 168, 169, 187, 188, 189] (by decide +kernel) (by decide +kernel)
set_option maxRecDepth 20000 in
theorem gX2_hear_X2_hearAsk : GoodIn wsX2_hear (wsV RX2 128 RX2 yX2_hearAsk wsX2_hearAsk) := goodIn_app (goodIn_of _ (by decide +kernel)) ggX2_hear_X2_hearAsk
set_option maxRecDepth 20000 in
theorem ggX2_hear_X2_hearTell : GoodIn wsX2_hear wsX2_hearTell := goodIn_r _ [48, 9, 49, 12, 50, 11, 51, 52, 53, 7, 54, 55, 56, 57, 58, 3, 59, 60, 61, 62, 63, 21, 64, 23, 65, 66, 67, 68, 69, 70, 71, 72, 73, 2, 74, 170, 171, 172, 173, 174, 175, 176, 177, 178, 179, 180, 181, 182, 183, 184, 185, 186, 162, 163, 164, 165, 166, 167, 168, 169] (by decide +kernel) (by decide +kernel)
set_option maxRecDepth 20000 in
theorem gX2_hear_X2_hearTell : GoodIn wsX2_hear (wsV RX2 132 RX2 yX2_hearTell wsX2_hearTell) := goodIn_app (goodIn_of _ (by decide +kernel)) ggX2_hear_X2_hearTell
set_option maxRecDepth 20000 in
theorem ggX2_hear_X2_isDown : GoodIn wsX2_hear wsX2_isDown := goodIn_r _ [78, 9, 170, 171, 172, 173, 174, 175, 176, 177, 178, 179, 180, 181, 182, 183, 184, 185, 186] (by decide +kernel) (by decide +kernel)
set_option maxRecDepth 20000 in
theorem gX2_hear_X2_isDown : GoodIn wsX2_hear (wsV RX2 135 RX2 yX2_isDown wsX2_isDown) := goodIn_app (goodIn_of _ (by decide +kernel)) ggX2_hear_X2_isDown
set_option maxRecDepth 20000 in
theorem ggX2_hear_X2_hearLog : GoodIn wsX2_hear wsX2_hearLog := goodIn_r _ [82, 2, 3, 9, 63, 21, 23, 64, 59, 60, 61, 62, 83, 84, 85, 86, 87, 88, 7, 89, 20, 65, 66, 67, 68, 69, 90, 91, 92, 93, 94, 95, 70, 71, 72, 73, 74, 96, 97, 98, 99, 10, 13, 14, 15, 16, 17, 18, 19, 22, 24, 25, 26, 27, 28, 29, 30, 31, 32, 33, 34, 35, 36, 37, 38, 39, 40, 41, 42, 43, 44, 170, 171, 172, 173, 174, 175, 176, 177, 178, 179, 180, 181, 182, 183, 184, 185, 186, 162, 163, 164, 165, 166, 167, 168, 169, 190, 187, 188, 189] (by decide +kernel) (by decide +kernel)
set_option maxRecDepth 20000 in
theorem gX2_hear_X2_hearLog : GoodIn wsX2_hear (wsV RX2 139 RX2 yX2_hearLog wsX2_hearLog) := goodIn_app (goodIn_of _ (by decide +kernel)) ggX2_hear_X2_hearLog
set_option maxRecDepth 20000 in
theorem ggX2_hear_X2_hearOk : GoodIn wsX2_hear wsX2_hearOk := goodIn_r _ [103, 2, 3, 104, 11, 12, 59, 60, 61, 62, 23, 21, 83, 84, 85, 105, 106, 107, 7, 108, 9, 86, 87, 88, 89, 20, 65, 66, 67, 68, 69, 109, 110, 111, 112, 51, 113, 114, 115, 116, 90, 91, 92, 93, 94, 95, 170, 171, 172, 173, 174, 175, 176, 177, 178, 179, 180, 181, 182, 183, 184, 185, 186, 162, 163, 164, 165, 166, 167, 168, 169, 190] (by decide +kernel) (by decide +kernel)
set_option maxRecDepth 20000 in
theorem gX2_hear_X2_hearOk : GoodIn wsX2_hear (wsV RX2 142 RX2 yX2_hearOk wsX2_hearOk) := goodIn_app (goodIn_of _ (by decide +kernel)) ggX2_hear_X2_hearOk
set_option maxRecDepth 20000 in
theorem ggX2_hear_X2_hearChange : GoodIn wsX2_hear wsX2_hearChange := goodIn_r _ [120, 2, 3, 11, 9, 121, 122, 51, 123, 124, 125, 7, 126, 127, 128, 129, 130, 69, 131, 132, 133, 134, 135, 20, 10, 13, 14, 15, 16, 17, 18, 19, 21, 22, 23, 24, 25, 26, 27, 28, 29, 30, 31, 32, 33, 34, 35, 36, 37, 38, 39, 40, 41, 42, 43, 44, 136, 137, 138, 139, 140, 141, 142, 143, 144, 145, 146, 74, 65, 66, 67, 68, 86, 87, 88, 89, 147, 148, 149, 150, 64, 59, 60, 61, 62, 63, 83, 84, 85, 104, 52, 53, 54, 151, 152, 153, 12, 90, 91, 92, 93, 94, 95, 70, 71, 72, 73, 154, 155, 156, 157, 170, 171, 172, 173, 174, 175, 176, 177, 178, 179, 180, 181, 182, 183, 184, 185, 186, 162, 163, 164, 165, 166, 167, 168, 169, 187, 188, 189, 190] (by decide +kernel) (by decide +kernel)
set_option maxRecDepth 20000 in
theorem gX2_hear_X2_hearChange : GoodIn wsX2_hear (wsV RX2 145 RX2 yX2_hearChange wsX2_hearChange) := goodIn_app (goodIn_of _ (by decide +kernel)) ggX2_hear_X2_hearChange
set_option maxRecDepth 20000 in
theorem ggX2_hear_X2_hearVote : GoodIn wsX2_hear wsX2_hearVote := goodIn_r _ [161, 3, 20, 2, 9, 131, 11, 65, 66, 67, 7, 68, 69, 123, 124, 125, 126, 127, 128, 129, 130, 121, 122, 132, 133, 134, 135, 10, 13, 14, 15, 16, 17, 18, 19, 21, 22, 23, 24, 25, 26, 27, 28, 29, 30, 31, 32, 33, 34, 35, 36, 37, 38, 39, 40, 41, 42, 43, 44, 147, 148, 149, 150, 51, 64, 59, 60, 61, 62, 63, 83, 84, 85, 104, 52, 53, 54, 151, 152, 153, 12, 90, 91, 92, 93, 94, 95, 70, 71, 72, 73, 74, 154, 155, 156, 157, 162, 163, 164, 165, 166, 167, 168, 169, 170, 171, 172, 173, 174, 175, 176, 177, 178, 179, 180, 181, 182, 183, 184, 185, 186, 187, 188, 189, 190] (by decide +kernel) (by decide +kernel)
set_option maxRecDepth 20000 in
theorem gX2_hear_X2_hearVote : GoodIn wsX2_hear (wsV RX2 148 RX2 yX2_hearVote wsX2_hearVote) := goodIn_app (goodIn_of _ (by decide +kernel)) ggX2_hear_X2_hearVote
theorem dX2_hear_0 : decode cX2_hear 0 = .ok (.aload_n 1, 1) := by decide +kernel
theorem dX2_hear_1 : decode cX2_hear 1 = .ok (.getfield 125, 3) := by decide +kernel
theorem dX2_hear_4 : decode cX2_hear 4 = .ok (.bipush 6, 2) := by decide +kernel
theorem dX2_hear_6 : decode cX2_hear 6 = .ok (.if_icmp .ne 9, 3) := by decide +kernel
theorem dX2_hear_9 : decode cX2_hear 9 = .ok (.aload_n 0, 1) := by decide +kernel
theorem dX2_hear_10 : decode cX2_hear 10 = .ok (.aload_n 1, 1) := by decide +kernel
theorem dX2_hear_11 : decode cX2_hear 11 = .ok (.invokevirtual 128, 3) := by decide +kernel
theorem dX2_hear_14 : decode cX2_hear 14 = .ok (.ireturn, 1) := by decide +kernel
theorem dX2_hear_15 : decode cX2_hear 15 = .ok (.aload_n 1, 1) := by decide +kernel
theorem dX2_hear_16 : decode cX2_hear 16 = .ok (.getfield 125, 3) := by decide +kernel
theorem dX2_hear_19 : decode cX2_hear 19 = .ok (.bipush 7, 2) := by decide +kernel
theorem dX2_hear_21 : decode cX2_hear 21 = .ok (.if_icmp .ne 9, 3) := by decide +kernel
theorem dX2_hear_24 : decode cX2_hear 24 = .ok (.aload_n 0, 1) := by decide +kernel
theorem dX2_hear_25 : decode cX2_hear 25 = .ok (.aload_n 1, 1) := by decide +kernel
theorem dX2_hear_26 : decode cX2_hear 26 = .ok (.invokevirtual 132, 3) := by decide +kernel
theorem dX2_hear_29 : decode cX2_hear 29 = .ok (.ireturn, 1) := by decide +kernel
theorem dX2_hear_30 : decode cX2_hear 30 = .ok (.aload_n 0, 1) := by decide +kernel
theorem dX2_hear_31 : decode cX2_hear 31 = .ok (.invokevirtual 135, 3) := by decide +kernel
theorem dX2_hear_34 : decode cX2_hear 34 = .ok (.ifCond .ne 14, 3) := by decide +kernel
theorem dX2_hear_37 : decode cX2_hear 37 = .ok (.aload_n 0, 1) := by decide +kernel
theorem dX2_hear_38 : decode cX2_hear 38 = .ok (.getfield 51, 3) := by decide +kernel
theorem dX2_hear_41 : decode cX2_hear 41 = .ok (.aload_n 1, 1) := by decide +kernel
theorem dX2_hear_42 : decode cX2_hear 42 = .ok (.getfield 138, 3) := by decide +kernel
theorem dX2_hear_45 : decode cX2_hear 45 = .ok (.if_icmp .le 5, 3) := by decide +kernel
theorem dX2_hear_48 : decode cX2_hear 48 = .ok (.iconst 0, 1) := by decide +kernel
theorem dX2_hear_49 : decode cX2_hear 49 = .ok (.ireturn, 1) := by decide +kernel
theorem dX2_hear_50 : decode cX2_hear 50 = .ok (.aload_n 1, 1) := by decide +kernel
theorem dX2_hear_51 : decode cX2_hear 51 = .ok (.getfield 125, 3) := by decide +kernel
theorem dX2_hear_54 : decode cX2_hear 54 = .ok (.tableswitch 58 1 5 #[34, 40, 46, 52, 34], 34) := by decide +kernel
theorem dX2_hear_88 : decode cX2_hear 88 = .ok (.aload_n 0, 1) := by decide +kernel
theorem dX2_hear_89 : decode cX2_hear 89 = .ok (.aload_n 1, 1) := by decide +kernel
theorem dX2_hear_90 : decode cX2_hear 90 = .ok (.invokevirtual 139, 3) := by decide +kernel
theorem dX2_hear_93 : decode cX2_hear 93 = .ok (.ireturn, 1) := by decide +kernel
theorem dX2_hear_94 : decode cX2_hear 94 = .ok (.aload_n 0, 1) := by decide +kernel
theorem dX2_hear_95 : decode cX2_hear 95 = .ok (.aload_n 1, 1) := by decide +kernel
theorem dX2_hear_96 : decode cX2_hear 96 = .ok (.invokevirtual 142, 3) := by decide +kernel
theorem dX2_hear_99 : decode cX2_hear 99 = .ok (.ireturn, 1) := by decide +kernel
theorem dX2_hear_100 : decode cX2_hear 100 = .ok (.aload_n 0, 1) := by decide +kernel
theorem dX2_hear_101 : decode cX2_hear 101 = .ok (.aload_n 1, 1) := by decide +kernel
theorem dX2_hear_102 : decode cX2_hear 102 = .ok (.invokevirtual 145, 3) := by decide +kernel
theorem dX2_hear_105 : decode cX2_hear 105 = .ok (.ireturn, 1) := by decide +kernel
theorem dX2_hear_106 : decode cX2_hear 106 = .ok (.aload_n 0, 1) := by decide +kernel
theorem dX2_hear_107 : decode cX2_hear 107 = .ok (.aload_n 1, 1) := by decide +kernel
theorem dX2_hear_108 : decode cX2_hear 108 = .ok (.invokevirtual 148, 3) := by decide +kernel
theorem dX2_hear_111 : decode cX2_hear 111 = .ok (.ireturn, 1) := by decide +kernel
theorem dX2_hear_112 : decode cX2_hear 112 = .ok (.iconst 0, 1) := by decide +kernel
theorem dX2_hear_113 : decode cX2_hear 113 = .ok (.ireturn, 1) := by decide +kernel
set_option maxRecDepth 20000 in
theorem ggX2_hearLog_X2_isFirst : GoodIn wsX2_hearLog wsX2_isFirst := goodIn_r _ [19, 1, 20, 21, 22, 23, 18, 24, 25, 71, 72, 73, 74, 75, 76, 77, 78, 79, 80, 81, 82, 83, 84, 85, 86, 87] (by decide +kernel) (by decide +kernel)
set_option maxRecDepth 20000 in
theorem gX2_hearLog_X2_isFirst : GoodIn wsX2_hearLog (wsV RX2 82 RX2 yX2_isFirst wsX2_isFirst) := goodIn_app (goodIn_of _ (by decide +kernel)) ggX2_hearLog_X2_isFirst
set_option maxRecDepth 20000 in
theorem ggX2_hearLog_X1_size : GoodIn wsX2_hearLog wsX1_size := goodIn_r _ [30, 31, 96] (by decide +kernel) (by decide +kernel)
set_option maxRecDepth 20000 in
theorem gX2_hearLog_X1_size : GoodIn wsX2_hearLog (wsV RX2 57 RX1 yX1_size wsX1_size) := goodIn_app (goodIn_of _ (by decide +kernel)) ggX2_hearLog_X1_size
set_option maxRecDepth 20000 in
theorem ggX2_hearLog_X2_settleIn : GoodIn wsX2_hearLog wsX2_settleIn := goodIn_r _ [35, 1, 36, 3, 71, 72, 73, 74, 75, 76, 77, 78, 79, 80, 81, 82, 83, 84, 85, 86, 87] (by decide +kernel) (by decide +kernel)
set_option maxRecDepth 20000 in
theorem gX2_hearLog_X2_settleIn : GoodIn wsX2_hearLog (wsV RX2 162 RX2 yX2_settleIn wsX2_settleIn) := goodIn_app (goodIn_of _ (by decide +kernel)) ggX2_hearLog_X2_settleIn
set_option maxRecDepth 20000 in
theorem ggX2_hearLog_X2_postOk : GoodIn wsX2_hearLog wsX2_postOk := goodIn_r _ [40, 41, 1, 5, 21, 22, 23, 18, 24, 25, 26, 27, 28, 29, 30, 31, 42, 43, 44, 45, 46, 47, 48, 20, 49, 6, 50, 51, 52, 53, 54, 55, 56, 57, 58, 59, 60, 61, 62, 63, 64, 65, 66, 67, 68, 69, 70, 71, 72, 73, 74, 75, 76, 77, 78, 79, 80, 81, 82, 83, 84, 85, 86, 87, 96, 88, 89, 90, 91, 92, 93, 94, 95, 97, 98, 99] (by decide +kernel) (by decide +kernel)
set_option maxRecDepth 20000 in
theorem gX2_hearLog_X2_postOk : GoodIn wsX2_hearLog (wsV RX2 113 RX2 yX2_postOk wsX2_postOk) := goodIn_app (goodIn_of _ (by decide +kernel)) ggX2_hearLog_X2_postOk
theorem dX2_hearLog_0 : decode cX2_hearLog 0 = .ok (.aload_n 0, 1) := by decide +kernel
theorem dX2_hearLog_1 : decode cX2_hearLog 1 = .ok (.getfield 51, 3) := by decide +kernel
theorem dX2_hearLog_4 : decode cX2_hearLog 4 = .ok (.aload_n 1, 1) := by decide +kernel
theorem dX2_hearLog_5 : decode cX2_hearLog 5 = .ok (.getfield 138, 3) := by decide +kernel
theorem dX2_hearLog_8 : decode cX2_hearLog 8 = .ok (.if_icmp .lt 11, 3) := by decide +kernel
theorem dX2_hearLog_11 : decode cX2_hearLog 11 = .ok (.aload_n 0, 1) := by decide +kernel
theorem dX2_hearLog_12 : decode cX2_hearLog 12 = .ok (.getfield 48, 3) := by decide +kernel
theorem dX2_hearLog_15 : decode cX2_hearLog 15 = .ok (.iconst 1, 1) := by decide +kernel
theorem dX2_hearLog_16 : decode cX2_hearLog 16 = .ok (.if_icmp .ne 7, 3) := by decide +kernel
theorem dX2_hearLog_19 : decode cX2_hearLog 19 = .ok (.iconst 1, 1) := by decide +kernel
theorem dX2_hearLog_20 : decode cX2_hearLog 20 = .ok (.goto 4, 3) := by decide +kernel
theorem dX2_hearLog_23 : decode cX2_hearLog 23 = .ok (.iconst 0, 1) := by decide +kernel
theorem dX2_hearLog_24 : decode cX2_hearLog 24 = .ok (.istore_n 2, 1) := by decide +kernel
theorem dX2_hearLog_25 : decode cX2_hearLog 25 = .ok (.iload_n 2, 1) := by decide +kernel
theorem dX2_hearLog_26 : decode cX2_hearLog 26 = .ok (.ifCond .ne 12, 3) := by decide +kernel
theorem dX2_hearLog_29 : decode cX2_hearLog 29 = .ok (.aload_n 0, 1) := by decide +kernel
theorem dX2_hearLog_30 : decode cX2_hearLog 30 = .ok (.invokevirtual 82, 3) := by decide +kernel
theorem dX2_hearLog_33 : decode cX2_hearLog 33 = .ok (.ifCond .eq 5, 3) := by decide +kernel
theorem dX2_hearLog_36 : decode cX2_hearLog 36 = .ok (.iconst 0, 1) := by decide +kernel
theorem dX2_hearLog_37 : decode cX2_hearLog 37 = .ok (.ireturn, 1) := by decide +kernel
theorem dX2_hearLog_38 : decode cX2_hearLog 38 = .ok (.iload_n 2, 1) := by decide +kernel
theorem dX2_hearLog_39 : decode cX2_hearLog 39 = .ok (.ifCond .ne 20, 3) := by decide +kernel
theorem dX2_hearLog_42 : decode cX2_hearLog 42 = .ok (.aload_n 1, 1) := by decide +kernel
theorem dX2_hearLog_43 : decode cX2_hearLog 43 = .ok (.getfield 151, 3) := by decide +kernel
theorem dX2_hearLog_46 : decode cX2_hearLog 46 = .ok (.invokevirtual 57, 3) := by decide +kernel
theorem dX2_hearLog_49 : decode cX2_hearLog 49 = .ok (.aload_n 0, 1) := by decide +kernel
theorem dX2_hearLog_50 : decode cX2_hearLog 50 = .ok (.getfield 33, 3) := by decide +kernel
theorem dX2_hearLog_53 : decode cX2_hearLog 53 = .ok (.invokevirtual 57, 3) := by decide +kernel
theorem dX2_hearLog_56 : decode cX2_hearLog 56 = .ok (.if_icmp .le 11, 3) := by decide +kernel
theorem dX2_hearLog_59 : decode cX2_hearLog 59 = .ok (.aload_n 0, 1) := by decide +kernel
theorem dX2_hearLog_60 : decode cX2_hearLog 60 = .ok (.aload_n 1, 1) := by decide +kernel
theorem dX2_hearLog_61 : decode cX2_hearLog 61 = .ok (.getfield 151, 3) := by decide +kernel
theorem dX2_hearLog_64 : decode cX2_hearLog 64 = .ok (.putfield 33, 3) := by decide +kernel
theorem dX2_hearLog_67 : decode cX2_hearLog 67 = .ok (.aload_n 0, 1) := by decide +kernel
theorem dX2_hearLog_68 : decode cX2_hearLog 68 = .ok (.aload_n 0, 1) := by decide +kernel
theorem dX2_hearLog_69 : decode cX2_hearLog 69 = .ok (.getfield 62, 3) := by decide +kernel
theorem dX2_hearLog_72 : decode cX2_hearLog 72 = .ok (.aload_n 1, 1) := by decide +kernel
theorem dX2_hearLog_73 : decode cX2_hearLog 73 = .ok (.getfield 152, 3) := by decide +kernel
theorem dX2_hearLog_76 : decode cX2_hearLog 76 = .ok (.invokestatic 153, 3) := by decide +kernel
theorem dX2_hearLog_79 : decode cX2_hearLog 79 = .ok (.aload_n 0, 1) := by decide +kernel
theorem dX2_hearLog_80 : decode cX2_hearLog 80 = .ok (.getfield 33, 3) := by decide +kernel
theorem dX2_hearLog_83 : decode cX2_hearLog 83 = .ok (.invokevirtual 57, 3) := by decide +kernel
theorem dX2_hearLog_86 : decode cX2_hearLog 86 = .ok (.invokestatic 159, 3) := by decide +kernel
theorem dX2_hearLog_89 : decode cX2_hearLog 89 = .ok (.putfield 62, 3) := by decide +kernel
theorem dX2_hearLog_92 : decode cX2_hearLog 92 = .ok (.aload_n 0, 1) := by decide +kernel
theorem dX2_hearLog_93 : decode cX2_hearLog 93 = .ok (.aload_n 1, 1) := by decide +kernel
theorem dX2_hearLog_94 : decode cX2_hearLog 94 = .ok (.getfield 138, 3) := by decide +kernel
theorem dX2_hearLog_97 : decode cX2_hearLog 97 = .ok (.invokevirtual 162, 3) := by decide +kernel
theorem dX2_hearLog_100 : decode cX2_hearLog 100 = .ok (.aload_n 0, 1) := by decide +kernel
theorem dX2_hearLog_101 : decode cX2_hearLog 101 = .ok (.invokevirtual 113, 3) := by decide +kernel
theorem dX2_hearLog_104 : decode cX2_hearLog 104 = .ok (.iconst 1, 1) := by decide +kernel
theorem dX2_hearLog_105 : decode cX2_hearLog 105 = .ok (.ireturn, 1) := by decide +kernel
set_option maxRecDepth 20000 in
theorem ggX2_hearOk_X2_leads : GoodIn wsX2_hearOk wsX2_leads := goodIn_r _ [19, 20, 21, 22, 23, 18, 24, 1, 25, 26, 27, 28, 29, 30, 46, 47, 48, 49, 50, 51, 52, 53, 54, 55, 56, 57, 58, 59, 60, 61, 62] (by decide +kernel) (by decide +kernel)
set_option maxRecDepth 20000 in
theorem gX2_hearOk_X2_leads : GoodIn wsX2_hearOk (wsV RX2 166 RX2 yX2_leads wsX2_leads) := goodIn_app (goodIn_of _ (by decide +kernel)) ggX2_hearOk_X2_leads
set_option maxRecDepth 20000 in
theorem ggX2_hearOk_X2_heldByEnough : GoodIn wsX2_hearOk wsX2_heldByEnough := goodIn_r _ [34, 3, 35, 36, 37, 38, 18, 39, 46, 47, 48, 49, 50, 51, 52, 53, 54, 55, 56, 57, 58, 59, 60, 61, 62] (by decide +kernel) (by decide +kernel)
set_option maxRecDepth 20000 in
theorem gX2_hearOk_X2_heldByEnough : GoodIn wsX2_hearOk (wsV RX2 175 RX2 yX2_heldByEnough wsX2_heldByEnough) := goodIn_app (goodIn_of _ (by decide +kernel)) ggX2_hearOk_X2_heldByEnough
set_option maxRecDepth 20000 in
theorem ggX2_hearOk_X1_size : GoodIn wsX2_hearOk wsX1_size := goodIn_r _ [44, 45, 71] (by decide +kernel) (by decide +kernel)
set_option maxRecDepth 20000 in
theorem gX2_hearOk_X1_size : GoodIn wsX2_hearOk (wsV RX2 57 RX1 yX1_size wsX1_size) := goodIn_app (goodIn_of _ (by decide +kernel)) ggX2_hearOk_X1_size
theorem dX2_hearOk_0 : decode cX2_hearOk 0 = .ok (.aload_n 0, 1) := by decide +kernel
theorem dX2_hearOk_1 : decode cX2_hearOk 1 = .ok (.invokevirtual 166, 3) := by decide +kernel
theorem dX2_hearOk_4 : decode cX2_hearOk 4 = .ok (.ifCond .eq 14, 3) := by decide +kernel
theorem dX2_hearOk_7 : decode cX2_hearOk 7 = .ok (.aload_n 0, 1) := by decide +kernel
theorem dX2_hearOk_8 : decode cX2_hearOk 8 = .ok (.getfield 51, 3) := by decide +kernel
theorem dX2_hearOk_11 : decode cX2_hearOk 11 = .ok (.aload_n 1, 1) := by decide +kernel
theorem dX2_hearOk_12 : decode cX2_hearOk 12 = .ok (.getfield 138, 3) := by decide +kernel
theorem dX2_hearOk_15 : decode cX2_hearOk 15 = .ok (.if_icmp .eq 5, 3) := by decide +kernel
theorem dX2_hearOk_18 : decode cX2_hearOk 18 = .ok (.iconst 0, 1) := by decide +kernel
theorem dX2_hearOk_19 : decode cX2_hearOk 19 = .ok (.ireturn, 1) := by decide +kernel
theorem dX2_hearOk_20 : decode cX2_hearOk 20 = .ok (.aload_n 0, 1) := by decide +kernel
theorem dX2_hearOk_21 : decode cX2_hearOk 21 = .ok (.getfield 45, 3) := by decide +kernel
theorem dX2_hearOk_24 : decode cX2_hearOk 24 = .ok (.aload_n 1, 1) := by decide +kernel
theorem dX2_hearOk_25 : decode cX2_hearOk 25 = .ok (.getfield 169, 3) := by decide +kernel
theorem dX2_hearOk_28 : decode cX2_hearOk 28 = .ok (.aload_n 0, 1) := by decide +kernel
theorem dX2_hearOk_29 : decode cX2_hearOk 29 = .ok (.getfield 45, 3) := by decide +kernel
theorem dX2_hearOk_32 : decode cX2_hearOk 32 = .ok (.aload_n 1, 1) := by decide +kernel
theorem dX2_hearOk_33 : decode cX2_hearOk 33 = .ok (.getfield 169, 3) := by decide +kernel
theorem dX2_hearOk_36 : decode cX2_hearOk 36 = .ok (.iaload, 1) := by decide +kernel
theorem dX2_hearOk_37 : decode cX2_hearOk 37 = .ok (.aload_n 1, 1) := by decide +kernel
theorem dX2_hearOk_38 : decode cX2_hearOk 38 = .ok (.getfield 172, 3) := by decide +kernel
theorem dX2_hearOk_41 : decode cX2_hearOk 41 = .ok (.invokestatic 153, 3) := by decide +kernel
theorem dX2_hearOk_44 : decode cX2_hearOk 44 = .ok (.iastore, 1) := by decide +kernel
theorem dX2_hearOk_45 : decode cX2_hearOk 45 = .ok (.aload_n 0, 1) := by decide +kernel
theorem dX2_hearOk_46 : decode cX2_hearOk 46 = .ok (.aload_n 0, 1) := by decide +kernel
theorem dX2_hearOk_47 : decode cX2_hearOk 47 = .ok (.getfield 62, 3) := by decide +kernel
theorem dX2_hearOk_50 : decode cX2_hearOk 50 = .ok (.aload_n 0, 1) := by decide +kernel
theorem dX2_hearOk_51 : decode cX2_hearOk 51 = .ok (.invokevirtual 175, 3) := by decide +kernel
theorem dX2_hearOk_54 : decode cX2_hearOk 54 = .ok (.aload_n 0, 1) := by decide +kernel
theorem dX2_hearOk_55 : decode cX2_hearOk 55 = .ok (.getfield 33, 3) := by decide +kernel
theorem dX2_hearOk_58 : decode cX2_hearOk 58 = .ok (.invokevirtual 57, 3) := by decide +kernel
theorem dX2_hearOk_61 : decode cX2_hearOk 61 = .ok (.invokestatic 159, 3) := by decide +kernel
theorem dX2_hearOk_64 : decode cX2_hearOk 64 = .ok (.invokestatic 153, 3) := by decide +kernel
theorem dX2_hearOk_67 : decode cX2_hearOk 67 = .ok (.putfield 62, 3) := by decide +kernel
theorem dX2_hearOk_70 : decode cX2_hearOk 70 = .ok (.iconst 1, 1) := by decide +kernel
theorem dX2_hearOk_71 : decode cX2_hearOk 71 = .ok (.ireturn, 1) := by decide +kernel
set_option maxRecDepth 20000 in
theorem ggX2_hearChange_X2_changeTo : GoodIn wsX2_hearChange wsX2_changeTo := goodIn_r _ [12, 1, 4, 13, 14, 15, 11, 16, 5, 6, 17, 18, 19, 20, 21, 22, 23, 24, 25, 26, 27, 28, 29, 30, 31, 32, 33, 34, 35, 36, 37, 38, 39, 40, 41, 42, 43, 44, 45, 46, 47, 48, 49, 50, 51, 52, 53, 54, 55, 111, 112, 113, 114, 115, 116, 117, 118, 119, 120, 121, 122, 123, 124, 125, 126, 127, 128, 129, 130, 131, 132, 133, 134, 135, 136, 137, 138] (by decide +kernel) (by decide +kernel)
set_option maxRecDepth 20000 in
theorem gX2_hearChange_X2_changeTo : GoodIn wsX2_hearChange (wsV RX2 178 RX2 yX2_changeTo wsX2_changeTo) := goodIn_app (goodIn_of _ (by decide +kernel)) ggX2_hearChange_X2_changeTo
set_option maxRecDepth 20000 in
theorem ggX2_hearChange_J6_bitCount_0f7a4 : GoodIn wsX2_hearChange wsJ6_bitCount_0f7a4 := goodIn_r _ [59, 60, 61, 62] (by decide +kernel) (by decide +kernel)
set_option maxRecDepth 20000 in
theorem gX2_hearChange_J6_bitCount_0f7a4 : GoodIn wsX2_hearChange (va_wsS RX2 68 yJ6_bitCount_0f7a4 wsJ6_bitCount_0f7a4) := goodIn_app (goodIn_of _ (by decide +kernel)) ggX2_hearChange_J6_bitCount_0f7a4
set_option maxRecDepth 20000 in
theorem ggX2_hearChange_X2_castVote : GoodIn wsX2_hearChange wsX2_castVote := goodIn_r _ [66, 6, 1, 67, 18, 23, 24, 68, 69, 70, 11, 71, 17, 25, 26, 27, 28, 29, 30, 31, 32, 33, 34, 35, 36, 37, 38, 39, 40, 41, 42, 43, 44, 45, 46, 47, 72, 73, 74, 75, 48, 49, 50, 51, 52, 53, 54, 55, 111, 112, 113, 114, 115, 116, 117, 118, 119, 120, 121, 122, 123, 124, 125, 126, 127, 128, 129, 130, 131, 132, 133, 134, 135, 136, 137, 138] (by decide +kernel) (by decide +kernel)
set_option maxRecDepth 20000 in
theorem gX2_hearChange_X2_castVote : GoodIn wsX2_hearChange (wsV RX2 116 RX2 yX2_castVote wsX2_castVote) := goodIn_app (goodIn_of _ (by decide +kernel)) ggX2_hearChange_X2_castVote
set_option maxRecDepth 20000 in
theorem ggX2_hearChange_X2_leadIfElected : GoodIn wsX2_hearChange wsX2_leadIfElected := goodIn_r _ [79, 18, 23, 7, 80, 81, 82, 83, 84, 85, 32, 86, 87, 88, 34, 1, 89, 90, 91, 11, 92, 93, 94, 95, 96, 97, 98, 99, 100, 101, 102, 103, 104, 105, 106, 67, 4, 107, 108, 109, 110, 19, 20, 21, 22, 17, 24, 25, 26, 27, 28, 29, 30, 31, 33, 35, 36, 37, 38, 39, 40, 41, 42, 43, 44, 45, 46, 47, 48, 49, 50, 51, 52, 53, 54, 55, 111, 112, 113, 114, 115, 116, 117, 118, 119, 120, 121, 122, 123, 124, 125, 126, 127, 128, 129, 130, 131, 132, 133, 134, 135, 139, 136, 137, 138] (by decide +kernel) (by decide +kernel)
set_option maxRecDepth 20000 in
theorem gX2_hearChange_X2_leadIfElected : GoodIn wsX2_hearChange (wsV RX2 181 RX2 yX2_leadIfElected wsX2_leadIfElected) := goodIn_app (goodIn_of _ (by decide +kernel)) ggX2_hearChange_X2_leadIfElected
theorem dX2_hearChange_0 : decode cX2_hearChange 0 = .ok (.aload_n 0, 1) := by decide +kernel
theorem dX2_hearChange_1 : decode cX2_hearChange 1 = .ok (.getfield 51, 3) := by decide +kernel
theorem dX2_hearChange_4 : decode cX2_hearChange 4 = .ok (.aload_n 1, 1) := by decide +kernel
theorem dX2_hearChange_5 : decode cX2_hearChange 5 = .ok (.getfield 138, 3) := by decide +kernel
theorem dX2_hearChange_8 : decode cX2_hearChange 8 = .ok (.if_icmp .ge 11, 3) := by decide +kernel
theorem dX2_hearChange_11 : decode cX2_hearChange 11 = .ok (.aload_n 0, 1) := by decide +kernel
theorem dX2_hearChange_12 : decode cX2_hearChange 12 = .ok (.aload_n 1, 1) := by decide +kernel
theorem dX2_hearChange_13 : decode cX2_hearChange 13 = .ok (.getfield 138, 3) := by decide +kernel
theorem dX2_hearChange_16 : decode cX2_hearChange 16 = .ok (.invokevirtual 178, 3) := by decide +kernel
theorem dX2_hearChange_19 : decode cX2_hearChange 19 = .ok (.iconst 1, 1) := by decide +kernel
theorem dX2_hearChange_20 : decode cX2_hearChange 20 = .ok (.aload_n 1, 1) := by decide +kernel
theorem dX2_hearChange_21 : decode cX2_hearChange 21 = .ok (.getfield 169, 3) := by decide +kernel
theorem dX2_hearChange_24 : decode cX2_hearChange 24 = .ok (.ishl, 1) := by decide +kernel
theorem dX2_hearChange_25 : decode cX2_hearChange 25 = .ok (.istore_n 2, 1) := by decide +kernel
theorem dX2_hearChange_26 : decode cX2_hearChange 26 = .ok (.aload_n 0, 1) := by decide +kernel
theorem dX2_hearChange_27 : decode cX2_hearChange 27 = .ok (.getfield 48, 3) := by decide +kernel
theorem dX2_hearChange_30 : decode cX2_hearChange 30 = .ok (.iconst 1, 1) := by decide +kernel
theorem dX2_hearChange_31 : decode cX2_hearChange 31 = .ok (.if_icmp .ne 12, 3) := by decide +kernel
theorem dX2_hearChange_34 : decode cX2_hearChange 34 = .ok (.aload_n 0, 1) := by decide +kernel
theorem dX2_hearChange_35 : decode cX2_hearChange 35 = .ok (.getfield 65, 3) := by decide +kernel
theorem dX2_hearChange_38 : decode cX2_hearChange 38 = .ok (.iload_n 2, 1) := by decide +kernel
theorem dX2_hearChange_39 : decode cX2_hearChange 39 = .ok (.iand, 1) := by decide +kernel
theorem dX2_hearChange_40 : decode cX2_hearChange 40 = .ok (.ifCond .eq 5, 3) := by decide +kernel
theorem dX2_hearChange_43 : decode cX2_hearChange 43 = .ok (.iconst 0, 1) := by decide +kernel
theorem dX2_hearChange_44 : decode cX2_hearChange 44 = .ok (.ireturn, 1) := by decide +kernel
theorem dX2_hearChange_45 : decode cX2_hearChange 45 = .ok (.aload_n 0, 1) := by decide +kernel
theorem dX2_hearChange_46 : decode cX2_hearChange 46 = .ok (.dup, 1) := by decide +kernel
theorem dX2_hearChange_47 : decode cX2_hearChange 47 = .ok (.getfield 65, 3) := by decide +kernel
theorem dX2_hearChange_50 : decode cX2_hearChange 50 = .ok (.iload_n 2, 1) := by decide +kernel
theorem dX2_hearChange_51 : decode cX2_hearChange 51 = .ok (.ior, 1) := by decide +kernel
theorem dX2_hearChange_52 : decode cX2_hearChange 52 = .ok (.putfield 65, 3) := by decide +kernel
theorem dX2_hearChange_55 : decode cX2_hearChange 55 = .ok (.aload_n 0, 1) := by decide +kernel
theorem dX2_hearChange_56 : decode cX2_hearChange 56 = .ok (.getfield 78, 3) := by decide +kernel
theorem dX2_hearChange_59 : decode cX2_hearChange 59 = .ok (.ifCond .ne 25, 3) := by decide +kernel
theorem dX2_hearChange_62 : decode cX2_hearChange 62 = .ok (.aload_n 0, 1) := by decide +kernel
theorem dX2_hearChange_63 : decode cX2_hearChange 63 = .ok (.getfield 65, 3) := by decide +kernel
theorem dX2_hearChange_66 : decode cX2_hearChange 66 = .ok (.invokestatic 68, 3) := by decide +kernel
theorem dX2_hearChange_69 : decode cX2_hearChange 69 = .ok (.aload_n 0, 1) := by decide +kernel
theorem dX2_hearChange_70 : decode cX2_hearChange 70 = .ok (.getfield 22, 3) := by decide +kernel
theorem dX2_hearChange_73 : decode cX2_hearChange 73 = .ok (.if_icmp .lt 11, 3) := by decide +kernel
theorem dX2_hearChange_76 : decode cX2_hearChange 76 = .ok (.aload_n 0, 1) := by decide +kernel
theorem dX2_hearChange_77 : decode cX2_hearChange 77 = .ok (.invokevirtual 116, 3) := by decide +kernel
theorem dX2_hearChange_80 : decode cX2_hearChange 80 = .ok (.aload_n 0, 1) := by decide +kernel
theorem dX2_hearChange_81 : decode cX2_hearChange 81 = .ok (.invokevirtual 181, 3) := by decide +kernel
theorem dX2_hearChange_84 : decode cX2_hearChange 84 = .ok (.iconst 1, 1) := by decide +kernel
theorem dX2_hearChange_85 : decode cX2_hearChange 85 = .ok (.ireturn, 1) := by decide +kernel
set_option maxRecDepth 20000 in
theorem ggX2_hearVote_X2_firstOf : GoodIn wsX2_hearVote wsX2_firstOf := goodIn_r _ [11, 12, 104, 105, 106, 107, 108, 109, 110, 111, 112, 113, 114, 115, 116, 117, 118, 119, 120] (by decide +kernel) (by decide +kernel)
set_option maxRecDepth 20000 in
theorem gX2_hearVote_X2_firstOf : GoodIn wsX2_hearVote (wsV RX2 184 RX2 yX2_firstOf wsX2_firstOf) := goodIn_app (goodIn_of _ (by decide +kernel)) ggX2_hearVote_X2_firstOf
set_option maxRecDepth 20000 in
theorem ggX2_hearVote_X2_changeTo : GoodIn wsX2_hearVote wsX2_changeTo := goodIn_r _ [16, 3, 4, 17, 18, 19, 10, 20, 21, 22, 12, 5, 23, 24, 25, 26, 2, 27, 28, 29, 30, 31, 32, 33, 34, 35, 36, 37, 38, 39, 40, 41, 42, 43, 44, 45, 46, 47, 48, 49, 50, 51, 52, 53, 54, 55, 56, 57, 58, 104, 105, 106, 107, 108, 109, 110, 111, 112, 113, 114, 115, 116, 117, 118, 119, 120, 96, 97, 98, 99, 100, 101, 102, 103, 121, 122, 123] (by decide +kernel) (by decide +kernel)
set_option maxRecDepth 20000 in
theorem gX2_hearVote_X2_changeTo : GoodIn wsX2_hearVote (wsV RX2 178 RX2 yX2_changeTo wsX2_changeTo) := goodIn_app (goodIn_of _ (by decide +kernel)) ggX2_hearVote_X2_changeTo
set_option maxRecDepth 20000 in
theorem ggX2_hearVote_X2_leadIfElected : GoodIn wsX2_hearVote wsX2_leadIfElected := goodIn_r _ [62, 5, 2, 63, 64, 65, 66, 67, 68, 69, 35, 70, 71, 72, 37, 3, 73, 74, 75, 10, 76, 77, 78, 79, 80, 81, 82, 83, 84, 85, 86, 87, 88, 89, 90, 91, 4, 92, 93, 94, 95, 23, 24, 25, 26, 12, 27, 28, 29, 30, 31, 32, 33, 34, 36, 38, 39, 40, 41, 42, 43, 44, 45, 46, 47, 48, 49, 50, 51, 52, 53, 54, 55, 56, 57, 58, 104, 105, 106, 107, 108, 109, 110, 111, 112, 113, 114, 115, 116, 117, 118, 119, 120, 96, 97, 98, 99, 100, 101, 102, 103, 124, 121, 122, 123] (by decide +kernel) (by decide +kernel)
set_option maxRecDepth 20000 in
theorem gX2_hearVote_X2_leadIfElected : GoodIn wsX2_hearVote (wsV RX2 181 RX2 yX2_leadIfElected wsX2_leadIfElected) := goodIn_app (goodIn_of _ (by decide +kernel)) ggX2_hearVote_X2_leadIfElected
theorem dX2_hearVote_0 : decode cX2_hearVote 0 = .ok (.aload_n 0, 1) := by decide +kernel
theorem dX2_hearVote_1 : decode cX2_hearVote 1 = .ok (.aload_n 1, 1) := by decide +kernel
theorem dX2_hearVote_2 : decode cX2_hearVote 2 = .ok (.getfield 138, 3) := by decide +kernel
theorem dX2_hearVote_5 : decode cX2_hearVote 5 = .ok (.invokevirtual 184, 3) := by decide +kernel
theorem dX2_hearVote_8 : decode cX2_hearVote 8 = .ok (.aload_n 0, 1) := by decide +kernel
theorem dX2_hearVote_9 : decode cX2_hearVote 9 = .ok (.getfield 15, 3) := by decide +kernel
theorem dX2_hearVote_12 : decode cX2_hearVote 12 = .ok (.if_icmp .eq 5, 3) := by decide +kernel
theorem dX2_hearVote_15 : decode cX2_hearVote 15 = .ok (.iconst 0, 1) := by decide +kernel
theorem dX2_hearVote_16 : decode cX2_hearVote 16 = .ok (.ireturn, 1) := by decide +kernel
theorem dX2_hearVote_17 : decode cX2_hearVote 17 = .ok (.aload_n 0, 1) := by decide +kernel
theorem dX2_hearVote_18 : decode cX2_hearVote 18 = .ok (.getfield 51, 3) := by decide +kernel
theorem dX2_hearVote_21 : decode cX2_hearVote 21 = .ok (.aload_n 1, 1) := by decide +kernel
theorem dX2_hearVote_22 : decode cX2_hearVote 22 = .ok (.getfield 138, 3) := by decide +kernel
theorem dX2_hearVote_25 : decode cX2_hearVote 25 = .ok (.if_icmp .ge 11, 3) := by decide +kernel
theorem dX2_hearVote_28 : decode cX2_hearVote 28 = .ok (.aload_n 0, 1) := by decide +kernel
theorem dX2_hearVote_29 : decode cX2_hearVote 29 = .ok (.aload_n 1, 1) := by decide +kernel
theorem dX2_hearVote_30 : decode cX2_hearVote 30 = .ok (.getfield 138, 3) := by decide +kernel
theorem dX2_hearVote_33 : decode cX2_hearVote 33 = .ok (.invokevirtual 178, 3) := by decide +kernel
theorem dX2_hearVote_36 : decode cX2_hearVote 36 = .ok (.aload_n 0, 1) := by decide +kernel
theorem dX2_hearVote_37 : decode cX2_hearVote 37 = .ok (.getfield 48, 3) := by decide +kernel
theorem dX2_hearVote_40 : decode cX2_hearVote 40 = .ok (.iconst 1, 1) := by decide +kernel
theorem dX2_hearVote_41 : decode cX2_hearVote 41 = .ok (.if_icmp .ne 15, 3) := by decide +kernel
theorem dX2_hearVote_44 : decode cX2_hearVote 44 = .ok (.aload_n 0, 1) := by decide +kernel
theorem dX2_hearVote_45 : decode cX2_hearVote 45 = .ok (.getfield 38, 3) := by decide +kernel
theorem dX2_hearVote_48 : decode cX2_hearVote 48 = .ok (.aload_n 1, 1) := by decide +kernel
theorem dX2_hearVote_49 : decode cX2_hearVote 49 = .ok (.getfield 169, 3) := by decide +kernel
theorem dX2_hearVote_52 : decode cX2_hearVote 52 = .ok (.aaload, 1) := by decide +kernel
theorem dX2_hearVote_53 : decode cX2_hearVote 53 = .ok (.ifnull 5, 3) := by decide +kernel
theorem dX2_hearVote_56 : decode cX2_hearVote 56 = .ok (.iconst 0, 1) := by decide +kernel
theorem dX2_hearVote_57 : decode cX2_hearVote 57 = .ok (.ireturn, 1) := by decide +kernel
theorem dX2_hearVote_58 : decode cX2_hearVote 58 = .ok (.aload_n 0, 1) := by decide +kernel
theorem dX2_hearVote_59 : decode cX2_hearVote 59 = .ok (.getfield 38, 3) := by decide +kernel
theorem dX2_hearVote_62 : decode cX2_hearVote 62 = .ok (.aload_n 1, 1) := by decide +kernel
theorem dX2_hearVote_63 : decode cX2_hearVote 63 = .ok (.getfield 169, 3) := by decide +kernel
theorem dX2_hearVote_66 : decode cX2_hearVote 66 = .ok (.aload_n 1, 1) := by decide +kernel
theorem dX2_hearVote_67 : decode cX2_hearVote 67 = .ok (.aastore, 1) := by decide +kernel
theorem dX2_hearVote_68 : decode cX2_hearVote 68 = .ok (.aload_n 0, 1) := by decide +kernel
theorem dX2_hearVote_69 : decode cX2_hearVote 69 = .ok (.invokevirtual 181, 3) := by decide +kernel
theorem dX2_hearVote_72 : decode cX2_hearVote 72 = .ok (.iconst 1, 1) := by decide +kernel
theorem dX2_hearVote_73 : decode cX2_hearVote 73 = .ok (.ireturn, 1) := by decide +kernel
set_option maxRecDepth 20000 in
theorem ggX2_hearAsk_X2_write : GoodIn wsX2_hearAsk wsX2_write := goodIn_r _ [9, 10, 11, 12, 13, 14, 15, 16, 17, 18, 19, 20, 21, 22, 23, 24, 25, 26, 27, 28, 29, 30, 56, 57, 58, 59, 60, 61, 62, 63, 39, 40, 41, 42, 43, 44, 45, 46, 47, 48, 49, 50, 51, 52, 53, 54, 55] (by decide +kernel) (by decide +kernel)
set_option maxRecDepth 20000 in
theorem gX2_hearAsk_X2_write : GoodIn wsX2_hearAsk (wsV RX2 96 RX2 yX2_write wsX2_write) := goodIn_app (goodIn_of _ (by decide +kernel)) ggX2_hearAsk_X2_write
set_option maxRecDepth 20000 in
theorem ggX2_hearAsk_X3_add : GoodIn wsX2_hearAsk wsX3_add := goodIn_r _ [35, 36, 37, 38, 64, 65, 66] (by decide +kernel) (by decide +kernel)
set_option maxRecDepth 20000 in
theorem gX2_hearAsk_X3_add : GoodIn wsX2_hearAsk (wsV RX2 100 RX3 yX3_add wsX3_add) := goodIn_app (goodIn_of _ (by decide +kernel)) ggX2_hearAsk_X3_add
theorem dX2_hearAsk_0 : decode cX2_hearAsk 0 = .ok (.aload_n 0, 1) := by decide +kernel
theorem dX2_hearAsk_1 : decode cX2_hearAsk 1 = .ok (.getfield 48, 3) := by decide +kernel
theorem dX2_hearAsk_4 : decode cX2_hearAsk 4 = .ok (.ifCond .eq 5, 3) := by decide +kernel
theorem dX2_hearAsk_7 : decode cX2_hearAsk 7 = .ok (.iconst 0, 1) := by decide +kernel
theorem dX2_hearAsk_8 : decode cX2_hearAsk 8 = .ok (.ireturn, 1) := by decide +kernel
theorem dX2_hearAsk_9 : decode cX2_hearAsk 9 = .ok (.aload_n 0, 1) := by decide +kernel
theorem dX2_hearAsk_10 : decode cX2_hearAsk 10 = .ok (.getfield 25, 3) := by decide +kernel
theorem dX2_hearAsk_13 : decode cX2_hearAsk 13 = .ok (.aload_n 0, 1) := by decide +kernel
theorem dX2_hearAsk_14 : decode cX2_hearAsk 14 = .ok (.aload_n 1, 1) := by decide +kernel
theorem dX2_hearAsk_15 : decode cX2_hearAsk 15 = .ok (.getfield 169, 3) := by decide +kernel
theorem dX2_hearAsk_18 : decode cX2_hearAsk 18 = .ok (.bipush 7, 2) := by decide +kernel
theorem dX2_hearAsk_20 : decode cX2_hearAsk 20 = .ok (.aload_n 1, 1) := by decide +kernel
theorem dX2_hearAsk_21 : decode cX2_hearAsk 21 = .ok (.getfield 172, 3) := by decide +kernel
theorem dX2_hearAsk_24 : decode cX2_hearAsk 24 = .ok (.invokevirtual 96, 3) := by decide +kernel
theorem dX2_hearAsk_27 : decode cX2_hearAsk 27 = .ok (.invokevirtual 100, 3) := by decide +kernel
theorem dX2_hearAsk_30 : decode cX2_hearAsk 30 = .ok (.iconst 1, 1) := by decide +kernel
theorem dX2_hearAsk_31 : decode cX2_hearAsk 31 = .ok (.ireturn, 1) := by decide +kernel
set_option maxRecDepth 20000 in
theorem ggX2_hearTell_X2_countLetters : GoodIn wsX2_hearTell wsX2_countLetters := goodIn_r _ [10] (by decide +kernel) (by decide +kernel)
set_option maxRecDepth 20000 in
theorem gX2_hearTell_X2_countLetters : GoodIn wsX2_hearTell (va_wsS RX2 74 yX2_countLetters wsX2_countLetters) := goodIn_app (goodIn_of _ (by decide +kernel)) ggX2_hearTell_X2_countLetters
set_option maxRecDepth 20000 in
theorem ggX2_hearTell_X2_believeFirst : GoodIn wsX2_hearTell wsX2_believeFirst := goodIn_r _ [14, 4, 15, 16, 17, 18, 19, 20, 21, 22, 23, 24, 25, 26, 9, 27, 28, 29, 30, 31, 32, 33, 34, 1, 35, 36, 37, 38, 39, 40, 41, 42, 43, 44, 45, 46, 47, 48, 49, 50, 51, 52, 53, 54, 55, 56, 57, 58, 59] (by decide +kernel) (by decide +kernel)
set_option maxRecDepth 20000 in
theorem gX2_hearTell_X2_believeFirst : GoodIn wsX2_hearTell (wsV RX2 187 RX2 yX2_believeFirst wsX2_believeFirst) := goodIn_app (goodIn_of _ (by decide +kernel)) ggX2_hearTell_X2_believeFirst
theorem dX2_hearTell_0 : decode cX2_hearTell 0 = .ok (.aload_n 0, 1) := by decide +kernel
theorem dX2_hearTell_1 : decode cX2_hearTell 1 = .ok (.getfield 48, 3) := by decide +kernel
theorem dX2_hearTell_4 : decode cX2_hearTell 4 = .ok (.iconst 2, 1) := by decide +kernel
theorem dX2_hearTell_5 : decode cX2_hearTell 5 = .ok (.if_icmp .ne 14, 3) := by decide +kernel
theorem dX2_hearTell_8 : decode cX2_hearTell 8 = .ok (.aload_n 0, 1) := by decide +kernel
theorem dX2_hearTell_9 : decode cX2_hearTell 9 = .ok (.getfield 119, 3) := by decide +kernel
theorem dX2_hearTell_12 : decode cX2_hearTell 12 = .ok (.aload_n 1, 1) := by decide +kernel
theorem dX2_hearTell_13 : decode cX2_hearTell 13 = .ok (.getfield 172, 3) := by decide +kernel
theorem dX2_hearTell_16 : decode cX2_hearTell 16 = .ok (.if_icmp .eq 5, 3) := by decide +kernel
theorem dX2_hearTell_19 : decode cX2_hearTell 19 = .ok (.iconst 0, 1) := by decide +kernel
theorem dX2_hearTell_20 : decode cX2_hearTell 20 = .ok (.ireturn, 1) := by decide +kernel
theorem dX2_hearTell_21 : decode cX2_hearTell 21 = .ok (.aload_n 0, 1) := by decide +kernel
theorem dX2_hearTell_22 : decode cX2_hearTell 22 = .ok (.getfield 42, 3) := by decide +kernel
theorem dX2_hearTell_25 : decode cX2_hearTell 25 = .ok (.aload_n 1, 1) := by decide +kernel
theorem dX2_hearTell_26 : decode cX2_hearTell 26 = .ok (.getfield 169, 3) := by decide +kernel
theorem dX2_hearTell_29 : decode cX2_hearTell 29 = .ok (.aload_n 1, 1) := by decide +kernel
theorem dX2_hearTell_30 : decode cX2_hearTell 30 = .ok (.aastore, 1) := by decide +kernel
theorem dX2_hearTell_31 : decode cX2_hearTell 31 = .ok (.aload_n 0, 1) := by decide +kernel
theorem dX2_hearTell_32 : decode cX2_hearTell 32 = .ok (.getfield 42, 3) := by decide +kernel
theorem dX2_hearTell_35 : decode cX2_hearTell 35 = .ok (.invokestatic 74, 3) := by decide +kernel
theorem dX2_hearTell_38 : decode cX2_hearTell 38 = .ok (.aload_n 0, 1) := by decide +kernel
theorem dX2_hearTell_39 : decode cX2_hearTell 39 = .ok (.getfield 22, 3) := by decide +kernel
theorem dX2_hearTell_42 : decode cX2_hearTell 42 = .ok (.if_icmp .le 7, 3) := by decide +kernel
theorem dX2_hearTell_45 : decode cX2_hearTell 45 = .ok (.aload_n 0, 1) := by decide +kernel
theorem dX2_hearTell_46 : decode cX2_hearTell 46 = .ok (.invokevirtual 187, 3) := by decide +kernel
theorem dX2_hearTell_49 : decode cX2_hearTell 49 = .ok (.iconst 1, 1) := by decide +kernel
theorem dX2_hearTell_50 : decode cX2_hearTell 50 = .ok (.ireturn, 1) := by decide +kernel
set_option maxRecDepth 20000 in
theorem ggX2_believeFirst_X2_firstOf : GoodIn wsX2_believeFirst wsX2_firstOf := goodIn_r _ [15, 16, 24, 25, 26, 27, 28, 29, 30, 31, 32, 33, 34, 35, 36, 37, 38, 39, 40] (by decide +kernel) (by decide +kernel)
set_option maxRecDepth 20000 in
theorem gX2_believeFirst_X2_firstOf : GoodIn wsX2_believeFirst (wsV RX2 184 RX2 yX2_firstOf wsX2_firstOf) := goodIn_app (goodIn_of _ (by decide +kernel)) ggX2_believeFirst_X2_firstOf
set_option maxRecDepth 20000 in
theorem ggX2_believeFirst_X2_settleIn : GoodIn wsX2_believeFirst wsX2_settleIn := goodIn_r _ [20, 21, 22, 23, 24, 25, 26, 27, 28, 29, 30, 31, 32, 33, 34, 35, 36, 37, 38, 39, 40] (by decide +kernel) (by decide +kernel)
set_option maxRecDepth 20000 in
theorem gX2_believeFirst_X2_settleIn : GoodIn wsX2_believeFirst (wsV RX2 162 RX2 yX2_settleIn wsX2_settleIn) := goodIn_app (goodIn_of _ (by decide +kernel)) ggX2_believeFirst_X2_settleIn
theorem dX2_believeFirst_0 : decode cX2_believeFirst 0 = .ok (.iconst 0, 1) := by decide +kernel
theorem dX2_believeFirst_1 : decode cX2_believeFirst 1 = .ok (.istore_n 1, 1) := by decide +kernel
theorem dX2_believeFirst_2 : decode cX2_believeFirst 2 = .ok (.aload_n 0, 1) := by decide +kernel
theorem dX2_believeFirst_3 : decode cX2_believeFirst 3 = .ok (.getfield 42, 3) := by decide +kernel
theorem dX2_believeFirst_6 : decode cX2_believeFirst 6 = .ok (.astore_n 2, 1) := by decide +kernel
theorem dX2_believeFirst_7 : decode cX2_believeFirst 7 = .ok (.aload_n 2, 1) := by decide +kernel
theorem dX2_believeFirst_8 : decode cX2_believeFirst 8 = .ok (.arraylength, 1) := by decide +kernel
theorem dX2_believeFirst_9 : decode cX2_believeFirst 9 = .ok (.istore_n 3, 1) := by decide +kernel
theorem dX2_believeFirst_10 : decode cX2_believeFirst 10 = .ok (.iconst 0, 1) := by decide +kernel
theorem dX2_believeFirst_11 : decode cX2_believeFirst 11 = .ok (.istore 4, 2) := by decide +kernel
theorem dX2_believeFirst_13 : decode cX2_believeFirst 13 = .ok (.iload 4, 2) := by decide +kernel
theorem dX2_believeFirst_15 : decode cX2_believeFirst 15 = .ok (.iload_n 3, 1) := by decide +kernel
theorem dX2_believeFirst_16 : decode cX2_believeFirst 16 = .ok (.if_icmp .ge 30, 3) := by decide +kernel
theorem dX2_believeFirst_19 : decode cX2_believeFirst 19 = .ok (.aload_n 2, 1) := by decide +kernel
theorem dX2_believeFirst_20 : decode cX2_believeFirst 20 = .ok (.iload 4, 2) := by decide +kernel
theorem dX2_believeFirst_22 : decode cX2_believeFirst 22 = .ok (.aaload, 1) := by decide +kernel
theorem dX2_believeFirst_23 : decode cX2_believeFirst 23 = .ok (.astore 5, 2) := by decide +kernel
theorem dX2_believeFirst_25 : decode cX2_believeFirst 25 = .ok (.aload 5, 2) := by decide +kernel
theorem dX2_believeFirst_27 : decode cX2_believeFirst 27 = .ok (.ifnull 13, 3) := by decide +kernel
theorem dX2_believeFirst_30 : decode cX2_believeFirst 30 = .ok (.iload_n 1, 1) := by decide +kernel
theorem dX2_believeFirst_31 : decode cX2_believeFirst 31 = .ok (.aload 5, 2) := by decide +kernel
theorem dX2_believeFirst_33 : decode cX2_believeFirst 33 = .ok (.getfield 138, 3) := by decide +kernel
theorem dX2_believeFirst_36 : decode cX2_believeFirst 36 = .ok (.invokestatic 153, 3) := by decide +kernel
theorem dX2_believeFirst_39 : decode cX2_believeFirst 39 = .ok (.istore_n 1, 1) := by decide +kernel
theorem dX2_believeFirst_40 : decode cX2_believeFirst 40 = .ok (.iinc 4 1, 3) := by decide +kernel
theorem dX2_believeFirst_43 : decode cX2_believeFirst 43 = .ok (.goto (-30), 3) := by decide +kernel
theorem dX2_believeFirst_46 : decode cX2_believeFirst 46 = .ok (.aload_n 0, 1) := by decide +kernel
theorem dX2_believeFirst_47 : decode cX2_believeFirst 47 = .ok (.getfield 42, 3) := by decide +kernel
theorem dX2_believeFirst_50 : decode cX2_believeFirst 50 = .ok (.aload_n 0, 1) := by decide +kernel
theorem dX2_believeFirst_51 : decode cX2_believeFirst 51 = .ok (.iload_n 1, 1) := by decide +kernel
theorem dX2_believeFirst_52 : decode cX2_believeFirst 52 = .ok (.invokevirtual 184, 3) := by decide +kernel
theorem dX2_believeFirst_55 : decode cX2_believeFirst 55 = .ok (.aaload, 1) := by decide +kernel
theorem dX2_believeFirst_56 : decode cX2_believeFirst 56 = .ok (.astore_n 2, 1) := by decide +kernel
theorem dX2_believeFirst_57 : decode cX2_believeFirst 57 = .ok (.aload_n 2, 1) := by decide +kernel
theorem dX2_believeFirst_58 : decode cX2_believeFirst 58 = .ok (.ifnull 32, 3) := by decide +kernel
theorem dX2_believeFirst_61 : decode cX2_believeFirst 61 = .ok (.aload_n 2, 1) := by decide +kernel
theorem dX2_believeFirst_62 : decode cX2_believeFirst 62 = .ok (.getfield 138, 3) := by decide +kernel
theorem dX2_believeFirst_65 : decode cX2_believeFirst 65 = .ok (.iload_n 1, 1) := by decide +kernel
theorem dX2_believeFirst_66 : decode cX2_believeFirst 66 = .ok (.if_icmp .ne 24, 3) := by decide +kernel
theorem dX2_believeFirst_69 : decode cX2_believeFirst 69 = .ok (.aload_n 0, 1) := by decide +kernel
theorem dX2_believeFirst_70 : decode cX2_believeFirst 70 = .ok (.aload_n 2, 1) := by decide +kernel
theorem dX2_believeFirst_71 : decode cX2_believeFirst 71 = .ok (.getfield 151, 3) := by decide +kernel
theorem dX2_believeFirst_74 : decode cX2_believeFirst 74 = .ok (.putfield 33, 3) := by decide +kernel
theorem dX2_believeFirst_77 : decode cX2_believeFirst 77 = .ok (.aload_n 0, 1) := by decide +kernel
theorem dX2_believeFirst_78 : decode cX2_believeFirst 78 = .ok (.aload_n 2, 1) := by decide +kernel
theorem dX2_believeFirst_79 : decode cX2_believeFirst 79 = .ok (.getfield 152, 3) := by decide +kernel
theorem dX2_believeFirst_82 : decode cX2_believeFirst 82 = .ok (.putfield 62, 3) := by decide +kernel
theorem dX2_believeFirst_85 : decode cX2_believeFirst 85 = .ok (.aload_n 0, 1) := by decide +kernel
theorem dX2_believeFirst_86 : decode cX2_believeFirst 86 = .ok (.iload_n 1, 1) := by decide +kernel
theorem dX2_believeFirst_87 : decode cX2_believeFirst 87 = .ok (.invokevirtual 162, 3) := by decide +kernel
theorem dX2_believeFirst_90 : decode cX2_believeFirst 90 = .ok (.return_, 1) := by decide +kernel
set_option maxRecDepth 20000 in
theorem ggX2_castVote_X2_firstOf : GoodIn wsX2_castVote wsX2_firstOf := goodIn_r _ [11, 12, 48, 49, 50, 51, 52, 53, 54, 55, 56, 57, 58, 59, 60, 61, 62, 63, 64] (by decide +kernel) (by decide +kernel)
set_option maxRecDepth 20000 in
theorem gX2_castVote_X2_firstOf : GoodIn wsX2_castVote (wsV RX2 184 RX2 yX2_firstOf wsX2_firstOf) := goodIn_app (goodIn_of _ (by decide +kernel)) ggX2_castVote_X2_firstOf
set_option maxRecDepth 20000 in
theorem ggX2_castVote_X2_write : GoodIn wsX2_castVote wsX2_write := goodIn_r _ [16, 17, 18, 19, 5, 2, 20, 21, 22, 23, 24, 25, 26, 27, 28, 29, 30, 31, 32, 33, 34, 35, 65, 66, 67, 68, 69, 70, 71, 72, 48, 49, 50, 51, 52, 53, 54, 55, 56, 57, 58, 59, 60, 61, 62, 63, 64] (by decide +kernel) (by decide +kernel)
set_option maxRecDepth 20000 in
theorem gX2_castVote_X2_write : GoodIn wsX2_castVote (wsV RX2 96 RX2 yX2_write wsX2_write) := goodIn_app (goodIn_of _ (by decide +kernel)) ggX2_castVote_X2_write
set_option maxRecDepth 20000 in
theorem ggX2_castVote_X2_isFirst : GoodIn wsX2_castVote wsX2_isFirst := goodIn_r _ [39, 2, 5, 7, 8, 9, 10, 11, 12, 48, 49, 50, 51, 52, 53, 54, 55, 56, 57, 58, 59, 60, 61, 62, 63, 64] (by decide +kernel) (by decide +kernel)
set_option maxRecDepth 20000 in
theorem gX2_castVote_X2_isFirst : GoodIn wsX2_castVote (wsV RX2 82 RX2 yX2_isFirst wsX2_isFirst) := goodIn_app (goodIn_of _ (by decide +kernel)) ggX2_castVote_X2_isFirst
set_option maxRecDepth 20000 in
theorem ggX2_castVote_X3_add : GoodIn wsX2_castVote wsX3_add := goodIn_r _ [44, 45, 46, 47, 73, 74, 75] (by decide +kernel) (by decide +kernel)
set_option maxRecDepth 20000 in
theorem gX2_castVote_X3_add : GoodIn wsX2_castVote (wsV RX2 100 RX3 yX3_add wsX3_add) := goodIn_app (goodIn_of _ (by decide +kernel)) ggX2_castVote_X3_add
theorem dX2_castVote_0 : decode cX2_castVote 0 = .ok (.aload_n 0, 1) := by decide +kernel
theorem dX2_castVote_1 : decode cX2_castVote 1 = .ok (.iconst 1, 1) := by decide +kernel
theorem dX2_castVote_2 : decode cX2_castVote 2 = .ok (.putfield 78, 3) := by decide +kernel
theorem dX2_castVote_5 : decode cX2_castVote 5 = .ok (.aload_n 0, 1) := by decide +kernel
theorem dX2_castVote_6 : decode cX2_castVote 6 = .ok (.aload_n 0, 1) := by decide +kernel
theorem dX2_castVote_7 : decode cX2_castVote 7 = .ok (.aload_n 0, 1) := by decide +kernel
theorem dX2_castVote_8 : decode cX2_castVote 8 = .ok (.getfield 51, 3) := by decide +kernel
theorem dX2_castVote_11 : decode cX2_castVote 11 = .ok (.invokevirtual 184, 3) := by decide +kernel
theorem dX2_castVote_14 : decode cX2_castVote 14 = .ok (.iconst 4, 1) := by decide +kernel
theorem dX2_castVote_15 : decode cX2_castVote 15 = .ok (.aload_n 0, 1) := by decide +kernel
theorem dX2_castVote_16 : decode cX2_castVote 16 = .ok (.getfield 54, 3) := by decide +kernel
theorem dX2_castVote_19 : decode cX2_castVote 19 = .ok (.invokevirtual 96, 3) := by decide +kernel
theorem dX2_castVote_22 : decode cX2_castVote 22 = .ok (.astore_n 1, 1) := by decide +kernel
theorem dX2_castVote_23 : decode cX2_castVote 23 = .ok (.aload_n 0, 1) := by decide +kernel
theorem dX2_castVote_24 : decode cX2_castVote 24 = .ok (.invokevirtual 82, 3) := by decide +kernel
theorem dX2_castVote_27 : decode cX2_castVote 27 = .ok (.ifCond .eq 16, 3) := by decide +kernel
theorem dX2_castVote_30 : decode cX2_castVote 30 = .ok (.aload_n 0, 1) := by decide +kernel
theorem dX2_castVote_31 : decode cX2_castVote 31 = .ok (.getfield 38, 3) := by decide +kernel
theorem dX2_castVote_34 : decode cX2_castVote 34 = .ok (.aload_n 0, 1) := by decide +kernel
theorem dX2_castVote_35 : decode cX2_castVote 35 = .ok (.getfield 15, 3) := by decide +kernel
theorem dX2_castVote_38 : decode cX2_castVote 38 = .ok (.aload_n 1, 1) := by decide +kernel
theorem dX2_castVote_39 : decode cX2_castVote 39 = .ok (.aastore, 1) := by decide +kernel
theorem dX2_castVote_40 : decode cX2_castVote 40 = .ok (.goto 11, 3) := by decide +kernel
theorem dX2_castVote_43 : decode cX2_castVote 43 = .ok (.aload_n 0, 1) := by decide +kernel
theorem dX2_castVote_44 : decode cX2_castVote 44 = .ok (.getfield 25, 3) := by decide +kernel
theorem dX2_castVote_47 : decode cX2_castVote 47 = .ok (.aload_n 1, 1) := by decide +kernel
theorem dX2_castVote_48 : decode cX2_castVote 48 = .ok (.invokevirtual 100, 3) := by decide +kernel
theorem dX2_castVote_51 : decode cX2_castVote 51 = .ok (.return_, 1) := by decide +kernel
set_option maxRecDepth 20000 in
theorem ggX2_leadIfElected_X2_countLetters : GoodIn wsX2_leadIfElected wsX2_countLetters := goodIn_r _ [20] (by decide +kernel) (by decide +kernel)
set_option maxRecDepth 20000 in
theorem gX2_leadIfElected_X2_countLetters : GoodIn wsX2_leadIfElected (va_wsS RX2 74 yX2_countLetters wsX2_countLetters) := goodIn_app (goodIn_of _ (by decide +kernel)) ggX2_leadIfElected_X2_countLetters
set_option maxRecDepth 20000 in
theorem ggX2_leadIfElected_X2_isAhead : GoodIn wsX2_leadIfElected wsX2_isAhead := goodIn_r _ [23, 24, 9, 25, 26, 27, 28, 29, 30, 93, 94, 95, 96, 97, 98, 99, 100, 101] (by decide +kernel) (by decide +kernel)
set_option maxRecDepth 20000 in
theorem gX2_leadIfElected_X2_isAhead : GoodIn wsX2_leadIfElected (va_wsS RX2 190 yX2_isAhead wsX2_isAhead) := goodIn_app (goodIn_of _ (by decide +kernel)) ggX2_leadIfElected_X2_isAhead
set_option maxRecDepth 20000 in
theorem ggX2_leadIfElected_X1_size : GoodIn wsX2_leadIfElected wsX1_size := goodIn_r _ [29, 30, 101] (by decide +kernel) (by decide +kernel)
set_option maxRecDepth 20000 in
theorem gX2_leadIfElected_X1_size : GoodIn wsX2_leadIfElected (wsV RX2 57 RX1 yX1_size wsX1_size) := goodIn_app (goodIn_of _ (by decide +kernel)) ggX2_leadIfElected_X1_size
set_option maxRecDepth 20000 in
theorem ggX2_leadIfElected_X2_settleIn : GoodIn wsX2_leadIfElected wsX2_settleIn := goodIn_r _ [34, 15, 35, 36, 76, 77, 78, 79, 80, 81, 82, 83, 84, 85, 86, 87, 88, 89, 90, 91, 92] (by decide +kernel) (by decide +kernel)
set_option maxRecDepth 20000 in
theorem gX2_leadIfElected_X2_settleIn : GoodIn wsX2_leadIfElected (wsV RX2 162 RX2 yX2_settleIn wsX2_settleIn) := goodIn_app (goodIn_of _ (by decide +kernel)) ggX2_leadIfElected_X2_settleIn
set_option maxRecDepth 20000 in
theorem ggX2_leadIfElected_J7_fill_53178 : GoodIn wsX2_leadIfElected wsJ7_fill_53178 := goodIn_r _ [40] (by decide +kernel) (by decide +kernel)
set_option maxRecDepth 20000 in
theorem gX2_leadIfElected_J7_fill_53178 : GoodIn wsX2_leadIfElected (va_wsS RX2 86 yJ7_fill_53178 wsJ7_fill_53178) := goodIn_app (goodIn_of _ (by decide +kernel)) ggX2_leadIfElected_J7_fill_53178
set_option maxRecDepth 20000 in
theorem ggX2_leadIfElected_X2_postToAll : GoodIn wsX2_leadIfElected wsX2_postToAll := goodIn_r _ [44, 45, 2, 46, 47, 48, 49, 19, 50, 51, 52, 53, 15, 10, 54, 14, 55, 56, 57, 58, 59, 60, 61, 62, 63, 64, 65, 66, 67, 68, 69, 70, 71, 72, 73, 74, 75, 76, 77, 78, 79, 80, 81, 82, 83, 84, 85, 86, 87, 88, 89, 90, 91, 92, 93, 94, 95, 96, 97, 98, 99, 100, 102, 103, 104] (by decide +kernel) (by decide +kernel)
set_option maxRecDepth 20000 in
theorem gX2_leadIfElected_X2_postToAll : GoodIn wsX2_leadIfElected (wsV RX2 109 RX2 yX2_postToAll wsX2_postToAll) := goodIn_app (goodIn_of _ (by decide +kernel)) ggX2_leadIfElected_X2_postToAll
theorem dX2_leadIfElected_0 : decode cX2_leadIfElected 0 = .ok (.aload_n 0, 1) := by decide +kernel
theorem dX2_leadIfElected_1 : decode cX2_leadIfElected 1 = .ok (.getfield 38, 3) := by decide +kernel
theorem dX2_leadIfElected_4 : decode cX2_leadIfElected 4 = .ok (.aload_n 0, 1) := by decide +kernel
theorem dX2_leadIfElected_5 : decode cX2_leadIfElected 5 = .ok (.getfield 15, 3) := by decide +kernel
theorem dX2_leadIfElected_8 : decode cX2_leadIfElected 8 = .ok (.aaload, 1) := by decide +kernel
theorem dX2_leadIfElected_9 : decode cX2_leadIfElected 9 = .ok (.ifnull 17, 3) := by decide +kernel
theorem dX2_leadIfElected_12 : decode cX2_leadIfElected 12 = .ok (.aload_n 0, 1) := by decide +kernel
theorem dX2_leadIfElected_13 : decode cX2_leadIfElected 13 = .ok (.getfield 38, 3) := by decide +kernel
theorem dX2_leadIfElected_16 : decode cX2_leadIfElected 16 = .ok (.invokestatic 74, 3) := by decide +kernel
theorem dX2_leadIfElected_19 : decode cX2_leadIfElected 19 = .ok (.aload_n 0, 1) := by decide +kernel
theorem dX2_leadIfElected_20 : decode cX2_leadIfElected 20 = .ok (.getfield 22, 3) := by decide +kernel
theorem dX2_leadIfElected_23 : decode cX2_leadIfElected 23 = .ok (.if_icmp .gt 4, 3) := by decide +kernel
theorem dX2_leadIfElected_26 : decode cX2_leadIfElected 26 = .ok (.return_, 1) := by decide +kernel
theorem dX2_leadIfElected_27 : decode cX2_leadIfElected 27 = .ok (.aconst_null, 1) := by decide +kernel
theorem dX2_leadIfElected_28 : decode cX2_leadIfElected 28 = .ok (.astore_n 1, 1) := by decide +kernel
theorem dX2_leadIfElected_29 : decode cX2_leadIfElected 29 = .ok (.iconst 0, 1) := by decide +kernel
theorem dX2_leadIfElected_30 : decode cX2_leadIfElected 30 = .ok (.istore_n 2, 1) := by decide +kernel
theorem dX2_leadIfElected_31 : decode cX2_leadIfElected 31 = .ok (.aload_n 0, 1) := by decide +kernel
theorem dX2_leadIfElected_32 : decode cX2_leadIfElected 32 = .ok (.getfield 38, 3) := by decide +kernel
theorem dX2_leadIfElected_35 : decode cX2_leadIfElected 35 = .ok (.astore_n 3, 1) := by decide +kernel
theorem dX2_leadIfElected_36 : decode cX2_leadIfElected 36 = .ok (.aload_n 3, 1) := by decide +kernel
theorem dX2_leadIfElected_37 : decode cX2_leadIfElected 37 = .ok (.arraylength, 1) := by decide +kernel
theorem dX2_leadIfElected_38 : decode cX2_leadIfElected 38 = .ok (.istore 4, 2) := by decide +kernel
theorem dX2_leadIfElected_40 : decode cX2_leadIfElected 40 = .ok (.iconst 0, 1) := by decide +kernel
theorem dX2_leadIfElected_41 : decode cX2_leadIfElected 41 = .ok (.istore 5, 2) := by decide +kernel
theorem dX2_leadIfElected_43 : decode cX2_leadIfElected 43 = .ok (.iload 5, 2) := by decide +kernel
theorem dX2_leadIfElected_45 : decode cX2_leadIfElected 45 = .ok (.iload 4, 2) := by decide +kernel
theorem dX2_leadIfElected_47 : decode cX2_leadIfElected 47 = .ok (.if_icmp .ge 50, 3) := by decide +kernel
theorem dX2_leadIfElected_50 : decode cX2_leadIfElected 50 = .ok (.aload_n 3, 1) := by decide +kernel
theorem dX2_leadIfElected_51 : decode cX2_leadIfElected 51 = .ok (.iload 5, 2) := by decide +kernel
theorem dX2_leadIfElected_53 : decode cX2_leadIfElected 53 = .ok (.aaload, 1) := by decide +kernel
theorem dX2_leadIfElected_54 : decode cX2_leadIfElected 54 = .ok (.astore 6, 2) := by decide +kernel
theorem dX2_leadIfElected_56 : decode cX2_leadIfElected 56 = .ok (.aload 6, 2) := by decide +kernel
theorem dX2_leadIfElected_58 : decode cX2_leadIfElected 58 = .ok (.ifnull 33, 3) := by decide +kernel
theorem dX2_leadIfElected_61 : decode cX2_leadIfElected 61 = .ok (.aload_n 1, 1) := by decide +kernel
theorem dX2_leadIfElected_62 : decode cX2_leadIfElected 62 = .ok (.ifnull 12, 3) := by decide +kernel
theorem dX2_leadIfElected_65 : decode cX2_leadIfElected 65 = .ok (.aload 6, 2) := by decide +kernel
theorem dX2_leadIfElected_67 : decode cX2_leadIfElected 67 = .ok (.aload_n 1, 1) := by decide +kernel
theorem dX2_leadIfElected_68 : decode cX2_leadIfElected 68 = .ok (.invokestatic 190, 3) := by decide +kernel
theorem dX2_leadIfElected_71 : decode cX2_leadIfElected 71 = .ok (.ifCond .eq 8, 3) := by decide +kernel
theorem dX2_leadIfElected_74 : decode cX2_leadIfElected 74 = .ok (.aload 6, 2) := by decide +kernel
theorem dX2_leadIfElected_76 : decode cX2_leadIfElected 76 = .ok (.goto 4, 3) := by decide +kernel
theorem dX2_leadIfElected_79 : decode cX2_leadIfElected 79 = .ok (.aload_n 1, 1) := by decide +kernel
theorem dX2_leadIfElected_80 : decode cX2_leadIfElected 80 = .ok (.astore_n 1, 1) := by decide +kernel
theorem dX2_leadIfElected_81 : decode cX2_leadIfElected 81 = .ok (.iload_n 2, 1) := by decide +kernel
theorem dX2_leadIfElected_82 : decode cX2_leadIfElected 82 = .ok (.aload 6, 2) := by decide +kernel
theorem dX2_leadIfElected_84 : decode cX2_leadIfElected 84 = .ok (.getfield 152, 3) := by decide +kernel
theorem dX2_leadIfElected_87 : decode cX2_leadIfElected 87 = .ok (.invokestatic 153, 3) := by decide +kernel
theorem dX2_leadIfElected_90 : decode cX2_leadIfElected 90 = .ok (.istore_n 2, 1) := by decide +kernel
theorem dX2_leadIfElected_91 : decode cX2_leadIfElected 91 = .ok (.iinc 5 1, 3) := by decide +kernel
theorem dX2_leadIfElected_94 : decode cX2_leadIfElected 94 = .ok (.goto (-51), 3) := by decide +kernel
theorem dX2_leadIfElected_97 : decode cX2_leadIfElected 97 = .ok (.aload_n 1, 1) := by decide +kernel
theorem dX2_leadIfElected_98 : decode cX2_leadIfElected 98 = .ok (.ifnonnull 4, 3) := by decide +kernel
theorem dX2_leadIfElected_101 : decode cX2_leadIfElected 101 = .ok (.return_, 1) := by decide +kernel
theorem dX2_leadIfElected_102 : decode cX2_leadIfElected 102 = .ok (.aload_n 0, 1) := by decide +kernel
theorem dX2_leadIfElected_103 : decode cX2_leadIfElected 103 = .ok (.aload_n 1, 1) := by decide +kernel
theorem dX2_leadIfElected_104 : decode cX2_leadIfElected 104 = .ok (.getfield 151, 3) := by decide +kernel
theorem dX2_leadIfElected_107 : decode cX2_leadIfElected 107 = .ok (.putfield 33, 3) := by decide +kernel
theorem dX2_leadIfElected_110 : decode cX2_leadIfElected 110 = .ok (.aload_n 0, 1) := by decide +kernel
theorem dX2_leadIfElected_111 : decode cX2_leadIfElected 111 = .ok (.iload_n 2, 1) := by decide +kernel
theorem dX2_leadIfElected_112 : decode cX2_leadIfElected 112 = .ok (.aload_n 0, 1) := by decide +kernel
theorem dX2_leadIfElected_113 : decode cX2_leadIfElected 113 = .ok (.getfield 33, 3) := by decide +kernel
theorem dX2_leadIfElected_116 : decode cX2_leadIfElected 116 = .ok (.invokevirtual 57, 3) := by decide +kernel
theorem dX2_leadIfElected_119 : decode cX2_leadIfElected 119 = .ok (.invokestatic 159, 3) := by decide +kernel
theorem dX2_leadIfElected_122 : decode cX2_leadIfElected 122 = .ok (.putfield 62, 3) := by decide +kernel
theorem dX2_leadIfElected_125 : decode cX2_leadIfElected 125 = .ok (.aload_n 0, 1) := by decide +kernel
theorem dX2_leadIfElected_126 : decode cX2_leadIfElected 126 = .ok (.aload_n 0, 1) := by decide +kernel
theorem dX2_leadIfElected_127 : decode cX2_leadIfElected 127 = .ok (.getfield 51, 3) := by decide +kernel
theorem dX2_leadIfElected_130 : decode cX2_leadIfElected 130 = .ok (.invokevirtual 162, 3) := by decide +kernel
theorem dX2_leadIfElected_133 : decode cX2_leadIfElected 133 = .ok (.aload_n 0, 1) := by decide +kernel
theorem dX2_leadIfElected_134 : decode cX2_leadIfElected 134 = .ok (.getfield 45, 3) := by decide +kernel
theorem dX2_leadIfElected_137 : decode cX2_leadIfElected 137 = .ok (.iconst 0, 1) := by decide +kernel
theorem dX2_leadIfElected_138 : decode cX2_leadIfElected 138 = .ok (.invokestatic 86, 3) := by decide +kernel
theorem dX2_leadIfElected_141 : decode cX2_leadIfElected 141 = .ok (.aload_n 0, 1) := by decide +kernel
theorem dX2_leadIfElected_142 : decode cX2_leadIfElected 142 = .ok (.iconst 5, 1) := by decide +kernel
theorem dX2_leadIfElected_143 : decode cX2_leadIfElected 143 = .ok (.iconst 0, 1) := by decide +kernel
theorem dX2_leadIfElected_144 : decode cX2_leadIfElected 144 = .ok (.invokevirtual 109, 3) := by decide +kernel
theorem dX2_leadIfElected_147 : decode cX2_leadIfElected 147 = .ok (.return_, 1) := by decide +kernel
set_option maxRecDepth 20000 in
theorem ggX2_isAhead_X1_size : GoodIn wsX2_isAhead wsX1_size := goodIn_r _ [7, 8, 17] (by decide +kernel) (by decide +kernel)
set_option maxRecDepth 20000 in
theorem gX2_isAhead_X1_size : GoodIn wsX2_isAhead (wsV RX2 57 RX1 yX1_size wsX1_size) := goodIn_app (goodIn_of _ (by decide +kernel)) ggX2_isAhead_X1_size
theorem dX2_isAhead_0 : decode cX2_isAhead 0 = .ok (.aload_n 0, 1) := by decide +kernel
theorem dX2_isAhead_1 : decode cX2_isAhead 1 = .ok (.getfield 172, 3) := by decide +kernel
theorem dX2_isAhead_4 : decode cX2_isAhead 4 = .ok (.aload_n 1, 1) := by decide +kernel
theorem dX2_isAhead_5 : decode cX2_isAhead 5 = .ok (.getfield 172, 3) := by decide +kernel
theorem dX2_isAhead_8 : decode cX2_isAhead 8 = .ok (.if_icmp .eq 20, 3) := by decide +kernel
theorem dX2_isAhead_11 : decode cX2_isAhead 11 = .ok (.aload_n 0, 1) := by decide +kernel
theorem dX2_isAhead_12 : decode cX2_isAhead 12 = .ok (.getfield 172, 3) := by decide +kernel
theorem dX2_isAhead_15 : decode cX2_isAhead 15 = .ok (.aload_n 1, 1) := by decide +kernel
theorem dX2_isAhead_16 : decode cX2_isAhead 16 = .ok (.getfield 172, 3) := by decide +kernel
theorem dX2_isAhead_19 : decode cX2_isAhead 19 = .ok (.if_icmp .le 7, 3) := by decide +kernel
theorem dX2_isAhead_22 : decode cX2_isAhead 22 = .ok (.iconst 1, 1) := by decide +kernel
theorem dX2_isAhead_23 : decode cX2_isAhead 23 = .ok (.goto 4, 3) := by decide +kernel
theorem dX2_isAhead_26 : decode cX2_isAhead 26 = .ok (.iconst 0, 1) := by decide +kernel
theorem dX2_isAhead_27 : decode cX2_isAhead 27 = .ok (.ireturn, 1) := by decide +kernel
theorem dX2_isAhead_28 : decode cX2_isAhead 28 = .ok (.aload_n 0, 1) := by decide +kernel
theorem dX2_isAhead_29 : decode cX2_isAhead 29 = .ok (.getfield 151, 3) := by decide +kernel
theorem dX2_isAhead_32 : decode cX2_isAhead 32 = .ok (.invokevirtual 57, 3) := by decide +kernel
theorem dX2_isAhead_35 : decode cX2_isAhead 35 = .ok (.aload_n 1, 1) := by decide +kernel
theorem dX2_isAhead_36 : decode cX2_isAhead 36 = .ok (.getfield 151, 3) := by decide +kernel
theorem dX2_isAhead_39 : decode cX2_isAhead 39 = .ok (.invokevirtual 57, 3) := by decide +kernel
theorem dX2_isAhead_42 : decode cX2_isAhead 42 = .ok (.if_icmp .le 7, 3) := by decide +kernel
theorem dX2_isAhead_45 : decode cX2_isAhead 45 = .ok (.iconst 1, 1) := by decide +kernel
theorem dX2_isAhead_46 : decode cX2_isAhead 46 = .ok (.goto 4, 3) := by decide +kernel
theorem dX2_isAhead_49 : decode cX2_isAhead 49 = .ok (.iconst 0, 1) := by decide +kernel
theorem dX2_isAhead_50 : decode cX2_isAhead 50 = .ok (.ireturn, 1) := by decide +kernel
theorem dX2_settleIn_0 : decode cX2_settleIn 0 = .ok (.aload_n 0, 1) := by decide +kernel
theorem dX2_settleIn_1 : decode cX2_settleIn 1 = .ok (.iload_n 1, 1) := by decide +kernel
theorem dX2_settleIn_2 : decode cX2_settleIn 2 = .ok (.putfield 51, 3) := by decide +kernel
theorem dX2_settleIn_5 : decode cX2_settleIn 5 = .ok (.aload_n 0, 1) := by decide +kernel
theorem dX2_settleIn_6 : decode cX2_settleIn 6 = .ok (.iload_n 1, 1) := by decide +kernel
theorem dX2_settleIn_7 : decode cX2_settleIn 7 = .ok (.putfield 54, 3) := by decide +kernel
theorem dX2_settleIn_10 : decode cX2_settleIn 10 = .ok (.aload_n 0, 1) := by decide +kernel
theorem dX2_settleIn_11 : decode cX2_settleIn 11 = .ok (.iconst 0, 1) := by decide +kernel
theorem dX2_settleIn_12 : decode cX2_settleIn 12 = .ok (.putfield 48, 3) := by decide +kernel
theorem dX2_settleIn_15 : decode cX2_settleIn 15 = .ok (.return_, 1) := by decide +kernel
set_option maxRecDepth 20000 in
theorem ggX2_heldByEnough_X2_countTold : GoodIn wsX2_heldByEnough wsX2_countTold := goodIn_r _ [7, 1, 8, 9, 10, 11, 12, 13, 14, 15, 16, 17, 18, 19, 20, 21, 22, 23, 24] (by decide +kernel) (by decide +kernel)
set_option maxRecDepth 20000 in
theorem gX2_heldByEnough_X2_countTold : GoodIn wsX2_heldByEnough (wsV RX2 194 RX2 yX2_countTold wsX2_countTold) := goodIn_app (goodIn_of _ (by decide +kernel)) ggX2_heldByEnough_X2_countTold
theorem dX2_heldByEnough_0 : decode cX2_heldByEnough 0 = .ok (.iconst 0, 1) := by decide +kernel
theorem dX2_heldByEnough_1 : decode cX2_heldByEnough 1 = .ok (.istore_n 1, 1) := by decide +kernel
theorem dX2_heldByEnough_2 : decode cX2_heldByEnough 2 = .ok (.aload_n 0, 1) := by decide +kernel
theorem dX2_heldByEnough_3 : decode cX2_heldByEnough 3 = .ok (.getfield 45, 3) := by decide +kernel
theorem dX2_heldByEnough_6 : decode cX2_heldByEnough 6 = .ok (.astore_n 2, 1) := by decide +kernel
theorem dX2_heldByEnough_7 : decode cX2_heldByEnough 7 = .ok (.aload_n 2, 1) := by decide +kernel
theorem dX2_heldByEnough_8 : decode cX2_heldByEnough 8 = .ok (.arraylength, 1) := by decide +kernel
theorem dX2_heldByEnough_9 : decode cX2_heldByEnough 9 = .ok (.istore_n 3, 1) := by decide +kernel
theorem dX2_heldByEnough_10 : decode cX2_heldByEnough 10 = .ok (.iconst 0, 1) := by decide +kernel
theorem dX2_heldByEnough_11 : decode cX2_heldByEnough 11 = .ok (.istore 4, 2) := by decide +kernel
theorem dX2_heldByEnough_13 : decode cX2_heldByEnough 13 = .ok (.iload 4, 2) := by decide +kernel
theorem dX2_heldByEnough_15 : decode cX2_heldByEnough 15 = .ok (.iload_n 3, 1) := by decide +kernel
theorem dX2_heldByEnough_16 : decode cX2_heldByEnough 16 = .ok (.if_icmp .ge 37, 3) := by decide +kernel
theorem dX2_heldByEnough_19 : decode cX2_heldByEnough 19 = .ok (.aload_n 2, 1) := by decide +kernel
theorem dX2_heldByEnough_20 : decode cX2_heldByEnough 20 = .ok (.iload 4, 2) := by decide +kernel
theorem dX2_heldByEnough_22 : decode cX2_heldByEnough 22 = .ok (.iaload, 1) := by decide +kernel
theorem dX2_heldByEnough_23 : decode cX2_heldByEnough 23 = .ok (.istore 5, 2) := by decide +kernel
theorem dX2_heldByEnough_25 : decode cX2_heldByEnough 25 = .ok (.iload 5, 2) := by decide +kernel
theorem dX2_heldByEnough_27 : decode cX2_heldByEnough 27 = .ok (.iload_n 1, 1) := by decide +kernel
theorem dX2_heldByEnough_28 : decode cX2_heldByEnough 28 = .ok (.if_icmp .le 19, 3) := by decide +kernel
theorem dX2_heldByEnough_31 : decode cX2_heldByEnough 31 = .ok (.aload_n 0, 1) := by decide +kernel
theorem dX2_heldByEnough_32 : decode cX2_heldByEnough 32 = .ok (.iload 5, 2) := by decide +kernel
theorem dX2_heldByEnough_34 : decode cX2_heldByEnough 34 = .ok (.invokevirtual 194, 3) := by decide +kernel
theorem dX2_heldByEnough_37 : decode cX2_heldByEnough 37 = .ok (.aload_n 0, 1) := by decide +kernel
theorem dX2_heldByEnough_38 : decode cX2_heldByEnough 38 = .ok (.getfield 22, 3) := by decide +kernel
theorem dX2_heldByEnough_41 : decode cX2_heldByEnough 41 = .ok (.if_icmp .lt 6, 3) := by decide +kernel
theorem dX2_heldByEnough_44 : decode cX2_heldByEnough 44 = .ok (.iload 5, 2) := by decide +kernel
theorem dX2_heldByEnough_46 : decode cX2_heldByEnough 46 = .ok (.istore_n 1, 1) := by decide +kernel
theorem dX2_heldByEnough_47 : decode cX2_heldByEnough 47 = .ok (.iinc 4 1, 3) := by decide +kernel
theorem dX2_heldByEnough_50 : decode cX2_heldByEnough 50 = .ok (.goto (-37), 3) := by decide +kernel
theorem dX2_heldByEnough_53 : decode cX2_heldByEnough 53 = .ok (.iload_n 1, 1) := by decide +kernel
theorem dX2_heldByEnough_54 : decode cX2_heldByEnough 54 = .ok (.ireturn, 1) := by decide +kernel
theorem dX2_countTold_0 : decode cX2_countTold 0 = .ok (.iconst 0, 1) := by decide +kernel
theorem dX2_countTold_1 : decode cX2_countTold 1 = .ok (.istore_n 2, 1) := by decide +kernel
theorem dX2_countTold_2 : decode cX2_countTold 2 = .ok (.aload_n 0, 1) := by decide +kernel
theorem dX2_countTold_3 : decode cX2_countTold 3 = .ok (.getfield 45, 3) := by decide +kernel
theorem dX2_countTold_6 : decode cX2_countTold 6 = .ok (.astore_n 3, 1) := by decide +kernel
theorem dX2_countTold_7 : decode cX2_countTold 7 = .ok (.aload_n 3, 1) := by decide +kernel
theorem dX2_countTold_8 : decode cX2_countTold 8 = .ok (.arraylength, 1) := by decide +kernel
theorem dX2_countTold_9 : decode cX2_countTold 9 = .ok (.istore 4, 2) := by decide +kernel
theorem dX2_countTold_11 : decode cX2_countTold 11 = .ok (.iconst 0, 1) := by decide +kernel
theorem dX2_countTold_12 : decode cX2_countTold 12 = .ok (.istore 5, 2) := by decide +kernel
theorem dX2_countTold_14 : decode cX2_countTold 14 = .ok (.iload 5, 2) := by decide +kernel
theorem dX2_countTold_16 : decode cX2_countTold 16 = .ok (.iload 4, 2) := by decide +kernel
theorem dX2_countTold_18 : decode cX2_countTold 18 = .ok (.if_icmp .ge 29, 3) := by decide +kernel
theorem dX2_countTold_21 : decode cX2_countTold 21 = .ok (.aload_n 3, 1) := by decide +kernel
theorem dX2_countTold_22 : decode cX2_countTold 22 = .ok (.iload 5, 2) := by decide +kernel
theorem dX2_countTold_24 : decode cX2_countTold 24 = .ok (.iaload, 1) := by decide +kernel
theorem dX2_countTold_25 : decode cX2_countTold 25 = .ok (.istore 6, 2) := by decide +kernel
theorem dX2_countTold_27 : decode cX2_countTold 27 = .ok (.iload_n 2, 1) := by decide +kernel
theorem dX2_countTold_28 : decode cX2_countTold 28 = .ok (.iload 6, 2) := by decide +kernel
theorem dX2_countTold_30 : decode cX2_countTold 30 = .ok (.iload_n 1, 1) := by decide +kernel
theorem dX2_countTold_31 : decode cX2_countTold 31 = .ok (.if_icmp .lt 7, 3) := by decide +kernel
theorem dX2_countTold_34 : decode cX2_countTold 34 = .ok (.iconst 1, 1) := by decide +kernel
theorem dX2_countTold_35 : decode cX2_countTold 35 = .ok (.goto 4, 3) := by decide +kernel
theorem dX2_countTold_38 : decode cX2_countTold 38 = .ok (.iconst 0, 1) := by decide +kernel
theorem dX2_countTold_39 : decode cX2_countTold 39 = .ok (.iadd, 1) := by decide +kernel
theorem dX2_countTold_40 : decode cX2_countTold 40 = .ok (.istore_n 2, 1) := by decide +kernel
theorem dX2_countTold_41 : decode cX2_countTold 41 = .ok (.iinc 5 1, 3) := by decide +kernel
theorem dX2_countTold_44 : decode cX2_countTold 44 = .ok (.goto (-30), 3) := by decide +kernel
theorem dX2_countTold_47 : decode cX2_countTold 47 = .ok (.iload_n 2, 1) := by decide +kernel
theorem dX2_countTold_48 : decode cX2_countTold 48 = .ok (.ireturn, 1) := by decide +kernel
set_option maxRecDepth 20000 in
theorem ggX2_postOk_X2_firstOf : GoodIn wsX2_postOk wsX2_firstOf := goodIn_r _ [8, 9, 47, 48, 49, 50, 51, 52, 53, 54, 55, 56, 57, 58, 59, 60, 61, 62, 63] (by decide +kernel) (by decide +kernel)
set_option maxRecDepth 20000 in
theorem gX2_postOk_X2_firstOf : GoodIn wsX2_postOk (wsV RX2 184 RX2 yX2_firstOf wsX2_firstOf) := goodIn_app (goodIn_of _ (by decide +kernel)) ggX2_postOk_X2_firstOf
set_option maxRecDepth 20000 in
theorem ggX2_postOk_X1_size : GoodIn wsX2_postOk wsX1_size := goodIn_r _ [14, 15, 64] (by decide +kernel) (by decide +kernel)
set_option maxRecDepth 20000 in
theorem gX2_postOk_X1_size : GoodIn wsX2_postOk (wsV RX2 57 RX1 yX1_size wsX1_size) := goodIn_app (goodIn_of _ (by decide +kernel)) ggX2_postOk_X1_size
set_option maxRecDepth 20000 in
theorem ggX2_postOk_X2_write : GoodIn wsX2_postOk wsX2_write := goodIn_r _ [19, 20, 21, 22, 23, 2, 3, 24, 25, 26, 27, 28, 29, 30, 31, 32, 33, 34, 35, 36, 37, 38, 65, 66, 67, 68, 69, 70, 71, 72, 47, 48, 49, 50, 51, 52, 53, 54, 55, 56, 57, 58, 59, 60, 61, 62, 63] (by decide +kernel) (by decide +kernel)
set_option maxRecDepth 20000 in
theorem gX2_postOk_X2_write : GoodIn wsX2_postOk (wsV RX2 96 RX2 yX2_write wsX2_write) := goodIn_app (goodIn_of _ (by decide +kernel)) ggX2_postOk_X2_write
set_option maxRecDepth 20000 in
theorem ggX2_postOk_X3_add : GoodIn wsX2_postOk wsX3_add := goodIn_r _ [43, 44, 45, 46, 73, 74, 75] (by decide +kernel) (by decide +kernel)
set_option maxRecDepth 20000 in
theorem gX2_postOk_X3_add : GoodIn wsX2_postOk (wsV RX2 100 RX3 yX3_add wsX3_add) := goodIn_app (goodIn_of _ (by decide +kernel)) ggX2_postOk_X3_add
theorem dX2_postOk_0 : decode cX2_postOk 0 = .ok (.aload_n 0, 1) := by decide +kernel
theorem dX2_postOk_1 : decode cX2_postOk 1 = .ok (.getfield 25, 3) := by decide +kernel
theorem dX2_postOk_4 : decode cX2_postOk 4 = .ok (.aload_n 0, 1) := by decide +kernel
theorem dX2_postOk_5 : decode cX2_postOk 5 = .ok (.aload_n 0, 1) := by decide +kernel
theorem dX2_postOk_6 : decode cX2_postOk 6 = .ok (.aload_n 0, 1) := by decide +kernel
theorem dX2_postOk_7 : decode cX2_postOk 7 = .ok (.getfield 51, 3) := by decide +kernel
theorem dX2_postOk_10 : decode cX2_postOk 10 = .ok (.invokevirtual 184, 3) := by decide +kernel
theorem dX2_postOk_13 : decode cX2_postOk 13 = .ok (.iconst 2, 1) := by decide +kernel
theorem dX2_postOk_14 : decode cX2_postOk 14 = .ok (.aload_n 0, 1) := by decide +kernel
theorem dX2_postOk_15 : decode cX2_postOk 15 = .ok (.getfield 33, 3) := by decide +kernel
theorem dX2_postOk_18 : decode cX2_postOk 18 = .ok (.invokevirtual 57, 3) := by decide +kernel
theorem dX2_postOk_21 : decode cX2_postOk 21 = .ok (.invokevirtual 96, 3) := by decide +kernel
theorem dX2_postOk_24 : decode cX2_postOk 24 = .ok (.invokevirtual 100, 3) := by decide +kernel
theorem dX2_postOk_27 : decode cX2_postOk 27 = .ok (.return_, 1) := by decide +kernel
set_option maxRecDepth 20000 in
theorem ggX2_write_X0_init : GoodIn wsX2_write wsX0_init := goodIn_r _ [11, 12, 13, 14, 15, 16, 17, 18, 19, 20, 21, 22, 23, 24, 25, 26, 27, 28, 29] (by decide +kernel) (by decide +kernel)
set_option maxRecDepth 20000 in
theorem gX2_write_X0_init : GoodIn wsX2_write (wsX0_init) := ggX2_write_X0_init
theorem dX2_write_0 : decode cX2_write 0 = .ok (.iload_n 2, 1) := by decide +kernel
theorem dX2_write_1 : decode cX2_write 1 = .ok (.iconst 1, 1) := by decide +kernel
theorem dX2_write_2 : decode cX2_write 2 = .ok (.if_icmp .eq 19, 3) := by decide +kernel
theorem dX2_write_5 : decode cX2_write 5 = .ok (.iload_n 2, 1) := by decide +kernel
theorem dX2_write_6 : decode cX2_write 6 = .ok (.iconst 4, 1) := by decide +kernel
theorem dX2_write_7 : decode cX2_write 7 = .ok (.if_icmp .eq 14, 3) := by decide +kernel
theorem dX2_write_10 : decode cX2_write 10 = .ok (.iload_n 2, 1) := by decide +kernel
theorem dX2_write_11 : decode cX2_write 11 = .ok (.iconst 5, 1) := by decide +kernel
theorem dX2_write_12 : decode cX2_write 12 = .ok (.if_icmp .eq 9, 3) := by decide +kernel
theorem dX2_write_15 : decode cX2_write 15 = .ok (.iload_n 2, 1) := by decide +kernel
theorem dX2_write_16 : decode cX2_write 16 = .ok (.bipush 7, 2) := by decide +kernel
theorem dX2_write_18 : decode cX2_write 18 = .ok (.if_icmp .ne 7, 3) := by decide +kernel
theorem dX2_write_21 : decode cX2_write 21 = .ok (.iconst 1, 1) := by decide +kernel
theorem dX2_write_22 : decode cX2_write 22 = .ok (.goto 4, 3) := by decide +kernel
theorem dX2_write_25 : decode cX2_write 25 = .ok (.iconst 0, 1) := by decide +kernel
theorem dX2_write_26 : decode cX2_write 26 = .ok (.istore 4, 2) := by decide +kernel
theorem dX2_write_28 : decode cX2_write 28 = .ok (.new 36, 3) := by decide +kernel
theorem dX2_write_31 : decode cX2_write 31 = .ok (.dup, 1) := by decide +kernel
theorem dX2_write_32 : decode cX2_write 32 = .ok (.aload_n 0, 1) := by decide +kernel
theorem dX2_write_33 : decode cX2_write 33 = .ok (.getfield 15, 3) := by decide +kernel
theorem dX2_write_36 : decode cX2_write 36 = .ok (.iload_n 1, 1) := by decide +kernel
theorem dX2_write_37 : decode cX2_write 37 = .ok (.iload_n 2, 1) := by decide +kernel
theorem dX2_write_38 : decode cX2_write 38 = .ok (.aload_n 0, 1) := by decide +kernel
theorem dX2_write_39 : decode cX2_write 39 = .ok (.getfield 51, 3) := by decide +kernel
theorem dX2_write_42 : decode cX2_write 42 = .ok (.iload 4, 2) := by decide +kernel
theorem dX2_write_44 : decode cX2_write 44 = .ok (.ifCond .eq 10, 3) := by decide +kernel
theorem dX2_write_47 : decode cX2_write 47 = .ok (.aload_n 0, 1) := by decide +kernel
theorem dX2_write_48 : decode cX2_write 48 = .ok (.getfield 33, 3) := by decide +kernel
theorem dX2_write_51 : decode cX2_write 51 = .ok (.goto 7, 3) := by decide +kernel
theorem dX2_write_54 : decode cX2_write 54 = .ok (.aload_n 0, 1) := by decide +kernel
theorem dX2_write_55 : decode cX2_write 55 = .ok (.getfield 29, 3) := by decide +kernel
theorem dX2_write_58 : decode cX2_write 58 = .ok (.iload 4, 2) := by decide +kernel
theorem dX2_write_60 : decode cX2_write 60 = .ok (.ifCond .eq 10, 3) := by decide +kernel
theorem dX2_write_63 : decode cX2_write 63 = .ok (.aload_n 0, 1) := by decide +kernel
theorem dX2_write_64 : decode cX2_write 64 = .ok (.getfield 62, 3) := by decide +kernel
theorem dX2_write_67 : decode cX2_write 67 = .ok (.goto 4, 3) := by decide +kernel
theorem dX2_write_70 : decode cX2_write 70 = .ok (.iconst 0, 1) := by decide +kernel
theorem dX2_write_71 : decode cX2_write 71 = .ok (.iload_n 3, 1) := by decide +kernel
theorem dX2_write_72 : decode cX2_write 72 = .ok (.invokespecial 197, 3) := by decide +kernel
theorem dX2_write_75 : decode cX2_write 75 = .ok (.areturn, 1) := by decide +kernel
set_option maxRecDepth 20000 in
theorem ggX2_isFirst_X2_firstOf : GoodIn wsX2_isFirst wsX2_firstOf := goodIn_r _ [7, 8, 9, 10, 11, 12, 13, 14, 15, 16, 17, 18, 19, 20, 21, 22, 23, 24, 25] (by decide +kernel) (by decide +kernel)
set_option maxRecDepth 20000 in
theorem gX2_isFirst_X2_firstOf : GoodIn wsX2_isFirst (wsV RX2 184 RX2 yX2_firstOf wsX2_firstOf) := goodIn_app (goodIn_of _ (by decide +kernel)) ggX2_isFirst_X2_firstOf
theorem dX2_isFirst_0 : decode cX2_isFirst 0 = .ok (.aload_n 0, 1) := by decide +kernel
theorem dX2_isFirst_1 : decode cX2_isFirst 1 = .ok (.aload_n 0, 1) := by decide +kernel
theorem dX2_isFirst_2 : decode cX2_isFirst 2 = .ok (.getfield 51, 3) := by decide +kernel
theorem dX2_isFirst_5 : decode cX2_isFirst 5 = .ok (.invokevirtual 184, 3) := by decide +kernel
theorem dX2_isFirst_8 : decode cX2_isFirst 8 = .ok (.aload_n 0, 1) := by decide +kernel
theorem dX2_isFirst_9 : decode cX2_isFirst 9 = .ok (.getfield 15, 3) := by decide +kernel
theorem dX2_isFirst_12 : decode cX2_isFirst 12 = .ok (.if_icmp .ne 7, 3) := by decide +kernel
theorem dX2_isFirst_15 : decode cX2_isFirst 15 = .ok (.iconst 1, 1) := by decide +kernel
theorem dX2_isFirst_16 : decode cX2_isFirst 16 = .ok (.goto 4, 3) := by decide +kernel
theorem dX2_isFirst_19 : decode cX2_isFirst 19 = .ok (.iconst 0, 1) := by decide +kernel
theorem dX2_isFirst_20 : decode cX2_isFirst 20 = .ok (.ireturn, 1) := by decide +kernel
theorem dX2_firstOf_0 : decode cX2_firstOf 0 = .ok (.aload_n 0, 1) := by decide +kernel
theorem dX2_firstOf_1 : decode cX2_firstOf 1 = .ok (.getfield 19, 3) := by decide +kernel
theorem dX2_firstOf_4 : decode cX2_firstOf 4 = .ok (.iconst 5, 1) := by decide +kernel
theorem dX2_firstOf_5 : decode cX2_firstOf 5 = .ok (.if_icmp .ne 9, 3) := by decide +kernel
theorem dX2_firstOf_8 : decode cX2_firstOf 8 = .ok (.iload_n 1, 1) := by decide +kernel
theorem dX2_firstOf_9 : decode cX2_firstOf 9 = .ok (.iconst 5, 1) := by decide +kernel
theorem dX2_firstOf_10 : decode cX2_firstOf 10 = .ok (.irem, 1) := by decide +kernel
theorem dX2_firstOf_11 : decode cX2_firstOf 11 = .ok (.goto 6, 3) := by decide +kernel
theorem dX2_firstOf_14 : decode cX2_firstOf 14 = .ok (.iload_n 1, 1) := by decide +kernel
theorem dX2_firstOf_15 : decode cX2_firstOf 15 = .ok (.iconst 3, 1) := by decide +kernel
theorem dX2_firstOf_16 : decode cX2_firstOf 16 = .ok (.irem, 1) := by decide +kernel
theorem dX2_firstOf_17 : decode cX2_firstOf 17 = .ok (.ireturn, 1) := by decide +kernel
theorem dX2_forgetVotes_0 : decode cX2_forgetVotes 0 = .ok (.aload_n 0, 1) := by decide +kernel
theorem dX2_forgetVotes_1 : decode cX2_forgetVotes 1 = .ok (.iconst 0, 1) := by decide +kernel
theorem dX2_forgetVotes_2 : decode cX2_forgetVotes 2 = .ok (.putfield 65, 3) := by decide +kernel
theorem dX2_forgetVotes_5 : decode cX2_forgetVotes 5 = .ok (.aload_n 0, 1) := by decide +kernel
theorem dX2_forgetVotes_6 : decode cX2_forgetVotes 6 = .ok (.iconst 0, 1) := by decide +kernel
theorem dX2_forgetVotes_7 : decode cX2_forgetVotes 7 = .ok (.putfield 78, 3) := by decide +kernel
theorem dX2_forgetVotes_10 : decode cX2_forgetVotes 10 = .ok (.iconst 0, 1) := by decide +kernel
theorem dX2_forgetVotes_11 : decode cX2_forgetVotes 11 = .ok (.istore_n 1, 1) := by decide +kernel
theorem dX2_forgetVotes_12 : decode cX2_forgetVotes 12 = .ok (.iload_n 1, 1) := by decide +kernel
theorem dX2_forgetVotes_13 : decode cX2_forgetVotes 13 = .ok (.aload_n 0, 1) := by decide +kernel
theorem dX2_forgetVotes_14 : decode cX2_forgetVotes 14 = .ok (.getfield 19, 3) := by decide +kernel
theorem dX2_forgetVotes_17 : decode cX2_forgetVotes 17 = .ok (.if_icmp .ge 16, 3) := by decide +kernel
theorem dX2_forgetVotes_20 : decode cX2_forgetVotes 20 = .ok (.aload_n 0, 1) := by decide +kernel
theorem dX2_forgetVotes_21 : decode cX2_forgetVotes 21 = .ok (.getfield 38, 3) := by decide +kernel
theorem dX2_forgetVotes_24 : decode cX2_forgetVotes 24 = .ok (.iload_n 1, 1) := by decide +kernel
theorem dX2_forgetVotes_25 : decode cX2_forgetVotes 25 = .ok (.aconst_null, 1) := by decide +kernel
theorem dX2_forgetVotes_26 : decode cX2_forgetVotes 26 = .ok (.aastore, 1) := by decide +kernel
theorem dX2_forgetVotes_27 : decode cX2_forgetVotes 27 = .ok (.iinc 1 1, 3) := by decide +kernel
theorem dX2_forgetVotes_30 : decode cX2_forgetVotes 30 = .ok (.goto (-18), 3) := by decide +kernel
theorem dX2_forgetVotes_33 : decode cX2_forgetVotes 33 = .ok (.return_, 1) := by decide +kernel
theorem dX2_forgetTales_0 : decode cX2_forgetTales 0 = .ok (.iconst 0, 1) := by decide +kernel
theorem dX2_forgetTales_1 : decode cX2_forgetTales 1 = .ok (.istore_n 1, 1) := by decide +kernel
theorem dX2_forgetTales_2 : decode cX2_forgetTales 2 = .ok (.iload_n 1, 1) := by decide +kernel
theorem dX2_forgetTales_3 : decode cX2_forgetTales 3 = .ok (.aload_n 0, 1) := by decide +kernel
theorem dX2_forgetTales_4 : decode cX2_forgetTales 4 = .ok (.getfield 19, 3) := by decide +kernel
theorem dX2_forgetTales_7 : decode cX2_forgetTales 7 = .ok (.if_icmp .ge 16, 3) := by decide +kernel
theorem dX2_forgetTales_10 : decode cX2_forgetTales 10 = .ok (.aload_n 0, 1) := by decide +kernel
theorem dX2_forgetTales_11 : decode cX2_forgetTales 11 = .ok (.getfield 42, 3) := by decide +kernel
theorem dX2_forgetTales_14 : decode cX2_forgetTales 14 = .ok (.iload_n 1, 1) := by decide +kernel
theorem dX2_forgetTales_15 : decode cX2_forgetTales 15 = .ok (.aconst_null, 1) := by decide +kernel
theorem dX2_forgetTales_16 : decode cX2_forgetTales 16 = .ok (.aastore, 1) := by decide +kernel
theorem dX2_forgetTales_17 : decode cX2_forgetTales 17 = .ok (.iinc 1 1, 3) := by decide +kernel
theorem dX2_forgetTales_20 : decode cX2_forgetTales 20 = .ok (.goto (-18), 3) := by decide +kernel
theorem dX2_forgetTales_23 : decode cX2_forgetTales 23 = .ok (.return_, 1) := by decide +kernel
theorem dX2_countLetters_0 : decode cX2_countLetters 0 = .ok (.iconst 0, 1) := by decide +kernel
theorem dX2_countLetters_1 : decode cX2_countLetters 1 = .ok (.istore_n 1, 1) := by decide +kernel
theorem dX2_countLetters_2 : decode cX2_countLetters 2 = .ok (.aload_n 0, 1) := by decide +kernel
theorem dX2_countLetters_3 : decode cX2_countLetters 3 = .ok (.astore_n 2, 1) := by decide +kernel
theorem dX2_countLetters_4 : decode cX2_countLetters 4 = .ok (.aload_n 2, 1) := by decide +kernel
theorem dX2_countLetters_5 : decode cX2_countLetters 5 = .ok (.arraylength, 1) := by decide +kernel
theorem dX2_countLetters_6 : decode cX2_countLetters 6 = .ok (.istore_n 3, 1) := by decide +kernel
theorem dX2_countLetters_7 : decode cX2_countLetters 7 = .ok (.iconst 0, 1) := by decide +kernel
theorem dX2_countLetters_8 : decode cX2_countLetters 8 = .ok (.istore 4, 2) := by decide +kernel
theorem dX2_countLetters_10 : decode cX2_countLetters 10 = .ok (.iload 4, 2) := by decide +kernel
theorem dX2_countLetters_12 : decode cX2_countLetters 12 = .ok (.iload_n 3, 1) := by decide +kernel
theorem dX2_countLetters_13 : decode cX2_countLetters 13 = .ok (.if_icmp .ge 28, 3) := by decide +kernel
theorem dX2_countLetters_16 : decode cX2_countLetters 16 = .ok (.aload_n 2, 1) := by decide +kernel
theorem dX2_countLetters_17 : decode cX2_countLetters 17 = .ok (.iload 4, 2) := by decide +kernel
theorem dX2_countLetters_19 : decode cX2_countLetters 19 = .ok (.aaload, 1) := by decide +kernel
theorem dX2_countLetters_20 : decode cX2_countLetters 20 = .ok (.astore 5, 2) := by decide +kernel
theorem dX2_countLetters_22 : decode cX2_countLetters 22 = .ok (.iload_n 1, 1) := by decide +kernel
theorem dX2_countLetters_23 : decode cX2_countLetters 23 = .ok (.aload 5, 2) := by decide +kernel
theorem dX2_countLetters_25 : decode cX2_countLetters 25 = .ok (.ifnonnull 7, 3) := by decide +kernel
theorem dX2_countLetters_28 : decode cX2_countLetters 28 = .ok (.iconst 0, 1) := by decide +kernel
theorem dX2_countLetters_29 : decode cX2_countLetters 29 = .ok (.goto 4, 3) := by decide +kernel
theorem dX2_countLetters_32 : decode cX2_countLetters 32 = .ok (.iconst 1, 1) := by decide +kernel
theorem dX2_countLetters_33 : decode cX2_countLetters 33 = .ok (.iadd, 1) := by decide +kernel
theorem dX2_countLetters_34 : decode cX2_countLetters 34 = .ok (.istore_n 1, 1) := by decide +kernel
theorem dX2_countLetters_35 : decode cX2_countLetters 35 = .ok (.iinc 4 1, 3) := by decide +kernel
theorem dX2_countLetters_38 : decode cX2_countLetters 38 = .ok (.goto (-28), 3) := by decide +kernel
theorem dX2_countLetters_41 : decode cX2_countLetters 41 = .ok (.iload_n 1, 1) := by decide +kernel
theorem dX2_countLetters_42 : decode cX2_countLetters 42 = .ok (.ireturn, 1) := by decide +kernel
end
section
theorem dX3_init_0 : decode cX3_init 0 = .ok (.aload_n 0, 1) := by decide +kernel
theorem dX3_init_1 : decode cX3_init 1 = .ok (.invokespecial 3, 3) := by decide +kernel
theorem dX3_init_4 : decode cX3_init 4 = .ok (.aload_n 0, 1) := by decide +kernel
theorem dX3_init_5 : decode cX3_init 5 = .ok (.sipush 240, 3) := by decide +kernel
theorem dX3_init_8 : decode cX3_init 8 = .ok (.anewarray 9, 3) := by decide +kernel
theorem dX3_init_11 : decode cX3_init 11 = .ok (.putfield 11, 3) := by decide +kernel
theorem dX3_init_14 : decode cX3_init 14 = .ok (.return_, 1) := by decide +kernel
theorem dX3_add_0 : decode cX3_add 0 = .ok (.aload_n 0, 1) := by decide +kernel
theorem dX3_add_1 : decode cX3_add 1 = .ok (.getfield 17, 3) := by decide +kernel
theorem dX3_add_4 : decode cX3_add 4 = .ok (.aload_n 0, 1) := by decide +kernel
theorem dX3_add_5 : decode cX3_add 5 = .ok (.getfield 11, 3) := by decide +kernel
theorem dX3_add_8 : decode cX3_add 8 = .ok (.arraylength, 1) := by decide +kernel
theorem dX3_add_9 : decode cX3_add 9 = .ok (.if_icmp .lt 14, 3) := by decide +kernel
theorem dX3_add_12 : decode cX3_add 12 = .ok (.aload_n 0, 1) := by decide +kernel
theorem dX3_add_13 : decode cX3_add 13 = .ok (.dup, 1) := by decide +kernel
theorem dX3_add_14 : decode cX3_add 14 = .ok (.getfield 21, 3) := by decide +kernel
theorem dX3_add_17 : decode cX3_add 17 = .ok (.iconst 1, 1) := by decide +kernel
theorem dX3_add_18 : decode cX3_add 18 = .ok (.iadd, 1) := by decide +kernel
theorem dX3_add_19 : decode cX3_add 19 = .ok (.putfield 21, 3) := by decide +kernel
theorem dX3_add_22 : decode cX3_add 22 = .ok (.return_, 1) := by decide +kernel
theorem dX3_add_23 : decode cX3_add 23 = .ok (.aload_n 0, 1) := by decide +kernel
theorem dX3_add_24 : decode cX3_add 24 = .ok (.getfield 11, 3) := by decide +kernel
theorem dX3_add_27 : decode cX3_add 27 = .ok (.aload_n 0, 1) := by decide +kernel
theorem dX3_add_28 : decode cX3_add 28 = .ok (.getfield 17, 3) := by decide +kernel
theorem dX3_add_31 : decode cX3_add 31 = .ok (.aload_n 1, 1) := by decide +kernel
theorem dX3_add_32 : decode cX3_add 32 = .ok (.aastore, 1) := by decide +kernel
theorem dX3_add_33 : decode cX3_add 33 = .ok (.aload_n 0, 1) := by decide +kernel
theorem dX3_add_34 : decode cX3_add 34 = .ok (.dup, 1) := by decide +kernel
theorem dX3_add_35 : decode cX3_add 35 = .ok (.getfield 17, 3) := by decide +kernel
theorem dX3_add_38 : decode cX3_add 38 = .ok (.iconst 1, 1) := by decide +kernel
theorem dX3_add_39 : decode cX3_add 39 = .ok (.iadd, 1) := by decide +kernel
theorem dX3_add_40 : decode cX3_add 40 = .ok (.putfield 17, 3) := by decide +kernel
theorem dX3_add_43 : decode cX3_add 43 = .ok (.return_, 1) := by decide +kernel
theorem dX3_at_0 : decode cX3_at 0 = .ok (.iload_n 1, 1) := by decide +kernel
theorem dX3_at_1 : decode cX3_at 1 = .ok (.ifCond .lt 20, 3) := by decide +kernel
theorem dX3_at_4 : decode cX3_at 4 = .ok (.iload_n 1, 1) := by decide +kernel
theorem dX3_at_5 : decode cX3_at 5 = .ok (.aload_n 0, 1) := by decide +kernel
theorem dX3_at_6 : decode cX3_at 6 = .ok (.getfield 17, 3) := by decide +kernel
theorem dX3_at_9 : decode cX3_at 9 = .ok (.if_icmp .ge 12, 3) := by decide +kernel
theorem dX3_at_12 : decode cX3_at 12 = .ok (.aload_n 0, 1) := by decide +kernel
theorem dX3_at_13 : decode cX3_at 13 = .ok (.getfield 11, 3) := by decide +kernel
theorem dX3_at_16 : decode cX3_at 16 = .ok (.iload_n 1, 1) := by decide +kernel
theorem dX3_at_17 : decode cX3_at 17 = .ok (.aaload, 1) := by decide +kernel
theorem dX3_at_18 : decode cX3_at 18 = .ok (.goto 4, 3) := by decide +kernel
theorem dX3_at_21 : decode cX3_at 21 = .ok (.aconst_null, 1) := by decide +kernel
theorem dX3_at_22 : decode cX3_at 22 = .ok (.areturn, 1) := by decide +kernel
set_option maxRecDepth 20000 in
theorem ggX3_standing_X3_at : GoodIn wsX3_standing wsX3_at := goodIn_r _ [6, 7, 8, 17, 18, 19] (by decide +kernel) (by decide +kernel)
set_option maxRecDepth 20000 in
theorem gX3_standing_X3_at : GoodIn wsX3_standing (wsV RX3 24 RX3 yX3_at wsX3_at) := goodIn_app (goodIn_of _ (by decide +kernel)) ggX3_standing_X3_at
theorem dX3_standing_0 : decode cX3_standing 0 = .ok (.aload_n 0, 1) := by decide +kernel
theorem dX3_standing_1 : decode cX3_standing 1 = .ok (.iload_n 1, 1) := by decide +kernel
theorem dX3_standing_2 : decode cX3_standing 2 = .ok (.invokevirtual 24, 3) := by decide +kernel
theorem dX3_standing_5 : decode cX3_standing 5 = .ok (.astore_n 2, 1) := by decide +kernel
theorem dX3_standing_6 : decode cX3_standing 6 = .ok (.aload_n 2, 1) := by decide +kernel
theorem dX3_standing_7 : decode cX3_standing 7 = .ok (.ifnull 10, 3) := by decide +kernel
theorem dX3_standing_10 : decode cX3_standing 10 = .ok (.aload_n 2, 1) := by decide +kernel
theorem dX3_standing_11 : decode cX3_standing 11 = .ok (.getfield 28, 3) := by decide +kernel
theorem dX3_standing_14 : decode cX3_standing 14 = .ok (.ifCond .eq 7, 3) := by decide +kernel
theorem dX3_standing_17 : decode cX3_standing 17 = .ok (.aconst_null, 1) := by decide +kernel
theorem dX3_standing_18 : decode cX3_standing 18 = .ok (.goto 4, 3) := by decide +kernel
theorem dX3_standing_21 : decode cX3_standing 21 = .ok (.aload_n 2, 1) := by decide +kernel
theorem dX3_standing_22 : decode cX3_standing 22 = .ok (.areturn, 1) := by decide +kernel
theorem dX3_countDropped_0 : decode cX3_countDropped 0 = .ok (.iconst 0, 1) := by decide +kernel
theorem dX3_countDropped_1 : decode cX3_countDropped 1 = .ok (.istore_n 1, 1) := by decide +kernel
theorem dX3_countDropped_2 : decode cX3_countDropped 2 = .ok (.aload_n 0, 1) := by decide +kernel
theorem dX3_countDropped_3 : decode cX3_countDropped 3 = .ok (.getfield 11, 3) := by decide +kernel
theorem dX3_countDropped_6 : decode cX3_countDropped 6 = .ok (.astore_n 2, 1) := by decide +kernel
theorem dX3_countDropped_7 : decode cX3_countDropped 7 = .ok (.aload_n 2, 1) := by decide +kernel
theorem dX3_countDropped_8 : decode cX3_countDropped 8 = .ok (.arraylength, 1) := by decide +kernel
theorem dX3_countDropped_9 : decode cX3_countDropped 9 = .ok (.istore_n 3, 1) := by decide +kernel
theorem dX3_countDropped_10 : decode cX3_countDropped 10 = .ok (.iconst 0, 1) := by decide +kernel
theorem dX3_countDropped_11 : decode cX3_countDropped 11 = .ok (.istore 4, 2) := by decide +kernel
theorem dX3_countDropped_13 : decode cX3_countDropped 13 = .ok (.iload 4, 2) := by decide +kernel
theorem dX3_countDropped_15 : decode cX3_countDropped 15 = .ok (.iload_n 3, 1) := by decide +kernel
theorem dX3_countDropped_16 : decode cX3_countDropped 16 = .ok (.if_icmp .ge 36, 3) := by decide +kernel
theorem dX3_countDropped_19 : decode cX3_countDropped 19 = .ok (.aload_n 2, 1) := by decide +kernel
theorem dX3_countDropped_20 : decode cX3_countDropped 20 = .ok (.iload 4, 2) := by decide +kernel
theorem dX3_countDropped_22 : decode cX3_countDropped 22 = .ok (.aaload, 1) := by decide +kernel
theorem dX3_countDropped_23 : decode cX3_countDropped 23 = .ok (.astore 5, 2) := by decide +kernel
theorem dX3_countDropped_25 : decode cX3_countDropped 25 = .ok (.iload_n 1, 1) := by decide +kernel
theorem dX3_countDropped_26 : decode cX3_countDropped 26 = .ok (.aload 5, 2) := by decide +kernel
theorem dX3_countDropped_28 : decode cX3_countDropped 28 = .ok (.ifnull 15, 3) := by decide +kernel
theorem dX3_countDropped_31 : decode cX3_countDropped 31 = .ok (.aload 5, 2) := by decide +kernel
theorem dX3_countDropped_33 : decode cX3_countDropped 33 = .ok (.getfield 28, 3) := by decide +kernel
theorem dX3_countDropped_36 : decode cX3_countDropped 36 = .ok (.ifCond .eq 7, 3) := by decide +kernel
theorem dX3_countDropped_39 : decode cX3_countDropped 39 = .ok (.iconst 1, 1) := by decide +kernel
theorem dX3_countDropped_40 : decode cX3_countDropped 40 = .ok (.goto 4, 3) := by decide +kernel
theorem dX3_countDropped_43 : decode cX3_countDropped 43 = .ok (.iconst 0, 1) := by decide +kernel
theorem dX3_countDropped_44 : decode cX3_countDropped 44 = .ok (.iadd, 1) := by decide +kernel
theorem dX3_countDropped_45 : decode cX3_countDropped 45 = .ok (.istore_n 1, 1) := by decide +kernel
theorem dX3_countDropped_46 : decode cX3_countDropped 46 = .ok (.iinc 4 1, 3) := by decide +kernel
theorem dX3_countDropped_49 : decode cX3_countDropped 49 = .ok (.goto (-36), 3) := by decide +kernel
theorem dX3_countDropped_52 : decode cX3_countDropped 52 = .ok (.iload_n 1, 1) := by decide +kernel
theorem dX3_countDropped_53 : decode cX3_countDropped 53 = .ok (.ireturn, 1) := by decide +kernel
set_option maxRecDepth 20000 in
theorem ggX4_init_X1_init : GoodIn wsX4_init wsX1_init := goodIn_r _ [20, 21, 2, 3, 22, 43] (by decide +kernel) (by decide +kernel)
set_option maxRecDepth 20000 in
theorem gX4_init_X1_init : GoodIn wsX4_init (wsX1_init) := ggX4_init_X1_init
set_option maxRecDepth 20000 in
theorem ggX4_init_X3_init : GoodIn wsX4_init wsX3_init := goodIn_r _ [24, 25, 2, 3, 26, 27, 44, 45, 46] (by decide +kernel) (by decide +kernel)
set_option maxRecDepth 20000 in
theorem gX4_init_X3_init_n14 : GoodIn wsX4_init (wsX3_init) := ggX4_init_X3_init
set_option maxRecDepth 20000 in
theorem ggX4_init_X2_init : GoodIn wsX4_init wsX2_init := goodIn_r _ [30, 31, 2, 3, 7, 32, 33, 34, 35, 36, 37, 38, 39, 40, 41, 42, 50, 51, 52, 53, 54, 55, 56, 57, 58, 59, 60, 61, 62, 63, 64, 65, 66] (by decide +kernel) (by decide +kernel)
set_option maxRecDepth 20000 in
theorem gX4_init_X2_init : GoodIn wsX4_init (wsX2_init) := ggX4_init_X2_init
theorem dX4_init_0 : decode cX4_init 0 = .ok (.aload_n 0, 1) := by decide +kernel
theorem dX4_init_1 : decode cX4_init 1 = .ok (.invokespecial 1, 3) := by decide +kernel
theorem dX4_init_4 : decode cX4_init 4 = .ok (.iload_n 1, 1) := by decide +kernel
theorem dX4_init_5 : decode cX4_init 5 = .ok (.iconst 5, 1) := by decide +kernel
theorem dX4_init_6 : decode cX4_init 6 = .ok (.if_icmp .ne 7, 3) := by decide +kernel
theorem dX4_init_9 : decode cX4_init 9 = .ok (.iconst 5, 1) := by decide +kernel
theorem dX4_init_10 : decode cX4_init 10 = .ok (.goto 4, 3) := by decide +kernel
theorem dX4_init_13 : decode cX4_init 13 = .ok (.iconst 3, 1) := by decide +kernel
theorem dX4_init_14 : decode cX4_init 14 = .ok (.istore_n 2, 1) := by decide +kernel
theorem dX4_init_15 : decode cX4_init 15 = .ok (.new 7, 3) := by decide +kernel
theorem dX4_init_18 : decode cX4_init 18 = .ok (.dup, 1) := by decide +kernel
theorem dX4_init_19 : decode cX4_init 19 = .ok (.iconst 0, 1) := by decide +kernel
theorem dX4_init_20 : decode cX4_init 20 = .ok (.newarray .int, 2) := by decide +kernel
theorem dX4_init_22 : decode cX4_init 22 = .ok (.invokespecial 9, 3) := by decide +kernel
theorem dX4_init_25 : decode cX4_init 25 = .ok (.astore_n 3, 1) := by decide +kernel
theorem dX4_init_26 : decode cX4_init 26 = .ok (.aload_n 0, 1) := by decide +kernel
theorem dX4_init_27 : decode cX4_init 27 = .ok (.new 12, 3) := by decide +kernel
theorem dX4_init_30 : decode cX4_init 30 = .ok (.dup, 1) := by decide +kernel
theorem dX4_init_31 : decode cX4_init 31 = .ok (.invokespecial 14, 3) := by decide +kernel
theorem dX4_init_34 : decode cX4_init 34 = .ok (.putfield 15, 3) := by decide +kernel
theorem dX4_init_37 : decode cX4_init 37 = .ok (.aload_n 0, 1) := by decide +kernel
theorem dX4_init_38 : decode cX4_init 38 = .ok (.iload_n 2, 1) := by decide +kernel
theorem dX4_init_39 : decode cX4_init 39 = .ok (.anewarray 21, 3) := by decide +kernel
theorem dX4_init_42 : decode cX4_init 42 = .ok (.putfield 23, 3) := by decide +kernel
theorem dX4_init_45 : decode cX4_init 45 = .ok (.iconst 0, 1) := by decide +kernel
theorem dX4_init_46 : decode cX4_init 46 = .ok (.istore 4, 2) := by decide +kernel
theorem dX4_init_48 : decode cX4_init 48 = .ok (.iload 4, 2) := by decide +kernel
theorem dX4_init_50 : decode cX4_init 50 = .ok (.iload_n 2, 1) := by decide +kernel
theorem dX4_init_51 : decode cX4_init 51 = .ok (.if_icmp .ge 31, 3) := by decide +kernel
theorem dX4_init_54 : decode cX4_init 54 = .ok (.aload_n 0, 1) := by decide +kernel
theorem dX4_init_55 : decode cX4_init 55 = .ok (.getfield 23, 3) := by decide +kernel
theorem dX4_init_58 : decode cX4_init 58 = .ok (.iload 4, 2) := by decide +kernel
theorem dX4_init_60 : decode cX4_init 60 = .ok (.new 21, 3) := by decide +kernel
theorem dX4_init_63 : decode cX4_init 63 = .ok (.dup, 1) := by decide +kernel
theorem dX4_init_64 : decode cX4_init 64 = .ok (.iload 4, 2) := by decide +kernel
theorem dX4_init_66 : decode cX4_init 66 = .ok (.iload_n 2, 1) := by decide +kernel
theorem dX4_init_67 : decode cX4_init 67 = .ok (.aload_n 0, 1) := by decide +kernel
theorem dX4_init_68 : decode cX4_init 68 = .ok (.getfield 15, 3) := by decide +kernel
theorem dX4_init_71 : decode cX4_init 71 = .ok (.aload_n 3, 1) := by decide +kernel
theorem dX4_init_72 : decode cX4_init 72 = .ok (.invokespecial 27, 3) := by decide +kernel
theorem dX4_init_75 : decode cX4_init 75 = .ok (.aastore, 1) := by decide +kernel
theorem dX4_init_76 : decode cX4_init 76 = .ok (.iinc 4 1, 3) := by decide +kernel
theorem dX4_init_79 : decode cX4_init 79 = .ok (.goto (-31), 3) := by decide +kernel
theorem dX4_init_82 : decode cX4_init 82 = .ok (.aload_n 0, 1) := by decide +kernel
theorem dX4_init_83 : decode cX4_init 83 = .ok (.iload_n 2, 1) := by decide +kernel
theorem dX4_init_84 : decode cX4_init 84 = .ok (.iload_n 2, 1) := by decide +kernel
theorem dX4_init_85 : decode cX4_init 85 = .ok (.imul, 1) := by decide +kernel
theorem dX4_init_86 : decode cX4_init 86 = .ok (.newarray .boolean, 2) := by decide +kernel
theorem dX4_init_88 : decode cX4_init 88 = .ok (.putfield 30, 3) := by decide +kernel
theorem dX4_init_91 : decode cX4_init 91 = .ok (.return_, 1) := by decide +kernel
set_option maxRecDepth 20000 in
theorem ggX4_request_X4_nodeAt : GoodIn wsX4_request wsX4_nodeAt := goodIn_r _ [6, 7, 130, 131, 132] (by decide +kernel) (by decide +kernel)
set_option maxRecDepth 20000 in
theorem gX4_request_X4_nodeAt : GoodIn wsX4_request (wsV RX4 34 RX4 yX4_nodeAt wsX4_nodeAt) := goodIn_app (goodIn_of _ (by decide +kernel)) ggX4_request_X4_nodeAt
set_option maxRecDepth 20000 in
theorem ggX4_request_X4_isEntry : GoodIn wsX4_request wsX4_isEntry := goodIn_r _ [10, 11, 12, 13, 5, 14] (by decide +kernel) (by decide +kernel)
set_option maxRecDepth 20000 in
theorem gX4_request_X4_isEntry : GoodIn wsX4_request (va_wsS RX4 38 yX4_isEntry wsX4_isEntry) := goodIn_app (goodIn_of _ (by decide +kernel)) ggX4_request_X4_isEntry
set_option maxRecDepth 20000 in
theorem ggX4_request_X2_leads : GoodIn wsX4_request wsX2_leads := goodIn_r _ [19, 20, 21, 22, 23, 18, 24, 25, 26, 27, 28, 29, 30, 31, 113, 114, 115, 116, 117, 118, 119, 120, 121, 122, 123, 124, 125, 126, 127, 128, 129] (by decide +kernel) (by decide +kernel)
set_option maxRecDepth 20000 in
theorem gX4_request_X2_leads : GoodIn wsX4_request (wsV RX4 42 RX2 yX2_leads wsX2_leads) := goodIn_app (goodIn_of _ (by decide +kernel)) ggX4_request_X2_leads
set_option maxRecDepth 20000 in
theorem ggX4_request_X1_answers : GoodIn wsX4_request wsX1_answers := goodIn_r _ [36, 37, 38, 39, 35, 40, 41, 42, 43, 44, 45, 46, 133] (by decide +kernel) (by decide +kernel)
set_option maxRecDepth 20000 in
theorem gX4_request_X1_answers : GoodIn wsX4_request (wsV RX4 50 RX1 yX1_answers wsX1_answers) := goodIn_app (goodIn_of _ (by decide +kernel)) ggX4_request_X1_answers
set_option maxRecDepth 20000 in
theorem ggX4_request_X1_size : GoodIn wsX4_request wsX1_size := goodIn_r _ [40, 41, 133] (by decide +kernel) (by decide +kernel)
set_option maxRecDepth 20000 in
theorem gX4_request_X1_size : GoodIn wsX4_request (wsV RX4 54 RX1 yX1_size wsX1_size) := goodIn_app (goodIn_of _ (by decide +kernel)) ggX4_request_X1_size
set_option maxRecDepth 20000 in
theorem ggX4_request_X1_with : GoodIn wsX4_request wsX1_with := goodIn_r _ [51, 41, 52, 53, 35, 54, 55, 56, 57, 58, 59, 60, 61, 62, 63, 64, 65, 66, 67, 68, 69, 70, 71, 72, 73, 74, 75, 76, 77, 78, 133] (by decide +kernel) (by decide +kernel)
set_option maxRecDepth 20000 in
theorem gX4_request_X1_with : GoodIn wsX4_request (wsV RX4 58 RX1 yX1_with wsX1_with) := goodIn_app (goodIn_of _ (by decide +kernel)) ggX4_request_X1_with
set_option maxRecDepth 20000 in
theorem ggX4_request_X2_postToAll : GoodIn wsX4_request wsX2_postToAll := goodIn_r _ [82, 31, 26, 83, 84, 85, 86, 18, 87, 88, 89, 90, 25, 91, 92, 93, 94, 95, 96, 97, 77, 78, 98, 99, 100, 101, 102, 103, 104, 105, 106, 107, 108, 109, 110, 111, 112, 113, 114, 115, 116, 117, 118, 119, 120, 121, 122, 123, 124, 125, 126, 127, 128, 129, 134, 135, 136, 137, 138, 139, 140, 141, 142, 143, 144] (by decide +kernel) (by decide +kernel)
set_option maxRecDepth 20000 in
theorem gX4_request_X2_postToAll : GoodIn wsX4_request (wsV RX4 62 RX2 yX2_postToAll wsX2_postToAll) := goodIn_app (goodIn_of _ (by decide +kernel)) ggX4_request_X2_postToAll
theorem dX4_request_0 : decode cX4_request 0 = .ok (.aload_n 0, 1) := by decide +kernel
theorem dX4_request_1 : decode cX4_request 1 = .ok (.iload_n 1, 1) := by decide +kernel
theorem dX4_request_2 : decode cX4_request 2 = .ok (.invokevirtual 34, 3) := by decide +kernel
theorem dX4_request_5 : decode cX4_request 5 = .ok (.astore 8, 2) := by decide +kernel
theorem dX4_request_7 : decode cX4_request 7 = .ok (.aload 8, 2) := by decide +kernel
theorem dX4_request_9 : decode cX4_request 9 = .ok (.ifnull 17, 3) := by decide +kernel
theorem dX4_request_12 : decode cX4_request 12 = .ok (.iload_n 2, 1) := by decide +kernel
theorem dX4_request_13 : decode cX4_request 13 = .ok (.iload_n 3, 1) := by decide +kernel
theorem dX4_request_14 : decode cX4_request 14 = .ok (.iload 4, 2) := by decide +kernel
theorem dX4_request_16 : decode cX4_request 16 = .ok (.iload 5, 2) := by decide +kernel
theorem dX4_request_18 : decode cX4_request 18 = .ok (.iload 6, 2) := by decide +kernel
theorem dX4_request_20 : decode cX4_request 20 = .ok (.invokestatic 38, 3) := by decide +kernel
theorem dX4_request_23 : decode cX4_request 23 = .ok (.ifCond .ne 6, 3) := by decide +kernel
theorem dX4_request_26 : decode cX4_request 26 = .ok (.bipush (-2), 2) := by decide +kernel
theorem dX4_request_28 : decode cX4_request 28 = .ok (.ireturn, 1) := by decide +kernel
theorem dX4_request_29 : decode cX4_request 29 = .ok (.aload 8, 2) := by decide +kernel
theorem dX4_request_31 : decode cX4_request 31 = .ok (.invokevirtual 42, 3) := by decide +kernel
theorem dX4_request_34 : decode cX4_request 34 = .ok (.ifCond .ne 6, 3) := by decide +kernel
theorem dX4_request_37 : decode cX4_request 37 = .ok (.bipush (-3), 2) := by decide +kernel
theorem dX4_request_39 : decode cX4_request 39 = .ok (.ireturn, 1) := by decide +kernel
theorem dX4_request_40 : decode cX4_request 40 = .ok (.aload 8, 2) := by decide +kernel
theorem dX4_request_42 : decode cX4_request 42 = .ok (.getfield 46, 3) := by decide +kernel
theorem dX4_request_45 : decode cX4_request 45 = .ok (.iload_n 2, 1) := by decide +kernel
theorem dX4_request_46 : decode cX4_request 46 = .ok (.iload_n 3, 1) := by decide +kernel
theorem dX4_request_47 : decode cX4_request 47 = .ok (.invokevirtual 50, 3) := by decide +kernel
theorem dX4_request_50 : decode cX4_request 50 = .ok (.ifCond .eq 5, 3) := by decide +kernel
theorem dX4_request_53 : decode cX4_request 53 = .ok (.iconst 0, 1) := by decide +kernel
theorem dX4_request_54 : decode cX4_request 54 = .ok (.ireturn, 1) := by decide +kernel
theorem dX4_request_55 : decode cX4_request 55 = .ok (.aload 8, 2) := by decide +kernel
theorem dX4_request_57 : decode cX4_request 57 = .ok (.getfield 46, 3) := by decide +kernel
theorem dX4_request_60 : decode cX4_request 60 = .ok (.invokevirtual 54, 3) := by decide +kernel
theorem dX4_request_63 : decode cX4_request 63 = .ok (.bipush 16, 2) := by decide +kernel
theorem dX4_request_65 : decode cX4_request 65 = .ok (.if_icmp .lt 6, 3) := by decide +kernel
theorem dX4_request_68 : decode cX4_request 68 = .ok (.bipush (-4), 2) := by decide +kernel
theorem dX4_request_70 : decode cX4_request 70 = .ok (.ireturn, 1) := by decide +kernel
theorem dX4_request_71 : decode cX4_request 71 = .ok (.aload 8, 2) := by decide +kernel
theorem dX4_request_73 : decode cX4_request 73 = .ok (.aload 8, 2) := by decide +kernel
theorem dX4_request_75 : decode cX4_request 75 = .ok (.getfield 46, 3) := by decide +kernel
theorem dX4_request_78 : decode cX4_request 78 = .ok (.iload_n 2, 1) := by decide +kernel
theorem dX4_request_79 : decode cX4_request 79 = .ok (.iload_n 3, 1) := by decide +kernel
theorem dX4_request_80 : decode cX4_request 80 = .ok (.iload 4, 2) := by decide +kernel
theorem dX4_request_82 : decode cX4_request 82 = .ok (.iload 5, 2) := by decide +kernel
theorem dX4_request_84 : decode cX4_request 84 = .ok (.iload 6, 2) := by decide +kernel
theorem dX4_request_86 : decode cX4_request 86 = .ok (.iload 7, 2) := by decide +kernel
theorem dX4_request_88 : decode cX4_request 88 = .ok (.invokevirtual 58, 3) := by decide +kernel
theorem dX4_request_91 : decode cX4_request 91 = .ok (.putfield 46, 3) := by decide +kernel
theorem dX4_request_94 : decode cX4_request 94 = .ok (.aload 8, 2) := by decide +kernel
theorem dX4_request_96 : decode cX4_request 96 = .ok (.iconst 1, 1) := by decide +kernel
theorem dX4_request_97 : decode cX4_request 97 = .ok (.iconst 0, 1) := by decide +kernel
theorem dX4_request_98 : decode cX4_request 98 = .ok (.invokevirtual 62, 3) := by decide +kernel
theorem dX4_request_101 : decode cX4_request 101 = .ok (.aload 8, 2) := by decide +kernel
theorem dX4_request_103 : decode cX4_request 103 = .ok (.getfield 46, 3) := by decide +kernel
theorem dX4_request_106 : decode cX4_request 106 = .ok (.invokevirtual 54, 3) := by decide +kernel
theorem dX4_request_109 : decode cX4_request 109 = .ok (.ireturn, 1) := by decide +kernel
set_option maxRecDepth 20000 in
theorem ggX4_deliver_X3_standing : GoodIn wsX4_deliver wsX3_standing := goodIn_r _ [10, 11, 12, 13, 14, 9, 15, 16, 17, 190, 191, 192, 193, 194, 195, 196, 197, 198, 199, 200] (by decide +kernel) (by decide +kernel)
set_option maxRecDepth 20000 in
theorem gX4_deliver_X3_standing : GoodIn wsX4_deliver (wsV RX4 66 RX3 yX3_standing wsX3_standing) := goodIn_app (goodIn_of _ (by decide +kernel)) ggX4_deliver_X3_standing
set_option maxRecDepth 20000 in
theorem ggX4_deliver_X4_lineBetween : GoodIn wsX4_deliver wsX4_lineBetween := goodIn_r _ [22, 23, 24, 25, 26, 5, 27, 28, 29, 187, 188, 189] (by decide +kernel) (by decide +kernel)
set_option maxRecDepth 20000 in
theorem gX4_deliver_X4_lineBetween : GoodIn wsX4_deliver (wsV RX4 79 RX4 yX4_lineBetween wsX4_lineBetween) := goodIn_app (goodIn_of _ (by decide +kernel)) ggX4_deliver_X4_lineBetween
set_option maxRecDepth 20000 in
theorem ggX4_deliver_X2_hear : GoodIn wsX4_deliver wsX2_hear := goodIn_r _ [34, 35, 36, 37, 38, 39, 40, 33, 41, 42, 43, 44, 45, 46, 47, 48, 49, 50, 51, 52, 53, 54, 55, 56, 57, 58, 59, 60, 61, 62, 63, 64, 65, 66, 67, 68, 69, 70, 71, 72, 9, 73, 16, 17, 74, 75, 76, 77, 78, 79, 80, 81, 82, 83, 84, 85, 86, 87, 88, 89, 28, 25, 29, 90, 91, 92, 93, 94, 95, 96, 97, 98, 99, 100, 101, 102, 103, 104, 105, 106, 107, 108, 109, 110, 24, 26, 111, 112, 113, 114, 115, 116, 117, 118, 119, 120, 121, 122, 123, 124, 125, 126, 127, 128, 129, 130, 131, 132, 133, 134, 135, 136, 137, 138, 139, 140, 141, 142, 143, 144, 145, 146, 147, 148, 149, 150, 151, 152, 153, 154, 155, 156, 157, 158, 159, 160, 161, 162, 163, 164, 165, 166, 167, 168, 169, 170, 171, 172, 173, 174, 175, 176, 177, 178, 179, 180, 181, 182, 183, 184, 185, 186, 190, 191, 192, 193, 194, 195, 196, 197, 201, 202, 203, 204, 205, 206, 207, 208, 209, 210, 211, 212, 213, 214, 215, 216, 217, 198, 199, 200, 218] (by decide +kernel) (by decide +kernel)
set_option maxRecDepth 20000 in
theorem gX4_deliver_X2_hear : GoodIn wsX4_deliver (wsV RX4 83 RX2 yX2_hear wsX2_hear) := goodIn_app (goodIn_of _ (by decide +kernel)) ggX4_deliver_X2_hear
theorem dX4_deliver_0 : decode cX4_deliver 0 = .ok (.aload_n 0, 1) := by decide +kernel
theorem dX4_deliver_1 : decode cX4_deliver 1 = .ok (.getfield 15, 3) := by decide +kernel
theorem dX4_deliver_4 : decode cX4_deliver 4 = .ok (.iload_n 1, 1) := by decide +kernel
theorem dX4_deliver_5 : decode cX4_deliver 5 = .ok (.invokevirtual 66, 3) := by decide +kernel
theorem dX4_deliver_8 : decode cX4_deliver 8 = .ok (.astore_n 2, 1) := by decide +kernel
theorem dX4_deliver_9 : decode cX4_deliver 9 = .ok (.aload_n 2, 1) := by decide +kernel
theorem dX4_deliver_10 : decode cX4_deliver 10 = .ok (.ifnonnull 6, 3) := by decide +kernel
theorem dX4_deliver_13 : decode cX4_deliver 13 = .ok (.bipush (-2), 2) := by decide +kernel
theorem dX4_deliver_15 : decode cX4_deliver 15 = .ok (.ireturn, 1) := by decide +kernel
theorem dX4_deliver_16 : decode cX4_deliver 16 = .ok (.aload_n 0, 1) := by decide +kernel
theorem dX4_deliver_17 : decode cX4_deliver 17 = .ok (.getfield 30, 3) := by decide +kernel
theorem dX4_deliver_20 : decode cX4_deliver 20 = .ok (.aload_n 0, 1) := by decide +kernel
theorem dX4_deliver_21 : decode cX4_deliver 21 = .ok (.aload_n 2, 1) := by decide +kernel
theorem dX4_deliver_22 : decode cX4_deliver 22 = .ok (.getfield 70, 3) := by decide +kernel
theorem dX4_deliver_25 : decode cX4_deliver 25 = .ok (.aload_n 2, 1) := by decide +kernel
theorem dX4_deliver_26 : decode cX4_deliver 26 = .ok (.getfield 76, 3) := by decide +kernel
theorem dX4_deliver_29 : decode cX4_deliver 29 = .ok (.invokevirtual 79, 3) := by decide +kernel
theorem dX4_deliver_32 : decode cX4_deliver 32 = .ok (.baload, 1) := by decide +kernel
theorem dX4_deliver_33 : decode cX4_deliver 33 = .ok (.ifCond .eq 6, 3) := by decide +kernel
theorem dX4_deliver_36 : decode cX4_deliver 36 = .ok (.bipush (-3), 2) := by decide +kernel
theorem dX4_deliver_38 : decode cX4_deliver 38 = .ok (.ireturn, 1) := by decide +kernel
theorem dX4_deliver_39 : decode cX4_deliver 39 = .ok (.aload_n 0, 1) := by decide +kernel
theorem dX4_deliver_40 : decode cX4_deliver 40 = .ok (.getfield 23, 3) := by decide +kernel
theorem dX4_deliver_43 : decode cX4_deliver 43 = .ok (.aload_n 2, 1) := by decide +kernel
theorem dX4_deliver_44 : decode cX4_deliver 44 = .ok (.getfield 76, 3) := by decide +kernel
theorem dX4_deliver_47 : decode cX4_deliver 47 = .ok (.aaload, 1) := by decide +kernel
theorem dX4_deliver_48 : decode cX4_deliver 48 = .ok (.aload_n 2, 1) := by decide +kernel
theorem dX4_deliver_49 : decode cX4_deliver 49 = .ok (.invokevirtual 83, 3) := by decide +kernel
theorem dX4_deliver_52 : decode cX4_deliver 52 = .ok (.ifCond .eq 7, 3) := by decide +kernel
theorem dX4_deliver_55 : decode cX4_deliver 55 = .ok (.iconst 1, 1) := by decide +kernel
theorem dX4_deliver_56 : decode cX4_deliver 56 = .ok (.goto 4, 3) := by decide +kernel
theorem dX4_deliver_59 : decode cX4_deliver 59 = .ok (.iconst 0, 1) := by decide +kernel
theorem dX4_deliver_60 : decode cX4_deliver 60 = .ok (.ireturn, 1) := by decide +kernel
set_option maxRecDepth 20000 in
theorem ggX4_drop_X3_standing : GoodIn wsX4_drop wsX3_standing := goodIn_r _ [7, 8, 9, 10, 11, 6, 12, 13, 14, 18, 19, 20, 21, 22, 23, 24, 25, 26, 27, 28] (by decide +kernel) (by decide +kernel)
set_option maxRecDepth 20000 in
theorem gX4_drop_X3_standing : GoodIn wsX4_drop (wsV RX4 66 RX3 yX3_standing wsX3_standing) := goodIn_app (goodIn_of _ (by decide +kernel)) ggX4_drop_X3_standing
theorem dX4_drop_0 : decode cX4_drop 0 = .ok (.aload_n 0, 1) := by decide +kernel
theorem dX4_drop_1 : decode cX4_drop 1 = .ok (.getfield 15, 3) := by decide +kernel
theorem dX4_drop_4 : decode cX4_drop 4 = .ok (.iload_n 1, 1) := by decide +kernel
theorem dX4_drop_5 : decode cX4_drop 5 = .ok (.invokevirtual 66, 3) := by decide +kernel
theorem dX4_drop_8 : decode cX4_drop 8 = .ok (.astore_n 2, 1) := by decide +kernel
theorem dX4_drop_9 : decode cX4_drop 9 = .ok (.aload_n 2, 1) := by decide +kernel
theorem dX4_drop_10 : decode cX4_drop 10 = .ok (.ifnonnull 6, 3) := by decide +kernel
theorem dX4_drop_13 : decode cX4_drop 13 = .ok (.bipush (-2), 2) := by decide +kernel
theorem dX4_drop_15 : decode cX4_drop 15 = .ok (.ireturn, 1) := by decide +kernel
theorem dX4_drop_16 : decode cX4_drop 16 = .ok (.aload_n 2, 1) := by decide +kernel
theorem dX4_drop_17 : decode cX4_drop 17 = .ok (.iconst 1, 1) := by decide +kernel
theorem dX4_drop_18 : decode cX4_drop 18 = .ok (.putfield 87, 3) := by decide +kernel
theorem dX4_drop_21 : decode cX4_drop 21 = .ok (.iconst 1, 1) := by decide +kernel
theorem dX4_drop_22 : decode cX4_drop 22 = .ok (.ireturn, 1) := by decide +kernel
set_option maxRecDepth 20000 in
theorem ggX4_cut_X4_nodeAt : GoodIn wsX4_cut wsX4_nodeAt := goodIn_r _ [6, 7, 19, 20, 21] (by decide +kernel) (by decide +kernel)
set_option maxRecDepth 20000 in
theorem gX4_cut_X4_nodeAt : GoodIn wsX4_cut (wsV RX4 34 RX4 yX4_nodeAt wsX4_nodeAt) := goodIn_app (goodIn_of _ (by decide +kernel)) ggX4_cut_X4_nodeAt
set_option maxRecDepth 20000 in
theorem ggX4_cut_X4_lineBetween : GoodIn wsX4_cut wsX4_lineBetween := goodIn_r _ [11, 12, 13, 14, 15, 7, 16, 17, 18, 19, 20, 21] (by decide +kernel) (by decide +kernel)
set_option maxRecDepth 20000 in
theorem gX4_cut_X4_lineBetween : GoodIn wsX4_cut (wsV RX4 79 RX4 yX4_lineBetween wsX4_lineBetween) := goodIn_app (goodIn_of _ (by decide +kernel)) ggX4_cut_X4_lineBetween
theorem dX4_cut_0 : decode cX4_cut 0 = .ok (.aload_n 0, 1) := by decide +kernel
theorem dX4_cut_1 : decode cX4_cut 1 = .ok (.iload_n 1, 1) := by decide +kernel
theorem dX4_cut_2 : decode cX4_cut 2 = .ok (.invokevirtual 34, 3) := by decide +kernel
theorem dX4_cut_5 : decode cX4_cut 5 = .ok (.ifnull 16, 3) := by decide +kernel
theorem dX4_cut_8 : decode cX4_cut 8 = .ok (.aload_n 0, 1) := by decide +kernel
theorem dX4_cut_9 : decode cX4_cut 9 = .ok (.iload_n 2, 1) := by decide +kernel
theorem dX4_cut_10 : decode cX4_cut 10 = .ok (.invokevirtual 34, 3) := by decide +kernel
theorem dX4_cut_13 : decode cX4_cut 13 = .ok (.ifnull 8, 3) := by decide +kernel
theorem dX4_cut_16 : decode cX4_cut 16 = .ok (.iload_n 1, 1) := by decide +kernel
theorem dX4_cut_17 : decode cX4_cut 17 = .ok (.iload_n 2, 1) := by decide +kernel
theorem dX4_cut_18 : decode cX4_cut 18 = .ok (.if_icmp .ne 6, 3) := by decide +kernel
theorem dX4_cut_21 : decode cX4_cut 21 = .ok (.bipush (-2), 2) := by decide +kernel
theorem dX4_cut_23 : decode cX4_cut 23 = .ok (.ireturn, 1) := by decide +kernel
theorem dX4_cut_24 : decode cX4_cut 24 = .ok (.aload_n 0, 1) := by decide +kernel
theorem dX4_cut_25 : decode cX4_cut 25 = .ok (.iload_n 1, 1) := by decide +kernel
theorem dX4_cut_26 : decode cX4_cut 26 = .ok (.iload_n 2, 1) := by decide +kernel
theorem dX4_cut_27 : decode cX4_cut 27 = .ok (.invokevirtual 79, 3) := by decide +kernel
theorem dX4_cut_30 : decode cX4_cut 30 = .ok (.istore 4, 2) := by decide +kernel
theorem dX4_cut_32 : decode cX4_cut 32 = .ok (.aload_n 0, 1) := by decide +kernel
theorem dX4_cut_33 : decode cX4_cut 33 = .ok (.getfield 30, 3) := by decide +kernel
theorem dX4_cut_36 : decode cX4_cut 36 = .ok (.iload 4, 2) := by decide +kernel
theorem dX4_cut_38 : decode cX4_cut 38 = .ok (.baload, 1) := by decide +kernel
theorem dX4_cut_39 : decode cX4_cut 39 = .ok (.ifCond .eq 7, 3) := by decide +kernel
theorem dX4_cut_42 : decode cX4_cut 42 = .ok (.iconst 1, 1) := by decide +kernel
theorem dX4_cut_43 : decode cX4_cut 43 = .ok (.goto 4, 3) := by decide +kernel
theorem dX4_cut_46 : decode cX4_cut 46 = .ok (.iconst 0, 1) := by decide +kernel
theorem dX4_cut_47 : decode cX4_cut 47 = .ok (.istore 5, 2) := by decide +kernel
theorem dX4_cut_49 : decode cX4_cut 49 = .ok (.aload_n 0, 1) := by decide +kernel
theorem dX4_cut_50 : decode cX4_cut 50 = .ok (.getfield 30, 3) := by decide +kernel
theorem dX4_cut_53 : decode cX4_cut 53 = .ok (.iload 4, 2) := by decide +kernel
theorem dX4_cut_55 : decode cX4_cut 55 = .ok (.iload_n 3, 1) := by decide +kernel
theorem dX4_cut_56 : decode cX4_cut 56 = .ok (.bastore, 1) := by decide +kernel
theorem dX4_cut_57 : decode cX4_cut 57 = .ok (.iload 5, 2) := by decide +kernel
theorem dX4_cut_59 : decode cX4_cut 59 = .ok (.ireturn, 1) := by decide +kernel
set_option maxRecDepth 20000 in
theorem ggX4_timeout_X4_nodeAt : GoodIn wsX4_timeout wsX4_nodeAt := goodIn_r _ [6, 7, 81, 82, 83] (by decide +kernel) (by decide +kernel)
set_option maxRecDepth 20000 in
theorem gX4_timeout_X4_nodeAt : GoodIn wsX4_timeout (wsV RX4 34 RX4 yX4_nodeAt wsX4_nodeAt) := goodIn_app (goodIn_of _ (by decide +kernel)) ggX4_timeout_X4_nodeAt
set_option maxRecDepth 20000 in
theorem ggX4_timeout_X2_isDown : GoodIn wsX4_timeout wsX2_isDown := goodIn_r _ [12, 13, 64, 65, 66, 67, 68, 69, 70, 71, 72, 73, 74, 75, 76, 77, 78, 79, 80] (by decide +kernel) (by decide +kernel)
set_option maxRecDepth 20000 in
theorem gX4_timeout_X2_isDown : GoodIn wsX4_timeout (wsV RX4 91 RX2 yX2_isDown wsX2_isDown) := goodIn_app (goodIn_of _ (by decide +kernel)) ggX4_timeout_X2_isDown
set_option maxRecDepth 20000 in
theorem ggX4_timeout_X2_changeTo : GoodIn wsX4_timeout wsX2_changeTo := goodIn_r _ [17, 18, 13, 19, 20, 21, 11, 22, 23, 24, 25, 26, 27, 28, 29, 30, 31, 32, 33, 34, 35, 36, 37, 38, 39, 40, 41, 42, 43, 44, 45, 46, 47, 48, 49, 50, 51, 52, 53, 54, 55, 56, 57, 58, 59, 60, 61, 62, 63, 64, 65, 66, 67, 68, 69, 70, 71, 72, 73, 74, 75, 76, 77, 78, 79, 80, 84, 85, 86, 87, 88, 89, 90, 91, 92, 93, 94] (by decide +kernel) (by decide +kernel)
set_option maxRecDepth 20000 in
theorem gX4_timeout_X2_changeTo : GoodIn wsX4_timeout (wsV RX4 97 RX2 yX2_changeTo wsX2_changeTo) := goodIn_app (goodIn_of _ (by decide +kernel)) ggX4_timeout_X2_changeTo
theorem dX4_timeout_0 : decode cX4_timeout 0 = .ok (.aload_n 0, 1) := by decide +kernel
theorem dX4_timeout_1 : decode cX4_timeout 1 = .ok (.iload_n 1, 1) := by decide +kernel
theorem dX4_timeout_2 : decode cX4_timeout 2 = .ok (.invokevirtual 34, 3) := by decide +kernel
theorem dX4_timeout_5 : decode cX4_timeout 5 = .ok (.astore_n 2, 1) := by decide +kernel
theorem dX4_timeout_6 : decode cX4_timeout 6 = .ok (.aload_n 2, 1) := by decide +kernel
theorem dX4_timeout_7 : decode cX4_timeout 7 = .ok (.ifnonnull 6, 3) := by decide +kernel
theorem dX4_timeout_10 : decode cX4_timeout 10 = .ok (.bipush (-2), 2) := by decide +kernel
theorem dX4_timeout_12 : decode cX4_timeout 12 = .ok (.ireturn, 1) := by decide +kernel
theorem dX4_timeout_13 : decode cX4_timeout 13 = .ok (.aload_n 2, 1) := by decide +kernel
theorem dX4_timeout_14 : decode cX4_timeout 14 = .ok (.invokevirtual 91, 3) := by decide +kernel
theorem dX4_timeout_17 : decode cX4_timeout 17 = .ok (.ifCond .eq 6, 3) := by decide +kernel
theorem dX4_timeout_20 : decode cX4_timeout 20 = .ok (.bipush (-3), 2) := by decide +kernel
theorem dX4_timeout_22 : decode cX4_timeout 22 = .ok (.ireturn, 1) := by decide +kernel
theorem dX4_timeout_23 : decode cX4_timeout 23 = .ok (.aload_n 2, 1) := by decide +kernel
theorem dX4_timeout_24 : decode cX4_timeout 24 = .ok (.getfield 94, 3) := by decide +kernel
theorem dX4_timeout_27 : decode cX4_timeout 27 = .ok (.sipush 1000, 3) := by decide +kernel
theorem dX4_timeout_30 : decode cX4_timeout 30 = .ok (.if_icmp .lt 6, 3) := by decide +kernel
theorem dX4_timeout_33 : decode cX4_timeout 33 = .ok (.bipush (-4), 2) := by decide +kernel
theorem dX4_timeout_35 : decode cX4_timeout 35 = .ok (.ireturn, 1) := by decide +kernel
theorem dX4_timeout_36 : decode cX4_timeout 36 = .ok (.aload_n 2, 1) := by decide +kernel
theorem dX4_timeout_37 : decode cX4_timeout 37 = .ok (.aload_n 2, 1) := by decide +kernel
theorem dX4_timeout_38 : decode cX4_timeout 38 = .ok (.getfield 94, 3) := by decide +kernel
theorem dX4_timeout_41 : decode cX4_timeout 41 = .ok (.iconst 1, 1) := by decide +kernel
theorem dX4_timeout_42 : decode cX4_timeout 42 = .ok (.iadd, 1) := by decide +kernel
theorem dX4_timeout_43 : decode cX4_timeout 43 = .ok (.invokevirtual 97, 3) := by decide +kernel
theorem dX4_timeout_46 : decode cX4_timeout 46 = .ok (.aload_n 2, 1) := by decide +kernel
theorem dX4_timeout_47 : decode cX4_timeout 47 = .ok (.getfield 94, 3) := by decide +kernel
theorem dX4_timeout_50 : decode cX4_timeout 50 = .ok (.ireturn, 1) := by decide +kernel
set_option maxRecDepth 20000 in
theorem ggX4_resend_X4_nodeAt : GoodIn wsX4_resend wsX4_nodeAt := goodIn_r _ [6, 7, 96, 97, 98] (by decide +kernel) (by decide +kernel)
set_option maxRecDepth 20000 in
theorem gX4_resend_X4_nodeAt : GoodIn wsX4_resend (wsV RX4 34 RX4 yX4_nodeAt wsX4_nodeAt) := goodIn_app (goodIn_of _ (by decide +kernel)) ggX4_resend_X4_nodeAt
set_option maxRecDepth 20000 in
theorem ggX4_resend_X2_postAgain : GoodIn wsX4_resend wsX2_postAgain := goodIn_r _ [12, 13, 14, 15, 16, 17, 18, 19, 11, 20, 21, 22, 23, 24, 25, 26, 27, 28, 29, 30, 31, 32, 33, 34, 35, 36, 37, 38, 39, 40, 41, 42, 43, 44, 45, 46, 47, 48, 49, 50, 51, 52, 53, 54, 55, 56, 57, 58, 59, 60, 61, 62, 63, 64, 65, 66, 67, 68, 69, 70, 71, 72, 73, 74, 75, 76, 77, 78, 79, 80, 81, 82, 83, 84, 85, 86, 87, 88, 89, 90, 91, 92, 93, 94, 95, 99, 100, 101, 102, 103, 104, 105, 106, 107, 108, 109, 110] (by decide +kernel) (by decide +kernel)
set_option maxRecDepth 20000 in
theorem gX4_resend_X2_postAgain : GoodIn wsX4_resend (wsV RX4 104 RX2 yX2_postAgain wsX2_postAgain) := goodIn_app (goodIn_of _ (by decide +kernel)) ggX4_resend_X2_postAgain
theorem dX4_resend_0 : decode cX4_resend 0 = .ok (.aload_n 0, 1) := by decide +kernel
theorem dX4_resend_1 : decode cX4_resend 1 = .ok (.iload_n 1, 1) := by decide +kernel
theorem dX4_resend_2 : decode cX4_resend 2 = .ok (.invokevirtual 34, 3) := by decide +kernel
theorem dX4_resend_5 : decode cX4_resend 5 = .ok (.astore_n 2, 1) := by decide +kernel
theorem dX4_resend_6 : decode cX4_resend 6 = .ok (.aload_n 2, 1) := by decide +kernel
theorem dX4_resend_7 : decode cX4_resend 7 = .ok (.ifnonnull 6, 3) := by decide +kernel
theorem dX4_resend_10 : decode cX4_resend 10 = .ok (.bipush (-2), 2) := by decide +kernel
theorem dX4_resend_12 : decode cX4_resend 12 = .ok (.ireturn, 1) := by decide +kernel
theorem dX4_resend_13 : decode cX4_resend 13 = .ok (.aload_n 2, 1) := by decide +kernel
theorem dX4_resend_14 : decode cX4_resend 14 = .ok (.getfield 101, 3) := by decide +kernel
theorem dX4_resend_17 : decode cX4_resend 17 = .ok (.iconst 3, 1) := by decide +kernel
theorem dX4_resend_18 : decode cX4_resend 18 = .ok (.if_icmp .ne 8, 3) := by decide +kernel
theorem dX4_resend_21 : decode cX4_resend 21 = .ok (.bipush (-3), 2) := by decide +kernel
theorem dX4_resend_23 : decode cX4_resend 23 = .ok (.goto 7, 3) := by decide +kernel
theorem dX4_resend_26 : decode cX4_resend 26 = .ok (.aload_n 2, 1) := by decide +kernel
theorem dX4_resend_27 : decode cX4_resend 27 = .ok (.invokevirtual 104, 3) := by decide +kernel
theorem dX4_resend_30 : decode cX4_resend 30 = .ok (.ireturn, 1) := by decide +kernel
set_option maxRecDepth 20000 in
theorem ggX4_crash_X4_nodeAt : GoodIn wsX4_crash wsX4_nodeAt := goodIn_r _ [7, 8, 62, 63, 64] (by decide +kernel) (by decide +kernel)
set_option maxRecDepth 20000 in
theorem gX4_crash_X4_nodeAt : GoodIn wsX4_crash (wsV RX4 34 RX4 yX4_nodeAt wsX4_nodeAt) := goodIn_app (goodIn_of _ (by decide +kernel)) ggX4_crash_X4_nodeAt
set_option maxRecDepth 20000 in
theorem ggX4_crash_X1_size : GoodIn wsX4_crash wsX1_size := goodIn_r _ [13, 14, 65] (by decide +kernel) (by decide +kernel)
set_option maxRecDepth 20000 in
theorem gX4_crash_X1_size : GoodIn wsX4_crash (wsV RX4 54 RX1 yX1_size wsX1_size) := goodIn_app (goodIn_of _ (by decide +kernel)) ggX4_crash_X1_size
set_option maxRecDepth 20000 in
theorem ggX4_crash_X2_loseAll : GoodIn wsX4_crash wsX2_loseAll := goodIn_r _ [19, 20, 21, 22, 23, 24, 25, 26, 27, 28, 29, 30, 18, 31, 32, 33, 34, 35, 36, 37, 38, 39, 40, 41, 42, 43, 44, 45, 46, 47, 48, 49, 50, 51, 52, 53, 54, 55, 56, 57, 58, 59, 60, 61] (by decide +kernel) (by decide +kernel)
set_option maxRecDepth 20000 in
theorem gX4_crash_X2_loseAll : GoodIn wsX4_crash (wsV RX4 107 RX2 yX2_loseAll wsX2_loseAll) := goodIn_app (goodIn_of _ (by decide +kernel)) ggX4_crash_X2_loseAll
theorem dX4_crash_0 : decode cX4_crash 0 = .ok (.aload_n 0, 1) := by decide +kernel
theorem dX4_crash_1 : decode cX4_crash 1 = .ok (.iload_n 1, 1) := by decide +kernel
theorem dX4_crash_2 : decode cX4_crash 2 = .ok (.invokevirtual 34, 3) := by decide +kernel
theorem dX4_crash_5 : decode cX4_crash 5 = .ok (.astore_n 2, 1) := by decide +kernel
theorem dX4_crash_6 : decode cX4_crash 6 = .ok (.aload_n 2, 1) := by decide +kernel
theorem dX4_crash_7 : decode cX4_crash 7 = .ok (.ifnonnull 6, 3) := by decide +kernel
theorem dX4_crash_10 : decode cX4_crash 10 = .ok (.bipush (-2), 2) := by decide +kernel
theorem dX4_crash_12 : decode cX4_crash 12 = .ok (.ireturn, 1) := by decide +kernel
theorem dX4_crash_13 : decode cX4_crash 13 = .ok (.aload_n 2, 1) := by decide +kernel
theorem dX4_crash_14 : decode cX4_crash 14 = .ok (.getfield 101, 3) := by decide +kernel
theorem dX4_crash_17 : decode cX4_crash 17 = .ok (.iconst 3, 1) := by decide +kernel
theorem dX4_crash_18 : decode cX4_crash 18 = .ok (.if_icmp .ne 6, 3) := by decide +kernel
theorem dX4_crash_21 : decode cX4_crash 21 = .ok (.bipush (-3), 2) := by decide +kernel
theorem dX4_crash_23 : decode cX4_crash 23 = .ok (.ireturn, 1) := by decide +kernel
theorem dX4_crash_24 : decode cX4_crash 24 = .ok (.aload_n 2, 1) := by decide +kernel
theorem dX4_crash_25 : decode cX4_crash 25 = .ok (.getfield 46, 3) := by decide +kernel
theorem dX4_crash_28 : decode cX4_crash 28 = .ok (.invokevirtual 54, 3) := by decide +kernel
theorem dX4_crash_31 : decode cX4_crash 31 = .ok (.istore_n 3, 1) := by decide +kernel
theorem dX4_crash_32 : decode cX4_crash 32 = .ok (.aload_n 2, 1) := by decide +kernel
theorem dX4_crash_33 : decode cX4_crash 33 = .ok (.invokevirtual 107, 3) := by decide +kernel
theorem dX4_crash_36 : decode cX4_crash 36 = .ok (.iload_n 3, 1) := by decide +kernel
theorem dX4_crash_37 : decode cX4_crash 37 = .ok (.ireturn, 1) := by decide +kernel
set_option maxRecDepth 20000 in
theorem ggX4_recover_X4_nodeAt : GoodIn wsX4_recover wsX4_nodeAt := goodIn_r _ [7, 8, 77, 78, 79] (by decide +kernel) (by decide +kernel)
set_option maxRecDepth 20000 in
theorem gX4_recover_X4_nodeAt : GoodIn wsX4_recover (wsV RX4 34 RX4 yX4_nodeAt wsX4_nodeAt) := goodIn_app (goodIn_of _ (by decide +kernel)) ggX4_recover_X4_nodeAt
set_option maxRecDepth 20000 in
theorem ggX4_recover_X2_startRecovery : GoodIn wsX4_recover wsX2_startRecovery := goodIn_r _ [13, 14, 15, 16, 17, 18, 12, 19, 20, 21, 22, 23, 24, 25, 26, 27, 28, 29, 30, 31, 32, 33, 34, 35, 36, 37, 38, 39, 40, 41, 42, 43, 44, 45, 46, 47, 48, 49, 50, 51, 52, 53, 54, 55, 56, 57, 58, 59, 60, 61, 62, 63, 64, 65, 66, 67, 68, 69, 70, 71, 72, 73, 74, 75, 76, 80, 81, 82, 83, 84, 85, 86, 87, 88, 89, 90] (by decide +kernel) (by decide +kernel)
set_option maxRecDepth 20000 in
theorem gX4_recover_X2_startRecovery : GoodIn wsX4_recover (wsV RX4 111 RX2 yX2_startRecovery wsX2_startRecovery) := goodIn_app (goodIn_of _ (by decide +kernel)) ggX4_recover_X2_startRecovery
theorem dX4_recover_0 : decode cX4_recover 0 = .ok (.aload_n 0, 1) := by decide +kernel
theorem dX4_recover_1 : decode cX4_recover 1 = .ok (.iload_n 1, 1) := by decide +kernel
theorem dX4_recover_2 : decode cX4_recover 2 = .ok (.invokevirtual 34, 3) := by decide +kernel
theorem dX4_recover_5 : decode cX4_recover 5 = .ok (.astore_n 3, 1) := by decide +kernel
theorem dX4_recover_6 : decode cX4_recover 6 = .ok (.aload_n 3, 1) := by decide +kernel
theorem dX4_recover_7 : decode cX4_recover 7 = .ok (.ifnull 13, 3) := by decide +kernel
theorem dX4_recover_10 : decode cX4_recover 10 = .ok (.iload_n 2, 1) := by decide +kernel
theorem dX4_recover_11 : decode cX4_recover 11 = .ok (.ifCond .lt 9, 3) := by decide +kernel
theorem dX4_recover_14 : decode cX4_recover 14 = .ok (.iload_n 2, 1) := by decide +kernel
theorem dX4_recover_15 : decode cX4_recover 15 = .ok (.ldc 110, 2) := by decide +kernel
theorem dX4_recover_17 : decode cX4_recover 17 = .ok (.if_icmp .le 6, 3) := by decide +kernel
theorem dX4_recover_20 : decode cX4_recover 20 = .ok (.bipush (-2), 2) := by decide +kernel
theorem dX4_recover_22 : decode cX4_recover 22 = .ok (.ireturn, 1) := by decide +kernel
theorem dX4_recover_23 : decode cX4_recover 23 = .ok (.aload_n 3, 1) := by decide +kernel
theorem dX4_recover_24 : decode cX4_recover 24 = .ok (.getfield 101, 3) := by decide +kernel
theorem dX4_recover_27 : decode cX4_recover 27 = .ok (.iconst 3, 1) := by decide +kernel
theorem dX4_recover_28 : decode cX4_recover 28 = .ok (.if_icmp .eq 6, 3) := by decide +kernel
theorem dX4_recover_31 : decode cX4_recover 31 = .ok (.bipush (-3), 2) := by decide +kernel
theorem dX4_recover_33 : decode cX4_recover 33 = .ok (.ireturn, 1) := by decide +kernel
theorem dX4_recover_34 : decode cX4_recover 34 = .ok (.aload_n 3, 1) := by decide +kernel
theorem dX4_recover_35 : decode cX4_recover 35 = .ok (.iload_n 2, 1) := by decide +kernel
theorem dX4_recover_36 : decode cX4_recover 36 = .ok (.invokevirtual 111, 3) := by decide +kernel
theorem dX4_recover_39 : decode cX4_recover 39 = .ok (.iconst 1, 1) := by decide +kernel
theorem dX4_recover_40 : decode cX4_recover 40 = .ok (.ireturn, 1) := by decide +kernel
set_option maxRecDepth 20000 in
theorem ggX4_node_X4_nodeAt : GoodIn wsX4_node wsX4_nodeAt := goodIn_r _ [5, 6, 37, 38, 39] (by decide +kernel) (by decide +kernel)
set_option maxRecDepth 20000 in
theorem gX4_node_X4_nodeAt : GoodIn wsX4_node (wsV RX4 34 RX4 yX4_nodeAt wsX4_nodeAt) := goodIn_app (goodIn_of _ (by decide +kernel)) ggX4_node_X4_nodeAt
set_option maxRecDepth 20000 in
theorem ggX4_node_X2_field : GoodIn wsX4_node wsX2_field := goodIn_r _ [11, 12, 13, 14, 15, 16, 17, 18, 19, 20, 21, 22, 23, 24, 25, 26, 27, 28, 29, 30, 31, 32, 33, 34, 35, 10, 36, 40, 41, 42, 43, 44, 45, 46, 47, 48, 49, 50, 51, 52, 53, 54, 55, 56, 57] (by decide +kernel) (by decide +kernel)
set_option maxRecDepth 20000 in
theorem gX4_node_X2_field : GoodIn wsX4_node (wsV RX4 114 RX2 yX2_field wsX2_field) := goodIn_app (goodIn_of _ (by decide +kernel)) ggX4_node_X2_field
theorem dX4_node_0 : decode cX4_node 0 = .ok (.aload_n 0, 1) := by decide +kernel
theorem dX4_node_1 : decode cX4_node 1 = .ok (.iload_n 1, 1) := by decide +kernel
theorem dX4_node_2 : decode cX4_node 2 = .ok (.invokevirtual 34, 3) := by decide +kernel
theorem dX4_node_5 : decode cX4_node 5 = .ok (.astore_n 3, 1) := by decide +kernel
theorem dX4_node_6 : decode cX4_node 6 = .ok (.aload_n 3, 1) := by decide +kernel
theorem dX4_node_7 : decode cX4_node 7 = .ok (.ifnonnull 8, 3) := by decide +kernel
theorem dX4_node_10 : decode cX4_node 10 = .ok (.bipush (-2), 2) := by decide +kernel
theorem dX4_node_12 : decode cX4_node 12 = .ok (.goto 8, 3) := by decide +kernel
theorem dX4_node_15 : decode cX4_node 15 = .ok (.aload_n 3, 1) := by decide +kernel
theorem dX4_node_16 : decode cX4_node 16 = .ok (.iload_n 2, 1) := by decide +kernel
theorem dX4_node_17 : decode cX4_node 17 = .ok (.invokevirtual 114, 3) := by decide +kernel
theorem dX4_node_20 : decode cX4_node 20 = .ok (.ireturn, 1) := by decide +kernel
set_option maxRecDepth 20000 in
theorem ggX4_entry_X4_nodeAt : GoodIn wsX4_entry wsX4_nodeAt := goodIn_r _ [7, 8, 37, 38, 39] (by decide +kernel) (by decide +kernel)
set_option maxRecDepth 20000 in
theorem gX4_entry_X4_nodeAt : GoodIn wsX4_entry (wsV RX4 34 RX4 yX4_nodeAt wsX4_nodeAt) := goodIn_app (goodIn_of _ (by decide +kernel)) ggX4_entry_X4_nodeAt
set_option maxRecDepth 20000 in
theorem ggX4_entry_X1_field : GoodIn wsX4_entry wsX1_field := goodIn_r _ [13, 14, 15, 16, 17, 18, 12, 19, 40] (by decide +kernel) (by decide +kernel)
set_option maxRecDepth 20000 in
theorem gX4_entry_X1_field : GoodIn wsX4_entry (wsV RX4 119 RX1 yX1_field wsX1_field) := goodIn_app (goodIn_of _ (by decide +kernel)) ggX4_entry_X1_field
theorem dX4_entry_0 : decode cX4_entry 0 = .ok (.aload_n 0, 1) := by decide +kernel
theorem dX4_entry_1 : decode cX4_entry 1 = .ok (.iload_n 1, 1) := by decide +kernel
theorem dX4_entry_2 : decode cX4_entry 2 = .ok (.invokevirtual 34, 3) := by decide +kernel
theorem dX4_entry_5 : decode cX4_entry 5 = .ok (.astore 4, 2) := by decide +kernel
theorem dX4_entry_7 : decode cX4_entry 7 = .ok (.aload 4, 2) := by decide +kernel
theorem dX4_entry_9 : decode cX4_entry 9 = .ok (.ifnonnull 8, 3) := by decide +kernel
theorem dX4_entry_12 : decode cX4_entry 12 = .ok (.ldc 118, 2) := by decide +kernel
theorem dX4_entry_14 : decode cX4_entry 14 = .ok (.goto 13, 3) := by decide +kernel
theorem dX4_entry_17 : decode cX4_entry 17 = .ok (.aload 4, 2) := by decide +kernel
theorem dX4_entry_19 : decode cX4_entry 19 = .ok (.getfield 46, 3) := by decide +kernel
theorem dX4_entry_22 : decode cX4_entry 22 = .ok (.iload_n 2, 1) := by decide +kernel
theorem dX4_entry_23 : decode cX4_entry 23 = .ok (.iload_n 3, 1) := by decide +kernel
theorem dX4_entry_24 : decode cX4_entry 24 = .ok (.invokevirtual 119, 3) := by decide +kernel
theorem dX4_entry_27 : decode cX4_entry 27 = .ok (.ireturn, 1) := by decide +kernel
set_option maxRecDepth 20000 in
theorem ggX4_register_X4_nodeAt : GoodIn wsX4_register wsX4_nodeAt := goodIn_r _ [6, 7, 35, 36, 37] (by decide +kernel) (by decide +kernel)
set_option maxRecDepth 20000 in
theorem gX4_register_X4_nodeAt : GoodIn wsX4_register (wsV RX4 34 RX4 yX4_nodeAt wsX4_nodeAt) := goodIn_app (goodIn_of _ (by decide +kernel)) ggX4_register_X4_nodeAt
set_option maxRecDepth 20000 in
theorem ggX4_register_X2_workOutRegisters : GoodIn wsX4_register wsX2_workOutRegisters := goodIn_r _ [12, 13, 14, 15, 16, 17, 18, 19, 20, 21, 22, 23, 24, 25, 26, 27, 28, 29, 30, 31, 32, 33, 34, 38, 39, 40, 41, 42, 43, 44, 45, 46, 47, 48, 49, 50, 51, 52, 53, 54, 55] (by decide +kernel) (by decide +kernel)
set_option maxRecDepth 20000 in
theorem gX4_register_X2_workOutRegisters : GoodIn wsX4_register (wsV RX4 121 RX2 yX2_workOutRegisters wsX2_workOutRegisters) := goodIn_app (goodIn_of _ (by decide +kernel)) ggX4_register_X2_workOutRegisters
theorem dX4_register_0 : decode cX4_register 0 = .ok (.aload_n 0, 1) := by decide +kernel
theorem dX4_register_1 : decode cX4_register 1 = .ok (.iload_n 1, 1) := by decide +kernel
theorem dX4_register_2 : decode cX4_register 2 = .ok (.invokevirtual 34, 3) := by decide +kernel
theorem dX4_register_5 : decode cX4_register 5 = .ok (.astore_n 3, 1) := by decide +kernel
theorem dX4_register_6 : decode cX4_register 6 = .ok (.aload_n 3, 1) := by decide +kernel
theorem dX4_register_7 : decode cX4_register 7 = .ok (.ifnull 13, 3) := by decide +kernel
theorem dX4_register_10 : decode cX4_register 10 = .ok (.iload_n 2, 1) := by decide +kernel
theorem dX4_register_11 : decode cX4_register 11 = .ok (.ifCond .lt 9, 3) := by decide +kernel
theorem dX4_register_14 : decode cX4_register 14 = .ok (.iload_n 2, 1) := by decide +kernel
theorem dX4_register_15 : decode cX4_register 15 = .ok (.bipush 8, 2) := by decide +kernel
theorem dX4_register_17 : decode cX4_register 17 = .ok (.if_icmp .lt 6, 3) := by decide +kernel
theorem dX4_register_20 : decode cX4_register 20 = .ok (.ldc 118, 2) := by decide +kernel
theorem dX4_register_22 : decode cX4_register 22 = .ok (.ireturn, 1) := by decide +kernel
theorem dX4_register_23 : decode cX4_register 23 = .ok (.aload_n 3, 1) := by decide +kernel
theorem dX4_register_24 : decode cX4_register 24 = .ok (.invokevirtual 121, 3) := by decide +kernel
theorem dX4_register_27 : decode cX4_register 27 = .ok (.iload_n 2, 1) := by decide +kernel
theorem dX4_register_28 : decode cX4_register 28 = .ok (.iaload, 1) := by decide +kernel
theorem dX4_register_29 : decode cX4_register 29 = .ok (.ireturn, 1) := by decide +kernel
set_option maxRecDepth 20000 in
theorem ggX4_known_X4_nodeAt : GoodIn wsX4_known wsX4_nodeAt := goodIn_r _ [6, 7, 42, 43, 44] (by decide +kernel) (by decide +kernel)
set_option maxRecDepth 20000 in
theorem gX4_known_X4_nodeAt : GoodIn wsX4_known (wsV RX4 34 RX4 yX4_nodeAt wsX4_nodeAt) := goodIn_app (goodIn_of _ (by decide +kernel)) ggX4_known_X4_nodeAt
set_option maxRecDepth 20000 in
theorem ggX4_known_X2_leads : GoodIn wsX4_known wsX2_leads := goodIn_r _ [12, 13, 14, 15, 16, 11, 17, 18, 19, 20, 21, 22, 23, 24, 25, 26, 27, 28, 29, 30, 31, 32, 33, 34, 35, 36, 37, 38, 39, 40, 41] (by decide +kernel) (by decide +kernel)
set_option maxRecDepth 20000 in
theorem gX4_known_X2_leads : GoodIn wsX4_known (wsV RX4 42 RX2 yX2_leads wsX2_leads) := goodIn_app (goodIn_of _ (by decide +kernel)) ggX4_known_X2_leads
theorem dX4_known_0 : decode cX4_known 0 = .ok (.aload_n 0, 1) := by decide +kernel
theorem dX4_known_1 : decode cX4_known 1 = .ok (.iload_n 1, 1) := by decide +kernel
theorem dX4_known_2 : decode cX4_known 2 = .ok (.invokevirtual 34, 3) := by decide +kernel
theorem dX4_known_5 : decode cX4_known 5 = .ok (.astore_n 3, 1) := by decide +kernel
theorem dX4_known_6 : decode cX4_known 6 = .ok (.aload_n 3, 1) := by decide +kernel
theorem dX4_known_7 : decode cX4_known 7 = .ok (.ifnull 16, 3) := by decide +kernel
theorem dX4_known_10 : decode cX4_known 10 = .ok (.aload_n 0, 1) := by decide +kernel
theorem dX4_known_11 : decode cX4_known 11 = .ok (.iload_n 2, 1) := by decide +kernel
theorem dX4_known_12 : decode cX4_known 12 = .ok (.invokevirtual 34, 3) := by decide +kernel
theorem dX4_known_15 : decode cX4_known 15 = .ok (.ifnull 8, 3) := by decide +kernel
theorem dX4_known_18 : decode cX4_known 18 = .ok (.iload_n 1, 1) := by decide +kernel
theorem dX4_known_19 : decode cX4_known 19 = .ok (.iload_n 2, 1) := by decide +kernel
theorem dX4_known_20 : decode cX4_known 20 = .ok (.if_icmp .ne 6, 3) := by decide +kernel
theorem dX4_known_23 : decode cX4_known 23 = .ok (.bipush (-2), 2) := by decide +kernel
theorem dX4_known_25 : decode cX4_known 25 = .ok (.ireturn, 1) := by decide +kernel
theorem dX4_known_26 : decode cX4_known 26 = .ok (.aload_n 3, 1) := by decide +kernel
theorem dX4_known_27 : decode cX4_known 27 = .ok (.invokevirtual 42, 3) := by decide +kernel
theorem dX4_known_30 : decode cX4_known 30 = .ok (.ifCond .eq 12, 3) := by decide +kernel
theorem dX4_known_33 : decode cX4_known 33 = .ok (.aload_n 3, 1) := by decide +kernel
theorem dX4_known_34 : decode cX4_known 34 = .ok (.getfield 125, 3) := by decide +kernel
theorem dX4_known_37 : decode cX4_known 37 = .ok (.iload_n 2, 1) := by decide +kernel
theorem dX4_known_38 : decode cX4_known 38 = .ok (.iaload, 1) := by decide +kernel
theorem dX4_known_39 : decode cX4_known 39 = .ok (.goto 5, 3) := by decide +kernel
theorem dX4_known_42 : decode cX4_known 42 = .ok (.bipush (-3), 2) := by decide +kernel
theorem dX4_known_44 : decode cX4_known 44 = .ok (.ireturn, 1) := by decide +kernel
set_option maxRecDepth 20000 in
theorem ggX4_letter_X3_at : GoodIn wsX4_letter wsX3_at := goodIn_r _ [6, 7, 8, 31, 32, 33] (by decide +kernel) (by decide +kernel)
set_option maxRecDepth 20000 in
theorem gX4_letter_X3_at : GoodIn wsX4_letter (wsV RX4 129 RX3 yX3_at wsX3_at) := goodIn_app (goodIn_of _ (by decide +kernel)) ggX4_letter_X3_at
set_option maxRecDepth 20000 in
theorem ggX4_letter_X0_field : GoodIn wsX4_letter wsX0_field := goodIn_r _ [13, 14, 15, 16, 17, 18, 19, 20, 21, 22, 23, 24, 25, 26, 27, 34, 35, 36, 37, 38, 39, 40, 41, 42] (by decide +kernel) (by decide +kernel)
set_option maxRecDepth 20000 in
theorem gX4_letter_X0_field : GoodIn wsX4_letter (wsV RX4 132 RX0 yX0_field wsX0_field) := goodIn_app (goodIn_of _ (by decide +kernel)) ggX4_letter_X0_field
theorem dX4_letter_0 : decode cX4_letter 0 = .ok (.aload_n 0, 1) := by decide +kernel
theorem dX4_letter_1 : decode cX4_letter 1 = .ok (.getfield 15, 3) := by decide +kernel
theorem dX4_letter_4 : decode cX4_letter 4 = .ok (.iload_n 1, 1) := by decide +kernel
theorem dX4_letter_5 : decode cX4_letter 5 = .ok (.invokevirtual 129, 3) := by decide +kernel
theorem dX4_letter_8 : decode cX4_letter 8 = .ok (.astore_n 3, 1) := by decide +kernel
theorem dX4_letter_9 : decode cX4_letter 9 = .ok (.aload_n 3, 1) := by decide +kernel
theorem dX4_letter_10 : decode cX4_letter 10 = .ok (.ifnonnull 8, 3) := by decide +kernel
theorem dX4_letter_13 : decode cX4_letter 13 = .ok (.bipush (-2), 2) := by decide +kernel
theorem dX4_letter_15 : decode cX4_letter 15 = .ok (.goto 8, 3) := by decide +kernel
theorem dX4_letter_18 : decode cX4_letter 18 = .ok (.aload_n 3, 1) := by decide +kernel
theorem dX4_letter_19 : decode cX4_letter 19 = .ok (.iload_n 2, 1) := by decide +kernel
theorem dX4_letter_20 : decode cX4_letter 20 = .ok (.invokevirtual 132, 3) := by decide +kernel
theorem dX4_letter_23 : decode cX4_letter 23 = .ok (.ireturn, 1) := by decide +kernel
set_option maxRecDepth 20000 in
theorem ggX4_count_X3_countDropped : GoodIn wsX4_count wsX3_countDropped := goodIn_r _ [8, 9, 10, 26, 27, 28, 29, 30, 31, 32, 33, 34, 35, 36] (by decide +kernel) (by decide +kernel)
set_option maxRecDepth 20000 in
theorem gX4_count_X3_countDropped : GoodIn wsX4_count (wsV RX4 136 RX3 yX3_countDropped wsX3_countDropped) := goodIn_app (goodIn_of _ (by decide +kernel)) ggX4_count_X3_countDropped
set_option maxRecDepth 20000 in
theorem ggX4_count_X4_countCutLines : GoodIn wsX4_count wsX4_countCutLines := goodIn_r _ [15, 16, 23, 24, 25] (by decide +kernel) (by decide +kernel)
set_option maxRecDepth 20000 in
theorem gX4_count_X4_countCutLines : GoodIn wsX4_count (wsV RX4 142 RX4 yX4_countCutLines wsX4_countCutLines) := goodIn_app (goodIn_of _ (by decide +kernel)) ggX4_count_X4_countCutLines
set_option maxRecDepth 20000 in
theorem ggX4_count_X4_countNormal : GoodIn wsX4_count wsX4_countNormal := goodIn_r _ [20, 21, 22, 23, 24, 25, 37, 38, 39, 40, 41, 42, 43, 44, 45, 46, 47, 48, 49, 50, 51, 52, 53] (by decide +kernel) (by decide +kernel)
set_option maxRecDepth 20000 in
theorem gX4_count_X4_countNormal : GoodIn wsX4_count (wsV RX4 145 RX4 yX4_countNormal wsX4_countNormal) := goodIn_app (goodIn_of _ (by decide +kernel)) ggX4_count_X4_countNormal
theorem dX4_count_0 : decode cX4_count 0 = .ok (.iload_n 1, 1) := by decide +kernel
theorem dX4_count_1 : decode cX4_count 1 = .ok (.tableswitch 69 0 4 #[35, 43, 51, 59, 64], 35) := by decide +kernel
theorem dX4_count_36 : decode cX4_count 36 = .ok (.aload_n 0, 1) := by decide +kernel
theorem dX4_count_37 : decode cX4_count 37 = .ok (.getfield 15, 3) := by decide +kernel
theorem dX4_count_40 : decode cX4_count 40 = .ok (.getfield 133, 3) := by decide +kernel
theorem dX4_count_43 : decode cX4_count 43 = .ok (.ireturn, 1) := by decide +kernel
theorem dX4_count_44 : decode cX4_count 44 = .ok (.aload_n 0, 1) := by decide +kernel
theorem dX4_count_45 : decode cX4_count 45 = .ok (.getfield 15, 3) := by decide +kernel
theorem dX4_count_48 : decode cX4_count 48 = .ok (.invokevirtual 136, 3) := by decide +kernel
theorem dX4_count_51 : decode cX4_count 51 = .ok (.ireturn, 1) := by decide +kernel
theorem dX4_count_52 : decode cX4_count 52 = .ok (.aload_n 0, 1) := by decide +kernel
theorem dX4_count_53 : decode cX4_count 53 = .ok (.getfield 15, 3) := by decide +kernel
theorem dX4_count_56 : decode cX4_count 56 = .ok (.getfield 139, 3) := by decide +kernel
theorem dX4_count_59 : decode cX4_count 59 = .ok (.ireturn, 1) := by decide +kernel
theorem dX4_count_60 : decode cX4_count 60 = .ok (.aload_n 0, 1) := by decide +kernel
theorem dX4_count_61 : decode cX4_count 61 = .ok (.invokevirtual 142, 3) := by decide +kernel
theorem dX4_count_64 : decode cX4_count 64 = .ok (.ireturn, 1) := by decide +kernel
theorem dX4_count_65 : decode cX4_count 65 = .ok (.aload_n 0, 1) := by decide +kernel
theorem dX4_count_66 : decode cX4_count 66 = .ok (.invokevirtual 145, 3) := by decide +kernel
theorem dX4_count_69 : decode cX4_count 69 = .ok (.ireturn, 1) := by decide +kernel
theorem dX4_count_70 : decode cX4_count 70 = .ok (.bipush (-2), 2) := by decide +kernel
theorem dX4_count_72 : decode cX4_count 72 = .ok (.ireturn, 1) := by decide +kernel
set_option maxRecDepth 20000 in
theorem ggX4_unlike_X1_isLike : GoodIn wsX4_unlike wsX1_isLike := goodIn_r _ [12, 13, 14, 15, 11, 16, 17, 18, 19, 20, 21, 22, 43] (by decide +kernel) (by decide +kernel)
set_option maxRecDepth 20000 in
theorem gX4_unlike_X1_isLike : GoodIn wsX4_unlike (wsV RX4 156 RX1 yX1_isLike wsX1_isLike) := goodIn_app (goodIn_of _ (by decide +kernel)) ggX4_unlike_X1_isLike
theorem dX4_unlike_0 : decode cX4_unlike 0 = .ok (.iconst 0, 1) := by decide +kernel
theorem dX4_unlike_1 : decode cX4_unlike 1 = .ok (.istore_n 1, 1) := by decide +kernel
theorem dX4_unlike_2 : decode cX4_unlike 2 = .ok (.iload_n 1, 1) := by decide +kernel
theorem dX4_unlike_3 : decode cX4_unlike 3 = .ok (.aload_n 0, 1) := by decide +kernel
theorem dX4_unlike_4 : decode cX4_unlike 4 = .ok (.getfield 23, 3) := by decide +kernel
theorem dX4_unlike_7 : decode cX4_unlike 7 = .ok (.arraylength, 1) := by decide +kernel
theorem dX4_unlike_8 : decode cX4_unlike 8 = .ok (.if_icmp .ge 82, 3) := by decide +kernel
theorem dX4_unlike_11 : decode cX4_unlike 11 = .ok (.iload_n 1, 1) := by decide +kernel
theorem dX4_unlike_12 : decode cX4_unlike 12 = .ok (.iconst 1, 1) := by decide +kernel
theorem dX4_unlike_13 : decode cX4_unlike 13 = .ok (.iadd, 1) := by decide +kernel
theorem dX4_unlike_14 : decode cX4_unlike 14 = .ok (.istore_n 2, 1) := by decide +kernel
theorem dX4_unlike_15 : decode cX4_unlike 15 = .ok (.iload_n 2, 1) := by decide +kernel
theorem dX4_unlike_16 : decode cX4_unlike 16 = .ok (.aload_n 0, 1) := by decide +kernel
theorem dX4_unlike_17 : decode cX4_unlike 17 = .ok (.getfield 23, 3) := by decide +kernel
theorem dX4_unlike_20 : decode cX4_unlike 20 = .ok (.arraylength, 1) := by decide +kernel
theorem dX4_unlike_21 : decode cX4_unlike 21 = .ok (.if_icmp .ge 63, 3) := by decide +kernel
theorem dX4_unlike_24 : decode cX4_unlike 24 = .ok (.aload_n 0, 1) := by decide +kernel
theorem dX4_unlike_25 : decode cX4_unlike 25 = .ok (.getfield 23, 3) := by decide +kernel
theorem dX4_unlike_28 : decode cX4_unlike 28 = .ok (.iload_n 1, 1) := by decide +kernel
theorem dX4_unlike_29 : decode cX4_unlike 29 = .ok (.aaload, 1) := by decide +kernel
theorem dX4_unlike_30 : decode cX4_unlike 30 = .ok (.getfield 148, 3) := by decide +kernel
theorem dX4_unlike_33 : decode cX4_unlike 33 = .ok (.aload_n 0, 1) := by decide +kernel
theorem dX4_unlike_34 : decode cX4_unlike 34 = .ok (.getfield 23, 3) := by decide +kernel
theorem dX4_unlike_37 : decode cX4_unlike 37 = .ok (.iload_n 2, 1) := by decide +kernel
theorem dX4_unlike_38 : decode cX4_unlike 38 = .ok (.aaload, 1) := by decide +kernel
theorem dX4_unlike_39 : decode cX4_unlike 39 = .ok (.getfield 148, 3) := by decide +kernel
theorem dX4_unlike_42 : decode cX4_unlike 42 = .ok (.invokestatic 151, 3) := by decide +kernel
theorem dX4_unlike_45 : decode cX4_unlike 45 = .ok (.istore_n 3, 1) := by decide +kernel
theorem dX4_unlike_46 : decode cX4_unlike 46 = .ok (.aload_n 0, 1) := by decide +kernel
theorem dX4_unlike_47 : decode cX4_unlike 47 = .ok (.getfield 23, 3) := by decide +kernel
theorem dX4_unlike_50 : decode cX4_unlike 50 = .ok (.iload_n 1, 1) := by decide +kernel
theorem dX4_unlike_51 : decode cX4_unlike 51 = .ok (.aaload, 1) := by decide +kernel
theorem dX4_unlike_52 : decode cX4_unlike 52 = .ok (.getfield 46, 3) := by decide +kernel
theorem dX4_unlike_55 : decode cX4_unlike 55 = .ok (.aload_n 0, 1) := by decide +kernel
theorem dX4_unlike_56 : decode cX4_unlike 56 = .ok (.getfield 23, 3) := by decide +kernel
theorem dX4_unlike_59 : decode cX4_unlike 59 = .ok (.iload_n 2, 1) := by decide +kernel
theorem dX4_unlike_60 : decode cX4_unlike 60 = .ok (.aaload, 1) := by decide +kernel
theorem dX4_unlike_61 : decode cX4_unlike 61 = .ok (.getfield 46, 3) := by decide +kernel
theorem dX4_unlike_64 : decode cX4_unlike 64 = .ok (.iload_n 3, 1) := by decide +kernel
theorem dX4_unlike_65 : decode cX4_unlike 65 = .ok (.invokevirtual 156, 3) := by decide +kernel
theorem dX4_unlike_68 : decode cX4_unlike 68 = .ok (.ifCond .ne 10, 3) := by decide +kernel
theorem dX4_unlike_71 : decode cX4_unlike 71 = .ok (.bipush 10, 2) := by decide +kernel
theorem dX4_unlike_73 : decode cX4_unlike 73 = .ok (.iload_n 1, 1) := by decide +kernel
theorem dX4_unlike_74 : decode cX4_unlike 74 = .ok (.imul, 1) := by decide +kernel
theorem dX4_unlike_75 : decode cX4_unlike 75 = .ok (.iload_n 2, 1) := by decide +kernel
theorem dX4_unlike_76 : decode cX4_unlike 76 = .ok (.iadd, 1) := by decide +kernel
theorem dX4_unlike_77 : decode cX4_unlike 77 = .ok (.ireturn, 1) := by decide +kernel
theorem dX4_unlike_78 : decode cX4_unlike 78 = .ok (.iinc 2 1, 3) := by decide +kernel
theorem dX4_unlike_81 : decode cX4_unlike 81 = .ok (.goto (-66), 3) := by decide +kernel
theorem dX4_unlike_84 : decode cX4_unlike 84 = .ok (.iinc 1 1, 3) := by decide +kernel
theorem dX4_unlike_87 : decode cX4_unlike 87 = .ok (.goto (-85), 3) := by decide +kernel
theorem dX4_unlike_90 : decode cX4_unlike 90 = .ok (.iconst (-1), 1) := by decide +kernel
theorem dX4_unlike_91 : decode cX4_unlike 91 = .ok (.ireturn, 1) := by decide +kernel
set_option maxRecDepth 20000 in
theorem ggX4_digest_X4_digestOfNode : GoodIn wsX4_digest wsX4_digestOfNode := goodIn_r _ [9, 5, 10, 11, 12, 13, 14, 15, 16, 17, 18, 19, 20, 21, 22, 23, 24, 25, 26, 27, 28, 29, 30, 31, 32, 33, 34, 35, 36, 37, 38, 39, 40, 41, 42, 43, 44, 45, 46, 47, 48, 49, 50, 51, 52, 53, 54, 55, 56, 57, 58, 59, 60, 61, 93, 94, 95, 96, 97, 98, 99, 100, 101, 102, 103, 104, 105, 106, 107, 108, 109, 110] (by decide +kernel) (by decide +kernel)
set_option maxRecDepth 20000 in
theorem gX4_digest_X4_digestOfNode : GoodIn wsX4_digest (va_wsS RX4 162 yX4_digestOfNode wsX4_digestOfNode) := goodIn_app (goodIn_of _ (by decide +kernel)) ggX4_digest_X4_digestOfNode
set_option maxRecDepth 20000 in
theorem ggX4_digest_X4_letter : GoodIn wsX4_digest wsX4_letter := goodIn_r _ [65, 3, 66, 67, 68, 69, 70, 71, 72, 73, 74, 75, 76, 77, 78, 79, 80, 81, 82, 83, 84, 85, 86, 26, 27, 28, 29, 30, 87, 88, 89, 90, 91, 92, 111, 112, 113, 114, 115, 116, 117, 118, 110] (by decide +kernel) (by decide +kernel)
set_option maxRecDepth 20000 in
theorem gX4_digest_X4_letter : GoodIn wsX4_digest (wsV RX4 168 RX4 yX4_letter wsX4_letter) := goodIn_app (goodIn_of _ (by decide +kernel)) ggX4_digest_X4_letter
theorem dX4_digest_0 : decode cX4_digest 0 = .ok (.ldc2_w 160, 3) := by decide +kernel
theorem dX4_digest_3 : decode cX4_digest 3 = .ok (.lstore_n 1, 1) := by decide +kernel
theorem dX4_digest_4 : decode cX4_digest 4 = .ok (.aload_n 0, 1) := by decide +kernel
theorem dX4_digest_5 : decode cX4_digest 5 = .ok (.getfield 23, 3) := by decide +kernel
theorem dX4_digest_8 : decode cX4_digest 8 = .ok (.astore_n 3, 1) := by decide +kernel
theorem dX4_digest_9 : decode cX4_digest 9 = .ok (.aload_n 3, 1) := by decide +kernel
theorem dX4_digest_10 : decode cX4_digest 10 = .ok (.arraylength, 1) := by decide +kernel
theorem dX4_digest_11 : decode cX4_digest 11 = .ok (.istore 4, 2) := by decide +kernel
theorem dX4_digest_13 : decode cX4_digest 13 = .ok (.iconst 0, 1) := by decide +kernel
theorem dX4_digest_14 : decode cX4_digest 14 = .ok (.istore 5, 2) := by decide +kernel
theorem dX4_digest_16 : decode cX4_digest 16 = .ok (.iload 5, 2) := by decide +kernel
theorem dX4_digest_18 : decode cX4_digest 18 = .ok (.iload 4, 2) := by decide +kernel
theorem dX4_digest_20 : decode cX4_digest 20 = .ok (.if_icmp .ge 22, 3) := by decide +kernel
theorem dX4_digest_23 : decode cX4_digest 23 = .ok (.aload_n 3, 1) := by decide +kernel
theorem dX4_digest_24 : decode cX4_digest 24 = .ok (.iload 5, 2) := by decide +kernel
theorem dX4_digest_26 : decode cX4_digest 26 = .ok (.aaload, 1) := by decide +kernel
theorem dX4_digest_27 : decode cX4_digest 27 = .ok (.astore 6, 2) := by decide +kernel
theorem dX4_digest_29 : decode cX4_digest 29 = .ok (.lload_n 1, 1) := by decide +kernel
theorem dX4_digest_30 : decode cX4_digest 30 = .ok (.aload 6, 2) := by decide +kernel
theorem dX4_digest_32 : decode cX4_digest 32 = .ok (.invokestatic 162, 3) := by decide +kernel
theorem dX4_digest_35 : decode cX4_digest 35 = .ok (.lstore_n 1, 1) := by decide +kernel
theorem dX4_digest_36 : decode cX4_digest 36 = .ok (.iinc 5 1, 3) := by decide +kernel
theorem dX4_digest_39 : decode cX4_digest 39 = .ok (.goto (-23), 3) := by decide +kernel
theorem dX4_digest_42 : decode cX4_digest 42 = .ok (.iconst 0, 1) := by decide +kernel
theorem dX4_digest_43 : decode cX4_digest 43 = .ok (.istore_n 3, 1) := by decide +kernel
theorem dX4_digest_44 : decode cX4_digest 44 = .ok (.iload_n 3, 1) := by decide +kernel
theorem dX4_digest_45 : decode cX4_digest 45 = .ok (.aload_n 0, 1) := by decide +kernel
theorem dX4_digest_46 : decode cX4_digest 46 = .ok (.getfield 15, 3) := by decide +kernel
theorem dX4_digest_49 : decode cX4_digest 49 = .ok (.getfield 133, 3) := by decide +kernel
theorem dX4_digest_52 : decode cX4_digest 52 = .ok (.if_icmp .ge 40, 3) := by decide +kernel
theorem dX4_digest_55 : decode cX4_digest 55 = .ok (.iconst 0, 1) := by decide +kernel
theorem dX4_digest_56 : decode cX4_digest 56 = .ok (.istore 4, 2) := by decide +kernel
theorem dX4_digest_58 : decode cX4_digest 58 = .ok (.iload 4, 2) := by decide +kernel
theorem dX4_digest_60 : decode cX4_digest 60 = .ok (.bipush 8, 2) := by decide +kernel
theorem dX4_digest_62 : decode cX4_digest 62 = .ok (.if_icmp .ge 24, 3) := by decide +kernel
theorem dX4_digest_65 : decode cX4_digest 65 = .ok (.ldc2_w 166, 3) := by decide +kernel
theorem dX4_digest_68 : decode cX4_digest 68 = .ok (.lload_n 1, 1) := by decide +kernel
theorem dX4_digest_69 : decode cX4_digest 69 = .ok (.lmul, 1) := by decide +kernel
theorem dX4_digest_70 : decode cX4_digest 70 = .ok (.aload_n 0, 1) := by decide +kernel
theorem dX4_digest_71 : decode cX4_digest 71 = .ok (.iload_n 3, 1) := by decide +kernel
theorem dX4_digest_72 : decode cX4_digest 72 = .ok (.iload 4, 2) := by decide +kernel
theorem dX4_digest_74 : decode cX4_digest 74 = .ok (.invokevirtual 168, 3) := by decide +kernel
theorem dX4_digest_77 : decode cX4_digest 77 = .ok (.i2l, 1) := by decide +kernel
theorem dX4_digest_78 : decode cX4_digest 78 = .ok (.ladd, 1) := by decide +kernel
theorem dX4_digest_79 : decode cX4_digest 79 = .ok (.lstore_n 1, 1) := by decide +kernel
theorem dX4_digest_80 : decode cX4_digest 80 = .ok (.iinc 4 1, 3) := by decide +kernel
theorem dX4_digest_83 : decode cX4_digest 83 = .ok (.goto (-25), 3) := by decide +kernel
theorem dX4_digest_86 : decode cX4_digest 86 = .ok (.iinc 3 1, 3) := by decide +kernel
theorem dX4_digest_89 : decode cX4_digest 89 = .ok (.goto (-45), 3) := by decide +kernel
theorem dX4_digest_92 : decode cX4_digest 92 = .ok (.lload_n 1, 1) := by decide +kernel
theorem dX4_digest_93 : decode cX4_digest 93 = .ok (.lreturn, 1) := by decide +kernel
set_option maxRecDepth 20000 in
theorem ggX4_digestOfNode_X2_field : GoodIn wsX4_digestOfNode wsX2_field := goodIn_r _ [7, 8, 9, 10, 11, 12, 13, 14, 15, 16, 17, 18, 19, 20, 21, 22, 23, 24, 25, 26, 27, 28, 29, 30, 31, 6, 32, 54, 55, 56, 57, 58, 59, 60, 61, 62, 63, 64, 65, 66, 67, 68, 69, 70, 71] (by decide +kernel) (by decide +kernel)
set_option maxRecDepth 20000 in
theorem gX4_digestOfNode_X2_field : GoodIn wsX4_digestOfNode (wsV RX4 114 RX2 yX2_field wsX2_field) := goodIn_app (goodIn_of _ (by decide +kernel)) ggX4_digestOfNode_X2_field
set_option maxRecDepth 20000 in
theorem ggX4_digestOfNode_X1_size : GoodIn wsX4_digestOfNode wsX1_size := goodIn_r _ [21, 22, 71] (by decide +kernel) (by decide +kernel)
set_option maxRecDepth 20000 in
theorem gX4_digestOfNode_X1_size : GoodIn wsX4_digestOfNode (wsV RX4 54 RX1 yX1_size wsX1_size) := goodIn_app (goodIn_of _ (by decide +kernel)) ggX4_digestOfNode_X1_size
set_option maxRecDepth 20000 in
theorem ggX4_digestOfNode_X1_field : GoodIn wsX4_digestOfNode wsX1_field := goodIn_r _ [37, 38, 22, 39, 18, 19, 20, 21, 71] (by decide +kernel) (by decide +kernel)
set_option maxRecDepth 20000 in
theorem gX4_digestOfNode_X1_field : GoodIn wsX4_digestOfNode (wsV RX4 119 RX1 yX1_field wsX1_field) := goodIn_app (goodIn_of _ (by decide +kernel)) ggX4_digestOfNode_X1_field
set_option maxRecDepth 20000 in
theorem ggX4_digestOfNode_X2_workOutRegisters : GoodIn wsX4_digestOfNode wsX2_workOutRegisters := goodIn_r _ [43, 44, 11, 12, 45, 46, 47, 48, 49, 50, 51, 20, 52, 53, 35, 36, 37, 38, 22, 39, 18, 19, 21, 54, 55, 56, 57, 58, 59, 60, 61, 62, 63, 64, 65, 66, 67, 68, 69, 70, 71] (by decide +kernel) (by decide +kernel)
set_option maxRecDepth 20000 in
theorem gX4_digestOfNode_X2_workOutRegisters : GoodIn wsX4_digestOfNode (wsV RX4 121 RX2 yX2_workOutRegisters wsX2_workOutRegisters) := goodIn_app (goodIn_of _ (by decide +kernel)) ggX4_digestOfNode_X2_workOutRegisters
theorem dX4_digestOfNode_0 : decode cX4_digestOfNode 0 = .ok (.lload_n 0, 1) := by decide +kernel
theorem dX4_digestOfNode_1 : decode cX4_digestOfNode 1 = .ok (.lstore_n 3, 1) := by decide +kernel
theorem dX4_digestOfNode_2 : decode cX4_digestOfNode 2 = .ok (.iconst 0, 1) := by decide +kernel
theorem dX4_digestOfNode_3 : decode cX4_digestOfNode 3 = .ok (.istore 5, 2) := by decide +kernel
theorem dX4_digestOfNode_5 : decode cX4_digestOfNode 5 = .ok (.iload 5, 2) := by decide +kernel
theorem dX4_digestOfNode_7 : decode cX4_digestOfNode 7 = .ok (.bipush 9, 2) := by decide +kernel
theorem dX4_digestOfNode_9 : decode cX4_digestOfNode 9 = .ok (.if_icmp .ge 23, 3) := by decide +kernel
theorem dX4_digestOfNode_12 : decode cX4_digestOfNode 12 = .ok (.ldc2_w 166, 3) := by decide +kernel
theorem dX4_digestOfNode_15 : decode cX4_digestOfNode 15 = .ok (.lload_n 3, 1) := by decide +kernel
theorem dX4_digestOfNode_16 : decode cX4_digestOfNode 16 = .ok (.lmul, 1) := by decide +kernel
theorem dX4_digestOfNode_17 : decode cX4_digestOfNode 17 = .ok (.aload_n 2, 1) := by decide +kernel
theorem dX4_digestOfNode_18 : decode cX4_digestOfNode 18 = .ok (.iload 5, 2) := by decide +kernel
theorem dX4_digestOfNode_20 : decode cX4_digestOfNode 20 = .ok (.invokevirtual 114, 3) := by decide +kernel
theorem dX4_digestOfNode_23 : decode cX4_digestOfNode 23 = .ok (.i2l, 1) := by decide +kernel
theorem dX4_digestOfNode_24 : decode cX4_digestOfNode 24 = .ok (.ladd, 1) := by decide +kernel
theorem dX4_digestOfNode_25 : decode cX4_digestOfNode 25 = .ok (.lstore_n 3, 1) := by decide +kernel
theorem dX4_digestOfNode_26 : decode cX4_digestOfNode 26 = .ok (.iinc 5 1, 3) := by decide +kernel
theorem dX4_digestOfNode_29 : decode cX4_digestOfNode 29 = .ok (.goto (-24), 3) := by decide +kernel
theorem dX4_digestOfNode_32 : decode cX4_digestOfNode 32 = .ok (.iconst 1, 1) := by decide +kernel
theorem dX4_digestOfNode_33 : decode cX4_digestOfNode 33 = .ok (.istore 5, 2) := by decide +kernel
theorem dX4_digestOfNode_35 : decode cX4_digestOfNode 35 = .ok (.iload 5, 2) := by decide +kernel
theorem dX4_digestOfNode_37 : decode cX4_digestOfNode 37 = .ok (.aload_n 2, 1) := by decide +kernel
theorem dX4_digestOfNode_38 : decode cX4_digestOfNode 38 = .ok (.getfield 46, 3) := by decide +kernel
theorem dX4_digestOfNode_41 : decode cX4_digestOfNode 41 = .ok (.invokevirtual 54, 3) := by decide +kernel
theorem dX4_digestOfNode_44 : decode cX4_digestOfNode 44 = .ok (.if_icmp .gt 44, 3) := by decide +kernel
theorem dX4_digestOfNode_47 : decode cX4_digestOfNode 47 = .ok (.iconst 0, 1) := by decide +kernel
theorem dX4_digestOfNode_48 : decode cX4_digestOfNode 48 = .ok (.istore 6, 2) := by decide +kernel
theorem dX4_digestOfNode_50 : decode cX4_digestOfNode 50 = .ok (.iload 6, 2) := by decide +kernel
theorem dX4_digestOfNode_52 : decode cX4_digestOfNode 52 = .ok (.bipush 6, 2) := by decide +kernel
theorem dX4_digestOfNode_54 : decode cX4_digestOfNode 54 = .ok (.if_icmp .ge 28, 3) := by decide +kernel
theorem dX4_digestOfNode_57 : decode cX4_digestOfNode 57 = .ok (.ldc2_w 166, 3) := by decide +kernel
theorem dX4_digestOfNode_60 : decode cX4_digestOfNode 60 = .ok (.lload_n 3, 1) := by decide +kernel
theorem dX4_digestOfNode_61 : decode cX4_digestOfNode 61 = .ok (.lmul, 1) := by decide +kernel
theorem dX4_digestOfNode_62 : decode cX4_digestOfNode 62 = .ok (.aload_n 2, 1) := by decide +kernel
theorem dX4_digestOfNode_63 : decode cX4_digestOfNode 63 = .ok (.getfield 46, 3) := by decide +kernel
theorem dX4_digestOfNode_66 : decode cX4_digestOfNode 66 = .ok (.iload 5, 2) := by decide +kernel
theorem dX4_digestOfNode_68 : decode cX4_digestOfNode 68 = .ok (.iload 6, 2) := by decide +kernel
theorem dX4_digestOfNode_70 : decode cX4_digestOfNode 70 = .ok (.invokevirtual 119, 3) := by decide +kernel
theorem dX4_digestOfNode_73 : decode cX4_digestOfNode 73 = .ok (.i2l, 1) := by decide +kernel
theorem dX4_digestOfNode_74 : decode cX4_digestOfNode 74 = .ok (.ladd, 1) := by decide +kernel
theorem dX4_digestOfNode_75 : decode cX4_digestOfNode 75 = .ok (.lstore_n 3, 1) := by decide +kernel
theorem dX4_digestOfNode_76 : decode cX4_digestOfNode 76 = .ok (.iinc 6 1, 3) := by decide +kernel
theorem dX4_digestOfNode_79 : decode cX4_digestOfNode 79 = .ok (.goto (-29), 3) := by decide +kernel
theorem dX4_digestOfNode_82 : decode cX4_digestOfNode 82 = .ok (.iinc 5 1, 3) := by decide +kernel
theorem dX4_digestOfNode_85 : decode cX4_digestOfNode 85 = .ok (.goto (-50), 3) := by decide +kernel
theorem dX4_digestOfNode_88 : decode cX4_digestOfNode 88 = .ok (.aload_n 2, 1) := by decide +kernel
theorem dX4_digestOfNode_89 : decode cX4_digestOfNode 89 = .ok (.invokevirtual 121, 3) := by decide +kernel
theorem dX4_digestOfNode_92 : decode cX4_digestOfNode 92 = .ok (.astore 5, 2) := by decide +kernel
theorem dX4_digestOfNode_94 : decode cX4_digestOfNode 94 = .ok (.aload 5, 2) := by decide +kernel
theorem dX4_digestOfNode_96 : decode cX4_digestOfNode 96 = .ok (.arraylength, 1) := by decide +kernel
theorem dX4_digestOfNode_97 : decode cX4_digestOfNode 97 = .ok (.istore 6, 2) := by decide +kernel
theorem dX4_digestOfNode_99 : decode cX4_digestOfNode 99 = .ok (.iconst 0, 1) := by decide +kernel
theorem dX4_digestOfNode_100 : decode cX4_digestOfNode 100 = .ok (.istore 7, 2) := by decide +kernel
theorem dX4_digestOfNode_102 : decode cX4_digestOfNode 102 = .ok (.iload 7, 2) := by decide +kernel
theorem dX4_digestOfNode_104 : decode cX4_digestOfNode 104 = .ok (.iload 6, 2) := by decide +kernel
theorem dX4_digestOfNode_106 : decode cX4_digestOfNode 106 = .ok (.if_icmp .ge 26, 3) := by decide +kernel
theorem dX4_digestOfNode_109 : decode cX4_digestOfNode 109 = .ok (.aload 5, 2) := by decide +kernel
theorem dX4_digestOfNode_111 : decode cX4_digestOfNode 111 = .ok (.iload 7, 2) := by decide +kernel
theorem dX4_digestOfNode_113 : decode cX4_digestOfNode 113 = .ok (.iaload, 1) := by decide +kernel
theorem dX4_digestOfNode_114 : decode cX4_digestOfNode 114 = .ok (.istore 8, 2) := by decide +kernel
theorem dX4_digestOfNode_116 : decode cX4_digestOfNode 116 = .ok (.ldc2_w 166, 3) := by decide +kernel
theorem dX4_digestOfNode_119 : decode cX4_digestOfNode 119 = .ok (.lload_n 3, 1) := by decide +kernel
theorem dX4_digestOfNode_120 : decode cX4_digestOfNode 120 = .ok (.lmul, 1) := by decide +kernel
theorem dX4_digestOfNode_121 : decode cX4_digestOfNode 121 = .ok (.iload 8, 2) := by decide +kernel
theorem dX4_digestOfNode_123 : decode cX4_digestOfNode 123 = .ok (.i2l, 1) := by decide +kernel
theorem dX4_digestOfNode_124 : decode cX4_digestOfNode 124 = .ok (.ladd, 1) := by decide +kernel
theorem dX4_digestOfNode_125 : decode cX4_digestOfNode 125 = .ok (.lstore_n 3, 1) := by decide +kernel
theorem dX4_digestOfNode_126 : decode cX4_digestOfNode 126 = .ok (.iinc 7 1, 3) := by decide +kernel
theorem dX4_digestOfNode_129 : decode cX4_digestOfNode 129 = .ok (.goto (-27), 3) := by decide +kernel
theorem dX4_digestOfNode_132 : decode cX4_digestOfNode 132 = .ok (.lload_n 3, 1) := by decide +kernel
theorem dX4_digestOfNode_133 : decode cX4_digestOfNode 133 = .ok (.lreturn, 1) := by decide +kernel
theorem dX4_nodeAt_0 : decode cX4_nodeAt 0 = .ok (.iload_n 1, 1) := by decide +kernel
theorem dX4_nodeAt_1 : decode cX4_nodeAt 1 = .ok (.ifCond .lt 21, 3) := by decide +kernel
theorem dX4_nodeAt_4 : decode cX4_nodeAt 4 = .ok (.iload_n 1, 1) := by decide +kernel
theorem dX4_nodeAt_5 : decode cX4_nodeAt 5 = .ok (.aload_n 0, 1) := by decide +kernel
theorem dX4_nodeAt_6 : decode cX4_nodeAt 6 = .ok (.getfield 23, 3) := by decide +kernel
theorem dX4_nodeAt_9 : decode cX4_nodeAt 9 = .ok (.arraylength, 1) := by decide +kernel
theorem dX4_nodeAt_10 : decode cX4_nodeAt 10 = .ok (.if_icmp .ge 12, 3) := by decide +kernel
theorem dX4_nodeAt_13 : decode cX4_nodeAt 13 = .ok (.aload_n 0, 1) := by decide +kernel
theorem dX4_nodeAt_14 : decode cX4_nodeAt 14 = .ok (.getfield 23, 3) := by decide +kernel
theorem dX4_nodeAt_17 : decode cX4_nodeAt 17 = .ok (.iload_n 1, 1) := by decide +kernel
theorem dX4_nodeAt_18 : decode cX4_nodeAt 18 = .ok (.aaload, 1) := by decide +kernel
theorem dX4_nodeAt_19 : decode cX4_nodeAt 19 = .ok (.goto 4, 3) := by decide +kernel
theorem dX4_nodeAt_22 : decode cX4_nodeAt 22 = .ok (.aconst_null, 1) := by decide +kernel
theorem dX4_nodeAt_23 : decode cX4_nodeAt 23 = .ok (.areturn, 1) := by decide +kernel
set_option maxRecDepth 20000 in
theorem ggX4_isEntry_X4_isBelow : GoodIn wsX4_isEntry wsX4_isBelow := goodIn_r _ [5] (by decide +kernel) (by decide +kernel)
set_option maxRecDepth 20000 in
theorem gX4_isEntry_X4_isBelow : GoodIn wsX4_isEntry (va_wsS RX4 171 yX4_isBelow wsX4_isBelow) := goodIn_app (goodIn_of _ (by decide +kernel)) ggX4_isEntry_X4_isBelow
theorem dX4_isEntry_0 : decode cX4_isEntry 0 = .ok (.iload_n 0, 1) := by decide +kernel
theorem dX4_isEntry_1 : decode cX4_isEntry 1 = .ok (.iconst 4, 1) := by decide +kernel
theorem dX4_isEntry_2 : decode cX4_isEntry 2 = .ok (.invokestatic 171, 3) := by decide +kernel
theorem dX4_isEntry_5 : decode cX4_isEntry 5 = .ok (.ifCond .eq 45, 3) := by decide +kernel
theorem dX4_isEntry_8 : decode cX4_isEntry 8 = .ok (.iload_n 1, 1) := by decide +kernel
theorem dX4_isEntry_9 : decode cX4_isEntry 9 = .ok (.iconst 1, 1) := by decide +kernel
theorem dX4_isEntry_10 : decode cX4_isEntry 10 = .ok (.if_icmp .lt 40, 3) := by decide +kernel
theorem dX4_isEntry_13 : decode cX4_isEntry 13 = .ok (.iload_n 1, 1) := by decide +kernel
theorem dX4_isEntry_14 : decode cX4_isEntry 14 = .ok (.ldc 110, 2) := by decide +kernel
theorem dX4_isEntry_16 : decode cX4_isEntry 16 = .ok (.if_icmp .gt 34, 3) := by decide +kernel
theorem dX4_isEntry_19 : decode cX4_isEntry 19 = .ok (.iload_n 2, 1) := by decide +kernel
theorem dX4_isEntry_20 : decode cX4_isEntry 20 = .ok (.iconst 3, 1) := by decide +kernel
theorem dX4_isEntry_21 : decode cX4_isEntry 21 = .ok (.invokestatic 171, 3) := by decide +kernel
theorem dX4_isEntry_24 : decode cX4_isEntry 24 = .ok (.ifCond .eq 26, 3) := by decide +kernel
theorem dX4_isEntry_27 : decode cX4_isEntry 27 = .ok (.iload_n 3, 1) := by decide +kernel
theorem dX4_isEntry_28 : decode cX4_isEntry 28 = .ok (.bipush 8, 2) := by decide +kernel
theorem dX4_isEntry_30 : decode cX4_isEntry 30 = .ok (.invokestatic 171, 3) := by decide +kernel
theorem dX4_isEntry_33 : decode cX4_isEntry 33 = .ok (.ifCond .eq 17, 3) := by decide +kernel
theorem dX4_isEntry_36 : decode cX4_isEntry 36 = .ok (.iload 4, 2) := by decide +kernel
theorem dX4_isEntry_38 : decode cX4_isEntry 38 = .ok (.bipush 8, 2) := by decide +kernel
theorem dX4_isEntry_40 : decode cX4_isEntry 40 = .ok (.invokestatic 171, 3) := by decide +kernel
theorem dX4_isEntry_43 : decode cX4_isEntry 43 = .ok (.ifCond .eq 7, 3) := by decide +kernel
theorem dX4_isEntry_46 : decode cX4_isEntry 46 = .ok (.iconst 1, 1) := by decide +kernel
theorem dX4_isEntry_47 : decode cX4_isEntry 47 = .ok (.goto 4, 3) := by decide +kernel
theorem dX4_isEntry_50 : decode cX4_isEntry 50 = .ok (.iconst 0, 1) := by decide +kernel
theorem dX4_isEntry_51 : decode cX4_isEntry 51 = .ok (.ireturn, 1) := by decide +kernel
theorem dX4_isBelow_0 : decode cX4_isBelow 0 = .ok (.iload_n 0, 1) := by decide +kernel
theorem dX4_isBelow_1 : decode cX4_isBelow 1 = .ok (.ifCond .lt 12, 3) := by decide +kernel
theorem dX4_isBelow_4 : decode cX4_isBelow 4 = .ok (.iload_n 0, 1) := by decide +kernel
theorem dX4_isBelow_5 : decode cX4_isBelow 5 = .ok (.iload_n 1, 1) := by decide +kernel
theorem dX4_isBelow_6 : decode cX4_isBelow 6 = .ok (.if_icmp .ge 7, 3) := by decide +kernel
theorem dX4_isBelow_9 : decode cX4_isBelow 9 = .ok (.iconst 1, 1) := by decide +kernel
theorem dX4_isBelow_10 : decode cX4_isBelow 10 = .ok (.goto 4, 3) := by decide +kernel
theorem dX4_isBelow_13 : decode cX4_isBelow 13 = .ok (.iconst 0, 1) := by decide +kernel
theorem dX4_isBelow_14 : decode cX4_isBelow 14 = .ok (.ireturn, 1) := by decide +kernel
theorem dX4_lineBetween_0 : decode cX4_lineBetween 0 = .ok (.iload_n 1, 1) := by decide +kernel
theorem dX4_lineBetween_1 : decode cX4_lineBetween 1 = .ok (.iload_n 2, 1) := by decide +kernel
theorem dX4_lineBetween_2 : decode cX4_lineBetween 2 = .ok (.invokestatic 151, 3) := by decide +kernel
theorem dX4_lineBetween_5 : decode cX4_lineBetween 5 = .ok (.aload_n 0, 1) := by decide +kernel
theorem dX4_lineBetween_6 : decode cX4_lineBetween 6 = .ok (.getfield 23, 3) := by decide +kernel
theorem dX4_lineBetween_9 : decode cX4_lineBetween 9 = .ok (.arraylength, 1) := by decide +kernel
theorem dX4_lineBetween_10 : decode cX4_lineBetween 10 = .ok (.imul, 1) := by decide +kernel
theorem dX4_lineBetween_11 : decode cX4_lineBetween 11 = .ok (.iload_n 1, 1) := by decide +kernel
theorem dX4_lineBetween_12 : decode cX4_lineBetween 12 = .ok (.iload_n 2, 1) := by decide +kernel
theorem dX4_lineBetween_13 : decode cX4_lineBetween 13 = .ok (.invokestatic 174, 3) := by decide +kernel
theorem dX4_lineBetween_16 : decode cX4_lineBetween 16 = .ok (.iadd, 1) := by decide +kernel
theorem dX4_lineBetween_17 : decode cX4_lineBetween 17 = .ok (.ireturn, 1) := by decide +kernel
theorem dX4_countCutLines_0 : decode cX4_countCutLines 0 = .ok (.iconst 0, 1) := by decide +kernel
theorem dX4_countCutLines_1 : decode cX4_countCutLines 1 = .ok (.istore_n 1, 1) := by decide +kernel
theorem dX4_countCutLines_2 : decode cX4_countCutLines 2 = .ok (.aload_n 0, 1) := by decide +kernel
theorem dX4_countCutLines_3 : decode cX4_countCutLines 3 = .ok (.getfield 30, 3) := by decide +kernel
theorem dX4_countCutLines_6 : decode cX4_countCutLines 6 = .ok (.astore_n 2, 1) := by decide +kernel
theorem dX4_countCutLines_7 : decode cX4_countCutLines 7 = .ok (.aload_n 2, 1) := by decide +kernel
theorem dX4_countCutLines_8 : decode cX4_countCutLines 8 = .ok (.arraylength, 1) := by decide +kernel
theorem dX4_countCutLines_9 : decode cX4_countCutLines 9 = .ok (.istore_n 3, 1) := by decide +kernel
theorem dX4_countCutLines_10 : decode cX4_countCutLines 10 = .ok (.iconst 0, 1) := by decide +kernel
theorem dX4_countCutLines_11 : decode cX4_countCutLines 11 = .ok (.istore 4, 2) := by decide +kernel
theorem dX4_countCutLines_13 : decode cX4_countCutLines 13 = .ok (.iload 4, 2) := by decide +kernel
theorem dX4_countCutLines_15 : decode cX4_countCutLines 15 = .ok (.iload_n 3, 1) := by decide +kernel
theorem dX4_countCutLines_16 : decode cX4_countCutLines 16 = .ok (.if_icmp .ge 28, 3) := by decide +kernel
theorem dX4_countCutLines_19 : decode cX4_countCutLines 19 = .ok (.aload_n 2, 1) := by decide +kernel
theorem dX4_countCutLines_20 : decode cX4_countCutLines 20 = .ok (.iload 4, 2) := by decide +kernel
theorem dX4_countCutLines_22 : decode cX4_countCutLines 22 = .ok (.baload, 1) := by decide +kernel
theorem dX4_countCutLines_23 : decode cX4_countCutLines 23 = .ok (.istore 5, 2) := by decide +kernel
theorem dX4_countCutLines_25 : decode cX4_countCutLines 25 = .ok (.iload_n 1, 1) := by decide +kernel
theorem dX4_countCutLines_26 : decode cX4_countCutLines 26 = .ok (.iload 5, 2) := by decide +kernel
theorem dX4_countCutLines_28 : decode cX4_countCutLines 28 = .ok (.ifCond .eq 7, 3) := by decide +kernel
theorem dX4_countCutLines_31 : decode cX4_countCutLines 31 = .ok (.iconst 1, 1) := by decide +kernel
theorem dX4_countCutLines_32 : decode cX4_countCutLines 32 = .ok (.goto 4, 3) := by decide +kernel
theorem dX4_countCutLines_35 : decode cX4_countCutLines 35 = .ok (.iconst 0, 1) := by decide +kernel
theorem dX4_countCutLines_36 : decode cX4_countCutLines 36 = .ok (.iadd, 1) := by decide +kernel
theorem dX4_countCutLines_37 : decode cX4_countCutLines 37 = .ok (.istore_n 1, 1) := by decide +kernel
theorem dX4_countCutLines_38 : decode cX4_countCutLines 38 = .ok (.iinc 4 1, 3) := by decide +kernel
theorem dX4_countCutLines_41 : decode cX4_countCutLines 41 = .ok (.goto (-28), 3) := by decide +kernel
theorem dX4_countCutLines_44 : decode cX4_countCutLines 44 = .ok (.iload_n 1, 1) := by decide +kernel
theorem dX4_countCutLines_45 : decode cX4_countCutLines 45 = .ok (.ireturn, 1) := by decide +kernel
theorem dX4_countNormal_0 : decode cX4_countNormal 0 = .ok (.iconst 0, 1) := by decide +kernel
theorem dX4_countNormal_1 : decode cX4_countNormal 1 = .ok (.istore_n 1, 1) := by decide +kernel
theorem dX4_countNormal_2 : decode cX4_countNormal 2 = .ok (.aload_n 0, 1) := by decide +kernel
theorem dX4_countNormal_3 : decode cX4_countNormal 3 = .ok (.getfield 23, 3) := by decide +kernel
theorem dX4_countNormal_6 : decode cX4_countNormal 6 = .ok (.astore_n 2, 1) := by decide +kernel
theorem dX4_countNormal_7 : decode cX4_countNormal 7 = .ok (.aload_n 2, 1) := by decide +kernel
theorem dX4_countNormal_8 : decode cX4_countNormal 8 = .ok (.arraylength, 1) := by decide +kernel
theorem dX4_countNormal_9 : decode cX4_countNormal 9 = .ok (.istore_n 3, 1) := by decide +kernel
theorem dX4_countNormal_10 : decode cX4_countNormal 10 = .ok (.iconst 0, 1) := by decide +kernel
theorem dX4_countNormal_11 : decode cX4_countNormal 11 = .ok (.istore 4, 2) := by decide +kernel
theorem dX4_countNormal_13 : decode cX4_countNormal 13 = .ok (.iload 4, 2) := by decide +kernel
theorem dX4_countNormal_15 : decode cX4_countNormal 15 = .ok (.iload_n 3, 1) := by decide +kernel
theorem dX4_countNormal_16 : decode cX4_countNormal 16 = .ok (.if_icmp .ge 31, 3) := by decide +kernel
theorem dX4_countNormal_19 : decode cX4_countNormal 19 = .ok (.aload_n 2, 1) := by decide +kernel
theorem dX4_countNormal_20 : decode cX4_countNormal 20 = .ok (.iload 4, 2) := by decide +kernel
theorem dX4_countNormal_22 : decode cX4_countNormal 22 = .ok (.aaload, 1) := by decide +kernel
theorem dX4_countNormal_23 : decode cX4_countNormal 23 = .ok (.astore 5, 2) := by decide +kernel
theorem dX4_countNormal_25 : decode cX4_countNormal 25 = .ok (.iload_n 1, 1) := by decide +kernel
theorem dX4_countNormal_26 : decode cX4_countNormal 26 = .ok (.aload 5, 2) := by decide +kernel
theorem dX4_countNormal_28 : decode cX4_countNormal 28 = .ok (.getfield 101, 3) := by decide +kernel
theorem dX4_countNormal_31 : decode cX4_countNormal 31 = .ok (.ifCond .ne 7, 3) := by decide +kernel
theorem dX4_countNormal_34 : decode cX4_countNormal 34 = .ok (.iconst 1, 1) := by decide +kernel
theorem dX4_countNormal_35 : decode cX4_countNormal 35 = .ok (.goto 4, 3) := by decide +kernel
theorem dX4_countNormal_38 : decode cX4_countNormal 38 = .ok (.iconst 0, 1) := by decide +kernel
theorem dX4_countNormal_39 : decode cX4_countNormal 39 = .ok (.iadd, 1) := by decide +kernel
theorem dX4_countNormal_40 : decode cX4_countNormal 40 = .ok (.istore_n 1, 1) := by decide +kernel
theorem dX4_countNormal_41 : decode cX4_countNormal 41 = .ok (.iinc 4 1, 3) := by decide +kernel
theorem dX4_countNormal_44 : decode cX4_countNormal 44 = .ok (.goto (-31), 3) := by decide +kernel
theorem dX4_countNormal_47 : decode cX4_countNormal 47 = .ok (.iload_n 1, 1) := by decide +kernel
theorem dX4_countNormal_48 : decode cX4_countNormal 48 = .ok (.ireturn, 1) := by decide +kernel
end
section
theorem dX5_init_0 : decode cX5_init 0 = .ok (.aload_n 0, 1) := by decide +kernel
theorem dX5_init_1 : decode cX5_init 1 = .ok (.invokespecial 1, 3) := by decide +kernel
theorem dX5_init_4 : decode cX5_init 4 = .ok (.aload_n 0, 1) := by decide +kernel
theorem dX5_init_5 : decode cX5_init 5 = .ok (.sipush 28320, 3) := by decide +kernel
theorem dX5_init_8 : decode cX5_init 8 = .ok (.newarray .int, 2) := by decide +kernel
theorem dX5_init_10 : decode cX5_init 10 = .ok (.putfield 7, 3) := by decide +kernel
theorem dX5_init_13 : decode cX5_init 13 = .ok (.aload_n 0, 1) := by decide +kernel
theorem dX5_init_14 : decode cX5_init 14 = .ok (.sipush 295, 3) := by decide +kernel
theorem dX5_init_17 : decode cX5_init 17 = .ok (.newarray .int, 2) := by decide +kernel
theorem dX5_init_19 : decode cX5_init 19 = .ok (.putfield 13, 3) := by decide +kernel
theorem dX5_init_22 : decode cX5_init 22 = .ok (.aload_n 0, 1) := by decide +kernel
theorem dX5_init_23 : decode cX5_init 23 = .ok (.sipush 295, 3) := by decide +kernel
theorem dX5_init_26 : decode cX5_init 26 = .ok (.newarray .int, 2) := by decide +kernel
theorem dX5_init_28 : decode cX5_init 28 = .ok (.putfield 16, 3) := by decide +kernel
theorem dX5_init_31 : decode cX5_init 31 = .ok (.aload_n 0, 1) := by decide +kernel
theorem dX5_init_32 : decode cX5_init 32 = .ok (.iconst 5, 1) := by decide +kernel
theorem dX5_init_33 : decode cX5_init 33 = .ok (.newarray .int, 2) := by decide +kernel
theorem dX5_init_35 : decode cX5_init 35 = .ok (.putfield 19, 3) := by decide +kernel
theorem dX5_init_38 : decode cX5_init 38 = .ok (.aload_n 0, 1) := by decide +kernel
theorem dX5_init_39 : decode cX5_init 39 = .ok (.iconst 5, 1) := by decide +kernel
theorem dX5_init_40 : decode cX5_init 40 = .ok (.newarray .int, 2) := by decide +kernel
theorem dX5_init_42 : decode cX5_init 42 = .ok (.putfield 22, 3) := by decide +kernel
theorem dX5_init_45 : decode cX5_init 45 = .ok (.aload_n 0, 1) := by decide +kernel
theorem dX5_init_46 : decode cX5_init 46 = .ok (.iconst 5, 1) := by decide +kernel
theorem dX5_init_47 : decode cX5_init 47 = .ok (.newarray .int, 2) := by decide +kernel
theorem dX5_init_49 : decode cX5_init 49 = .ok (.putfield 25, 3) := by decide +kernel
theorem dX5_init_52 : decode cX5_init 52 = .ok (.aload_n 0, 1) := by decide +kernel
theorem dX5_init_53 : decode cX5_init 53 = .ok (.iconst 5, 1) := by decide +kernel
theorem dX5_init_54 : decode cX5_init 54 = .ok (.newarray .boolean, 2) := by decide +kernel
theorem dX5_init_56 : decode cX5_init 56 = .ok (.putfield 28, 3) := by decide +kernel
theorem dX5_init_59 : decode cX5_init 59 = .ok (.aload_n 0, 1) := by decide +kernel
theorem dX5_init_60 : decode cX5_init 60 = .ok (.iconst 5, 1) := by decide +kernel
theorem dX5_init_61 : decode cX5_init 61 = .ok (.newarray .int, 2) := by decide +kernel
theorem dX5_init_63 : decode cX5_init 63 = .ok (.putfield 32, 3) := by decide +kernel
theorem dX5_init_66 : decode cX5_init 66 = .ok (.aload_n 0, 1) := by decide +kernel
theorem dX5_init_67 : decode cX5_init 67 = .ok (.bipush 25, 2) := by decide +kernel
theorem dX5_init_69 : decode cX5_init 69 = .ok (.newarray .int, 2) := by decide +kernel
theorem dX5_init_71 : decode cX5_init 71 = .ok (.putfield 35, 3) := by decide +kernel
theorem dX5_init_74 : decode cX5_init 74 = .ok (.aload_n 0, 1) := by decide +kernel
theorem dX5_init_75 : decode cX5_init 75 = .ok (.bipush 25, 2) := by decide +kernel
theorem dX5_init_77 : decode cX5_init 77 = .ok (.newarray .boolean, 2) := by decide +kernel
theorem dX5_init_79 : decode cX5_init 79 = .ok (.putfield 38, 3) := by decide +kernel
theorem dX5_init_82 : decode cX5_init 82 = .ok (.aload_n 0, 1) := by decide +kernel
theorem dX5_init_83 : decode cX5_init 83 = .ok (.bipush 25, 2) := by decide +kernel
theorem dX5_init_85 : decode cX5_init 85 = .ok (.newarray .boolean, 2) := by decide +kernel
theorem dX5_init_87 : decode cX5_init 87 = .ok (.putfield 41, 3) := by decide +kernel
theorem dX5_init_90 : decode cX5_init 90 = .ok (.aload_n 0, 1) := by decide +kernel
theorem dX5_init_91 : decode cX5_init 91 = .ok (.bipush 25, 2) := by decide +kernel
theorem dX5_init_93 : decode cX5_init 93 = .ok (.newarray .int, 2) := by decide +kernel
theorem dX5_init_95 : decode cX5_init 95 = .ok (.putfield 44, 3) := by decide +kernel
theorem dX5_init_98 : decode cX5_init 98 = .ok (.aload_n 0, 1) := by decide +kernel
theorem dX5_init_99 : decode cX5_init 99 = .ok (.bipush 25, 2) := by decide +kernel
theorem dX5_init_101 : decode cX5_init 101 = .ok (.newarray .boolean, 2) := by decide +kernel
theorem dX5_init_103 : decode cX5_init 103 = .ok (.putfield 47, 3) := by decide +kernel
theorem dX5_init_106 : decode cX5_init 106 = .ok (.aload_n 0, 1) := by decide +kernel
theorem dX5_init_107 : decode cX5_init 107 = .ok (.bipush 25, 2) := by decide +kernel
theorem dX5_init_109 : decode cX5_init 109 = .ok (.newarray .int, 2) := by decide +kernel
theorem dX5_init_111 : decode cX5_init 111 = .ok (.putfield 50, 3) := by decide +kernel
theorem dX5_init_114 : decode cX5_init 114 = .ok (.aload_n 0, 1) := by decide +kernel
theorem dX5_init_115 : decode cX5_init 115 = .ok (.bipush 25, 2) := by decide +kernel
theorem dX5_init_117 : decode cX5_init 117 = .ok (.newarray .boolean, 2) := by decide +kernel
theorem dX5_init_119 : decode cX5_init 119 = .ok (.putfield 53, 3) := by decide +kernel
theorem dX5_init_122 : decode cX5_init 122 = .ok (.aload_n 0, 1) := by decide +kernel
theorem dX5_init_123 : decode cX5_init 123 = .ok (.sipush 240, 3) := by decide +kernel
theorem dX5_init_126 : decode cX5_init 126 = .ok (.newarray .int, 2) := by decide +kernel
theorem dX5_init_128 : decode cX5_init 128 = .ok (.putfield 56, 3) := by decide +kernel
theorem dX5_init_131 : decode cX5_init 131 = .ok (.aload_n 0, 1) := by decide +kernel
theorem dX5_init_132 : decode cX5_init 132 = .ok (.sipush 240, 3) := by decide +kernel
theorem dX5_init_135 : decode cX5_init 135 = .ok (.newarray .int, 2) := by decide +kernel
theorem dX5_init_137 : decode cX5_init 137 = .ok (.putfield 59, 3) := by decide +kernel
theorem dX5_init_140 : decode cX5_init 140 = .ok (.aload_n 0, 1) := by decide +kernel
theorem dX5_init_141 : decode cX5_init 141 = .ok (.sipush 240, 3) := by decide +kernel
theorem dX5_init_144 : decode cX5_init 144 = .ok (.newarray .int, 2) := by decide +kernel
theorem dX5_init_146 : decode cX5_init 146 = .ok (.putfield 62, 3) := by decide +kernel
theorem dX5_init_149 : decode cX5_init 149 = .ok (.aload_n 0, 1) := by decide +kernel
theorem dX5_init_150 : decode cX5_init 150 = .ok (.sipush 240, 3) := by decide +kernel
theorem dX5_init_153 : decode cX5_init 153 = .ok (.newarray .int, 2) := by decide +kernel
theorem dX5_init_155 : decode cX5_init 155 = .ok (.putfield 65, 3) := by decide +kernel
theorem dX5_init_158 : decode cX5_init 158 = .ok (.aload_n 0, 1) := by decide +kernel
theorem dX5_init_159 : decode cX5_init 159 = .ok (.sipush 240, 3) := by decide +kernel
theorem dX5_init_162 : decode cX5_init 162 = .ok (.newarray .int, 2) := by decide +kernel
theorem dX5_init_164 : decode cX5_init 164 = .ok (.putfield 68, 3) := by decide +kernel
theorem dX5_init_167 : decode cX5_init 167 = .ok (.aload_n 0, 1) := by decide +kernel
theorem dX5_init_168 : decode cX5_init 168 = .ok (.sipush 240, 3) := by decide +kernel
theorem dX5_init_171 : decode cX5_init 171 = .ok (.newarray .boolean, 2) := by decide +kernel
theorem dX5_init_173 : decode cX5_init 173 = .ok (.putfield 71, 3) := by decide +kernel
theorem dX5_init_176 : decode cX5_init 176 = .ok (.aload_n 0, 1) := by decide +kernel
theorem dX5_init_177 : decode cX5_init 177 = .ok (.bipush 8, 2) := by decide +kernel
theorem dX5_init_179 : decode cX5_init 179 = .ok (.newarray .int, 2) := by decide +kernel
theorem dX5_init_181 : decode cX5_init 181 = .ok (.putfield 74, 3) := by decide +kernel
theorem dX5_init_184 : decode cX5_init 184 = .ok (.aload_n 0, 1) := by decide +kernel
theorem dX5_init_185 : decode cX5_init 185 = .ok (.iload_n 1, 1) := by decide +kernel
theorem dX5_init_186 : decode cX5_init 186 = .ok (.iconst 5, 1) := by decide +kernel
theorem dX5_init_187 : decode cX5_init 187 = .ok (.if_icmp .ne 7, 3) := by decide +kernel
theorem dX5_init_190 : decode cX5_init 190 = .ok (.iconst 5, 1) := by decide +kernel
theorem dX5_init_191 : decode cX5_init 191 = .ok (.goto 4, 3) := by decide +kernel
theorem dX5_init_194 : decode cX5_init 194 = .ok (.iconst 3, 1) := by decide +kernel
theorem dX5_init_195 : decode cX5_init 195 = .ok (.putfield 77, 3) := by decide +kernel
theorem dX5_init_198 : decode cX5_init 198 = .ok (.aload_n 0, 1) := by decide +kernel
theorem dX5_init_199 : decode cX5_init 199 = .ok (.iload_n 1, 1) := by decide +kernel
theorem dX5_init_200 : decode cX5_init 200 = .ok (.iconst 5, 1) := by decide +kernel
theorem dX5_init_201 : decode cX5_init 201 = .ok (.if_icmp .ne 7, 3) := by decide +kernel
theorem dX5_init_204 : decode cX5_init 204 = .ok (.iconst 2, 1) := by decide +kernel
theorem dX5_init_205 : decode cX5_init 205 = .ok (.goto 4, 3) := by decide +kernel
theorem dX5_init_208 : decode cX5_init 208 = .ok (.iconst 1, 1) := by decide +kernel
theorem dX5_init_209 : decode cX5_init 209 = .ok (.putfield 81, 3) := by decide +kernel
theorem dX5_init_212 : decode cX5_init 212 = .ok (.return_, 1) := by decide +kernel
theorem dX5_in_0 : decode cX5_in 0 = .ok (.iload_n 0, 1) := by decide +kernel
theorem dX5_in_1 : decode cX5_in 1 = .ok (.iload_n 1, 1) := by decide +kernel
theorem dX5_in_2 : decode cX5_in 2 = .ok (.if_icmp .lt 12, 3) := by decide +kernel
theorem dX5_in_5 : decode cX5_in 5 = .ok (.iload_n 0, 1) := by decide +kernel
theorem dX5_in_6 : decode cX5_in 6 = .ok (.iload_n 2, 1) := by decide +kernel
theorem dX5_in_7 : decode cX5_in 7 = .ok (.if_icmp .gt 7, 3) := by decide +kernel
theorem dX5_in_10 : decode cX5_in 10 = .ok (.iconst 1, 1) := by decide +kernel
theorem dX5_in_11 : decode cX5_in 11 = .ok (.goto 4, 3) := by decide +kernel
theorem dX5_in_14 : decode cX5_in 14 = .ok (.iconst 0, 1) := by decide +kernel
theorem dX5_in_15 : decode cX5_in 15 = .ok (.ireturn, 1) := by decide +kernel
set_option maxRecDepth 20000 in
theorem ggX5_isNode_X5_in : GoodIn wsX5_isNode wsX5_in := goodIn_r _ [5] (by decide +kernel) (by decide +kernel)
set_option maxRecDepth 20000 in
theorem gX5_isNode_X5_in : GoodIn wsX5_isNode (va_wsS RX5 84 yX5_in wsX5_in) := goodIn_app (goodIn_of _ (by decide +kernel)) ggX5_isNode_X5_in
theorem dX5_isNode_0 : decode cX5_isNode 0 = .ok (.iload_n 1, 1) := by decide +kernel
theorem dX5_isNode_1 : decode cX5_isNode 1 = .ok (.iconst 0, 1) := by decide +kernel
theorem dX5_isNode_2 : decode cX5_isNode 2 = .ok (.aload_n 0, 1) := by decide +kernel
theorem dX5_isNode_3 : decode cX5_isNode 3 = .ok (.getfield 77, 3) := by decide +kernel
theorem dX5_isNode_6 : decode cX5_isNode 6 = .ok (.iconst 1, 1) := by decide +kernel
theorem dX5_isNode_7 : decode cX5_isNode 7 = .ok (.isub, 1) := by decide +kernel
theorem dX5_isNode_8 : decode cX5_isNode 8 = .ok (.invokestatic 84, 3) := by decide +kernel
theorem dX5_isNode_11 : decode cX5_isNode 11 = .ok (.ireturn, 1) := by decide +kernel
theorem dX5_isFirst_0 : decode cX5_isFirst 0 = .ok (.aload_n 0, 1) := by decide +kernel
theorem dX5_isFirst_1 : decode cX5_isFirst 1 = .ok (.getfield 22, 3) := by decide +kernel
theorem dX5_isFirst_4 : decode cX5_isFirst 4 = .ok (.iload_n 1, 1) := by decide +kernel
theorem dX5_isFirst_5 : decode cX5_isFirst 5 = .ok (.iaload, 1) := by decide +kernel
theorem dX5_isFirst_6 : decode cX5_isFirst 6 = .ok (.aload_n 0, 1) := by decide +kernel
theorem dX5_isFirst_7 : decode cX5_isFirst 7 = .ok (.getfield 77, 3) := by decide +kernel
theorem dX5_isFirst_10 : decode cX5_isFirst 10 = .ok (.irem, 1) := by decide +kernel
theorem dX5_isFirst_11 : decode cX5_isFirst 11 = .ok (.iload_n 1, 1) := by decide +kernel
theorem dX5_isFirst_12 : decode cX5_isFirst 12 = .ok (.if_icmp .ne 7, 3) := by decide +kernel
theorem dX5_isFirst_15 : decode cX5_isFirst 15 = .ok (.iconst 1, 1) := by decide +kernel
theorem dX5_isFirst_16 : decode cX5_isFirst 16 = .ok (.goto 4, 3) := by decide +kernel
theorem dX5_isFirst_19 : decode cX5_isFirst 19 = .ok (.iconst 0, 1) := by decide +kernel
theorem dX5_isFirst_20 : decode cX5_isFirst 20 = .ok (.ireturn, 1) := by decide +kernel
theorem dX5_copyLog_0 : decode cX5_copyLog 0 = .ok (.aload_n 0, 1) := by decide +kernel
theorem dX5_copyLog_1 : decode cX5_copyLog 1 = .ok (.getfield 13, 3) := by decide +kernel
theorem dX5_copyLog_4 : decode cX5_copyLog 4 = .ok (.iload_n 2, 1) := by decide +kernel
theorem dX5_copyLog_5 : decode cX5_copyLog 5 = .ok (.aload_n 0, 1) := by decide +kernel
theorem dX5_copyLog_6 : decode cX5_copyLog 6 = .ok (.getfield 13, 3) := by decide +kernel
theorem dX5_copyLog_9 : decode cX5_copyLog 9 = .ok (.iload_n 1, 1) := by decide +kernel
theorem dX5_copyLog_10 : decode cX5_copyLog 10 = .ok (.iaload, 1) := by decide +kernel
theorem dX5_copyLog_11 : decode cX5_copyLog 11 = .ok (.iastore, 1) := by decide +kernel
theorem dX5_copyLog_12 : decode cX5_copyLog 12 = .ok (.aload_n 0, 1) := by decide +kernel
theorem dX5_copyLog_13 : decode cX5_copyLog 13 = .ok (.getfield 16, 3) := by decide +kernel
theorem dX5_copyLog_16 : decode cX5_copyLog 16 = .ok (.iload_n 2, 1) := by decide +kernel
theorem dX5_copyLog_17 : decode cX5_copyLog 17 = .ok (.aload_n 0, 1) := by decide +kernel
theorem dX5_copyLog_18 : decode cX5_copyLog 18 = .ok (.getfield 16, 3) := by decide +kernel
theorem dX5_copyLog_21 : decode cX5_copyLog 21 = .ok (.iload_n 1, 1) := by decide +kernel
theorem dX5_copyLog_22 : decode cX5_copyLog 22 = .ok (.iaload, 1) := by decide +kernel
theorem dX5_copyLog_23 : decode cX5_copyLog 23 = .ok (.iastore, 1) := by decide +kernel
theorem dX5_copyLog_24 : decode cX5_copyLog 24 = .ok (.iconst 0, 1) := by decide +kernel
theorem dX5_copyLog_25 : decode cX5_copyLog 25 = .ok (.istore_n 3, 1) := by decide +kernel
theorem dX5_copyLog_26 : decode cX5_copyLog 26 = .ok (.iload_n 3, 1) := by decide +kernel
theorem dX5_copyLog_27 : decode cX5_copyLog 27 = .ok (.bipush 96, 2) := by decide +kernel
theorem dX5_copyLog_29 : decode cX5_copyLog 29 = .ok (.if_icmp .ge 31, 3) := by decide +kernel
theorem dX5_copyLog_32 : decode cX5_copyLog 32 = .ok (.aload_n 0, 1) := by decide +kernel
theorem dX5_copyLog_33 : decode cX5_copyLog 33 = .ok (.getfield 7, 3) := by decide +kernel
theorem dX5_copyLog_36 : decode cX5_copyLog 36 = .ok (.bipush 96, 2) := by decide +kernel
theorem dX5_copyLog_38 : decode cX5_copyLog 38 = .ok (.iload_n 2, 1) := by decide +kernel
theorem dX5_copyLog_39 : decode cX5_copyLog 39 = .ok (.imul, 1) := by decide +kernel
theorem dX5_copyLog_40 : decode cX5_copyLog 40 = .ok (.iload_n 3, 1) := by decide +kernel
theorem dX5_copyLog_41 : decode cX5_copyLog 41 = .ok (.iadd, 1) := by decide +kernel
theorem dX5_copyLog_42 : decode cX5_copyLog 42 = .ok (.aload_n 0, 1) := by decide +kernel
theorem dX5_copyLog_43 : decode cX5_copyLog 43 = .ok (.getfield 7, 3) := by decide +kernel
theorem dX5_copyLog_46 : decode cX5_copyLog 46 = .ok (.bipush 96, 2) := by decide +kernel
theorem dX5_copyLog_48 : decode cX5_copyLog 48 = .ok (.iload_n 1, 1) := by decide +kernel
theorem dX5_copyLog_49 : decode cX5_copyLog 49 = .ok (.imul, 1) := by decide +kernel
theorem dX5_copyLog_50 : decode cX5_copyLog 50 = .ok (.iload_n 3, 1) := by decide +kernel
theorem dX5_copyLog_51 : decode cX5_copyLog 51 = .ok (.iadd, 1) := by decide +kernel
theorem dX5_copyLog_52 : decode cX5_copyLog 52 = .ok (.iaload, 1) := by decide +kernel
theorem dX5_copyLog_53 : decode cX5_copyLog 53 = .ok (.iastore, 1) := by decide +kernel
theorem dX5_copyLog_54 : decode cX5_copyLog 54 = .ok (.iinc 3 1, 3) := by decide +kernel
theorem dX5_copyLog_57 : decode cX5_copyLog 57 = .ok (.goto (-31), 3) := by decide +kernel
theorem dX5_copyLog_60 : decode cX5_copyLog 60 = .ok (.return_, 1) := by decide +kernel
theorem dX5_lesser_0 : decode cX5_lesser 0 = .ok (.iload_n 0, 1) := by decide +kernel
theorem dX5_lesser_1 : decode cX5_lesser 1 = .ok (.iload_n 1, 1) := by decide +kernel
theorem dX5_lesser_2 : decode cX5_lesser 2 = .ok (.if_icmp .ge 7, 3) := by decide +kernel
theorem dX5_lesser_5 : decode cX5_lesser 5 = .ok (.iload_n 0, 1) := by decide +kernel
theorem dX5_lesser_6 : decode cX5_lesser 6 = .ok (.goto 4, 3) := by decide +kernel
theorem dX5_lesser_9 : decode cX5_lesser 9 = .ok (.iload_n 1, 1) := by decide +kernel
theorem dX5_lesser_10 : decode cX5_lesser 10 = .ok (.ireturn, 1) := by decide +kernel
theorem dX5_greater_0 : decode cX5_greater 0 = .ok (.iload_n 0, 1) := by decide +kernel
theorem dX5_greater_1 : decode cX5_greater 1 = .ok (.iload_n 1, 1) := by decide +kernel
theorem dX5_greater_2 : decode cX5_greater 2 = .ok (.if_icmp .le 7, 3) := by decide +kernel
theorem dX5_greater_5 : decode cX5_greater 5 = .ok (.iload_n 0, 1) := by decide +kernel
theorem dX5_greater_6 : decode cX5_greater 6 = .ok (.goto 4, 3) := by decide +kernel
theorem dX5_greater_9 : decode cX5_greater 9 = .ok (.iload_n 1, 1) := by decide +kernel
theorem dX5_greater_10 : decode cX5_greater 10 = .ok (.ireturn, 1) := by decide +kernel
theorem dX5_hasLog_0 : decode cX5_hasLog 0 = .ok (.iload_n 0, 1) := by decide +kernel
theorem dX5_hasLog_1 : decode cX5_hasLog 1 = .ok (.iconst 1, 1) := by decide +kernel
theorem dX5_hasLog_2 : decode cX5_hasLog 2 = .ok (.if_icmp .eq 19, 3) := by decide +kernel
theorem dX5_hasLog_5 : decode cX5_hasLog 5 = .ok (.iload_n 0, 1) := by decide +kernel
theorem dX5_hasLog_6 : decode cX5_hasLog 6 = .ok (.iconst 4, 1) := by decide +kernel
theorem dX5_hasLog_7 : decode cX5_hasLog 7 = .ok (.if_icmp .eq 14, 3) := by decide +kernel
theorem dX5_hasLog_10 : decode cX5_hasLog 10 = .ok (.iload_n 0, 1) := by decide +kernel
theorem dX5_hasLog_11 : decode cX5_hasLog 11 = .ok (.iconst 5, 1) := by decide +kernel
theorem dX5_hasLog_12 : decode cX5_hasLog 12 = .ok (.if_icmp .eq 9, 3) := by decide +kernel
theorem dX5_hasLog_15 : decode cX5_hasLog 15 = .ok (.iload_n 0, 1) := by decide +kernel
theorem dX5_hasLog_16 : decode cX5_hasLog 16 = .ok (.bipush 7, 2) := by decide +kernel
theorem dX5_hasLog_18 : decode cX5_hasLog 18 = .ok (.if_icmp .ne 7, 3) := by decide +kernel
theorem dX5_hasLog_21 : decode cX5_hasLog 21 = .ok (.iconst 1, 1) := by decide +kernel
theorem dX5_hasLog_22 : decode cX5_hasLog 22 = .ok (.goto 4, 3) := by decide +kernel
theorem dX5_hasLog_25 : decode cX5_hasLog 25 = .ok (.iconst 0, 1) := by decide +kernel
theorem dX5_hasLog_26 : decode cX5_hasLog 26 = .ok (.ireturn, 1) := by decide +kernel
set_option maxRecDepth 20000 in
theorem ggX5_post_X5_hasLog : GoodIn wsX5_post wsX5_hasLog := goodIn_r _ [11] (by decide +kernel) (by decide +kernel)
set_option maxRecDepth 20000 in
theorem gX5_post_X5_hasLog : GoodIn wsX5_post (va_wsS RX5 94 yX5_hasLog wsX5_hasLog) := goodIn_app (goodIn_of _ (by decide +kernel)) ggX5_post_X5_hasLog
set_option maxRecDepth 20000 in
theorem ggX5_post_X5_copyLog : GoodIn wsX5_post wsX5_copyLog := goodIn_r _ [15, 16, 17, 18, 19, 20, 21, 22, 23, 24, 25, 26, 27, 28, 29, 30, 31, 32, 33, 34, 35, 36, 37, 38, 39, 40, 41, 42, 43, 44] (by decide +kernel) (by decide +kernel)
set_option maxRecDepth 20000 in
theorem gX5_post_X5_copyLog : GoodIn wsX5_post (wsV RX5 98 RX5 yX5_copyLog wsX5_copyLog) := goodIn_app (goodIn_of _ (by decide +kernel)) ggX5_post_X5_copyLog
theorem dX5_post_0 : decode cX5_post 0 = .ok (.aload_n 0, 1) := by decide +kernel
theorem dX5_post_1 : decode cX5_post 1 = .ok (.getfield 88, 3) := by decide +kernel
theorem dX5_post_4 : decode cX5_post 4 = .ok (.sipush 240, 3) := by decide +kernel
theorem dX5_post_7 : decode cX5_post 7 = .ok (.if_icmp .ne 14, 3) := by decide +kernel
theorem dX5_post_10 : decode cX5_post 10 = .ok (.aload_n 0, 1) := by decide +kernel
theorem dX5_post_11 : decode cX5_post 11 = .ok (.dup, 1) := by decide +kernel
theorem dX5_post_12 : decode cX5_post 12 = .ok (.getfield 91, 3) := by decide +kernel
theorem dX5_post_15 : decode cX5_post 15 = .ok (.iconst 1, 1) := by decide +kernel
theorem dX5_post_16 : decode cX5_post 16 = .ok (.iadd, 1) := by decide +kernel
theorem dX5_post_17 : decode cX5_post 17 = .ok (.putfield 91, 3) := by decide +kernel
theorem dX5_post_20 : decode cX5_post 20 = .ok (.return_, 1) := by decide +kernel
theorem dX5_post_21 : decode cX5_post 21 = .ok (.aload_n 0, 1) := by decide +kernel
theorem dX5_post_22 : decode cX5_post 22 = .ok (.getfield 56, 3) := by decide +kernel
theorem dX5_post_25 : decode cX5_post 25 = .ok (.aload_n 0, 1) := by decide +kernel
theorem dX5_post_26 : decode cX5_post 26 = .ok (.getfield 88, 3) := by decide +kernel
theorem dX5_post_29 : decode cX5_post 29 = .ok (.iload_n 1, 1) := by decide +kernel
theorem dX5_post_30 : decode cX5_post 30 = .ok (.iastore, 1) := by decide +kernel
theorem dX5_post_31 : decode cX5_post 31 = .ok (.aload_n 0, 1) := by decide +kernel
theorem dX5_post_32 : decode cX5_post 32 = .ok (.getfield 59, 3) := by decide +kernel
theorem dX5_post_35 : decode cX5_post 35 = .ok (.aload_n 0, 1) := by decide +kernel
theorem dX5_post_36 : decode cX5_post 36 = .ok (.getfield 88, 3) := by decide +kernel
theorem dX5_post_39 : decode cX5_post 39 = .ok (.iload_n 2, 1) := by decide +kernel
theorem dX5_post_40 : decode cX5_post 40 = .ok (.iastore, 1) := by decide +kernel
theorem dX5_post_41 : decode cX5_post 41 = .ok (.aload_n 0, 1) := by decide +kernel
theorem dX5_post_42 : decode cX5_post 42 = .ok (.getfield 62, 3) := by decide +kernel
theorem dX5_post_45 : decode cX5_post 45 = .ok (.aload_n 0, 1) := by decide +kernel
theorem dX5_post_46 : decode cX5_post 46 = .ok (.getfield 88, 3) := by decide +kernel
theorem dX5_post_49 : decode cX5_post 49 = .ok (.iload_n 3, 1) := by decide +kernel
theorem dX5_post_50 : decode cX5_post 50 = .ok (.iastore, 1) := by decide +kernel
theorem dX5_post_51 : decode cX5_post 51 = .ok (.aload_n 0, 1) := by decide +kernel
theorem dX5_post_52 : decode cX5_post 52 = .ok (.getfield 65, 3) := by decide +kernel
theorem dX5_post_55 : decode cX5_post 55 = .ok (.aload_n 0, 1) := by decide +kernel
theorem dX5_post_56 : decode cX5_post 56 = .ok (.getfield 88, 3) := by decide +kernel
theorem dX5_post_59 : decode cX5_post 59 = .ok (.iload 4, 2) := by decide +kernel
theorem dX5_post_61 : decode cX5_post 61 = .ok (.iastore, 1) := by decide +kernel
theorem dX5_post_62 : decode cX5_post 62 = .ok (.aload_n 0, 1) := by decide +kernel
theorem dX5_post_63 : decode cX5_post 63 = .ok (.getfield 68, 3) := by decide +kernel
theorem dX5_post_66 : decode cX5_post 66 = .ok (.aload_n 0, 1) := by decide +kernel
theorem dX5_post_67 : decode cX5_post 67 = .ok (.getfield 88, 3) := by decide +kernel
theorem dX5_post_70 : decode cX5_post 70 = .ok (.iload 5, 2) := by decide +kernel
theorem dX5_post_72 : decode cX5_post 72 = .ok (.iastore, 1) := by decide +kernel
theorem dX5_post_73 : decode cX5_post 73 = .ok (.iload_n 3, 1) := by decide +kernel
theorem dX5_post_74 : decode cX5_post 74 = .ok (.invokestatic 94, 3) := by decide +kernel
theorem dX5_post_77 : decode cX5_post 77 = .ok (.ifCond .eq 15, 3) := by decide +kernel
theorem dX5_post_80 : decode cX5_post 80 = .ok (.aload_n 0, 1) := by decide +kernel
theorem dX5_post_81 : decode cX5_post 81 = .ok (.iload_n 1, 1) := by decide +kernel
theorem dX5_post_82 : decode cX5_post 82 = .ok (.bipush 55, 2) := by decide +kernel
theorem dX5_post_84 : decode cX5_post 84 = .ok (.aload_n 0, 1) := by decide +kernel
theorem dX5_post_85 : decode cX5_post 85 = .ok (.getfield 88, 3) := by decide +kernel
theorem dX5_post_88 : decode cX5_post 88 = .ok (.iadd, 1) := by decide +kernel
theorem dX5_post_89 : decode cX5_post 89 = .ok (.invokevirtual 98, 3) := by decide +kernel
theorem dX5_post_92 : decode cX5_post 92 = .ok (.aload_n 0, 1) := by decide +kernel
theorem dX5_post_93 : decode cX5_post 93 = .ok (.dup, 1) := by decide +kernel
theorem dX5_post_94 : decode cX5_post 94 = .ok (.getfield 88, 3) := by decide +kernel
theorem dX5_post_97 : decode cX5_post 97 = .ok (.iconst 1, 1) := by decide +kernel
theorem dX5_post_98 : decode cX5_post 98 = .ok (.iadd, 1) := by decide +kernel
theorem dX5_post_99 : decode cX5_post 99 = .ok (.putfield 88, 3) := by decide +kernel
theorem dX5_post_102 : decode cX5_post 102 = .ok (.return_, 1) := by decide +kernel
set_option maxRecDepth 20000 in
theorem ggX5_postAll_X5_post : GoodIn wsX5_postAll wsX5_post := goodIn_r _ [6, 7, 8, 9, 10, 11, 12, 13, 14, 15, 5, 16, 17, 18, 19, 20, 21, 22, 23, 24, 25, 26, 27, 28, 29, 30, 31, 32, 33, 34, 35, 36, 37, 38, 39, 40, 41, 42, 43, 44, 45, 46, 47, 48, 49] (by decide +kernel) (by decide +kernel)
set_option maxRecDepth 20000 in
theorem gX5_postAll_X5_post : GoodIn wsX5_postAll (wsV RX5 102 RX5 yX5_post wsX5_post) := goodIn_app (goodIn_of _ (by decide +kernel)) ggX5_postAll_X5_post
theorem dX5_postAll_0 : decode cX5_postAll 0 = .ok (.iconst 0, 1) := by decide +kernel
theorem dX5_postAll_1 : decode cX5_postAll 1 = .ok (.istore 5, 2) := by decide +kernel
theorem dX5_postAll_3 : decode cX5_postAll 3 = .ok (.iload 5, 2) := by decide +kernel
theorem dX5_postAll_5 : decode cX5_postAll 5 = .ok (.aload_n 0, 1) := by decide +kernel
theorem dX5_postAll_6 : decode cX5_postAll 6 = .ok (.getfield 77, 3) := by decide +kernel
theorem dX5_postAll_9 : decode cX5_postAll 9 = .ok (.if_icmp .ge 26, 3) := by decide +kernel
theorem dX5_postAll_12 : decode cX5_postAll 12 = .ok (.iload 5, 2) := by decide +kernel
theorem dX5_postAll_14 : decode cX5_postAll 14 = .ok (.iload_n 1, 1) := by decide +kernel
theorem dX5_postAll_15 : decode cX5_postAll 15 = .ok (.if_icmp .eq 14, 3) := by decide +kernel
theorem dX5_postAll_18 : decode cX5_postAll 18 = .ok (.aload_n 0, 1) := by decide +kernel
theorem dX5_postAll_19 : decode cX5_postAll 19 = .ok (.iload_n 1, 1) := by decide +kernel
theorem dX5_postAll_20 : decode cX5_postAll 20 = .ok (.iload 5, 2) := by decide +kernel
theorem dX5_postAll_22 : decode cX5_postAll 22 = .ok (.iload_n 2, 1) := by decide +kernel
theorem dX5_postAll_23 : decode cX5_postAll 23 = .ok (.iload_n 3, 1) := by decide +kernel
theorem dX5_postAll_24 : decode cX5_postAll 24 = .ok (.iload 4, 2) := by decide +kernel
theorem dX5_postAll_26 : decode cX5_postAll 26 = .ok (.invokevirtual 102, 3) := by decide +kernel
theorem dX5_postAll_29 : decode cX5_postAll 29 = .ok (.iinc 5 1, 3) := by decide +kernel
theorem dX5_postAll_32 : decode cX5_postAll 32 = .ok (.goto (-29), 3) := by decide +kernel
theorem dX5_postAll_35 : decode cX5_postAll 35 = .ok (.aload_n 0, 1) := by decide +kernel
theorem dX5_postAll_36 : decode cX5_postAll 36 = .ok (.getfield 77, 3) := by decide +kernel
theorem dX5_postAll_39 : decode cX5_postAll 39 = .ok (.iconst 1, 1) := by decide +kernel
theorem dX5_postAll_40 : decode cX5_postAll 40 = .ok (.isub, 1) := by decide +kernel
theorem dX5_postAll_41 : decode cX5_postAll 41 = .ok (.ireturn, 1) := by decide +kernel
set_option maxRecDepth 20000 in
theorem ggX5_postOk_X5_post : GoodIn wsX5_postOk wsX5_post := goodIn_r _ [8, 9, 10, 11, 12, 13, 14, 15, 16, 17, 7, 18, 19, 20, 21, 22, 3, 23, 24, 25, 26, 27, 28, 29, 30, 31, 32, 33, 34, 35, 36, 37, 38, 39, 40, 41, 42, 43, 44, 45, 46, 47, 48, 49, 50] (by decide +kernel) (by decide +kernel)
set_option maxRecDepth 20000 in
theorem gX5_postOk_X5_post : GoodIn wsX5_postOk (wsV RX5 102 RX5 yX5_post wsX5_post) := goodIn_app (goodIn_of _ (by decide +kernel)) ggX5_postOk_X5_post
theorem dX5_postOk_0 : decode cX5_postOk 0 = .ok (.aload_n 0, 1) := by decide +kernel
theorem dX5_postOk_1 : decode cX5_postOk 1 = .ok (.iload_n 1, 1) := by decide +kernel
theorem dX5_postOk_2 : decode cX5_postOk 2 = .ok (.aload_n 0, 1) := by decide +kernel
theorem dX5_postOk_3 : decode cX5_postOk 3 = .ok (.getfield 22, 3) := by decide +kernel
theorem dX5_postOk_6 : decode cX5_postOk 6 = .ok (.iload_n 1, 1) := by decide +kernel
theorem dX5_postOk_7 : decode cX5_postOk 7 = .ok (.iaload, 1) := by decide +kernel
theorem dX5_postOk_8 : decode cX5_postOk 8 = .ok (.aload_n 0, 1) := by decide +kernel
theorem dX5_postOk_9 : decode cX5_postOk 9 = .ok (.getfield 77, 3) := by decide +kernel
theorem dX5_postOk_12 : decode cX5_postOk 12 = .ok (.irem, 1) := by decide +kernel
theorem dX5_postOk_13 : decode cX5_postOk 13 = .ok (.iconst 2, 1) := by decide +kernel
theorem dX5_postOk_14 : decode cX5_postOk 14 = .ok (.aload_n 0, 1) := by decide +kernel
theorem dX5_postOk_15 : decode cX5_postOk 15 = .ok (.getfield 22, 3) := by decide +kernel
theorem dX5_postOk_18 : decode cX5_postOk 18 = .ok (.iload_n 1, 1) := by decide +kernel
theorem dX5_postOk_19 : decode cX5_postOk 19 = .ok (.iaload, 1) := by decide +kernel
theorem dX5_postOk_20 : decode cX5_postOk 20 = .ok (.aload_n 0, 1) := by decide +kernel
theorem dX5_postOk_21 : decode cX5_postOk 21 = .ok (.getfield 13, 3) := by decide +kernel
theorem dX5_postOk_24 : decode cX5_postOk 24 = .ok (.iload_n 1, 1) := by decide +kernel
theorem dX5_postOk_25 : decode cX5_postOk 25 = .ok (.iaload, 1) := by decide +kernel
theorem dX5_postOk_26 : decode cX5_postOk 26 = .ok (.invokevirtual 102, 3) := by decide +kernel
theorem dX5_postOk_29 : decode cX5_postOk 29 = .ok (.return_, 1) := by decide +kernel
set_option maxRecDepth 20000 in
theorem ggX5_havingAs_X5_copyLog : GoodIn wsX5_havingAs wsX5_copyLog := goodIn_r _ [10, 2, 1, 11, 37, 38, 39, 40, 41, 42, 43, 44, 45, 46, 47, 48, 49, 50, 51, 52, 53, 54, 55, 56, 57, 58, 59, 60, 61, 62] (by decide +kernel) (by decide +kernel)
set_option maxRecDepth 20000 in
theorem gX5_havingAs_X5_copyLog : GoodIn wsX5_havingAs (wsV RX5 98 RX5 yX5_copyLog wsX5_copyLog) := goodIn_app (goodIn_of _ (by decide +kernel)) ggX5_havingAs_X5_copyLog
set_option maxRecDepth 20000 in
theorem ggX5_havingAs_X5_greater : GoodIn wsX5_havingAs wsX5_greater := goodIn_r _ [14] (by decide +kernel) (by decide +kernel)
set_option maxRecDepth 20000 in
theorem gX5_havingAs_X5_greater : GoodIn wsX5_havingAs (va_wsS RX5 106 yX5_greater wsX5_greater) := goodIn_app (goodIn_of _ (by decide +kernel)) ggX5_havingAs_X5_greater
set_option maxRecDepth 20000 in
theorem ggX5_havingAs_X5_lesser : GoodIn wsX5_havingAs wsX5_lesser := goodIn_r _ [17] (by decide +kernel) (by decide +kernel)
set_option maxRecDepth 20000 in
theorem gX5_havingAs_X5_lesser : GoodIn wsX5_havingAs (va_wsS RX5 110 yX5_lesser wsX5_lesser) := goodIn_app (goodIn_of _ (by decide +kernel)) ggX5_havingAs_X5_lesser
set_option maxRecDepth 20000 in
theorem ggX5_havingAs_X5_postOk : GoodIn wsX5_havingAs wsX5_postOk := goodIn_r _ [21, 3, 22, 2, 23, 24, 25, 9, 26, 27, 28, 29, 30, 31, 32, 33, 34, 35, 36, 6, 7, 8, 10, 1, 11, 37, 38, 39, 40, 41, 42, 43, 44, 45, 46, 47, 48, 49, 50, 51, 52, 53, 54, 55, 56, 57, 58, 59, 60, 61, 62] (by decide +kernel) (by decide +kernel)
set_option maxRecDepth 20000 in
theorem gX5_havingAs_X5_postOk : GoodIn wsX5_havingAs (wsV RX5 113 RX5 yX5_postOk wsX5_postOk) := goodIn_app (goodIn_of _ (by decide +kernel)) ggX5_havingAs_X5_postOk
theorem dX5_havingAs_0 : decode cX5_havingAs 0 = .ok (.aload_n 0, 1) := by decide +kernel
theorem dX5_havingAs_1 : decode cX5_havingAs 1 = .ok (.getfield 16, 3) := by decide +kernel
theorem dX5_havingAs_4 : decode cX5_havingAs 4 = .ok (.iload_n 1, 1) := by decide +kernel
theorem dX5_havingAs_5 : decode cX5_havingAs 5 = .ok (.iaload, 1) := by decide +kernel
theorem dX5_havingAs_6 : decode cX5_havingAs 6 = .ok (.istore 4, 2) := by decide +kernel
theorem dX5_havingAs_8 : decode cX5_havingAs 8 = .ok (.aload_n 0, 1) := by decide +kernel
theorem dX5_havingAs_9 : decode cX5_havingAs 9 = .ok (.iload_n 2, 1) := by decide +kernel
theorem dX5_havingAs_10 : decode cX5_havingAs 10 = .ok (.iload_n 1, 1) := by decide +kernel
theorem dX5_havingAs_11 : decode cX5_havingAs 11 = .ok (.invokevirtual 98, 3) := by decide +kernel
theorem dX5_havingAs_14 : decode cX5_havingAs 14 = .ok (.aload_n 0, 1) := by decide +kernel
theorem dX5_havingAs_15 : decode cX5_havingAs 15 = .ok (.getfield 16, 3) := by decide +kernel
theorem dX5_havingAs_18 : decode cX5_havingAs 18 = .ok (.iload_n 1, 1) := by decide +kernel
theorem dX5_havingAs_19 : decode cX5_havingAs 19 = .ok (.iload 4, 2) := by decide +kernel
theorem dX5_havingAs_21 : decode cX5_havingAs 21 = .ok (.aload_n 0, 1) := by decide +kernel
theorem dX5_havingAs_22 : decode cX5_havingAs 22 = .ok (.getfield 16, 3) := by decide +kernel
theorem dX5_havingAs_25 : decode cX5_havingAs 25 = .ok (.iload_n 2, 1) := by decide +kernel
theorem dX5_havingAs_26 : decode cX5_havingAs 26 = .ok (.iaload, 1) := by decide +kernel
theorem dX5_havingAs_27 : decode cX5_havingAs 27 = .ok (.invokestatic 106, 3) := by decide +kernel
theorem dX5_havingAs_30 : decode cX5_havingAs 30 = .ok (.aload_n 0, 1) := by decide +kernel
theorem dX5_havingAs_31 : decode cX5_havingAs 31 = .ok (.getfield 13, 3) := by decide +kernel
theorem dX5_havingAs_34 : decode cX5_havingAs 34 = .ok (.iload_n 1, 1) := by decide +kernel
theorem dX5_havingAs_35 : decode cX5_havingAs 35 = .ok (.iaload, 1) := by decide +kernel
theorem dX5_havingAs_36 : decode cX5_havingAs 36 = .ok (.invokestatic 110, 3) := by decide +kernel
theorem dX5_havingAs_39 : decode cX5_havingAs 39 = .ok (.iastore, 1) := by decide +kernel
theorem dX5_havingAs_40 : decode cX5_havingAs 40 = .ok (.aload_n 0, 1) := by decide +kernel
theorem dX5_havingAs_41 : decode cX5_havingAs 41 = .ok (.getfield 22, 3) := by decide +kernel
theorem dX5_havingAs_44 : decode cX5_havingAs 44 = .ok (.iload_n 1, 1) := by decide +kernel
theorem dX5_havingAs_45 : decode cX5_havingAs 45 = .ok (.iload_n 3, 1) := by decide +kernel
theorem dX5_havingAs_46 : decode cX5_havingAs 46 = .ok (.iastore, 1) := by decide +kernel
theorem dX5_havingAs_47 : decode cX5_havingAs 47 = .ok (.aload_n 0, 1) := by decide +kernel
theorem dX5_havingAs_48 : decode cX5_havingAs 48 = .ok (.getfield 25, 3) := by decide +kernel
theorem dX5_havingAs_51 : decode cX5_havingAs 51 = .ok (.iload_n 1, 1) := by decide +kernel
theorem dX5_havingAs_52 : decode cX5_havingAs 52 = .ok (.iload_n 3, 1) := by decide +kernel
theorem dX5_havingAs_53 : decode cX5_havingAs 53 = .ok (.iastore, 1) := by decide +kernel
theorem dX5_havingAs_54 : decode cX5_havingAs 54 = .ok (.aload_n 0, 1) := by decide +kernel
theorem dX5_havingAs_55 : decode cX5_havingAs 55 = .ok (.getfield 19, 3) := by decide +kernel
theorem dX5_havingAs_58 : decode cX5_havingAs 58 = .ok (.iload_n 1, 1) := by decide +kernel
theorem dX5_havingAs_59 : decode cX5_havingAs 59 = .ok (.iconst 0, 1) := by decide +kernel
theorem dX5_havingAs_60 : decode cX5_havingAs 60 = .ok (.iastore, 1) := by decide +kernel
theorem dX5_havingAs_61 : decode cX5_havingAs 61 = .ok (.aload_n 0, 1) := by decide +kernel
theorem dX5_havingAs_62 : decode cX5_havingAs 62 = .ok (.iload_n 1, 1) := by decide +kernel
theorem dX5_havingAs_63 : decode cX5_havingAs 63 = .ok (.invokevirtual 113, 3) := by decide +kernel
theorem dX5_havingAs_66 : decode cX5_havingAs 66 = .ok (.return_, 1) := by decide +kernel
set_option maxRecDepth 20000 in
theorem ggX5_prepares_X5_havingAs : GoodIn wsX5_prepares wsX5_havingAs := goodIn_r _ [9, 3, 4, 1, 10, 2, 11, 12, 13, 8, 14, 15, 16, 17, 18, 19, 20, 21, 22, 23, 24, 25, 26, 27, 28, 29, 30, 31, 32, 33, 34, 35, 36, 37, 38, 39, 40, 45, 46, 47, 48, 49, 50, 51, 52, 53, 54, 55, 56, 57, 58, 59, 60, 61, 62, 63, 64, 65, 66, 67, 68, 69, 70] (by decide +kernel) (by decide +kernel)
set_option maxRecDepth 20000 in
theorem gX5_prepares_X5_havingAs : GoodIn wsX5_prepares (wsV RX5 117 RX5 yX5_havingAs wsX5_havingAs) := goodIn_app (goodIn_of _ (by decide +kernel)) ggX5_prepares_X5_havingAs
set_option maxRecDepth 20000 in
theorem ggX5_prepares_X5_isFirst : GoodIn wsX5_prepares wsX5_isFirst := goodIn_r _ [44, 1, 26, 45, 46, 47, 48, 49, 50, 51, 52, 53, 54, 55, 56, 57, 58, 59, 60, 61, 62, 63, 64, 65, 66, 67, 68, 69, 70] (by decide +kernel) (by decide +kernel)
set_option maxRecDepth 20000 in
theorem gX5_prepares_X5_isFirst : GoodIn wsX5_prepares (wsV RX5 121 RX5 yX5_isFirst wsX5_isFirst) := goodIn_app (goodIn_of _ (by decide +kernel)) ggX5_prepares_X5_isFirst
set_option maxRecDepth 20000 in
theorem ggX5_prepares_X5_copyLog : GoodIn wsX5_prepares wsX5_copyLog := goodIn_r _ [14, 4, 3, 15, 45, 46, 47, 48, 49, 50, 51, 52, 53, 54, 55, 56, 57, 58, 59, 60, 61, 62, 63, 64, 65, 66, 67, 68, 69, 70] (by decide +kernel) (by decide +kernel)
set_option maxRecDepth 20000 in
theorem gX5_prepares_X5_copyLog : GoodIn wsX5_prepares (wsV RX5 98 RX5 yX5_copyLog wsX5_copyLog) := goodIn_app (goodIn_of _ (by decide +kernel)) ggX5_prepares_X5_copyLog
set_option maxRecDepth 20000 in
theorem ggX5_prepares_X5_greater : GoodIn wsX5_prepares wsX5_greater := goodIn_r _ [18] (by decide +kernel) (by decide +kernel)
set_option maxRecDepth 20000 in
theorem gX5_prepares_X5_greater : GoodIn wsX5_prepares (va_wsS RX5 106 yX5_greater wsX5_greater) := goodIn_app (goodIn_of _ (by decide +kernel)) ggX5_prepares_X5_greater
set_option maxRecDepth 20000 in
theorem ggX5_prepares_X5_lesser : GoodIn wsX5_prepares wsX5_lesser := goodIn_r _ [21] (by decide +kernel) (by decide +kernel)
set_option maxRecDepth 20000 in
theorem gX5_prepares_X5_lesser : GoodIn wsX5_prepares (va_wsS RX5 110 yX5_lesser wsX5_lesser) := goodIn_app (goodIn_of _ (by decide +kernel)) ggX5_prepares_X5_lesser
set_option maxRecDepth 20000 in
theorem ggX5_prepares_X5_postOk : GoodIn wsX5_prepares wsX5_postOk := goodIn_r _ [25, 1, 26, 4, 27, 28, 29, 8, 30, 31, 32, 33, 34, 35, 36, 37, 38, 39, 40, 11, 12, 13, 14, 3, 15, 45, 46, 47, 48, 49, 50, 51, 52, 53, 54, 55, 56, 57, 58, 59, 60, 61, 62, 63, 64, 65, 66, 67, 68, 69, 70] (by decide +kernel) (by decide +kernel)
set_option maxRecDepth 20000 in
theorem gX5_prepares_X5_postOk : GoodIn wsX5_prepares (wsV RX5 113 RX5 yX5_postOk wsX5_postOk) := goodIn_app (goodIn_of _ (by decide +kernel)) ggX5_prepares_X5_postOk
theorem dX5_prepares_0 : decode cX5_prepares 0 = .ok (.aload_n 0, 1) := by decide +kernel
theorem dX5_prepares_1 : decode cX5_prepares 1 = .ok (.getfield 22, 3) := by decide +kernel
theorem dX5_prepares_4 : decode cX5_prepares 4 = .ok (.iload_n 1, 1) := by decide +kernel
theorem dX5_prepares_5 : decode cX5_prepares 5 = .ok (.iaload, 1) := by decide +kernel
theorem dX5_prepares_6 : decode cX5_prepares 6 = .ok (.iload_n 3, 1) := by decide +kernel
theorem dX5_prepares_7 : decode cX5_prepares 7 = .ok (.if_icmp .lt 13, 3) := by decide +kernel
theorem dX5_prepares_10 : decode cX5_prepares 10 = .ok (.aload_n 0, 1) := by decide +kernel
theorem dX5_prepares_11 : decode cX5_prepares 11 = .ok (.getfield 19, 3) := by decide +kernel
theorem dX5_prepares_14 : decode cX5_prepares 14 = .ok (.iload_n 1, 1) := by decide +kernel
theorem dX5_prepares_15 : decode cX5_prepares 15 = .ok (.iaload, 1) := by decide +kernel
theorem dX5_prepares_16 : decode cX5_prepares 16 = .ok (.iconst 1, 1) := by decide +kernel
theorem dX5_prepares_17 : decode cX5_prepares 17 = .ok (.if_icmp .ne 12, 3) := by decide +kernel
theorem dX5_prepares_20 : decode cX5_prepares 20 = .ok (.aload_n 0, 1) := by decide +kernel
theorem dX5_prepares_21 : decode cX5_prepares 21 = .ok (.iload_n 1, 1) := by decide +kernel
theorem dX5_prepares_22 : decode cX5_prepares 22 = .ok (.iload_n 2, 1) := by decide +kernel
theorem dX5_prepares_23 : decode cX5_prepares 23 = .ok (.iload_n 3, 1) := by decide +kernel
theorem dX5_prepares_24 : decode cX5_prepares 24 = .ok (.invokevirtual 117, 3) := by decide +kernel
theorem dX5_prepares_27 : decode cX5_prepares 27 = .ok (.iconst 1, 1) := by decide +kernel
theorem dX5_prepares_28 : decode cX5_prepares 28 = .ok (.ireturn, 1) := by decide +kernel
theorem dX5_prepares_29 : decode cX5_prepares 29 = .ok (.aload_n 0, 1) := by decide +kernel
theorem dX5_prepares_30 : decode cX5_prepares 30 = .ok (.iload_n 1, 1) := by decide +kernel
theorem dX5_prepares_31 : decode cX5_prepares 31 = .ok (.invokevirtual 121, 3) := by decide +kernel
theorem dX5_prepares_34 : decode cX5_prepares 34 = .ok (.ifCond .eq 5, 3) := by decide +kernel
theorem dX5_prepares_37 : decode cX5_prepares 37 = .ok (.iconst 0, 1) := by decide +kernel
theorem dX5_prepares_38 : decode cX5_prepares 38 = .ok (.ireturn, 1) := by decide +kernel
theorem dX5_prepares_39 : decode cX5_prepares 39 = .ok (.aload_n 0, 1) := by decide +kernel
theorem dX5_prepares_40 : decode cX5_prepares 40 = .ok (.getfield 16, 3) := by decide +kernel
theorem dX5_prepares_43 : decode cX5_prepares 43 = .ok (.iload_n 1, 1) := by decide +kernel
theorem dX5_prepares_44 : decode cX5_prepares 44 = .ok (.iaload, 1) := by decide +kernel
theorem dX5_prepares_45 : decode cX5_prepares 45 = .ok (.istore 4, 2) := by decide +kernel
theorem dX5_prepares_47 : decode cX5_prepares 47 = .ok (.aload_n 0, 1) := by decide +kernel
theorem dX5_prepares_48 : decode cX5_prepares 48 = .ok (.getfield 16, 3) := by decide +kernel
theorem dX5_prepares_51 : decode cX5_prepares 51 = .ok (.iload_n 2, 1) := by decide +kernel
theorem dX5_prepares_52 : decode cX5_prepares 52 = .ok (.iaload, 1) := by decide +kernel
theorem dX5_prepares_53 : decode cX5_prepares 53 = .ok (.istore 5, 2) := by decide +kernel
theorem dX5_prepares_55 : decode cX5_prepares 55 = .ok (.aload_n 0, 1) := by decide +kernel
theorem dX5_prepares_56 : decode cX5_prepares 56 = .ok (.getfield 13, 3) := by decide +kernel
theorem dX5_prepares_59 : decode cX5_prepares 59 = .ok (.iload_n 2, 1) := by decide +kernel
theorem dX5_prepares_60 : decode cX5_prepares 60 = .ok (.iaload, 1) := by decide +kernel
theorem dX5_prepares_61 : decode cX5_prepares 61 = .ok (.aload_n 0, 1) := by decide +kernel
theorem dX5_prepares_62 : decode cX5_prepares 62 = .ok (.getfield 13, 3) := by decide +kernel
theorem dX5_prepares_65 : decode cX5_prepares 65 = .ok (.iload_n 1, 1) := by decide +kernel
theorem dX5_prepares_66 : decode cX5_prepares 66 = .ok (.iaload, 1) := by decide +kernel
theorem dX5_prepares_67 : decode cX5_prepares 67 = .ok (.if_icmp .le 9, 3) := by decide +kernel
theorem dX5_prepares_70 : decode cX5_prepares 70 = .ok (.aload_n 0, 1) := by decide +kernel
theorem dX5_prepares_71 : decode cX5_prepares 71 = .ok (.iload_n 2, 1) := by decide +kernel
theorem dX5_prepares_72 : decode cX5_prepares 72 = .ok (.iload_n 1, 1) := by decide +kernel
theorem dX5_prepares_73 : decode cX5_prepares 73 = .ok (.invokevirtual 98, 3) := by decide +kernel
theorem dX5_prepares_76 : decode cX5_prepares 76 = .ok (.aload_n 0, 1) := by decide +kernel
theorem dX5_prepares_77 : decode cX5_prepares 77 = .ok (.getfield 16, 3) := by decide +kernel
theorem dX5_prepares_80 : decode cX5_prepares 80 = .ok (.iload_n 1, 1) := by decide +kernel
theorem dX5_prepares_81 : decode cX5_prepares 81 = .ok (.iload 4, 2) := by decide +kernel
theorem dX5_prepares_83 : decode cX5_prepares 83 = .ok (.iload 5, 2) := by decide +kernel
theorem dX5_prepares_85 : decode cX5_prepares 85 = .ok (.invokestatic 106, 3) := by decide +kernel
theorem dX5_prepares_88 : decode cX5_prepares 88 = .ok (.aload_n 0, 1) := by decide +kernel
theorem dX5_prepares_89 : decode cX5_prepares 89 = .ok (.getfield 13, 3) := by decide +kernel
theorem dX5_prepares_92 : decode cX5_prepares 92 = .ok (.iload_n 1, 1) := by decide +kernel
theorem dX5_prepares_93 : decode cX5_prepares 93 = .ok (.iaload, 1) := by decide +kernel
theorem dX5_prepares_94 : decode cX5_prepares 94 = .ok (.invokestatic 110, 3) := by decide +kernel
theorem dX5_prepares_97 : decode cX5_prepares 97 = .ok (.iastore, 1) := by decide +kernel
theorem dX5_prepares_98 : decode cX5_prepares 98 = .ok (.aload_n 0, 1) := by decide +kernel
theorem dX5_prepares_99 : decode cX5_prepares 99 = .ok (.iload_n 1, 1) := by decide +kernel
theorem dX5_prepares_100 : decode cX5_prepares 100 = .ok (.invokevirtual 113, 3) := by decide +kernel
theorem dX5_prepares_103 : decode cX5_prepares 103 = .ok (.iconst 1, 1) := by decide +kernel
theorem dX5_prepares_104 : decode cX5_prepares 104 = .ok (.ireturn, 1) := by decide +kernel
set_option maxRecDepth 20000 in
theorem ggX5_hears_X5_isFirst : GoodIn wsX5_hears wsX5_isFirst := goodIn_r _ [12, 1, 6, 16, 17, 18, 19, 20, 21, 22, 23, 24, 25, 26, 27, 28, 29, 30, 31, 32, 33, 34, 35, 36, 37, 38, 39, 40, 41] (by decide +kernel) (by decide +kernel)
set_option maxRecDepth 20000 in
theorem gX5_hears_X5_isFirst : GoodIn wsX5_hears (wsV RX5 121 RX5 yX5_isFirst wsX5_isFirst) := goodIn_app (goodIn_of _ (by decide +kernel)) ggX5_hears_X5_isFirst
set_option maxRecDepth 20000 in
theorem ggX5_hears_X5_greater : GoodIn wsX5_hears wsX5_greater := goodIn_r _ [15] (by decide +kernel) (by decide +kernel)
set_option maxRecDepth 20000 in
theorem gX5_hears_X5_greater : GoodIn wsX5_hears (va_wsS RX5 106 yX5_greater wsX5_greater) := goodIn_app (goodIn_of _ (by decide +kernel)) ggX5_hears_X5_greater
theorem dX5_hears_0 : decode cX5_hears 0 = .ok (.aload_n 0, 1) := by decide +kernel
theorem dX5_hears_1 : decode cX5_hears 1 = .ok (.getfield 22, 3) := by decide +kernel
theorem dX5_hears_4 : decode cX5_hears 4 = .ok (.iload_n 1, 1) := by decide +kernel
theorem dX5_hears_5 : decode cX5_hears 5 = .ok (.iaload, 1) := by decide +kernel
theorem dX5_hears_6 : decode cX5_hears 6 = .ok (.iload_n 3, 1) := by decide +kernel
theorem dX5_hears_7 : decode cX5_hears 7 = .ok (.if_icmp .ne 20, 3) := by decide +kernel
theorem dX5_hears_10 : decode cX5_hears 10 = .ok (.aload_n 0, 1) := by decide +kernel
theorem dX5_hears_11 : decode cX5_hears 11 = .ok (.iload_n 1, 1) := by decide +kernel
theorem dX5_hears_12 : decode cX5_hears 12 = .ok (.invokevirtual 121, 3) := by decide +kernel
theorem dX5_hears_15 : decode cX5_hears 15 = .ok (.ifCond .eq 12, 3) := by decide +kernel
theorem dX5_hears_18 : decode cX5_hears 18 = .ok (.aload_n 0, 1) := by decide +kernel
theorem dX5_hears_19 : decode cX5_hears 19 = .ok (.getfield 19, 3) := by decide +kernel
theorem dX5_hears_22 : decode cX5_hears 22 = .ok (.iload_n 1, 1) := by decide +kernel
theorem dX5_hears_23 : decode cX5_hears 23 = .ok (.iaload, 1) := by decide +kernel
theorem dX5_hears_24 : decode cX5_hears 24 = .ok (.ifCond .eq 5, 3) := by decide +kernel
theorem dX5_hears_27 : decode cX5_hears 27 = .ok (.iconst 0, 1) := by decide +kernel
theorem dX5_hears_28 : decode cX5_hears 28 = .ok (.ireturn, 1) := by decide +kernel
theorem dX5_hears_29 : decode cX5_hears 29 = .ok (.aload_n 0, 1) := by decide +kernel
theorem dX5_hears_30 : decode cX5_hears 30 = .ok (.getfield 35, 3) := by decide +kernel
theorem dX5_hears_33 : decode cX5_hears 33 = .ok (.iconst 5, 1) := by decide +kernel
theorem dX5_hears_34 : decode cX5_hears 34 = .ok (.iload_n 1, 1) := by decide +kernel
theorem dX5_hears_35 : decode cX5_hears 35 = .ok (.imul, 1) := by decide +kernel
theorem dX5_hears_36 : decode cX5_hears 36 = .ok (.iload_n 2, 1) := by decide +kernel
theorem dX5_hears_37 : decode cX5_hears 37 = .ok (.iadd, 1) := by decide +kernel
theorem dX5_hears_38 : decode cX5_hears 38 = .ok (.aload_n 0, 1) := by decide +kernel
theorem dX5_hears_39 : decode cX5_hears 39 = .ok (.getfield 35, 3) := by decide +kernel
theorem dX5_hears_42 : decode cX5_hears 42 = .ok (.iconst 5, 1) := by decide +kernel
theorem dX5_hears_43 : decode cX5_hears 43 = .ok (.iload_n 1, 1) := by decide +kernel
theorem dX5_hears_44 : decode cX5_hears 44 = .ok (.imul, 1) := by decide +kernel
theorem dX5_hears_45 : decode cX5_hears 45 = .ok (.iload_n 2, 1) := by decide +kernel
theorem dX5_hears_46 : decode cX5_hears 46 = .ok (.iadd, 1) := by decide +kernel
theorem dX5_hears_47 : decode cX5_hears 47 = .ok (.iaload, 1) := by decide +kernel
theorem dX5_hears_48 : decode cX5_hears 48 = .ok (.iload 4, 2) := by decide +kernel
theorem dX5_hears_50 : decode cX5_hears 50 = .ok (.invokestatic 106, 3) := by decide +kernel
theorem dX5_hears_53 : decode cX5_hears 53 = .ok (.iastore, 1) := by decide +kernel
theorem dX5_hears_54 : decode cX5_hears 54 = .ok (.aload_n 0, 1) := by decide +kernel
theorem dX5_hears_55 : decode cX5_hears 55 = .ok (.getfield 13, 3) := by decide +kernel
theorem dX5_hears_58 : decode cX5_hears 58 = .ok (.iload_n 1, 1) := by decide +kernel
theorem dX5_hears_59 : decode cX5_hears 59 = .ok (.iaload, 1) := by decide +kernel
theorem dX5_hears_60 : decode cX5_hears 60 = .ok (.istore 5, 2) := by decide +kernel
theorem dX5_hears_62 : decode cX5_hears 62 = .ok (.iload 5, 2) := by decide +kernel
theorem dX5_hears_64 : decode cX5_hears 64 = .ok (.aload_n 0, 1) := by decide +kernel
theorem dX5_hears_65 : decode cX5_hears 65 = .ok (.getfield 16, 3) := by decide +kernel
theorem dX5_hears_68 : decode cX5_hears 68 = .ok (.iload_n 1, 1) := by decide +kernel
theorem dX5_hears_69 : decode cX5_hears 69 = .ok (.iaload, 1) := by decide +kernel
theorem dX5_hears_70 : decode cX5_hears 70 = .ok (.if_icmp .le 79, 3) := by decide +kernel
theorem dX5_hears_73 : decode cX5_hears 73 = .ok (.iconst 0, 1) := by decide +kernel
theorem dX5_hears_74 : decode cX5_hears 74 = .ok (.istore 6, 2) := by decide +kernel
theorem dX5_hears_76 : decode cX5_hears 76 = .ok (.iconst 0, 1) := by decide +kernel
theorem dX5_hears_77 : decode cX5_hears 77 = .ok (.istore 7, 2) := by decide +kernel
theorem dX5_hears_79 : decode cX5_hears 79 = .ok (.iload 7, 2) := by decide +kernel
theorem dX5_hears_81 : decode cX5_hears 81 = .ok (.aload_n 0, 1) := by decide +kernel
theorem dX5_hears_82 : decode cX5_hears 82 = .ok (.getfield 77, 3) := by decide +kernel
theorem dX5_hears_85 : decode cX5_hears 85 = .ok (.if_icmp .ge 41, 3) := by decide +kernel
theorem dX5_hears_88 : decode cX5_hears 88 = .ok (.iload 6, 2) := by decide +kernel
theorem dX5_hears_90 : decode cX5_hears 90 = .ok (.iload 7, 2) := by decide +kernel
theorem dX5_hears_92 : decode cX5_hears 92 = .ok (.iload_n 1, 1) := by decide +kernel
theorem dX5_hears_93 : decode cX5_hears 93 = .ok (.if_icmp .eq 23, 3) := by decide +kernel
theorem dX5_hears_96 : decode cX5_hears 96 = .ok (.aload_n 0, 1) := by decide +kernel
theorem dX5_hears_97 : decode cX5_hears 97 = .ok (.getfield 35, 3) := by decide +kernel
theorem dX5_hears_100 : decode cX5_hears 100 = .ok (.iconst 5, 1) := by decide +kernel
theorem dX5_hears_101 : decode cX5_hears 101 = .ok (.iload_n 1, 1) := by decide +kernel
theorem dX5_hears_102 : decode cX5_hears 102 = .ok (.imul, 1) := by decide +kernel
theorem dX5_hears_103 : decode cX5_hears 103 = .ok (.iload 7, 2) := by decide +kernel
theorem dX5_hears_105 : decode cX5_hears 105 = .ok (.iadd, 1) := by decide +kernel
theorem dX5_hears_106 : decode cX5_hears 106 = .ok (.iaload, 1) := by decide +kernel
theorem dX5_hears_107 : decode cX5_hears 107 = .ok (.iload 5, 2) := by decide +kernel
theorem dX5_hears_109 : decode cX5_hears 109 = .ok (.if_icmp .lt 7, 3) := by decide +kernel
theorem dX5_hears_112 : decode cX5_hears 112 = .ok (.iconst 1, 1) := by decide +kernel
theorem dX5_hears_113 : decode cX5_hears 113 = .ok (.goto 4, 3) := by decide +kernel
theorem dX5_hears_116 : decode cX5_hears 116 = .ok (.iconst 0, 1) := by decide +kernel
theorem dX5_hears_117 : decode cX5_hears 117 = .ok (.iadd, 1) := by decide +kernel
theorem dX5_hears_118 : decode cX5_hears 118 = .ok (.istore 6, 2) := by decide +kernel
theorem dX5_hears_120 : decode cX5_hears 120 = .ok (.iinc 7 1, 3) := by decide +kernel
theorem dX5_hears_123 : decode cX5_hears 123 = .ok (.goto (-44), 3) := by decide +kernel
theorem dX5_hears_126 : decode cX5_hears 126 = .ok (.iload 6, 2) := by decide +kernel
theorem dX5_hears_128 : decode cX5_hears 128 = .ok (.aload_n 0, 1) := by decide +kernel
theorem dX5_hears_129 : decode cX5_hears 129 = .ok (.getfield 81, 3) := by decide +kernel
theorem dX5_hears_132 : decode cX5_hears 132 = .ok (.if_icmp .lt 11, 3) := by decide +kernel
theorem dX5_hears_135 : decode cX5_hears 135 = .ok (.aload_n 0, 1) := by decide +kernel
theorem dX5_hears_136 : decode cX5_hears 136 = .ok (.getfield 16, 3) := by decide +kernel
theorem dX5_hears_139 : decode cX5_hears 139 = .ok (.iload_n 1, 1) := by decide +kernel
theorem dX5_hears_140 : decode cX5_hears 140 = .ok (.iload 5, 2) := by decide +kernel
theorem dX5_hears_142 : decode cX5_hears 142 = .ok (.iastore, 1) := by decide +kernel
theorem dX5_hears_143 : decode cX5_hears 143 = .ok (.iinc 5 (-1), 3) := by decide +kernel
theorem dX5_hears_146 : decode cX5_hears 146 = .ok (.goto (-84), 3) := by decide +kernel
theorem dX5_hears_149 : decode cX5_hears 149 = .ok (.iconst 1, 1) := by decide +kernel
theorem dX5_hears_150 : decode cX5_hears 150 = .ok (.ireturn, 1) := by decide +kernel
theorem dX5_forget_0 : decode cX5_forget 0 = .ok (.iconst 0, 1) := by decide +kernel
theorem dX5_forget_1 : decode cX5_forget 1 = .ok (.istore_n 2, 1) := by decide +kernel
theorem dX5_forget_2 : decode cX5_forget 2 = .ok (.iload_n 2, 1) := by decide +kernel
theorem dX5_forget_3 : decode cX5_forget 3 = .ok (.iconst 5, 1) := by decide +kernel
theorem dX5_forget_4 : decode cX5_forget 4 = .ok (.if_icmp .ge 31, 3) := by decide +kernel
theorem dX5_forget_7 : decode cX5_forget 7 = .ok (.aload_n 0, 1) := by decide +kernel
theorem dX5_forget_8 : decode cX5_forget 8 = .ok (.getfield 38, 3) := by decide +kernel
theorem dX5_forget_11 : decode cX5_forget 11 = .ok (.iconst 5, 1) := by decide +kernel
theorem dX5_forget_12 : decode cX5_forget 12 = .ok (.iload_n 1, 1) := by decide +kernel
theorem dX5_forget_13 : decode cX5_forget 13 = .ok (.imul, 1) := by decide +kernel
theorem dX5_forget_14 : decode cX5_forget 14 = .ok (.iload_n 2, 1) := by decide +kernel
theorem dX5_forget_15 : decode cX5_forget 15 = .ok (.iadd, 1) := by decide +kernel
theorem dX5_forget_16 : decode cX5_forget 16 = .ok (.iconst 0, 1) := by decide +kernel
theorem dX5_forget_17 : decode cX5_forget 17 = .ok (.bastore, 1) := by decide +kernel
theorem dX5_forget_18 : decode cX5_forget 18 = .ok (.aload_n 0, 1) := by decide +kernel
theorem dX5_forget_19 : decode cX5_forget 19 = .ok (.getfield 41, 3) := by decide +kernel
theorem dX5_forget_22 : decode cX5_forget 22 = .ok (.iconst 5, 1) := by decide +kernel
theorem dX5_forget_23 : decode cX5_forget 23 = .ok (.iload_n 1, 1) := by decide +kernel
theorem dX5_forget_24 : decode cX5_forget 24 = .ok (.imul, 1) := by decide +kernel
theorem dX5_forget_25 : decode cX5_forget 25 = .ok (.iload_n 2, 1) := by decide +kernel
theorem dX5_forget_26 : decode cX5_forget 26 = .ok (.iadd, 1) := by decide +kernel
theorem dX5_forget_27 : decode cX5_forget 27 = .ok (.iconst 0, 1) := by decide +kernel
theorem dX5_forget_28 : decode cX5_forget 28 = .ok (.bastore, 1) := by decide +kernel
theorem dX5_forget_29 : decode cX5_forget 29 = .ok (.iinc 2 1, 3) := by decide +kernel
theorem dX5_forget_32 : decode cX5_forget 32 = .ok (.goto (-30), 3) := by decide +kernel
theorem dX5_forget_35 : decode cX5_forget 35 = .ok (.aload_n 0, 1) := by decide +kernel
theorem dX5_forget_36 : decode cX5_forget 36 = .ok (.getfield 28, 3) := by decide +kernel
theorem dX5_forget_39 : decode cX5_forget 39 = .ok (.iload_n 1, 1) := by decide +kernel
theorem dX5_forget_40 : decode cX5_forget 40 = .ok (.iconst 0, 1) := by decide +kernel
theorem dX5_forget_41 : decode cX5_forget 41 = .ok (.bastore, 1) := by decide +kernel
theorem dX5_forget_42 : decode cX5_forget 42 = .ok (.return_, 1) := by decide +kernel
set_option maxRecDepth 20000 in
theorem ggX5_changes_X5_forget : GoodIn wsX5_changes wsX5_forget := goodIn_r _ [7, 8, 9, 10, 37, 38, 39, 40, 41, 42, 43, 44, 45, 46, 47, 48, 49, 50, 51, 52, 53, 54, 55, 56, 57, 58, 59, 60, 61, 62] (by decide +kernel) (by decide +kernel)
set_option maxRecDepth 20000 in
theorem gX5_changes_X5_forget : GoodIn wsX5_changes (wsV RX5 124 RX5 yX5_forget wsX5_forget) := goodIn_app (goodIn_of _ (by decide +kernel)) ggX5_changes_X5_forget
set_option maxRecDepth 20000 in
theorem ggX5_changes_X5_postAll : GoodIn wsX5_changes wsX5_postAll := goodIn_r _ [14, 15, 16, 17, 18, 6, 19, 20, 21, 22, 23, 24, 25, 26, 27, 28, 29, 30, 31, 32, 33, 34, 35, 36, 37, 38, 39, 40, 41, 42, 43, 44, 45, 46, 47, 48, 49, 50, 51, 52, 53, 54, 55, 56, 57, 58, 59, 60, 61, 62] (by decide +kernel) (by decide +kernel)
set_option maxRecDepth 20000 in
theorem gX5_changes_X5_postAll : GoodIn wsX5_changes (wsV RX5 127 RX5 yX5_postAll wsX5_postAll) := goodIn_app (goodIn_of _ (by decide +kernel)) ggX5_changes_X5_postAll
theorem dX5_changes_0 : decode cX5_changes 0 = .ok (.aload_n 0, 1) := by decide +kernel
theorem dX5_changes_1 : decode cX5_changes 1 = .ok (.getfield 22, 3) := by decide +kernel
theorem dX5_changes_4 : decode cX5_changes 4 = .ok (.iload_n 1, 1) := by decide +kernel
theorem dX5_changes_5 : decode cX5_changes 5 = .ok (.iload_n 2, 1) := by decide +kernel
theorem dX5_changes_6 : decode cX5_changes 6 = .ok (.iastore, 1) := by decide +kernel
theorem dX5_changes_7 : decode cX5_changes 7 = .ok (.aload_n 0, 1) := by decide +kernel
theorem dX5_changes_8 : decode cX5_changes 8 = .ok (.getfield 19, 3) := by decide +kernel
theorem dX5_changes_11 : decode cX5_changes 11 = .ok (.iload_n 1, 1) := by decide +kernel
theorem dX5_changes_12 : decode cX5_changes 12 = .ok (.iconst 1, 1) := by decide +kernel
theorem dX5_changes_13 : decode cX5_changes 13 = .ok (.iastore, 1) := by decide +kernel
theorem dX5_changes_14 : decode cX5_changes 14 = .ok (.aload_n 0, 1) := by decide +kernel
theorem dX5_changes_15 : decode cX5_changes 15 = .ok (.iload_n 1, 1) := by decide +kernel
theorem dX5_changes_16 : decode cX5_changes 16 = .ok (.invokevirtual 124, 3) := by decide +kernel
theorem dX5_changes_19 : decode cX5_changes 19 = .ok (.aload_n 0, 1) := by decide +kernel
theorem dX5_changes_20 : decode cX5_changes 20 = .ok (.iload_n 1, 1) := by decide +kernel
theorem dX5_changes_21 : decode cX5_changes 21 = .ok (.iconst 3, 1) := by decide +kernel
theorem dX5_changes_22 : decode cX5_changes 22 = .ok (.iload_n 2, 1) := by decide +kernel
theorem dX5_changes_23 : decode cX5_changes 23 = .ok (.iconst 0, 1) := by decide +kernel
theorem dX5_changes_24 : decode cX5_changes 24 = .ok (.invokevirtual 127, 3) := by decide +kernel
theorem dX5_changes_27 : decode cX5_changes 27 = .ok (.istore_n 3, 1) := by decide +kernel
theorem dX5_changes_28 : decode cX5_changes 28 = .ok (.return_, 1) := by decide +kernel
theorem dX5_voters_0 : decode cX5_voters 0 = .ok (.iconst 0, 1) := by decide +kernel
theorem dX5_voters_1 : decode cX5_voters 1 = .ok (.istore_n 2, 1) := by decide +kernel
theorem dX5_voters_2 : decode cX5_voters 2 = .ok (.iconst 0, 1) := by decide +kernel
theorem dX5_voters_3 : decode cX5_voters 3 = .ok (.istore_n 3, 1) := by decide +kernel
theorem dX5_voters_4 : decode cX5_voters 4 = .ok (.iload_n 3, 1) := by decide +kernel
theorem dX5_voters_5 : decode cX5_voters 5 = .ok (.aload_n 0, 1) := by decide +kernel
theorem dX5_voters_6 : decode cX5_voters 6 = .ok (.getfield 77, 3) := by decide +kernel
theorem dX5_voters_9 : decode cX5_voters 9 = .ok (.if_icmp .ge 30, 3) := by decide +kernel
theorem dX5_voters_12 : decode cX5_voters 12 = .ok (.iload_n 2, 1) := by decide +kernel
theorem dX5_voters_13 : decode cX5_voters 13 = .ok (.aload_n 0, 1) := by decide +kernel
theorem dX5_voters_14 : decode cX5_voters 14 = .ok (.getfield 38, 3) := by decide +kernel
theorem dX5_voters_17 : decode cX5_voters 17 = .ok (.iconst 5, 1) := by decide +kernel
theorem dX5_voters_18 : decode cX5_voters 18 = .ok (.iload_n 1, 1) := by decide +kernel
theorem dX5_voters_19 : decode cX5_voters 19 = .ok (.imul, 1) := by decide +kernel
theorem dX5_voters_20 : decode cX5_voters 20 = .ok (.iload_n 3, 1) := by decide +kernel
theorem dX5_voters_21 : decode cX5_voters 21 = .ok (.iadd, 1) := by decide +kernel
theorem dX5_voters_22 : decode cX5_voters 22 = .ok (.baload, 1) := by decide +kernel
theorem dX5_voters_23 : decode cX5_voters 23 = .ok (.ifCond .eq 7, 3) := by decide +kernel
theorem dX5_voters_26 : decode cX5_voters 26 = .ok (.iconst 1, 1) := by decide +kernel
theorem dX5_voters_27 : decode cX5_voters 27 = .ok (.goto 4, 3) := by decide +kernel
theorem dX5_voters_30 : decode cX5_voters 30 = .ok (.iconst 0, 1) := by decide +kernel
theorem dX5_voters_31 : decode cX5_voters 31 = .ok (.iadd, 1) := by decide +kernel
theorem dX5_voters_32 : decode cX5_voters 32 = .ok (.istore_n 2, 1) := by decide +kernel
theorem dX5_voters_33 : decode cX5_voters 33 = .ok (.iinc 3 1, 3) := by decide +kernel
theorem dX5_voters_36 : decode cX5_voters 36 = .ok (.goto (-32), 3) := by decide +kernel
theorem dX5_voters_39 : decode cX5_voters 39 = .ok (.iload_n 2, 1) := by decide +kernel
theorem dX5_voters_40 : decode cX5_voters 40 = .ok (.ireturn, 1) := by decide +kernel
theorem dX5_votes_0 : decode cX5_votes 0 = .ok (.iconst 0, 1) := by decide +kernel
theorem dX5_votes_1 : decode cX5_votes 1 = .ok (.istore_n 2, 1) := by decide +kernel
theorem dX5_votes_2 : decode cX5_votes 2 = .ok (.iconst 0, 1) := by decide +kernel
theorem dX5_votes_3 : decode cX5_votes 3 = .ok (.istore_n 3, 1) := by decide +kernel
theorem dX5_votes_4 : decode cX5_votes 4 = .ok (.iload_n 3, 1) := by decide +kernel
theorem dX5_votes_5 : decode cX5_votes 5 = .ok (.aload_n 0, 1) := by decide +kernel
theorem dX5_votes_6 : decode cX5_votes 6 = .ok (.getfield 77, 3) := by decide +kernel
theorem dX5_votes_9 : decode cX5_votes 9 = .ok (.if_icmp .ge 30, 3) := by decide +kernel
theorem dX5_votes_12 : decode cX5_votes 12 = .ok (.iload_n 2, 1) := by decide +kernel
theorem dX5_votes_13 : decode cX5_votes 13 = .ok (.aload_n 0, 1) := by decide +kernel
theorem dX5_votes_14 : decode cX5_votes 14 = .ok (.getfield 41, 3) := by decide +kernel
theorem dX5_votes_17 : decode cX5_votes 17 = .ok (.iconst 5, 1) := by decide +kernel
theorem dX5_votes_18 : decode cX5_votes 18 = .ok (.iload_n 1, 1) := by decide +kernel
theorem dX5_votes_19 : decode cX5_votes 19 = .ok (.imul, 1) := by decide +kernel
theorem dX5_votes_20 : decode cX5_votes 20 = .ok (.iload_n 3, 1) := by decide +kernel
theorem dX5_votes_21 : decode cX5_votes 21 = .ok (.iadd, 1) := by decide +kernel
theorem dX5_votes_22 : decode cX5_votes 22 = .ok (.baload, 1) := by decide +kernel
theorem dX5_votes_23 : decode cX5_votes 23 = .ok (.ifCond .eq 7, 3) := by decide +kernel
theorem dX5_votes_26 : decode cX5_votes 26 = .ok (.iconst 1, 1) := by decide +kernel
theorem dX5_votes_27 : decode cX5_votes 27 = .ok (.goto 4, 3) := by decide +kernel
theorem dX5_votes_30 : decode cX5_votes 30 = .ok (.iconst 0, 1) := by decide +kernel
theorem dX5_votes_31 : decode cX5_votes 31 = .ok (.iadd, 1) := by decide +kernel
theorem dX5_votes_32 : decode cX5_votes 32 = .ok (.istore_n 2, 1) := by decide +kernel
theorem dX5_votes_33 : decode cX5_votes 33 = .ok (.iinc 3 1, 3) := by decide +kernel
theorem dX5_votes_36 : decode cX5_votes 36 = .ok (.goto (-32), 3) := by decide +kernel
theorem dX5_votes_39 : decode cX5_votes 39 = .ok (.iload_n 2, 1) := by decide +kernel
theorem dX5_votes_40 : decode cX5_votes 40 = .ok (.ireturn, 1) := by decide +kernel
set_option maxRecDepth 20000 in
theorem ggX5_isAsked_X5_changes : GoodIn wsX5_isAsked wsX5_changes := goodIn_r _ [12, 1, 2, 13, 14, 15, 11, 16, 3, 17, 5, 18, 19, 20, 21, 7, 22, 23, 24, 25, 26, 27, 28, 29, 30, 31, 32, 33, 34, 35, 36, 37, 38, 39, 40, 41, 42, 67, 68, 69, 70, 71, 72, 73, 74, 75, 76, 77, 78, 79, 80, 81, 82, 83, 84, 85, 86, 87, 88, 89, 90, 91, 92] (by decide +kernel) (by decide +kernel)
set_option maxRecDepth 20000 in
theorem gX5_isAsked_X5_changes : GoodIn wsX5_isAsked (wsV RX5 131 RX5 yX5_changes wsX5_changes) := goodIn_app (goodIn_of _ (by decide +kernel)) ggX5_isAsked_X5_changes
set_option maxRecDepth 20000 in
theorem ggX5_isAsked_X5_voters : GoodIn wsX5_isAsked wsX5_voters := goodIn_r _ [46, 7, 3, 67, 68, 69, 70, 71, 72, 73, 74, 75, 76, 77, 78, 79, 80, 81, 82, 83, 84, 85, 86, 87, 88, 89, 90, 91, 92] (by decide +kernel) (by decide +kernel)
set_option maxRecDepth 20000 in
theorem gX5_isAsked_X5_voters : GoodIn wsX5_isAsked (wsV RX5 134 RX5 yX5_voters wsX5_voters) := goodIn_app (goodIn_of _ (by decide +kernel)) ggX5_isAsked_X5_voters
set_option maxRecDepth 20000 in
theorem ggX5_isAsked_X5_isFirst : GoodIn wsX5_isAsked wsX5_isFirst := goodIn_r _ [50, 1, 7, 67, 68, 69, 70, 71, 72, 73, 74, 75, 76, 77, 78, 79, 80, 81, 82, 83, 84, 85, 86, 87, 88, 89, 90, 91, 92] (by decide +kernel) (by decide +kernel)
set_option maxRecDepth 20000 in
theorem gX5_isAsked_X5_isFirst : GoodIn wsX5_isAsked (wsV RX5 121 RX5 yX5_isFirst wsX5_isFirst) := goodIn_app (goodIn_of _ (by decide +kernel)) ggX5_isAsked_X5_isFirst
set_option maxRecDepth 20000 in
theorem ggX5_isAsked_X5_takesVote : GoodIn wsX5_isAsked wsX5_takesVote := goodIn_r _ [54, 2, 17, 55, 4, 7, 41, 40, 6, 1, 56, 36, 37, 38, 11, 39, 42, 57, 58, 59, 60, 61, 62, 63, 64, 65, 66, 18, 19, 20, 21, 22, 23, 24, 25, 26, 27, 28, 29, 30, 31, 32, 33, 34, 35, 67, 68, 69, 70, 71, 72, 73, 74, 75, 76, 77, 78, 79, 80, 81, 82, 83, 84, 85, 86, 87, 88, 89, 90, 91, 92] (by decide +kernel) (by decide +kernel)
set_option maxRecDepth 20000 in
theorem gX5_isAsked_X5_takesVote : GoodIn wsX5_isAsked (wsV RX5 138 RX5 yX5_takesVote wsX5_takesVote) := goodIn_app (goodIn_of _ (by decide +kernel)) ggX5_isAsked_X5_takesVote
set_option maxRecDepth 20000 in
theorem ggX5_isAsked_X5_post : GoodIn wsX5_isAsked wsX5_post := goodIn_r _ [25, 26, 27, 28, 29, 30, 31, 32, 33, 34, 11, 35, 36, 37, 38, 39, 40, 41, 42, 67, 68, 69, 70, 71, 72, 73, 74, 75, 76, 77, 78, 79, 80, 81, 82, 83, 84, 85, 86, 87, 88, 89, 90, 91, 92] (by decide +kernel) (by decide +kernel)
set_option maxRecDepth 20000 in
theorem gX5_isAsked_X5_post : GoodIn wsX5_isAsked (wsV RX5 102 RX5 yX5_post wsX5_post) := goodIn_app (goodIn_of _ (by decide +kernel)) ggX5_isAsked_X5_post
theorem dX5_isAsked_0 : decode cX5_isAsked 0 = .ok (.iconst 0, 1) := by decide +kernel
theorem dX5_isAsked_1 : decode cX5_isAsked 1 = .ok (.istore 4, 2) := by decide +kernel
theorem dX5_isAsked_3 : decode cX5_isAsked 3 = .ok (.iload_n 3, 1) := by decide +kernel
theorem dX5_isAsked_4 : decode cX5_isAsked 4 = .ok (.aload_n 0, 1) := by decide +kernel
theorem dX5_isAsked_5 : decode cX5_isAsked 5 = .ok (.getfield 22, 3) := by decide +kernel
theorem dX5_isAsked_8 : decode cX5_isAsked 8 = .ok (.iload_n 1, 1) := by decide +kernel
theorem dX5_isAsked_9 : decode cX5_isAsked 9 = .ok (.iaload, 1) := by decide +kernel
theorem dX5_isAsked_10 : decode cX5_isAsked 10 = .ok (.if_icmp .le 12, 3) := by decide +kernel
theorem dX5_isAsked_13 : decode cX5_isAsked 13 = .ok (.aload_n 0, 1) := by decide +kernel
theorem dX5_isAsked_14 : decode cX5_isAsked 14 = .ok (.iload_n 1, 1) := by decide +kernel
theorem dX5_isAsked_15 : decode cX5_isAsked 15 = .ok (.iload_n 3, 1) := by decide +kernel
theorem dX5_isAsked_16 : decode cX5_isAsked 16 = .ok (.invokevirtual 131, 3) := by decide +kernel
theorem dX5_isAsked_19 : decode cX5_isAsked 19 = .ok (.iconst 1, 1) := by decide +kernel
theorem dX5_isAsked_20 : decode cX5_isAsked 20 = .ok (.istore 4, 2) := by decide +kernel
theorem dX5_isAsked_22 : decode cX5_isAsked 22 = .ok (.aload_n 0, 1) := by decide +kernel
theorem dX5_isAsked_23 : decode cX5_isAsked 23 = .ok (.getfield 19, 3) := by decide +kernel
theorem dX5_isAsked_26 : decode cX5_isAsked 26 = .ok (.iload_n 1, 1) := by decide +kernel
theorem dX5_isAsked_27 : decode cX5_isAsked 27 = .ok (.iaload, 1) := by decide +kernel
theorem dX5_isAsked_28 : decode cX5_isAsked 28 = .ok (.iconst 1, 1) := by decide +kernel
theorem dX5_isAsked_29 : decode cX5_isAsked 29 = .ok (.if_icmp .eq 6, 3) := by decide +kernel
theorem dX5_isAsked_32 : decode cX5_isAsked 32 = .ok (.iload 4, 2) := by decide +kernel
theorem dX5_isAsked_34 : decode cX5_isAsked 34 = .ok (.ireturn, 1) := by decide +kernel
theorem dX5_isAsked_35 : decode cX5_isAsked 35 = .ok (.iload 4, 2) := by decide +kernel
theorem dX5_isAsked_37 : decode cX5_isAsked 37 = .ok (.aload_n 0, 1) := by decide +kernel
theorem dX5_isAsked_38 : decode cX5_isAsked 38 = .ok (.getfield 38, 3) := by decide +kernel
theorem dX5_isAsked_41 : decode cX5_isAsked 41 = .ok (.iconst 5, 1) := by decide +kernel
theorem dX5_isAsked_42 : decode cX5_isAsked 42 = .ok (.iload_n 1, 1) := by decide +kernel
theorem dX5_isAsked_43 : decode cX5_isAsked 43 = .ok (.imul, 1) := by decide +kernel
theorem dX5_isAsked_44 : decode cX5_isAsked 44 = .ok (.iload_n 2, 1) := by decide +kernel
theorem dX5_isAsked_45 : decode cX5_isAsked 45 = .ok (.iadd, 1) := by decide +kernel
theorem dX5_isAsked_46 : decode cX5_isAsked 46 = .ok (.baload, 1) := by decide +kernel
theorem dX5_isAsked_47 : decode cX5_isAsked 47 = .ok (.ifCond .ne 7, 3) := by decide +kernel
theorem dX5_isAsked_50 : decode cX5_isAsked 50 = .ok (.iconst 1, 1) := by decide +kernel
theorem dX5_isAsked_51 : decode cX5_isAsked 51 = .ok (.goto 4, 3) := by decide +kernel
theorem dX5_isAsked_54 : decode cX5_isAsked 54 = .ok (.iconst 0, 1) := by decide +kernel
theorem dX5_isAsked_55 : decode cX5_isAsked 55 = .ok (.ior, 1) := by decide +kernel
theorem dX5_isAsked_56 : decode cX5_isAsked 56 = .ok (.istore 4, 2) := by decide +kernel
theorem dX5_isAsked_58 : decode cX5_isAsked 58 = .ok (.aload_n 0, 1) := by decide +kernel
theorem dX5_isAsked_59 : decode cX5_isAsked 59 = .ok (.getfield 38, 3) := by decide +kernel
theorem dX5_isAsked_62 : decode cX5_isAsked 62 = .ok (.iconst 5, 1) := by decide +kernel
theorem dX5_isAsked_63 : decode cX5_isAsked 63 = .ok (.iload_n 1, 1) := by decide +kernel
theorem dX5_isAsked_64 : decode cX5_isAsked 64 = .ok (.imul, 1) := by decide +kernel
theorem dX5_isAsked_65 : decode cX5_isAsked 65 = .ok (.iload_n 2, 1) := by decide +kernel
theorem dX5_isAsked_66 : decode cX5_isAsked 66 = .ok (.iadd, 1) := by decide +kernel
theorem dX5_isAsked_67 : decode cX5_isAsked 67 = .ok (.iconst 1, 1) := by decide +kernel
theorem dX5_isAsked_68 : decode cX5_isAsked 68 = .ok (.bastore, 1) := by decide +kernel
theorem dX5_isAsked_69 : decode cX5_isAsked 69 = .ok (.aload_n 0, 1) := by decide +kernel
theorem dX5_isAsked_70 : decode cX5_isAsked 70 = .ok (.iload_n 1, 1) := by decide +kernel
theorem dX5_isAsked_71 : decode cX5_isAsked 71 = .ok (.invokevirtual 134, 3) := by decide +kernel
theorem dX5_isAsked_74 : decode cX5_isAsked 74 = .ok (.aload_n 0, 1) := by decide +kernel
theorem dX5_isAsked_75 : decode cX5_isAsked 75 = .ok (.getfield 81, 3) := by decide +kernel
theorem dX5_isAsked_78 : decode cX5_isAsked 78 = .ok (.if_icmp .lt 74, 3) := by decide +kernel
theorem dX5_isAsked_81 : decode cX5_isAsked 81 = .ok (.aload_n 0, 1) := by decide +kernel
theorem dX5_isAsked_82 : decode cX5_isAsked 82 = .ok (.getfield 28, 3) := by decide +kernel
theorem dX5_isAsked_85 : decode cX5_isAsked 85 = .ok (.iload_n 1, 1) := by decide +kernel
theorem dX5_isAsked_86 : decode cX5_isAsked 86 = .ok (.baload, 1) := by decide +kernel
theorem dX5_isAsked_87 : decode cX5_isAsked 87 = .ok (.ifCond .ne 65, 3) := by decide +kernel
theorem dX5_isAsked_90 : decode cX5_isAsked 90 = .ok (.aload_n 0, 1) := by decide +kernel
theorem dX5_isAsked_91 : decode cX5_isAsked 91 = .ok (.getfield 28, 3) := by decide +kernel
theorem dX5_isAsked_94 : decode cX5_isAsked 94 = .ok (.iload_n 1, 1) := by decide +kernel
theorem dX5_isAsked_95 : decode cX5_isAsked 95 = .ok (.iconst 1, 1) := by decide +kernel
theorem dX5_isAsked_96 : decode cX5_isAsked 96 = .ok (.bastore, 1) := by decide +kernel
theorem dX5_isAsked_97 : decode cX5_isAsked 97 = .ok (.aload_n 0, 1) := by decide +kernel
theorem dX5_isAsked_98 : decode cX5_isAsked 98 = .ok (.iload_n 1, 1) := by decide +kernel
theorem dX5_isAsked_99 : decode cX5_isAsked 99 = .ok (.invokevirtual 121, 3) := by decide +kernel
theorem dX5_isAsked_102 : decode cX5_isAsked 102 = .ok (.ifCond .eq 21, 3) := by decide +kernel
theorem dX5_isAsked_105 : decode cX5_isAsked 105 = .ok (.aload_n 0, 1) := by decide +kernel
theorem dX5_isAsked_106 : decode cX5_isAsked 106 = .ok (.iload_n 1, 1) := by decide +kernel
theorem dX5_isAsked_107 : decode cX5_isAsked 107 = .ok (.iload_n 1, 1) := by decide +kernel
theorem dX5_isAsked_108 : decode cX5_isAsked 108 = .ok (.iload_n 1, 1) := by decide +kernel
theorem dX5_isAsked_109 : decode cX5_isAsked 109 = .ok (.aload_n 0, 1) := by decide +kernel
theorem dX5_isAsked_110 : decode cX5_isAsked 110 = .ok (.getfield 25, 3) := by decide +kernel
theorem dX5_isAsked_113 : decode cX5_isAsked 113 = .ok (.iload_n 1, 1) := by decide +kernel
theorem dX5_isAsked_114 : decode cX5_isAsked 114 = .ok (.iaload, 1) := by decide +kernel
theorem dX5_isAsked_115 : decode cX5_isAsked 115 = .ok (.invokevirtual 138, 3) := by decide +kernel
theorem dX5_isAsked_118 : decode cX5_isAsked 118 = .ok (.istore 5, 2) := by decide +kernel
theorem dX5_isAsked_120 : decode cX5_isAsked 120 = .ok (.goto 32, 3) := by decide +kernel
theorem dX5_isAsked_123 : decode cX5_isAsked 123 = .ok (.aload_n 0, 1) := by decide +kernel
theorem dX5_isAsked_124 : decode cX5_isAsked 124 = .ok (.iload_n 1, 1) := by decide +kernel
theorem dX5_isAsked_125 : decode cX5_isAsked 125 = .ok (.aload_n 0, 1) := by decide +kernel
theorem dX5_isAsked_126 : decode cX5_isAsked 126 = .ok (.getfield 22, 3) := by decide +kernel
theorem dX5_isAsked_129 : decode cX5_isAsked 129 = .ok (.iload_n 1, 1) := by decide +kernel
theorem dX5_isAsked_130 : decode cX5_isAsked 130 = .ok (.iaload, 1) := by decide +kernel
theorem dX5_isAsked_131 : decode cX5_isAsked 131 = .ok (.aload_n 0, 1) := by decide +kernel
theorem dX5_isAsked_132 : decode cX5_isAsked 132 = .ok (.getfield 77, 3) := by decide +kernel
theorem dX5_isAsked_135 : decode cX5_isAsked 135 = .ok (.irem, 1) := by decide +kernel
theorem dX5_isAsked_136 : decode cX5_isAsked 136 = .ok (.iconst 4, 1) := by decide +kernel
theorem dX5_isAsked_137 : decode cX5_isAsked 137 = .ok (.aload_n 0, 1) := by decide +kernel
theorem dX5_isAsked_138 : decode cX5_isAsked 138 = .ok (.getfield 22, 3) := by decide +kernel
theorem dX5_isAsked_141 : decode cX5_isAsked 141 = .ok (.iload_n 1, 1) := by decide +kernel
theorem dX5_isAsked_142 : decode cX5_isAsked 142 = .ok (.iaload, 1) := by decide +kernel
theorem dX5_isAsked_143 : decode cX5_isAsked 143 = .ok (.aload_n 0, 1) := by decide +kernel
theorem dX5_isAsked_144 : decode cX5_isAsked 144 = .ok (.getfield 25, 3) := by decide +kernel
theorem dX5_isAsked_147 : decode cX5_isAsked 147 = .ok (.iload_n 1, 1) := by decide +kernel
theorem dX5_isAsked_148 : decode cX5_isAsked 148 = .ok (.iaload, 1) := by decide +kernel
theorem dX5_isAsked_149 : decode cX5_isAsked 149 = .ok (.invokevirtual 102, 3) := by decide +kernel
theorem dX5_isAsked_152 : decode cX5_isAsked 152 = .ok (.iload 4, 2) := by decide +kernel
theorem dX5_isAsked_154 : decode cX5_isAsked 154 = .ok (.ireturn, 1) := by decide +kernel
set_option maxRecDepth 20000 in
theorem ggX5_takesVote_X5_copyLog : GoodIn wsX5_takesVote wsX5_copyLog := goodIn_r _ [15, 7, 6, 16, 45, 46, 47, 48, 49, 50, 51, 52, 53, 54, 55, 56, 57, 58, 59, 60, 61, 62, 63, 64, 65, 66, 67, 68, 69, 70] (by decide +kernel) (by decide +kernel)
set_option maxRecDepth 20000 in
theorem gX5_takesVote_X5_copyLog : GoodIn wsX5_takesVote (wsV RX5 98 RX5 yX5_copyLog wsX5_copyLog) := goodIn_app (goodIn_of _ (by decide +kernel)) ggX5_takesVote_X5_copyLog
set_option maxRecDepth 20000 in
theorem ggX5_takesVote_X5_votes : GoodIn wsX5_takesVote wsX5_votes := goodIn_r _ [20, 5, 2, 45, 46, 47, 48, 49, 50, 51, 52, 53, 54, 55, 56, 57, 58, 59, 60, 61, 62, 63, 64, 65, 66, 67, 68, 69, 70] (by decide +kernel) (by decide +kernel)
set_option maxRecDepth 20000 in
theorem gX5_takesVote_X5_votes : GoodIn wsX5_takesVote (wsV RX5 142 RX5 yX5_votes wsX5_votes) := goodIn_app (goodIn_of _ (by decide +kernel)) ggX5_takesVote_X5_votes
set_option maxRecDepth 20000 in
theorem ggX5_takesVote_X5_greater : GoodIn wsX5_takesVote wsX5_greater := goodIn_r _ [23] (by decide +kernel) (by decide +kernel)
set_option maxRecDepth 20000 in
theorem gX5_takesVote_X5_greater : GoodIn wsX5_takesVote (va_wsS RX5 106 yX5_greater wsX5_greater) := goodIn_app (goodIn_of _ (by decide +kernel)) ggX5_takesVote_X5_greater
set_option maxRecDepth 20000 in
theorem ggX5_takesVote_X5_lesser : GoodIn wsX5_takesVote wsX5_lesser := goodIn_r _ [26] (by decide +kernel) (by decide +kernel)
set_option maxRecDepth 20000 in
theorem gX5_takesVote_X5_lesser : GoodIn wsX5_takesVote (va_wsS RX5 110 yX5_lesser wsX5_lesser) := goodIn_app (goodIn_of _ (by decide +kernel)) ggX5_takesVote_X5_lesser
set_option maxRecDepth 20000 in
theorem ggX5_takesVote_X5_postAll : GoodIn wsX5_takesVote wsX5_postAll := goodIn_r _ [30, 5, 31, 32, 33, 14, 34, 35, 36, 37, 38, 39, 40, 41, 42, 43, 44, 11, 12, 13, 15, 7, 6, 16, 45, 46, 47, 48, 49, 50, 51, 52, 53, 54, 55, 56, 57, 58, 59, 60, 61, 62, 63, 64, 65, 66, 67, 68, 69, 70] (by decide +kernel) (by decide +kernel)
set_option maxRecDepth 20000 in
theorem gX5_takesVote_X5_postAll : GoodIn wsX5_takesVote (wsV RX5 127 RX5 yX5_postAll wsX5_postAll) := goodIn_app (goodIn_of _ (by decide +kernel)) ggX5_takesVote_X5_postAll
theorem dX5_takesVote_0 : decode cX5_takesVote 0 = .ok (.aload_n 0, 1) := by decide +kernel
theorem dX5_takesVote_1 : decode cX5_takesVote 1 = .ok (.getfield 19, 3) := by decide +kernel
theorem dX5_takesVote_4 : decode cX5_takesVote 4 = .ok (.iload_n 1, 1) := by decide +kernel
theorem dX5_takesVote_5 : decode cX5_takesVote 5 = .ok (.iaload, 1) := by decide +kernel
theorem dX5_takesVote_6 : decode cX5_takesVote 6 = .ok (.iconst 1, 1) := by decide +kernel
theorem dX5_takesVote_7 : decode cX5_takesVote 7 = .ok (.if_icmp .ne 16, 3) := by decide +kernel
theorem dX5_takesVote_10 : decode cX5_takesVote 10 = .ok (.aload_n 0, 1) := by decide +kernel
theorem dX5_takesVote_11 : decode cX5_takesVote 11 = .ok (.getfield 41, 3) := by decide +kernel
theorem dX5_takesVote_14 : decode cX5_takesVote 14 = .ok (.iconst 5, 1) := by decide +kernel
theorem dX5_takesVote_15 : decode cX5_takesVote 15 = .ok (.iload_n 1, 1) := by decide +kernel
theorem dX5_takesVote_16 : decode cX5_takesVote 16 = .ok (.imul, 1) := by decide +kernel
theorem dX5_takesVote_17 : decode cX5_takesVote 17 = .ok (.iload_n 2, 1) := by decide +kernel
theorem dX5_takesVote_18 : decode cX5_takesVote 18 = .ok (.iadd, 1) := by decide +kernel
theorem dX5_takesVote_19 : decode cX5_takesVote 19 = .ok (.baload, 1) := by decide +kernel
theorem dX5_takesVote_20 : decode cX5_takesVote 20 = .ok (.ifCond .eq 5, 3) := by decide +kernel
theorem dX5_takesVote_23 : decode cX5_takesVote 23 = .ok (.iconst 0, 1) := by decide +kernel
theorem dX5_takesVote_24 : decode cX5_takesVote 24 = .ok (.ireturn, 1) := by decide +kernel
theorem dX5_takesVote_25 : decode cX5_takesVote 25 = .ok (.aload_n 0, 1) := by decide +kernel
theorem dX5_takesVote_26 : decode cX5_takesVote 26 = .ok (.getfield 41, 3) := by decide +kernel
theorem dX5_takesVote_29 : decode cX5_takesVote 29 = .ok (.iconst 5, 1) := by decide +kernel
theorem dX5_takesVote_30 : decode cX5_takesVote 30 = .ok (.iload_n 1, 1) := by decide +kernel
theorem dX5_takesVote_31 : decode cX5_takesVote 31 = .ok (.imul, 1) := by decide +kernel
theorem dX5_takesVote_32 : decode cX5_takesVote 32 = .ok (.iload_n 2, 1) := by decide +kernel
theorem dX5_takesVote_33 : decode cX5_takesVote 33 = .ok (.iadd, 1) := by decide +kernel
theorem dX5_takesVote_34 : decode cX5_takesVote 34 = .ok (.iconst 1, 1) := by decide +kernel
theorem dX5_takesVote_35 : decode cX5_takesVote 35 = .ok (.bastore, 1) := by decide +kernel
theorem dX5_takesVote_36 : decode cX5_takesVote 36 = .ok (.aload_n 0, 1) := by decide +kernel
theorem dX5_takesVote_37 : decode cX5_takesVote 37 = .ok (.getfield 44, 3) := by decide +kernel
theorem dX5_takesVote_40 : decode cX5_takesVote 40 = .ok (.iconst 5, 1) := by decide +kernel
theorem dX5_takesVote_41 : decode cX5_takesVote 41 = .ok (.iload_n 1, 1) := by decide +kernel
theorem dX5_takesVote_42 : decode cX5_takesVote 42 = .ok (.imul, 1) := by decide +kernel
theorem dX5_takesVote_43 : decode cX5_takesVote 43 = .ok (.iload_n 2, 1) := by decide +kernel
theorem dX5_takesVote_44 : decode cX5_takesVote 44 = .ok (.iadd, 1) := by decide +kernel
theorem dX5_takesVote_45 : decode cX5_takesVote 45 = .ok (.iload 4, 2) := by decide +kernel
theorem dX5_takesVote_47 : decode cX5_takesVote 47 = .ok (.iastore, 1) := by decide +kernel
theorem dX5_takesVote_48 : decode cX5_takesVote 48 = .ok (.aload_n 0, 1) := by decide +kernel
theorem dX5_takesVote_49 : decode cX5_takesVote 49 = .ok (.iload_n 3, 1) := by decide +kernel
theorem dX5_takesVote_50 : decode cX5_takesVote 50 = .ok (.iconst 5, 1) := by decide +kernel
theorem dX5_takesVote_51 : decode cX5_takesVote 51 = .ok (.iconst 5, 1) := by decide +kernel
theorem dX5_takesVote_52 : decode cX5_takesVote 52 = .ok (.iload_n 1, 1) := by decide +kernel
theorem dX5_takesVote_53 : decode cX5_takesVote 53 = .ok (.imul, 1) := by decide +kernel
theorem dX5_takesVote_54 : decode cX5_takesVote 54 = .ok (.iadd, 1) := by decide +kernel
theorem dX5_takesVote_55 : decode cX5_takesVote 55 = .ok (.iload_n 2, 1) := by decide +kernel
theorem dX5_takesVote_56 : decode cX5_takesVote 56 = .ok (.iadd, 1) := by decide +kernel
theorem dX5_takesVote_57 : decode cX5_takesVote 57 = .ok (.invokevirtual 98, 3) := by decide +kernel
theorem dX5_takesVote_60 : decode cX5_takesVote 60 = .ok (.aload_n 0, 1) := by decide +kernel
theorem dX5_takesVote_61 : decode cX5_takesVote 61 = .ok (.iload_n 1, 1) := by decide +kernel
theorem dX5_takesVote_62 : decode cX5_takesVote 62 = .ok (.invokevirtual 142, 3) := by decide +kernel
theorem dX5_takesVote_65 : decode cX5_takesVote 65 = .ok (.aload_n 0, 1) := by decide +kernel
theorem dX5_takesVote_66 : decode cX5_takesVote 66 = .ok (.getfield 81, 3) := by decide +kernel
theorem dX5_takesVote_69 : decode cX5_takesVote 69 = .ok (.iconst 1, 1) := by decide +kernel
theorem dX5_takesVote_70 : decode cX5_takesVote 70 = .ok (.iadd, 1) := by decide +kernel
theorem dX5_takesVote_71 : decode cX5_takesVote 71 = .ok (.if_icmp .lt 16, 3) := by decide +kernel
theorem dX5_takesVote_74 : decode cX5_takesVote 74 = .ok (.aload_n 0, 1) := by decide +kernel
theorem dX5_takesVote_75 : decode cX5_takesVote 75 = .ok (.getfield 41, 3) := by decide +kernel
theorem dX5_takesVote_78 : decode cX5_takesVote 78 = .ok (.iconst 5, 1) := by decide +kernel
theorem dX5_takesVote_79 : decode cX5_takesVote 79 = .ok (.iload_n 1, 1) := by decide +kernel
theorem dX5_takesVote_80 : decode cX5_takesVote 80 = .ok (.imul, 1) := by decide +kernel
theorem dX5_takesVote_81 : decode cX5_takesVote 81 = .ok (.iload_n 1, 1) := by decide +kernel
theorem dX5_takesVote_82 : decode cX5_takesVote 82 = .ok (.iadd, 1) := by decide +kernel
theorem dX5_takesVote_83 : decode cX5_takesVote 83 = .ok (.baload, 1) := by decide +kernel
theorem dX5_takesVote_84 : decode cX5_takesVote 84 = .ok (.ifCond .ne 5, 3) := by decide +kernel
theorem dX5_takesVote_87 : decode cX5_takesVote 87 = .ok (.iconst 1, 1) := by decide +kernel
theorem dX5_takesVote_88 : decode cX5_takesVote 88 = .ok (.ireturn, 1) := by decide +kernel
theorem dX5_takesVote_89 : decode cX5_takesVote 89 = .ok (.iconst (-1), 1) := by decide +kernel
theorem dX5_takesVote_90 : decode cX5_takesVote 90 = .ok (.istore 5, 2) := by decide +kernel
theorem dX5_takesVote_92 : decode cX5_takesVote 92 = .ok (.iconst 0, 1) := by decide +kernel
theorem dX5_takesVote_93 : decode cX5_takesVote 93 = .ok (.istore 6, 2) := by decide +kernel
theorem dX5_takesVote_95 : decode cX5_takesVote 95 = .ok (.iconst 0, 1) := by decide +kernel
theorem dX5_takesVote_96 : decode cX5_takesVote 96 = .ok (.istore 7, 2) := by decide +kernel
theorem dX5_takesVote_98 : decode cX5_takesVote 98 = .ok (.iload 7, 2) := by decide +kernel
theorem dX5_takesVote_100 : decode cX5_takesVote 100 = .ok (.aload_n 0, 1) := by decide +kernel
theorem dX5_takesVote_101 : decode cX5_takesVote 101 = .ok (.getfield 77, 3) := by decide +kernel
theorem dX5_takesVote_104 : decode cX5_takesVote 104 = .ok (.if_icmp .ge 167, 3) := by decide +kernel
theorem dX5_takesVote_107 : decode cX5_takesVote 107 = .ok (.aload_n 0, 1) := by decide +kernel
theorem dX5_takesVote_108 : decode cX5_takesVote 108 = .ok (.getfield 41, 3) := by decide +kernel
theorem dX5_takesVote_111 : decode cX5_takesVote 111 = .ok (.iconst 5, 1) := by decide +kernel
theorem dX5_takesVote_112 : decode cX5_takesVote 112 = .ok (.iload_n 1, 1) := by decide +kernel
theorem dX5_takesVote_113 : decode cX5_takesVote 113 = .ok (.imul, 1) := by decide +kernel
theorem dX5_takesVote_114 : decode cX5_takesVote 114 = .ok (.iload 7, 2) := by decide +kernel
theorem dX5_takesVote_116 : decode cX5_takesVote 116 = .ok (.iadd, 1) := by decide +kernel
theorem dX5_takesVote_117 : decode cX5_takesVote 117 = .ok (.baload, 1) := by decide +kernel
theorem dX5_takesVote_118 : decode cX5_takesVote 118 = .ok (.ifCond .eq 147, 3) := by decide +kernel
theorem dX5_takesVote_121 : decode cX5_takesVote 121 = .ok (.iload 6, 2) := by decide +kernel
theorem dX5_takesVote_123 : decode cX5_takesVote 123 = .ok (.aload_n 0, 1) := by decide +kernel
theorem dX5_takesVote_124 : decode cX5_takesVote 124 = .ok (.getfield 16, 3) := by decide +kernel
theorem dX5_takesVote_127 : decode cX5_takesVote 127 = .ok (.iconst 5, 1) := by decide +kernel
theorem dX5_takesVote_128 : decode cX5_takesVote 128 = .ok (.iconst 5, 1) := by decide +kernel
theorem dX5_takesVote_129 : decode cX5_takesVote 129 = .ok (.iload_n 1, 1) := by decide +kernel
theorem dX5_takesVote_130 : decode cX5_takesVote 130 = .ok (.imul, 1) := by decide +kernel
theorem dX5_takesVote_131 : decode cX5_takesVote 131 = .ok (.iadd, 1) := by decide +kernel
theorem dX5_takesVote_132 : decode cX5_takesVote 132 = .ok (.iload 7, 2) := by decide +kernel
theorem dX5_takesVote_134 : decode cX5_takesVote 134 = .ok (.iadd, 1) := by decide +kernel
theorem dX5_takesVote_135 : decode cX5_takesVote 135 = .ok (.iaload, 1) := by decide +kernel
theorem dX5_takesVote_136 : decode cX5_takesVote 136 = .ok (.invokestatic 106, 3) := by decide +kernel
theorem dX5_takesVote_139 : decode cX5_takesVote 139 = .ok (.istore 6, 2) := by decide +kernel
theorem dX5_takesVote_141 : decode cX5_takesVote 141 = .ok (.iload 5, 2) := by decide +kernel
theorem dX5_takesVote_143 : decode cX5_takesVote 143 = .ok (.iconst (-1), 1) := by decide +kernel
theorem dX5_takesVote_144 : decode cX5_takesVote 144 = .ok (.if_icmp .eq 28, 3) := by decide +kernel
theorem dX5_takesVote_147 : decode cX5_takesVote 147 = .ok (.aload_n 0, 1) := by decide +kernel
theorem dX5_takesVote_148 : decode cX5_takesVote 148 = .ok (.getfield 44, 3) := by decide +kernel
theorem dX5_takesVote_151 : decode cX5_takesVote 151 = .ok (.iconst 5, 1) := by decide +kernel
theorem dX5_takesVote_152 : decode cX5_takesVote 152 = .ok (.iload_n 1, 1) := by decide +kernel
theorem dX5_takesVote_153 : decode cX5_takesVote 153 = .ok (.imul, 1) := by decide +kernel
theorem dX5_takesVote_154 : decode cX5_takesVote 154 = .ok (.iload 7, 2) := by decide +kernel
theorem dX5_takesVote_156 : decode cX5_takesVote 156 = .ok (.iadd, 1) := by decide +kernel
theorem dX5_takesVote_157 : decode cX5_takesVote 157 = .ok (.iaload, 1) := by decide +kernel
theorem dX5_takesVote_158 : decode cX5_takesVote 158 = .ok (.aload_n 0, 1) := by decide +kernel
theorem dX5_takesVote_159 : decode cX5_takesVote 159 = .ok (.getfield 44, 3) := by decide +kernel
theorem dX5_takesVote_162 : decode cX5_takesVote 162 = .ok (.iconst 5, 1) := by decide +kernel
theorem dX5_takesVote_163 : decode cX5_takesVote 163 = .ok (.iload_n 1, 1) := by decide +kernel
theorem dX5_takesVote_164 : decode cX5_takesVote 164 = .ok (.imul, 1) := by decide +kernel
theorem dX5_takesVote_165 : decode cX5_takesVote 165 = .ok (.iload 5, 2) := by decide +kernel
theorem dX5_takesVote_167 : decode cX5_takesVote 167 = .ok (.iadd, 1) := by decide +kernel
theorem dX5_takesVote_168 : decode cX5_takesVote 168 = .ok (.iaload, 1) := by decide +kernel
theorem dX5_takesVote_169 : decode cX5_takesVote 169 = .ok (.if_icmp .le 7, 3) := by decide +kernel
theorem dX5_takesVote_172 : decode cX5_takesVote 172 = .ok (.iconst 1, 1) := by decide +kernel
theorem dX5_takesVote_173 : decode cX5_takesVote 173 = .ok (.goto 4, 3) := by decide +kernel
theorem dX5_takesVote_176 : decode cX5_takesVote 176 = .ok (.iconst 0, 1) := by decide +kernel
theorem dX5_takesVote_177 : decode cX5_takesVote 177 = .ok (.istore 8, 2) := by decide +kernel
theorem dX5_takesVote_179 : decode cX5_takesVote 179 = .ok (.iload 5, 2) := by decide +kernel
theorem dX5_takesVote_181 : decode cX5_takesVote 181 = .ok (.iconst (-1), 1) := by decide +kernel
theorem dX5_takesVote_182 : decode cX5_takesVote 182 = .ok (.if_icmp .eq 61, 3) := by decide +kernel
theorem dX5_takesVote_185 : decode cX5_takesVote 185 = .ok (.aload_n 0, 1) := by decide +kernel
theorem dX5_takesVote_186 : decode cX5_takesVote 186 = .ok (.getfield 44, 3) := by decide +kernel
theorem dX5_takesVote_189 : decode cX5_takesVote 189 = .ok (.iconst 5, 1) := by decide +kernel
theorem dX5_takesVote_190 : decode cX5_takesVote 190 = .ok (.iload_n 1, 1) := by decide +kernel
theorem dX5_takesVote_191 : decode cX5_takesVote 191 = .ok (.imul, 1) := by decide +kernel
theorem dX5_takesVote_192 : decode cX5_takesVote 192 = .ok (.iload 7, 2) := by decide +kernel
theorem dX5_takesVote_194 : decode cX5_takesVote 194 = .ok (.iadd, 1) := by decide +kernel
theorem dX5_takesVote_195 : decode cX5_takesVote 195 = .ok (.iaload, 1) := by decide +kernel
theorem dX5_takesVote_196 : decode cX5_takesVote 196 = .ok (.aload_n 0, 1) := by decide +kernel
theorem dX5_takesVote_197 : decode cX5_takesVote 197 = .ok (.getfield 44, 3) := by decide +kernel
theorem dX5_takesVote_200 : decode cX5_takesVote 200 = .ok (.iconst 5, 1) := by decide +kernel
theorem dX5_takesVote_201 : decode cX5_takesVote 201 = .ok (.iload_n 1, 1) := by decide +kernel
theorem dX5_takesVote_202 : decode cX5_takesVote 202 = .ok (.imul, 1) := by decide +kernel
theorem dX5_takesVote_203 : decode cX5_takesVote 203 = .ok (.iload 5, 2) := by decide +kernel
theorem dX5_takesVote_205 : decode cX5_takesVote 205 = .ok (.iadd, 1) := by decide +kernel
theorem dX5_takesVote_206 : decode cX5_takesVote 206 = .ok (.iaload, 1) := by decide +kernel
theorem dX5_takesVote_207 : decode cX5_takesVote 207 = .ok (.if_icmp .ne 36, 3) := by decide +kernel
theorem dX5_takesVote_210 : decode cX5_takesVote 210 = .ok (.aload_n 0, 1) := by decide +kernel
theorem dX5_takesVote_211 : decode cX5_takesVote 211 = .ok (.getfield 13, 3) := by decide +kernel
theorem dX5_takesVote_214 : decode cX5_takesVote 214 = .ok (.iconst 5, 1) := by decide +kernel
theorem dX5_takesVote_215 : decode cX5_takesVote 215 = .ok (.iconst 5, 1) := by decide +kernel
theorem dX5_takesVote_216 : decode cX5_takesVote 216 = .ok (.iload_n 1, 1) := by decide +kernel
theorem dX5_takesVote_217 : decode cX5_takesVote 217 = .ok (.imul, 1) := by decide +kernel
theorem dX5_takesVote_218 : decode cX5_takesVote 218 = .ok (.iadd, 1) := by decide +kernel
theorem dX5_takesVote_219 : decode cX5_takesVote 219 = .ok (.iload 7, 2) := by decide +kernel
theorem dX5_takesVote_221 : decode cX5_takesVote 221 = .ok (.iadd, 1) := by decide +kernel
theorem dX5_takesVote_222 : decode cX5_takesVote 222 = .ok (.iaload, 1) := by decide +kernel
theorem dX5_takesVote_223 : decode cX5_takesVote 223 = .ok (.aload_n 0, 1) := by decide +kernel
theorem dX5_takesVote_224 : decode cX5_takesVote 224 = .ok (.getfield 13, 3) := by decide +kernel
theorem dX5_takesVote_227 : decode cX5_takesVote 227 = .ok (.iconst 5, 1) := by decide +kernel
theorem dX5_takesVote_228 : decode cX5_takesVote 228 = .ok (.iconst 5, 1) := by decide +kernel
theorem dX5_takesVote_229 : decode cX5_takesVote 229 = .ok (.iload_n 1, 1) := by decide +kernel
theorem dX5_takesVote_230 : decode cX5_takesVote 230 = .ok (.imul, 1) := by decide +kernel
theorem dX5_takesVote_231 : decode cX5_takesVote 231 = .ok (.iadd, 1) := by decide +kernel
theorem dX5_takesVote_232 : decode cX5_takesVote 232 = .ok (.iload 5, 2) := by decide +kernel
theorem dX5_takesVote_234 : decode cX5_takesVote 234 = .ok (.iadd, 1) := by decide +kernel
theorem dX5_takesVote_235 : decode cX5_takesVote 235 = .ok (.iaload, 1) := by decide +kernel
theorem dX5_takesVote_236 : decode cX5_takesVote 236 = .ok (.if_icmp .le 7, 3) := by decide +kernel
theorem dX5_takesVote_239 : decode cX5_takesVote 239 = .ok (.iconst 1, 1) := by decide +kernel
theorem dX5_takesVote_240 : decode cX5_takesVote 240 = .ok (.goto 4, 3) := by decide +kernel
theorem dX5_takesVote_243 : decode cX5_takesVote 243 = .ok (.iconst 0, 1) := by decide +kernel
theorem dX5_takesVote_244 : decode cX5_takesVote 244 = .ok (.istore 9, 2) := by decide +kernel
theorem dX5_takesVote_246 : decode cX5_takesVote 246 = .ok (.iload 8, 2) := by decide +kernel
theorem dX5_takesVote_248 : decode cX5_takesVote 248 = .ok (.ifCond .ne 8, 3) := by decide +kernel
theorem dX5_takesVote_251 : decode cX5_takesVote 251 = .ok (.iload 9, 2) := by decide +kernel
theorem dX5_takesVote_253 : decode cX5_takesVote 253 = .ok (.ifCond .eq 8, 3) := by decide +kernel
theorem dX5_takesVote_256 : decode cX5_takesVote 256 = .ok (.iload 7, 2) := by decide +kernel
theorem dX5_takesVote_258 : decode cX5_takesVote 258 = .ok (.goto 5, 3) := by decide +kernel
theorem dX5_takesVote_261 : decode cX5_takesVote 261 = .ok (.iload 5, 2) := by decide +kernel
theorem dX5_takesVote_263 : decode cX5_takesVote 263 = .ok (.istore 5, 2) := by decide +kernel
theorem dX5_takesVote_265 : decode cX5_takesVote 265 = .ok (.iinc 7 1, 3) := by decide +kernel
theorem dX5_takesVote_268 : decode cX5_takesVote 268 = .ok (.goto (-170), 3) := by decide +kernel
theorem dX5_takesVote_271 : decode cX5_takesVote 271 = .ok (.aload_n 0, 1) := by decide +kernel
theorem dX5_takesVote_272 : decode cX5_takesVote 272 = .ok (.iconst 5, 1) := by decide +kernel
theorem dX5_takesVote_273 : decode cX5_takesVote 273 = .ok (.iconst 5, 1) := by decide +kernel
theorem dX5_takesVote_274 : decode cX5_takesVote 274 = .ok (.iload_n 1, 1) := by decide +kernel
theorem dX5_takesVote_275 : decode cX5_takesVote 275 = .ok (.imul, 1) := by decide +kernel
theorem dX5_takesVote_276 : decode cX5_takesVote 276 = .ok (.iadd, 1) := by decide +kernel
theorem dX5_takesVote_277 : decode cX5_takesVote 277 = .ok (.iload 5, 2) := by decide +kernel
theorem dX5_takesVote_279 : decode cX5_takesVote 279 = .ok (.iadd, 1) := by decide +kernel
theorem dX5_takesVote_280 : decode cX5_takesVote 280 = .ok (.iload_n 1, 1) := by decide +kernel
theorem dX5_takesVote_281 : decode cX5_takesVote 281 = .ok (.invokevirtual 98, 3) := by decide +kernel
theorem dX5_takesVote_284 : decode cX5_takesVote 284 = .ok (.aload_n 0, 1) := by decide +kernel
theorem dX5_takesVote_285 : decode cX5_takesVote 285 = .ok (.getfield 16, 3) := by decide +kernel
theorem dX5_takesVote_288 : decode cX5_takesVote 288 = .ok (.iload_n 1, 1) := by decide +kernel
theorem dX5_takesVote_289 : decode cX5_takesVote 289 = .ok (.iload 6, 2) := by decide +kernel
theorem dX5_takesVote_291 : decode cX5_takesVote 291 = .ok (.aload_n 0, 1) := by decide +kernel
theorem dX5_takesVote_292 : decode cX5_takesVote 292 = .ok (.getfield 13, 3) := by decide +kernel
theorem dX5_takesVote_295 : decode cX5_takesVote 295 = .ok (.iload_n 1, 1) := by decide +kernel
theorem dX5_takesVote_296 : decode cX5_takesVote 296 = .ok (.iaload, 1) := by decide +kernel
theorem dX5_takesVote_297 : decode cX5_takesVote 297 = .ok (.invokestatic 110, 3) := by decide +kernel
theorem dX5_takesVote_300 : decode cX5_takesVote 300 = .ok (.iastore, 1) := by decide +kernel
theorem dX5_takesVote_301 : decode cX5_takesVote 301 = .ok (.aload_n 0, 1) := by decide +kernel
theorem dX5_takesVote_302 : decode cX5_takesVote 302 = .ok (.getfield 19, 3) := by decide +kernel
theorem dX5_takesVote_305 : decode cX5_takesVote 305 = .ok (.iload_n 1, 1) := by decide +kernel
theorem dX5_takesVote_306 : decode cX5_takesVote 306 = .ok (.iconst 0, 1) := by decide +kernel
theorem dX5_takesVote_307 : decode cX5_takesVote 307 = .ok (.iastore, 1) := by decide +kernel
theorem dX5_takesVote_308 : decode cX5_takesVote 308 = .ok (.aload_n 0, 1) := by decide +kernel
theorem dX5_takesVote_309 : decode cX5_takesVote 309 = .ok (.getfield 25, 3) := by decide +kernel
theorem dX5_takesVote_312 : decode cX5_takesVote 312 = .ok (.iload_n 1, 1) := by decide +kernel
theorem dX5_takesVote_313 : decode cX5_takesVote 313 = .ok (.aload_n 0, 1) := by decide +kernel
theorem dX5_takesVote_314 : decode cX5_takesVote 314 = .ok (.getfield 22, 3) := by decide +kernel
theorem dX5_takesVote_317 : decode cX5_takesVote 317 = .ok (.iload_n 1, 1) := by decide +kernel
theorem dX5_takesVote_318 : decode cX5_takesVote 318 = .ok (.iaload, 1) := by decide +kernel
theorem dX5_takesVote_319 : decode cX5_takesVote 319 = .ok (.iastore, 1) := by decide +kernel
theorem dX5_takesVote_320 : decode cX5_takesVote 320 = .ok (.iconst 0, 1) := by decide +kernel
theorem dX5_takesVote_321 : decode cX5_takesVote 321 = .ok (.istore 7, 2) := by decide +kernel
theorem dX5_takesVote_323 : decode cX5_takesVote 323 = .ok (.iload 7, 2) := by decide +kernel
theorem dX5_takesVote_325 : decode cX5_takesVote 325 = .ok (.iconst 5, 1) := by decide +kernel
theorem dX5_takesVote_326 : decode cX5_takesVote 326 = .ok (.if_icmp .ge 21, 3) := by decide +kernel
theorem dX5_takesVote_329 : decode cX5_takesVote 329 = .ok (.aload_n 0, 1) := by decide +kernel
theorem dX5_takesVote_330 : decode cX5_takesVote 330 = .ok (.getfield 35, 3) := by decide +kernel
theorem dX5_takesVote_333 : decode cX5_takesVote 333 = .ok (.iconst 5, 1) := by decide +kernel
theorem dX5_takesVote_334 : decode cX5_takesVote 334 = .ok (.iload_n 1, 1) := by decide +kernel
theorem dX5_takesVote_335 : decode cX5_takesVote 335 = .ok (.imul, 1) := by decide +kernel
theorem dX5_takesVote_336 : decode cX5_takesVote 336 = .ok (.iload 7, 2) := by decide +kernel
theorem dX5_takesVote_338 : decode cX5_takesVote 338 = .ok (.iadd, 1) := by decide +kernel
theorem dX5_takesVote_339 : decode cX5_takesVote 339 = .ok (.iconst 0, 1) := by decide +kernel
theorem dX5_takesVote_340 : decode cX5_takesVote 340 = .ok (.iastore, 1) := by decide +kernel
theorem dX5_takesVote_341 : decode cX5_takesVote 341 = .ok (.iinc 7 1, 3) := by decide +kernel
theorem dX5_takesVote_344 : decode cX5_takesVote 344 = .ok (.goto (-21), 3) := by decide +kernel
theorem dX5_takesVote_347 : decode cX5_takesVote 347 = .ok (.aload_n 0, 1) := by decide +kernel
theorem dX5_takesVote_348 : decode cX5_takesVote 348 = .ok (.iload_n 1, 1) := by decide +kernel
theorem dX5_takesVote_349 : decode cX5_takesVote 349 = .ok (.iconst 5, 1) := by decide +kernel
theorem dX5_takesVote_350 : decode cX5_takesVote 350 = .ok (.aload_n 0, 1) := by decide +kernel
theorem dX5_takesVote_351 : decode cX5_takesVote 351 = .ok (.getfield 22, 3) := by decide +kernel
theorem dX5_takesVote_354 : decode cX5_takesVote 354 = .ok (.iload_n 1, 1) := by decide +kernel
theorem dX5_takesVote_355 : decode cX5_takesVote 355 = .ok (.iaload, 1) := by decide +kernel
theorem dX5_takesVote_356 : decode cX5_takesVote 356 = .ok (.iconst 0, 1) := by decide +kernel
theorem dX5_takesVote_357 : decode cX5_takesVote 357 = .ok (.invokevirtual 127, 3) := by decide +kernel
theorem dX5_takesVote_360 : decode cX5_takesVote 360 = .ok (.istore 7, 2) := by decide +kernel
theorem dX5_takesVote_362 : decode cX5_takesVote 362 = .ok (.iconst 1, 1) := by decide +kernel
theorem dX5_takesVote_363 : decode cX5_takesVote 363 = .ok (.ireturn, 1) := by decide +kernel
set_option maxRecDepth 20000 in
theorem ggX5_isVoted_X5_changes : GoodIn wsX5_isVoted wsX5_changes := goodIn_r _ [7, 2, 8, 9, 10, 11, 6, 12, 13, 14, 15, 16, 17, 18, 19, 1, 20, 21, 22, 23, 24, 25, 26, 27, 28, 29, 30, 31, 32, 33, 34, 35, 36, 37, 38, 39, 40, 59, 60, 61, 62, 63, 64, 65, 66, 67, 68, 69, 70, 71, 72, 73, 74, 75, 76, 77, 78, 79, 80, 81, 82, 83, 84] (by decide +kernel) (by decide +kernel)
set_option maxRecDepth 20000 in
theorem gX5_isVoted_X5_changes : GoodIn wsX5_isVoted (wsV RX5 131 RX5 yX5_changes wsX5_changes) := goodIn_app (goodIn_of _ (by decide +kernel)) ggX5_isVoted_X5_changes
set_option maxRecDepth 20000 in
theorem ggX5_isVoted_X5_takesVote : GoodIn wsX5_isVoted wsX5_takesVote := goodIn_r _ [44, 8, 14, 45, 46, 1, 39, 38, 47, 2, 48, 34, 35, 36, 6, 37, 40, 49, 50, 51, 52, 53, 54, 55, 56, 57, 58, 16, 17, 18, 19, 20, 21, 22, 23, 24, 25, 26, 27, 28, 29, 30, 31, 32, 33, 59, 60, 61, 62, 63, 64, 65, 66, 67, 68, 69, 70, 71, 72, 73, 74, 75, 76, 77, 78, 79, 80, 81, 82, 83, 84] (by decide +kernel) (by decide +kernel)
set_option maxRecDepth 20000 in
theorem gX5_isVoted_X5_takesVote : GoodIn wsX5_isVoted (wsV RX5 138 RX5 yX5_takesVote wsX5_takesVote) := goodIn_app (goodIn_of _ (by decide +kernel)) ggX5_isVoted_X5_takesVote
theorem dX5_isVoted_0 : decode cX5_isVoted 0 = .ok (.iload 4, 2) := by decide +kernel
theorem dX5_isVoted_2 : decode cX5_isVoted 2 = .ok (.aload_n 0, 1) := by decide +kernel
theorem dX5_isVoted_3 : decode cX5_isVoted 3 = .ok (.getfield 77, 3) := by decide +kernel
theorem dX5_isVoted_6 : decode cX5_isVoted 6 = .ok (.irem, 1) := by decide +kernel
theorem dX5_isVoted_7 : decode cX5_isVoted 7 = .ok (.iload_n 1, 1) := by decide +kernel
theorem dX5_isVoted_8 : decode cX5_isVoted 8 = .ok (.if_icmp .eq 5, 3) := by decide +kernel
theorem dX5_isVoted_11 : decode cX5_isVoted 11 = .ok (.iconst 0, 1) := by decide +kernel
theorem dX5_isVoted_12 : decode cX5_isVoted 12 = .ok (.ireturn, 1) := by decide +kernel
theorem dX5_isVoted_13 : decode cX5_isVoted 13 = .ok (.iload 4, 2) := by decide +kernel
theorem dX5_isVoted_15 : decode cX5_isVoted 15 = .ok (.aload_n 0, 1) := by decide +kernel
theorem dX5_isVoted_16 : decode cX5_isVoted 16 = .ok (.getfield 22, 3) := by decide +kernel
theorem dX5_isVoted_19 : decode cX5_isVoted 19 = .ok (.iload_n 1, 1) := by decide +kernel
theorem dX5_isVoted_20 : decode cX5_isVoted 20 = .ok (.iaload, 1) := by decide +kernel
theorem dX5_isVoted_21 : decode cX5_isVoted 21 = .ok (.if_icmp .le 7, 3) := by decide +kernel
theorem dX5_isVoted_24 : decode cX5_isVoted 24 = .ok (.iconst 1, 1) := by decide +kernel
theorem dX5_isVoted_25 : decode cX5_isVoted 25 = .ok (.goto 4, 3) := by decide +kernel
theorem dX5_isVoted_28 : decode cX5_isVoted 28 = .ok (.iconst 0, 1) := by decide +kernel
theorem dX5_isVoted_29 : decode cX5_isVoted 29 = .ok (.istore 6, 2) := by decide +kernel
theorem dX5_isVoted_31 : decode cX5_isVoted 31 = .ok (.iload 6, 2) := by decide +kernel
theorem dX5_isVoted_33 : decode cX5_isVoted 33 = .ok (.ifCond .eq 10, 3) := by decide +kernel
theorem dX5_isVoted_36 : decode cX5_isVoted 36 = .ok (.aload_n 0, 1) := by decide +kernel
theorem dX5_isVoted_37 : decode cX5_isVoted 37 = .ok (.iload_n 1, 1) := by decide +kernel
theorem dX5_isVoted_38 : decode cX5_isVoted 38 = .ok (.iload 4, 2) := by decide +kernel
theorem dX5_isVoted_40 : decode cX5_isVoted 40 = .ok (.invokevirtual 131, 3) := by decide +kernel
theorem dX5_isVoted_43 : decode cX5_isVoted 43 = .ok (.aload_n 0, 1) := by decide +kernel
theorem dX5_isVoted_44 : decode cX5_isVoted 44 = .ok (.iload_n 1, 1) := by decide +kernel
theorem dX5_isVoted_45 : decode cX5_isVoted 45 = .ok (.iload_n 2, 1) := by decide +kernel
theorem dX5_isVoted_46 : decode cX5_isVoted 46 = .ok (.iload_n 3, 1) := by decide +kernel
theorem dX5_isVoted_47 : decode cX5_isVoted 47 = .ok (.iload 5, 2) := by decide +kernel
theorem dX5_isVoted_49 : decode cX5_isVoted 49 = .ok (.invokevirtual 138, 3) := by decide +kernel
theorem dX5_isVoted_52 : decode cX5_isVoted 52 = .ok (.ifCond .ne 8, 3) := by decide +kernel
theorem dX5_isVoted_55 : decode cX5_isVoted 55 = .ok (.iload 6, 2) := by decide +kernel
theorem dX5_isVoted_57 : decode cX5_isVoted 57 = .ok (.ifCond .eq 7, 3) := by decide +kernel
theorem dX5_isVoted_60 : decode cX5_isVoted 60 = .ok (.iconst 1, 1) := by decide +kernel
theorem dX5_isVoted_61 : decode cX5_isVoted 61 = .ok (.goto 4, 3) := by decide +kernel
theorem dX5_isVoted_64 : decode cX5_isVoted 64 = .ok (.iconst 0, 1) := by decide +kernel
theorem dX5_isVoted_65 : decode cX5_isVoted 65 = .ok (.ireturn, 1) := by decide +kernel
set_option maxRecDepth 20000 in
theorem ggX5_hearsTale_X5_copyLog : GoodIn wsX5_hearsTale wsX5_copyLog := goodIn_r _ [13, 14, 15, 16, 20, 21, 22, 23, 24, 25, 26, 27, 28, 29, 30, 31, 32, 33, 34, 35, 36, 37, 38, 39, 40, 41, 42, 43, 44, 45] (by decide +kernel) (by decide +kernel)
set_option maxRecDepth 20000 in
theorem gX5_hearsTale_X5_copyLog : GoodIn wsX5_hearsTale (wsV RX5 98 RX5 yX5_copyLog wsX5_copyLog) := goodIn_app (goodIn_of _ (by decide +kernel)) ggX5_hearsTale_X5_copyLog
set_option maxRecDepth 20000 in
theorem ggX5_hearsTale_X5_greater : GoodIn wsX5_hearsTale wsX5_greater := goodIn_r _ [19] (by decide +kernel) (by decide +kernel)
set_option maxRecDepth 20000 in
theorem gX5_hearsTale_X5_greater : GoodIn wsX5_hearsTale (va_wsS RX5 106 yX5_greater wsX5_greater) := goodIn_app (goodIn_of _ (by decide +kernel)) ggX5_hearsTale_X5_greater
theorem dX5_hearsTale_0 : decode cX5_hearsTale 0 = .ok (.aload_n 0, 1) := by decide +kernel
theorem dX5_hearsTale_1 : decode cX5_hearsTale 1 = .ok (.getfield 19, 3) := by decide +kernel
theorem dX5_hearsTale_4 : decode cX5_hearsTale 4 = .ok (.iload_n 1, 1) := by decide +kernel
theorem dX5_hearsTale_5 : decode cX5_hearsTale 5 = .ok (.iaload, 1) := by decide +kernel
theorem dX5_hearsTale_6 : decode cX5_hearsTale 6 = .ok (.iconst 2, 1) := by decide +kernel
theorem dX5_hearsTale_7 : decode cX5_hearsTale 7 = .ok (.if_icmp .ne 14, 3) := by decide +kernel
theorem dX5_hearsTale_10 : decode cX5_hearsTale 10 = .ok (.aload_n 0, 1) := by decide +kernel
theorem dX5_hearsTale_11 : decode cX5_hearsTale 11 = .ok (.getfield 32, 3) := by decide +kernel
theorem dX5_hearsTale_14 : decode cX5_hearsTale 14 = .ok (.iload_n 1, 1) := by decide +kernel
theorem dX5_hearsTale_15 : decode cX5_hearsTale 15 = .ok (.iaload, 1) := by decide +kernel
theorem dX5_hearsTale_16 : decode cX5_hearsTale 16 = .ok (.iload 5, 2) := by decide +kernel
theorem dX5_hearsTale_18 : decode cX5_hearsTale 18 = .ok (.if_icmp .eq 5, 3) := by decide +kernel
theorem dX5_hearsTale_21 : decode cX5_hearsTale 21 = .ok (.iconst 0, 1) := by decide +kernel
theorem dX5_hearsTale_22 : decode cX5_hearsTale 22 = .ok (.ireturn, 1) := by decide +kernel
theorem dX5_hearsTale_23 : decode cX5_hearsTale 23 = .ok (.aload_n 0, 1) := by decide +kernel
theorem dX5_hearsTale_24 : decode cX5_hearsTale 24 = .ok (.getfield 47, 3) := by decide +kernel
theorem dX5_hearsTale_27 : decode cX5_hearsTale 27 = .ok (.iconst 5, 1) := by decide +kernel
theorem dX5_hearsTale_28 : decode cX5_hearsTale 28 = .ok (.iload_n 1, 1) := by decide +kernel
theorem dX5_hearsTale_29 : decode cX5_hearsTale 29 = .ok (.imul, 1) := by decide +kernel
theorem dX5_hearsTale_30 : decode cX5_hearsTale 30 = .ok (.iload_n 2, 1) := by decide +kernel
theorem dX5_hearsTale_31 : decode cX5_hearsTale 31 = .ok (.iadd, 1) := by decide +kernel
theorem dX5_hearsTale_32 : decode cX5_hearsTale 32 = .ok (.iconst 1, 1) := by decide +kernel
theorem dX5_hearsTale_33 : decode cX5_hearsTale 33 = .ok (.bastore, 1) := by decide +kernel
theorem dX5_hearsTale_34 : decode cX5_hearsTale 34 = .ok (.aload_n 0, 1) := by decide +kernel
theorem dX5_hearsTale_35 : decode cX5_hearsTale 35 = .ok (.getfield 50, 3) := by decide +kernel
theorem dX5_hearsTale_38 : decode cX5_hearsTale 38 = .ok (.iconst 5, 1) := by decide +kernel
theorem dX5_hearsTale_39 : decode cX5_hearsTale 39 = .ok (.iload_n 1, 1) := by decide +kernel
theorem dX5_hearsTale_40 : decode cX5_hearsTale 40 = .ok (.imul, 1) := by decide +kernel
theorem dX5_hearsTale_41 : decode cX5_hearsTale 41 = .ok (.iload_n 2, 1) := by decide +kernel
theorem dX5_hearsTale_42 : decode cX5_hearsTale 42 = .ok (.iadd, 1) := by decide +kernel
theorem dX5_hearsTale_43 : decode cX5_hearsTale 43 = .ok (.iload 4, 2) := by decide +kernel
theorem dX5_hearsTale_45 : decode cX5_hearsTale 45 = .ok (.iastore, 1) := by decide +kernel
theorem dX5_hearsTale_46 : decode cX5_hearsTale 46 = .ok (.aload_n 0, 1) := by decide +kernel
theorem dX5_hearsTale_47 : decode cX5_hearsTale 47 = .ok (.iload_n 3, 1) := by decide +kernel
theorem dX5_hearsTale_48 : decode cX5_hearsTale 48 = .ok (.bipush 30, 2) := by decide +kernel
theorem dX5_hearsTale_50 : decode cX5_hearsTale 50 = .ok (.iconst 5, 1) := by decide +kernel
theorem dX5_hearsTale_51 : decode cX5_hearsTale 51 = .ok (.iload_n 1, 1) := by decide +kernel
theorem dX5_hearsTale_52 : decode cX5_hearsTale 52 = .ok (.imul, 1) := by decide +kernel
theorem dX5_hearsTale_53 : decode cX5_hearsTale 53 = .ok (.iadd, 1) := by decide +kernel
theorem dX5_hearsTale_54 : decode cX5_hearsTale 54 = .ok (.iload_n 2, 1) := by decide +kernel
theorem dX5_hearsTale_55 : decode cX5_hearsTale 55 = .ok (.iadd, 1) := by decide +kernel
theorem dX5_hearsTale_56 : decode cX5_hearsTale 56 = .ok (.invokevirtual 98, 3) := by decide +kernel
theorem dX5_hearsTale_59 : decode cX5_hearsTale 59 = .ok (.iconst 0, 1) := by decide +kernel
theorem dX5_hearsTale_60 : decode cX5_hearsTale 60 = .ok (.istore 6, 2) := by decide +kernel
theorem dX5_hearsTale_62 : decode cX5_hearsTale 62 = .ok (.iconst 0, 1) := by decide +kernel
theorem dX5_hearsTale_63 : decode cX5_hearsTale 63 = .ok (.istore 7, 2) := by decide +kernel
theorem dX5_hearsTale_65 : decode cX5_hearsTale 65 = .ok (.iconst 0, 1) := by decide +kernel
theorem dX5_hearsTale_66 : decode cX5_hearsTale 66 = .ok (.istore 8, 2) := by decide +kernel
theorem dX5_hearsTale_68 : decode cX5_hearsTale 68 = .ok (.iload 8, 2) := by decide +kernel
theorem dX5_hearsTale_70 : decode cX5_hearsTale 70 = .ok (.aload_n 0, 1) := by decide +kernel
theorem dX5_hearsTale_71 : decode cX5_hearsTale 71 = .ok (.getfield 77, 3) := by decide +kernel
theorem dX5_hearsTale_74 : decode cX5_hearsTale 74 = .ok (.if_icmp .ge 44, 3) := by decide +kernel
theorem dX5_hearsTale_77 : decode cX5_hearsTale 77 = .ok (.aload_n 0, 1) := by decide +kernel
theorem dX5_hearsTale_78 : decode cX5_hearsTale 78 = .ok (.getfield 47, 3) := by decide +kernel
theorem dX5_hearsTale_81 : decode cX5_hearsTale 81 = .ok (.iconst 5, 1) := by decide +kernel
theorem dX5_hearsTale_82 : decode cX5_hearsTale 82 = .ok (.iload_n 1, 1) := by decide +kernel
theorem dX5_hearsTale_83 : decode cX5_hearsTale 83 = .ok (.imul, 1) := by decide +kernel
theorem dX5_hearsTale_84 : decode cX5_hearsTale 84 = .ok (.iload 8, 2) := by decide +kernel
theorem dX5_hearsTale_86 : decode cX5_hearsTale 86 = .ok (.iadd, 1) := by decide +kernel
theorem dX5_hearsTale_87 : decode cX5_hearsTale 87 = .ok (.baload, 1) := by decide +kernel
theorem dX5_hearsTale_88 : decode cX5_hearsTale 88 = .ok (.ifCond .eq 24, 3) := by decide +kernel
theorem dX5_hearsTale_91 : decode cX5_hearsTale 91 = .ok (.iinc 6 1, 3) := by decide +kernel
theorem dX5_hearsTale_94 : decode cX5_hearsTale 94 = .ok (.iload 7, 2) := by decide +kernel
theorem dX5_hearsTale_96 : decode cX5_hearsTale 96 = .ok (.aload_n 0, 1) := by decide +kernel
theorem dX5_hearsTale_97 : decode cX5_hearsTale 97 = .ok (.getfield 50, 3) := by decide +kernel
theorem dX5_hearsTale_100 : decode cX5_hearsTale 100 = .ok (.iconst 5, 1) := by decide +kernel
theorem dX5_hearsTale_101 : decode cX5_hearsTale 101 = .ok (.iload_n 1, 1) := by decide +kernel
theorem dX5_hearsTale_102 : decode cX5_hearsTale 102 = .ok (.imul, 1) := by decide +kernel
theorem dX5_hearsTale_103 : decode cX5_hearsTale 103 = .ok (.iload 8, 2) := by decide +kernel
theorem dX5_hearsTale_105 : decode cX5_hearsTale 105 = .ok (.iadd, 1) := by decide +kernel
theorem dX5_hearsTale_106 : decode cX5_hearsTale 106 = .ok (.iaload, 1) := by decide +kernel
theorem dX5_hearsTale_107 : decode cX5_hearsTale 107 = .ok (.invokestatic 106, 3) := by decide +kernel
theorem dX5_hearsTale_110 : decode cX5_hearsTale 110 = .ok (.istore 7, 2) := by decide +kernel
theorem dX5_hearsTale_112 : decode cX5_hearsTale 112 = .ok (.iinc 8 1, 3) := by decide +kernel
theorem dX5_hearsTale_115 : decode cX5_hearsTale 115 = .ok (.goto (-47), 3) := by decide +kernel
theorem dX5_hearsTale_118 : decode cX5_hearsTale 118 = .ok (.iload 7, 2) := by decide +kernel
theorem dX5_hearsTale_120 : decode cX5_hearsTale 120 = .ok (.aload_n 0, 1) := by decide +kernel
theorem dX5_hearsTale_121 : decode cX5_hearsTale 121 = .ok (.getfield 77, 3) := by decide +kernel
theorem dX5_hearsTale_124 : decode cX5_hearsTale 124 = .ok (.irem, 1) := by decide +kernel
theorem dX5_hearsTale_125 : decode cX5_hearsTale 125 = .ok (.istore 8, 2) := by decide +kernel
theorem dX5_hearsTale_127 : decode cX5_hearsTale 127 = .ok (.iload 6, 2) := by decide +kernel
theorem dX5_hearsTale_129 : decode cX5_hearsTale 129 = .ok (.aload_n 0, 1) := by decide +kernel
theorem dX5_hearsTale_130 : decode cX5_hearsTale 130 = .ok (.getfield 81, 3) := by decide +kernel
theorem dX5_hearsTale_133 : decode cX5_hearsTale 133 = .ok (.if_icmp .le 70, 3) := by decide +kernel
theorem dX5_hearsTale_136 : decode cX5_hearsTale 136 = .ok (.aload_n 0, 1) := by decide +kernel
theorem dX5_hearsTale_137 : decode cX5_hearsTale 137 = .ok (.getfield 47, 3) := by decide +kernel
theorem dX5_hearsTale_140 : decode cX5_hearsTale 140 = .ok (.iconst 5, 1) := by decide +kernel
theorem dX5_hearsTale_141 : decode cX5_hearsTale 141 = .ok (.iload_n 1, 1) := by decide +kernel
theorem dX5_hearsTale_142 : decode cX5_hearsTale 142 = .ok (.imul, 1) := by decide +kernel
theorem dX5_hearsTale_143 : decode cX5_hearsTale 143 = .ok (.iload 8, 2) := by decide +kernel
theorem dX5_hearsTale_145 : decode cX5_hearsTale 145 = .ok (.iadd, 1) := by decide +kernel
theorem dX5_hearsTale_146 : decode cX5_hearsTale 146 = .ok (.baload, 1) := by decide +kernel
theorem dX5_hearsTale_147 : decode cX5_hearsTale 147 = .ok (.ifCond .eq 56, 3) := by decide +kernel
theorem dX5_hearsTale_150 : decode cX5_hearsTale 150 = .ok (.aload_n 0, 1) := by decide +kernel
theorem dX5_hearsTale_151 : decode cX5_hearsTale 151 = .ok (.getfield 50, 3) := by decide +kernel
theorem dX5_hearsTale_154 : decode cX5_hearsTale 154 = .ok (.iconst 5, 1) := by decide +kernel
theorem dX5_hearsTale_155 : decode cX5_hearsTale 155 = .ok (.iload_n 1, 1) := by decide +kernel
theorem dX5_hearsTale_156 : decode cX5_hearsTale 156 = .ok (.imul, 1) := by decide +kernel
theorem dX5_hearsTale_157 : decode cX5_hearsTale 157 = .ok (.iload 8, 2) := by decide +kernel
theorem dX5_hearsTale_159 : decode cX5_hearsTale 159 = .ok (.iadd, 1) := by decide +kernel
theorem dX5_hearsTale_160 : decode cX5_hearsTale 160 = .ok (.iaload, 1) := by decide +kernel
theorem dX5_hearsTale_161 : decode cX5_hearsTale 161 = .ok (.iload 7, 2) := by decide +kernel
theorem dX5_hearsTale_163 : decode cX5_hearsTale 163 = .ok (.if_icmp .ne 40, 3) := by decide +kernel
theorem dX5_hearsTale_166 : decode cX5_hearsTale 166 = .ok (.aload_n 0, 1) := by decide +kernel
theorem dX5_hearsTale_167 : decode cX5_hearsTale 167 = .ok (.bipush 30, 2) := by decide +kernel
theorem dX5_hearsTale_169 : decode cX5_hearsTale 169 = .ok (.iconst 5, 1) := by decide +kernel
theorem dX5_hearsTale_170 : decode cX5_hearsTale 170 = .ok (.iload_n 1, 1) := by decide +kernel
theorem dX5_hearsTale_171 : decode cX5_hearsTale 171 = .ok (.imul, 1) := by decide +kernel
theorem dX5_hearsTale_172 : decode cX5_hearsTale 172 = .ok (.iadd, 1) := by decide +kernel
theorem dX5_hearsTale_173 : decode cX5_hearsTale 173 = .ok (.iload 8, 2) := by decide +kernel
theorem dX5_hearsTale_175 : decode cX5_hearsTale 175 = .ok (.iadd, 1) := by decide +kernel
theorem dX5_hearsTale_176 : decode cX5_hearsTale 176 = .ok (.iload_n 1, 1) := by decide +kernel
theorem dX5_hearsTale_177 : decode cX5_hearsTale 177 = .ok (.invokevirtual 98, 3) := by decide +kernel
theorem dX5_hearsTale_180 : decode cX5_hearsTale 180 = .ok (.aload_n 0, 1) := by decide +kernel
theorem dX5_hearsTale_181 : decode cX5_hearsTale 181 = .ok (.getfield 22, 3) := by decide +kernel
theorem dX5_hearsTale_184 : decode cX5_hearsTale 184 = .ok (.iload_n 1, 1) := by decide +kernel
theorem dX5_hearsTale_185 : decode cX5_hearsTale 185 = .ok (.iload 7, 2) := by decide +kernel
theorem dX5_hearsTale_187 : decode cX5_hearsTale 187 = .ok (.iastore, 1) := by decide +kernel
theorem dX5_hearsTale_188 : decode cX5_hearsTale 188 = .ok (.aload_n 0, 1) := by decide +kernel
theorem dX5_hearsTale_189 : decode cX5_hearsTale 189 = .ok (.getfield 25, 3) := by decide +kernel
theorem dX5_hearsTale_192 : decode cX5_hearsTale 192 = .ok (.iload_n 1, 1) := by decide +kernel
theorem dX5_hearsTale_193 : decode cX5_hearsTale 193 = .ok (.iload 7, 2) := by decide +kernel
theorem dX5_hearsTale_195 : decode cX5_hearsTale 195 = .ok (.iastore, 1) := by decide +kernel
theorem dX5_hearsTale_196 : decode cX5_hearsTale 196 = .ok (.aload_n 0, 1) := by decide +kernel
theorem dX5_hearsTale_197 : decode cX5_hearsTale 197 = .ok (.getfield 19, 3) := by decide +kernel
theorem dX5_hearsTale_200 : decode cX5_hearsTale 200 = .ok (.iload_n 1, 1) := by decide +kernel
theorem dX5_hearsTale_201 : decode cX5_hearsTale 201 = .ok (.iconst 0, 1) := by decide +kernel
theorem dX5_hearsTale_202 : decode cX5_hearsTale 202 = .ok (.iastore, 1) := by decide +kernel
theorem dX5_hearsTale_203 : decode cX5_hearsTale 203 = .ok (.iconst 1, 1) := by decide +kernel
theorem dX5_hearsTale_204 : decode cX5_hearsTale 204 = .ok (.ireturn, 1) := by decide +kernel
theorem dX5_isNew_0 : decode cX5_isNew 0 = .ok (.iconst 0, 1) := by decide +kernel
theorem dX5_isNew_1 : decode cX5_isNew 1 = .ok (.istore 4, 2) := by decide +kernel
theorem dX5_isNew_3 : decode cX5_isNew 3 = .ok (.iload 4, 2) := by decide +kernel
theorem dX5_isNew_5 : decode cX5_isNew 5 = .ok (.aload_n 0, 1) := by decide +kernel
theorem dX5_isNew_6 : decode cX5_isNew 6 = .ok (.getfield 13, 3) := by decide +kernel
theorem dX5_isNew_9 : decode cX5_isNew 9 = .ok (.iload_n 1, 1) := by decide +kernel
theorem dX5_isNew_10 : decode cX5_isNew 10 = .ok (.iaload, 1) := by decide +kernel
theorem dX5_isNew_11 : decode cX5_isNew 11 = .ok (.if_icmp .ge 47, 3) := by decide +kernel
theorem dX5_isNew_14 : decode cX5_isNew 14 = .ok (.bipush 96, 2) := by decide +kernel
theorem dX5_isNew_16 : decode cX5_isNew 16 = .ok (.iload_n 1, 1) := by decide +kernel
theorem dX5_isNew_17 : decode cX5_isNew 17 = .ok (.imul, 1) := by decide +kernel
theorem dX5_isNew_18 : decode cX5_isNew 18 = .ok (.bipush 6, 2) := by decide +kernel
theorem dX5_isNew_20 : decode cX5_isNew 20 = .ok (.iload 4, 2) := by decide +kernel
theorem dX5_isNew_22 : decode cX5_isNew 22 = .ok (.imul, 1) := by decide +kernel
theorem dX5_isNew_23 : decode cX5_isNew 23 = .ok (.iadd, 1) := by decide +kernel
theorem dX5_isNew_24 : decode cX5_isNew 24 = .ok (.istore 5, 2) := by decide +kernel
theorem dX5_isNew_26 : decode cX5_isNew 26 = .ok (.aload_n 0, 1) := by decide +kernel
theorem dX5_isNew_27 : decode cX5_isNew 27 = .ok (.getfield 7, 3) := by decide +kernel
theorem dX5_isNew_30 : decode cX5_isNew 30 = .ok (.iload 5, 2) := by decide +kernel
theorem dX5_isNew_32 : decode cX5_isNew 32 = .ok (.iaload, 1) := by decide +kernel
theorem dX5_isNew_33 : decode cX5_isNew 33 = .ok (.iload_n 2, 1) := by decide +kernel
theorem dX5_isNew_34 : decode cX5_isNew 34 = .ok (.if_icmp .ne 18, 3) := by decide +kernel
theorem dX5_isNew_37 : decode cX5_isNew 37 = .ok (.aload_n 0, 1) := by decide +kernel
theorem dX5_isNew_38 : decode cX5_isNew 38 = .ok (.getfield 7, 3) := by decide +kernel
theorem dX5_isNew_41 : decode cX5_isNew 41 = .ok (.iload 5, 2) := by decide +kernel
theorem dX5_isNew_43 : decode cX5_isNew 43 = .ok (.iconst 1, 1) := by decide +kernel
theorem dX5_isNew_44 : decode cX5_isNew 44 = .ok (.iadd, 1) := by decide +kernel
theorem dX5_isNew_45 : decode cX5_isNew 45 = .ok (.iaload, 1) := by decide +kernel
theorem dX5_isNew_46 : decode cX5_isNew 46 = .ok (.iload_n 3, 1) := by decide +kernel
theorem dX5_isNew_47 : decode cX5_isNew 47 = .ok (.if_icmp .lt 5, 3) := by decide +kernel
theorem dX5_isNew_50 : decode cX5_isNew 50 = .ok (.iconst 0, 1) := by decide +kernel
theorem dX5_isNew_51 : decode cX5_isNew 51 = .ok (.ireturn, 1) := by decide +kernel
theorem dX5_isNew_52 : decode cX5_isNew 52 = .ok (.iinc 4 1, 3) := by decide +kernel
theorem dX5_isNew_55 : decode cX5_isNew 55 = .ok (.goto (-52), 3) := by decide +kernel
theorem dX5_isNew_58 : decode cX5_isNew 58 = .ok (.iconst 1, 1) := by decide +kernel
theorem dX5_isNew_59 : decode cX5_isNew 59 = .ok (.ireturn, 1) := by decide +kernel
set_option maxRecDepth 20000 in
theorem ggX5_request_X5_isNode : GoodIn wsX5_request wsX5_isNode := goodIn_r _ [10, 11, 12, 13, 9, 14, 46, 47, 48, 49, 50, 51, 52, 53, 54, 55, 56, 57, 58, 59, 60, 61, 62, 63, 64, 65, 66, 67, 68, 69, 70, 71] (by decide +kernel) (by decide +kernel)
set_option maxRecDepth 20000 in
theorem gX5_request_X5_isNode : GoodIn wsX5_request (wsV RX5 145 RX5 yX5_isNode wsX5_isNode) := goodIn_app (goodIn_of _ (by decide +kernel)) ggX5_request_X5_isNode
set_option maxRecDepth 20000 in
theorem ggX5_request_X5_in : GoodIn wsX5_request wsX5_in := goodIn_r _ [14] (by decide +kernel) (by decide +kernel)
set_option maxRecDepth 20000 in
theorem gX5_request_X5_in : GoodIn wsX5_request (va_wsS RX5 84 yX5_in wsX5_in) := goodIn_app (goodIn_of _ (by decide +kernel)) ggX5_request_X5_in
set_option maxRecDepth 20000 in
theorem ggX5_request_X5_isFirst : GoodIn wsX5_request wsX5_isFirst := goodIn_r _ [18, 5, 11, 46, 47, 48, 49, 50, 51, 52, 53, 54, 55, 56, 57, 58, 59, 60, 61, 62, 63, 64, 65, 66, 67, 68, 69, 70, 71] (by decide +kernel) (by decide +kernel)
set_option maxRecDepth 20000 in
theorem gX5_request_X5_isFirst : GoodIn wsX5_request (wsV RX5 121 RX5 yX5_isFirst wsX5_isFirst) := goodIn_app (goodIn_of _ (by decide +kernel)) ggX5_request_X5_isFirst
set_option maxRecDepth 20000 in
theorem ggX5_request_X5_isNew : GoodIn wsX5_request wsX5_isNew := goodIn_r _ [22, 3, 4, 46, 47, 48, 49, 50, 51, 52, 53, 54, 55, 56, 57, 58, 59, 60, 61, 62, 63, 64, 65, 66, 67, 68, 69, 70, 71] (by decide +kernel) (by decide +kernel)
set_option maxRecDepth 20000 in
theorem gX5_request_X5_isNew : GoodIn wsX5_request (wsV RX5 149 RX5 yX5_isNew wsX5_isNew) := goodIn_app (goodIn_of _ (by decide +kernel)) ggX5_request_X5_isNew
set_option maxRecDepth 20000 in
theorem ggX5_request_X5_postAll : GoodIn wsX5_request wsX5_postAll := goodIn_r _ [26, 11, 27, 28, 29, 9, 30, 31, 32, 33, 34, 35, 36, 37, 38, 39, 40, 41, 42, 43, 44, 3, 45, 4, 46, 47, 48, 49, 50, 51, 52, 53, 54, 55, 56, 57, 58, 59, 60, 61, 62, 63, 64, 65, 66, 67, 68, 69, 70, 71] (by decide +kernel) (by decide +kernel)
set_option maxRecDepth 20000 in
theorem gX5_request_X5_postAll : GoodIn wsX5_request (wsV RX5 127 RX5 yX5_postAll wsX5_postAll) := goodIn_app (goodIn_of _ (by decide +kernel)) ggX5_request_X5_postAll
theorem dX5_request_0 : decode cX5_request 0 = .ok (.aload_n 0, 1) := by decide +kernel
theorem dX5_request_1 : decode cX5_request 1 = .ok (.iload_n 1, 1) := by decide +kernel
theorem dX5_request_2 : decode cX5_request 2 = .ok (.invokevirtual 145, 3) := by decide +kernel
theorem dX5_request_5 : decode cX5_request 5 = .ok (.ifCond .eq 54, 3) := by decide +kernel
theorem dX5_request_8 : decode cX5_request 8 = .ok (.iload_n 2, 1) := by decide +kernel
theorem dX5_request_9 : decode cX5_request 9 = .ok (.iconst 0, 1) := by decide +kernel
theorem dX5_request_10 : decode cX5_request 10 = .ok (.iconst 3, 1) := by decide +kernel
theorem dX5_request_11 : decode cX5_request 11 = .ok (.invokestatic 84, 3) := by decide +kernel
theorem dX5_request_14 : decode cX5_request 14 = .ok (.ifCond .eq 45, 3) := by decide +kernel
theorem dX5_request_17 : decode cX5_request 17 = .ok (.iload_n 3, 1) := by decide +kernel
theorem dX5_request_18 : decode cX5_request 18 = .ok (.iconst 1, 1) := by decide +kernel
theorem dX5_request_19 : decode cX5_request 19 = .ok (.ldc 148, 2) := by decide +kernel
theorem dX5_request_21 : decode cX5_request 21 = .ok (.invokestatic 84, 3) := by decide +kernel
theorem dX5_request_24 : decode cX5_request 24 = .ok (.ifCond .eq 35, 3) := by decide +kernel
theorem dX5_request_27 : decode cX5_request 27 = .ok (.iload 4, 2) := by decide +kernel
theorem dX5_request_29 : decode cX5_request 29 = .ok (.iconst 0, 1) := by decide +kernel
theorem dX5_request_30 : decode cX5_request 30 = .ok (.iconst 2, 1) := by decide +kernel
theorem dX5_request_31 : decode cX5_request 31 = .ok (.invokestatic 84, 3) := by decide +kernel
theorem dX5_request_34 : decode cX5_request 34 = .ok (.ifCond .eq 25, 3) := by decide +kernel
theorem dX5_request_37 : decode cX5_request 37 = .ok (.iload 5, 2) := by decide +kernel
theorem dX5_request_39 : decode cX5_request 39 = .ok (.iconst 0, 1) := by decide +kernel
theorem dX5_request_40 : decode cX5_request 40 = .ok (.bipush 7, 2) := by decide +kernel
theorem dX5_request_42 : decode cX5_request 42 = .ok (.invokestatic 84, 3) := by decide +kernel
theorem dX5_request_45 : decode cX5_request 45 = .ok (.ifCond .eq 14, 3) := by decide +kernel
theorem dX5_request_48 : decode cX5_request 48 = .ok (.iload 6, 2) := by decide +kernel
theorem dX5_request_50 : decode cX5_request 50 = .ok (.iconst 0, 1) := by decide +kernel
theorem dX5_request_51 : decode cX5_request 51 = .ok (.bipush 7, 2) := by decide +kernel
theorem dX5_request_53 : decode cX5_request 53 = .ok (.invokestatic 84, 3) := by decide +kernel
theorem dX5_request_56 : decode cX5_request 56 = .ok (.ifCond .ne 6, 3) := by decide +kernel
theorem dX5_request_59 : decode cX5_request 59 = .ok (.bipush (-2), 2) := by decide +kernel
theorem dX5_request_61 : decode cX5_request 61 = .ok (.ireturn, 1) := by decide +kernel
theorem dX5_request_62 : decode cX5_request 62 = .ok (.aload_n 0, 1) := by decide +kernel
theorem dX5_request_63 : decode cX5_request 63 = .ok (.getfield 19, 3) := by decide +kernel
theorem dX5_request_66 : decode cX5_request 66 = .ok (.iload_n 1, 1) := by decide +kernel
theorem dX5_request_67 : decode cX5_request 67 = .ok (.iaload, 1) := by decide +kernel
theorem dX5_request_68 : decode cX5_request 68 = .ok (.ifCond .ne 11, 3) := by decide +kernel
theorem dX5_request_71 : decode cX5_request 71 = .ok (.aload_n 0, 1) := by decide +kernel
theorem dX5_request_72 : decode cX5_request 72 = .ok (.iload_n 1, 1) := by decide +kernel
theorem dX5_request_73 : decode cX5_request 73 = .ok (.invokevirtual 121, 3) := by decide +kernel
theorem dX5_request_76 : decode cX5_request 76 = .ok (.ifCond .ne 6, 3) := by decide +kernel
theorem dX5_request_79 : decode cX5_request 79 = .ok (.bipush (-3), 2) := by decide +kernel
theorem dX5_request_81 : decode cX5_request 81 = .ok (.ireturn, 1) := by decide +kernel
theorem dX5_request_82 : decode cX5_request 82 = .ok (.aload_n 0, 1) := by decide +kernel
theorem dX5_request_83 : decode cX5_request 83 = .ok (.iload_n 1, 1) := by decide +kernel
theorem dX5_request_84 : decode cX5_request 84 = .ok (.iload_n 2, 1) := by decide +kernel
theorem dX5_request_85 : decode cX5_request 85 = .ok (.iload_n 3, 1) := by decide +kernel
theorem dX5_request_86 : decode cX5_request 86 = .ok (.invokevirtual 149, 3) := by decide +kernel
theorem dX5_request_89 : decode cX5_request 89 = .ok (.ifCond .ne 5, 3) := by decide +kernel
theorem dX5_request_92 : decode cX5_request 92 = .ok (.iconst 0, 1) := by decide +kernel
theorem dX5_request_93 : decode cX5_request 93 = .ok (.ireturn, 1) := by decide +kernel
theorem dX5_request_94 : decode cX5_request 94 = .ok (.aload_n 0, 1) := by decide +kernel
theorem dX5_request_95 : decode cX5_request 95 = .ok (.getfield 13, 3) := by decide +kernel
theorem dX5_request_98 : decode cX5_request 98 = .ok (.iload_n 1, 1) := by decide +kernel
theorem dX5_request_99 : decode cX5_request 99 = .ok (.iaload, 1) := by decide +kernel
theorem dX5_request_100 : decode cX5_request 100 = .ok (.bipush 16, 2) := by decide +kernel
theorem dX5_request_102 : decode cX5_request 102 = .ok (.if_icmp .ne 6, 3) := by decide +kernel
theorem dX5_request_105 : decode cX5_request 105 = .ok (.bipush (-4), 2) := by decide +kernel
theorem dX5_request_107 : decode cX5_request 107 = .ok (.ireturn, 1) := by decide +kernel
theorem dX5_request_108 : decode cX5_request 108 = .ok (.bipush 96, 2) := by decide +kernel
theorem dX5_request_110 : decode cX5_request 110 = .ok (.iload_n 1, 1) := by decide +kernel
theorem dX5_request_111 : decode cX5_request 111 = .ok (.imul, 1) := by decide +kernel
theorem dX5_request_112 : decode cX5_request 112 = .ok (.bipush 6, 2) := by decide +kernel
theorem dX5_request_114 : decode cX5_request 114 = .ok (.aload_n 0, 1) := by decide +kernel
theorem dX5_request_115 : decode cX5_request 115 = .ok (.getfield 13, 3) := by decide +kernel
theorem dX5_request_118 : decode cX5_request 118 = .ok (.iload_n 1, 1) := by decide +kernel
theorem dX5_request_119 : decode cX5_request 119 = .ok (.iaload, 1) := by decide +kernel
theorem dX5_request_120 : decode cX5_request 120 = .ok (.imul, 1) := by decide +kernel
theorem dX5_request_121 : decode cX5_request 121 = .ok (.iadd, 1) := by decide +kernel
theorem dX5_request_122 : decode cX5_request 122 = .ok (.istore 8, 2) := by decide +kernel
theorem dX5_request_124 : decode cX5_request 124 = .ok (.aload_n 0, 1) := by decide +kernel
theorem dX5_request_125 : decode cX5_request 125 = .ok (.getfield 7, 3) := by decide +kernel
theorem dX5_request_128 : decode cX5_request 128 = .ok (.iload 8, 2) := by decide +kernel
theorem dX5_request_130 : decode cX5_request 130 = .ok (.iload_n 2, 1) := by decide +kernel
theorem dX5_request_131 : decode cX5_request 131 = .ok (.iastore, 1) := by decide +kernel
theorem dX5_request_132 : decode cX5_request 132 = .ok (.aload_n 0, 1) := by decide +kernel
theorem dX5_request_133 : decode cX5_request 133 = .ok (.getfield 7, 3) := by decide +kernel
theorem dX5_request_136 : decode cX5_request 136 = .ok (.iload 8, 2) := by decide +kernel
theorem dX5_request_138 : decode cX5_request 138 = .ok (.iconst 1, 1) := by decide +kernel
theorem dX5_request_139 : decode cX5_request 139 = .ok (.iadd, 1) := by decide +kernel
theorem dX5_request_140 : decode cX5_request 140 = .ok (.iload_n 3, 1) := by decide +kernel
theorem dX5_request_141 : decode cX5_request 141 = .ok (.iastore, 1) := by decide +kernel
theorem dX5_request_142 : decode cX5_request 142 = .ok (.aload_n 0, 1) := by decide +kernel
theorem dX5_request_143 : decode cX5_request 143 = .ok (.getfield 7, 3) := by decide +kernel
theorem dX5_request_146 : decode cX5_request 146 = .ok (.iload 8, 2) := by decide +kernel
theorem dX5_request_148 : decode cX5_request 148 = .ok (.iconst 2, 1) := by decide +kernel
theorem dX5_request_149 : decode cX5_request 149 = .ok (.iadd, 1) := by decide +kernel
theorem dX5_request_150 : decode cX5_request 150 = .ok (.iload 4, 2) := by decide +kernel
theorem dX5_request_152 : decode cX5_request 152 = .ok (.iastore, 1) := by decide +kernel
theorem dX5_request_153 : decode cX5_request 153 = .ok (.aload_n 0, 1) := by decide +kernel
theorem dX5_request_154 : decode cX5_request 154 = .ok (.getfield 7, 3) := by decide +kernel
theorem dX5_request_157 : decode cX5_request 157 = .ok (.iload 8, 2) := by decide +kernel
theorem dX5_request_159 : decode cX5_request 159 = .ok (.iconst 3, 1) := by decide +kernel
theorem dX5_request_160 : decode cX5_request 160 = .ok (.iadd, 1) := by decide +kernel
theorem dX5_request_161 : decode cX5_request 161 = .ok (.iload 5, 2) := by decide +kernel
theorem dX5_request_163 : decode cX5_request 163 = .ok (.iastore, 1) := by decide +kernel
theorem dX5_request_164 : decode cX5_request 164 = .ok (.aload_n 0, 1) := by decide +kernel
theorem dX5_request_165 : decode cX5_request 165 = .ok (.getfield 7, 3) := by decide +kernel
theorem dX5_request_168 : decode cX5_request 168 = .ok (.iload 8, 2) := by decide +kernel
theorem dX5_request_170 : decode cX5_request 170 = .ok (.iconst 4, 1) := by decide +kernel
theorem dX5_request_171 : decode cX5_request 171 = .ok (.iadd, 1) := by decide +kernel
theorem dX5_request_172 : decode cX5_request 172 = .ok (.iload 6, 2) := by decide +kernel
theorem dX5_request_174 : decode cX5_request 174 = .ok (.iastore, 1) := by decide +kernel
theorem dX5_request_175 : decode cX5_request 175 = .ok (.aload_n 0, 1) := by decide +kernel
theorem dX5_request_176 : decode cX5_request 176 = .ok (.getfield 7, 3) := by decide +kernel
theorem dX5_request_179 : decode cX5_request 179 = .ok (.iload 8, 2) := by decide +kernel
theorem dX5_request_181 : decode cX5_request 181 = .ok (.iconst 5, 1) := by decide +kernel
theorem dX5_request_182 : decode cX5_request 182 = .ok (.iadd, 1) := by decide +kernel
theorem dX5_request_183 : decode cX5_request 183 = .ok (.iload 7, 2) := by decide +kernel
theorem dX5_request_185 : decode cX5_request 185 = .ok (.iastore, 1) := by decide +kernel
theorem dX5_request_186 : decode cX5_request 186 = .ok (.aload_n 0, 1) := by decide +kernel
theorem dX5_request_187 : decode cX5_request 187 = .ok (.getfield 13, 3) := by decide +kernel
theorem dX5_request_190 : decode cX5_request 190 = .ok (.iload_n 1, 1) := by decide +kernel
theorem dX5_request_191 : decode cX5_request 191 = .ok (.dup2, 1) := by decide +kernel
theorem dX5_request_192 : decode cX5_request 192 = .ok (.iaload, 1) := by decide +kernel
theorem dX5_request_193 : decode cX5_request 193 = .ok (.iconst 1, 1) := by decide +kernel
theorem dX5_request_194 : decode cX5_request 194 = .ok (.iadd, 1) := by decide +kernel
theorem dX5_request_195 : decode cX5_request 195 = .ok (.iastore, 1) := by decide +kernel
theorem dX5_request_196 : decode cX5_request 196 = .ok (.aload_n 0, 1) := by decide +kernel
theorem dX5_request_197 : decode cX5_request 197 = .ok (.iload_n 1, 1) := by decide +kernel
theorem dX5_request_198 : decode cX5_request 198 = .ok (.iconst 1, 1) := by decide +kernel
theorem dX5_request_199 : decode cX5_request 199 = .ok (.aload_n 0, 1) := by decide +kernel
theorem dX5_request_200 : decode cX5_request 200 = .ok (.getfield 22, 3) := by decide +kernel
theorem dX5_request_203 : decode cX5_request 203 = .ok (.iload_n 1, 1) := by decide +kernel
theorem dX5_request_204 : decode cX5_request 204 = .ok (.iaload, 1) := by decide +kernel
theorem dX5_request_205 : decode cX5_request 205 = .ok (.iconst 0, 1) := by decide +kernel
theorem dX5_request_206 : decode cX5_request 206 = .ok (.invokevirtual 127, 3) := by decide +kernel
theorem dX5_request_209 : decode cX5_request 209 = .ok (.istore 9, 2) := by decide +kernel
theorem dX5_request_211 : decode cX5_request 211 = .ok (.aload_n 0, 1) := by decide +kernel
theorem dX5_request_212 : decode cX5_request 212 = .ok (.getfield 13, 3) := by decide +kernel
theorem dX5_request_215 : decode cX5_request 215 = .ok (.iload_n 1, 1) := by decide +kernel
theorem dX5_request_216 : decode cX5_request 216 = .ok (.iaload, 1) := by decide +kernel
theorem dX5_request_217 : decode cX5_request 217 = .ok (.ireturn, 1) := by decide +kernel
set_option maxRecDepth 20000 in
theorem ggX5_isThere_X5_in : GoodIn wsX5_isThere wsX5_in := goodIn_r _ [6] (by decide +kernel) (by decide +kernel)
set_option maxRecDepth 20000 in
theorem gX5_isThere_X5_in : GoodIn wsX5_isThere (va_wsS RX5 84 yX5_in wsX5_in) := goodIn_app (goodIn_of _ (by decide +kernel)) ggX5_isThere_X5_in
theorem dX5_isThere_0 : decode cX5_isThere 0 = .ok (.iload_n 1, 1) := by decide +kernel
theorem dX5_isThere_1 : decode cX5_isThere 1 = .ok (.iconst 0, 1) := by decide +kernel
theorem dX5_isThere_2 : decode cX5_isThere 2 = .ok (.aload_n 0, 1) := by decide +kernel
theorem dX5_isThere_3 : decode cX5_isThere 3 = .ok (.getfield 88, 3) := by decide +kernel
theorem dX5_isThere_6 : decode cX5_isThere 6 = .ok (.iconst 1, 1) := by decide +kernel
theorem dX5_isThere_7 : decode cX5_isThere 7 = .ok (.isub, 1) := by decide +kernel
theorem dX5_isThere_8 : decode cX5_isThere 8 = .ok (.invokestatic 84, 3) := by decide +kernel
theorem dX5_isThere_11 : decode cX5_isThere 11 = .ok (.ifCond .eq 16, 3) := by decide +kernel
theorem dX5_isThere_14 : decode cX5_isThere 14 = .ok (.aload_n 0, 1) := by decide +kernel
theorem dX5_isThere_15 : decode cX5_isThere 15 = .ok (.getfield 71, 3) := by decide +kernel
theorem dX5_isThere_18 : decode cX5_isThere 18 = .ok (.iload_n 1, 1) := by decide +kernel
theorem dX5_isThere_19 : decode cX5_isThere 19 = .ok (.baload, 1) := by decide +kernel
theorem dX5_isThere_20 : decode cX5_isThere 20 = .ok (.ifCond .ne 7, 3) := by decide +kernel
theorem dX5_isThere_23 : decode cX5_isThere 23 = .ok (.iconst 1, 1) := by decide +kernel
theorem dX5_isThere_24 : decode cX5_isThere 24 = .ok (.goto 4, 3) := by decide +kernel
theorem dX5_isThere_27 : decode cX5_isThere 27 = .ok (.iconst 0, 1) := by decide +kernel
theorem dX5_isThere_28 : decode cX5_isThere 28 = .ok (.ireturn, 1) := by decide +kernel
set_option maxRecDepth 20000 in
theorem ggX5_does_X5_prepares : GoodIn wsX5_does wsX5_prepares := goodIn_r _ [12, 5, 4, 13, 14, 15, 16, 17, 11, 18, 19, 20, 21, 22, 23, 24, 25, 26, 27, 28, 29, 30, 31, 32, 33, 34, 35, 36, 37, 38, 39, 40, 41, 6, 1, 3, 2, 7, 42, 43, 44, 45, 46, 47, 48, 98, 99, 100, 101, 102, 103, 104, 105, 106, 107, 108, 109, 110, 111, 112, 113, 114, 115, 116, 117, 118, 119, 120, 121, 122, 123] (by decide +kernel) (by decide +kernel)
set_option maxRecDepth 20000 in
theorem gX5_does_X5_prepares : GoodIn wsX5_does (wsV RX5 152 RX5 yX5_prepares wsX5_prepares) := goodIn_app (goodIn_of _ (by decide +kernel)) ggX5_does_X5_prepares
set_option maxRecDepth 20000 in
theorem ggX5_does_X5_hears : GoodIn wsX5_does wsX5_hears := goodIn_r _ [52, 5, 4, 53, 14, 13, 35, 54, 45, 46, 47, 11, 48, 25, 26, 27, 98, 99, 100, 101, 102, 103, 104, 105, 106, 107, 108, 109, 110, 111, 112, 113, 114, 115, 116, 117, 118, 119, 120, 121, 122, 123] (by decide +kernel) (by decide +kernel)
set_option maxRecDepth 20000 in
theorem gX5_does_X5_hears : GoodIn wsX5_does (wsV RX5 155 RX5 yX5_hears wsX5_hears) := goodIn_app (goodIn_of _ (by decide +kernel)) ggX5_does_X5_hears
set_option maxRecDepth 20000 in
theorem ggX5_does_X5_isAsked : GoodIn wsX5_does wsX5_isAsked := goodIn_r _ [58, 5, 4, 59, 54, 60, 19, 35, 61, 62, 63, 11, 64, 65, 66, 67, 68, 69, 70, 71, 72, 73, 36, 37, 38, 39, 40, 41, 6, 1, 3, 2, 7, 42, 43, 44, 20, 21, 22, 23, 14, 13, 24, 74, 75, 76, 77, 45, 46, 47, 48, 78, 79, 80, 81, 82, 53, 83, 84, 85, 86, 25, 26, 27, 28, 29, 30, 98, 99, 100, 101, 102, 103, 104, 105, 106, 107, 108, 109, 110, 111, 112, 113, 114, 115, 116, 117, 118, 119, 120, 121, 122, 123] (by decide +kernel) (by decide +kernel)
set_option maxRecDepth 20000 in
theorem gX5_does_X5_isAsked : GoodIn wsX5_does (wsV RX5 158 RX5 yX5_isAsked wsX5_isAsked) := goodIn_app (goodIn_of _ (by decide +kernel)) ggX5_does_X5_isAsked
set_option maxRecDepth 20000 in
theorem ggX5_does_X5_isVoted : GoodIn wsX5_does wsX5_isVoted := goodIn_r _ [90, 35, 5, 61, 62, 63, 11, 64, 4, 65, 66, 67, 68, 59, 69, 60, 70, 71, 72, 73, 36, 37, 38, 39, 40, 41, 6, 1, 3, 2, 7, 42, 43, 44, 20, 21, 22, 23, 14, 13, 24, 78, 79, 80, 81, 82, 54, 19, 53, 83, 84, 85, 86, 25, 26, 27, 28, 29, 30, 98, 99, 100, 101, 102, 103, 104, 105, 106, 107, 108, 109, 110, 111, 112, 113, 114, 115, 116, 117, 118, 119, 120, 121, 122, 123] (by decide +kernel) (by decide +kernel)
set_option maxRecDepth 20000 in
theorem gX5_does_X5_isVoted : GoodIn wsX5_does (wsV RX5 161 RX5 yX5_isVoted wsX5_isVoted) := goodIn_app (goodIn_of _ (by decide +kernel)) ggX5_does_X5_isVoted
set_option maxRecDepth 20000 in
theorem ggX5_does_X5_post : GoodIn wsX5_does wsX5_post := goodIn_r _ [39, 40, 41, 6, 1, 3, 2, 7, 42, 43, 11, 44, 20, 21, 22, 23, 14, 13, 24, 98, 99, 100, 101, 102, 103, 104, 105, 106, 107, 108, 109, 110, 111, 112, 113, 114, 115, 116, 117, 118, 119, 120, 121, 122, 123] (by decide +kernel) (by decide +kernel)
set_option maxRecDepth 20000 in
theorem gX5_does_X5_post : GoodIn wsX5_does (wsV RX5 102 RX5 yX5_post wsX5_post) := goodIn_app (goodIn_of _ (by decide +kernel)) ggX5_does_X5_post
set_option maxRecDepth 20000 in
theorem ggX5_does_X5_hearsTale : GoodIn wsX5_does wsX5_hearsTale := goodIn_r _ [94, 4, 95, 96, 97, 35, 54, 5, 19, 20, 21, 22, 11, 23, 14, 13, 24, 25, 26, 27, 98, 99, 100, 101, 102, 103, 104, 105, 106, 107, 108, 109, 110, 111, 112, 113, 114, 115, 116, 117, 118, 119, 120, 121, 122, 123] (by decide +kernel) (by decide +kernel)
set_option maxRecDepth 20000 in
theorem gX5_does_X5_hearsTale : GoodIn wsX5_does (wsV RX5 165 RX5 yX5_hearsTale wsX5_hearsTale) := goodIn_app (goodIn_of _ (by decide +kernel)) ggX5_does_X5_hearsTale
theorem dX5_does_0 : decode cX5_does 0 = .ok (.aload_n 0, 1) := by decide +kernel
theorem dX5_does_1 : decode cX5_does 1 = .ok (.getfield 59, 3) := by decide +kernel
theorem dX5_does_4 : decode cX5_does 4 = .ok (.iload_n 1, 1) := by decide +kernel
theorem dX5_does_5 : decode cX5_does 5 = .ok (.iaload, 1) := by decide +kernel
theorem dX5_does_6 : decode cX5_does 6 = .ok (.istore_n 2, 1) := by decide +kernel
theorem dX5_does_7 : decode cX5_does 7 = .ok (.aload_n 0, 1) := by decide +kernel
theorem dX5_does_8 : decode cX5_does 8 = .ok (.getfield 65, 3) := by decide +kernel
theorem dX5_does_11 : decode cX5_does 11 = .ok (.iload_n 1, 1) := by decide +kernel
theorem dX5_does_12 : decode cX5_does 12 = .ok (.iaload, 1) := by decide +kernel
theorem dX5_does_13 : decode cX5_does 13 = .ok (.istore_n 3, 1) := by decide +kernel
theorem dX5_does_14 : decode cX5_does 14 = .ok (.bipush 55, 2) := by decide +kernel
theorem dX5_does_16 : decode cX5_does 16 = .ok (.iload_n 1, 1) := by decide +kernel
theorem dX5_does_17 : decode cX5_does 17 = .ok (.iadd, 1) := by decide +kernel
theorem dX5_does_18 : decode cX5_does 18 = .ok (.istore 4, 2) := by decide +kernel
theorem dX5_does_20 : decode cX5_does 20 = .ok (.aload_n 0, 1) := by decide +kernel
theorem dX5_does_21 : decode cX5_does 21 = .ok (.getfield 62, 3) := by decide +kernel
theorem dX5_does_24 : decode cX5_does 24 = .ok (.iload_n 1, 1) := by decide +kernel
theorem dX5_does_25 : decode cX5_does 25 = .ok (.iaload, 1) := by decide +kernel
theorem dX5_does_26 : decode cX5_does 26 = .ok (.iconst 5, 1) := by decide +kernel
theorem dX5_does_27 : decode cX5_does 27 = .ok (.if_icmp .gt 25, 3) := by decide +kernel
theorem dX5_does_30 : decode cX5_does 30 = .ok (.aload_n 0, 1) := by decide +kernel
theorem dX5_does_31 : decode cX5_does 31 = .ok (.getfield 19, 3) := by decide +kernel
theorem dX5_does_34 : decode cX5_does 34 = .ok (.iload_n 2, 1) := by decide +kernel
theorem dX5_does_35 : decode cX5_does 35 = .ok (.iaload, 1) := by decide +kernel
theorem dX5_does_36 : decode cX5_does 36 = .ok (.iconst 2, 1) := by decide +kernel
theorem dX5_does_37 : decode cX5_does 37 = .ok (.if_icmp .ge 13, 3) := by decide +kernel
theorem dX5_does_40 : decode cX5_does 40 = .ok (.aload_n 0, 1) := by decide +kernel
theorem dX5_does_41 : decode cX5_does 41 = .ok (.getfield 22, 3) := by decide +kernel
theorem dX5_does_44 : decode cX5_does 44 = .ok (.iload_n 2, 1) := by decide +kernel
theorem dX5_does_45 : decode cX5_does 45 = .ok (.iaload, 1) := by decide +kernel
theorem dX5_does_46 : decode cX5_does 46 = .ok (.iload_n 3, 1) := by decide +kernel
theorem dX5_does_47 : decode cX5_does 47 = .ok (.if_icmp .le 5, 3) := by decide +kernel
theorem dX5_does_50 : decode cX5_does 50 = .ok (.iconst 0, 1) := by decide +kernel
theorem dX5_does_51 : decode cX5_does 51 = .ok (.ireturn, 1) := by decide +kernel
theorem dX5_does_52 : decode cX5_does 52 = .ok (.aload_n 0, 1) := by decide +kernel
theorem dX5_does_53 : decode cX5_does 53 = .ok (.getfield 62, 3) := by decide +kernel
theorem dX5_does_56 : decode cX5_does 56 = .ok (.iload_n 1, 1) := by decide +kernel
theorem dX5_does_57 : decode cX5_does 57 = .ok (.iaload, 1) := by decide +kernel
theorem dX5_does_58 : decode cX5_does 58 = .ok (.tableswitch 138 1 6 #[38, 47, 66, 79, 38, 100], 38) := by decide +kernel
theorem dX5_does_96 : decode cX5_does 96 = .ok (.aload_n 0, 1) := by decide +kernel
theorem dX5_does_97 : decode cX5_does 97 = .ok (.iload_n 2, 1) := by decide +kernel
theorem dX5_does_98 : decode cX5_does 98 = .ok (.iload 4, 2) := by decide +kernel
theorem dX5_does_100 : decode cX5_does 100 = .ok (.iload_n 3, 1) := by decide +kernel
theorem dX5_does_101 : decode cX5_does 101 = .ok (.invokevirtual 152, 3) := by decide +kernel
theorem dX5_does_104 : decode cX5_does 104 = .ok (.ireturn, 1) := by decide +kernel
theorem dX5_does_105 : decode cX5_does 105 = .ok (.aload_n 0, 1) := by decide +kernel
theorem dX5_does_106 : decode cX5_does 106 = .ok (.iload_n 2, 1) := by decide +kernel
theorem dX5_does_107 : decode cX5_does 107 = .ok (.aload_n 0, 1) := by decide +kernel
theorem dX5_does_108 : decode cX5_does 108 = .ok (.getfield 56, 3) := by decide +kernel
theorem dX5_does_111 : decode cX5_does 111 = .ok (.iload_n 1, 1) := by decide +kernel
theorem dX5_does_112 : decode cX5_does 112 = .ok (.iaload, 1) := by decide +kernel
theorem dX5_does_113 : decode cX5_does 113 = .ok (.iload_n 3, 1) := by decide +kernel
theorem dX5_does_114 : decode cX5_does 114 = .ok (.aload_n 0, 1) := by decide +kernel
theorem dX5_does_115 : decode cX5_does 115 = .ok (.getfield 68, 3) := by decide +kernel
theorem dX5_does_118 : decode cX5_does 118 = .ok (.iload_n 1, 1) := by decide +kernel
theorem dX5_does_119 : decode cX5_does 119 = .ok (.iaload, 1) := by decide +kernel
theorem dX5_does_120 : decode cX5_does 120 = .ok (.invokevirtual 155, 3) := by decide +kernel
theorem dX5_does_123 : decode cX5_does 123 = .ok (.ireturn, 1) := by decide +kernel
theorem dX5_does_124 : decode cX5_does 124 = .ok (.aload_n 0, 1) := by decide +kernel
theorem dX5_does_125 : decode cX5_does 125 = .ok (.iload_n 2, 1) := by decide +kernel
theorem dX5_does_126 : decode cX5_does 126 = .ok (.aload_n 0, 1) := by decide +kernel
theorem dX5_does_127 : decode cX5_does 127 = .ok (.getfield 56, 3) := by decide +kernel
theorem dX5_does_130 : decode cX5_does 130 = .ok (.iload_n 1, 1) := by decide +kernel
theorem dX5_does_131 : decode cX5_does 131 = .ok (.iaload, 1) := by decide +kernel
theorem dX5_does_132 : decode cX5_does 132 = .ok (.iload_n 3, 1) := by decide +kernel
theorem dX5_does_133 : decode cX5_does 133 = .ok (.invokevirtual 158, 3) := by decide +kernel
theorem dX5_does_136 : decode cX5_does 136 = .ok (.ireturn, 1) := by decide +kernel
theorem dX5_does_137 : decode cX5_does 137 = .ok (.aload_n 0, 1) := by decide +kernel
theorem dX5_does_138 : decode cX5_does 138 = .ok (.iload_n 2, 1) := by decide +kernel
theorem dX5_does_139 : decode cX5_does 139 = .ok (.aload_n 0, 1) := by decide +kernel
theorem dX5_does_140 : decode cX5_does 140 = .ok (.getfield 56, 3) := by decide +kernel
theorem dX5_does_143 : decode cX5_does 143 = .ok (.iload_n 1, 1) := by decide +kernel
theorem dX5_does_144 : decode cX5_does 144 = .ok (.iaload, 1) := by decide +kernel
theorem dX5_does_145 : decode cX5_does 145 = .ok (.iload 4, 2) := by decide +kernel
theorem dX5_does_147 : decode cX5_does 147 = .ok (.iload_n 3, 1) := by decide +kernel
theorem dX5_does_148 : decode cX5_does 148 = .ok (.aload_n 0, 1) := by decide +kernel
theorem dX5_does_149 : decode cX5_does 149 = .ok (.getfield 68, 3) := by decide +kernel
theorem dX5_does_152 : decode cX5_does 152 = .ok (.iload_n 1, 1) := by decide +kernel
theorem dX5_does_153 : decode cX5_does 153 = .ok (.iaload, 1) := by decide +kernel
theorem dX5_does_154 : decode cX5_does 154 = .ok (.invokevirtual 161, 3) := by decide +kernel
theorem dX5_does_157 : decode cX5_does 157 = .ok (.ireturn, 1) := by decide +kernel
theorem dX5_does_158 : decode cX5_does 158 = .ok (.aload_n 0, 1) := by decide +kernel
theorem dX5_does_159 : decode cX5_does 159 = .ok (.getfield 19, 3) := by decide +kernel
theorem dX5_does_162 : decode cX5_does 162 = .ok (.iload_n 2, 1) := by decide +kernel
theorem dX5_does_163 : decode cX5_does 163 = .ok (.iaload, 1) := by decide +kernel
theorem dX5_does_164 : decode cX5_does 164 = .ok (.ifCond .eq 5, 3) := by decide +kernel
theorem dX5_does_167 : decode cX5_does 167 = .ok (.iconst 0, 1) := by decide +kernel
theorem dX5_does_168 : decode cX5_does 168 = .ok (.ireturn, 1) := by decide +kernel
theorem dX5_does_169 : decode cX5_does 169 = .ok (.aload_n 0, 1) := by decide +kernel
theorem dX5_does_170 : decode cX5_does 170 = .ok (.iload_n 2, 1) := by decide +kernel
theorem dX5_does_171 : decode cX5_does 171 = .ok (.aload_n 0, 1) := by decide +kernel
theorem dX5_does_172 : decode cX5_does 172 = .ok (.getfield 56, 3) := by decide +kernel
theorem dX5_does_175 : decode cX5_does 175 = .ok (.iload_n 1, 1) := by decide +kernel
theorem dX5_does_176 : decode cX5_does 176 = .ok (.iaload, 1) := by decide +kernel
theorem dX5_does_177 : decode cX5_does 177 = .ok (.bipush 7, 2) := by decide +kernel
theorem dX5_does_179 : decode cX5_does 179 = .ok (.aload_n 0, 1) := by decide +kernel
theorem dX5_does_180 : decode cX5_does 180 = .ok (.getfield 22, 3) := by decide +kernel
theorem dX5_does_183 : decode cX5_does 183 = .ok (.iload_n 2, 1) := by decide +kernel
theorem dX5_does_184 : decode cX5_does 184 = .ok (.iaload, 1) := by decide +kernel
theorem dX5_does_185 : decode cX5_does 185 = .ok (.aload_n 0, 1) := by decide +kernel
theorem dX5_does_186 : decode cX5_does 186 = .ok (.getfield 68, 3) := by decide +kernel
theorem dX5_does_189 : decode cX5_does 189 = .ok (.iload_n 1, 1) := by decide +kernel
theorem dX5_does_190 : decode cX5_does 190 = .ok (.iaload, 1) := by decide +kernel
theorem dX5_does_191 : decode cX5_does 191 = .ok (.invokevirtual 102, 3) := by decide +kernel
theorem dX5_does_194 : decode cX5_does 194 = .ok (.iconst 1, 1) := by decide +kernel
theorem dX5_does_195 : decode cX5_does 195 = .ok (.ireturn, 1) := by decide +kernel
theorem dX5_does_196 : decode cX5_does 196 = .ok (.aload_n 0, 1) := by decide +kernel
theorem dX5_does_197 : decode cX5_does 197 = .ok (.iload_n 2, 1) := by decide +kernel
theorem dX5_does_198 : decode cX5_does 198 = .ok (.aload_n 0, 1) := by decide +kernel
theorem dX5_does_199 : decode cX5_does 199 = .ok (.getfield 56, 3) := by decide +kernel
theorem dX5_does_202 : decode cX5_does 202 = .ok (.iload_n 1, 1) := by decide +kernel
theorem dX5_does_203 : decode cX5_does 203 = .ok (.iaload, 1) := by decide +kernel
theorem dX5_does_204 : decode cX5_does 204 = .ok (.iload 4, 2) := by decide +kernel
theorem dX5_does_206 : decode cX5_does 206 = .ok (.iload_n 3, 1) := by decide +kernel
theorem dX5_does_207 : decode cX5_does 207 = .ok (.aload_n 0, 1) := by decide +kernel
theorem dX5_does_208 : decode cX5_does 208 = .ok (.getfield 68, 3) := by decide +kernel
theorem dX5_does_211 : decode cX5_does 211 = .ok (.iload_n 1, 1) := by decide +kernel
theorem dX5_does_212 : decode cX5_does 212 = .ok (.iaload, 1) := by decide +kernel
theorem dX5_does_213 : decode cX5_does 213 = .ok (.invokevirtual 165, 3) := by decide +kernel
theorem dX5_does_216 : decode cX5_does 216 = .ok (.ireturn, 1) := by decide +kernel
set_option maxRecDepth 20000 in
theorem ggX5_deliver_X5_isThere : GoodIn wsX5_deliver wsX5_isThere := goodIn_r _ [8, 9, 10, 11, 12, 7, 13, 111, 112, 113, 114, 115, 116, 117, 118, 119, 120, 121, 122, 123, 124, 125, 126, 127, 128, 129, 130, 131, 132, 133, 134, 135, 136] (by decide +kernel) (by decide +kernel)
set_option maxRecDepth 20000 in
theorem gX5_deliver_X5_isThere : GoodIn wsX5_deliver (wsV RX5 168 RX5 yX5_isThere wsX5_isThere) := goodIn_app (goodIn_of _ (by decide +kernel)) ggX5_deliver_X5_isThere
set_option maxRecDepth 20000 in
theorem ggX5_deliver_X5_does : GoodIn wsX5_deliver wsX5_does := goodIn_r _ [17, 3, 18, 19, 20, 21, 2, 22, 23, 24, 25, 7, 26, 27, 28, 29, 30, 31, 32, 33, 34, 35, 36, 37, 38, 39, 40, 41, 42, 43, 44, 45, 46, 47, 48, 49, 50, 51, 52, 53, 9, 54, 55, 56, 57, 58, 59, 60, 61, 62, 63, 64, 65, 66, 67, 68, 69, 70, 71, 72, 73, 74, 75, 76, 77, 78, 79, 80, 81, 82, 83, 84, 85, 86, 87, 88, 89, 90, 91, 92, 93, 94, 95, 96, 97, 98, 99, 100, 101, 102, 103, 104, 105, 106, 107, 108, 109, 110, 111, 112, 113, 114, 115, 116, 117, 118, 119, 120, 121, 122, 123, 124, 125, 126, 127, 128, 129, 130, 131, 132, 133, 134, 135, 136] (by decide +kernel) (by decide +kernel)
set_option maxRecDepth 20000 in
theorem gX5_deliver_X5_does : GoodIn wsX5_deliver (wsV RX5 171 RX5 yX5_does wsX5_does) := goodIn_app (goodIn_of _ (by decide +kernel)) ggX5_deliver_X5_does
theorem dX5_deliver_0 : decode cX5_deliver 0 = .ok (.aload_n 0, 1) := by decide +kernel
theorem dX5_deliver_1 : decode cX5_deliver 1 = .ok (.iload_n 1, 1) := by decide +kernel
theorem dX5_deliver_2 : decode cX5_deliver 2 = .ok (.invokevirtual 168, 3) := by decide +kernel
theorem dX5_deliver_5 : decode cX5_deliver 5 = .ok (.ifCond .ne 6, 3) := by decide +kernel
theorem dX5_deliver_8 : decode cX5_deliver 8 = .ok (.bipush (-2), 2) := by decide +kernel
theorem dX5_deliver_10 : decode cX5_deliver 10 = .ok (.ireturn, 1) := by decide +kernel
theorem dX5_deliver_11 : decode cX5_deliver 11 = .ok (.aload_n 0, 1) := by decide +kernel
theorem dX5_deliver_12 : decode cX5_deliver 12 = .ok (.getfield 53, 3) := by decide +kernel
theorem dX5_deliver_15 : decode cX5_deliver 15 = .ok (.iconst 5, 1) := by decide +kernel
theorem dX5_deliver_16 : decode cX5_deliver 16 = .ok (.aload_n 0, 1) := by decide +kernel
theorem dX5_deliver_17 : decode cX5_deliver 17 = .ok (.getfield 56, 3) := by decide +kernel
theorem dX5_deliver_20 : decode cX5_deliver 20 = .ok (.iload_n 1, 1) := by decide +kernel
theorem dX5_deliver_21 : decode cX5_deliver 21 = .ok (.iaload, 1) := by decide +kernel
theorem dX5_deliver_22 : decode cX5_deliver 22 = .ok (.imul, 1) := by decide +kernel
theorem dX5_deliver_23 : decode cX5_deliver 23 = .ok (.aload_n 0, 1) := by decide +kernel
theorem dX5_deliver_24 : decode cX5_deliver 24 = .ok (.getfield 59, 3) := by decide +kernel
theorem dX5_deliver_27 : decode cX5_deliver 27 = .ok (.iload_n 1, 1) := by decide +kernel
theorem dX5_deliver_28 : decode cX5_deliver 28 = .ok (.iaload, 1) := by decide +kernel
theorem dX5_deliver_29 : decode cX5_deliver 29 = .ok (.iadd, 1) := by decide +kernel
theorem dX5_deliver_30 : decode cX5_deliver 30 = .ok (.baload, 1) := by decide +kernel
theorem dX5_deliver_31 : decode cX5_deliver 31 = .ok (.ifCond .eq 6, 3) := by decide +kernel
theorem dX5_deliver_34 : decode cX5_deliver 34 = .ok (.bipush (-3), 2) := by decide +kernel
theorem dX5_deliver_36 : decode cX5_deliver 36 = .ok (.ireturn, 1) := by decide +kernel
theorem dX5_deliver_37 : decode cX5_deliver 37 = .ok (.aload_n 0, 1) := by decide +kernel
theorem dX5_deliver_38 : decode cX5_deliver 38 = .ok (.iload_n 1, 1) := by decide +kernel
theorem dX5_deliver_39 : decode cX5_deliver 39 = .ok (.invokevirtual 171, 3) := by decide +kernel
theorem dX5_deliver_42 : decode cX5_deliver 42 = .ok (.ifCond .eq 7, 3) := by decide +kernel
theorem dX5_deliver_45 : decode cX5_deliver 45 = .ok (.iconst 1, 1) := by decide +kernel
theorem dX5_deliver_46 : decode cX5_deliver 46 = .ok (.goto 4, 3) := by decide +kernel
theorem dX5_deliver_49 : decode cX5_deliver 49 = .ok (.iconst 0, 1) := by decide +kernel
theorem dX5_deliver_50 : decode cX5_deliver 50 = .ok (.ireturn, 1) := by decide +kernel
set_option maxRecDepth 20000 in
theorem ggX5_drop_X5_isThere : GoodIn wsX5_drop wsX5_isThere := goodIn_r _ [6, 7, 1, 8, 9, 5, 10, 11, 12, 13, 14, 15, 16, 17, 18, 19, 20, 21, 22, 23, 24, 25, 26, 27, 28, 29, 30, 31, 32, 33, 34, 35, 36] (by decide +kernel) (by decide +kernel)
set_option maxRecDepth 20000 in
theorem gX5_drop_X5_isThere : GoodIn wsX5_drop (wsV RX5 168 RX5 yX5_isThere wsX5_isThere) := goodIn_app (goodIn_of _ (by decide +kernel)) ggX5_drop_X5_isThere
theorem dX5_drop_0 : decode cX5_drop 0 = .ok (.aload_n 0, 1) := by decide +kernel
theorem dX5_drop_1 : decode cX5_drop 1 = .ok (.iload_n 1, 1) := by decide +kernel
theorem dX5_drop_2 : decode cX5_drop 2 = .ok (.invokevirtual 168, 3) := by decide +kernel
theorem dX5_drop_5 : decode cX5_drop 5 = .ok (.ifCond .ne 6, 3) := by decide +kernel
theorem dX5_drop_8 : decode cX5_drop 8 = .ok (.bipush (-2), 2) := by decide +kernel
theorem dX5_drop_10 : decode cX5_drop 10 = .ok (.ireturn, 1) := by decide +kernel
theorem dX5_drop_11 : decode cX5_drop 11 = .ok (.aload_n 0, 1) := by decide +kernel
theorem dX5_drop_12 : decode cX5_drop 12 = .ok (.getfield 71, 3) := by decide +kernel
theorem dX5_drop_15 : decode cX5_drop 15 = .ok (.iload_n 1, 1) := by decide +kernel
theorem dX5_drop_16 : decode cX5_drop 16 = .ok (.iconst 1, 1) := by decide +kernel
theorem dX5_drop_17 : decode cX5_drop 17 = .ok (.bastore, 1) := by decide +kernel
theorem dX5_drop_18 : decode cX5_drop 18 = .ok (.iconst 1, 1) := by decide +kernel
theorem dX5_drop_19 : decode cX5_drop 19 = .ok (.ireturn, 1) := by decide +kernel
set_option maxRecDepth 20000 in
theorem ggX5_cut_X5_isNode : GoodIn wsX5_cut wsX5_isNode := goodIn_r _ [6, 7, 8, 9, 5, 10, 11, 12, 13, 14, 15, 16, 17, 18, 19, 20, 21, 22, 23, 24, 25, 26, 27, 28, 29, 30, 31, 32, 33, 34, 35, 36] (by decide +kernel) (by decide +kernel)
set_option maxRecDepth 20000 in
theorem gX5_cut_X5_isNode : GoodIn wsX5_cut (wsV RX5 145 RX5 yX5_isNode wsX5_isNode) := goodIn_app (goodIn_of _ (by decide +kernel)) ggX5_cut_X5_isNode
theorem dX5_cut_0 : decode cX5_cut 0 = .ok (.aload_n 0, 1) := by decide +kernel
theorem dX5_cut_1 : decode cX5_cut 1 = .ok (.iload_n 1, 1) := by decide +kernel
theorem dX5_cut_2 : decode cX5_cut 2 = .ok (.invokevirtual 145, 3) := by decide +kernel
theorem dX5_cut_5 : decode cX5_cut 5 = .ok (.ifCond .eq 16, 3) := by decide +kernel
theorem dX5_cut_8 : decode cX5_cut 8 = .ok (.aload_n 0, 1) := by decide +kernel
theorem dX5_cut_9 : decode cX5_cut 9 = .ok (.iload_n 2, 1) := by decide +kernel
theorem dX5_cut_10 : decode cX5_cut 10 = .ok (.invokevirtual 145, 3) := by decide +kernel
theorem dX5_cut_13 : decode cX5_cut 13 = .ok (.ifCond .eq 8, 3) := by decide +kernel
theorem dX5_cut_16 : decode cX5_cut 16 = .ok (.iload_n 1, 1) := by decide +kernel
theorem dX5_cut_17 : decode cX5_cut 17 = .ok (.iload_n 2, 1) := by decide +kernel
theorem dX5_cut_18 : decode cX5_cut 18 = .ok (.if_icmp .ne 6, 3) := by decide +kernel
theorem dX5_cut_21 : decode cX5_cut 21 = .ok (.bipush (-2), 2) := by decide +kernel
theorem dX5_cut_23 : decode cX5_cut 23 = .ok (.ireturn, 1) := by decide +kernel
theorem dX5_cut_24 : decode cX5_cut 24 = .ok (.aload_n 0, 1) := by decide +kernel
theorem dX5_cut_25 : decode cX5_cut 25 = .ok (.getfield 53, 3) := by decide +kernel
theorem dX5_cut_28 : decode cX5_cut 28 = .ok (.iconst 5, 1) := by decide +kernel
theorem dX5_cut_29 : decode cX5_cut 29 = .ok (.iload_n 1, 1) := by decide +kernel
theorem dX5_cut_30 : decode cX5_cut 30 = .ok (.imul, 1) := by decide +kernel
theorem dX5_cut_31 : decode cX5_cut 31 = .ok (.iload_n 2, 1) := by decide +kernel
theorem dX5_cut_32 : decode cX5_cut 32 = .ok (.iadd, 1) := by decide +kernel
theorem dX5_cut_33 : decode cX5_cut 33 = .ok (.baload, 1) := by decide +kernel
theorem dX5_cut_34 : decode cX5_cut 34 = .ok (.ifCond .eq 7, 3) := by decide +kernel
theorem dX5_cut_37 : decode cX5_cut 37 = .ok (.iconst 1, 1) := by decide +kernel
theorem dX5_cut_38 : decode cX5_cut 38 = .ok (.goto 4, 3) := by decide +kernel
theorem dX5_cut_41 : decode cX5_cut 41 = .ok (.iconst 0, 1) := by decide +kernel
theorem dX5_cut_42 : decode cX5_cut 42 = .ok (.istore 4, 2) := by decide +kernel
theorem dX5_cut_44 : decode cX5_cut 44 = .ok (.aload_n 0, 1) := by decide +kernel
theorem dX5_cut_45 : decode cX5_cut 45 = .ok (.getfield 53, 3) := by decide +kernel
theorem dX5_cut_48 : decode cX5_cut 48 = .ok (.iconst 5, 1) := by decide +kernel
theorem dX5_cut_49 : decode cX5_cut 49 = .ok (.iload_n 1, 1) := by decide +kernel
theorem dX5_cut_50 : decode cX5_cut 50 = .ok (.imul, 1) := by decide +kernel
theorem dX5_cut_51 : decode cX5_cut 51 = .ok (.iload_n 2, 1) := by decide +kernel
theorem dX5_cut_52 : decode cX5_cut 52 = .ok (.iadd, 1) := by decide +kernel
theorem dX5_cut_53 : decode cX5_cut 53 = .ok (.iload_n 3, 1) := by decide +kernel
theorem dX5_cut_54 : decode cX5_cut 54 = .ok (.bastore, 1) := by decide +kernel
theorem dX5_cut_55 : decode cX5_cut 55 = .ok (.aload_n 0, 1) := by decide +kernel
theorem dX5_cut_56 : decode cX5_cut 56 = .ok (.getfield 53, 3) := by decide +kernel
theorem dX5_cut_59 : decode cX5_cut 59 = .ok (.iconst 5, 1) := by decide +kernel
theorem dX5_cut_60 : decode cX5_cut 60 = .ok (.iload_n 2, 1) := by decide +kernel
theorem dX5_cut_61 : decode cX5_cut 61 = .ok (.imul, 1) := by decide +kernel
theorem dX5_cut_62 : decode cX5_cut 62 = .ok (.iload_n 1, 1) := by decide +kernel
theorem dX5_cut_63 : decode cX5_cut 63 = .ok (.iadd, 1) := by decide +kernel
theorem dX5_cut_64 : decode cX5_cut 64 = .ok (.iload_n 3, 1) := by decide +kernel
theorem dX5_cut_65 : decode cX5_cut 65 = .ok (.bastore, 1) := by decide +kernel
theorem dX5_cut_66 : decode cX5_cut 66 = .ok (.iload 4, 2) := by decide +kernel
theorem dX5_cut_68 : decode cX5_cut 68 = .ok (.ireturn, 1) := by decide +kernel
set_option maxRecDepth 20000 in
theorem ggX5_timeout_X5_isNode : GoodIn wsX5_timeout wsX5_isNode := goodIn_r _ [7, 8, 9, 10, 6, 11, 48, 49, 50, 51, 52, 53, 54, 55, 56, 57, 58, 59, 60, 61, 62, 63, 64, 65, 66, 67, 68, 69, 70, 71, 72, 73] (by decide +kernel) (by decide +kernel)
set_option maxRecDepth 20000 in
theorem gX5_timeout_X5_isNode : GoodIn wsX5_timeout (wsV RX5 145 RX5 yX5_isNode wsX5_isNode) := goodIn_app (goodIn_of _ (by decide +kernel)) ggX5_timeout_X5_isNode
set_option maxRecDepth 20000 in
theorem ggX5_timeout_X5_changes : GoodIn wsX5_timeout wsX5_changes := goodIn_r _ [15, 2, 1, 16, 17, 18, 6, 19, 20, 21, 22, 23, 24, 25, 26, 8, 27, 28, 29, 30, 31, 32, 33, 34, 35, 36, 37, 38, 39, 40, 41, 42, 43, 44, 45, 46, 47, 48, 49, 50, 51, 52, 53, 54, 55, 56, 57, 58, 59, 60, 61, 62, 63, 64, 65, 66, 67, 68, 69, 70, 71, 72, 73] (by decide +kernel) (by decide +kernel)
set_option maxRecDepth 20000 in
theorem gX5_timeout_X5_changes : GoodIn wsX5_timeout (wsV RX5 131 RX5 yX5_changes wsX5_changes) := goodIn_app (goodIn_of _ (by decide +kernel)) ggX5_timeout_X5_changes
theorem dX5_timeout_0 : decode cX5_timeout 0 = .ok (.aload_n 0, 1) := by decide +kernel
theorem dX5_timeout_1 : decode cX5_timeout 1 = .ok (.iload_n 1, 1) := by decide +kernel
theorem dX5_timeout_2 : decode cX5_timeout 2 = .ok (.invokevirtual 145, 3) := by decide +kernel
theorem dX5_timeout_5 : decode cX5_timeout 5 = .ok (.ifCond .ne 6, 3) := by decide +kernel
theorem dX5_timeout_8 : decode cX5_timeout 8 = .ok (.bipush (-2), 2) := by decide +kernel
theorem dX5_timeout_10 : decode cX5_timeout 10 = .ok (.ireturn, 1) := by decide +kernel
theorem dX5_timeout_11 : decode cX5_timeout 11 = .ok (.aload_n 0, 1) := by decide +kernel
theorem dX5_timeout_12 : decode cX5_timeout 12 = .ok (.getfield 19, 3) := by decide +kernel
theorem dX5_timeout_15 : decode cX5_timeout 15 = .ok (.iload_n 1, 1) := by decide +kernel
theorem dX5_timeout_16 : decode cX5_timeout 16 = .ok (.iaload, 1) := by decide +kernel
theorem dX5_timeout_17 : decode cX5_timeout 17 = .ok (.iconst 2, 1) := by decide +kernel
theorem dX5_timeout_18 : decode cX5_timeout 18 = .ok (.if_icmp .lt 6, 3) := by decide +kernel
theorem dX5_timeout_21 : decode cX5_timeout 21 = .ok (.bipush (-3), 2) := by decide +kernel
theorem dX5_timeout_23 : decode cX5_timeout 23 = .ok (.ireturn, 1) := by decide +kernel
theorem dX5_timeout_24 : decode cX5_timeout 24 = .ok (.aload_n 0, 1) := by decide +kernel
theorem dX5_timeout_25 : decode cX5_timeout 25 = .ok (.getfield 22, 3) := by decide +kernel
theorem dX5_timeout_28 : decode cX5_timeout 28 = .ok (.iload_n 1, 1) := by decide +kernel
theorem dX5_timeout_29 : decode cX5_timeout 29 = .ok (.iaload, 1) := by decide +kernel
theorem dX5_timeout_30 : decode cX5_timeout 30 = .ok (.sipush 1000, 3) := by decide +kernel
theorem dX5_timeout_33 : decode cX5_timeout 33 = .ok (.if_icmp .ne 6, 3) := by decide +kernel
theorem dX5_timeout_36 : decode cX5_timeout 36 = .ok (.bipush (-4), 2) := by decide +kernel
theorem dX5_timeout_38 : decode cX5_timeout 38 = .ok (.ireturn, 1) := by decide +kernel
theorem dX5_timeout_39 : decode cX5_timeout 39 = .ok (.aload_n 0, 1) := by decide +kernel
theorem dX5_timeout_40 : decode cX5_timeout 40 = .ok (.iload_n 1, 1) := by decide +kernel
theorem dX5_timeout_41 : decode cX5_timeout 41 = .ok (.aload_n 0, 1) := by decide +kernel
theorem dX5_timeout_42 : decode cX5_timeout 42 = .ok (.getfield 22, 3) := by decide +kernel
theorem dX5_timeout_45 : decode cX5_timeout 45 = .ok (.iload_n 1, 1) := by decide +kernel
theorem dX5_timeout_46 : decode cX5_timeout 46 = .ok (.iaload, 1) := by decide +kernel
theorem dX5_timeout_47 : decode cX5_timeout 47 = .ok (.iconst 1, 1) := by decide +kernel
theorem dX5_timeout_48 : decode cX5_timeout 48 = .ok (.iadd, 1) := by decide +kernel
theorem dX5_timeout_49 : decode cX5_timeout 49 = .ok (.invokevirtual 131, 3) := by decide +kernel
theorem dX5_timeout_52 : decode cX5_timeout 52 = .ok (.aload_n 0, 1) := by decide +kernel
theorem dX5_timeout_53 : decode cX5_timeout 53 = .ok (.getfield 22, 3) := by decide +kernel
theorem dX5_timeout_56 : decode cX5_timeout 56 = .ok (.iload_n 1, 1) := by decide +kernel
theorem dX5_timeout_57 : decode cX5_timeout 57 = .ok (.iaload, 1) := by decide +kernel
theorem dX5_timeout_58 : decode cX5_timeout 58 = .ok (.ireturn, 1) := by decide +kernel
set_option maxRecDepth 20000 in
theorem ggX5_resend_X5_isNode : GoodIn wsX5_resend wsX5_isNode := goodIn_r _ [11, 4, 12, 13, 10, 14, 48, 49, 50, 51, 52, 53, 54, 55, 56, 57, 58, 59, 60, 61, 62, 63, 64, 65, 66, 67, 68, 69, 70, 71, 72, 73] (by decide +kernel) (by decide +kernel)
set_option maxRecDepth 20000 in
theorem gX5_resend_X5_isNode : GoodIn wsX5_resend (wsV RX5 145 RX5 yX5_isNode wsX5_isNode) := goodIn_app (goodIn_of _ (by decide +kernel)) ggX5_resend_X5_isNode
set_option maxRecDepth 20000 in
theorem ggX5_resend_X5_isFirst : GoodIn wsX5_resend wsX5_isFirst := goodIn_r _ [18, 2, 4, 48, 49, 50, 51, 52, 53, 54, 55, 56, 57, 58, 59, 60, 61, 62, 63, 64, 65, 66, 67, 68, 69, 70, 71, 72, 73] (by decide +kernel) (by decide +kernel)
set_option maxRecDepth 20000 in
theorem gX5_resend_X5_isFirst : GoodIn wsX5_resend (wsV RX5 121 RX5 yX5_isFirst wsX5_isFirst) := goodIn_app (goodIn_of _ (by decide +kernel)) ggX5_resend_X5_isFirst
set_option maxRecDepth 20000 in
theorem ggX5_resend_X5_postAll : GoodIn wsX5_resend wsX5_postAll := goodIn_r _ [22, 4, 23, 24, 25, 10, 26, 27, 28, 29, 30, 31, 32, 33, 34, 35, 36, 37, 38, 39, 40, 41, 42, 43, 48, 49, 50, 51, 52, 53, 54, 55, 56, 57, 58, 59, 60, 61, 62, 63, 64, 65, 66, 67, 68, 69, 70, 71, 72, 73] (by decide +kernel) (by decide +kernel)
set_option maxRecDepth 20000 in
theorem gX5_resend_X5_postAll : GoodIn wsX5_resend (wsV RX5 127 RX5 yX5_postAll wsX5_postAll) := goodIn_app (goodIn_of _ (by decide +kernel)) ggX5_resend_X5_postAll
set_option maxRecDepth 20000 in
theorem ggX5_resend_X5_postOk : GoodIn wsX5_resend wsX5_postOk := goodIn_r _ [47, 2, 4, 41, 23, 24, 25, 10, 26, 27, 28, 29, 30, 31, 32, 33, 34, 35, 36, 37, 38, 39, 40, 42, 43, 48, 49, 50, 51, 52, 53, 54, 55, 56, 57, 58, 59, 60, 61, 62, 63, 64, 65, 66, 67, 68, 69, 70, 71, 72, 73] (by decide +kernel) (by decide +kernel)
set_option maxRecDepth 20000 in
theorem gX5_resend_X5_postOk : GoodIn wsX5_resend (wsV RX5 113 RX5 yX5_postOk wsX5_postOk) := goodIn_app (goodIn_of _ (by decide +kernel)) ggX5_resend_X5_postOk
set_option maxRecDepth 20000 in
theorem ggX5_resend_X5_post : GoodIn wsX5_resend wsX5_post := goodIn_r _ [26, 27, 28, 29, 30, 31, 32, 33, 34, 35, 10, 36, 37, 38, 39, 40, 41, 42, 43, 48, 49, 50, 51, 52, 53, 54, 55, 56, 57, 58, 59, 60, 61, 62, 63, 64, 65, 66, 67, 68, 69, 70, 71, 72, 73] (by decide +kernel) (by decide +kernel)
set_option maxRecDepth 20000 in
theorem gX5_resend_X5_post : GoodIn wsX5_resend (wsV RX5 102 RX5 yX5_post wsX5_post) := goodIn_app (goodIn_of _ (by decide +kernel)) ggX5_resend_X5_post
theorem dX5_resend_0 : decode cX5_resend 0 = .ok (.aload_n 0, 1) := by decide +kernel
theorem dX5_resend_1 : decode cX5_resend 1 = .ok (.iload_n 1, 1) := by decide +kernel
theorem dX5_resend_2 : decode cX5_resend 2 = .ok (.invokevirtual 145, 3) := by decide +kernel
theorem dX5_resend_5 : decode cX5_resend 5 = .ok (.ifCond .ne 6, 3) := by decide +kernel
theorem dX5_resend_8 : decode cX5_resend 8 = .ok (.bipush (-2), 2) := by decide +kernel
theorem dX5_resend_10 : decode cX5_resend 10 = .ok (.ireturn, 1) := by decide +kernel
theorem dX5_resend_11 : decode cX5_resend 11 = .ok (.aload_n 0, 1) := by decide +kernel
theorem dX5_resend_12 : decode cX5_resend 12 = .ok (.getfield 19, 3) := by decide +kernel
theorem dX5_resend_15 : decode cX5_resend 15 = .ok (.iload_n 1, 1) := by decide +kernel
theorem dX5_resend_16 : decode cX5_resend 16 = .ok (.iaload, 1) := by decide +kernel
theorem dX5_resend_17 : decode cX5_resend 17 = .ok (.tableswitch 136 0 2 #[27, 56, 121], 27) := by decide +kernel
theorem dX5_resend_44 : decode cX5_resend 44 = .ok (.aload_n 0, 1) := by decide +kernel
theorem dX5_resend_45 : decode cX5_resend 45 = .ok (.iload_n 1, 1) := by decide +kernel
theorem dX5_resend_46 : decode cX5_resend 46 = .ok (.invokevirtual 121, 3) := by decide +kernel
theorem dX5_resend_49 : decode cX5_resend 49 = .ok (.ifCond .eq 17, 3) := by decide +kernel
theorem dX5_resend_52 : decode cX5_resend 52 = .ok (.aload_n 0, 1) := by decide +kernel
theorem dX5_resend_53 : decode cX5_resend 53 = .ok (.iload_n 1, 1) := by decide +kernel
theorem dX5_resend_54 : decode cX5_resend 54 = .ok (.iconst 1, 1) := by decide +kernel
theorem dX5_resend_55 : decode cX5_resend 55 = .ok (.aload_n 0, 1) := by decide +kernel
theorem dX5_resend_56 : decode cX5_resend 56 = .ok (.getfield 22, 3) := by decide +kernel
theorem dX5_resend_59 : decode cX5_resend 59 = .ok (.iload_n 1, 1) := by decide +kernel
theorem dX5_resend_60 : decode cX5_resend 60 = .ok (.iaload, 1) := by decide +kernel
theorem dX5_resend_61 : decode cX5_resend 61 = .ok (.iconst 0, 1) := by decide +kernel
theorem dX5_resend_62 : decode cX5_resend 62 = .ok (.invokevirtual 127, 3) := by decide +kernel
theorem dX5_resend_65 : decode cX5_resend 65 = .ok (.ireturn, 1) := by decide +kernel
theorem dX5_resend_66 : decode cX5_resend 66 = .ok (.aload_n 0, 1) := by decide +kernel
theorem dX5_resend_67 : decode cX5_resend 67 = .ok (.iload_n 1, 1) := by decide +kernel
theorem dX5_resend_68 : decode cX5_resend 68 = .ok (.invokevirtual 113, 3) := by decide +kernel
theorem dX5_resend_71 : decode cX5_resend 71 = .ok (.iconst 1, 1) := by decide +kernel
theorem dX5_resend_72 : decode cX5_resend 72 = .ok (.ireturn, 1) := by decide +kernel
theorem dX5_resend_73 : decode cX5_resend 73 = .ok (.aload_n 0, 1) := by decide +kernel
theorem dX5_resend_74 : decode cX5_resend 74 = .ok (.iload_n 1, 1) := by decide +kernel
theorem dX5_resend_75 : decode cX5_resend 75 = .ok (.iconst 3, 1) := by decide +kernel
theorem dX5_resend_76 : decode cX5_resend 76 = .ok (.aload_n 0, 1) := by decide +kernel
theorem dX5_resend_77 : decode cX5_resend 77 = .ok (.getfield 22, 3) := by decide +kernel
theorem dX5_resend_80 : decode cX5_resend 80 = .ok (.iload_n 1, 1) := by decide +kernel
theorem dX5_resend_81 : decode cX5_resend 81 = .ok (.iaload, 1) := by decide +kernel
theorem dX5_resend_82 : decode cX5_resend 82 = .ok (.iconst 0, 1) := by decide +kernel
theorem dX5_resend_83 : decode cX5_resend 83 = .ok (.invokevirtual 127, 3) := by decide +kernel
theorem dX5_resend_86 : decode cX5_resend 86 = .ok (.istore_n 2, 1) := by decide +kernel
theorem dX5_resend_87 : decode cX5_resend 87 = .ok (.aload_n 0, 1) := by decide +kernel
theorem dX5_resend_88 : decode cX5_resend 88 = .ok (.getfield 28, 3) := by decide +kernel
theorem dX5_resend_91 : decode cX5_resend 91 = .ok (.iload_n 1, 1) := by decide +kernel
theorem dX5_resend_92 : decode cX5_resend 92 = .ok (.baload, 1) := by decide +kernel
theorem dX5_resend_93 : decode cX5_resend 93 = .ok (.ifCond .eq 43, 3) := by decide +kernel
theorem dX5_resend_96 : decode cX5_resend 96 = .ok (.aload_n 0, 1) := by decide +kernel
theorem dX5_resend_97 : decode cX5_resend 97 = .ok (.iload_n 1, 1) := by decide +kernel
theorem dX5_resend_98 : decode cX5_resend 98 = .ok (.invokevirtual 121, 3) := by decide +kernel
theorem dX5_resend_101 : decode cX5_resend 101 = .ok (.ifCond .ne 35, 3) := by decide +kernel
theorem dX5_resend_104 : decode cX5_resend 104 = .ok (.aload_n 0, 1) := by decide +kernel
theorem dX5_resend_105 : decode cX5_resend 105 = .ok (.iload_n 1, 1) := by decide +kernel
theorem dX5_resend_106 : decode cX5_resend 106 = .ok (.aload_n 0, 1) := by decide +kernel
theorem dX5_resend_107 : decode cX5_resend 107 = .ok (.getfield 22, 3) := by decide +kernel
theorem dX5_resend_110 : decode cX5_resend 110 = .ok (.iload_n 1, 1) := by decide +kernel
theorem dX5_resend_111 : decode cX5_resend 111 = .ok (.iaload, 1) := by decide +kernel
theorem dX5_resend_112 : decode cX5_resend 112 = .ok (.aload_n 0, 1) := by decide +kernel
theorem dX5_resend_113 : decode cX5_resend 113 = .ok (.getfield 77, 3) := by decide +kernel
theorem dX5_resend_116 : decode cX5_resend 116 = .ok (.irem, 1) := by decide +kernel
theorem dX5_resend_117 : decode cX5_resend 117 = .ok (.iconst 4, 1) := by decide +kernel
theorem dX5_resend_118 : decode cX5_resend 118 = .ok (.aload_n 0, 1) := by decide +kernel
theorem dX5_resend_119 : decode cX5_resend 119 = .ok (.getfield 22, 3) := by decide +kernel
theorem dX5_resend_122 : decode cX5_resend 122 = .ok (.iload_n 1, 1) := by decide +kernel
theorem dX5_resend_123 : decode cX5_resend 123 = .ok (.iaload, 1) := by decide +kernel
theorem dX5_resend_124 : decode cX5_resend 124 = .ok (.aload_n 0, 1) := by decide +kernel
theorem dX5_resend_125 : decode cX5_resend 125 = .ok (.getfield 25, 3) := by decide +kernel
theorem dX5_resend_128 : decode cX5_resend 128 = .ok (.iload_n 1, 1) := by decide +kernel
theorem dX5_resend_129 : decode cX5_resend 129 = .ok (.iaload, 1) := by decide +kernel
theorem dX5_resend_130 : decode cX5_resend 130 = .ok (.invokevirtual 102, 3) := by decide +kernel
theorem dX5_resend_133 : decode cX5_resend 133 = .ok (.iinc 2 1, 3) := by decide +kernel
theorem dX5_resend_136 : decode cX5_resend 136 = .ok (.iload_n 2, 1) := by decide +kernel
theorem dX5_resend_137 : decode cX5_resend 137 = .ok (.ireturn, 1) := by decide +kernel
theorem dX5_resend_138 : decode cX5_resend 138 = .ok (.aload_n 0, 1) := by decide +kernel
theorem dX5_resend_139 : decode cX5_resend 139 = .ok (.iload_n 1, 1) := by decide +kernel
theorem dX5_resend_140 : decode cX5_resend 140 = .ok (.bipush 6, 2) := by decide +kernel
theorem dX5_resend_142 : decode cX5_resend 142 = .ok (.iconst 0, 1) := by decide +kernel
theorem dX5_resend_143 : decode cX5_resend 143 = .ok (.aload_n 0, 1) := by decide +kernel
theorem dX5_resend_144 : decode cX5_resend 144 = .ok (.getfield 32, 3) := by decide +kernel
theorem dX5_resend_147 : decode cX5_resend 147 = .ok (.iload_n 1, 1) := by decide +kernel
theorem dX5_resend_148 : decode cX5_resend 148 = .ok (.iaload, 1) := by decide +kernel
theorem dX5_resend_149 : decode cX5_resend 149 = .ok (.invokevirtual 127, 3) := by decide +kernel
theorem dX5_resend_152 : decode cX5_resend 152 = .ok (.ireturn, 1) := by decide +kernel
theorem dX5_resend_153 : decode cX5_resend 153 = .ok (.bipush (-3), 2) := by decide +kernel
theorem dX5_resend_155 : decode cX5_resend 155 = .ok (.ireturn, 1) := by decide +kernel
set_option maxRecDepth 20000 in
theorem ggX5_crash_X5_isNode : GoodIn wsX5_crash wsX5_isNode := goodIn_r _ [12, 13, 14, 15, 11, 16, 24, 25, 26, 27, 28, 29, 30, 31, 32, 33, 34, 35, 36, 37, 38, 39, 40, 41, 42, 43, 44, 45, 46, 47, 48, 49] (by decide +kernel) (by decide +kernel)
set_option maxRecDepth 20000 in
theorem gX5_crash_X5_isNode : GoodIn wsX5_crash (wsV RX5 145 RX5 yX5_isNode wsX5_isNode) := goodIn_app (goodIn_of _ (by decide +kernel)) ggX5_crash_X5_isNode
set_option maxRecDepth 20000 in
theorem ggX5_crash_X5_forget : GoodIn wsX5_crash wsX5_forget := goodIn_r _ [20, 21, 22, 23, 24, 25, 26, 27, 28, 29, 30, 31, 32, 33, 34, 35, 36, 37, 38, 39, 40, 41, 42, 43, 44, 45, 46, 47, 48, 49] (by decide +kernel) (by decide +kernel)
set_option maxRecDepth 20000 in
theorem gX5_crash_X5_forget : GoodIn wsX5_crash (wsV RX5 124 RX5 yX5_forget wsX5_forget) := goodIn_app (goodIn_of _ (by decide +kernel)) ggX5_crash_X5_forget
theorem dX5_crash_0 : decode cX5_crash 0 = .ok (.aload_n 0, 1) := by decide +kernel
theorem dX5_crash_1 : decode cX5_crash 1 = .ok (.iload_n 1, 1) := by decide +kernel
theorem dX5_crash_2 : decode cX5_crash 2 = .ok (.invokevirtual 145, 3) := by decide +kernel
theorem dX5_crash_5 : decode cX5_crash 5 = .ok (.ifCond .ne 6, 3) := by decide +kernel
theorem dX5_crash_8 : decode cX5_crash 8 = .ok (.bipush (-2), 2) := by decide +kernel
theorem dX5_crash_10 : decode cX5_crash 10 = .ok (.ireturn, 1) := by decide +kernel
theorem dX5_crash_11 : decode cX5_crash 11 = .ok (.aload_n 0, 1) := by decide +kernel
theorem dX5_crash_12 : decode cX5_crash 12 = .ok (.getfield 19, 3) := by decide +kernel
theorem dX5_crash_15 : decode cX5_crash 15 = .ok (.iload_n 1, 1) := by decide +kernel
theorem dX5_crash_16 : decode cX5_crash 16 = .ok (.iaload, 1) := by decide +kernel
theorem dX5_crash_17 : decode cX5_crash 17 = .ok (.iconst 3, 1) := by decide +kernel
theorem dX5_crash_18 : decode cX5_crash 18 = .ok (.if_icmp .ne 6, 3) := by decide +kernel
theorem dX5_crash_21 : decode cX5_crash 21 = .ok (.bipush (-3), 2) := by decide +kernel
theorem dX5_crash_23 : decode cX5_crash 23 = .ok (.ireturn, 1) := by decide +kernel
theorem dX5_crash_24 : decode cX5_crash 24 = .ok (.aload_n 0, 1) := by decide +kernel
theorem dX5_crash_25 : decode cX5_crash 25 = .ok (.getfield 13, 3) := by decide +kernel
theorem dX5_crash_28 : decode cX5_crash 28 = .ok (.iload_n 1, 1) := by decide +kernel
theorem dX5_crash_29 : decode cX5_crash 29 = .ok (.iaload, 1) := by decide +kernel
theorem dX5_crash_30 : decode cX5_crash 30 = .ok (.istore_n 2, 1) := by decide +kernel
theorem dX5_crash_31 : decode cX5_crash 31 = .ok (.aload_n 0, 1) := by decide +kernel
theorem dX5_crash_32 : decode cX5_crash 32 = .ok (.getfield 19, 3) := by decide +kernel
theorem dX5_crash_35 : decode cX5_crash 35 = .ok (.iload_n 1, 1) := by decide +kernel
theorem dX5_crash_36 : decode cX5_crash 36 = .ok (.iconst 3, 1) := by decide +kernel
theorem dX5_crash_37 : decode cX5_crash 37 = .ok (.iastore, 1) := by decide +kernel
theorem dX5_crash_38 : decode cX5_crash 38 = .ok (.aload_n 0, 1) := by decide +kernel
theorem dX5_crash_39 : decode cX5_crash 39 = .ok (.getfield 22, 3) := by decide +kernel
theorem dX5_crash_42 : decode cX5_crash 42 = .ok (.iload_n 1, 1) := by decide +kernel
theorem dX5_crash_43 : decode cX5_crash 43 = .ok (.iconst 0, 1) := by decide +kernel
theorem dX5_crash_44 : decode cX5_crash 44 = .ok (.iastore, 1) := by decide +kernel
theorem dX5_crash_45 : decode cX5_crash 45 = .ok (.aload_n 0, 1) := by decide +kernel
theorem dX5_crash_46 : decode cX5_crash 46 = .ok (.getfield 25, 3) := by decide +kernel
theorem dX5_crash_49 : decode cX5_crash 49 = .ok (.iload_n 1, 1) := by decide +kernel
theorem dX5_crash_50 : decode cX5_crash 50 = .ok (.iconst 0, 1) := by decide +kernel
theorem dX5_crash_51 : decode cX5_crash 51 = .ok (.iastore, 1) := by decide +kernel
theorem dX5_crash_52 : decode cX5_crash 52 = .ok (.aload_n 0, 1) := by decide +kernel
theorem dX5_crash_53 : decode cX5_crash 53 = .ok (.getfield 13, 3) := by decide +kernel
theorem dX5_crash_56 : decode cX5_crash 56 = .ok (.iload_n 1, 1) := by decide +kernel
theorem dX5_crash_57 : decode cX5_crash 57 = .ok (.iconst 0, 1) := by decide +kernel
theorem dX5_crash_58 : decode cX5_crash 58 = .ok (.iastore, 1) := by decide +kernel
theorem dX5_crash_59 : decode cX5_crash 59 = .ok (.aload_n 0, 1) := by decide +kernel
theorem dX5_crash_60 : decode cX5_crash 60 = .ok (.getfield 16, 3) := by decide +kernel
theorem dX5_crash_63 : decode cX5_crash 63 = .ok (.iload_n 1, 1) := by decide +kernel
theorem dX5_crash_64 : decode cX5_crash 64 = .ok (.iconst 0, 1) := by decide +kernel
theorem dX5_crash_65 : decode cX5_crash 65 = .ok (.iastore, 1) := by decide +kernel
theorem dX5_crash_66 : decode cX5_crash 66 = .ok (.aload_n 0, 1) := by decide +kernel
theorem dX5_crash_67 : decode cX5_crash 67 = .ok (.iload_n 1, 1) := by decide +kernel
theorem dX5_crash_68 : decode cX5_crash 68 = .ok (.invokevirtual 124, 3) := by decide +kernel
theorem dX5_crash_71 : decode cX5_crash 71 = .ok (.iconst 0, 1) := by decide +kernel
theorem dX5_crash_72 : decode cX5_crash 72 = .ok (.istore_n 3, 1) := by decide +kernel
theorem dX5_crash_73 : decode cX5_crash 73 = .ok (.iload_n 3, 1) := by decide +kernel
theorem dX5_crash_74 : decode cX5_crash 74 = .ok (.iconst 5, 1) := by decide +kernel
theorem dX5_crash_75 : decode cX5_crash 75 = .ok (.if_icmp .ge 31, 3) := by decide +kernel
theorem dX5_crash_78 : decode cX5_crash 78 = .ok (.aload_n 0, 1) := by decide +kernel
theorem dX5_crash_79 : decode cX5_crash 79 = .ok (.getfield 35, 3) := by decide +kernel
theorem dX5_crash_82 : decode cX5_crash 82 = .ok (.iconst 5, 1) := by decide +kernel
theorem dX5_crash_83 : decode cX5_crash 83 = .ok (.iload_n 1, 1) := by decide +kernel
theorem dX5_crash_84 : decode cX5_crash 84 = .ok (.imul, 1) := by decide +kernel
theorem dX5_crash_85 : decode cX5_crash 85 = .ok (.iload_n 3, 1) := by decide +kernel
theorem dX5_crash_86 : decode cX5_crash 86 = .ok (.iadd, 1) := by decide +kernel
theorem dX5_crash_87 : decode cX5_crash 87 = .ok (.iconst 0, 1) := by decide +kernel
theorem dX5_crash_88 : decode cX5_crash 88 = .ok (.iastore, 1) := by decide +kernel
theorem dX5_crash_89 : decode cX5_crash 89 = .ok (.aload_n 0, 1) := by decide +kernel
theorem dX5_crash_90 : decode cX5_crash 90 = .ok (.getfield 47, 3) := by decide +kernel
theorem dX5_crash_93 : decode cX5_crash 93 = .ok (.iconst 5, 1) := by decide +kernel
theorem dX5_crash_94 : decode cX5_crash 94 = .ok (.iload_n 1, 1) := by decide +kernel
theorem dX5_crash_95 : decode cX5_crash 95 = .ok (.imul, 1) := by decide +kernel
theorem dX5_crash_96 : decode cX5_crash 96 = .ok (.iload_n 3, 1) := by decide +kernel
theorem dX5_crash_97 : decode cX5_crash 97 = .ok (.iadd, 1) := by decide +kernel
theorem dX5_crash_98 : decode cX5_crash 98 = .ok (.iconst 0, 1) := by decide +kernel
theorem dX5_crash_99 : decode cX5_crash 99 = .ok (.bastore, 1) := by decide +kernel
theorem dX5_crash_100 : decode cX5_crash 100 = .ok (.iinc 3 1, 3) := by decide +kernel
theorem dX5_crash_103 : decode cX5_crash 103 = .ok (.goto (-30), 3) := by decide +kernel
theorem dX5_crash_106 : decode cX5_crash 106 = .ok (.iload_n 2, 1) := by decide +kernel
theorem dX5_crash_107 : decode cX5_crash 107 = .ok (.ireturn, 1) := by decide +kernel
set_option maxRecDepth 20000 in
theorem ggX5_recover_X5_isNode : GoodIn wsX5_recover wsX5_isNode := goodIn_r _ [9, 10, 11, 12, 8, 13, 39, 40, 41, 42, 43, 44, 45, 46, 47, 48, 49, 50, 51, 52, 53, 54, 55, 56, 57, 58, 59, 60, 61, 62, 63, 64] (by decide +kernel) (by decide +kernel)
set_option maxRecDepth 20000 in
theorem gX5_recover_X5_isNode : GoodIn wsX5_recover (wsV RX5 145 RX5 yX5_isNode wsX5_isNode) := goodIn_app (goodIn_of _ (by decide +kernel)) ggX5_recover_X5_isNode
set_option maxRecDepth 20000 in
theorem ggX5_recover_X5_in : GoodIn wsX5_recover wsX5_in := goodIn_r _ [13] (by decide +kernel) (by decide +kernel)
set_option maxRecDepth 20000 in
theorem gX5_recover_X5_in : GoodIn wsX5_recover (va_wsS RX5 84 yX5_in wsX5_in) := goodIn_app (goodIn_of _ (by decide +kernel)) ggX5_recover_X5_in
set_option maxRecDepth 20000 in
theorem ggX5_recover_X5_postAll : GoodIn wsX5_recover wsX5_postAll := goodIn_r _ [17, 10, 18, 19, 20, 8, 21, 22, 23, 24, 25, 26, 27, 28, 29, 30, 31, 32, 33, 34, 35, 36, 37, 38, 39, 40, 41, 42, 43, 44, 45, 46, 47, 48, 49, 50, 51, 52, 53, 54, 55, 56, 57, 58, 59, 60, 61, 62, 63, 64] (by decide +kernel) (by decide +kernel)
set_option maxRecDepth 20000 in
theorem gX5_recover_X5_postAll : GoodIn wsX5_recover (wsV RX5 127 RX5 yX5_postAll wsX5_postAll) := goodIn_app (goodIn_of _ (by decide +kernel)) ggX5_recover_X5_postAll
theorem dX5_recover_0 : decode cX5_recover 0 = .ok (.aload_n 0, 1) := by decide +kernel
theorem dX5_recover_1 : decode cX5_recover 1 = .ok (.iload_n 1, 1) := by decide +kernel
theorem dX5_recover_2 : decode cX5_recover 2 = .ok (.invokevirtual 145, 3) := by decide +kernel
theorem dX5_recover_5 : decode cX5_recover 5 = .ok (.ifCond .eq 13, 3) := by decide +kernel
theorem dX5_recover_8 : decode cX5_recover 8 = .ok (.iload_n 2, 1) := by decide +kernel
theorem dX5_recover_9 : decode cX5_recover 9 = .ok (.iconst 0, 1) := by decide +kernel
theorem dX5_recover_10 : decode cX5_recover 10 = .ok (.ldc 148, 2) := by decide +kernel
theorem dX5_recover_12 : decode cX5_recover 12 = .ok (.invokestatic 84, 3) := by decide +kernel
theorem dX5_recover_15 : decode cX5_recover 15 = .ok (.ifCond .ne 6, 3) := by decide +kernel
theorem dX5_recover_18 : decode cX5_recover 18 = .ok (.bipush (-2), 2) := by decide +kernel
theorem dX5_recover_20 : decode cX5_recover 20 = .ok (.ireturn, 1) := by decide +kernel
theorem dX5_recover_21 : decode cX5_recover 21 = .ok (.aload_n 0, 1) := by decide +kernel
theorem dX5_recover_22 : decode cX5_recover 22 = .ok (.getfield 19, 3) := by decide +kernel
theorem dX5_recover_25 : decode cX5_recover 25 = .ok (.iload_n 1, 1) := by decide +kernel
theorem dX5_recover_26 : decode cX5_recover 26 = .ok (.iaload, 1) := by decide +kernel
theorem dX5_recover_27 : decode cX5_recover 27 = .ok (.iconst 3, 1) := by decide +kernel
theorem dX5_recover_28 : decode cX5_recover 28 = .ok (.if_icmp .eq 6, 3) := by decide +kernel
theorem dX5_recover_31 : decode cX5_recover 31 = .ok (.bipush (-3), 2) := by decide +kernel
theorem dX5_recover_33 : decode cX5_recover 33 = .ok (.ireturn, 1) := by decide +kernel
theorem dX5_recover_34 : decode cX5_recover 34 = .ok (.aload_n 0, 1) := by decide +kernel
theorem dX5_recover_35 : decode cX5_recover 35 = .ok (.getfield 19, 3) := by decide +kernel
theorem dX5_recover_38 : decode cX5_recover 38 = .ok (.iload_n 1, 1) := by decide +kernel
theorem dX5_recover_39 : decode cX5_recover 39 = .ok (.iconst 2, 1) := by decide +kernel
theorem dX5_recover_40 : decode cX5_recover 40 = .ok (.iastore, 1) := by decide +kernel
theorem dX5_recover_41 : decode cX5_recover 41 = .ok (.aload_n 0, 1) := by decide +kernel
theorem dX5_recover_42 : decode cX5_recover 42 = .ok (.getfield 32, 3) := by decide +kernel
theorem dX5_recover_45 : decode cX5_recover 45 = .ok (.iload_n 1, 1) := by decide +kernel
theorem dX5_recover_46 : decode cX5_recover 46 = .ok (.iload_n 2, 1) := by decide +kernel
theorem dX5_recover_47 : decode cX5_recover 47 = .ok (.iastore, 1) := by decide +kernel
theorem dX5_recover_48 : decode cX5_recover 48 = .ok (.iconst 0, 1) := by decide +kernel
theorem dX5_recover_49 : decode cX5_recover 49 = .ok (.istore_n 3, 1) := by decide +kernel
theorem dX5_recover_50 : decode cX5_recover 50 = .ok (.iload_n 3, 1) := by decide +kernel
theorem dX5_recover_51 : decode cX5_recover 51 = .ok (.iconst 5, 1) := by decide +kernel
theorem dX5_recover_52 : decode cX5_recover 52 = .ok (.if_icmp .ge 20, 3) := by decide +kernel
theorem dX5_recover_55 : decode cX5_recover 55 = .ok (.aload_n 0, 1) := by decide +kernel
theorem dX5_recover_56 : decode cX5_recover 56 = .ok (.getfield 47, 3) := by decide +kernel
theorem dX5_recover_59 : decode cX5_recover 59 = .ok (.iconst 5, 1) := by decide +kernel
theorem dX5_recover_60 : decode cX5_recover 60 = .ok (.iload_n 1, 1) := by decide +kernel
theorem dX5_recover_61 : decode cX5_recover 61 = .ok (.imul, 1) := by decide +kernel
theorem dX5_recover_62 : decode cX5_recover 62 = .ok (.iload_n 3, 1) := by decide +kernel
theorem dX5_recover_63 : decode cX5_recover 63 = .ok (.iadd, 1) := by decide +kernel
theorem dX5_recover_64 : decode cX5_recover 64 = .ok (.iconst 0, 1) := by decide +kernel
theorem dX5_recover_65 : decode cX5_recover 65 = .ok (.bastore, 1) := by decide +kernel
theorem dX5_recover_66 : decode cX5_recover 66 = .ok (.iinc 3 1, 3) := by decide +kernel
theorem dX5_recover_69 : decode cX5_recover 69 = .ok (.goto (-19), 3) := by decide +kernel
theorem dX5_recover_72 : decode cX5_recover 72 = .ok (.aload_n 0, 1) := by decide +kernel
theorem dX5_recover_73 : decode cX5_recover 73 = .ok (.iload_n 1, 1) := by decide +kernel
theorem dX5_recover_74 : decode cX5_recover 74 = .ok (.bipush 6, 2) := by decide +kernel
theorem dX5_recover_76 : decode cX5_recover 76 = .ok (.iconst 0, 1) := by decide +kernel
theorem dX5_recover_77 : decode cX5_recover 77 = .ok (.iload_n 2, 1) := by decide +kernel
theorem dX5_recover_78 : decode cX5_recover 78 = .ok (.invokevirtual 127, 3) := by decide +kernel
theorem dX5_recover_81 : decode cX5_recover 81 = .ok (.istore_n 3, 1) := by decide +kernel
theorem dX5_recover_82 : decode cX5_recover 82 = .ok (.iconst 1, 1) := by decide +kernel
theorem dX5_recover_83 : decode cX5_recover 83 = .ok (.ireturn, 1) := by decide +kernel
theorem dX5_tales_0 : decode cX5_tales 0 = .ok (.iconst 0, 1) := by decide +kernel
theorem dX5_tales_1 : decode cX5_tales 1 = .ok (.istore_n 2, 1) := by decide +kernel
theorem dX5_tales_2 : decode cX5_tales 2 = .ok (.iconst 0, 1) := by decide +kernel
theorem dX5_tales_3 : decode cX5_tales 3 = .ok (.istore_n 3, 1) := by decide +kernel
theorem dX5_tales_4 : decode cX5_tales 4 = .ok (.iload_n 3, 1) := by decide +kernel
theorem dX5_tales_5 : decode cX5_tales 5 = .ok (.aload_n 0, 1) := by decide +kernel
theorem dX5_tales_6 : decode cX5_tales 6 = .ok (.getfield 77, 3) := by decide +kernel
theorem dX5_tales_9 : decode cX5_tales 9 = .ok (.if_icmp .ge 30, 3) := by decide +kernel
theorem dX5_tales_12 : decode cX5_tales 12 = .ok (.iload_n 2, 1) := by decide +kernel
theorem dX5_tales_13 : decode cX5_tales 13 = .ok (.aload_n 0, 1) := by decide +kernel
theorem dX5_tales_14 : decode cX5_tales 14 = .ok (.getfield 47, 3) := by decide +kernel
theorem dX5_tales_17 : decode cX5_tales 17 = .ok (.iconst 5, 1) := by decide +kernel
theorem dX5_tales_18 : decode cX5_tales 18 = .ok (.iload_n 1, 1) := by decide +kernel
theorem dX5_tales_19 : decode cX5_tales 19 = .ok (.imul, 1) := by decide +kernel
theorem dX5_tales_20 : decode cX5_tales 20 = .ok (.iload_n 3, 1) := by decide +kernel
theorem dX5_tales_21 : decode cX5_tales 21 = .ok (.iadd, 1) := by decide +kernel
theorem dX5_tales_22 : decode cX5_tales 22 = .ok (.baload, 1) := by decide +kernel
theorem dX5_tales_23 : decode cX5_tales 23 = .ok (.ifCond .eq 7, 3) := by decide +kernel
theorem dX5_tales_26 : decode cX5_tales 26 = .ok (.iconst 1, 1) := by decide +kernel
theorem dX5_tales_27 : decode cX5_tales 27 = .ok (.goto 4, 3) := by decide +kernel
theorem dX5_tales_30 : decode cX5_tales 30 = .ok (.iconst 0, 1) := by decide +kernel
theorem dX5_tales_31 : decode cX5_tales 31 = .ok (.iadd, 1) := by decide +kernel
theorem dX5_tales_32 : decode cX5_tales 32 = .ok (.istore_n 2, 1) := by decide +kernel
theorem dX5_tales_33 : decode cX5_tales 33 = .ok (.iinc 3 1, 3) := by decide +kernel
theorem dX5_tales_36 : decode cX5_tales 36 = .ok (.goto (-32), 3) := by decide +kernel
theorem dX5_tales_39 : decode cX5_tales 39 = .ok (.iload_n 2, 1) := by decide +kernel
theorem dX5_tales_40 : decode cX5_tales 40 = .ok (.ireturn, 1) := by decide +kernel
set_option maxRecDepth 20000 in
theorem ggX5_node_X5_isNode : GoodIn wsX5_node wsX5_isNode := goodIn_r _ [11, 12, 13, 14, 10, 15, 31, 32, 33, 34, 35, 36, 37, 38, 39, 40, 41, 42, 43, 44, 45, 46, 47, 48, 49, 50, 51, 52, 53, 54, 55, 56] (by decide +kernel) (by decide +kernel)
set_option maxRecDepth 20000 in
theorem gX5_node_X5_isNode : GoodIn wsX5_node (wsV RX5 145 RX5 yX5_isNode wsX5_isNode) := goodIn_app (goodIn_of _ (by decide +kernel)) ggX5_node_X5_isNode
set_option maxRecDepth 20000 in
theorem ggX5_node_X5_voters : GoodIn wsX5_node wsX5_voters := goodIn_r _ [19, 12, 20, 31, 32, 33, 34, 35, 36, 37, 38, 39, 40, 41, 42, 43, 44, 45, 46, 47, 48, 49, 50, 51, 52, 53, 54, 55, 56] (by decide +kernel) (by decide +kernel)
set_option maxRecDepth 20000 in
theorem gX5_node_X5_voters : GoodIn wsX5_node (wsV RX5 134 RX5 yX5_voters wsX5_voters) := goodIn_app (goodIn_of _ (by decide +kernel)) ggX5_node_X5_voters
set_option maxRecDepth 20000 in
theorem ggX5_node_X5_votes : GoodIn wsX5_node wsX5_votes := goodIn_r _ [24, 12, 25, 31, 32, 33, 34, 35, 36, 37, 38, 39, 40, 41, 42, 43, 44, 45, 46, 47, 48, 49, 50, 51, 52, 53, 54, 55, 56] (by decide +kernel) (by decide +kernel)
set_option maxRecDepth 20000 in
theorem gX5_node_X5_votes : GoodIn wsX5_node (wsV RX5 142 RX5 yX5_votes wsX5_votes) := goodIn_app (goodIn_of _ (by decide +kernel)) ggX5_node_X5_votes
set_option maxRecDepth 20000 in
theorem ggX5_node_X5_tales : GoodIn wsX5_node wsX5_tales := goodIn_r _ [29, 12, 30, 31, 32, 33, 34, 35, 36, 37, 38, 39, 40, 41, 42, 43, 44, 45, 46, 47, 48, 49, 50, 51, 52, 53, 54, 55, 56] (by decide +kernel) (by decide +kernel)
set_option maxRecDepth 20000 in
theorem gX5_node_X5_tales : GoodIn wsX5_node (wsV RX5 174 RX5 yX5_tales wsX5_tales) := goodIn_app (goodIn_of _ (by decide +kernel)) ggX5_node_X5_tales
theorem dX5_node_0 : decode cX5_node 0 = .ok (.aload_n 0, 1) := by decide +kernel
theorem dX5_node_1 : decode cX5_node 1 = .ok (.iload_n 1, 1) := by decide +kernel
theorem dX5_node_2 : decode cX5_node 2 = .ok (.invokevirtual 145, 3) := by decide +kernel
theorem dX5_node_5 : decode cX5_node 5 = .ok (.ifCond .ne 6, 3) := by decide +kernel
theorem dX5_node_8 : decode cX5_node 8 = .ok (.bipush (-2), 2) := by decide +kernel
theorem dX5_node_10 : decode cX5_node 10 = .ok (.ireturn, 1) := by decide +kernel
theorem dX5_node_11 : decode cX5_node 11 = .ok (.aload_n 0, 1) := by decide +kernel
theorem dX5_node_12 : decode cX5_node 12 = .ok (.getfield 19, 3) := by decide +kernel
theorem dX5_node_15 : decode cX5_node 15 = .ok (.iload_n 1, 1) := by decide +kernel
theorem dX5_node_16 : decode cX5_node 16 = .ok (.iaload, 1) := by decide +kernel
theorem dX5_node_17 : decode cX5_node 17 = .ok (.iconst 1, 1) := by decide +kernel
theorem dX5_node_18 : decode cX5_node 18 = .ok (.if_icmp .ne 7, 3) := by decide +kernel
theorem dX5_node_21 : decode cX5_node 21 = .ok (.iconst 1, 1) := by decide +kernel
theorem dX5_node_22 : decode cX5_node 22 = .ok (.goto 4, 3) := by decide +kernel
theorem dX5_node_25 : decode cX5_node 25 = .ok (.iconst 0, 1) := by decide +kernel
theorem dX5_node_26 : decode cX5_node 26 = .ok (.istore_n 3, 1) := by decide +kernel
theorem dX5_node_27 : decode cX5_node 27 = .ok (.iload_n 2, 1) := by decide +kernel
theorem dX5_node_28 : decode cX5_node 28 = .ok (.tableswitch 154 0 8 #[52, 59, 66, 73, 80, 87, 101, 115, 134], 52) := by decide +kernel
theorem dX5_node_80 : decode cX5_node 80 = .ok (.aload_n 0, 1) := by decide +kernel
theorem dX5_node_81 : decode cX5_node 81 = .ok (.getfield 19, 3) := by decide +kernel
theorem dX5_node_84 : decode cX5_node 84 = .ok (.iload_n 1, 1) := by decide +kernel
theorem dX5_node_85 : decode cX5_node 85 = .ok (.iaload, 1) := by decide +kernel
theorem dX5_node_86 : decode cX5_node 86 = .ok (.ireturn, 1) := by decide +kernel
theorem dX5_node_87 : decode cX5_node 87 = .ok (.aload_n 0, 1) := by decide +kernel
theorem dX5_node_88 : decode cX5_node 88 = .ok (.getfield 22, 3) := by decide +kernel
theorem dX5_node_91 : decode cX5_node 91 = .ok (.iload_n 1, 1) := by decide +kernel
theorem dX5_node_92 : decode cX5_node 92 = .ok (.iaload, 1) := by decide +kernel
theorem dX5_node_93 : decode cX5_node 93 = .ok (.ireturn, 1) := by decide +kernel
theorem dX5_node_94 : decode cX5_node 94 = .ok (.aload_n 0, 1) := by decide +kernel
theorem dX5_node_95 : decode cX5_node 95 = .ok (.getfield 25, 3) := by decide +kernel
theorem dX5_node_98 : decode cX5_node 98 = .ok (.iload_n 1, 1) := by decide +kernel
theorem dX5_node_99 : decode cX5_node 99 = .ok (.iaload, 1) := by decide +kernel
theorem dX5_node_100 : decode cX5_node 100 = .ok (.ireturn, 1) := by decide +kernel
theorem dX5_node_101 : decode cX5_node 101 = .ok (.aload_n 0, 1) := by decide +kernel
theorem dX5_node_102 : decode cX5_node 102 = .ok (.getfield 13, 3) := by decide +kernel
theorem dX5_node_105 : decode cX5_node 105 = .ok (.iload_n 1, 1) := by decide +kernel
theorem dX5_node_106 : decode cX5_node 106 = .ok (.iaload, 1) := by decide +kernel
theorem dX5_node_107 : decode cX5_node 107 = .ok (.ireturn, 1) := by decide +kernel
theorem dX5_node_108 : decode cX5_node 108 = .ok (.aload_n 0, 1) := by decide +kernel
theorem dX5_node_109 : decode cX5_node 109 = .ok (.getfield 16, 3) := by decide +kernel
theorem dX5_node_112 : decode cX5_node 112 = .ok (.iload_n 1, 1) := by decide +kernel
theorem dX5_node_113 : decode cX5_node 113 = .ok (.iaload, 1) := by decide +kernel
theorem dX5_node_114 : decode cX5_node 114 = .ok (.ireturn, 1) := by decide +kernel
theorem dX5_node_115 : decode cX5_node 115 = .ok (.iload_n 3, 1) := by decide +kernel
theorem dX5_node_116 : decode cX5_node 116 = .ok (.ifCond .eq 11, 3) := by decide +kernel
theorem dX5_node_119 : decode cX5_node 119 = .ok (.aload_n 0, 1) := by decide +kernel
theorem dX5_node_120 : decode cX5_node 120 = .ok (.iload_n 1, 1) := by decide +kernel
theorem dX5_node_121 : decode cX5_node 121 = .ok (.invokevirtual 134, 3) := by decide +kernel
theorem dX5_node_124 : decode cX5_node 124 = .ok (.goto 4, 3) := by decide +kernel
theorem dX5_node_127 : decode cX5_node 127 = .ok (.iconst 0, 1) := by decide +kernel
theorem dX5_node_128 : decode cX5_node 128 = .ok (.ireturn, 1) := by decide +kernel
theorem dX5_node_129 : decode cX5_node 129 = .ok (.iload_n 3, 1) := by decide +kernel
theorem dX5_node_130 : decode cX5_node 130 = .ok (.ifCond .eq 11, 3) := by decide +kernel
theorem dX5_node_133 : decode cX5_node 133 = .ok (.aload_n 0, 1) := by decide +kernel
theorem dX5_node_134 : decode cX5_node 134 = .ok (.iload_n 1, 1) := by decide +kernel
theorem dX5_node_135 : decode cX5_node 135 = .ok (.invokevirtual 142, 3) := by decide +kernel
theorem dX5_node_138 : decode cX5_node 138 = .ok (.goto 4, 3) := by decide +kernel
theorem dX5_node_141 : decode cX5_node 141 = .ok (.iconst 0, 1) := by decide +kernel
theorem dX5_node_142 : decode cX5_node 142 = .ok (.ireturn, 1) := by decide +kernel
theorem dX5_node_143 : decode cX5_node 143 = .ok (.iload_n 3, 1) := by decide +kernel
theorem dX5_node_144 : decode cX5_node 144 = .ok (.ifCond .eq 16, 3) := by decide +kernel
theorem dX5_node_147 : decode cX5_node 147 = .ok (.aload_n 0, 1) := by decide +kernel
theorem dX5_node_148 : decode cX5_node 148 = .ok (.getfield 28, 3) := by decide +kernel
theorem dX5_node_151 : decode cX5_node 151 = .ok (.iload_n 1, 1) := by decide +kernel
theorem dX5_node_152 : decode cX5_node 152 = .ok (.baload, 1) := by decide +kernel
theorem dX5_node_153 : decode cX5_node 153 = .ok (.ifCond .eq 7, 3) := by decide +kernel
theorem dX5_node_156 : decode cX5_node 156 = .ok (.iconst 1, 1) := by decide +kernel
theorem dX5_node_157 : decode cX5_node 157 = .ok (.goto 4, 3) := by decide +kernel
theorem dX5_node_160 : decode cX5_node 160 = .ok (.iconst 0, 1) := by decide +kernel
theorem dX5_node_161 : decode cX5_node 161 = .ok (.ireturn, 1) := by decide +kernel
theorem dX5_node_162 : decode cX5_node 162 = .ok (.aload_n 0, 1) := by decide +kernel
theorem dX5_node_163 : decode cX5_node 163 = .ok (.getfield 19, 3) := by decide +kernel
theorem dX5_node_166 : decode cX5_node 166 = .ok (.iload_n 1, 1) := by decide +kernel
theorem dX5_node_167 : decode cX5_node 167 = .ok (.iaload, 1) := by decide +kernel
theorem dX5_node_168 : decode cX5_node 168 = .ok (.iconst 2, 1) := by decide +kernel
theorem dX5_node_169 : decode cX5_node 169 = .ok (.if_icmp .ne 11, 3) := by decide +kernel
theorem dX5_node_172 : decode cX5_node 172 = .ok (.aload_n 0, 1) := by decide +kernel
theorem dX5_node_173 : decode cX5_node 173 = .ok (.iload_n 1, 1) := by decide +kernel
theorem dX5_node_174 : decode cX5_node 174 = .ok (.invokevirtual 174, 3) := by decide +kernel
theorem dX5_node_177 : decode cX5_node 177 = .ok (.goto 4, 3) := by decide +kernel
theorem dX5_node_180 : decode cX5_node 180 = .ok (.iconst 0, 1) := by decide +kernel
theorem dX5_node_181 : decode cX5_node 181 = .ok (.ireturn, 1) := by decide +kernel
theorem dX5_node_182 : decode cX5_node 182 = .ok (.bipush (-2), 2) := by decide +kernel
theorem dX5_node_184 : decode cX5_node 184 = .ok (.ireturn, 1) := by decide +kernel
set_option maxRecDepth 20000 in
theorem ggX5_entry_X5_isNode : GoodIn wsX5_entry wsX5_isNode := goodIn_r _ [8, 9, 10, 11, 7, 12, 13, 14, 15, 16, 17, 18, 19, 20, 21, 22, 23, 24, 25, 26, 27, 28, 29, 30, 31, 32, 33, 34, 35, 36, 37, 38] (by decide +kernel) (by decide +kernel)
set_option maxRecDepth 20000 in
theorem gX5_entry_X5_isNode : GoodIn wsX5_entry (wsV RX5 145 RX5 yX5_isNode wsX5_isNode) := goodIn_app (goodIn_of _ (by decide +kernel)) ggX5_entry_X5_isNode
set_option maxRecDepth 20000 in
theorem ggX5_entry_X5_in : GoodIn wsX5_entry wsX5_in := goodIn_r _ [12] (by decide +kernel) (by decide +kernel)
set_option maxRecDepth 20000 in
theorem gX5_entry_X5_in : GoodIn wsX5_entry (va_wsS RX5 84 yX5_in wsX5_in) := goodIn_app (goodIn_of _ (by decide +kernel)) ggX5_entry_X5_in
theorem dX5_entry_0 : decode cX5_entry 0 = .ok (.aload_n 0, 1) := by decide +kernel
theorem dX5_entry_1 : decode cX5_entry 1 = .ok (.iload_n 1, 1) := by decide +kernel
theorem dX5_entry_2 : decode cX5_entry 2 = .ok (.invokevirtual 145, 3) := by decide +kernel
theorem dX5_entry_5 : decode cX5_entry 5 = .ok (.ifCond .eq 26, 3) := by decide +kernel
theorem dX5_entry_8 : decode cX5_entry 8 = .ok (.iload_n 2, 1) := by decide +kernel
theorem dX5_entry_9 : decode cX5_entry 9 = .ok (.iconst 1, 1) := by decide +kernel
theorem dX5_entry_10 : decode cX5_entry 10 = .ok (.aload_n 0, 1) := by decide +kernel
theorem dX5_entry_11 : decode cX5_entry 11 = .ok (.getfield 13, 3) := by decide +kernel
theorem dX5_entry_14 : decode cX5_entry 14 = .ok (.iload_n 1, 1) := by decide +kernel
theorem dX5_entry_15 : decode cX5_entry 15 = .ok (.iaload, 1) := by decide +kernel
theorem dX5_entry_16 : decode cX5_entry 16 = .ok (.invokestatic 84, 3) := by decide +kernel
theorem dX5_entry_19 : decode cX5_entry 19 = .ok (.ifCond .eq 12, 3) := by decide +kernel
theorem dX5_entry_22 : decode cX5_entry 22 = .ok (.iload_n 3, 1) := by decide +kernel
theorem dX5_entry_23 : decode cX5_entry 23 = .ok (.iconst 0, 1) := by decide +kernel
theorem dX5_entry_24 : decode cX5_entry 24 = .ok (.iconst 5, 1) := by decide +kernel
theorem dX5_entry_25 : decode cX5_entry 25 = .ok (.invokestatic 84, 3) := by decide +kernel
theorem dX5_entry_28 : decode cX5_entry 28 = .ok (.ifCond .ne 6, 3) := by decide +kernel
theorem dX5_entry_31 : decode cX5_entry 31 = .ok (.ldc 177, 2) := by decide +kernel
theorem dX5_entry_33 : decode cX5_entry 33 = .ok (.ireturn, 1) := by decide +kernel
theorem dX5_entry_34 : decode cX5_entry 34 = .ok (.aload_n 0, 1) := by decide +kernel
theorem dX5_entry_35 : decode cX5_entry 35 = .ok (.getfield 7, 3) := by decide +kernel
theorem dX5_entry_38 : decode cX5_entry 38 = .ok (.bipush 96, 2) := by decide +kernel
theorem dX5_entry_40 : decode cX5_entry 40 = .ok (.iload_n 1, 1) := by decide +kernel
theorem dX5_entry_41 : decode cX5_entry 41 = .ok (.imul, 1) := by decide +kernel
theorem dX5_entry_42 : decode cX5_entry 42 = .ok (.bipush 6, 2) := by decide +kernel
theorem dX5_entry_44 : decode cX5_entry 44 = .ok (.iload_n 2, 1) := by decide +kernel
theorem dX5_entry_45 : decode cX5_entry 45 = .ok (.imul, 1) := by decide +kernel
theorem dX5_entry_46 : decode cX5_entry 46 = .ok (.iadd, 1) := by decide +kernel
theorem dX5_entry_47 : decode cX5_entry 47 = .ok (.bipush 6, 2) := by decide +kernel
theorem dX5_entry_49 : decode cX5_entry 49 = .ok (.isub, 1) := by decide +kernel
theorem dX5_entry_50 : decode cX5_entry 50 = .ok (.iload_n 3, 1) := by decide +kernel
theorem dX5_entry_51 : decode cX5_entry 51 = .ok (.iadd, 1) := by decide +kernel
theorem dX5_entry_52 : decode cX5_entry 52 = .ok (.iaload, 1) := by decide +kernel
theorem dX5_entry_53 : decode cX5_entry 53 = .ok (.ireturn, 1) := by decide +kernel
set_option maxRecDepth 20000 in
theorem ggX5_register_X5_isNode : GoodIn wsX5_register wsX5_isNode := goodIn_r _ [9, 10, 11, 12, 8, 13, 14, 15, 16, 17, 18, 19, 20, 21, 22, 23, 24, 25, 26, 27, 28, 29, 30, 31, 32, 33, 34, 35, 36, 37, 38, 39] (by decide +kernel) (by decide +kernel)
set_option maxRecDepth 20000 in
theorem gX5_register_X5_isNode : GoodIn wsX5_register (wsV RX5 145 RX5 yX5_isNode wsX5_isNode) := goodIn_app (goodIn_of _ (by decide +kernel)) ggX5_register_X5_isNode
set_option maxRecDepth 20000 in
theorem ggX5_register_X5_in : GoodIn wsX5_register wsX5_in := goodIn_r _ [13] (by decide +kernel) (by decide +kernel)
set_option maxRecDepth 20000 in
theorem gX5_register_X5_in : GoodIn wsX5_register (va_wsS RX5 84 yX5_in wsX5_in) := goodIn_app (goodIn_of _ (by decide +kernel)) ggX5_register_X5_in
theorem dX5_register_0 : decode cX5_register 0 = .ok (.aload_n 0, 1) := by decide +kernel
theorem dX5_register_1 : decode cX5_register 1 = .ok (.iload_n 1, 1) := by decide +kernel
theorem dX5_register_2 : decode cX5_register 2 = .ok (.invokevirtual 145, 3) := by decide +kernel
theorem dX5_register_5 : decode cX5_register 5 = .ok (.ifCond .eq 13, 3) := by decide +kernel
theorem dX5_register_8 : decode cX5_register 8 = .ok (.iload_n 2, 1) := by decide +kernel
theorem dX5_register_9 : decode cX5_register 9 = .ok (.iconst 0, 1) := by decide +kernel
theorem dX5_register_10 : decode cX5_register 10 = .ok (.bipush 7, 2) := by decide +kernel
theorem dX5_register_12 : decode cX5_register 12 = .ok (.invokestatic 84, 3) := by decide +kernel
theorem dX5_register_15 : decode cX5_register 15 = .ok (.ifCond .ne 6, 3) := by decide +kernel
theorem dX5_register_18 : decode cX5_register 18 = .ok (.ldc 177, 2) := by decide +kernel
theorem dX5_register_20 : decode cX5_register 20 = .ok (.ireturn, 1) := by decide +kernel
theorem dX5_register_21 : decode cX5_register 21 = .ok (.iconst 0, 1) := by decide +kernel
theorem dX5_register_22 : decode cX5_register 22 = .ok (.istore_n 3, 1) := by decide +kernel
theorem dX5_register_23 : decode cX5_register 23 = .ok (.iload_n 3, 1) := by decide +kernel
theorem dX5_register_24 : decode cX5_register 24 = .ok (.bipush 8, 2) := by decide +kernel
theorem dX5_register_26 : decode cX5_register 26 = .ok (.if_icmp .ge 16, 3) := by decide +kernel
theorem dX5_register_29 : decode cX5_register 29 = .ok (.aload_n 0, 1) := by decide +kernel
theorem dX5_register_30 : decode cX5_register 30 = .ok (.getfield 74, 3) := by decide +kernel
theorem dX5_register_33 : decode cX5_register 33 = .ok (.iload_n 3, 1) := by decide +kernel
theorem dX5_register_34 : decode cX5_register 34 = .ok (.iconst 0, 1) := by decide +kernel
theorem dX5_register_35 : decode cX5_register 35 = .ok (.iastore, 1) := by decide +kernel
theorem dX5_register_36 : decode cX5_register 36 = .ok (.iinc 3 1, 3) := by decide +kernel
theorem dX5_register_39 : decode cX5_register 39 = .ok (.goto (-16), 3) := by decide +kernel
theorem dX5_register_42 : decode cX5_register 42 = .ok (.iconst 0, 1) := by decide +kernel
theorem dX5_register_43 : decode cX5_register 43 = .ok (.istore_n 3, 1) := by decide +kernel
theorem dX5_register_44 : decode cX5_register 44 = .ok (.iload_n 3, 1) := by decide +kernel
theorem dX5_register_45 : decode cX5_register 45 = .ok (.aload_n 0, 1) := by decide +kernel
theorem dX5_register_46 : decode cX5_register 46 = .ok (.getfield 16, 3) := by decide +kernel
theorem dX5_register_49 : decode cX5_register 49 = .ok (.iload_n 1, 1) := by decide +kernel
theorem dX5_register_50 : decode cX5_register 50 = .ok (.iaload, 1) := by decide +kernel
theorem dX5_register_51 : decode cX5_register 51 = .ok (.if_icmp .ge 141, 3) := by decide +kernel
theorem dX5_register_54 : decode cX5_register 54 = .ok (.bipush 96, 2) := by decide +kernel
theorem dX5_register_56 : decode cX5_register 56 = .ok (.iload_n 1, 1) := by decide +kernel
theorem dX5_register_57 : decode cX5_register 57 = .ok (.imul, 1) := by decide +kernel
theorem dX5_register_58 : decode cX5_register 58 = .ok (.bipush 6, 2) := by decide +kernel
theorem dX5_register_60 : decode cX5_register 60 = .ok (.iload_n 3, 1) := by decide +kernel
theorem dX5_register_61 : decode cX5_register 61 = .ok (.imul, 1) := by decide +kernel
theorem dX5_register_62 : decode cX5_register 62 = .ok (.iadd, 1) := by decide +kernel
theorem dX5_register_63 : decode cX5_register 63 = .ok (.istore 4, 2) := by decide +kernel
theorem dX5_register_65 : decode cX5_register 65 = .ok (.aload_n 0, 1) := by decide +kernel
theorem dX5_register_66 : decode cX5_register 66 = .ok (.getfield 7, 3) := by decide +kernel
theorem dX5_register_69 : decode cX5_register 69 = .ok (.iload 4, 2) := by decide +kernel
theorem dX5_register_71 : decode cX5_register 71 = .ok (.iconst 3, 1) := by decide +kernel
theorem dX5_register_72 : decode cX5_register 72 = .ok (.iadd, 1) := by decide +kernel
theorem dX5_register_73 : decode cX5_register 73 = .ok (.iaload, 1) := by decide +kernel
theorem dX5_register_74 : decode cX5_register 74 = .ok (.istore 5, 2) := by decide +kernel
theorem dX5_register_76 : decode cX5_register 76 = .ok (.aload_n 0, 1) := by decide +kernel
theorem dX5_register_77 : decode cX5_register 77 = .ok (.getfield 7, 3) := by decide +kernel
theorem dX5_register_80 : decode cX5_register 80 = .ok (.iload 4, 2) := by decide +kernel
theorem dX5_register_82 : decode cX5_register 82 = .ok (.iconst 4, 1) := by decide +kernel
theorem dX5_register_83 : decode cX5_register 83 = .ok (.iadd, 1) := by decide +kernel
theorem dX5_register_84 : decode cX5_register 84 = .ok (.iaload, 1) := by decide +kernel
theorem dX5_register_85 : decode cX5_register 85 = .ok (.istore 6, 2) := by decide +kernel
theorem dX5_register_87 : decode cX5_register 87 = .ok (.aload_n 0, 1) := by decide +kernel
theorem dX5_register_88 : decode cX5_register 88 = .ok (.getfield 7, 3) := by decide +kernel
theorem dX5_register_91 : decode cX5_register 91 = .ok (.iload 4, 2) := by decide +kernel
theorem dX5_register_93 : decode cX5_register 93 = .ok (.iconst 5, 1) := by decide +kernel
theorem dX5_register_94 : decode cX5_register 94 = .ok (.iadd, 1) := by decide +kernel
theorem dX5_register_95 : decode cX5_register 95 = .ok (.iaload, 1) := by decide +kernel
theorem dX5_register_96 : decode cX5_register 96 = .ok (.istore 7, 2) := by decide +kernel
theorem dX5_register_98 : decode cX5_register 98 = .ok (.aload_n 0, 1) := by decide +kernel
theorem dX5_register_99 : decode cX5_register 99 = .ok (.getfield 7, 3) := by decide +kernel
theorem dX5_register_102 : decode cX5_register 102 = .ok (.iload 4, 2) := by decide +kernel
theorem dX5_register_104 : decode cX5_register 104 = .ok (.iconst 2, 1) := by decide +kernel
theorem dX5_register_105 : decode cX5_register 105 = .ok (.iadd, 1) := by decide +kernel
theorem dX5_register_106 : decode cX5_register 106 = .ok (.iaload, 1) := by decide +kernel
theorem dX5_register_107 : decode cX5_register 107 = .ok (.ifCond .ne 15, 3) := by decide +kernel
theorem dX5_register_110 : decode cX5_register 110 = .ok (.aload_n 0, 1) := by decide +kernel
theorem dX5_register_111 : decode cX5_register 111 = .ok (.getfield 74, 3) := by decide +kernel
theorem dX5_register_114 : decode cX5_register 114 = .ok (.iload 5, 2) := by decide +kernel
theorem dX5_register_116 : decode cX5_register 116 = .ok (.iload 7, 2) := by decide +kernel
theorem dX5_register_118 : decode cX5_register 118 = .ok (.iastore, 1) := by decide +kernel
theorem dX5_register_119 : decode cX5_register 119 = .ok (.goto 67, 3) := by decide +kernel
theorem dX5_register_122 : decode cX5_register 122 = .ok (.aload_n 0, 1) := by decide +kernel
theorem dX5_register_123 : decode cX5_register 123 = .ok (.getfield 7, 3) := by decide +kernel
theorem dX5_register_126 : decode cX5_register 126 = .ok (.iload 4, 2) := by decide +kernel
theorem dX5_register_128 : decode cX5_register 128 = .ok (.iconst 2, 1) := by decide +kernel
theorem dX5_register_129 : decode cX5_register 129 = .ok (.iadd, 1) := by decide +kernel
theorem dX5_register_130 : decode cX5_register 130 = .ok (.iaload, 1) := by decide +kernel
theorem dX5_register_131 : decode cX5_register 131 = .ok (.iconst 1, 1) := by decide +kernel
theorem dX5_register_132 : decode cX5_register 132 = .ok (.if_icmp .ne 18, 3) := by decide +kernel
theorem dX5_register_135 : decode cX5_register 135 = .ok (.aload_n 0, 1) := by decide +kernel
theorem dX5_register_136 : decode cX5_register 136 = .ok (.getfield 74, 3) := by decide +kernel
theorem dX5_register_139 : decode cX5_register 139 = .ok (.iload 5, 2) := by decide +kernel
theorem dX5_register_141 : decode cX5_register 141 = .ok (.dup2, 1) := by decide +kernel
theorem dX5_register_142 : decode cX5_register 142 = .ok (.iaload, 1) := by decide +kernel
theorem dX5_register_143 : decode cX5_register 143 = .ok (.iload 7, 2) := by decide +kernel
theorem dX5_register_145 : decode cX5_register 145 = .ok (.iadd, 1) := by decide +kernel
theorem dX5_register_146 : decode cX5_register 146 = .ok (.iastore, 1) := by decide +kernel
theorem dX5_register_147 : decode cX5_register 147 = .ok (.goto 39, 3) := by decide +kernel
theorem dX5_register_150 : decode cX5_register 150 = .ok (.aload_n 0, 1) := by decide +kernel
theorem dX5_register_151 : decode cX5_register 151 = .ok (.getfield 74, 3) := by decide +kernel
theorem dX5_register_154 : decode cX5_register 154 = .ok (.iload 5, 2) := by decide +kernel
theorem dX5_register_156 : decode cX5_register 156 = .ok (.iaload, 1) := by decide +kernel
theorem dX5_register_157 : decode cX5_register 157 = .ok (.iload 7, 2) := by decide +kernel
theorem dX5_register_159 : decode cX5_register 159 = .ok (.if_icmp .lt 27, 3) := by decide +kernel
theorem dX5_register_162 : decode cX5_register 162 = .ok (.aload_n 0, 1) := by decide +kernel
theorem dX5_register_163 : decode cX5_register 163 = .ok (.getfield 74, 3) := by decide +kernel
theorem dX5_register_166 : decode cX5_register 166 = .ok (.iload 5, 2) := by decide +kernel
theorem dX5_register_168 : decode cX5_register 168 = .ok (.dup2, 1) := by decide +kernel
theorem dX5_register_169 : decode cX5_register 169 = .ok (.iaload, 1) := by decide +kernel
theorem dX5_register_170 : decode cX5_register 170 = .ok (.iload 7, 2) := by decide +kernel
theorem dX5_register_172 : decode cX5_register 172 = .ok (.isub, 1) := by decide +kernel
theorem dX5_register_173 : decode cX5_register 173 = .ok (.iastore, 1) := by decide +kernel
theorem dX5_register_174 : decode cX5_register 174 = .ok (.aload_n 0, 1) := by decide +kernel
theorem dX5_register_175 : decode cX5_register 175 = .ok (.getfield 74, 3) := by decide +kernel
theorem dX5_register_178 : decode cX5_register 178 = .ok (.iload 6, 2) := by decide +kernel
theorem dX5_register_180 : decode cX5_register 180 = .ok (.dup2, 1) := by decide +kernel
theorem dX5_register_181 : decode cX5_register 181 = .ok (.iaload, 1) := by decide +kernel
theorem dX5_register_182 : decode cX5_register 182 = .ok (.iload 7, 2) := by decide +kernel
theorem dX5_register_184 : decode cX5_register 184 = .ok (.iadd, 1) := by decide +kernel
theorem dX5_register_185 : decode cX5_register 185 = .ok (.iastore, 1) := by decide +kernel
theorem dX5_register_186 : decode cX5_register 186 = .ok (.iinc 3 1, 3) := by decide +kernel
theorem dX5_register_189 : decode cX5_register 189 = .ok (.goto (-145), 3) := by decide +kernel
theorem dX5_register_192 : decode cX5_register 192 = .ok (.aload_n 0, 1) := by decide +kernel
theorem dX5_register_193 : decode cX5_register 193 = .ok (.getfield 74, 3) := by decide +kernel
theorem dX5_register_196 : decode cX5_register 196 = .ok (.iload_n 2, 1) := by decide +kernel
theorem dX5_register_197 : decode cX5_register 197 = .ok (.iaload, 1) := by decide +kernel
theorem dX5_register_198 : decode cX5_register 198 = .ok (.ireturn, 1) := by decide +kernel
set_option maxRecDepth 20000 in
theorem ggX5_known_X5_isNode : GoodIn wsX5_known wsX5_isNode := goodIn_r _ [7, 8, 9, 10, 6, 11, 17, 18, 19, 20, 21, 22, 23, 24, 25, 26, 27, 28, 29, 30, 31, 32, 33, 34, 35, 36, 37, 38, 39, 40, 41, 42] (by decide +kernel) (by decide +kernel)
set_option maxRecDepth 20000 in
theorem gX5_known_X5_isNode : GoodIn wsX5_known (wsV RX5 145 RX5 yX5_isNode wsX5_isNode) := goodIn_app (goodIn_of _ (by decide +kernel)) ggX5_known_X5_isNode
set_option maxRecDepth 20000 in
theorem ggX5_known_X5_isFirst : GoodIn wsX5_known wsX5_isFirst := goodIn_r _ [15, 16, 8, 17, 18, 19, 20, 21, 22, 23, 24, 25, 26, 27, 28, 29, 30, 31, 32, 33, 34, 35, 36, 37, 38, 39, 40, 41, 42] (by decide +kernel) (by decide +kernel)
set_option maxRecDepth 20000 in
theorem gX5_known_X5_isFirst : GoodIn wsX5_known (wsV RX5 121 RX5 yX5_isFirst wsX5_isFirst) := goodIn_app (goodIn_of _ (by decide +kernel)) ggX5_known_X5_isFirst
theorem dX5_known_0 : decode cX5_known 0 = .ok (.aload_n 0, 1) := by decide +kernel
theorem dX5_known_1 : decode cX5_known 1 = .ok (.iload_n 1, 1) := by decide +kernel
theorem dX5_known_2 : decode cX5_known 2 = .ok (.invokevirtual 145, 3) := by decide +kernel
theorem dX5_known_5 : decode cX5_known 5 = .ok (.ifCond .eq 16, 3) := by decide +kernel
theorem dX5_known_8 : decode cX5_known 8 = .ok (.aload_n 0, 1) := by decide +kernel
theorem dX5_known_9 : decode cX5_known 9 = .ok (.iload_n 2, 1) := by decide +kernel
theorem dX5_known_10 : decode cX5_known 10 = .ok (.invokevirtual 145, 3) := by decide +kernel
theorem dX5_known_13 : decode cX5_known 13 = .ok (.ifCond .eq 8, 3) := by decide +kernel
theorem dX5_known_16 : decode cX5_known 16 = .ok (.iload_n 1, 1) := by decide +kernel
theorem dX5_known_17 : decode cX5_known 17 = .ok (.iload_n 2, 1) := by decide +kernel
theorem dX5_known_18 : decode cX5_known 18 = .ok (.if_icmp .ne 6, 3) := by decide +kernel
theorem dX5_known_21 : decode cX5_known 21 = .ok (.bipush (-2), 2) := by decide +kernel
theorem dX5_known_23 : decode cX5_known 23 = .ok (.ireturn, 1) := by decide +kernel
theorem dX5_known_24 : decode cX5_known 24 = .ok (.aload_n 0, 1) := by decide +kernel
theorem dX5_known_25 : decode cX5_known 25 = .ok (.getfield 19, 3) := by decide +kernel
theorem dX5_known_28 : decode cX5_known 28 = .ok (.iload_n 1, 1) := by decide +kernel
theorem dX5_known_29 : decode cX5_known 29 = .ok (.iaload, 1) := by decide +kernel
theorem dX5_known_30 : decode cX5_known 30 = .ok (.ifCond .ne 24, 3) := by decide +kernel
theorem dX5_known_33 : decode cX5_known 33 = .ok (.aload_n 0, 1) := by decide +kernel
theorem dX5_known_34 : decode cX5_known 34 = .ok (.iload_n 1, 1) := by decide +kernel
theorem dX5_known_35 : decode cX5_known 35 = .ok (.invokevirtual 121, 3) := by decide +kernel
theorem dX5_known_38 : decode cX5_known 38 = .ok (.ifCond .eq 16, 3) := by decide +kernel
theorem dX5_known_41 : decode cX5_known 41 = .ok (.aload_n 0, 1) := by decide +kernel
theorem dX5_known_42 : decode cX5_known 42 = .ok (.getfield 35, 3) := by decide +kernel
theorem dX5_known_45 : decode cX5_known 45 = .ok (.iconst 5, 1) := by decide +kernel
theorem dX5_known_46 : decode cX5_known 46 = .ok (.iload_n 1, 1) := by decide +kernel
theorem dX5_known_47 : decode cX5_known 47 = .ok (.imul, 1) := by decide +kernel
theorem dX5_known_48 : decode cX5_known 48 = .ok (.iload_n 2, 1) := by decide +kernel
theorem dX5_known_49 : decode cX5_known 49 = .ok (.iadd, 1) := by decide +kernel
theorem dX5_known_50 : decode cX5_known 50 = .ok (.iaload, 1) := by decide +kernel
theorem dX5_known_51 : decode cX5_known 51 = .ok (.goto 5, 3) := by decide +kernel
theorem dX5_known_54 : decode cX5_known 54 = .ok (.bipush (-3), 2) := by decide +kernel
theorem dX5_known_56 : decode cX5_known 56 = .ok (.ireturn, 1) := by decide +kernel
set_option maxRecDepth 20000 in
theorem ggX5_letter_X5_in : GoodIn wsX5_letter wsX5_in := goodIn_r _ [13] (by decide +kernel) (by decide +kernel)
set_option maxRecDepth 20000 in
theorem gX5_letter_X5_in : GoodIn wsX5_letter (va_wsS RX5 84 yX5_in wsX5_in) := goodIn_app (goodIn_of _ (by decide +kernel)) ggX5_letter_X5_in
set_option maxRecDepth 20000 in
theorem ggX5_letter_X5_hasLog : GoodIn wsX5_letter wsX5_hasLog := goodIn_r _ [16] (by decide +kernel) (by decide +kernel)
set_option maxRecDepth 20000 in
theorem gX5_letter_X5_hasLog : GoodIn wsX5_letter (va_wsS RX5 94 yX5_hasLog wsX5_hasLog) := goodIn_app (goodIn_of _ (by decide +kernel)) ggX5_letter_X5_hasLog
theorem dX5_letter_0 : decode cX5_letter 0 = .ok (.iload_n 1, 1) := by decide +kernel
theorem dX5_letter_1 : decode cX5_letter 1 = .ok (.iconst 0, 1) := by decide +kernel
theorem dX5_letter_2 : decode cX5_letter 2 = .ok (.aload_n 0, 1) := by decide +kernel
theorem dX5_letter_3 : decode cX5_letter 3 = .ok (.getfield 88, 3) := by decide +kernel
theorem dX5_letter_6 : decode cX5_letter 6 = .ok (.iconst 1, 1) := by decide +kernel
theorem dX5_letter_7 : decode cX5_letter 7 = .ok (.isub, 1) := by decide +kernel
theorem dX5_letter_8 : decode cX5_letter 8 = .ok (.invokestatic 84, 3) := by decide +kernel
theorem dX5_letter_11 : decode cX5_letter 11 = .ok (.ifCond .ne 6, 3) := by decide +kernel
theorem dX5_letter_14 : decode cX5_letter 14 = .ok (.bipush (-2), 2) := by decide +kernel
theorem dX5_letter_16 : decode cX5_letter 16 = .ok (.ireturn, 1) := by decide +kernel
theorem dX5_letter_17 : decode cX5_letter 17 = .ok (.aload_n 0, 1) := by decide +kernel
theorem dX5_letter_18 : decode cX5_letter 18 = .ok (.getfield 62, 3) := by decide +kernel
theorem dX5_letter_21 : decode cX5_letter 21 = .ok (.iload_n 1, 1) := by decide +kernel
theorem dX5_letter_22 : decode cX5_letter 22 = .ok (.iaload, 1) := by decide +kernel
theorem dX5_letter_23 : decode cX5_letter 23 = .ok (.invokestatic 94, 3) := by decide +kernel
theorem dX5_letter_26 : decode cX5_letter 26 = .ok (.istore_n 3, 1) := by decide +kernel
theorem dX5_letter_27 : decode cX5_letter 27 = .ok (.iload_n 2, 1) := by decide +kernel
theorem dX5_letter_28 : decode cX5_letter 28 = .ok (.tableswitch 134 0 7 #[48, 55, 62, 69, 76, 94, 112, 119], 48) := by decide +kernel
theorem dX5_letter_76 : decode cX5_letter 76 = .ok (.aload_n 0, 1) := by decide +kernel
theorem dX5_letter_77 : decode cX5_letter 77 = .ok (.getfield 56, 3) := by decide +kernel
theorem dX5_letter_80 : decode cX5_letter 80 = .ok (.iload_n 1, 1) := by decide +kernel
theorem dX5_letter_81 : decode cX5_letter 81 = .ok (.iaload, 1) := by decide +kernel
theorem dX5_letter_82 : decode cX5_letter 82 = .ok (.ireturn, 1) := by decide +kernel
theorem dX5_letter_83 : decode cX5_letter 83 = .ok (.aload_n 0, 1) := by decide +kernel
theorem dX5_letter_84 : decode cX5_letter 84 = .ok (.getfield 59, 3) := by decide +kernel
theorem dX5_letter_87 : decode cX5_letter 87 = .ok (.iload_n 1, 1) := by decide +kernel
theorem dX5_letter_88 : decode cX5_letter 88 = .ok (.iaload, 1) := by decide +kernel
theorem dX5_letter_89 : decode cX5_letter 89 = .ok (.ireturn, 1) := by decide +kernel
theorem dX5_letter_90 : decode cX5_letter 90 = .ok (.aload_n 0, 1) := by decide +kernel
theorem dX5_letter_91 : decode cX5_letter 91 = .ok (.getfield 62, 3) := by decide +kernel
theorem dX5_letter_94 : decode cX5_letter 94 = .ok (.iload_n 1, 1) := by decide +kernel
theorem dX5_letter_95 : decode cX5_letter 95 = .ok (.iaload, 1) := by decide +kernel
theorem dX5_letter_96 : decode cX5_letter 96 = .ok (.ireturn, 1) := by decide +kernel
theorem dX5_letter_97 : decode cX5_letter 97 = .ok (.aload_n 0, 1) := by decide +kernel
theorem dX5_letter_98 : decode cX5_letter 98 = .ok (.getfield 65, 3) := by decide +kernel
theorem dX5_letter_101 : decode cX5_letter 101 = .ok (.iload_n 1, 1) := by decide +kernel
theorem dX5_letter_102 : decode cX5_letter 102 = .ok (.iaload, 1) := by decide +kernel
theorem dX5_letter_103 : decode cX5_letter 103 = .ok (.ireturn, 1) := by decide +kernel
theorem dX5_letter_104 : decode cX5_letter 104 = .ok (.iload_n 3, 1) := by decide +kernel
theorem dX5_letter_105 : decode cX5_letter 105 = .ok (.ifCond .eq 15, 3) := by decide +kernel
theorem dX5_letter_108 : decode cX5_letter 108 = .ok (.aload_n 0, 1) := by decide +kernel
theorem dX5_letter_109 : decode cX5_letter 109 = .ok (.getfield 13, 3) := by decide +kernel
theorem dX5_letter_112 : decode cX5_letter 112 = .ok (.bipush 55, 2) := by decide +kernel
theorem dX5_letter_114 : decode cX5_letter 114 = .ok (.iload_n 1, 1) := by decide +kernel
theorem dX5_letter_115 : decode cX5_letter 115 = .ok (.iadd, 1) := by decide +kernel
theorem dX5_letter_116 : decode cX5_letter 116 = .ok (.iaload, 1) := by decide +kernel
theorem dX5_letter_117 : decode cX5_letter 117 = .ok (.goto 4, 3) := by decide +kernel
theorem dX5_letter_120 : decode cX5_letter 120 = .ok (.iconst 0, 1) := by decide +kernel
theorem dX5_letter_121 : decode cX5_letter 121 = .ok (.ireturn, 1) := by decide +kernel
theorem dX5_letter_122 : decode cX5_letter 122 = .ok (.iload_n 3, 1) := by decide +kernel
theorem dX5_letter_123 : decode cX5_letter 123 = .ok (.ifCond .eq 15, 3) := by decide +kernel
theorem dX5_letter_126 : decode cX5_letter 126 = .ok (.aload_n 0, 1) := by decide +kernel
theorem dX5_letter_127 : decode cX5_letter 127 = .ok (.getfield 16, 3) := by decide +kernel
theorem dX5_letter_130 : decode cX5_letter 130 = .ok (.bipush 55, 2) := by decide +kernel
theorem dX5_letter_132 : decode cX5_letter 132 = .ok (.iload_n 1, 1) := by decide +kernel
theorem dX5_letter_133 : decode cX5_letter 133 = .ok (.iadd, 1) := by decide +kernel
theorem dX5_letter_134 : decode cX5_letter 134 = .ok (.iaload, 1) := by decide +kernel
theorem dX5_letter_135 : decode cX5_letter 135 = .ok (.goto 4, 3) := by decide +kernel
theorem dX5_letter_138 : decode cX5_letter 138 = .ok (.iconst 0, 1) := by decide +kernel
theorem dX5_letter_139 : decode cX5_letter 139 = .ok (.ireturn, 1) := by decide +kernel
theorem dX5_letter_140 : decode cX5_letter 140 = .ok (.aload_n 0, 1) := by decide +kernel
theorem dX5_letter_141 : decode cX5_letter 141 = .ok (.getfield 68, 3) := by decide +kernel
theorem dX5_letter_144 : decode cX5_letter 144 = .ok (.iload_n 1, 1) := by decide +kernel
theorem dX5_letter_145 : decode cX5_letter 145 = .ok (.iaload, 1) := by decide +kernel
theorem dX5_letter_146 : decode cX5_letter 146 = .ok (.ireturn, 1) := by decide +kernel
theorem dX5_letter_147 : decode cX5_letter 147 = .ok (.aload_n 0, 1) := by decide +kernel
theorem dX5_letter_148 : decode cX5_letter 148 = .ok (.getfield 71, 3) := by decide +kernel
theorem dX5_letter_151 : decode cX5_letter 151 = .ok (.iload_n 1, 1) := by decide +kernel
theorem dX5_letter_152 : decode cX5_letter 152 = .ok (.baload, 1) := by decide +kernel
theorem dX5_letter_153 : decode cX5_letter 153 = .ok (.ifCond .eq 7, 3) := by decide +kernel
theorem dX5_letter_156 : decode cX5_letter 156 = .ok (.iconst 1, 1) := by decide +kernel
theorem dX5_letter_157 : decode cX5_letter 157 = .ok (.goto 4, 3) := by decide +kernel
theorem dX5_letter_160 : decode cX5_letter 160 = .ok (.iconst 0, 1) := by decide +kernel
theorem dX5_letter_161 : decode cX5_letter 161 = .ok (.ireturn, 1) := by decide +kernel
theorem dX5_letter_162 : decode cX5_letter 162 = .ok (.bipush (-2), 2) := by decide +kernel
theorem dX5_letter_164 : decode cX5_letter 164 = .ok (.ireturn, 1) := by decide +kernel
theorem dX5_count_0 : decode cX5_count 0 = .ok (.iconst 0, 1) := by decide +kernel
theorem dX5_count_1 : decode cX5_count 1 = .ok (.istore_n 2, 1) := by decide +kernel
theorem dX5_count_2 : decode cX5_count 2 = .ok (.iload_n 1, 1) := by decide +kernel
theorem dX5_count_3 : decode cX5_count 3 = .ok (.tableswitch 173 0 4 #[33, 38, 73, 78, 138], 33) := by decide +kernel
theorem dX5_count_36 : decode cX5_count 36 = .ok (.aload_n 0, 1) := by decide +kernel
theorem dX5_count_37 : decode cX5_count 37 = .ok (.getfield 88, 3) := by decide +kernel
theorem dX5_count_40 : decode cX5_count 40 = .ok (.ireturn, 1) := by decide +kernel
theorem dX5_count_41 : decode cX5_count 41 = .ok (.iconst 0, 1) := by decide +kernel
theorem dX5_count_42 : decode cX5_count 42 = .ok (.istore_n 3, 1) := by decide +kernel
theorem dX5_count_43 : decode cX5_count 43 = .ok (.iload_n 3, 1) := by decide +kernel
theorem dX5_count_44 : decode cX5_count 44 = .ok (.aload_n 0, 1) := by decide +kernel
theorem dX5_count_45 : decode cX5_count 45 = .ok (.getfield 88, 3) := by decide +kernel
theorem dX5_count_48 : decode cX5_count 48 = .ok (.if_icmp .ge 26, 3) := by decide +kernel
theorem dX5_count_51 : decode cX5_count 51 = .ok (.iload_n 2, 1) := by decide +kernel
theorem dX5_count_52 : decode cX5_count 52 = .ok (.aload_n 0, 1) := by decide +kernel
theorem dX5_count_53 : decode cX5_count 53 = .ok (.getfield 71, 3) := by decide +kernel
theorem dX5_count_56 : decode cX5_count 56 = .ok (.iload_n 3, 1) := by decide +kernel
theorem dX5_count_57 : decode cX5_count 57 = .ok (.baload, 1) := by decide +kernel
theorem dX5_count_58 : decode cX5_count 58 = .ok (.ifCond .eq 7, 3) := by decide +kernel
theorem dX5_count_61 : decode cX5_count 61 = .ok (.iconst 1, 1) := by decide +kernel
theorem dX5_count_62 : decode cX5_count 62 = .ok (.goto 4, 3) := by decide +kernel
theorem dX5_count_65 : decode cX5_count 65 = .ok (.iconst 0, 1) := by decide +kernel
theorem dX5_count_66 : decode cX5_count 66 = .ok (.iadd, 1) := by decide +kernel
theorem dX5_count_67 : decode cX5_count 67 = .ok (.istore_n 2, 1) := by decide +kernel
theorem dX5_count_68 : decode cX5_count 68 = .ok (.iinc 3 1, 3) := by decide +kernel
theorem dX5_count_71 : decode cX5_count 71 = .ok (.goto (-28), 3) := by decide +kernel
theorem dX5_count_74 : decode cX5_count 74 = .ok (.iload_n 2, 1) := by decide +kernel
theorem dX5_count_75 : decode cX5_count 75 = .ok (.ireturn, 1) := by decide +kernel
theorem dX5_count_76 : decode cX5_count 76 = .ok (.aload_n 0, 1) := by decide +kernel
theorem dX5_count_77 : decode cX5_count 77 = .ok (.getfield 91, 3) := by decide +kernel
theorem dX5_count_80 : decode cX5_count 80 = .ok (.ireturn, 1) := by decide +kernel
theorem dX5_count_81 : decode cX5_count 81 = .ok (.iconst 0, 1) := by decide +kernel
theorem dX5_count_82 : decode cX5_count 82 = .ok (.istore_n 3, 1) := by decide +kernel
theorem dX5_count_83 : decode cX5_count 83 = .ok (.iload_n 3, 1) := by decide +kernel
theorem dX5_count_84 : decode cX5_count 84 = .ok (.aload_n 0, 1) := by decide +kernel
theorem dX5_count_85 : decode cX5_count 85 = .ok (.getfield 77, 3) := by decide +kernel
theorem dX5_count_88 : decode cX5_count 88 = .ok (.if_icmp .ge 51, 3) := by decide +kernel
theorem dX5_count_91 : decode cX5_count 91 = .ok (.iload_n 3, 1) := by decide +kernel
theorem dX5_count_92 : decode cX5_count 92 = .ok (.iconst 1, 1) := by decide +kernel
theorem dX5_count_93 : decode cX5_count 93 = .ok (.iadd, 1) := by decide +kernel
theorem dX5_count_94 : decode cX5_count 94 = .ok (.istore 4, 2) := by decide +kernel
theorem dX5_count_96 : decode cX5_count 96 = .ok (.iload 4, 2) := by decide +kernel
theorem dX5_count_98 : decode cX5_count 98 = .ok (.aload_n 0, 1) := by decide +kernel
theorem dX5_count_99 : decode cX5_count 99 = .ok (.getfield 77, 3) := by decide +kernel
theorem dX5_count_102 : decode cX5_count 102 = .ok (.if_icmp .ge 31, 3) := by decide +kernel
theorem dX5_count_105 : decode cX5_count 105 = .ok (.iload_n 2, 1) := by decide +kernel
theorem dX5_count_106 : decode cX5_count 106 = .ok (.aload_n 0, 1) := by decide +kernel
theorem dX5_count_107 : decode cX5_count 107 = .ok (.getfield 53, 3) := by decide +kernel
theorem dX5_count_110 : decode cX5_count 110 = .ok (.iconst 5, 1) := by decide +kernel
theorem dX5_count_111 : decode cX5_count 111 = .ok (.iload_n 3, 1) := by decide +kernel
theorem dX5_count_112 : decode cX5_count 112 = .ok (.imul, 1) := by decide +kernel
theorem dX5_count_113 : decode cX5_count 113 = .ok (.iload 4, 2) := by decide +kernel
theorem dX5_count_115 : decode cX5_count 115 = .ok (.iadd, 1) := by decide +kernel
theorem dX5_count_116 : decode cX5_count 116 = .ok (.baload, 1) := by decide +kernel
theorem dX5_count_117 : decode cX5_count 117 = .ok (.ifCond .eq 7, 3) := by decide +kernel
theorem dX5_count_120 : decode cX5_count 120 = .ok (.iconst 1, 1) := by decide +kernel
theorem dX5_count_121 : decode cX5_count 121 = .ok (.goto 4, 3) := by decide +kernel
theorem dX5_count_124 : decode cX5_count 124 = .ok (.iconst 0, 1) := by decide +kernel
theorem dX5_count_125 : decode cX5_count 125 = .ok (.iadd, 1) := by decide +kernel
theorem dX5_count_126 : decode cX5_count 126 = .ok (.istore_n 2, 1) := by decide +kernel
theorem dX5_count_127 : decode cX5_count 127 = .ok (.iinc 4 1, 3) := by decide +kernel
theorem dX5_count_130 : decode cX5_count 130 = .ok (.goto (-34), 3) := by decide +kernel
theorem dX5_count_133 : decode cX5_count 133 = .ok (.iinc 3 1, 3) := by decide +kernel
theorem dX5_count_136 : decode cX5_count 136 = .ok (.goto (-53), 3) := by decide +kernel
theorem dX5_count_139 : decode cX5_count 139 = .ok (.iload_n 2, 1) := by decide +kernel
theorem dX5_count_140 : decode cX5_count 140 = .ok (.ireturn, 1) := by decide +kernel
theorem dX5_count_141 : decode cX5_count 141 = .ok (.iconst 0, 1) := by decide +kernel
theorem dX5_count_142 : decode cX5_count 142 = .ok (.istore_n 3, 1) := by decide +kernel
theorem dX5_count_143 : decode cX5_count 143 = .ok (.iload_n 3, 1) := by decide +kernel
theorem dX5_count_144 : decode cX5_count 144 = .ok (.aload_n 0, 1) := by decide +kernel
theorem dX5_count_145 : decode cX5_count 145 = .ok (.getfield 77, 3) := by decide +kernel
theorem dX5_count_148 : decode cX5_count 148 = .ok (.if_icmp .ge 26, 3) := by decide +kernel
theorem dX5_count_151 : decode cX5_count 151 = .ok (.iload_n 2, 1) := by decide +kernel
theorem dX5_count_152 : decode cX5_count 152 = .ok (.aload_n 0, 1) := by decide +kernel
theorem dX5_count_153 : decode cX5_count 153 = .ok (.getfield 19, 3) := by decide +kernel
theorem dX5_count_156 : decode cX5_count 156 = .ok (.iload_n 3, 1) := by decide +kernel
theorem dX5_count_157 : decode cX5_count 157 = .ok (.iaload, 1) := by decide +kernel
theorem dX5_count_158 : decode cX5_count 158 = .ok (.ifCond .ne 7, 3) := by decide +kernel
theorem dX5_count_161 : decode cX5_count 161 = .ok (.iconst 1, 1) := by decide +kernel
theorem dX5_count_162 : decode cX5_count 162 = .ok (.goto 4, 3) := by decide +kernel
theorem dX5_count_165 : decode cX5_count 165 = .ok (.iconst 0, 1) := by decide +kernel
theorem dX5_count_166 : decode cX5_count 166 = .ok (.iadd, 1) := by decide +kernel
theorem dX5_count_167 : decode cX5_count 167 = .ok (.istore_n 2, 1) := by decide +kernel
theorem dX5_count_168 : decode cX5_count 168 = .ok (.iinc 3 1, 3) := by decide +kernel
theorem dX5_count_171 : decode cX5_count 171 = .ok (.goto (-28), 3) := by decide +kernel
theorem dX5_count_174 : decode cX5_count 174 = .ok (.iload_n 2, 1) := by decide +kernel
theorem dX5_count_175 : decode cX5_count 175 = .ok (.ireturn, 1) := by decide +kernel
theorem dX5_count_176 : decode cX5_count 176 = .ok (.bipush (-2), 2) := by decide +kernel
theorem dX5_count_178 : decode cX5_count 178 = .ok (.ireturn, 1) := by decide +kernel
set_option maxRecDepth 20000 in
theorem ggX5_unlike_X5_lesser : GoodIn wsX5_unlike wsX5_lesser := goodIn_r _ [7] (by decide +kernel) (by decide +kernel)
set_option maxRecDepth 20000 in
theorem gX5_unlike_X5_lesser : GoodIn wsX5_unlike (va_wsS RX5 110 yX5_lesser wsX5_lesser) := goodIn_app (goodIn_of _ (by decide +kernel)) ggX5_unlike_X5_lesser
theorem dX5_unlike_0 : decode cX5_unlike 0 = .ok (.iconst 0, 1) := by decide +kernel
theorem dX5_unlike_1 : decode cX5_unlike 1 = .ok (.istore_n 1, 1) := by decide +kernel
theorem dX5_unlike_2 : decode cX5_unlike 2 = .ok (.iload_n 1, 1) := by decide +kernel
theorem dX5_unlike_3 : decode cX5_unlike 3 = .ok (.aload_n 0, 1) := by decide +kernel
theorem dX5_unlike_4 : decode cX5_unlike 4 = .ok (.getfield 77, 3) := by decide +kernel
theorem dX5_unlike_7 : decode cX5_unlike 7 = .ok (.if_icmp .ge 95, 3) := by decide +kernel
theorem dX5_unlike_10 : decode cX5_unlike 10 = .ok (.iload_n 1, 1) := by decide +kernel
theorem dX5_unlike_11 : decode cX5_unlike 11 = .ok (.iconst 1, 1) := by decide +kernel
theorem dX5_unlike_12 : decode cX5_unlike 12 = .ok (.iadd, 1) := by decide +kernel
theorem dX5_unlike_13 : decode cX5_unlike 13 = .ok (.istore_n 2, 1) := by decide +kernel
theorem dX5_unlike_14 : decode cX5_unlike 14 = .ok (.iload_n 2, 1) := by decide +kernel
theorem dX5_unlike_15 : decode cX5_unlike 15 = .ok (.aload_n 0, 1) := by decide +kernel
theorem dX5_unlike_16 : decode cX5_unlike 16 = .ok (.getfield 77, 3) := by decide +kernel
theorem dX5_unlike_19 : decode cX5_unlike 19 = .ok (.if_icmp .ge 77, 3) := by decide +kernel
theorem dX5_unlike_22 : decode cX5_unlike 22 = .ok (.aload_n 0, 1) := by decide +kernel
theorem dX5_unlike_23 : decode cX5_unlike 23 = .ok (.getfield 16, 3) := by decide +kernel
theorem dX5_unlike_26 : decode cX5_unlike 26 = .ok (.iload_n 1, 1) := by decide +kernel
theorem dX5_unlike_27 : decode cX5_unlike 27 = .ok (.iaload, 1) := by decide +kernel
theorem dX5_unlike_28 : decode cX5_unlike 28 = .ok (.aload_n 0, 1) := by decide +kernel
theorem dX5_unlike_29 : decode cX5_unlike 29 = .ok (.getfield 16, 3) := by decide +kernel
theorem dX5_unlike_32 : decode cX5_unlike 32 = .ok (.iload_n 2, 1) := by decide +kernel
theorem dX5_unlike_33 : decode cX5_unlike 33 = .ok (.iaload, 1) := by decide +kernel
theorem dX5_unlike_34 : decode cX5_unlike 34 = .ok (.invokestatic 110, 3) := by decide +kernel
theorem dX5_unlike_37 : decode cX5_unlike 37 = .ok (.istore_n 3, 1) := by decide +kernel
theorem dX5_unlike_38 : decode cX5_unlike 38 = .ok (.iconst 0, 1) := by decide +kernel
theorem dX5_unlike_39 : decode cX5_unlike 39 = .ok (.istore 4, 2) := by decide +kernel
theorem dX5_unlike_41 : decode cX5_unlike 41 = .ok (.iload 4, 2) := by decide +kernel
theorem dX5_unlike_43 : decode cX5_unlike 43 = .ok (.bipush 6, 2) := by decide +kernel
theorem dX5_unlike_45 : decode cX5_unlike 45 = .ok (.iload_n 3, 1) := by decide +kernel
theorem dX5_unlike_46 : decode cX5_unlike 46 = .ok (.imul, 1) := by decide +kernel
theorem dX5_unlike_47 : decode cX5_unlike 47 = .ok (.if_icmp .ge 43, 3) := by decide +kernel
theorem dX5_unlike_50 : decode cX5_unlike 50 = .ok (.aload_n 0, 1) := by decide +kernel
theorem dX5_unlike_51 : decode cX5_unlike 51 = .ok (.getfield 7, 3) := by decide +kernel
theorem dX5_unlike_54 : decode cX5_unlike 54 = .ok (.bipush 96, 2) := by decide +kernel
theorem dX5_unlike_56 : decode cX5_unlike 56 = .ok (.iload_n 1, 1) := by decide +kernel
theorem dX5_unlike_57 : decode cX5_unlike 57 = .ok (.imul, 1) := by decide +kernel
theorem dX5_unlike_58 : decode cX5_unlike 58 = .ok (.iload 4, 2) := by decide +kernel
theorem dX5_unlike_60 : decode cX5_unlike 60 = .ok (.iadd, 1) := by decide +kernel
theorem dX5_unlike_61 : decode cX5_unlike 61 = .ok (.iaload, 1) := by decide +kernel
theorem dX5_unlike_62 : decode cX5_unlike 62 = .ok (.aload_n 0, 1) := by decide +kernel
theorem dX5_unlike_63 : decode cX5_unlike 63 = .ok (.getfield 7, 3) := by decide +kernel
theorem dX5_unlike_66 : decode cX5_unlike 66 = .ok (.bipush 96, 2) := by decide +kernel
theorem dX5_unlike_68 : decode cX5_unlike 68 = .ok (.iload_n 2, 1) := by decide +kernel
theorem dX5_unlike_69 : decode cX5_unlike 69 = .ok (.imul, 1) := by decide +kernel
theorem dX5_unlike_70 : decode cX5_unlike 70 = .ok (.iload 4, 2) := by decide +kernel
theorem dX5_unlike_72 : decode cX5_unlike 72 = .ok (.iadd, 1) := by decide +kernel
theorem dX5_unlike_73 : decode cX5_unlike 73 = .ok (.iaload, 1) := by decide +kernel
theorem dX5_unlike_74 : decode cX5_unlike 74 = .ok (.if_icmp .eq 10, 3) := by decide +kernel
theorem dX5_unlike_77 : decode cX5_unlike 77 = .ok (.bipush 10, 2) := by decide +kernel
theorem dX5_unlike_79 : decode cX5_unlike 79 = .ok (.iload_n 1, 1) := by decide +kernel
theorem dX5_unlike_80 : decode cX5_unlike 80 = .ok (.imul, 1) := by decide +kernel
theorem dX5_unlike_81 : decode cX5_unlike 81 = .ok (.iload_n 2, 1) := by decide +kernel
theorem dX5_unlike_82 : decode cX5_unlike 82 = .ok (.iadd, 1) := by decide +kernel
theorem dX5_unlike_83 : decode cX5_unlike 83 = .ok (.ireturn, 1) := by decide +kernel
theorem dX5_unlike_84 : decode cX5_unlike 84 = .ok (.iinc 4 1, 3) := by decide +kernel
theorem dX5_unlike_87 : decode cX5_unlike 87 = .ok (.goto (-46), 3) := by decide +kernel
theorem dX5_unlike_90 : decode cX5_unlike 90 = .ok (.iinc 2 1, 3) := by decide +kernel
theorem dX5_unlike_93 : decode cX5_unlike 93 = .ok (.goto (-79), 3) := by decide +kernel
theorem dX5_unlike_96 : decode cX5_unlike 96 = .ok (.iinc 1 1, 3) := by decide +kernel
theorem dX5_unlike_99 : decode cX5_unlike 99 = .ok (.goto (-97), 3) := by decide +kernel
theorem dX5_unlike_102 : decode cX5_unlike 102 = .ok (.iconst (-1), 1) := by decide +kernel
theorem dX5_unlike_103 : decode cX5_unlike 103 = .ok (.ireturn, 1) := by decide +kernel
set_option maxRecDepth 20000 in
theorem ggX5_digest_X5_node : GoodIn wsX5_digest wsX5_node := goodIn_r _ [11, 12, 13, 14, 4, 15, 16, 17, 18, 19, 10, 20, 2, 21, 22, 23, 24, 25, 26, 27, 28, 29, 30, 31, 32, 33, 34, 35, 36, 37, 38, 58, 59, 60, 61, 62, 63, 64, 65, 66, 67, 68, 69, 70, 71, 72, 73, 74, 75, 76, 77, 78, 79, 80, 81, 82, 83] (by decide +kernel) (by decide +kernel)
set_option maxRecDepth 20000 in
theorem gX5_digest_X5_node : GoodIn wsX5_digest (wsV RX5 182 RX5 yX5_node wsX5_node) := goodIn_app (goodIn_of _ (by decide +kernel)) ggX5_digest_X5_node
set_option maxRecDepth 20000 in
theorem ggX5_digest_X5_register : GoodIn wsX5_digest wsX5_register := goodIn_r _ [42, 43, 44, 15, 5, 17, 18, 19, 10, 20, 2, 21, 22, 23, 58, 59, 60, 61, 62, 63, 64, 65, 66, 67, 68, 69, 70, 71, 72, 73, 74, 75, 76, 77, 78, 79, 80, 81, 82, 83] (by decide +kernel) (by decide +kernel)
set_option maxRecDepth 20000 in
theorem gX5_digest_X5_register : GoodIn wsX5_digest (wsV RX5 185 RX5 yX5_register wsX5_register) := goodIn_app (goodIn_of _ (by decide +kernel)) ggX5_digest_X5_register
set_option maxRecDepth 20000 in
theorem ggX5_digest_X5_letter : GoodIn wsX5_digest wsX5_letter := goodIn_r _ [48, 6, 49, 50, 51, 52, 4, 15, 53, 54, 21, 22, 10, 23, 55, 56, 57, 58, 59, 60, 61, 62, 63, 64, 65, 66, 67, 68, 69, 70, 71, 72, 73, 74, 75, 76, 77, 78, 79, 80, 81, 82, 83] (by decide +kernel) (by decide +kernel)
set_option maxRecDepth 20000 in
theorem gX5_digest_X5_letter : GoodIn wsX5_digest (wsV RX5 188 RX5 yX5_letter wsX5_letter) := goodIn_app (goodIn_of _ (by decide +kernel)) ggX5_digest_X5_letter
theorem dX5_digest_0 : decode cX5_digest 0 = .ok (.ldc2_w 178, 3) := by decide +kernel
theorem dX5_digest_3 : decode cX5_digest 3 = .ok (.lstore_n 1, 1) := by decide +kernel
theorem dX5_digest_4 : decode cX5_digest 4 = .ok (.iconst 0, 1) := by decide +kernel
theorem dX5_digest_5 : decode cX5_digest 5 = .ok (.istore_n 3, 1) := by decide +kernel
theorem dX5_digest_6 : decode cX5_digest 6 = .ok (.iload_n 3, 1) := by decide +kernel
theorem dX5_digest_7 : decode cX5_digest 7 = .ok (.aload_n 0, 1) := by decide +kernel
theorem dX5_digest_8 : decode cX5_digest 8 = .ok (.getfield 77, 3) := by decide +kernel
theorem dX5_digest_11 : decode cX5_digest 11 = .ok (.if_icmp .ge 114, 3) := by decide +kernel
theorem dX5_digest_14 : decode cX5_digest 14 = .ok (.iconst 0, 1) := by decide +kernel
theorem dX5_digest_15 : decode cX5_digest 15 = .ok (.istore 4, 2) := by decide +kernel
theorem dX5_digest_17 : decode cX5_digest 17 = .ok (.iload 4, 2) := by decide +kernel
theorem dX5_digest_19 : decode cX5_digest 19 = .ok (.bipush 9, 2) := by decide +kernel
theorem dX5_digest_21 : decode cX5_digest 21 = .ok (.if_icmp .ge 24, 3) := by decide +kernel
theorem dX5_digest_24 : decode cX5_digest 24 = .ok (.ldc2_w 180, 3) := by decide +kernel
theorem dX5_digest_27 : decode cX5_digest 27 = .ok (.lload_n 1, 1) := by decide +kernel
theorem dX5_digest_28 : decode cX5_digest 28 = .ok (.lmul, 1) := by decide +kernel
theorem dX5_digest_29 : decode cX5_digest 29 = .ok (.aload_n 0, 1) := by decide +kernel
theorem dX5_digest_30 : decode cX5_digest 30 = .ok (.iload_n 3, 1) := by decide +kernel
theorem dX5_digest_31 : decode cX5_digest 31 = .ok (.iload 4, 2) := by decide +kernel
theorem dX5_digest_33 : decode cX5_digest 33 = .ok (.invokevirtual 182, 3) := by decide +kernel
theorem dX5_digest_36 : decode cX5_digest 36 = .ok (.i2l, 1) := by decide +kernel
theorem dX5_digest_37 : decode cX5_digest 37 = .ok (.ladd, 1) := by decide +kernel
theorem dX5_digest_38 : decode cX5_digest 38 = .ok (.lstore_n 1, 1) := by decide +kernel
theorem dX5_digest_39 : decode cX5_digest 39 = .ok (.iinc 4 1, 3) := by decide +kernel
theorem dX5_digest_42 : decode cX5_digest 42 = .ok (.goto (-25), 3) := by decide +kernel
theorem dX5_digest_45 : decode cX5_digest 45 = .ok (.iconst 0, 1) := by decide +kernel
theorem dX5_digest_46 : decode cX5_digest 46 = .ok (.istore 4, 2) := by decide +kernel
theorem dX5_digest_48 : decode cX5_digest 48 = .ok (.iload 4, 2) := by decide +kernel
theorem dX5_digest_50 : decode cX5_digest 50 = .ok (.bipush 6, 2) := by decide +kernel
theorem dX5_digest_52 : decode cX5_digest 52 = .ok (.aload_n 0, 1) := by decide +kernel
theorem dX5_digest_53 : decode cX5_digest 53 = .ok (.getfield 13, 3) := by decide +kernel
theorem dX5_digest_56 : decode cX5_digest 56 = .ok (.iload_n 3, 1) := by decide +kernel
theorem dX5_digest_57 : decode cX5_digest 57 = .ok (.iaload, 1) := by decide +kernel
theorem dX5_digest_58 : decode cX5_digest 58 = .ok (.imul, 1) := by decide +kernel
theorem dX5_digest_59 : decode cX5_digest 59 = .ok (.if_icmp .ge 29, 3) := by decide +kernel
theorem dX5_digest_62 : decode cX5_digest 62 = .ok (.ldc2_w 180, 3) := by decide +kernel
theorem dX5_digest_65 : decode cX5_digest 65 = .ok (.lload_n 1, 1) := by decide +kernel
theorem dX5_digest_66 : decode cX5_digest 66 = .ok (.lmul, 1) := by decide +kernel
theorem dX5_digest_67 : decode cX5_digest 67 = .ok (.aload_n 0, 1) := by decide +kernel
theorem dX5_digest_68 : decode cX5_digest 68 = .ok (.getfield 7, 3) := by decide +kernel
theorem dX5_digest_71 : decode cX5_digest 71 = .ok (.bipush 96, 2) := by decide +kernel
theorem dX5_digest_73 : decode cX5_digest 73 = .ok (.iload_n 3, 1) := by decide +kernel
theorem dX5_digest_74 : decode cX5_digest 74 = .ok (.imul, 1) := by decide +kernel
theorem dX5_digest_75 : decode cX5_digest 75 = .ok (.iload 4, 2) := by decide +kernel
theorem dX5_digest_77 : decode cX5_digest 77 = .ok (.iadd, 1) := by decide +kernel
theorem dX5_digest_78 : decode cX5_digest 78 = .ok (.iaload, 1) := by decide +kernel
theorem dX5_digest_79 : decode cX5_digest 79 = .ok (.i2l, 1) := by decide +kernel
theorem dX5_digest_80 : decode cX5_digest 80 = .ok (.ladd, 1) := by decide +kernel
theorem dX5_digest_81 : decode cX5_digest 81 = .ok (.lstore_n 1, 1) := by decide +kernel
theorem dX5_digest_82 : decode cX5_digest 82 = .ok (.iinc 4 1, 3) := by decide +kernel
theorem dX5_digest_85 : decode cX5_digest 85 = .ok (.goto (-37), 3) := by decide +kernel
theorem dX5_digest_88 : decode cX5_digest 88 = .ok (.iconst 0, 1) := by decide +kernel
theorem dX5_digest_89 : decode cX5_digest 89 = .ok (.istore 4, 2) := by decide +kernel
theorem dX5_digest_91 : decode cX5_digest 91 = .ok (.iload 4, 2) := by decide +kernel
theorem dX5_digest_93 : decode cX5_digest 93 = .ok (.bipush 8, 2) := by decide +kernel
theorem dX5_digest_95 : decode cX5_digest 95 = .ok (.if_icmp .ge 24, 3) := by decide +kernel
theorem dX5_digest_98 : decode cX5_digest 98 = .ok (.ldc2_w 180, 3) := by decide +kernel
theorem dX5_digest_101 : decode cX5_digest 101 = .ok (.lload_n 1, 1) := by decide +kernel
theorem dX5_digest_102 : decode cX5_digest 102 = .ok (.lmul, 1) := by decide +kernel
theorem dX5_digest_103 : decode cX5_digest 103 = .ok (.aload_n 0, 1) := by decide +kernel
theorem dX5_digest_104 : decode cX5_digest 104 = .ok (.iload_n 3, 1) := by decide +kernel
theorem dX5_digest_105 : decode cX5_digest 105 = .ok (.iload 4, 2) := by decide +kernel
theorem dX5_digest_107 : decode cX5_digest 107 = .ok (.invokevirtual 185, 3) := by decide +kernel
theorem dX5_digest_110 : decode cX5_digest 110 = .ok (.i2l, 1) := by decide +kernel
theorem dX5_digest_111 : decode cX5_digest 111 = .ok (.ladd, 1) := by decide +kernel
theorem dX5_digest_112 : decode cX5_digest 112 = .ok (.lstore_n 1, 1) := by decide +kernel
theorem dX5_digest_113 : decode cX5_digest 113 = .ok (.iinc 4 1, 3) := by decide +kernel
theorem dX5_digest_116 : decode cX5_digest 116 = .ok (.goto (-25), 3) := by decide +kernel
theorem dX5_digest_119 : decode cX5_digest 119 = .ok (.iinc 3 1, 3) := by decide +kernel
theorem dX5_digest_122 : decode cX5_digest 122 = .ok (.goto (-116), 3) := by decide +kernel
theorem dX5_digest_125 : decode cX5_digest 125 = .ok (.iconst 0, 1) := by decide +kernel
theorem dX5_digest_126 : decode cX5_digest 126 = .ok (.istore_n 3, 1) := by decide +kernel
theorem dX5_digest_127 : decode cX5_digest 127 = .ok (.iload_n 3, 1) := by decide +kernel
theorem dX5_digest_128 : decode cX5_digest 128 = .ok (.aload_n 0, 1) := by decide +kernel
theorem dX5_digest_129 : decode cX5_digest 129 = .ok (.getfield 88, 3) := by decide +kernel
theorem dX5_digest_132 : decode cX5_digest 132 = .ok (.if_icmp .ge 40, 3) := by decide +kernel
theorem dX5_digest_135 : decode cX5_digest 135 = .ok (.iconst 0, 1) := by decide +kernel
theorem dX5_digest_136 : decode cX5_digest 136 = .ok (.istore 4, 2) := by decide +kernel
theorem dX5_digest_138 : decode cX5_digest 138 = .ok (.iload 4, 2) := by decide +kernel
theorem dX5_digest_140 : decode cX5_digest 140 = .ok (.bipush 8, 2) := by decide +kernel
theorem dX5_digest_142 : decode cX5_digest 142 = .ok (.if_icmp .ge 24, 3) := by decide +kernel
theorem dX5_digest_145 : decode cX5_digest 145 = .ok (.ldc2_w 180, 3) := by decide +kernel
theorem dX5_digest_148 : decode cX5_digest 148 = .ok (.lload_n 1, 1) := by decide +kernel
theorem dX5_digest_149 : decode cX5_digest 149 = .ok (.lmul, 1) := by decide +kernel
theorem dX5_digest_150 : decode cX5_digest 150 = .ok (.aload_n 0, 1) := by decide +kernel
theorem dX5_digest_151 : decode cX5_digest 151 = .ok (.iload_n 3, 1) := by decide +kernel
theorem dX5_digest_152 : decode cX5_digest 152 = .ok (.iload 4, 2) := by decide +kernel
theorem dX5_digest_154 : decode cX5_digest 154 = .ok (.invokevirtual 188, 3) := by decide +kernel
theorem dX5_digest_157 : decode cX5_digest 157 = .ok (.i2l, 1) := by decide +kernel
theorem dX5_digest_158 : decode cX5_digest 158 = .ok (.ladd, 1) := by decide +kernel
theorem dX5_digest_159 : decode cX5_digest 159 = .ok (.lstore_n 1, 1) := by decide +kernel
theorem dX5_digest_160 : decode cX5_digest 160 = .ok (.iinc 4 1, 3) := by decide +kernel
theorem dX5_digest_163 : decode cX5_digest 163 = .ok (.goto (-25), 3) := by decide +kernel
theorem dX5_digest_166 : decode cX5_digest 166 = .ok (.iinc 3 1, 3) := by decide +kernel
theorem dX5_digest_169 : decode cX5_digest 169 = .ok (.goto (-42), 3) := by decide +kernel
theorem dX5_digest_172 : decode cX5_digest 172 = .ok (.lload_n 1, 1) := by decide +kernel
theorem dX5_digest_173 : decode cX5_digest 173 = .ok (.lreturn, 1) := by decide +kernel
end
section
theorem dJ6_bitCount_0f7a4_0 : decode cJ6_bitCount_0f7a4 0 = .ok (.iload_n 0, 1) := by decide +kernel
theorem dJ6_bitCount_0f7a4_1 : decode cJ6_bitCount_0f7a4 1 = .ok (.iload_n 0, 1) := by decide +kernel
theorem dJ6_bitCount_0f7a4_2 : decode cJ6_bitCount_0f7a4 2 = .ok (.iconst 1, 1) := by decide +kernel
theorem dJ6_bitCount_0f7a4_3 : decode cJ6_bitCount_0f7a4 3 = .ok (.iushr, 1) := by decide +kernel
theorem dJ6_bitCount_0f7a4_4 : decode cJ6_bitCount_0f7a4 4 = .ok (.ldc_w 265, 3) := by decide +kernel
theorem dJ6_bitCount_0f7a4_7 : decode cJ6_bitCount_0f7a4 7 = .ok (.iand, 1) := by decide +kernel
theorem dJ6_bitCount_0f7a4_8 : decode cJ6_bitCount_0f7a4 8 = .ok (.isub, 1) := by decide +kernel
theorem dJ6_bitCount_0f7a4_9 : decode cJ6_bitCount_0f7a4 9 = .ok (.istore_n 0, 1) := by decide +kernel
theorem dJ6_bitCount_0f7a4_10 : decode cJ6_bitCount_0f7a4 10 = .ok (.iload_n 0, 1) := by decide +kernel
theorem dJ6_bitCount_0f7a4_11 : decode cJ6_bitCount_0f7a4 11 = .ok (.ldc_w 266, 3) := by decide +kernel
theorem dJ6_bitCount_0f7a4_14 : decode cJ6_bitCount_0f7a4 14 = .ok (.iand, 1) := by decide +kernel
theorem dJ6_bitCount_0f7a4_15 : decode cJ6_bitCount_0f7a4 15 = .ok (.iload_n 0, 1) := by decide +kernel
theorem dJ6_bitCount_0f7a4_16 : decode cJ6_bitCount_0f7a4 16 = .ok (.iconst 2, 1) := by decide +kernel
theorem dJ6_bitCount_0f7a4_17 : decode cJ6_bitCount_0f7a4 17 = .ok (.iushr, 1) := by decide +kernel
theorem dJ6_bitCount_0f7a4_18 : decode cJ6_bitCount_0f7a4 18 = .ok (.ldc_w 266, 3) := by decide +kernel
theorem dJ6_bitCount_0f7a4_21 : decode cJ6_bitCount_0f7a4 21 = .ok (.iand, 1) := by decide +kernel
theorem dJ6_bitCount_0f7a4_22 : decode cJ6_bitCount_0f7a4 22 = .ok (.iadd, 1) := by decide +kernel
theorem dJ6_bitCount_0f7a4_23 : decode cJ6_bitCount_0f7a4 23 = .ok (.istore_n 0, 1) := by decide +kernel
theorem dJ6_bitCount_0f7a4_24 : decode cJ6_bitCount_0f7a4 24 = .ok (.iload_n 0, 1) := by decide +kernel
theorem dJ6_bitCount_0f7a4_25 : decode cJ6_bitCount_0f7a4 25 = .ok (.iload_n 0, 1) := by decide +kernel
theorem dJ6_bitCount_0f7a4_26 : decode cJ6_bitCount_0f7a4 26 = .ok (.iconst 4, 1) := by decide +kernel
theorem dJ6_bitCount_0f7a4_27 : decode cJ6_bitCount_0f7a4 27 = .ok (.iushr, 1) := by decide +kernel
theorem dJ6_bitCount_0f7a4_28 : decode cJ6_bitCount_0f7a4 28 = .ok (.iadd, 1) := by decide +kernel
theorem dJ6_bitCount_0f7a4_29 : decode cJ6_bitCount_0f7a4 29 = .ok (.ldc_w 267, 3) := by decide +kernel
theorem dJ6_bitCount_0f7a4_32 : decode cJ6_bitCount_0f7a4 32 = .ok (.iand, 1) := by decide +kernel
theorem dJ6_bitCount_0f7a4_33 : decode cJ6_bitCount_0f7a4 33 = .ok (.istore_n 0, 1) := by decide +kernel
theorem dJ6_bitCount_0f7a4_34 : decode cJ6_bitCount_0f7a4 34 = .ok (.iload_n 0, 1) := by decide +kernel
theorem dJ6_bitCount_0f7a4_35 : decode cJ6_bitCount_0f7a4 35 = .ok (.iload_n 0, 1) := by decide +kernel
theorem dJ6_bitCount_0f7a4_36 : decode cJ6_bitCount_0f7a4 36 = .ok (.bipush 8, 2) := by decide +kernel
theorem dJ6_bitCount_0f7a4_38 : decode cJ6_bitCount_0f7a4 38 = .ok (.iushr, 1) := by decide +kernel
theorem dJ6_bitCount_0f7a4_39 : decode cJ6_bitCount_0f7a4 39 = .ok (.iadd, 1) := by decide +kernel
theorem dJ6_bitCount_0f7a4_40 : decode cJ6_bitCount_0f7a4 40 = .ok (.istore_n 0, 1) := by decide +kernel
theorem dJ6_bitCount_0f7a4_41 : decode cJ6_bitCount_0f7a4 41 = .ok (.iload_n 0, 1) := by decide +kernel
theorem dJ6_bitCount_0f7a4_42 : decode cJ6_bitCount_0f7a4 42 = .ok (.iload_n 0, 1) := by decide +kernel
theorem dJ6_bitCount_0f7a4_43 : decode cJ6_bitCount_0f7a4 43 = .ok (.bipush 16, 2) := by decide +kernel
theorem dJ6_bitCount_0f7a4_45 : decode cJ6_bitCount_0f7a4 45 = .ok (.iushr, 1) := by decide +kernel
theorem dJ6_bitCount_0f7a4_46 : decode cJ6_bitCount_0f7a4 46 = .ok (.iadd, 1) := by decide +kernel
theorem dJ6_bitCount_0f7a4_47 : decode cJ6_bitCount_0f7a4 47 = .ok (.istore_n 0, 1) := by decide +kernel
theorem dJ6_bitCount_0f7a4_48 : decode cJ6_bitCount_0f7a4 48 = .ok (.iload_n 0, 1) := by decide +kernel
theorem dJ6_bitCount_0f7a4_49 : decode cJ6_bitCount_0f7a4 49 = .ok (.bipush 63, 2) := by decide +kernel
theorem dJ6_bitCount_0f7a4_51 : decode cJ6_bitCount_0f7a4 51 = .ok (.iand, 1) := by decide +kernel
theorem dJ6_bitCount_0f7a4_52 : decode cJ6_bitCount_0f7a4 52 = .ok (.ireturn, 1) := by decide +kernel
theorem dJ9_max_7cf53_0 : decode cJ9_max_7cf53 0 = .ok (.iload_n 0, 1) := by decide +kernel
theorem dJ9_max_7cf53_1 : decode cJ9_max_7cf53 1 = .ok (.iload_n 1, 1) := by decide +kernel
theorem dJ9_max_7cf53_2 : decode cJ9_max_7cf53 2 = .ok (.if_icmp .lt 7, 3) := by decide +kernel
theorem dJ9_max_7cf53_5 : decode cJ9_max_7cf53 5 = .ok (.iload_n 0, 1) := by decide +kernel
theorem dJ9_max_7cf53_6 : decode cJ9_max_7cf53 6 = .ok (.goto 4, 3) := by decide +kernel
theorem dJ9_max_7cf53_9 : decode cJ9_max_7cf53 9 = .ok (.iload_n 1, 1) := by decide +kernel
theorem dJ9_max_7cf53_10 : decode cJ9_max_7cf53 10 = .ok (.ireturn, 1) := by decide +kernel
theorem dJ9_min_7cf53_0 : decode cJ9_min_7cf53 0 = .ok (.iload_n 0, 1) := by decide +kernel
theorem dJ9_min_7cf53_1 : decode cJ9_min_7cf53 1 = .ok (.iload_n 1, 1) := by decide +kernel
theorem dJ9_min_7cf53_2 : decode cJ9_min_7cf53 2 = .ok (.if_icmp .gt 7, 3) := by decide +kernel
theorem dJ9_min_7cf53_5 : decode cJ9_min_7cf53 5 = .ok (.iload_n 0, 1) := by decide +kernel
theorem dJ9_min_7cf53_6 : decode cJ9_min_7cf53 6 = .ok (.goto 4, 3) := by decide +kernel
theorem dJ9_min_7cf53_9 : decode cJ9_min_7cf53 9 = .ok (.iload_n 1, 1) := by decide +kernel
theorem dJ9_min_7cf53_10 : decode cJ9_min_7cf53 10 = .ok (.ireturn, 1) := by decide +kernel
theorem dJ7_fill_53178_0 : decode cJ7_fill_53178 0 = .ok (.iconst 0, 1) := by decide +kernel
theorem dJ7_fill_53178_1 : decode cJ7_fill_53178 1 = .ok (.istore_n 2, 1) := by decide +kernel
theorem dJ7_fill_53178_2 : decode cJ7_fill_53178 2 = .ok (.aload_n 0, 1) := by decide +kernel
theorem dJ7_fill_53178_3 : decode cJ7_fill_53178 3 = .ok (.arraylength, 1) := by decide +kernel
theorem dJ7_fill_53178_4 : decode cJ7_fill_53178 4 = .ok (.istore_n 3, 1) := by decide +kernel
theorem dJ7_fill_53178_5 : decode cJ7_fill_53178 5 = .ok (.iload_n 2, 1) := by decide +kernel
theorem dJ7_fill_53178_6 : decode cJ7_fill_53178 6 = .ok (.iload_n 3, 1) := by decide +kernel
theorem dJ7_fill_53178_7 : decode cJ7_fill_53178 7 = .ok (.if_icmp .ge 13, 3) := by decide +kernel
theorem dJ7_fill_53178_10 : decode cJ7_fill_53178 10 = .ok (.aload_n 0, 1) := by decide +kernel
theorem dJ7_fill_53178_11 : decode cJ7_fill_53178 11 = .ok (.iload_n 2, 1) := by decide +kernel
theorem dJ7_fill_53178_12 : decode cJ7_fill_53178 12 = .ok (.iload_n 1, 1) := by decide +kernel
theorem dJ7_fill_53178_13 : decode cJ7_fill_53178 13 = .ok (.iastore, 1) := by decide +kernel
theorem dJ7_fill_53178_14 : decode cJ7_fill_53178 14 = .ok (.iinc 2 1, 3) := by decide +kernel
theorem dJ7_fill_53178_17 : decode cJ7_fill_53178 17 = .ok (.goto (-12), 3) := by decide +kernel
theorem dJ7_fill_53178_20 : decode cJ7_fill_53178 20 = .ok (.return_, 1) := by decide +kernel
theorem dJ7_copyOf_59c91_0 : decode cJ7_copyOf_59c91 0 = .ok (.iload_n 1, 1) := by decide +kernel
theorem dJ7_copyOf_59c91_1 : decode cJ7_copyOf_59c91 1 = .ok (.aload_n 0, 1) := by decide +kernel
theorem dJ7_copyOf_59c91_2 : decode cJ7_copyOf_59c91 2 = .ok (.arraylength, 1) := by decide +kernel
theorem dJ7_copyOf_59c91_3 : decode cJ7_copyOf_59c91 3 = .ok (.if_icmp .ne 11, 3) := by decide +kernel
theorem dJ7_copyOf_59c91_6 : decode cJ7_copyOf_59c91 6 = .ok (.aload_n 0, 1) := by decide +kernel
theorem dJ7_copyOf_59c91_7 : decode cJ7_copyOf_59c91 7 = .ok (.invokevirtual 316, 3) := by decide +kernel
theorem dJ7_copyOf_59c91_10 : decode cJ7_copyOf_59c91 10 = .ok (.checkcast 317, 3) := by decide +kernel
theorem dJ7_copyOf_59c91_13 : decode cJ7_copyOf_59c91 13 = .ok (.areturn, 1) := by decide +kernel
theorem dJ7_copyOf_59c91_14 : decode cJ7_copyOf_59c91 14 = .ok (.iload_n 1, 1) := by decide +kernel
theorem dJ7_copyOf_59c91_15 : decode cJ7_copyOf_59c91 15 = .ok (.newarray .int, 2) := by decide +kernel
theorem dJ7_copyOf_59c91_17 : decode cJ7_copyOf_59c91 17 = .ok (.astore_n 2, 1) := by decide +kernel
theorem dJ7_copyOf_59c91_18 : decode cJ7_copyOf_59c91 18 = .ok (.aload_n 0, 1) := by decide +kernel
theorem dJ7_copyOf_59c91_19 : decode cJ7_copyOf_59c91 19 = .ok (.iconst 0, 1) := by decide +kernel
theorem dJ7_copyOf_59c91_20 : decode cJ7_copyOf_59c91 20 = .ok (.aload_n 2, 1) := by decide +kernel
theorem dJ7_copyOf_59c91_21 : decode cJ7_copyOf_59c91 21 = .ok (.iconst 0, 1) := by decide +kernel
theorem dJ7_copyOf_59c91_22 : decode cJ7_copyOf_59c91 22 = .ok (.aload_n 0, 1) := by decide +kernel
theorem dJ7_copyOf_59c91_23 : decode cJ7_copyOf_59c91 23 = .ok (.arraylength, 1) := by decide +kernel
theorem dJ7_copyOf_59c91_24 : decode cJ7_copyOf_59c91 24 = .ok (.iload_n 1, 1) := by decide +kernel
theorem dJ7_copyOf_59c91_25 : decode cJ7_copyOf_59c91 25 = .ok (.invokestatic 304, 3) := by decide +kernel
theorem dJ7_copyOf_59c91_28 : decode cJ7_copyOf_59c91 28 = .ok (.invokestatic 150, 3) := by decide +kernel
theorem dJ7_copyOf_59c91_31 : decode cJ7_copyOf_59c91 31 = .ok (.aload_n 2, 1) := by decide +kernel
theorem dJ7_copyOf_59c91_32 : decode cJ7_copyOf_59c91 32 = .ok (.areturn, 1) := by decide +kernel
theorem dL_cell_0 : decode cL_cell 0 = .ok (.iload_n 1, 1) := by decide +kernel
theorem dL_cell_1 : decode cL_cell 1 = .ok (.aload_n 0, 1) := by decide +kernel
theorem dL_cell_2 : decode cL_cell 2 = .ok (.arraylength, 1) := by decide +kernel
theorem dL_cell_3 : decode cL_cell 3 = .ok (.if_icmp .ge 9, 3) := by decide +kernel
theorem dL_cell_6 : decode cL_cell 6 = .ok (.aload_n 0, 1) := by decide +kernel
theorem dL_cell_7 : decode cL_cell 7 = .ok (.iload_n 1, 1) := by decide +kernel
theorem dL_cell_8 : decode cL_cell 8 = .ok (.iaload, 1) := by decide +kernel
theorem dL_cell_9 : decode cL_cell 9 = .ok (.goto 4, 3) := by decide +kernel
theorem dL_cell_12 : decode cL_cell 12 = .ok (.iconst 0, 1) := by decide +kernel
theorem dL_cell_13 : decode cL_cell 13 = .ok (.ireturn, 1) := by decide +kernel
abbrev vwCl : List vw_C := [(RX0, TX0, 8), (RX1, TX1, 1), (RX2, TX2, 17), (RX3, TX3, 3), (RX4, TX4, 3), (RX5, TX5, 26)]
end
section
/-! MEMORY: the cells made since the law's start, as functions of their addresses: how many addresses are used, the kind of each, an array's length, int slots (as naturals n, the int being nI n), reference slots -/
abbrev Mem : Type := Nat × (Nat → Nat) × (Nat → Nat) × (Nat → Nat → Nat) × (Nat → Nat → Option Nat)
def nx (X : Mem) : Nat := X.1
def kd (X : Mem) : Nat → Nat := X.2.1
def ln (X : Mem) : Nat → Nat := X.2.2.1
def iv (X : Mem) : Nat → Nat → Nat := X.2.2.2.1
def rv (X : Mem) : Nat → Nat → Option Nat := X.2.2.2.2
def up2 {α : Type} (f : Nat → Nat → α) (a k : Nat) (v : α) : Nat → Nat → α := fun b j => if b = a ∧ j = k then v else f b j
def wI (X : Mem) (a k v : Nat) : Mem := (nx X, kd X, ln X, up2 (iv X) a k v, rv X)
def wR (X : Mem) (a k : Nat) (v : Option Nat) : Mem := (nx X, kd X, ln X, iv X, up2 (rv X) a k v)
def nw (X : Mem) (k n : Nat) : Mem := (nx X + 1, va_up (kd X) (nx X) k, va_up (ln X) (nx X) n, va_up (iv X) (nx X) (fun _ => 0), va_up (rv X) (nx X) (fun _ => none))
theorem up2_self {α : Type} (f : Nat → Nat → α) (a k : Nat) (v : α) : up2 f a k v a k = v := by simp [up2]
theorem up2_ne {α : Type} (f : Nat → Nat → α) {a k b j : Nat} (v : α) (h : ¬ (b = a ∧ j = k)) : up2 f a k v b j = f b j := by simp only [up2, if_neg h]
theorem up2_row {α : Type} (f : Nat → Nat → α) {a k b : Nat} (v : α) (h : b ≠ a) : up2 f a k v b = f b := by funext j; simp [up2, h]
/-- which fields are references (classes by their numbers) -/
def rf (ci k : Nat) : Bool := match ci with
  | 0 => k == 6
  | 1 => true
  | 2 => (Nat.ble 3 k && Nat.ble k 8) || k == 12
  | 3 => k == 0
  | 4 => true
  | _ => !(k == 0 || k == 1 || k == 17 || k == 18)
def fv (X : Mem) (a ci k : Nat) : Value := if rf ci k = true then va_rf (rv X a k) else .int (nI (iv X a k))
/-- what a cell holds: kinds 1 .. 6 the classes 0 .. 5, 7 int[], 8 boolean[], 9 Letter[], 10 Node[] -/
def ce (D : va_G) (cA : Nat → ClassId) (X : Mem) (a : Nat) (H : Heap) : Prop :=
  (∀ (ci : Nat) (r : vw_C), kd X a = ci + 1 → vwCl[ci]? = some r → t_OB a (D.1 ci) r.2.2 (D.2 ci) H (fv X a ci)) ∧
  (kd X a = 7 → H[a]? = some (arrV (cA 0) (ln X a) (fun j => .int (nI (iv X a j))))) ∧
  (kd X a = 8 → H[a]? = some (arrV (cA 1) (ln X a) (fun j => .int (nI (iv X a j))))) ∧
  (kd X a = 9 → H[a]? = some (arrV (cA 2) (ln X a) (fun j => va_rf (rv X a j)))) ∧
  (kd X a = 10 → H[a]? = some (arrV (cA 3) (ln X a) (fun j => va_rf (rv X a j)))) ∧
  (kd X a ≠ 0 → a < H.size)
abbrev tyL (cA : Nat → ClassId) : List (ClassId × FieldType) := [(cA 0, .int), (cA 1, .boolean), (cA 2, .object RX0), (cA 3, .object RX2)]
def wd (D : va_G) (cA : Nat → ClassId) (A : Nat → Prop) (X : Mem) (H : Heap) : Prop := H.size = nx X ∧ (∀ a : Nat, ce D cA X a H) ∧ (∀ a : Nat, kd X a ≠ 0 → A a) ∧ ∀ q : Nat, nx X ≤ q → A q
def gw (D : va_G) (cA : Nat → ClassId) (A : Nat → Prop) (X : Mem) (H0 H : Heap) (locs : List Loc) : Prop := wd D cA A X H ∧ va_S A H0 H locs
def gs (D : va_G) (cA : Nat → ClassId) (A : Nat → Prop) (X : Mem) (U : State) : Prop := wd D cA A X U.heap ∧ va_K D vwCl (tyL cA) U
def cx (p : Program) (s : State) (m : MethodId) (args : Array Value) (c : Code) (cc : ByteArray) (nL : Nat) (Ts : List Cond) (own : String) (D : va_G) (cA : Nat → ClassId) : Prop := CallFix p m c cc nL s args Ts own ∧ va_K D vwCl (tyL cA) s
def mQ (D : va_G) (cA : Nat → ClassId) (A : Nat → Prop) (Q : Option Value → Mem → Prop) : Array Value → State → Outcome → State → Prop := fun _ st oc t => ∃ (v : Option Value) (X : Mem), oc = .returned v ∧ Q v X ∧ gs D cA A X t ∧ va_F A st t
/-- A CONTRACT: from the memory X and these arguments the method returns; its answer and the memory behind it hold Q -/
def mt (l : Launch) (D : va_G) (cA : Nat → ClassId) (A : Nat → Prop) (y : MethodName) (ws : List Cond) (rm : Room) (av : List Value) (X : Mem) (Q : Option Value → Mem → Prop) : Prop :=
  Met l y ws rm (va_Pc av (gs D cA A X)) (mQ D cA A Q) rm.cells rm.slots A
theorem ce_keep {D : va_G} {cA : Nat → ClassId} {X X' : Mem} {b : Nat} {H H' : Heap} (h : ce D cA X b H) (h1 : kd X' b = kd X b) (h2 : ln X' b = ln X b) (h3 : iv X' b = iv X b) (h4 : rv X' b = rv X b) (hH : H'[b]? = H[b]?) (hs : H.size ≤ H'.size) : ce D cA X' b H' := by
  obtain ⟨a1, a2, a3, a4, a5, a6⟩ := h
  refine ⟨fun ci r e1 e2 => ?_, fun e => ?_, fun e => ?_, fun e => ?_, fun e => ?_, fun e => ?_⟩
  · rw [h1] at e1
    refine ((a1 ci r e1 e2).kept hH).to (fun k _ => ?_)
    simp only [fv, h3, h4]
  · rw [h1] at e; rw [hH, h2, h3]; exact a2 e
  · rw [h1] at e; rw [hH, h2, h3]; exact a3 e
  · rw [h1] at e; rw [hH, h2, h4]; exact a4 e
  · rw [h1] at e; rw [hH, h2, h4]; exact a5 e
  · rw [h1] at e; exact Nat.lt_of_lt_of_le (a6 e) hs
theorem wd_set {D : va_G} {cA : Nat → ClassId} {A : Nat → Prop} {X X' : Mem} {a : Nat} {H H1 : Heap} (h : wd D cA A X H) (h1 : nx X' = nx X) (h2 : kd X' = kd X) (h3 : ln X' = ln X) (h4 : ∀ b, b ≠ a → iv X' b = iv X b) (h5 : ∀ b, b ≠ a → rv X' b = rv X b) (hz : H1.size = H.size) (oq : ∀ q : Nat, q ≠ a → H1[q]? = H[q]?) (hnew : ce D cA X' a H1) : wd D cA A X' H1 := by
  obtain ⟨g1, g2, g3, g4⟩ := h
  refine ⟨by rw [hz, g1, h1], fun b => ?_, fun b hb => g3 b (by rw [← h2]; exact hb), fun q hq => g4 q (by rw [← h1]; exact hq)⟩
  by_cases hb : b = a
  · subst hb; exact hnew
  · exact ce_keep (g2 b) (by rw [h2]) (by rw [h3]) (h4 b hb) (h5 b hb) (oq b hb) (by rw [hz]; exact Nat.le_refl _)
theorem wd_lt {D : va_G} {cA : Nat → ClassId} {A : Nat → Prop} {X : Mem} {H : Heap} (h : wd D cA A X H) {a : Nat} (ha : kd X a ≠ 0) : a < nx X := by
  rw [← h.1]; exact (h.2.1 a).2.2.2.2.2 ha
theorem wd_new {D : va_G} {cA : Nat → ClassId} {A : Nat → Prop} {X : Mem} {k n : Nat} {H H1 : Heap} (h : wd D cA A X H) (hz : H1.size = H.size + 1) (oq : ∀ q : Nat, q < H.size → H1[q]? = H[q]?) (hnew : ce D cA (nw X k n) (nx X) H1) : wd D cA A (nw X k n) H1 := by
  obtain ⟨g1, g2, g3, g4⟩ := h
  refine ⟨by rw [hz, g1]; rfl, fun b => ?_, fun b hb => ?_, fun q hq => g4 q (Nat.le_of_succ_le hq)⟩
  · by_cases hb : b = nx X
    · subst hb; exact hnew
    · have hkb : kd (nw X k n) b = kd X b := by simp [nw, kd, va_up, hb]
      by_cases h0 : kd X b = 0
      · have h0' : kd (nw X k n) b = 0 := by rw [hkb, h0]
        refine ⟨fun ci r e _ => ?_, fun e => ?_, fun e => ?_, fun e => ?_, fun e => ?_, fun e => absurd h0' e⟩ <;> (rw [h0'] at e; cases e)
      · have hlt : b < H.size := (g2 b).2.2.2.2.2 h0
        exact ce_keep (g2 b) hkb (by simp [nw, ln, va_up, hb]) (by simp [nw, iv, va_up, hb]) (by simp [nw, rv, va_up, hb]) (oq b hlt) (by omega)
  · by_cases hb2 : b = nx X
    · exact g4 b (by rw [hb2]; exact Nat.le_refl _)
    · exact g3 b (fun z => hb (by rw [show kd (nw X k n) b = kd X b by simp [nw, kd, va_up, hb2]]; exact z))
theorem va_S_new {A : Nat → Prop} {H0 H H1 : Heap} {locs : List Loc} (h : va_S A H0 H locs) (hz : H1.size = H.size + 1) (oq : ∀ q : Nat, q < H.size → H1[q]? = H[q]?) : va_S A H0 H1 locs :=
  ⟨Nat.le_trans h.1 (by omega), fun x h1 h2 => (oq x (Nat.lt_of_lt_of_le h1 h.1)).trans (h.2.1 x h1 h2), h.2.2⟩
/-- a class: its number, name, fields, their types -/
def cF (ci : Nat) (C : String) (T : u_T) (N : Nat) (ty0 : Nat → FieldType) : Prop := vwCl[ci]? = some (C, T, N) ∧ (∀ k, k < N → parseFieldDescriptor (T k).2.2.1 = some (ty0 k)) ∧ (∀ a, a < N → ∀ b, b < N → a ≠ b → (T a).2.1 ≠ (T b).2.1) ∧ (∀ j, j < N → defaultValue (ty0 j) = if rf ci j = true then .null else .int 0)
theorem cF0 : cF 0 RX0 TX0 8 tyX0 := ⟨rfl, tyX0_ok, nmX0, by intro j hj; match j, hj with | 0, _ => rfl | 1, _ => rfl | 2, _ => rfl | 3, _ => rfl | 4, _ => rfl | 5, _ => rfl | 6, _ => rfl | 7, _ => rfl⟩
theorem cF1 : cF 1 RX1 TX1 1 tyX1 := ⟨rfl, tyX1_ok, nmX1, by intro j hj; match j, hj with | 0, _ => rfl⟩
theorem cF2 : cF 2 RX2 TX2 17 tyX2 := ⟨rfl, tyX2_ok, nmX2, by intro j hj; match j, hj with | 0, _ => rfl | 1, _ => rfl | 2, _ => rfl | 3, _ => rfl | 4, _ => rfl | 5, _ => rfl | 6, _ => rfl | 7, _ => rfl | 8, _ => rfl | 9, _ => rfl | 10, _ => rfl | 11, _ => rfl | 12, _ => rfl | 13, _ => rfl | 14, _ => rfl | 15, _ => rfl | 16, _ => rfl | k + 17, h => exact absurd h (by omega)⟩
theorem cF3 : cF 3 RX3 TX3 3 tyX3 := ⟨rfl, tyX3_ok, nmX3, by intro j hj; match j, hj with | 0, _ => rfl | 1, _ => rfl | 2, _ => rfl⟩
theorem cF4 : cF 4 RX4 TX4 3 tyX4 := ⟨rfl, tyX4_ok, nmX4, by intro j hj; match j, hj with | 0, _ => rfl | 1, _ => rfl | 2, _ => rfl⟩
theorem cF5 : cF 5 RX5 TX5 26 tyX5 := ⟨rfl, tyX5_ok, nmX5, by intro j hj; match j, hj with | 0, _ => rfl | 1, _ => rfl | 2, _ => rfl | 3, _ => rfl | 4, _ => rfl | 5, _ => rfl | 6, _ => rfl | 7, _ => rfl | 8, _ => rfl | 9, _ => rfl | 10, _ => rfl | 11, _ => rfl | 12, _ => rfl | 13, _ => rfl | 14, _ => rfl | 15, _ => rfl | 16, _ => rfl | 17, _ => rfl | 18, _ => rfl | 19, _ => rfl | 20, _ => rfl | 21, _ => rfl | 22, _ => rfl | 23, _ => rfl | 24, _ => rfl | 25, _ => rfl | k + 26, h => exact absurd h (by omega)⟩
section QROWS
variable {p : Program} {l : Launch} {e : Env} {R : Room} {s : State} {m : MethodId} {args : Array Value} {below : List Frame} {meth : Method} {c : Code} {H : Heap} {locs : List Loc} {cells slots : Nat} {Q : State → Prop}
variable {cc : ByteArray} {pc nL : Nat} {ls : Array Slot} {rest : List Value} {D : va_G} {cA : Nat → ClassId} {A : Nat → Prop} {a : Nat} {X : Mem} {Ts : List Cond} {own : String}
theorem q_getv (hC : cx p s m args c cc nL Ts own D cA) (hG : gw D cA A X s.heap H locs) {C : String} {T : u_T} {N ci index : Nat} {ty0 : Nat → FieldType} (hF : cF ci C T N ty0) (hin : ∀ w ∈ u_ws C T N, w ∈ Ts) (hk : kd X a = ci + 1) (k : Nat) (hkN : k < N) (hlink : (Cond.fieldLink own index (T k).1 (T k).2.1 (T k).2.2.1).before args s = true) (hdg : decode cc pc = .ok (.getfield index, 3))
    (kk : W p l e R s m args below meth c H locs cells slots Q (F0 m (pc + 3) ls (fv X a ci k :: rest))) : W p l e R s m args below meth c H locs cells slots Q (F0 m pc ls (.ref a :: rest)) := by
  obtain ⟨⟨hexec, hb, -, hown, hts⟩, hK⟩ := hC
  obtain ⟨hcl, -, -, -⟩ := hF
  obtain ⟨cell, q1, q2, q3, q4⟩ := (hG.1.2.1 a).1 ci _ hk hcl
  obtain ⟨hS, hfc, kC, hkC, hkind⟩ := hK.1 ci _ hcl
  obtain ⟨cf, kf, fi, f, hi, hsl⟩ := hS k hkN
  refine W.getf hexec hb hown hlink hi (u_facts hfc hkC (u_lays hts hin hkN) hi).1 q1 (by rw [q3]; exact fun h => by cases h) (v := fv X a ci k) ?_ rfl rfl hdg kk
  rw [hsl, q4 k hkN]
theorem q_geti (hC : cx p s m args c cc nL Ts own D cA) (hG : gw D cA A X s.heap H locs) {C : String} {T : u_T} {N ci index : Nat} {ty0 : Nat → FieldType} (hF : cF ci C T N ty0) (hin : ∀ w ∈ u_ws C T N, w ∈ Ts) (hk : kd X a = ci + 1) (k : Nat) (hkN : k < N) (hr : rf ci k = false) (hlink : (Cond.fieldLink own index (T k).1 (T k).2.1 (T k).2.2.1).before args s = true) (hdg : decode cc pc = .ok (.getfield index, 3))
    (kk : W p l e R s m args below meth c H locs cells slots Q (F0 m (pc + 3) ls (.int (nI (iv X a k)) :: rest))) : W p l e R s m args below meth c H locs cells slots Q (F0 m pc ls (.ref a :: rest)) :=
  q_getv hC hG hF hin hk k hkN hlink hdg (by rw [show fv X a ci k = .int (nI (iv X a k)) by simp [fv, hr]]; exact kk)
theorem q_getr (hC : cx p s m args c cc nL Ts own D cA) (hG : gw D cA A X s.heap H locs) {C : String} {T : u_T} {N ci index : Nat} {ty0 : Nat → FieldType} (hF : cF ci C T N ty0) (hin : ∀ w ∈ u_ws C T N, w ∈ Ts) (hk : kd X a = ci + 1) (k : Nat) (hkN : k < N) (hr : rf ci k = true) {b : Nat} (hb : rv X a k = some b) (hlink : (Cond.fieldLink own index (T k).1 (T k).2.1 (T k).2.2.1).before args s = true) (hdg : decode cc pc = .ok (.getfield index, 3))
    (kk : W p l e R s m args below meth c H locs cells slots Q (F0 m (pc + 3) ls (.ref b :: rest))) : W p l e R s m args below meth c H locs cells slots Q (F0 m pc ls (.ref a :: rest)) :=
  q_getv hC hG hF hin hk k hkN hlink hdg (by rw [show fv X a ci k = .ref b by simp [fv, hr, hb, va_rf]]; exact kk)
theorem q_putX (hC : cx p s m args c cc nL Ts own D cA) (hG : gw D cA A X s.heap H locs) {C : String} {T : u_T} {N ci index : Nat} {ty0 : Nat → FieldType} (hF : cF ci C T N ty0) (hin : ∀ w ∈ u_ws C T N, w ∈ Ts) (hk : kd X a = ci + 1) (k : Nat) (hkN : k < N) (hlink : (Cond.fieldLink own index (T k).1 (T k).2.1 (T k).2.2.1).before args s = true) (hfin : (T k).2.2.2 = false ∨ (meth.name = "<init>" ∧ (T k).1 = own)) {v : Value} (hn : narrow (ty0 k) v = v) (hfit : fits (ty0 k) v = true) (X' : Mem) (e1 : nx X' = nx X) (e2 : kd X' = kd X) (e3 : ln X' = ln X) (e4 : ∀ b, b ≠ a → iv X' b = iv X b) (e5 : ∀ b, b ≠ a → rv X' b = rv X b) (e6 : ∀ j, j < N → updV (fv X a ci) k v j = fv X' a ci j) (hdg : decode cc pc = .ok (.putfield index, 3))
    (kk : ∀ (H1 : Heap) (locs1 : List Loc), gw D cA A X' s.heap H1 locs1 → W p l e R s m args below meth c H1 locs1 cells slots Q (F0 m (pc + 3) ls rest)) : W p l e R s m args below meth c H locs cells slots Q (F0 m pc ls (v :: .ref a :: rest)) := by
  obtain ⟨⟨hexec, hb, -, hown, hts⟩, hK⟩ := hC
  obtain ⟨hcl, hty, hnm, -⟩ := hF
  have hap := va_apart (own := own) (ci := ci) hts hin ty0 hty hnm hK hcl
  obtain ⟨hce, -, -, -, -, hlt⟩ := hG.1.2.1 a
  obtain ⟨cell, q1, q2, q3, q4⟩ := hce ci _ hk hcl
  obtain ⟨hS, hfc, kC, hkC, hkind⟩ := hK.1 ci _ hcl
  obtain ⟨cf, kf, fi, f, hi, hsl⟩ := hS k hkN
  have hst := (u_facts hfc hkC (u_lays hts hin hkN) hi).1
  have hAa : A a := hG.1.2.2.1 a (by rw [hk]; exact Nat.succ_ne_zero _)
  have fin : ∀ H' : Heap, H'[a]? = some (cell.setSlot f.slot v) → H'.size = H.size → (∀ q, q ≠ a → H'[q]? = H[q]?) → W p l e R s m args below meth c H' (locs ++ [⟨a, f.slot⟩]) cells slots Q (F0 m (pc + 3) ls rest) := by
    intro H' g1 g2 g3
    refine kk H' _ ⟨wd_set (a := a) hG.1 e1 e2 e3 e4 e5 g2 g3 ?_, hG.2.put g2 g3 hAa⟩
    rw [hsl] at g1
    have hk' : kd X' a = ci + 1 := by rw [e2]; exact hk
    have hci : ci < 6 := (List.getElem?_eq_some_iff.mp hcl).1
    refine ⟨fun ci' r h1 h2 => ?_, fun h => ?_, fun h => ?_, fun h => ?_, fun h => ?_, fun _ => by rw [g2]; exact hlt (by rw [hk]; exact Nat.succ_ne_zero _)⟩
    · have : ci' = ci := by omega
      subst this
      have hr := Option.some.inj (h2.symm.trans hcl)
      subst hr
      exact t_OB.to (V := updV (fv X a ci') k v) ⟨_, g1, q2, q3, t_set q4 hap hkN v⟩ e6
    all_goals (rw [hk'] at h; omega)
  rcases hfin with hfin | ⟨hin2, hdecl⟩
  · have hlay := hts _ (hin _ (u_in_lay hkN))
    unfold u_lay at hlay
    rw [if_neg (by rw [hfin]; decide)] at hlay
    have h6 := u_store hfc hkC hkind hlay hi (hty k hkN) hn hfit
    exact W.putK hexec hb (f := f) ⟨hown, hlink, ⟨_, _, _, hi⟩, hst⟩ (by rw [q2]; exact h6) q1 q3 (by rw [hsl]; exact k2_hasslot (q4 k hkN)) rfl rfl hdg fin
  · by_cases hfin : (T k).2.2.2 = true
    · have hlay := hts _ (hin _ (u_in_lay hkN))
      unfold u_lay at hlay
      rw [if_pos hfin] at hlay
      have hcf : m.cls = cf := by
        obtain ⟨_, _, c', _, _, _, -, -, hf', -, -, -, hown2, -⟩ := Cond.laysFinal_spec hlay
        have e1 : c' = cf := by have := hi.symm.trans hf'; simp at this; exact this.1.symm
        rw [hdecl] at hown2
        rw [← e1]; exact Option.some.inj (hown.symm.trans hown2)
      have h6 := u_fits hfc hkC hkind (Or.inr hlay) hi (hty k hkN) hn hfit
      exact W.putFinK hexec hb hown hlink hi hst hcf hin2 (by rw [q2]; exact h6) q1 q3 (by rw [hsl]; exact k2_hasslot (q4 k hkN)) rfl rfl hdg fin
    · have hlay := hts _ (hin _ (u_in_lay hkN))
      unfold u_lay at hlay
      rw [if_neg hfin] at hlay
      have h6 := u_store hfc hkC hkind hlay hi (hty k hkN) hn hfit
      exact W.putK hexec hb (f := f) ⟨hown, hlink, ⟨_, _, _, hi⟩, hst⟩ (by rw [q2]; exact h6) q1 q3 (by rw [hsl]; exact k2_hasslot (q4 k hkN)) rfl rfl hdg fin
theorem fv_wI {X : Mem} {a ci k v : Nat} (hr : rf ci k = false) (j : Nat) : updV (fv X a ci) k (.int (nI v)) j = fv (wI X a k v) a ci j := by
  by_cases hj : j = k
  · subst hj; simp [updV, fv, hr, wI, iv, up2]
  · simp [updV, hj, fv, wI, iv, rv, up2]
theorem fv_wR {X : Mem} {a ci k : Nat} {v : Option Nat} (hr : rf ci k = true) (j : Nat) : updV (fv X a ci) k (va_rf v) j = fv (wR X a k v) a ci j := by
  by_cases hj : j = k
  · subst hj; simp [updV, fv, hr, wR, rv, up2]
  · simp [updV, hj, fv, wR, iv, rv, up2]
theorem q_puti (hC : cx p s m args c cc nL Ts own D cA) (hG : gw D cA A X s.heap H locs) {C : String} {T : u_T} {N ci index : Nat} {ty0 : Nat → FieldType} (hF : cF ci C T N ty0) (hin : ∀ w ∈ u_ws C T N, w ∈ Ts) (hk : kd X a = ci + 1) (k : Nat) (hkN : k < N) (hr : rf ci k = false) (hlink : (Cond.fieldLink own index (T k).1 (T k).2.1 (T k).2.2.1).before args s = true) (hfin : (T k).2.2.2 = false ∨ (meth.name = "<init>" ∧ (T k).1 = own)) {v : Nat} (hn : narrow (ty0 k) (.int (nI v)) = .int (nI v)) (hfit : fits (ty0 k) (.int (nI v)) = true) (hdg : decode cc pc = .ok (.putfield index, 3))
    (kk : ∀ (H1 : Heap) (locs1 : List Loc), gw D cA A (wI X a k v) s.heap H1 locs1 → W p l e R s m args below meth c H1 locs1 cells slots Q (F0 m (pc + 3) ls rest)) : W p l e R s m args below meth c H locs cells slots Q (F0 m pc ls (.int (nI v) :: .ref a :: rest)) :=
  q_putX hC hG hF hin hk k hkN hlink hfin hn hfit (wI X a k v) rfl rfl rfl (fun b hb => up2_row _ _ hb) (fun _ _ => rfl) (fun j _ => fv_wI hr j) hdg kk
theorem q_putr (hC : cx p s m args c cc nL Ts own D cA) (hG : gw D cA A X s.heap H locs) {C : String} {T : u_T} {N ci index : Nat} {ty0 : Nat → FieldType} (hF : cF ci C T N ty0) (hin : ∀ w ∈ u_ws C T N, w ∈ Ts) (hk : kd X a = ci + 1) (k : Nat) (hkN : k < N) (hr : rf ci k = true) (hlink : (Cond.fieldLink own index (T k).1 (T k).2.1 (T k).2.2.1).before args s = true) (hfin : (T k).2.2.2 = false ∨ (meth.name = "<init>" ∧ (T k).1 = own)) {v : Nat} (hn : narrow (ty0 k) (.ref v) = .ref v) (hfit : fits (ty0 k) (.ref v) = true) (hdg : decode cc pc = .ok (.putfield index, 3))
    (kk : ∀ (H1 : Heap) (locs1 : List Loc), gw D cA A (wR X a k (some v)) s.heap H1 locs1 → W p l e R s m args below meth c H1 locs1 cells slots Q (F0 m (pc + 3) ls rest)) : W p l e R s m args below meth c H locs cells slots Q (F0 m pc ls (.ref v :: .ref a :: rest)) :=
  q_putX hC hG hF hin hk k hkN hlink hfin hn hfit (wR X a k (some v)) rfl rfl rfl (fun _ _ => rfl) (fun b hb => up2_row _ _ hb) (fun j _ => fv_wR (v := some v) hr j) hdg kk
end QROWS
end
section
section QROWS2
variable {p : Program} {l : Launch} {e : Env} {R : Room} {s : State} {m : MethodId} {args : Array Value} {below : List Frame} {meth : Method} {c : Code} {H : Heap} {locs : List Loc} {cells slots : Nat} {Q : State → Prop}
variable {cc : ByteArray} {pc nL : Nat} {ls : Array Slot} {rest : List Value} {D : va_G} {cA : Nat → ClassId} {A : Nat → Prop} {a : Nat} {X : Mem} {Ts : List Cond} {own : String}
theorem q_in {i n : Nat} (h : i < n) (hn : n < 2 ^ 31) : ¬ (nI i < 0 ∨ n ≤ (nI i).toNatClampNeg) := nI_in h hn
/-- arrays: read -/
theorem q_iald (hC : cx p s m args c cc nL Ts own D cA) (hG : gw D cA A X s.heap H locs) (hk : kd X a = 7) {n i : Nat} (hl : ln X a = n) (hi : i < n) (hn : n < 2 ^ 31) (hdg : decode cc pc = .ok (.iaload, 1))
    (kk : W p l e R s m args below meth c H locs cells slots Q (F0 m (pc + 1) ls (.int (nI (iv X a i)) :: rest))) : W p l e R s m args below meth c H locs cells slots Q (F0 m pc ls (.int (nI i) :: .ref a :: rest)) := by
  obtain ⟨⟨hexec, hb, -, hown, hts⟩, hK⟩ := hC
  subst hl
  have hi' : i < 2 ^ 31 := Nat.lt_trans hi hn
  exact W.iald (v := .int (nI (iv X a i))) hexec hb ((hG.1.2.1 a).2.1 hk) ((hK.2 0 _ rfl).1 _ _) (fun q => by cases q) (by rw [arrV_size]; exact q_in hi hn) (by rw [nI_clamp hi', arrV_read _ _ hi]) rfl rfl hdg kk
theorem q_zald (hC : cx p s m args c cc nL Ts own D cA) (hG : gw D cA A X s.heap H locs) (hk : kd X a = 8) {n i : Nat} (hl : ln X a = n) (hi : i < n) (hn : n < 2 ^ 31) (hdg : decode cc pc = .ok (.baload, 1))
    (kk : W p l e R s m args below meth c H locs cells slots Q (F0 m (pc + 1) ls (.int (nI (iv X a i)) :: rest))) : W p l e R s m args below meth c H locs cells slots Q (F0 m pc ls (.int (nI i) :: .ref a :: rest)) := by
  obtain ⟨⟨hexec, hb, -, hown, hts⟩, hK⟩ := hC
  subst hl
  have hi' : i < 2 ^ 31 := Nat.lt_trans hi hn
  exact W.zald (v := .int (nI (iv X a i))) hexec hb ((hG.1.2.1 a).2.2.1 hk) ((hK.2 1 _ rfl).1 _ _) (fun q => by cases q) (by rw [arrV_size]; exact q_in hi hn) (by rw [nI_clamp hi', arrV_read _ _ hi]) rfl rfl hdg kk
theorem q_aald (hC : cx p s m args c cc nL Ts own D cA) (hG : gw D cA A X s.heap H locs) (hk : kd X a = 9 ∨ kd X a = 10) {n i : Nat} (hl : ln X a = n) (hi : i < n) (hn : n < 2 ^ 31) (hdg : decode cc pc = .ok (.aaload, 1))
    (kk : W p l e R s m args below meth c H locs cells slots Q (F0 m (pc + 1) ls (va_rf (rv X a i) :: rest))) : W p l e R s m args below meth c H locs cells slots Q (F0 m pc ls (.int (nI i) :: .ref a :: rest)) := by
  obtain ⟨⟨hexec, hb, -, hown, hts⟩, hK⟩ := hC
  subst hl
  have hi' : i < 2 ^ 31 := Nat.lt_trans hi hn
  rcases hk with hk | hk
  · exact W.aald (v := va_rf (rv X a i)) (ty := .object RX0) hexec hb ((hG.1.2.1 a).2.2.2.1 hk) ((hK.2 2 _ rfl).1 _ _) rfl (fun q => by cases q) (by rw [arrV_size]; exact q_in hi hn) (by rw [nI_clamp hi', arrV_read _ _ hi]) rfl rfl hdg kk
  · exact W.aald (v := va_rf (rv X a i)) (ty := .object RX2) hexec hb ((hG.1.2.1 a).2.2.2.2.1 hk) ((hK.2 3 _ rfl).1 _ _) rfl (fun q => by cases q) (by rw [arrV_size]; exact q_in hi hn) (by rw [nI_clamp hi', arrV_read _ _ hi]) rfl rfl hdg kk
theorem q_alen (hC : cx p s m args c cc nL Ts own D cA) (hG : gw D cA A X s.heap H locs) {k : Nat} (hk : kd X a = k) (h7 : 7 ≤ k) (h10 : k ≤ 10) {n : Nat} (hl : ln X a = n) (hdg : decode cc pc = .ok (.arraylength, 1))
    (kk : W p l e R s m args below meth c H locs cells slots Q (F0 m (pc + 1) ls (.int (nI n) :: rest))) : W p l e R s m args below meth c H locs cells slots Q (F0 m pc ls (.ref a :: rest)) := by
  obtain ⟨⟨hexec, hb, -, hown, hts⟩, hK⟩ := hC
  subst hl
  have h4 : k = 7 ∨ k = 8 ∨ k = 9 ∨ k = 10 := by omega
  rcases h4 with rfl | rfl | rfl | rfl
  · exact W.alen (n := nI (ln X a)) hexec hb ((hG.1.2.1 a).2.1 hk) ((hK.2 0 _ rfl).1 _ _) (by rw [arrV_size] <;> rfl) rfl rfl hdg kk
  · exact W.alen (n := nI (ln X a)) hexec hb ((hG.1.2.1 a).2.2.1 hk) ((hK.2 1 _ rfl).1 _ _) (by rw [arrV_size] <;> rfl) rfl rfl hdg kk
  · exact W.alen (n := nI (ln X a)) hexec hb ((hG.1.2.1 a).2.2.2.1 hk) ((hK.2 2 _ rfl).1 _ _) (by rw [arrV_size] <;> rfl) rfl rfl hdg kk
  · exact W.alen (n := nI (ln X a)) hexec hb ((hG.1.2.1 a).2.2.2.2.1 hk) ((hK.2 3 _ rfl).1 _ _) (by rw [arrV_size] <;> rfl) rfl rfl hdg kk
/-- arrays: write -/
theorem ce_arr {D : va_G} {cA : Nat → ClassId} {X : Mem} {a k : Nat} {H : Heap} (hk : kd X a = k) (h7 : 7 ≤ k) (hlt : a < H.size) (h1 : k = 7 → H[a]? = some (arrV (cA 0) (ln X a) (fun j => .int (nI (iv X a j))))) (h2 : k = 8 → H[a]? = some (arrV (cA 1) (ln X a) (fun j => .int (nI (iv X a j))))) (h3 : k = 9 → H[a]? = some (arrV (cA 2) (ln X a) (fun j => va_rf (rv X a j)))) (h4 : k = 10 → H[a]? = some (arrV (cA 3) (ln X a) (fun j => va_rf (rv X a j)))) : ce D cA X a H := by
  refine ⟨fun ci r e1 e2 => ?_, fun e => h1 (by omega), fun e => h2 (by omega), fun e => h3 (by omega), fun e => h4 (by omega), fun _ => hlt⟩
  have := (List.getElem?_eq_some_iff.mp e2).1
  have : ci < 6 := this
  omega
theorem q_iast (hC : cx p s m args c cc nL Ts own D cA) (hG : gw D cA A X s.heap H locs) (hk : kd X a = 7) {n i v : Nat} (hl : ln X a = n) (hi : i < n) (hn : n < 2 ^ 31) (hdg : decode cc pc = .ok (.iastore, 1))
    (kk : ∀ (H1 : Heap) (locs1 : List Loc), gw D cA A (wI X a i v) s.heap H1 locs1 → W p l e R s m args below meth c H1 locs1 cells slots Q (F0 m (pc + 1) ls rest)) : W p l e R s m args below meth c H locs cells slots Q (F0 m pc ls (.int (nI v) :: .int (nI i) :: .ref a :: rest)) := by
  obtain ⟨⟨hexec, hb, -, hown, hts⟩, hK⟩ := hC
  subst hl
  have hi' : i < 2 ^ 31 := Nat.lt_trans hi hn
  have hAa : A a := hG.1.2.2.1 a (by rw [hk]; decide)
  have hlt := (hG.1.2.1 a).2.2.2.2.2 (by rw [hk]; decide)
  refine W.iast hexec hb ((hG.1.2.1 a).2.1 hk) ((hK.2 0 _ rfl).1 _ _) (fun q => by cases q) (by rw [arrV_size]; exact q_in hi hn) rfl rfl hdg fun H1 e z oq => ?_
  refine kk H1 _ ⟨wd_set (a := a) hG.1 rfl rfl rfl (fun b hb => up2_row _ _ hb) (fun _ _ => rfl) z oq (ce_arr (k := 7) hk (by decide) (by rw [z]; exact hlt) (fun _ => ?_) (fun h => by cases h) (fun h => by cases h) (fun h => by cases h)), hG.2.put z oq hAa⟩
  rw [e, nI_clamp hi', arrV_store]
  congr 2
  funext q
  by_cases hq : q = i
  · subst hq; simp [updV, wI, iv, up2]
  · simp [updV, wI, iv, up2, hq]
theorem q_zast (hC : cx p s m args c cc nL Ts own D cA) (hG : gw D cA A X s.heap H locs) (hk : kd X a = 8) {n i v : Nat} (hl : ln X a = n) (hi : i < n) (hn : n < 2 ^ 31) (hv : v ≤ 1) (hdg : decode cc pc = .ok (.bastore, 1))
    (kk : ∀ (H1 : Heap) (locs1 : List Loc), gw D cA A (wI X a i v) s.heap H1 locs1 → W p l e R s m args below meth c H1 locs1 cells slots Q (F0 m (pc + 1) ls rest)) : W p l e R s m args below meth c H locs cells slots Q (F0 m pc ls (.int (nI v) :: .int (nI i) :: .ref a :: rest)) := by
  obtain ⟨⟨hexec, hb, -, hown, hts⟩, hK⟩ := hC
  subst hl
  have hi' : i < 2 ^ 31 := Nat.lt_trans hi hn
  have hAa : A a := hG.1.2.2.1 a (by rw [hk]; decide)
  have hlt := (hG.1.2.1 a).2.2.2.2.2 (by rw [hk]; decide)
  refine W.zast hexec hb ((hG.1.2.1 a).2.2.1 hk) ((hK.2 1 _ rfl).1 _ _) (fun q => by cases q) (by rw [arrV_size]; exact q_in hi hn) rfl rfl hdg fun H1 e z oq => ?_
  refine kk H1 _ ⟨wd_set (a := a) hG.1 rfl rfl rfl (fun b hb => up2_row _ _ hb) (fun _ _ => rfl) z oq (ce_arr (k := 8) hk (by decide) (by rw [z]; exact hlt) (fun h => by cases h) (fun _ => ?_) (fun h => by cases h) (fun h => by cases h)), hG.2.put z oq hAa⟩
  have hnar : narrow .boolean (.int (nI v)) = .int (nI v) := by
    rcases (show v = 0 ∨ v = 1 by omega) with rfl | rfl <;> rfl
  rw [e, nI_clamp hi', arrV_store]
  congr 2
  funext q
  by_cases hq : q = i
  · subst hq; simp [updV, wI, iv, up2, hnar]
  · simp [updV, wI, iv, up2, hq]
theorem q_aast (hC : cx p s m args c cc nL Ts own D cA) (hG : gw D cA A X s.heap H locs) {n i v : Nat} (hk : (kd X a = 9 ∧ kd X v = 1) ∨ (kd X a = 10 ∧ kd X v = 3)) (hl : ln X a = n) (hi : i < n) (hn : n < 2 ^ 31) (hdg : decode cc pc = .ok (.aastore, 1))
    (kk : ∀ (H1 : Heap) (locs1 : List Loc), gw D cA A (wR X a i (some v)) s.heap H1 locs1 → W p l e R s m args below meth c H1 locs1 cells slots Q (F0 m (pc + 1) ls rest)) : W p l e R s m args below meth c H locs cells slots Q (F0 m pc ls (.ref v :: .int (nI i) :: .ref a :: rest)) := by
  obtain ⟨⟨hexec, hb, -, hown, hts⟩, hK⟩ := hC
  subst hl
  have hi' : i < 2 ^ 31 := Nat.lt_trans hi hn
  have h0 : ¬ nI i < 0 := nI_pos hi'
  rcases hk with ⟨hk, hkv⟩ | ⟨hk, hkv⟩
  · have hAa : A a := hG.1.2.2.1 a (by rw [hk]; decide)
    have hlt := (hG.1.2.1 a).2.2.2.2.2 (by rw [hk]; decide)
    obtain ⟨cellV, g1, g2, g3, -⟩ := (hG.1.2.1 v).1 0 _ hkv rfl
    have hcls := (hK.1 0 _ rfl).2
    obtain ⟨kA, comp, k1, k2, k3, -⟩ := (hK.2 2 _ rfl).2
    have hcomp : comp = D.1 0 := Option.some.inj (k3.symm.trans hcls.1)
    subst hcomp
    obtain ⟨kC, hkC, -⟩ := hcls.2
    refine W.aast hexec hb ((hG.1.2.1 a).2.2.2.1 hk) (fun q h => by cases h) (fun h => by cases h) k1 k2 rfl hkC ⟨h0, by rw [arrV_size, nI_clamp hi']; exact hi⟩ g1 (fun q h => by rw [g3] at h; cases h) (by rw [g2]; exact hkC) (by rw [g2]; exact va_assign hcls) rfl rfl hdg fun H1 e z oq => ?_
    refine kk H1 _ ⟨wd_set (a := a) hG.1 rfl rfl rfl (fun _ _ => rfl) (fun b hb => up2_row _ _ hb) z oq (ce_arr (k := 9) hk (by decide) (by rw [z]; exact hlt) (fun h => by cases h) (fun h => by cases h) (fun _ => ?_) (fun h => by cases h)), hG.2.put z oq hAa⟩
    rw [e, nI_clamp hi', arrV_store]
    congr 2
    funext q
    by_cases hq : q = i
    · subst hq; simp [updV, wR, rv, up2, va_rf]
    · simp [updV, wR, rv, up2, hq]
  · have hAa : A a := hG.1.2.2.1 a (by rw [hk]; decide)
    have hlt := (hG.1.2.1 a).2.2.2.2.2 (by rw [hk]; decide)
    obtain ⟨cellV, g1, g2, g3, -⟩ := (hG.1.2.1 v).1 2 _ hkv rfl
    have hcls := (hK.1 2 _ rfl).2
    obtain ⟨kA, comp, k1, k2, k3, -⟩ := (hK.2 3 _ rfl).2
    have hcomp : comp = D.1 2 := Option.some.inj (k3.symm.trans hcls.1)
    subst hcomp
    obtain ⟨kC, hkC, -⟩ := hcls.2
    refine W.aast hexec hb ((hG.1.2.1 a).2.2.2.2.1 hk) (fun q h => by cases h) (fun h => by cases h) k1 k2 rfl hkC ⟨h0, by rw [arrV_size, nI_clamp hi']; exact hi⟩ g1 (fun q h => by rw [g3] at h; cases h) (by rw [g2]; exact hkC) (by rw [g2]; exact va_assign hcls) rfl rfl hdg fun H1 e z oq => ?_
    refine kk H1 _ ⟨wd_set (a := a) hG.1 rfl rfl rfl (fun _ _ => rfl) (fun b hb => up2_row _ _ hb) z oq (ce_arr (k := 10) hk (by decide) (by rw [z]; exact hlt) (fun h => by cases h) (fun h => by cases h) (fun h => by cases h) (fun _ => ?_)), hG.2.put z oq hAa⟩
    rw [e, nI_clamp hi', arrV_store]
    congr 2
    funext q
    by_cases hq : q = i
    · subst hq; simp [updV, wR, rv, up2, va_rf]
    · simp [updV, wR, rv, up2, hq]
theorem q_aastN (hC : cx p s m args c cc nL Ts own D cA) (hG : gw D cA A X s.heap H locs) {n i : Nat} (hk : kd X a = 9) (hl : ln X a = n) (hi : i < n) (hn : n < 2 ^ 31) (hdg : decode cc pc = .ok (.aastore, 1))
    (kk : ∀ (H1 : Heap) (locs1 : List Loc), gw D cA A (wR X a i none) s.heap H1 locs1 → W p l e R s m args below meth c H1 locs1 cells slots Q (F0 m (pc + 1) ls rest)) : W p l e R s m args below meth c H locs cells slots Q (F0 m pc ls (.null :: .int (nI i) :: .ref a :: rest)) := by
  obtain ⟨⟨hexec, hb, -, hown, hts⟩, hK⟩ := hC
  subst hl
  have hi' : i < 2 ^ 31 := Nat.lt_trans hi hn
  have hAa : A a := hG.1.2.2.1 a (by rw [hk]; decide)
  have hlt := (hG.1.2.1 a).2.2.2.2.2 (by rw [hk]; decide)
  refine va_WaastN (C := RX0) hexec hb ((hG.1.2.1 a).2.2.2.1 hk) ((hK.2 2 _ rfl).1 _ _) (fun h => by cases h) (by rw [arrV_size]; exact q_in hi hn) rfl rfl hdg fun H1 e z oq => ?_
  refine kk H1 _ ⟨wd_set (a := a) hG.1 rfl rfl rfl (fun _ _ => rfl) (fun b hb => up2_row _ _ hb) z oq (ce_arr (k := 9) hk (by decide) (by rw [z]; exact hlt) (fun h => by cases h) (fun h => by cases h) (fun _ => ?_) (fun h => by cases h)), hG.2.put z oq hAa⟩
  rw [e, nI_clamp hi', arrV_store]
  congr 2
  funext q
  by_cases hq : q = i
  · subst hq; simp [updV, wR, rv, up2, va_rf]
  · simp [updV, wR, rv, up2, hq]
/-- new objects and arrays -/
theorem q_new (hC : cx p s m args c cc nL Ts own D cA) (hG : gw D cA A X s.heap H locs) {C : String} {T : u_T} {N ci index : Nat} {ty0 : Nat → FieldType} (hF : cF ci C T N ty0) (hin : ∀ w ∈ u_ws C T N, w ∈ Ts) (hcl : (Cond.classLink own index C).before args s = true) (hinst : (Cond.instantiable C N).before args s = true) (hini : (Cond.initialized C).before args s = true) (hcells : cells + 1 ≤ R.cells) (hslots : slots + N ≤ R.slots) (hdg : decode cc pc = .ok (.new index, 3))
    (kk : ∀ H1 : Heap, gw D cA A (nw X (ci + 1) 0) s.heap H1 locs → W p l e R s m args below meth c H1 locs (cells + 1) (slots + N) Q (F0 m (pc + 3) ls (.ref (nx X) :: rest))) : W p l e R s m args below meth c H locs cells slots Q (F0 m pc ls rest) := by
  obtain ⟨⟨hexec, hb, -, hown, hts⟩, hK⟩ := hC
  obtain ⟨hclk, hty, hnm, hdf⟩ := hF
  have hKn := hK.1 ci _ hclk
  have hz0 : H.size = nx X := hG.1.1
  refine W.newcK hexec hb hown hcl hinst hini rfl hdg hcells hslots hKn.2.1 hz0 fun H1 kC hkC e1 z1 o1 => ?_
  have z1' : H1.size = H.size + 1 := by rw [z1, hz0]
  have o1' : ∀ q : Nat, q < H.size → H1[q]? = H[q]? := fun q h => o1 q (by rw [← hz0]; exact h)
  refine kk H1 ⟨wd_new hG.1 z1' o1' ?_, va_S_new hG.2 z1' o1'⟩
  have hkk : kd (nw X (ci + 1) 0) (nx X) = ci + 1 := by simp [nw, kd, va_up]
  have hci : ci < 6 := (List.getElem?_eq_some_iff.mp hclk).1
  refine ⟨fun ci' r h1 h2 => ?_, fun h => ?_, fun h => ?_, fun h => ?_, fun h => ?_, fun _ => by rw [z1]; omega⟩
  · have : ci' = ci := by omega
    subst this
    have hr := Option.some.inj (h2.symm.trans hclk)
    subst hr
    refine (u_born ty0 hts hin hKn hkC e1 hty).to (fun j hj => ?_)
    rw [hdf j hj]
    have hi0 : iv (nw X (ci' + 1) 0) (nx X) j = 0 := by simp [nw, iv, va_up]
    have hr0 : rv (nw X (ci' + 1) 0) (nx X) j = none := by simp [nw, rv, va_up]
    simp only [fv, hi0, hr0, nI_0, va_rf]
  all_goals (rw [hkk] at h; omega)
theorem q_newa (hC : cx p s m args c cc nL Ts own D cA) (hG : gw D cA A X s.heap H locs) (n : Nat) (hn : n < 2 ^ 27) (harr : (Cond.arrayClass .int).before args s = true) (hcells : cells + 1 ≤ R.cells) (hslots : slots + n ≤ R.slots) (hdg : decode cc pc = .ok (.newarray .int, 2))
    (kk : ∀ H1 : Heap, gw D cA A (nw X 7 n) s.heap H1 locs → W p l e R s m args below meth c H1 locs (cells + 1) (slots + n) Q (F0 m (pc + 2) ls (.ref (nx X) :: rest))) : W p l e R s m args below meth c H locs cells slots Q (F0 m pc ls (.int (nI n) :: rest)) := by
  obtain ⟨⟨hexec, hb, -, hown, hts⟩, hK⟩ := hC
  have hn' : n < 2 ^ 31 := by omega
  have hz0 : H.size = nx X := hG.1.1
  refine va_newaK hexec hb (atype := .int) harr rfl hdg rfl (nI_pos hn') (nI_clamp hn') (by show n * 4 ≤ 536870912; omega) hcells hslots hz0 fun H1 cA' e1 z1 o1 hAr hNm => ?_
  have hcA : cA' = cA 0 := Option.some.inj (hNm.symm.trans (hK.2 0 _ rfl).2)
  subst hcA
  have z1' : H1.size = H.size + 1 := by rw [z1, hz0]
  have o1' : ∀ q : Nat, q < H.size → H1[q]? = H[q]? := fun q h => o1 q (by rw [← hz0]; exact h)
  refine kk H1 ⟨wd_new hG.1 z1' o1' (ce_arr (k := 7) (by simp [nw, kd, va_up]) (by decide) (by rw [z1]; omega) (fun _ => ?_) (fun h => by cases h) (fun h => by cases h) (fun h => by cases h)), va_S_new hG.2 z1' o1'⟩
  rw [e1, show ln (nw X 7 n) (nx X) = n by simp [nw, ln, va_up], show iv (nw X 7 n) (nx X) = (fun _ => 0) by simp [nw, iv, va_up]]
  rfl
theorem q_newz (hC : cx p s m args c cc nL Ts own D cA) (hG : gw D cA A X s.heap H locs) (n : Nat) (hn : n < 2 ^ 27) (harr : (Cond.arrayClass .boolean).before args s = true) (hcells : cells + 1 ≤ R.cells) (hslots : slots + n ≤ R.slots) (hdg : decode cc pc = .ok (.newarray .boolean, 2))
    (kk : ∀ H1 : Heap, gw D cA A (nw X 8 n) s.heap H1 locs → W p l e R s m args below meth c H1 locs (cells + 1) (slots + n) Q (F0 m (pc + 2) ls (.ref (nx X) :: rest))) : W p l e R s m args below meth c H locs cells slots Q (F0 m pc ls (.int (nI n) :: rest)) := by
  obtain ⟨⟨hexec, hb, -, hown, hts⟩, hK⟩ := hC
  have hn' : n < 2 ^ 31 := by omega
  have hz0 : H.size = nx X := hG.1.1
  refine va_newaK hexec hb (atype := .boolean) harr rfl hdg rfl (nI_pos hn') (nI_clamp hn') (by show n * 1 ≤ 536870912; omega) hcells hslots hz0 fun H1 cA' e1 z1 o1 hAr hNm => ?_
  have hcA : cA' = cA 1 := Option.some.inj (hNm.symm.trans (hK.2 1 _ rfl).2)
  subst hcA
  have z1' : H1.size = H.size + 1 := by rw [z1, hz0]
  have o1' : ∀ q : Nat, q < H.size → H1[q]? = H[q]? := fun q h => o1 q (by rw [← hz0]; exact h)
  refine kk H1 ⟨wd_new hG.1 z1' o1' (ce_arr (k := 8) (by simp [nw, kd, va_up]) (by decide) (by rw [z1]; omega) (fun h => by cases h) (fun _ => ?_) (fun h => by cases h) (fun h => by cases h)), va_S_new hG.2 z1' o1'⟩
  rw [e1, show ln (nw X 8 n) (nx X) = n by simp [nw, ln, va_up], show iv (nw X 8 n) (nx X) = (fun _ => 0) by simp [nw, iv, va_up]]
  rfl
theorem q_newL (hC : cx p s m args c cc nL Ts own D cA) (hG : gw D cA A X s.heap H locs) (n : Nat) (hn : n < 2 ^ 27) {index : Nat} (hcl : (Cond.classLink own index RX0).before args s = true) (hov : (Cond.arrayOver (.object RX0)).before args s = true) (hcells : cells + 1 ≤ R.cells) (hslots : slots + n ≤ R.slots) (hdg : decode cc pc = .ok (.anewarray index, 3))
    (kk : ∀ H1 : Heap, gw D cA A (nw X 9 n) s.heap H1 locs → W p l e R s m args below meth c H1 locs (cells + 1) (slots + n) Q (F0 m (pc + 3) ls (.ref (nx X) :: rest))) : W p l e R s m args below meth c H locs cells slots Q (F0 m pc ls (.int (nI n) :: rest)) := by
  obtain ⟨⟨hexec, hb, -, hown, hts⟩, hK⟩ := hC
  have hn' : n < 2 ^ 31 := by omega
  have hz0 : H.size = nx X := hG.1.1
  have hcl' : (nI n).toNatClampNeg = n := nI_clamp hn'
  refine W.anew hexec hb hown hcl hov rfl hdg rfl (nI_pos hn') (by rw [hcl']; omega) hcells (by rw [hcl']; exact hslots) fun cA' kA comp f1 f2 f3 f4 => ?_
  rw [hcl', hz0]
  obtain ⟨_, _, _, _, _, k4⟩ := (hK.2 2 _ rfl).2
  have hcA : cA' = cA 2 := Option.some.inj (f1.symm.trans k4)
  subst hcA
  generalize hH1 : H.push ({ cls := cA 2, slots := Array.replicate n .null, vm := .none } : Cell) = H1
  have z1 : H1.size = H.size + 1 := by rw [← hH1, Array.size_push]
  have e1 : H1[nx X]? = some (arrV (cA 2) n (fun _ => .null)) := by rw [← hH1, ← hz0, Array.getElem?_push_size, ← arrV_new]
  have o1 : ∀ q : Nat, q < H.size → H1[q]? = H[q]? := fun q hq => by rw [← hH1, Array.getElem?_push, if_neg (Nat.ne_of_lt hq)]
  refine kk H1 ⟨wd_new hG.1 z1 o1 (ce_arr (k := 9) (by simp [nw, kd, va_up]) (by decide) (by rw [z1]; omega) (fun h => by cases h) (fun h => by cases h) (fun _ => ?_) (fun h => by cases h)), va_S_new hG.2 z1 o1⟩
  rw [e1, show ln (nw X 9 n) (nx X) = n by simp [nw, ln, va_up], show rv (nw X 9 n) (nx X) = (fun _ => none) by simp [nw, rv, va_up]]
  rfl
theorem q_newN (hC : cx p s m args c cc nL Ts own D cA) (hG : gw D cA A X s.heap H locs) (n : Nat) (hn : n < 2 ^ 27) {index : Nat} (hcl : (Cond.classLink own index RX2).before args s = true) (hov : (Cond.arrayOver (.object RX2)).before args s = true) (hcells : cells + 1 ≤ R.cells) (hslots : slots + n ≤ R.slots) (hdg : decode cc pc = .ok (.anewarray index, 3))
    (kk : ∀ H1 : Heap, gw D cA A (nw X 10 n) s.heap H1 locs → W p l e R s m args below meth c H1 locs (cells + 1) (slots + n) Q (F0 m (pc + 3) ls (.ref (nx X) :: rest))) : W p l e R s m args below meth c H locs cells slots Q (F0 m pc ls (.int (nI n) :: rest)) := by
  obtain ⟨⟨hexec, hb, -, hown, hts⟩, hK⟩ := hC
  have hn' : n < 2 ^ 31 := by omega
  have hz0 : H.size = nx X := hG.1.1
  have hcl' : (nI n).toNatClampNeg = n := nI_clamp hn'
  refine W.anew hexec hb hown hcl hov rfl hdg rfl (nI_pos hn') (by rw [hcl']; omega) hcells (by rw [hcl']; exact hslots) fun cA' kA comp f1 f2 f3 f4 => ?_
  rw [hcl', hz0]
  obtain ⟨_, _, _, _, _, k4⟩ := (hK.2 3 _ rfl).2
  have hcA : cA' = cA 3 := Option.some.inj (f1.symm.trans k4)
  subst hcA
  generalize hH1 : H.push ({ cls := cA 3, slots := Array.replicate n .null, vm := .none } : Cell) = H1
  have z1 : H1.size = H.size + 1 := by rw [← hH1, Array.size_push]
  have e1 : H1[nx X]? = some (arrV (cA 3) n (fun _ => .null)) := by rw [← hH1, ← hz0, Array.getElem?_push_size, ← arrV_new]
  have o1 : ∀ q : Nat, q < H.size → H1[q]? = H[q]? := fun q hq => by rw [← hH1, Array.getElem?_push, if_neg (Nat.ne_of_lt hq)]
  refine kk H1 ⟨wd_new hG.1 z1 o1 (ce_arr (k := 10) (by simp [nw, kd, va_up]) (by decide) (by rw [z1]; omega) (fun h => by cases h) (fun h => by cases h) (fun h => by cases h) (fun _ => ?_)), va_S_new hG.2 z1 o1⟩
  rw [e1, show ln (nw X 10 n) (nx X) = n by simp [nw, ln, va_up], show rv (nw X 10 n) (nx X) = (fun _ => none) by simp [nw, rv, va_up]]
  rfl
end QROWS2
end
section
section QCALLS
variable {p : Program} {l : Launch} {e : Env} {R : Room} {s : State} {m : MethodId} {args : Array Value} {below : List Frame} {meth : Method} {c : Code} {H : Heap} {locs : List Loc} {cells slots : Nat} {Q : State → Prop}
variable {cc : ByteArray} {pc nL : Nat} {ls : Array Slot} {rest : List Value} {D : va_G} {cA : Nat → ClassId} {A : Nat → Prop} {a : Nat} {X : Mem} {Ts : List Cond} {own : String}
theorem gs_blind (av : List Value) : FrameBlind (va_Pc av (gs D cA A X)) := fun a U g mk q => by
  obtain ⟨q0, qP, qK⟩ := q
  exact ⟨q0, qP, va_K.moved (u := U) (U := U.calling g mk a) (Vm.Alike.refl U.vm) qK⟩
theorem gs_of (hC : cx p s m args c cc nL Ts own D cA) (hG : gw D cA A X s.heap H locs) (av : List Value) : ∀ U : State, U.heap = H → s.WarmedH U.vm → va_Pc av (gs D cA A X) av.toArray U := fun U hU hW => ⟨rfl, by rw [hU]; exact hG.1, va_K.moved hW.alike hC.2⟩
/-- behind a call -/
theorem q_after {Qr : Option Value → Mem → Prop} {st0 : List Value} {a : Array Value} {mc ms : Nat} (hr : va_Run p l e R s m args below meth c H locs cells slots mc ms (F0 m pc ls st0) rest (mQ D cA A Qr a) A) (hG : gw D cA A X s.heap H locs)
    (kk : ∀ (v : Option Value) (X' : Mem) (H1 : Heap) (locs1 : List Loc), Qr v X' → gw D cA A X' s.heap H1 locs1 → W p l e R s m args below meth c H1 locs1 (cells + mc) (slots + ms) Q (F0 m (pc + 3) ls (v.toList ++ rest))) : W p l e R s m args below meth c H locs cells slots Q (F0 m pc ls st0) := by
  intro T hT Y
  obtain ⟨v, st₀, t, T', L, h0, Y', hL, e1, e2, ⟨v', X', hv, hq, hs, hz, hk⟩, st⟩ := hr T hT Y
  cases hv
  rw [h0] at hz hk
  have hS := hG.2
  obtain ⟨t2, a1, b1⟩ := kk v X' T'.heap (locs ++ L) hq ⟨by rw [e1]; exact hs.1, Nat.le_trans hS.1 (by rw [e1]; exact hz), fun q h1 h2 => by rw [e1, hk q (Nat.lt_of_lt_of_le h1 hS.1) h2]; exact hS.2.1 q h1 h2, fun q hq => by
      rcases List.mem_append.mp hq with h | h
      · exact hS.2.2 q h
      · exact hL q h⟩ T' rfl Y'
  exact ⟨t2, st t2 a1, b1⟩
theorem q_callV {y : MethodName} {ws ws' : List Cond} {rm : Room} {b : Nat} {As st0 : List Value} {Qr : Option Value → Mem → Prop} (hM : mt l D cA A y ws rm (.ref b :: As) X Qr) (hC : cx p s m args c cc nL Ts own D cA) (hG : gw D cA A X s.heap H locs) {C : String} {T : u_T} {N ci index maxL : Nat} {ty0 : Nat → FieldType} {bytes : ByteArray} {ret : Option FieldType} (hF : cF ci C T N ty0) (hk : kd X b = ci + 1) (n : Nat)
    (hT : GoodIn Ts (wsV own index C y ws)) (hw : ws = Cond.code y bytes maxL ret :: ws') (hd : y.cls = C ∧ y.cls ≠ "java/lang/invoke/MethodHandle" ∧ y.cls ≠ "java/lang/invoke/VarHandle" ∧ (parseMethodDescriptor y.desc).map (fun d => d.parameters.length) = some n) (hR : rm.frames + 1 ≤ R.frames ∧ 8 + (maxL + 11) + rm.locals ≤ R.locals)
    (hn : As.length = n) (hsz : ls.size = nL) (hst : st0 = As.reverse ++ .ref b :: rest) (hW : (rest.map fun v => v.category).sum ≤ 8) (hdg : decode cc pc = .ok (.invokevirtual index, 3)) (hf : cells + rm.cells ≤ R.cells ∧ slots + rm.slots ≤ R.slots)
    (kk : ∀ (v : Option Value) (X' : Mem) (H1 : Heap) (locs1 : List Loc), Qr v X' → gw D cA A X' s.heap H1 locs1 → W p l e R s m args below meth c H1 locs1 (cells + rm.cells) (slots + rm.slots) Q (F0 m (pc + 3) ls (v.toList ++ rest))) : W p l e R s m args below meth c H locs cells slots Q (F0 m pc ls st0) := by
  obtain ⟨hcl, -, -, -⟩ := hF
  have hKc := hC.2.1 ci _ hcl
  obtain ⟨cell, g1, g2, g3, -⟩ := (hG.1.2.1 b).1 ci _ hk hcl
  refine q_after (va_runV (As := As) (rest := rest) hC.1 hM (cwV n hC.1.2.2.2.2 hT hw rfl rfl hd hR) ⟨gs_blind _, ⟨cell, g1, by rw [g3]; rfl, by rw [g2]; exact hKc.2.1⟩, gs_of hC hG _⟩ rfl hn hsz hst (lv_room hW) hdg hf) hG kk
theorem q_callS {y : MethodName} {ws ws' : List Cond} {rm : Room} {As st0 : List Value} {Qr : Option Value → Mem → Prop} (hM : mt l D cA A y ws rm As X Qr) (hC : cx p s m args c cc nL Ts own D cA) (hG : gw D cA A X s.heap H locs) {index maxL : Nat} {bytes : ByteArray} {ret : Option FieldType} (n : Nat)
    (hT : GoodIn Ts (va_wsS own index y ws)) (hw : ws = Cond.code y bytes maxL ret :: ws') (hd : y.cls ≠ "java/lang/invoke/MethodHandle" ∧ y.cls ≠ "java/lang/invoke/VarHandle" ∧ (parseMethodDescriptor y.desc).map (fun d => d.parameters.length) = some n) (hR : rm.frames + 1 ≤ R.frames ∧ 8 + (maxL + 11) + rm.locals ≤ R.locals)
    (hn : As.length = n) (hsz : ls.size = nL) (hst : st0 = As.reverse ++ rest) (hW : (rest.map fun v => v.category).sum ≤ 8) (hdg : decode cc pc = .ok (.invokestatic index, 3)) (hf : cells + rm.cells ≤ R.cells ∧ slots + rm.slots ≤ R.slots)
    (kk : ∀ (v : Option Value) (X' : Mem) (H1 : Heap) (locs1 : List Loc), Qr v X' → gw D cA A X' s.heap H1 locs1 → W p l e R s m args below meth c H1 locs1 (cells + rm.cells) (slots + rm.slots) Q (F0 m (pc + 3) ls (v.toList ++ rest))) : W p l e R s m args below meth c H locs cells slots Q (F0 m pc ls st0) :=
  q_after (va_runS (As := As) (rest := rest) hC.1 hM (va_cwS n hC.1.2.2.2.2 hT hw rfl rfl hd hR) ⟨gs_blind _, gs_of hC hG _⟩ rfl hn hsz hst (lv_room hW) hdg hf) hG kk
theorem q_callI {y : MethodName} {ws ws' : List Cond} {rm : Room} {b : Nat} {As st0 : List Value} {Qr : Option Value → Mem → Prop} (hM : mt l D cA A y ws rm (.ref b :: As) X Qr) (hC : cx p s m args c cc nL Ts own D cA) (hG : gw D cA A X s.heap H locs) {index maxL : Nat} {bytes : ByteArray} (n : Nat)
    (hT : GoodIn Ts ws) (hw : ws = Cond.code y bytes maxL none :: ws') (hini : (Cond.initialized y.cls).before args s = true) (hl : (Cond.methodLink own index y).before args s = true) (hin : (Cond.instanceMethod y).before args s = true) (hy1 : y.name = "<init>") (hd : y.cls ≠ "java/lang/invoke/MethodHandle" ∧ y.cls ≠ "java/lang/invoke/VarHandle" ∧ (parseMethodDescriptor y.desc).map (fun d => d.parameters.length) = some n) (hR : rm.frames + 1 ≤ R.frames ∧ 8 + (maxL + 11) + rm.locals ≤ R.locals)
    (hn : As.length = n) (hsz : ls.size = nL) (hst : st0 = As.reverse ++ .ref b :: rest) (hW : (rest.map fun v => v.category).sum ≤ 8) (hdg : decode cc pc = .ok (.invokespecial index, 3)) (hf : cells + rm.cells ≤ R.cells ∧ slots + rm.slots ≤ R.slots)
    (kk : ∀ (v : Option Value) (X' : Mem) (H1 : Heap) (locs1 : List Loc), Qr v X' → gw D cA A X' s.heap H1 locs1 → W p l e R s m args below meth c H1 locs1 (cells + rm.cells) (slots + rm.slots) Q (F0 m (pc + 3) ls (v.toList ++ rest))) : W p l e R s m args below meth c H locs cells slots Q (F0 m pc ls st0) :=
  q_after (va_runI (As := As) (rest := rest) hC.1 hM (cwI n hC.1.2.2.2.2 hT hw rfl rfl hini hl hin hy1 hd hR) ⟨gs_blind _, gs_of hC hG _⟩ rfl hn hsz hst (lv_room hW) hdg hf) hG kk
/-- Object.<init> -/
theorem q_obj (hC : cx p s m args c cc nL Ts own D cA) {index : Nat} (hl : (Cond.methodLink own index objectInit).before args s = true) (hi : (Cond.instanceMethod objectInit).before args s = true) (hcd : (Cond.code objectInit ⟨#[0xb1]⟩ 1 none).before args s = true) (hsz : ls.size = nL) (hW : (rest.map fun v => v.category).sum ≤ 8) (hfr : 1 ≤ R.frames) (hlo : 20 ≤ R.locals) (hdg : decode cc pc = .ok (.invokespecial index, 3))
    (kk : W p l e R s m args below meth c H locs cells slots Q (F0 m (pc + 3) ls rest)) : W p l e R s m args below meth c H locs cells slots Q (F0 m pc ls (.ref a :: rest)) :=
  W.objInit hC.1.1 hC.1.2.1 hC.1.2.2.2.1 hl hi hcd rfl (by rw [hC.1.2.2.1]; exact hsz) rfl hdg hfr (by have := lv_room (m := m) (pc := pc) (ls := ls) (rest := .ref a :: rest) hW; omega) kk
/-- returns -/
theorem q_end {Qr : Option Value → Mem → Prop} (hC : cx p s m args c cc nL Ts own D cA) (hG : gw D cA A X s.heap H locs) {v : Option Value} (hq : Qr v X) : ∀ t : State, t.heap = H → s.WarmedH t.vm → mQ D cA A Qr args s (.returned v) t := fun t ht hW => ⟨v, X, rfl, hq, ⟨by rw [ht]; exact hG.1, va_K.moved hW.alike hC.2⟩, hG.2.F ht⟩
theorem q_iret {Qr : Option Value → Mem → Prop} {mc ms : Nat} (hC : cx p s m args c cc nL Ts own D cA) (hG : gw D cA A X s.heap H locs) (hr : meth.sig.returnType = some .int) (hlk : meth.locks = false) {v : Int32} (hq : Qr (some (.int v)) X) (hdg : decode cc pc = .ok (.ireturn, 1)) (h1 : cells ≤ mc := by first | exact Nat.zero_le _ | omega) (h2 : slots ≤ ms := by first | exact Nat.zero_le _ | omega) : W p l e R s m args below meth c H locs cells slots (MQ below (mQ D cA A Qr) args s mc ms A) (F0 m pc ls [.int v]) :=
  W.widen h1 h2 (W.iret hC.1.1 hC.1.2.1 hr (q_end hC hG hq) hG.2.2.2 hdg hlk)
theorem q_zret {Qr : Option Value → Mem → Prop} {mc ms : Nat} (hC : cx p s m args c cc nL Ts own D cA) (hG : gw D cA A X s.heap H locs) (hr : meth.sig.returnType = some .boolean) (hlk : meth.locks = false) {v : Nat} (hv : v ≤ 1) (hq : Qr (some (.int (nI v))) X) (hdg : decode cc pc = .ok (.ireturn, 1)) (h1 : cells ≤ mc := by first | exact Nat.zero_le _ | omega) (h2 : slots ≤ ms := by first | exact Nat.zero_le _ | omega) : W p l e R s m args below meth c H locs cells slots (MQ below (mQ D cA A Qr) args s mc ms A) (F0 m pc ls [.int (nI v)]) :=
  W.widen h1 h2 (W.zret hC.1.1 hC.1.2.1 hr (by rcases (show v = 0 ∨ v = 1 by omega) with rfl | rfl <;> rfl) (q_end hC hG hq) hG.2.2.2 hdg hlk)
theorem q_vret {Qr : Option Value → Mem → Prop} {mc ms : Nat} (hC : cx p s m args c cc nL Ts own D cA) (hG : gw D cA A X s.heap H locs) (hr : meth.sig.returnType = none) (hlk : meth.locks = false) (hq : Qr none X) (hdg : decode cc pc = .ok (.return_, 1)) (h1 : cells ≤ mc := by first | exact Nat.zero_le _ | omega) (h2 : slots ≤ ms := by first | exact Nat.zero_le _ | omega) : W p l e R s m args below meth c H locs cells slots (MQ below (mQ D cA A Qr) args s mc ms A) (F0 m pc ls []) :=
  W.widen h1 h2 (W.vret hC.1.1 hC.1.2.1 hr (q_end hC hG hq) hG.2.2.2 hdg hlk)
theorem q_lret {Qr : Option Value → Mem → Prop} {mc ms : Nat} (hC : cx p s m args c cc nL Ts own D cA) (hG : gw D cA A X s.heap H locs) (hr : meth.sig.returnType = some .long) (hlk : meth.locks = false) {v : Int64} (hq : Qr (some (.long v)) X) (hdg : decode cc pc = .ok (.lreturn, 1)) (h1 : cells ≤ mc := by first | exact Nat.zero_le _ | omega) (h2 : slots ≤ ms := by first | exact Nat.zero_le _ | omega) : W p l e R s m args below meth c H locs cells slots (MQ below (mQ D cA A Qr) args s mc ms A) (F0 m pc ls [.long v]) :=
  W.widen h1 h2 (W.lret hC.1.1 hC.1.2.1 hr (q_end hC hG hq) hG.2.2.2 hdg hlk)
theorem q_aret {Qr : Option Value → Mem → Prop} {mc ms : Nat} (hC : cx p s m args c cc nL Ts own D cA) (hG : gw D cA A X s.heap H locs) {rt : FieldType} (hr : meth.sig.returnType = some rt) (hrt : (∃ n, rt = .object n) ∨ ∃ t, rt = .array t) (hlk : meth.locks = false) {v : Option Nat} (hq : Qr (some (va_rf v)) X) (hdg : decode cc pc = .ok (.areturn, 1)) (h1 : cells ≤ mc := by first | exact Nat.zero_le _ | omega) (h2 : slots ≤ ms := by first | exact Nat.zero_le _ | omega) : W p l e R s m args below meth c H locs cells slots (MQ below (mQ D cA A Qr) args s mc ms A) (F0 m pc ls [va_rf v]) :=
  W.widen h1 h2 (W.aret hC.1.1 hC.1.2.1 hr hrt (va_rf_or v) (q_end hC hG hq) hG.2.2.2 hdg hlk)
end QCALLS
/-- a method's start -/
theorem q_start {l : Launch} {D : va_G} {cA : Nat → ClassId} {A : Nat → Prop} {X : Mem} {y : MethodName} {ws ws' : List Cond} {rm : Room} {cc : ByteArray} {maxL : Nat} {ret : Option FieldType} {av : List Value} {Q : Option Value → Mem → Prop} (hy : plainName y.cls = true) (hw : ws = Cond.code y cc maxL ret :: ws') (hav : (lg_sl av).length ≤ maxL)
    (body : ∀ (p : Program) (e : Env) (s : State) (m : MethodId) (args : Array Value) (below : List Frame) (meth : Method) (c : Code) (H : Heap) (locs : List Loc), cx p s m args c cc maxL ws y.cls D cA → meth.sig.returnType = ret → meth.locks = false → meth.name = y.name → gw D cA A X s.heap H locs → ∀ ls : Array Slot, lv_has ls maxL (lv_args 0 av) → W p l e rm s m args below meth c H locs 0 0 (MQ below (mQ D cA A Q) args s rm.cells rm.slots A) (F0 m 0 ls [])) : mt l D cA A y ws rm av X Q := by
  refine Met.ofW (cc := cc) (maxL := maxL) (ret := ret) hy hw ?_
  intro p e s m args below meth c s₁ B hml hv
  obtain ⟨rfl, hP, hK⟩ := hv
  have hts := atoms_spec (ws := ws) B.pre
  have hown : s.vm.findClass y.cls = some m.cls := findClass_of_methodNamed B.named
  rw [lg_entry_eq]
  exact body p e s m _ below meth c s.heap [] ⟨⟨B.exec, B.bytes, hml, hown, hts⟩, hK⟩ B.returns B.notSynchronized (name_of_methodNamed B.named B.method).1 ⟨hP, va_S.rf⟩ _ (lv_entry av hav)
/-! ints as naturals -/
section NROWS
variable {p : Program} {l : Launch} {e : Env} {R : Room} {s : State} {m : MethodId} {args : Array Value} {below : List Frame} {meth : Method} {c : Code} {H : Heap} {locs : List Loc} {cells slots : Nat} {Q : State → Prop}
variable {cc : ByteArray} {pc nL : Nat} {ls : Array Slot} {rest : List Value} {D : va_G} {cA : Nat → ClassId} {Ts : List Cond} {own : String}
theorem n_iconst (hC : cx p s m args c cc nL Ts own D cA) (n : Nat) (hdg : decode cc pc = .ok (.iconst n, 1)) (kk : W p l e R s m args below meth c H locs cells slots Q (F0 m (pc + 1) ls (.int (nI n) :: rest))) : W p l e R s m args below meth c H locs cells slots Q (F0 m pc ls rest) := lv_iconst hC.1.1 hC.1.2.1 hdg Int32.ofInt_eq_ofNat kk
theorem n_bipush (hC : cx p s m args c cc nL Ts own D cA) (n : Nat) (hn : n < 128) (hdg : decode cc pc = .ok (.bipush n, 2)) (kk : W p l e R s m args below meth c H locs cells slots Q (F0 m (pc + 2) ls (.int (nI n) :: rest))) : W p l e R s m args below meth c H locs cells slots Q (F0 m pc ls rest) := lv_bipush hC.1.1 hC.1.2.1 hdg ((by decide +kernel : ∀ n, n < 128 → (Int8.ofInt (n : Nat)).toInt32 = nI n) n hn) kk
theorem n_sipush (hC : cx p s m args c cc nL Ts own D cA) (n : Nat) (hn : (Int16.ofInt (n : Nat)).toInt32 = nI n) (hdg : decode cc pc = .ok (.sipush n, 3)) (kk : W p l e R s m args below meth c H locs cells slots Q (F0 m (pc + 3) ls (.int (nI n) :: rest))) : W p l e R s m args below meth c H locs cells slots Q (F0 m pc ls rest) := lv_sipush hC.1.1 hC.1.2.1 hdg hn kk
theorem n_iadd (hC : cx p s m args c cc nL Ts own D cA) {a b : Nat} (hdg : decode cc pc = .ok (.iadd, 1)) (kk : W p l e R s m args below meth c H locs cells slots Q (F0 m (pc + 1) ls (.int (nI (a + b)) :: rest))) : W p l e R s m args below meth c H locs cells slots Q (F0 m pc ls (.int (nI b) :: .int (nI a) :: rest)) := lv_iadd hC.1.1 hC.1.2.1 hdg (by rw [nI_add]; exact kk)
theorem n_isub (hC : cx p s m args c cc nL Ts own D cA) {a b : Nat} (h : b ≤ a) (hdg : decode cc pc = .ok (.isub, 1)) (kk : W p l e R s m args below meth c H locs cells slots Q (F0 m (pc + 1) ls (.int (nI (a - b)) :: rest))) : W p l e R s m args below meth c H locs cells slots Q (F0 m pc ls (.int (nI b) :: .int (nI a) :: rest)) := lv_isub hC.1.1 hC.1.2.1 hdg (by rw [pk_sub h]; exact kk)
theorem n_imul (hC : cx p s m args c cc nL Ts own D cA) {a b : Nat} (hdg : decode cc pc = .ok (.imul, 1)) (kk : W p l e R s m args below meth c H locs cells slots Q (F0 m (pc + 1) ls (.int (nI (a * b)) :: rest))) : W p l e R s m args below meth c H locs cells slots Q (F0 m pc ls (.int (nI b) :: .int (nI a) :: rest)) := lv_imul hC.1.1 hC.1.2.1 hdg (by rw [pk_mul]; exact kk)
theorem n_irem (hC : cx p s m args c cc nL Ts own D cA) {a d : Nat} (ha : a < 2 ^ 31) (h0 : 0 < d) (hd : d < 2 ^ 31) (hdg : decode cc pc = .ok (.irem, 1)) (kk : W p l e R s m args below meth c H locs cells slots Q (F0 m (pc + 1) ls (.int (nI (a % d)) :: rest))) : W p l e R s m args below meth c H locs cells slots Q (F0 m pc ls (.int (nI d) :: .int (nI a) :: rest)) := lv_irem hC.1.1 hC.1.2.1 hdg (nI_ne0 h0 hd) (by rw [pk_rem ha h0 hd]; exact kk)
theorem n_idiv (hC : cx p s m args c cc nL Ts own D cA) {a d : Nat} (ha : a < 2 ^ 31) (h0 : 0 < d) (hd : d < 2 ^ 31) (hdg : decode cc pc = .ok (.idiv, 1)) (kk : W p l e R s m args below meth c H locs cells slots Q (F0 m (pc + 1) ls (.int (nI (a / d)) :: rest))) : W p l e R s m args below meth c H locs cells slots Q (F0 m pc ls (.int (nI d) :: .int (nI a) :: rest)) := lv_idiv hC.1.1 hC.1.2.1 hdg (nI_ne0 h0 hd) (by rw [pk_div ha h0 hd]; exact kk)
theorem n_iinc (hC : cx p s m args c cc nL Ts own D cA) {i k a n : Nat} {lv lv' : List (Nat × Value)} (hdg : decode cc pc = .ok (.iinc i n, 3)) (h : lv_has ls nL lv) (hk : lv[k]? = some (i, .int (nI a))) (hn : i < nL) (hl : (i, Value.int (nI (a + n))) :: lv.filter (fun q => !(q.1 == i) && !(q.1 + 1 == i && q.2.category == 2)) = lv')
    (kk : ∀ ls' : Array Slot, lv_has ls' nL lv' → W p l e R s m args below meth c H locs cells slots Q (F0 m (pc + 3) ls' rest)) : W p l e R s m args below meth c H locs cells slots Q (F0 m pc ls rest) := lv_iinc (v := nI (a + n)) hC.1.1 hC.1.2.1 hdg h hk (by rw [Int32.ofInt_eq_ofNat]; exact nI_add a n) hn hl kk
theorem n_idec (hC : cx p s m args c cc nL Ts own D cA) {i k a : Nat} {lv lv' : List (Nat × Value)} (h0 : 0 < a) (hdg : decode cc pc = .ok (.iinc i (-1), 3)) (h : lv_has ls nL lv) (hk : lv[k]? = some (i, .int (nI a))) (hn : i < nL) (hl : (i, Value.int (nI (a - 1))) :: lv.filter (fun q => !(q.1 == i) && !(q.1 + 1 == i && q.2.category == 2)) = lv')
    (kk : ∀ ls' : Array Slot, lv_has ls' nL lv' → W p l e R s m args below meth c H locs cells slots Q (F0 m (pc + 3) ls' rest)) : W p l e R s m args below meth c H locs cells slots Q (F0 m pc ls rest) := lv_iinc (v := nI (a - 1)) hC.1.1 hC.1.2.1 hdg h hk (sb_m1 h0) hn hl kk
theorem n_ge (hC : cx p s m args c cc nL Ts own D cA) {a b : Nat} {off : Int} {tgt : Nat} (hdg : decode cc pc = .ok (.if_icmp .ge off, 3)) (ht : (pc : Int) + off = (tgt : Int)) (ha : a < 2 ^ 31) (hb : b < 2 ^ 31) (kt : b ≤ a → W p l e R s m args below meth c H locs cells slots Q (F0 m tgt ls rest)) (kf : a < b → W p l e R s m args below meth c H locs cells slots Q (F0 m (pc + 3) ls rest)) : W p l e R s m args below meth c H locs cells slots Q (F0 m pc ls (.int (nI b) :: .int (nI a) :: rest)) := lv_icmp_ge hC.1.1 hC.1.2.1 hdg ht (fun h => kt ((nI_leI hb ha).mp h)) (fun h => kf (Nat.lt_of_not_le fun z => h ((nI_leI hb ha).mpr z)))
theorem n_lt (hC : cx p s m args c cc nL Ts own D cA) {a b : Nat} {off : Int} {tgt : Nat} (hdg : decode cc pc = .ok (.if_icmp .lt off, 3)) (ht : (pc : Int) + off = (tgt : Int)) (ha : a < 2 ^ 31) (hb : b < 2 ^ 31) (kt : a < b → W p l e R s m args below meth c H locs cells slots Q (F0 m tgt ls rest)) (kf : b ≤ a → W p l e R s m args below meth c H locs cells slots Q (F0 m (pc + 3) ls rest)) : W p l e R s m args below meth c H locs cells slots Q (F0 m pc ls (.int (nI b) :: .int (nI a) :: rest)) := lv_icmp_lt hC.1.1 hC.1.2.1 hdg ht (fun h => kt ((nI_ltI ha hb).mp h)) (fun h => kf (Nat.le_of_not_lt fun z => h ((nI_ltI ha hb).mpr z)))
theorem n_gt (hC : cx p s m args c cc nL Ts own D cA) {a b : Nat} {off : Int} {tgt : Nat} (hdg : decode cc pc = .ok (.if_icmp .gt off, 3)) (ht : (pc : Int) + off = (tgt : Int)) (ha : a < 2 ^ 31) (hb : b < 2 ^ 31) (kt : b < a → W p l e R s m args below meth c H locs cells slots Q (F0 m tgt ls rest)) (kf : a ≤ b → W p l e R s m args below meth c H locs cells slots Q (F0 m (pc + 3) ls rest)) : W p l e R s m args below meth c H locs cells slots Q (F0 m pc ls (.int (nI b) :: .int (nI a) :: rest)) := lv_icmp_gt hC.1.1 hC.1.2.1 hdg ht (fun h => kt ((nI_ltI hb ha).mp h)) (fun h => kf (Nat.le_of_not_lt fun z => h ((nI_ltI hb ha).mpr z)))
theorem n_le (hC : cx p s m args c cc nL Ts own D cA) {a b : Nat} {off : Int} {tgt : Nat} (hdg : decode cc pc = .ok (.if_icmp .le off, 3)) (ht : (pc : Int) + off = (tgt : Int)) (ha : a < 2 ^ 31) (hb : b < 2 ^ 31) (kt : a ≤ b → W p l e R s m args below meth c H locs cells slots Q (F0 m tgt ls rest)) (kf : b < a → W p l e R s m args below meth c H locs cells slots Q (F0 m (pc + 3) ls rest)) : W p l e R s m args below meth c H locs cells slots Q (F0 m pc ls (.int (nI b) :: .int (nI a) :: rest)) := lv_icmp_le hC.1.1 hC.1.2.1 hdg ht (fun h => kt ((nI_leI ha hb).mp h)) (fun h => kf (Nat.lt_of_not_le fun z => h ((nI_leI ha hb).mpr z)))
theorem n_eq (hC : cx p s m args c cc nL Ts own D cA) {a b : Nat} {off : Int} {tgt : Nat} (hdg : decode cc pc = .ok (.if_icmp .eq off, 3)) (ht : (pc : Int) + off = (tgt : Int)) (ha : a < 2 ^ 31) (hb : b < 2 ^ 31) (kt : a = b → W p l e R s m args below meth c H locs cells slots Q (F0 m tgt ls rest)) (kf : a ≠ b → W p l e R s m args below meth c H locs cells slots Q (F0 m (pc + 3) ls rest)) : W p l e R s m args below meth c H locs cells slots Q (F0 m pc ls (.int (nI b) :: .int (nI a) :: rest)) := lv_icmp_eq hC.1.1 hC.1.2.1 hdg ht (fun h => kt ((nI_eq ha hb).mp h)) (fun h => kf (fun z => h ((nI_eq ha hb).mpr z)))
theorem n_ne (hC : cx p s m args c cc nL Ts own D cA) {a b : Nat} {off : Int} {tgt : Nat} (hdg : decode cc pc = .ok (.if_icmp .ne off, 3)) (ht : (pc : Int) + off = (tgt : Int)) (ha : a < 2 ^ 31) (hb : b < 2 ^ 31) (kt : a ≠ b → W p l e R s m args below meth c H locs cells slots Q (F0 m tgt ls rest)) (kf : a = b → W p l e R s m args below meth c H locs cells slots Q (F0 m (pc + 3) ls rest)) : W p l e R s m args below meth c H locs cells slots Q (F0 m pc ls (.int (nI b) :: .int (nI a) :: rest)) := lv_icmp_ne hC.1.1 hC.1.2.1 hdg ht (fun h => kt (fun z => h ((nI_eq ha hb).mpr z))) (fun h => kf ((nI_eq ha hb).mp h))
theorem n_ifeq (hC : cx p s m args c cc nL Ts own D cA) {a : Nat} {off : Int} {tgt : Nat} (hdg : decode cc pc = .ok (.ifCond .eq off, 3)) (ht : (pc : Int) + off = (tgt : Int)) (ha : a < 2 ^ 31) (kt : a = 0 → W p l e R s m args below meth c H locs cells slots Q (F0 m tgt ls rest)) (kf : a ≠ 0 → W p l e R s m args below meth c H locs cells slots Q (F0 m (pc + 3) ls rest)) : W p l e R s m args below meth c H locs cells slots Q (F0 m pc ls (.int (nI a) :: rest)) := lv_if_eq hC.1.1 hC.1.2.1 hdg ht (fun h => kt ((nI_eq ha (by decide)).mp (h.trans nI_0.symm))) (fun h => kf (fun z => h (by rw [z]; exact nI_0)))
theorem n_ifne (hC : cx p s m args c cc nL Ts own D cA) {a : Nat} {off : Int} {tgt : Nat} (hdg : decode cc pc = .ok (.ifCond .ne off, 3)) (ht : (pc : Int) + off = (tgt : Int)) (ha : a < 2 ^ 31) (kt : a ≠ 0 → W p l e R s m args below meth c H locs cells slots Q (F0 m tgt ls rest)) (kf : a = 0 → W p l e R s m args below meth c H locs cells slots Q (F0 m (pc + 3) ls rest)) : W p l e R s m args below meth c H locs cells slots Q (F0 m pc ls (.int (nI a) :: rest)) := lv_if_ne hC.1.1 hC.1.2.1 hdg ht (fun h => kt (fun z => h (by rw [z]; exact nI_0))) (fun h => kf ((nI_eq ha (by decide)).mp (h.trans nI_0.symm)))
end NROWS
/-! any int is nI of a natural -/
def tN (x : Int32) : Nat := x.toBitVec.toNat
theorem nI_tN (x : Int32) : nI (tN x) = x := by
  apply Int32.toBitVec_inj.mp
  simp [nI, tN]
end
section
/-! THE REFERENCE'S MEMORY: one object at mb; M k j is place j of the array in its field k (17, 18: the int fields letters, lost: place 0) -/
abbrev MM : Type := Nat → Nat → Nat
/-- fields that are arrays; the array's place behind the object; which are boolean; lengths -/
def ak (k : Nat) : Bool := Nat.ble 2 k && Nat.ble k 25 && !(k == 17) && !(k == 18)
def ao (k : Nat) : Nat := if k < 17 then k - 1 else k - 3
def fo (d : Nat) : Nat := if d < 16 then d + 1 else d + 3
def bo (k : Nat) : Bool := k == 8 || k == 11 || k == 12 || k == 14 || k == 16 || k == 24
def az (k : Nat) : Nat := match k with
  | 2 => 28320 | 3 => 295 | 4 => 295 | 5 => 5 | 6 => 5 | 7 => 5 | 8 => 5 | 9 => 5
  | 10 => 25 | 11 => 25 | 12 => 25 | 13 => 25 | 14 => 25 | 15 => 25 | 16 => 25
  | 25 => 8 | _ => 240
def sM (mb : Nat) (X : Mem) (M : MM) : Mem := (nx X, kd X, ln X, fun a j => if a = mb then (if j = 17 then M 17 0 else if j = 18 then M 18 0 else iv X a j) else if mb < a ∧ a < mb + 23 then M (fo (a - mb)) j else iv X a j, rv X)
def mS (mb n f : Nat) (X : Mem) : Prop := kd X mb = 6 ∧ iv X mb 0 = n ∧ iv X mb 1 = f ∧ (∀ k, ak k = true → rv X mb k = some (mb + ao k) ∧ kd X (mb + ao k) = (if bo k = true then 8 else 7) ∧ ln X (mb + ao k) = az k) ∧ ((n = 3 ∧ f = 1) ∨ (n = 5 ∧ f = 2))
def bk (k : Nat) : Bool := !(k == 2) && !(k == 18) && !(k == 25)
/-- whole numbers that are small; at most 240 letters -/
def bM (M : MM) : Prop := (∀ k j, bk k = true → M k j < 2147483648) ∧ M 17 0 ≤ 240
theorem bM_up {M : MM} (h : bM M) (k j : Nat) {v : Nat} (hv : v < 2147483648) (hk : k ≠ 17 := by decide) : bM (up2 M k j v) := by
  refine ⟨fun k' j' hk => ?_, ?_⟩
  · unfold up2
    split
    · exact hv
    · exact h.1 k' j' hk
  · rw [up2_ne _ _ (fun z => hk z.1.symm)]; exact h.2
theorem bM_upl {M : MM} (h : bM M) {v : Nat} (hv : v ≤ 240) : bM (up2 M 17 0 v) := by
  refine ⟨fun k' j' hk => ?_, ?_⟩
  · unfold up2
    split
    · omega
    · exact h.1 k' j' hk
  · rw [up2_self]; exact hv
theorem bM_upx {M : MM} (h : bM M) (k j : Nat) {v : Nat} (hk : bk k = false) : bM (up2 M k j v) := by
  refine ⟨fun k' j' hk' => ?_, ?_⟩
  · unfold up2
    split
    · rename_i hc
      rw [hc.1, hk] at hk'; cases hk'
    · exact h.1 k' j' hk'
  · rw [up2_ne _ _ (fun z => by rw [← z.1] at hk; cases hk)]; exact h.2
theorem az_lt (k : Nat) : az k < 2147483648 := by
  unfold az; split <;> decide
theorem ak_le {k : Nat} (h : ak k = true) : 2 ≤ k ∧ k ≤ 25 ∧ k ≠ 17 ∧ k ≠ 18 := by
  simp only [ak, Bool.and_eq_true, Nat.ble_eq, Bool.not_eq_true', beq_eq_false_iff_ne] at h
  exact ⟨h.1.1.1, h.1.1.2, h.1.2, h.2⟩
theorem fo_ao {k : Nat} (h : ak k = true) : 0 < ao k ∧ ao k < 23 ∧ fo (ao k) = k := by
  obtain ⟨h1, h2, h3, h4⟩ := ak_le h
  unfold ao fo
  split <;> split <;> omega
theorem sM_at {mb : Nat} {X : Mem} {M : MM} {k j : Nat} (h : ak k = true) : iv (sM mb X M) (mb + ao k) j = M k j := by
  obtain ⟨h1, h2, h3⟩ := fo_ao h
  show (if mb + ao k = mb then _ else if mb < mb + ao k ∧ mb + ao k < mb + 23 then M (fo (mb + ao k - mb)) j else _) = _
  rw [if_neg (by omega), if_pos (by omega), Nat.add_sub_cancel_left, h3]
theorem sM_set {mb : Nat} {X : Mem} {M : MM} {k j v : Nat} (h : ak k = true) : wI (sM mb X M) (mb + ao k) j v = sM mb X (up2 M k j v) := by
  obtain ⟨h1, h2, h3⟩ := fo_ao h
  have e17 : k ≠ 17 := (ak_le h).2.2.1
  have e18 : k ≠ 18 := (ak_le h).2.2.2
  refine Prod.ext rfl (Prod.ext rfl (Prod.ext rfl (Prod.ext ?_ rfl)))
  funext a i
  show up2 (iv (sM mb X M)) (mb + ao k) j v a i = (if a = mb then _ else if mb < a ∧ a < mb + 23 then up2 M k j v (fo (a - mb)) i else _)
  by_cases ha : a = mb
  · subst ha
    rw [up2_ne _ _ (by omega), if_pos rfl]
    show (if a = a then _ else _) = _
    rw [if_pos rfl]
    simp [up2, Ne.symm e17, Ne.symm e18]
  · rw [if_neg ha]
    by_cases hr : mb < a ∧ a < mb + 23
    · rw [if_pos hr]
      by_cases hk : fo (a - mb) = k
      · have hak : a = mb + ao k := by
          have : fo (a - mb) = fo (ao k) := by rw [hk, h3]
          unfold fo at this
          split at this <;> split at this <;> omega
        subst hak
        by_cases hi : i = j
        · subst hi; rw [up2_self, Nat.add_sub_cancel_left, h3, up2_self]
        · rw [up2_ne _ _ (fun hc => hi hc.2), sM_at h, Nat.add_sub_cancel_left, h3, up2_ne _ _ (fun hc => hi hc.2)]
      · rw [up2_ne _ _ (by
          intro hc; apply hk; rw [hc.1, Nat.add_sub_cancel_left, h3]), up2_ne _ _ (fun hc => hk hc.1)]
        show (if a = mb then _ else if mb < a ∧ a < mb + 23 then M (fo (a - mb)) i else _) = _
        rw [if_neg ha, if_pos hr]
    · rw [if_neg hr, up2_ne _ _ (by intro hc; apply hr; omega)]
      show (if a = mb then _ else if mb < a ∧ a < mb + 23 then _ else iv X a i) = _
      rw [if_neg ha, if_neg hr]
theorem sM_int {mb : Nat} {X : Mem} {M : MM} {k : Nat} (h : k = 17 ∨ k = 18) : iv (sM mb X M) mb k = M k 0 := by
  show (if mb = mb then (if k = 17 then M 17 0 else if k = 18 then M 18 0 else iv X mb k) else _) = _
  rw [if_pos rfl]
  rcases h with rfl | rfl <;> rfl
theorem sM_con {mb : Nat} {X : Mem} {M : MM} {k : Nat} (h : k ≠ 17 ∧ k ≠ 18) : iv (sM mb X M) mb k = iv X mb k := by
  show (if mb = mb then (if k = 17 then M 17 0 else if k = 18 then M 18 0 else iv X mb k) else _) = _
  rw [if_pos rfl, if_neg h.1, if_neg h.2]
theorem sM_seti {mb : Nat} {X : Mem} {M : MM} {k v : Nat} (h : k = 17 ∨ k = 18) : wI (sM mb X M) mb k v = sM mb X (up2 M k 0 v) := by
  refine Prod.ext rfl (Prod.ext rfl (Prod.ext rfl (Prod.ext ?_ rfl)))
  funext a i
  show up2 (iv (sM mb X M)) mb k v a i = (if a = mb then (if i = 17 then up2 M k 0 v 17 0 else if i = 18 then up2 M k 0 v 18 0 else iv X a i) else if mb < a ∧ a < mb + 23 then up2 M k 0 v (fo (a - mb)) i else iv X a i)
  by_cases ha : a = mb
  · subst ha
    rw [if_pos rfl]
    by_cases hi : i = k
    · subst hi
      rw [up2_self]
      rcases h with rfl | rfl <;> simp [up2]
    · rw [up2_ne _ _ (fun hc => hi hc.2)]
      show (if a = a then (if i = 17 then M 17 0 else if i = 18 then M 18 0 else iv X a i) else _) = _
      rw [if_pos rfl]
      rcases h with rfl | rfl
      · simp [hi, up2]
      · by_cases h17 : i = 17 <;> simp [h17, hi, up2]
  · rw [if_neg ha, up2_ne _ _ (fun hc => ha hc.1)]
    show (if a = mb then _ else if mb < a ∧ a < mb + 23 then M (fo (a - mb)) i else iv X a i) = _
    rw [if_neg ha]
    by_cases hr : mb < a ∧ a < mb + 23
    · rw [if_pos hr, if_pos hr, up2_ne]
      intro hc
      have : fo (a - mb) ≠ 17 ∧ fo (a - mb) ≠ 18 := by unfold fo; split <;> omega
      omega
    · rw [if_neg hr, if_neg hr]
section MROWS
variable {p : Program} {l : Launch} {e : Env} {R : Room} {s : State} {m : MethodId} {args : Array Value} {below : List Frame} {meth : Method} {c : Code} {H : Heap} {locs : List Loc} {cells slots : Nat} {Q : State → Prop}
variable {cc : ByteArray} {pc nL : Nat} {ls : Array Slot} {rest : List Value} {D : va_G} {cA : Nat → ClassId} {A : Nat → Prop} {X : Mem} {Ts : List Cond} {own : String} {mb n f : Nat} {M : MM}
theorem q_mg (hC : cx p s m args c cc nL Ts own D cA) (hG : gw D cA A (sM mb X M) s.heap H locs) (hS : mS mb n f X) (hin : ∀ w ∈ wsX50, w ∈ Ts) {index : Nat} (k : Nat) (hk : ak k = true) (hlink : (Cond.fieldLink own index (TX5 k).1 (TX5 k).2.1 (TX5 k).2.2.1).before args s = true) (hdg : decode cc pc = .ok (.getfield index, 3))
    (kk : W p l e R s m args below meth c H locs cells slots Q (F0 m (pc + 3) ls (.ref (mb + ao k) :: rest))) : W p l e R s m args below meth c H locs cells slots Q (F0 m pc ls (.ref mb :: rest)) :=
  q_getr hC hG cF5 hin hS.1 k (Nat.lt_succ_of_le (ak_le hk).2.1) (by
    obtain ⟨h1, h2, h3, h4⟩ := ak_le hk
    simp only [rf, Bool.not_eq_true', Bool.or_eq_false_iff, beq_eq_false_iff_ne]
    omega) (hS.2.2.2.1 k hk).1 hlink hdg kk
theorem q_ml (hC : cx p s m args c cc nL Ts own D cA) (hG : gw D cA A (sM mb X M) s.heap H locs) (hS : mS mb n f X) (k : Nat) (hk : ak k = true) (hb : bo k = false) {N j w : Nat} (hN : az k = N) (hj : j < N) (hw : M k j = w) (hdg : decode cc pc = .ok (.iaload, 1))
    (kk : W p l e R s m args below meth c H locs cells slots Q (F0 m (pc + 1) ls (.int (nI w) :: rest))) : W p l e R s m args below meth c H locs cells slots Q (F0 m pc ls (.int (nI j) :: .ref (mb + ao k) :: rest)) := by
  have h := (hS.2.2.2.1 k hk).2
  rw [hb] at h
  refine q_iald hC hG (n := N) h.1 (h.2.trans hN) hj (by rw [← hN]; exact az_lt k) hdg ?_
  rw [sM_at hk, hw]
  exact kk
theorem q_mlz (hC : cx p s m args c cc nL Ts own D cA) (hG : gw D cA A (sM mb X M) s.heap H locs) (hS : mS mb n f X) (k : Nat) (hk : ak k = true) (hb : bo k = true) {N j w : Nat} (hN : az k = N) (hj : j < N) (hw : M k j = w) (hdg : decode cc pc = .ok (.baload, 1))
    (kk : W p l e R s m args below meth c H locs cells slots Q (F0 m (pc + 1) ls (.int (nI w) :: rest))) : W p l e R s m args below meth c H locs cells slots Q (F0 m pc ls (.int (nI j) :: .ref (mb + ao k) :: rest)) := by
  have h := (hS.2.2.2.1 k hk).2
  rw [hb] at h
  refine q_zald hC hG (n := N) h.1 (h.2.trans hN) hj (by rw [← hN]; exact az_lt k) hdg ?_
  rw [sM_at hk, hw]
  exact kk
theorem q_ms (hC : cx p s m args c cc nL Ts own D cA) (hG : gw D cA A (sM mb X M) s.heap H locs) (hS : mS mb n f X) (k : Nat) (hk : ak k = true) (hb : bo k = false) {N j v : Nat} (hN : az k = N) (hj : j < N) (hdg : decode cc pc = .ok (.iastore, 1))
    (kk : ∀ (H1 : Heap) (locs1 : List Loc), gw D cA A (sM mb X (up2 M k j v)) s.heap H1 locs1 → W p l e R s m args below meth c H1 locs1 cells slots Q (F0 m (pc + 1) ls rest)) : W p l e R s m args below meth c H locs cells slots Q (F0 m pc ls (.int (nI v) :: .int (nI j) :: .ref (mb + ao k) :: rest)) := by
  have h := (hS.2.2.2.1 k hk).2
  rw [hb] at h
  refine q_iast hC hG (n := N) h.1 (h.2.trans hN) hj (by rw [← hN]; exact az_lt k) hdg (fun H1 l1 g => kk H1 l1 ?_)
  rw [sM_set hk] at g
  exact g
theorem q_msz (hC : cx p s m args c cc nL Ts own D cA) (hG : gw D cA A (sM mb X M) s.heap H locs) (hS : mS mb n f X) (k : Nat) (hk : ak k = true) (hb : bo k = true) {N j v : Nat} (hN : az k = N) (hj : j < N) (hv : v ≤ 1) (hdg : decode cc pc = .ok (.bastore, 1))
    (kk : ∀ (H1 : Heap) (locs1 : List Loc), gw D cA A (sM mb X (up2 M k j v)) s.heap H1 locs1 → W p l e R s m args below meth c H1 locs1 cells slots Q (F0 m (pc + 1) ls rest)) : W p l e R s m args below meth c H locs cells slots Q (F0 m pc ls (.int (nI v) :: .int (nI j) :: .ref (mb + ao k) :: rest)) := by
  have h := (hS.2.2.2.1 k hk).2
  rw [hb] at h
  refine q_zast hC hG (n := N) h.1 (h.2.trans hN) hj (by rw [← hN]; exact az_lt k) hv hdg (fun H1 l1 g => kk H1 l1 ?_)
  rw [sM_set hk] at g
  exact g
theorem q_mi (hC : cx p s m args c cc nL Ts own D cA) (hG : gw D cA A (sM mb X M) s.heap H locs) (hS : mS mb n f X) (hin : ∀ w ∈ wsX50, w ∈ Ts) {index w : Nat} (k : Nat) (hk : k = 17 ∨ k = 18) (hw : M k 0 = w) (hlink : (Cond.fieldLink own index (TX5 k).1 (TX5 k).2.1 (TX5 k).2.2.1).before args s = true) (hdg : decode cc pc = .ok (.getfield index, 3))
    (kk : W p l e R s m args below meth c H locs cells slots Q (F0 m (pc + 3) ls (.int (nI w) :: rest))) : W p l e R s m args below meth c H locs cells slots Q (F0 m pc ls (.ref mb :: rest)) :=
  q_geti hC hG cF5 hin hS.1 k (by rcases hk with rfl | rfl <;> decide) (by rcases hk with rfl | rfl <;> rfl) hlink hdg (by rw [sM_int hk, hw]; exact kk)
theorem q_mn (hC : cx p s m args c cc nL Ts own D cA) (hG : gw D cA A (sM mb X M) s.heap H locs) (hS : mS mb n f X) (hin : ∀ w ∈ wsX50, w ∈ Ts) {index : Nat} (hlink : (Cond.fieldLink own index (TX5 0).1 (TX5 0).2.1 (TX5 0).2.2.1).before args s = true) (hdg : decode cc pc = .ok (.getfield index, 3))
    (kk : W p l e R s m args below meth c H locs cells slots Q (F0 m (pc + 3) ls (.int (nI n) :: rest))) : W p l e R s m args below meth c H locs cells slots Q (F0 m pc ls (.ref mb :: rest)) :=
  q_geti hC hG cF5 hin hS.1 0 (by decide) rfl hlink hdg (by rw [sM_con ⟨by decide, by decide⟩, hS.2.1]; exact kk)
theorem q_mf (hC : cx p s m args c cc nL Ts own D cA) (hG : gw D cA A (sM mb X M) s.heap H locs) (hS : mS mb n f X) (hin : ∀ w ∈ wsX50, w ∈ Ts) {index : Nat} (hlink : (Cond.fieldLink own index (TX5 1).1 (TX5 1).2.1 (TX5 1).2.2.1).before args s = true) (hdg : decode cc pc = .ok (.getfield index, 3))
    (kk : W p l e R s m args below meth c H locs cells slots Q (F0 m (pc + 3) ls (.int (nI f) :: rest))) : W p l e R s m args below meth c H locs cells slots Q (F0 m pc ls (.ref mb :: rest)) :=
  q_geti hC hG cF5 hin hS.1 1 (by decide) rfl hlink hdg (by rw [sM_con ⟨by decide, by decide⟩, hS.2.2.1]; exact kk)
theorem q_mp (hC : cx p s m args c cc nL Ts own D cA) (hG : gw D cA A (sM mb X M) s.heap H locs) (hS : mS mb n f X) (hin : ∀ w ∈ wsX50, w ∈ Ts) {index v : Nat} (k : Nat) (hk : k = 17 ∨ k = 18) (hlink : (Cond.fieldLink own index (TX5 k).1 (TX5 k).2.1 (TX5 k).2.2.1).before args s = true) (hdg : decode cc pc = .ok (.putfield index, 3))
    (kk : ∀ (H1 : Heap) (locs1 : List Loc), gw D cA A (sM mb X (up2 M k 0 v)) s.heap H1 locs1 → W p l e R s m args below meth c H1 locs1 cells slots Q (F0 m (pc + 3) ls rest)) : W p l e R s m args below meth c H locs cells slots Q (F0 m pc ls (.int (nI v) :: .ref mb :: rest)) :=
  q_puti hC hG cF5 hin hS.1 k (by rcases hk with rfl | rfl <;> decide) (by rcases hk with rfl | rfl <;> rfl) hlink (Or.inl (by rcases hk with rfl | rfl <;> rfl)) (by rcases hk with rfl | rfl <;> rfl) (by rcases hk with rfl | rfl <;> rfl) hdg (fun H1 l1 g => kk H1 l1 (by rw [sM_seti hk] at g; exact g))
end MROWS
end
section
theorem nI_nm1 {b : Nat} (h : b < 2147483648) : ¬ nI b = (-1 : Int32) := by
  intro e
  have h1 : (nI b).toInt = (b : Int) := nI_toInt h
  rw [e] at h1
  have h2 : ((-1 : Int32)).toInt = -1 := by decide
  omega
theorem sw_out {x : Int32} {hi : Nat} (h : ∀ v : Nat, v ≤ hi → ¬ x = nI v) : x.toInt < 0 ∨ (hi : Int) < x.toInt := by
  by_cases h0 : x.toInt < 0
  · exact Or.inl h0
  · right
    have h1 : ¬ x < 0 := fun z => h0 (by have := Int32.lt_iff_toInt_lt.mp z; simpa using this)
    obtain ⟨j, hj, e⟩ := nI_of h1
    rw [e, nI_toInt hj]
    have : ¬ j ≤ hi := fun z => h j z e
    omega
end
section
def m_in (v lo hi : Int32) : Nat := if v < lo then 0 else if hi < v then 0 else 1
def m_les (a b : Nat) : Nat := if a < b then a else b
def m_gre (a b : Nat) : Nat := if b < a then a else b
def m_hl (k : Nat) : Nat := if k = 1 then 1 else if k = 4 then 1 else if k = 5 then 1 else if k = 7 then 1 else 0
def m_isNode (n : Nat) (i : Int32) : Nat := m_in i (nI 0) (nI (n - 1))
def m_fst (n : Nat) (M : MM) (i : Nat) : Nat := if M 6 i % n = i then 1 else 0
theorem m_in_le (v lo hi : Int32) : m_in v lo hi ≤ 1 := by unfold m_in; split <;> (try split) <;> decide
theorem m_hl_le (k : Nat) : m_hl k ≤ 1 := by unfold m_hl; split <;> (try split) <;> (try split) <;> (try split) <;> decide
theorem m_fst_le (n : Nat) (M : MM) (i : Nat) : m_fst n M i ≤ 1 := by unfold m_fst; split <;> decide
theorem m_les_le (a b : Nat) : m_les a b ≤ a ∧ m_les a b ≤ b := by unfold m_les; split <;> omega
theorem m_gre_le {a b c : Nat} (h1 : a < c) (h2 : b < c) : m_gre a b < c := by unfold m_gre; split <;> omega

abbrev rmX5_in : Room := { frames := 0, cells := 0, slots := 0, locals := 0 }
set_option maxHeartbeats 4000000 in
set_option maxRecDepth 100000 in
theorem k_X5_in (l : Launch) (D : va_G) (cA : Nat → ClassId) (A : Nat → Prop) (X : Mem) (a b c0 : Int32) : mt l D cA A yX5_in wsX5_in rmX5_in [.int a, .int b, .int c0] (X) (fun v Y => v = some (.int (nI (m_in a b c0))) ∧ Y = X) := by
  refine q_start (by decide) rfl (Nat.le_of_ble_eq_true rfl) (fun p e s m args below meth c H locs hC hr hlk hnm hG ls hl => ?_)
  have hl : lv_has ls 3 [(0, .int a), (1, .int b), (2, .int c0)] := hl
  have hx := hC.1.1
  have hb := hC.1.2.1
  have hts := hC.1.2.2.2.2
  refine lv_iload_n hx hb dX5_in_0 rfl (lv_at hl 0 rfl) ?_
  refine lv_iload_n hx hb dX5_in_1 rfl (lv_at hl 1 rfl) ?_
  refine lv_icmp_lt (tgt := 14) hx hb dX5_in_2 (by decide) (fun c2 => ?_) (fun c2 => ?_)
  · refine n_iconst hC 0 dX5_in_14 ?_
    exact q_zret (v := 0) hC hG hr hlk (by first | decide | omega) (⟨by simp [m_in, c2], rfl⟩) dX5_in_15
  · refine lv_iload_n hx hb dX5_in_5 rfl (lv_at hl 0 rfl) ?_
    refine lv_iload_n hx hb dX5_in_6 rfl (lv_at hl 2 rfl) ?_
    refine lv_icmp_gt (tgt := 14) hx hb dX5_in_7 (by decide) (fun c7 => ?_) (fun c7 => ?_)
    · refine n_iconst hC 0 dX5_in_14 ?_
      exact q_zret (v := 0) hC hG hr hlk (by first | decide | omega) (⟨by simp [m_in, c2, c7], rfl⟩) dX5_in_15
    · refine n_iconst hC 1 dX5_in_10 ?_
      refine lv_goto (tgt := 15) hx hb dX5_in_11 (by decide) ?_
      exact q_zret (v := 1) hC hG hr hlk (by first | decide | omega) (⟨by simp [m_in, c2, c7], rfl⟩) dX5_in_15

abbrev rmX5_lesser : Room := { frames := 0, cells := 0, slots := 0, locals := 0 }
set_option maxHeartbeats 4000000 in
set_option maxRecDepth 100000 in
theorem k_X5_lesser (l : Launch) (D : va_G) (cA : Nat → ClassId) (A : Nat → Prop) (X : Mem) (a b : Nat) (ha : a < 2147483648) (hb0 : b < 2147483648) : mt l D cA A yX5_lesser wsX5_lesser rmX5_lesser [.int (nI a), .int (nI b)] (X) (fun v Y => v = some (.int (nI (m_les a b))) ∧ Y = X) := by
  refine q_start (by decide) rfl (Nat.le_of_ble_eq_true rfl) (fun p e s m args below meth c H locs hC hr hlk hnm hG ls hl => ?_)
  have hl : lv_has ls 2 [(0, .int (nI a)), (1, .int (nI b))] := hl
  have hx := hC.1.1
  have hb := hC.1.2.1
  have hts := hC.1.2.2.2.2
  refine lv_iload_n hx hb dX5_lesser_0 rfl (lv_at hl 0 rfl) ?_
  refine lv_iload_n hx hb dX5_lesser_1 rfl (lv_at hl 1 rfl) ?_
  refine n_ge (tgt := 9) hC dX5_lesser_2 (by decide) (by omega) (by omega) (fun c2 => ?_) (fun c2 => ?_)
  · have c2n := Nat.not_lt.mpr c2
    refine lv_iload_n hx hb dX5_lesser_9 rfl (lv_at hl 1 rfl) ?_
    exact q_iret (v := (nI b)) hC hG hr hlk (⟨by simp only [m_les, c2, c2n, ↓reduceIte], rfl⟩) dX5_lesser_10
  · have c2n := Nat.not_le.mpr c2
    refine lv_iload_n hx hb dX5_lesser_5 rfl (lv_at hl 0 rfl) ?_
    refine lv_goto (tgt := 10) hx hb dX5_lesser_6 (by decide) ?_
    exact q_iret (v := (nI a)) hC hG hr hlk (⟨by simp only [m_les, c2, c2n, ↓reduceIte], rfl⟩) dX5_lesser_10

abbrev rmX5_greater : Room := { frames := 0, cells := 0, slots := 0, locals := 0 }
set_option maxHeartbeats 4000000 in
set_option maxRecDepth 100000 in
theorem k_X5_greater (l : Launch) (D : va_G) (cA : Nat → ClassId) (A : Nat → Prop) (X : Mem) (a b : Nat) (ha : a < 2147483648) (hb0 : b < 2147483648) : mt l D cA A yX5_greater wsX5_greater rmX5_greater [.int (nI a), .int (nI b)] (X) (fun v Y => v = some (.int (nI (m_gre a b))) ∧ Y = X) := by
  refine q_start (by decide) rfl (Nat.le_of_ble_eq_true rfl) (fun p e s m args below meth c H locs hC hr hlk hnm hG ls hl => ?_)
  have hl : lv_has ls 2 [(0, .int (nI a)), (1, .int (nI b))] := hl
  have hx := hC.1.1
  have hb := hC.1.2.1
  have hts := hC.1.2.2.2.2
  refine lv_iload_n hx hb dX5_greater_0 rfl (lv_at hl 0 rfl) ?_
  refine lv_iload_n hx hb dX5_greater_1 rfl (lv_at hl 1 rfl) ?_
  refine n_le (tgt := 9) hC dX5_greater_2 (by decide) (by omega) (by omega) (fun c2 => ?_) (fun c2 => ?_)
  · have c2n := Nat.not_lt.mpr c2
    refine lv_iload_n hx hb dX5_greater_9 rfl (lv_at hl 1 rfl) ?_
    exact q_iret (v := (nI b)) hC hG hr hlk (⟨by simp only [m_gre, c2, c2n, ↓reduceIte], rfl⟩) dX5_greater_10
  · have c2n := Nat.not_le.mpr c2
    refine lv_iload_n hx hb dX5_greater_5 rfl (lv_at hl 0 rfl) ?_
    refine lv_goto (tgt := 10) hx hb dX5_greater_6 (by decide) ?_
    exact q_iret (v := (nI a)) hC hG hr hlk (⟨by simp only [m_gre, c2, c2n, ↓reduceIte], rfl⟩) dX5_greater_10

abbrev rmX5_hasLog : Room := { frames := 0, cells := 0, slots := 0, locals := 0 }
set_option maxHeartbeats 4000000 in
set_option maxRecDepth 100000 in
theorem k_X5_hasLog (l : Launch) (D : va_G) (cA : Nat → ClassId) (A : Nat → Prop) (X : Mem) (k : Nat) (hk : k < 2147483648) : mt l D cA A yX5_hasLog wsX5_hasLog rmX5_hasLog [.int (nI k)] (X) (fun v Y => v = some (.int (nI (m_hl k))) ∧ Y = X) := by
  refine q_start (by decide) rfl (Nat.le_of_ble_eq_true rfl) (fun p e s m args below meth c H locs hC hr hlk hnm hG ls hl => ?_)
  have hl : lv_has ls 1 [(0, .int (nI k))] := hl
  have hx := hC.1.1
  have hb := hC.1.2.1
  have hts := hC.1.2.2.2.2
  refine lv_iload_n hx hb dX5_hasLog_0 rfl (lv_at hl 0 rfl) ?_
  refine n_iconst hC 1 dX5_hasLog_1 ?_
  refine n_eq (tgt := 21) hC dX5_hasLog_2 (by decide) (by omega) (by omega) (fun c2 => ?_) (fun c2 => ?_)
  · refine n_iconst hC 1 dX5_hasLog_21 ?_
    refine lv_goto (tgt := 26) hx hb dX5_hasLog_22 (by decide) ?_
    exact q_zret (v := 1) hC hG hr hlk (by first | decide | omega) (⟨by simp [m_hl, c2], rfl⟩) dX5_hasLog_26
  · refine lv_iload_n hx hb dX5_hasLog_5 rfl (lv_at hl 0 rfl) ?_
    refine n_iconst hC 4 dX5_hasLog_6 ?_
    refine n_eq (tgt := 21) hC dX5_hasLog_7 (by decide) (by omega) (by omega) (fun c7 => ?_) (fun c7 => ?_)
    · refine n_iconst hC 1 dX5_hasLog_21 ?_
      refine lv_goto (tgt := 26) hx hb dX5_hasLog_22 (by decide) ?_
      exact q_zret (v := 1) hC hG hr hlk (by first | decide | omega) (⟨by simp [m_hl, c2, c7], rfl⟩) dX5_hasLog_26
    · refine lv_iload_n hx hb dX5_hasLog_10 rfl (lv_at hl 0 rfl) ?_
      refine n_iconst hC 5 dX5_hasLog_11 ?_
      refine n_eq (tgt := 21) hC dX5_hasLog_12 (by decide) (by omega) (by omega) (fun c12 => ?_) (fun c12 => ?_)
      · refine n_iconst hC 1 dX5_hasLog_21 ?_
        refine lv_goto (tgt := 26) hx hb dX5_hasLog_22 (by decide) ?_
        exact q_zret (v := 1) hC hG hr hlk (by first | decide | omega) (⟨by simp [m_hl, c2, c7, c12], rfl⟩) dX5_hasLog_26
      · refine lv_iload_n hx hb dX5_hasLog_15 rfl (lv_at hl 0 rfl) ?_
        refine n_bipush hC 7 (by decide) dX5_hasLog_16 ?_
        refine n_ne (tgt := 25) hC dX5_hasLog_18 (by decide) (by omega) (by omega) (fun c18 => ?_) (fun c18 => ?_)
        · refine n_iconst hC 0 dX5_hasLog_25 ?_
          exact q_zret (v := 0) hC hG hr hlk (by first | decide | omega) (⟨by simp [m_hl, c2, c7, c12, c18], rfl⟩) dX5_hasLog_26
        · refine n_iconst hC 1 dX5_hasLog_21 ?_
          refine lv_goto (tgt := 26) hx hb dX5_hasLog_22 (by decide) ?_
          exact q_zret (v := 1) hC hG hr hlk (by first | decide | omega) (⟨by simp [m_hl, c2, c7, c12, c18], rfl⟩) dX5_hasLog_26

abbrev rmX5_isNode : Room := { frames := 1, cells := 0, slots := 0, locals := 22 }
set_option maxHeartbeats 4000000 in
set_option maxRecDepth 100000 in
theorem k_X5_isNode (l : Launch) (D : va_G) (cA : Nat → ClassId) (A : Nat → Prop) {mb n f : Nat} {X : Mem} {M : MM} (hS : mS mb n f X) (hB : bM M) (i : Int32) : mt l D cA A yX5_isNode wsX5_isNode rmX5_isNode [.ref mb, .int i] (sM mb X M) (fun v Y => v = some (.int (nI (m_isNode n i))) ∧ Y = sM mb X M) := by
  refine q_start (by decide) rfl (Nat.le_of_ble_eq_true rfl) (fun p e s m args below meth c H locs hC hr hlk hnm hG ls hl => ?_)
  have hl : lv_has ls 2 [(0, .ref mb), (1, .int i)] := hl
  have hx := hC.1.1
  have hb := hC.1.2.1
  have hts := hC.1.2.2.2.2
  have i5 : ∀ w ∈ wsX50, w ∈ wsX5_isNode := by decide +kernel
  have hnf := hS.2.2.2.2
  have k77 := hts (.fieldLink RX5 77 "ViewStampsModel" "n" "I") (by decide +kernel)
  refine lv_iload_n hx hb dX5_isNode_0 rfl (lv_at hl 1 rfl) ?_
  refine n_iconst hC 0 dX5_isNode_1 ?_
  refine lv_aload_n hx hb dX5_isNode_2 rfl (lv_at hl 0 rfl) ?_
  refine q_mn hC hG hS i5 k77 dX5_isNode_3 ?_
  refine n_iconst hC 1 dX5_isNode_6 ?_
  refine n_isub hC (by omega) dX5_isNode_7 ?_
  refine q_callS (rest := []) (k_X5_in l D cA A _ i (nI 0) (nI (n - 1))) hC hG 3 gX5_isNode_X5_in rfl (by decide +kernel) ⟨by decide, by decide⟩ rfl hl.1 rfl (by simp [Value.category]) dX5_isNode_8 ⟨Nat.le_of_ble_eq_true rfl, Nat.le_of_ble_eq_true rfl⟩ (fun v Y H locs hq hG => ?_)
  obtain ⟨rfl, rfl⟩ := hq
  have q8 := m_in_le i (nI 0) (nI (n - 1))
  exact q_zret (v := (m_in i (nI 0) (nI (n - 1)))) hC hG hr hlk (by first | decide | omega) (⟨rfl, rfl⟩) dX5_isNode_11

abbrev rmX5_isFirst : Room := { frames := 0, cells := 0, slots := 0, locals := 0 }
set_option maxHeartbeats 4000000 in
set_option maxRecDepth 100000 in
theorem k_X5_isFirst (l : Launch) (D : va_G) (cA : Nat → ClassId) (A : Nat → Prop) {mb n f : Nat} {X : Mem} {M : MM} (hS : mS mb n f X) (hB : bM M) (i : Nat) (hi : i < n) : mt l D cA A yX5_isFirst wsX5_isFirst rmX5_isFirst [.ref mb, .int (nI i)] (sM mb X M) (fun v Y => v = some (.int (nI (m_fst n M i))) ∧ Y = sM mb X M) := by
  refine q_start (by decide) rfl (Nat.le_of_ble_eq_true rfl) (fun p e s m args below meth c H locs hC hr hlk hnm hG ls hl => ?_)
  have hl : lv_has ls 2 [(0, .ref mb), (1, .int (nI i))] := hl
  have hx := hC.1.1
  have hb := hC.1.2.1
  have hts := hC.1.2.2.2.2
  have i5 : ∀ w ∈ wsX50, w ∈ wsX5_isFirst := by decide +kernel
  have hnf := hS.2.2.2.2
  have k22 := hts (.fieldLink RX5 22 "ViewStampsModel" "view" "[I") (by decide +kernel)
  have k77 := hts (.fieldLink RX5 77 "ViewStampsModel" "n" "I") (by decide +kernel)
  refine lv_aload_n hx hb dX5_isFirst_0 rfl (lv_at hl 0 rfl) ?_
  refine q_mg hC hG hS i5 6 rfl k22 dX5_isFirst_1 ?_
  refine lv_iload_n hx hb dX5_isFirst_4 rfl (lv_at hl 1 rfl) ?_
  refine q_ml (N := 5) (w := M 6 i) hC hG hS 6 rfl rfl rfl (by omega) rfl dX5_isFirst_5 ?_
  have b1 : M 6 i < 2147483648 := by have := hB.1 6 i rfl; first | exact this | (simp [up2, m_cp, m_cpk] at this; exact this) | omega
  refine lv_aload_n hx hb dX5_isFirst_6 rfl (lv_at hl 0 rfl) ?_
  refine q_mn hC hG hS i5 k77 dX5_isFirst_7 ?_
  refine n_irem hC (by omega) (by omega) (by omega) dX5_isFirst_10 ?_
  have r10 : (M 6 i) % n < n := Nat.mod_lt _ (by omega)
  refine lv_iload_n hx hb dX5_isFirst_11 rfl (lv_at hl 1 rfl) ?_
  refine n_ne (tgt := 19) hC dX5_isFirst_12 (by decide) (by omega) (by omega) (fun c12 => ?_) (fun c12 => ?_)
  · refine n_iconst hC 0 dX5_isFirst_19 ?_
    exact q_zret (v := 0) hC hG hr hlk (by first | decide | omega) (⟨by simp [m_fst, c12], rfl⟩) dX5_isFirst_20
  · refine n_iconst hC 1 dX5_isFirst_15 ?_
    refine lv_goto (tgt := 20) hx hb dX5_isFirst_16 (by decide) ?_
    exact q_zret (v := 1) hC hG hr hlk (by first | decide | omega) (⟨by simp [m_fst, c12], rfl⟩) dX5_isFirst_20

/-- the log of slot a copied to slot b, k places of it so far -/
def m_cpk (M : MM) (a b k : Nat) : MM := fun x j => if x = 2 then (if 96 * b ≤ j ∧ j < 96 * b + k then M 2 (96 * a + (j - 96 * b)) else M 2 j) else if x = 3 ∧ j = b then M 3 a else if x = 4 ∧ j = b then M 4 a else M x j
def m_cp (M : MM) (a b : Nat) : MM := m_cpk M a b 96
theorem m_cpk_0 (M : MM) (a b : Nat) : up2 (up2 M 3 b (M 3 a)) 4 b (M 4 a) = m_cpk M a b 0 := by
  funext x j
  unfold up2 m_cpk
  by_cases h2 : x = 2
  · subst h2; simp; intro h; omega
  · by_cases h3 : x = 3
    · subst h3; simp
    · simp [h2, h3]
theorem m_cpk_r (M : MM) {a b k : Nat} (hk : k < 96) : m_cpk M a b k 2 (96 * a + k) = M 2 (96 * a + k) := by
  unfold m_cpk
  rw [if_pos rfl]
  split
  · rename_i h
    have : a = b := by omega
    subst this
    omega
  · rfl
theorem m_cpk_s (M : MM) {a b k : Nat} (hk : k < 96) : up2 (m_cpk M a b k) 2 (96 * b + k) (m_cpk M a b k 2 (96 * a + k)) = m_cpk M a b (k + 1) := by
  rw [m_cpk_r M hk]
  funext x j
  by_cases h2 : x = 2
  · subst h2
    by_cases hj : j = 96 * b + k
    · subst hj
      rw [up2_self]
      unfold m_cpk
      rw [if_pos rfl, if_pos (by omega)]
      congr 1; omega
    · rw [up2_ne _ _ (by omega)]
      unfold m_cpk
      rw [if_pos rfl, if_pos rfl]
      by_cases hr : 96 * b ≤ j ∧ j < 96 * b + k
      · rw [if_pos hr, if_pos (by omega)]
      · rw [if_neg hr, if_neg (by omega)]
  · rw [up2_ne _ _ (fun h => h2 h.1)]
    unfold m_cpk
    rw [if_neg h2, if_neg h2]
theorem bM_cpk {M : MM} (h : bM M) (a b k : Nat) : bM (m_cpk M a b k) := by
  refine ⟨fun x j hx => ?_, ?_⟩
  · unfold m_cpk
    split
    · rename_i h2; subst h2; cases hx
    · split
      · exact h.1 _ _ rfl
      · split
        · exact h.1 _ _ rfl
        · exact h.1 _ _ hx
  · have : m_cpk M a b k 17 0 = M 17 0 := by simp [m_cpk]
    rw [this]; exact h.2
theorem bM_cp {M : MM} (h : bM M) (a b : Nat) : bM (m_cp M a b) := bM_cpk h a b 96

abbrev rmX5_copyLog : Room := { frames := 0, cells := 0, slots := 0, locals := 0 }
set_option maxHeartbeats 4000000 in
set_option maxRecDepth 100000 in
theorem k_X5_copyLog (l : Launch) (D : va_G) (cA : Nat → ClassId) (A : Nat → Prop) {mb n f : Nat} {X : Mem} {M : MM} (hS : mS mb n f X) (hB : bM M) (a b : Nat) (ha : a < 295) (hb0 : b < 295) : mt l D cA A yX5_copyLog wsX5_copyLog rmX5_copyLog [.ref mb, .int (nI a), .int (nI b)] (sM mb X M) (fun v Y => v = none ∧ Y = sM mb X (m_cp M a b)) := by
  refine q_start (by decide) rfl (Nat.le_of_ble_eq_true rfl) (fun p e s m args below meth c H locs hC hr hlk hnm hG ls hl => ?_)
  have hl : lv_has ls 4 [(0, .ref mb), (1, .int (nI a)), (2, .int (nI b))] := hl
  have hx := hC.1.1
  have hb := hC.1.2.1
  have hts := hC.1.2.2.2.2
  have i5 : ∀ w ∈ wsX50, w ∈ wsX5_copyLog := by decide +kernel
  have hnf := hS.2.2.2.2
  have hB0 := hB
  have k7 := hts (.fieldLink RX5 7 "ViewStampsModel" "logs" "[I") (by decide +kernel)
  have k13 := hts (.fieldLink RX5 13 "ViewStampsModel" "many" "[I") (by decide +kernel)
  have k16 := hts (.fieldLink RX5 16 "ViewStampsModel" "sure" "[I") (by decide +kernel)
  have loop : ∀ (d : Nat) (k : Nat) (H : Heap) (locs : List Loc) (ls : Array Slot), 96 - k < d → k ≤ 96 → bM (m_cpk M a b k) → gw D cA A (sM mb X (m_cpk M a b k)) s.heap H locs → lv_has ls 4 [(0, .ref mb), (1, .int (nI a)), (2, .int (nI b)), (3, .int (nI k))] → W p l e rmX5_copyLog s m args below meth c H locs 0 0 (MQ below (mQ D cA A (fun v Y => v = none ∧ Y = sM mb X (m_cp M a b))) args s rmX5_copyLog.cells rmX5_copyLog.slots A) (F0 m 26 ls []) := by
    intro d
    induction d with
    | zero => intro k H locs ls hd; exact absurd hd (Nat.not_lt_zero _)
    | succ d ih =>
      intro k H locs ls hd hk hB hG hl
      refine lv_iload_n hx hb dX5_copyLog_26 rfl (lv_at hl 3 rfl) ?_
      refine n_bipush hC 96 (by decide) dX5_copyLog_27 ?_
      refine n_ge (tgt := 60) hC dX5_copyLog_29 (by decide) (by omega) (by omega) (fun c29 => ?_) (fun c29 => ?_)
      · have c29n := Nat.not_lt.mpr c29
        exact q_vret hC hG hr hlk (⟨rfl, by rw [show k = 96 by omega]; rfl⟩) dX5_copyLog_60
      · have c29n := Nat.not_le.mpr c29
        refine lv_aload_n hx hb dX5_copyLog_32 rfl (lv_at hl 0 rfl) ?_
        refine q_mg hC hG hS i5 2 rfl k7 dX5_copyLog_33 ?_
        refine n_bipush hC 96 (by decide) dX5_copyLog_36 ?_
        refine lv_iload_n hx hb dX5_copyLog_38 rfl (lv_at hl 2 rfl) ?_
        refine n_imul hC dX5_copyLog_39 ?_
        refine lv_iload_n hx hb dX5_copyLog_40 rfl (lv_at hl 3 rfl) ?_
        refine n_iadd hC dX5_copyLog_41 ?_
        refine lv_aload_n hx hb dX5_copyLog_42 rfl (lv_at hl 0 rfl) ?_
        refine q_mg hC hG hS i5 2 rfl k7 dX5_copyLog_43 ?_
        refine n_bipush hC 96 (by decide) dX5_copyLog_46 ?_
        refine lv_iload_n hx hb dX5_copyLog_48 rfl (lv_at hl 1 rfl) ?_
        refine n_imul hC dX5_copyLog_49 ?_
        refine lv_iload_n hx hb dX5_copyLog_50 rfl (lv_at hl 3 rfl) ?_
        refine n_iadd hC dX5_copyLog_51 ?_
        refine q_ml (N := 28320) (w := (m_cpk M a b k) 2 ((96 * a) + k)) hC hG hS 2 rfl rfl rfl (by omega) rfl dX5_copyLog_52 ?_
        refine q_ms (N := 28320) hC hG hS 2 rfl rfl rfl (by omega) dX5_copyLog_53 (fun H locs hG => ?_)
        have hB := bM_upx hB 2 ((96 * b) + k) (v := (m_cpk M a b k) 2 ((96 * a) + k)) rfl
        refine n_iinc (n := 1) (k := 3) (lv' := [(3, .int (nI (k + 1))), (0, .ref mb), (1, .int (nI a)), (2, .int (nI b))]) hC dX5_copyLog_54 hl rfl (by decide) rfl (fun ls hl => ?_)
        refine lv_goto (tgt := 26) hx hb dX5_copyLog_57 (by decide) ?_
        have hG : gw D cA A (sM mb X (up2 (m_cpk M a b k) 2 (96 * b + k) (m_cpk M a b k 2 (96 * a + k)))) _ _ _ := hG
        rw [m_cpk_s M (by omega)] at hG
        exact ih (k + 1) _ _ _ (by omega) (by omega) (bM_cpk hB0 a b _) hG (lv_sub hl [1, 2, 3, 0] rfl)
  refine lv_aload_n hx hb dX5_copyLog_0 rfl (lv_at hl 0 rfl) ?_
  refine q_mg hC hG hS i5 3 rfl k13 dX5_copyLog_1 ?_
  refine lv_iload_n hx hb dX5_copyLog_4 rfl (lv_at hl 2 rfl) ?_
  refine lv_aload_n hx hb dX5_copyLog_5 rfl (lv_at hl 0 rfl) ?_
  refine q_mg hC hG hS i5 3 rfl k13 dX5_copyLog_6 ?_
  refine lv_iload_n hx hb dX5_copyLog_9 rfl (lv_at hl 1 rfl) ?_
  refine q_ml (N := 295) (w := M 3 a) hC hG hS 3 rfl rfl rfl (by omega) rfl dX5_copyLog_10 ?_
  have b1 : M 3 a < 2147483648 := by have := hB.1 3 a rfl; first | exact this | (simp [up2, m_cp, m_cpk] at this; exact this) | omega
  refine q_ms (N := 295) hC hG hS 3 rfl rfl rfl (by omega) dX5_copyLog_11 (fun H locs hG => ?_)
  have hB := bM_up hB 3 b (v := M 3 a) (by omega)
  refine lv_aload_n hx hb dX5_copyLog_12 rfl (lv_at hl 0 rfl) ?_
  refine q_mg hC hG hS i5 4 rfl k16 dX5_copyLog_13 ?_
  refine lv_iload_n hx hb dX5_copyLog_16 rfl (lv_at hl 2 rfl) ?_
  refine lv_aload_n hx hb dX5_copyLog_17 rfl (lv_at hl 0 rfl) ?_
  refine q_mg hC hG hS i5 4 rfl k16 dX5_copyLog_18 ?_
  refine lv_iload_n hx hb dX5_copyLog_21 rfl (lv_at hl 1 rfl) ?_
  refine q_ml (N := 295) (w := M 4 a) hC hG hS 4 rfl rfl rfl (by omega) (by simp [up2, m_cp, m_cpk]) dX5_copyLog_22 ?_
  have b2 : M 4 a < 2147483648 := by have := hB.1 4 a rfl; first | exact this | (simp [up2, m_cp, m_cpk] at this; exact this) | omega
  refine q_ms (N := 295) hC hG hS 4 rfl rfl rfl (by omega) dX5_copyLog_23 (fun H locs hG => ?_)
  have hB := bM_up hB 4 b (v := M 4 a) (by omega)
  refine n_iconst hC 0 dX5_copyLog_24 ?_
  refine lv_istore_n (lv' := [(3, .int (nI 0)), (0, .ref mb), (1, .int (nI a)), (2, .int (nI b))]) hx hb dX5_copyLog_25 rfl hl (by decide) rfl (fun ls hl => ?_)
  rw [m_cpk_0] at hG
  exact loop 97 0 _ _ _ (by omega) (by omega) (bM_cpk hB0 a b 0) hG (lv_sub hl [1, 2, 3, 0] rfl)
end
section
def m_p5 (M : MM) (i j k v c : Nat) : MM := up2 (up2 (up2 (up2 (up2 M 19 (M 17 0) i) 20 (M 17 0) j) 21 (M 17 0) k) 22 (M 17 0) v) 23 (M 17 0) c
/-- post(i, j, kind, v, count) -/
def m_post (M : MM) (i j k v c : Nat) : MM := if M 17 0 = 240 then up2 M 18 0 (M 18 0 + 1) else if m_hl k = 0 then up2 (m_p5 M i j k v c) 17 0 (M 17 0 + 1) else up2 (m_cp (m_p5 M i j k v c) i (55 + M 17 0)) 17 0 (M 17 0 + 1)
theorem bM_p5 {M : MM} (h : bM M) {i j k v c : Nat} (hi : i < 2147483648) (hj : j < 2147483648) (hk : k < 2147483648) (hv : v < 2147483648) (hc : c < 2147483648) : bM (m_p5 M i j k v c) := bM_up (bM_up (bM_up (bM_up (bM_up h 19 _ hi) 20 _ hj) 21 _ hk) 22 _ hv) 23 _ hc
theorem bM_post {M : MM} (h : bM M) {i j k v c : Nat} (hi : i < 2147483648) (hj : j < 2147483648) (hk : k < 2147483648) (hv : v < 2147483648) (hc : c < 2147483648) : bM (m_post M i j k v c) := by
  have h2 := h.2
  have h5 := bM_p5 h hi hj hk hv hc
  unfold m_post
  split
  · exact bM_upx h 18 0 rfl
  · split
    · exact bM_upl h5 (by omega)
    · exact bM_upl (bM_cp h5 _ _) (by omega)

abbrev rmX5_post : Room := { frames := 1, cells := 0, slots := 0, locals := 23 }
set_option maxHeartbeats 4000000 in
set_option maxRecDepth 100000 in
theorem k_X5_post (l : Launch) (D : va_G) (cA : Nat → ClassId) (A : Nat → Prop) {mb n f : Nat} {X : Mem} {M : MM} (hS : mS mb n f X) (hB : bM M) (i j k v c0 : Nat) (hi : i < n) (hj : j < 2147483648) (hk : k < 2147483648) (hv : v < 2147483648) (hc0 : c0 < 2147483648) : mt l D cA A yX5_post wsX5_post rmX5_post [.ref mb, .int (nI i), .int (nI j), .int (nI k), .int (nI v), .int (nI c0)] (sM mb X M) (fun w Y => w = none ∧ Y = sM mb X (m_post M i j k v c0)) := by
  refine q_start (by decide) rfl (Nat.le_of_ble_eq_true rfl) (fun p e s m args below meth c H locs hC hr hlk hnm hG ls hl => ?_)
  have hl : lv_has ls 6 [(0, .ref mb), (1, .int (nI i)), (2, .int (nI j)), (3, .int (nI k)), (4, .int (nI v)), (5, .int (nI c0))] := hl
  have hx := hC.1.1
  have hb := hC.1.2.1
  have hts := hC.1.2.2.2.2
  have i5 : ∀ w ∈ wsX50, w ∈ wsX5_post := by decide +kernel
  have hnf := hS.2.2.2.2
  have k56 := hts (.fieldLink RX5 56 "ViewStampsModel" "from" "[I") (by decide +kernel)
  have k59 := hts (.fieldLink RX5 59 "ViewStampsModel" "to" "[I") (by decide +kernel)
  have k62 := hts (.fieldLink RX5 62 "ViewStampsModel" "sort" "[I") (by decide +kernel)
  have k65 := hts (.fieldLink RX5 65 "ViewStampsModel" "letterView" "[I") (by decide +kernel)
  have k68 := hts (.fieldLink RX5 68 "ViewStampsModel" "counts" "[I") (by decide +kernel)
  have k88 := hts (.fieldLink RX5 88 "ViewStampsModel" "letters" "I") (by decide +kernel)
  have k91 := hts (.fieldLink RX5 91 "ViewStampsModel" "lost" "I") (by decide +kernel)
  refine lv_aload_n hx hb dX5_post_0 rfl (lv_at hl 0 rfl) ?_
  refine q_mi (w := M 17 0) hC hG hS i5 17 (by decide) rfl k88 dX5_post_1 ?_
  have b1 : M 17 0 ≤ 240 := by have := hB.2; first | exact this | (simp [up2, m_cp, m_cpk] at this; exact this) | omega
  refine n_sipush hC 240 (by decide +kernel) dX5_post_4 ?_
  refine n_ne (tgt := 21) hC dX5_post_7 (by decide) (by omega) (by omega) (fun c7 => ?_) (fun c7 => ?_)
  · refine lv_aload_n hx hb dX5_post_21 rfl (lv_at hl 0 rfl) ?_
    refine q_mg hC hG hS i5 19 rfl k56 dX5_post_22 ?_
    refine lv_aload_n hx hb dX5_post_25 rfl (lv_at hl 0 rfl) ?_
    refine q_mi (w := M 17 0) hC hG hS i5 17 (by decide) rfl k88 dX5_post_26 ?_
    have b2 : M 17 0 ≤ 240 := by have := hB.2; first | exact this | (simp [up2, m_cp, m_cpk] at this; exact this) | omega
    refine lv_iload_n hx hb dX5_post_29 rfl (lv_at hl 1 rfl) ?_
    refine q_ms (N := 240) hC hG hS 19 rfl rfl rfl (by omega) dX5_post_30 (fun H locs hG => ?_)
    have hB := bM_up hB 19 (M 17 0) (v := i) (by omega)
    refine lv_aload_n hx hb dX5_post_31 rfl (lv_at hl 0 rfl) ?_
    refine q_mg hC hG hS i5 20 rfl k59 dX5_post_32 ?_
    refine lv_aload_n hx hb dX5_post_35 rfl (lv_at hl 0 rfl) ?_
    refine q_mi (w := M 17 0) hC hG hS i5 17 (by decide) (by simp [up2, m_cp, m_cpk]) k88 dX5_post_36 ?_
    have b3 : M 17 0 ≤ 240 := by have := hB.2; first | exact this | (simp [up2, m_cp, m_cpk] at this; exact this) | omega
    refine lv_iload_n hx hb dX5_post_39 rfl (lv_at hl 2 rfl) ?_
    refine q_ms (N := 240) hC hG hS 20 rfl rfl rfl (by omega) dX5_post_40 (fun H locs hG => ?_)
    have hB := bM_up hB 20 (M 17 0) (v := j) (by omega)
    refine lv_aload_n hx hb dX5_post_41 rfl (lv_at hl 0 rfl) ?_
    refine q_mg hC hG hS i5 21 rfl k62 dX5_post_42 ?_
    refine lv_aload_n hx hb dX5_post_45 rfl (lv_at hl 0 rfl) ?_
    refine q_mi (w := M 17 0) hC hG hS i5 17 (by decide) (by simp [up2, m_cp, m_cpk]) k88 dX5_post_46 ?_
    have b4 : M 17 0 ≤ 240 := by have := hB.2; first | exact this | (simp [up2, m_cp, m_cpk] at this; exact this) | omega
    refine lv_iload_n hx hb dX5_post_49 rfl (lv_at hl 3 rfl) ?_
    refine q_ms (N := 240) hC hG hS 21 rfl rfl rfl (by omega) dX5_post_50 (fun H locs hG => ?_)
    have hB := bM_up hB 21 (M 17 0) (v := k) (by omega)
    refine lv_aload_n hx hb dX5_post_51 rfl (lv_at hl 0 rfl) ?_
    refine q_mg hC hG hS i5 22 rfl k65 dX5_post_52 ?_
    refine lv_aload_n hx hb dX5_post_55 rfl (lv_at hl 0 rfl) ?_
    refine q_mi (w := M 17 0) hC hG hS i5 17 (by decide) (by simp [up2, m_cp, m_cpk]) k88 dX5_post_56 ?_
    have b5 : M 17 0 ≤ 240 := by have := hB.2; first | exact this | (simp [up2, m_cp, m_cpk] at this; exact this) | omega
    refine lv_iload hx hb dX5_post_59 (lv_at hl 4 rfl) ?_
    refine q_ms (N := 240) hC hG hS 22 rfl rfl rfl (by omega) dX5_post_61 (fun H locs hG => ?_)
    have hB := bM_up hB 22 (M 17 0) (v := v) (by omega)
    refine lv_aload_n hx hb dX5_post_62 rfl (lv_at hl 0 rfl) ?_
    refine q_mg hC hG hS i5 23 rfl k68 dX5_post_63 ?_
    refine lv_aload_n hx hb dX5_post_66 rfl (lv_at hl 0 rfl) ?_
    refine q_mi (w := M 17 0) hC hG hS i5 17 (by decide) (by simp [up2, m_cp, m_cpk]) k88 dX5_post_67 ?_
    have b6 : M 17 0 ≤ 240 := by have := hB.2; first | exact this | (simp [up2, m_cp, m_cpk] at this; exact this) | omega
    refine lv_iload hx hb dX5_post_70 (lv_at hl 5 rfl) ?_
    refine q_ms (N := 240) hC hG hS 23 rfl rfl rfl (by omega) dX5_post_72 (fun H locs hG => ?_)
    have hB := bM_up hB 23 (M 17 0) (v := c0) (by omega)
    refine lv_iload_n hx hb dX5_post_73 rfl (lv_at hl 3 rfl) ?_
    refine q_callS (rest := []) (k_X5_hasLog l D cA A _ k (by omega)) hC hG 1 gX5_post_X5_hasLog rfl (by decide +kernel) ⟨by decide, by decide⟩ rfl hl.1 rfl (by simp [Value.category]) dX5_post_74 ⟨Nat.le_of_ble_eq_true rfl, Nat.le_of_ble_eq_true rfl⟩ (fun v Y H locs hq hG => ?_)
    obtain ⟨rfl, rfl⟩ := hq
    have q74 := m_hl_le k
    refine n_ifeq (tgt := 92) hC dX5_post_77 (by decide) (by omega) (fun c77 => ?_) (fun c77 => ?_)
    · refine lv_aload_n hx hb dX5_post_92 rfl (lv_at hl 0 rfl) ?_
      refine lv_dup hx hb dX5_post_93 rfl ?_
      refine q_mi (w := M 17 0) hC hG hS i5 17 (by decide) (by simp [up2, m_cp, m_cpk]) k88 dX5_post_94 ?_
      have b7 : M 17 0 ≤ 240 := by have := hB.2; first | exact this | (simp [up2, m_cp, m_cpk] at this; exact this) | omega
      refine n_iconst hC 1 dX5_post_97 ?_
      refine n_iadd hC dX5_post_98 ?_
      refine q_mp hC hG hS i5 17 (by decide) k88 dX5_post_99 (fun H locs hG => ?_)
      have hB := bM_upl hB (v := (M 17 0) + 1) (by omega)
      exact q_vret hC hG hr hlk (⟨rfl, by simp only [m_post, m_p5, c7, c77, ↓reduceIte]⟩) dX5_post_102
    · refine lv_aload_n hx hb dX5_post_80 rfl (lv_at hl 0 rfl) ?_
      refine lv_iload_n hx hb dX5_post_81 rfl (lv_at hl 1 rfl) ?_
      refine n_bipush hC 55 (by decide) dX5_post_82 ?_
      refine lv_aload_n hx hb dX5_post_84 rfl (lv_at hl 0 rfl) ?_
      refine q_mi (w := M 17 0) hC hG hS i5 17 (by decide) (by simp [up2, m_cp, m_cpk]) k88 dX5_post_85 ?_
      have b8 : M 17 0 ≤ 240 := by have := hB.2; first | exact this | (simp [up2, m_cp, m_cpk] at this; exact this) | omega
      refine n_iadd hC dX5_post_88 ?_
      refine q_callV (rest := []) (k_X5_copyLog l D cA A hS hB i (55 + (M 17 0)) (by omega) (by omega)) hC hG cF5 hS.1 2 gX5_post_X5_copyLog rfl (by decide +kernel) ⟨by decide, by decide⟩ rfl hl.1 rfl (by simp [Value.category]) dX5_post_89 ⟨Nat.le_of_ble_eq_true rfl, Nat.le_of_ble_eq_true rfl⟩ (fun v Y H locs hq hG => ?_)
      obtain ⟨rfl, rfl⟩ := hq
      have hB := bM_cp hB i (55 + (M 17 0))
      refine lv_aload_n hx hb dX5_post_92 rfl (lv_at hl 0 rfl) ?_
      refine lv_dup hx hb dX5_post_93 rfl ?_
      refine q_mi (w := M 17 0) hC hG hS i5 17 (by decide) (by simp [up2, m_cp, m_cpk]) k88 dX5_post_94 ?_
      have b9 : M 17 0 ≤ 240 := by have := hB.2; first | exact this | (simp [up2, m_cp, m_cpk] at this; exact this) | omega
      refine n_iconst hC 1 dX5_post_97 ?_
      refine n_iadd hC dX5_post_98 ?_
      refine q_mp hC hG hS i5 17 (by decide) k88 dX5_post_99 (fun H locs hG => ?_)
      have hB := bM_upl hB (v := (M 17 0) + 1) (by omega)
      exact q_vret hC hG hr hlk (⟨rfl, by simp only [m_post, m_p5, c7, c77, ↓reduceIte]⟩) dX5_post_102
  · refine lv_aload_n hx hb dX5_post_10 rfl (lv_at hl 0 rfl) ?_
    refine lv_dup hx hb dX5_post_11 rfl ?_
    refine q_mi (w := M 18 0) hC hG hS i5 18 (by decide) rfl k91 dX5_post_12 ?_
    refine n_iconst hC 1 dX5_post_15 ?_
    refine n_iadd hC dX5_post_16 ?_
    refine q_mp hC hG hS i5 18 (by decide) k91 dX5_post_17 (fun H locs hG => ?_)
    have hB := bM_upx hB 18 0 (v := (M 18 0) + 1) rfl
    exact q_vret hC hG hr hlk (⟨rfl, by simp only [m_post, m_p5, c7, ↓reduceIte]⟩) dX5_post_20

/-- postAll: to the nodes below the last number -/
def m_pa (M : MM) (i k v c : Nat) : Nat → MM
  | 0 => M
  | j + 1 => if j = i then m_pa M i k v c j else m_post (m_pa M i k v c j) i j k v c
theorem bM_pa {M : MM} (h : bM M) {i k v c : Nat} (hi : i < 2147483648) (hk : k < 2147483648) (hv : v < 2147483648) (hc : c < 2147483648) : ∀ j, j < 2147483648 → bM (m_pa M i k v c j) := by
  intro j
  induction j with
  | zero => intro _; exact h
  | succ j ih =>
    intro hj
    unfold m_pa
    split
    · exact ih (by omega)
    · exact bM_post (ih (by omega)) hi (by omega) hk hv hc

abbrev rmX5_postAll : Room := { frames := 2, cells := 0, slots := 0, locals := 48 }
set_option maxHeartbeats 4000000 in
set_option maxRecDepth 100000 in
theorem k_X5_postAll (l : Launch) (D : va_G) (cA : Nat → ClassId) (A : Nat → Prop) {mb n f : Nat} {X : Mem} {M : MM} (hS : mS mb n f X) (hB : bM M) (i k v c0 : Nat) (hi : i < n) (hk : k < 2147483648) (hv : v < 2147483648) (hc0 : c0 < 2147483648) : mt l D cA A yX5_postAll wsX5_postAll rmX5_postAll [.ref mb, .int (nI i), .int (nI k), .int (nI v), .int (nI c0)] (sM mb X M) (fun w Y => w = some (.int (nI (n - 1))) ∧ Y = sM mb X (m_pa M i k v c0 n)) := by
  refine q_start (by decide) rfl (Nat.le_of_ble_eq_true rfl) (fun p e s m args below meth c H locs hC hr hlk hnm hG ls hl => ?_)
  have hl : lv_has ls 6 [(0, .ref mb), (1, .int (nI i)), (2, .int (nI k)), (3, .int (nI v)), (4, .int (nI c0))] := hl
  have hx := hC.1.1
  have hb := hC.1.2.1
  have hts := hC.1.2.2.2.2
  have i5 : ∀ w ∈ wsX50, w ∈ wsX5_postAll := by decide +kernel
  have hnf := hS.2.2.2.2
  have k77 := hts (.fieldLink RX5 77 "ViewStampsModel" "n" "I") (by decide +kernel)
  have loop : ∀ (d : Nat) (j : Nat) (H : Heap) (locs : List Loc) (ls : Array Slot), n - j < d → j ≤ n → bM (m_pa M i k v c0 j) → gw D cA A (sM mb X (m_pa M i k v c0 j)) s.heap H locs → lv_has ls 6 [(0, .ref mb), (1, .int (nI i)), (2, .int (nI k)), (3, .int (nI v)), (4, .int (nI c0)), (5, .int (nI j))] → W p l e rmX5_postAll s m args below meth c H locs 0 0 (MQ below (mQ D cA A (fun w Y => w = some (.int (nI (n - 1))) ∧ Y = sM mb X (m_pa M i k v c0 n))) args s rmX5_postAll.cells rmX5_postAll.slots A) (F0 m 3 ls []) := by
    intro d
    induction d with
    | zero => intro j H locs ls hd; exact absurd hd (Nat.not_lt_zero _)
    | succ d ih =>
      intro j H locs ls hd hj hB hG hl
      refine lv_iload hx hb dX5_postAll_3 (lv_at hl 5 rfl) ?_
      refine lv_aload_n hx hb dX5_postAll_5 rfl (lv_at hl 0 rfl) ?_
      refine q_mn hC hG hS i5 k77 dX5_postAll_6 ?_
      refine n_ge (tgt := 35) hC dX5_postAll_9 (by decide) (by omega) (by omega) (fun c9 => ?_) (fun c9 => ?_)
      · have c9n := Nat.not_lt.mpr c9
        refine lv_aload_n hx hb dX5_postAll_35 rfl (lv_at hl 0 rfl) ?_
        refine q_mn hC hG hS i5 k77 dX5_postAll_36 ?_
        refine n_iconst hC 1 dX5_postAll_39 ?_
        refine n_isub hC (by omega) dX5_postAll_40 ?_
        exact q_iret (v := (nI (n - 1))) hC hG hr hlk (⟨rfl, by rw [show j = n by omega]⟩) dX5_postAll_41
      · have c9n := Nat.not_le.mpr c9
        refine lv_iload hx hb dX5_postAll_12 (lv_at hl 5 rfl) ?_
        refine lv_iload_n hx hb dX5_postAll_14 rfl (lv_at hl 1 rfl) ?_
        refine n_eq (tgt := 29) hC dX5_postAll_15 (by decide) (by omega) (by omega) (fun c15 => ?_) (fun c15 => ?_)
        · refine n_iinc (n := 1) (k := 5) (lv' := [(5, .int (nI (j + 1))), (0, .ref mb), (1, .int (nI i)), (2, .int (nI k)), (3, .int (nI v)), (4, .int (nI c0))]) hC dX5_postAll_29 hl rfl (by decide) rfl (fun ls hl => ?_)
          refine lv_goto (tgt := 3) hx hb dX5_postAll_32 (by decide) ?_
          have e9 : m_pa M i k v c0 (j + 1) = m_pa M i k v c0 j := by simp only [m_pa, c15, ↓reduceIte]
          exact ih (j + 1) _ _ _ (by omega) (by omega) (by rw [e9]; exact hB) (by rw [e9]; exact hG) (lv_sub hl [1, 2, 3, 4, 5, 0] rfl)
        · refine lv_aload_n hx hb dX5_postAll_18 rfl (lv_at hl 0 rfl) ?_
          refine lv_iload_n hx hb dX5_postAll_19 rfl (lv_at hl 1 rfl) ?_
          refine lv_iload hx hb dX5_postAll_20 (lv_at hl 5 rfl) ?_
          refine lv_iload_n hx hb dX5_postAll_22 rfl (lv_at hl 2 rfl) ?_
          refine lv_iload_n hx hb dX5_postAll_23 rfl (lv_at hl 3 rfl) ?_
          refine lv_iload hx hb dX5_postAll_24 (lv_at hl 4 rfl) ?_
          refine q_callV (rest := []) (k_X5_post l D cA A hS hB i j k v c0 (by omega) (by omega) (by omega) (by omega) (by omega)) hC hG cF5 hS.1 5 gX5_postAll_X5_post rfl (by decide +kernel) ⟨by decide, by decide⟩ rfl hl.1 rfl (by simp [Value.category]) dX5_postAll_26 ⟨Nat.le_of_ble_eq_true rfl, Nat.le_of_ble_eq_true rfl⟩ (fun v Y H locs hq hG => ?_)
          obtain ⟨rfl, rfl⟩ := hq
          have hB := bM_post (i := i) (j := j) (k := k) (v := v) (c := c0) hB (by omega) (by omega) (by omega) (by omega) (by omega)
          refine n_iinc (n := 1) (k := 5) (lv' := [(5, .int (nI (j + 1))), (0, .ref mb), (1, .int (nI i)), (2, .int (nI k)), (3, .int (nI v)), (4, .int (nI c0))]) hC dX5_postAll_29 hl rfl (by decide) rfl (fun ls hl => ?_)
          refine lv_goto (tgt := 3) hx hb dX5_postAll_32 (by decide) ?_
          have e9 : m_pa M i k v c0 (j + 1) = m_post (m_pa M i k v c0 j) i j k v c0 := by simp only [m_pa, c15, ↓reduceIte]
          exact ih (j + 1) _ _ _ (by omega) (by omega) (by rw [e9]; exact hB) (by rw [e9]; exact hG) (lv_sub hl [1, 2, 3, 4, 5, 0] rfl)
  refine n_iconst hC 0 dX5_postAll_0 ?_
  refine lv_istore (lv' := [(5, .int (nI 0)), (0, .ref mb), (1, .int (nI i)), (2, .int (nI k)), (3, .int (nI v)), (4, .int (nI c0))]) hx hb dX5_postAll_1 hl (by decide) rfl (fun ls hl => ?_)
  exact loop (n + 1) 0 _ _ _ (by omega) (by omega) hB hG (lv_sub hl [1, 2, 3, 4, 5, 0] rfl)

def m_pok (n : Nat) (M : MM) (i : Nat) : MM := m_post M i (M 6 i % n) 2 (M 6 i) (M 3 i)
theorem bM_pok {n : Nat} {M : MM} (h : bM M) {i : Nat} (hi : i < 2147483648) (hn : 0 < n) : bM (m_pok n M i) := by
  have h6 := h.1 6 i rfl
  exact bM_post h hi (Nat.lt_of_le_of_lt (Nat.mod_le _ _) h6) (by decide) h6 (h.1 3 i rfl)

abbrev rmX5_postOk : Room := { frames := 2, cells := 0, slots := 0, locals := 48 }
set_option maxHeartbeats 4000000 in
set_option maxRecDepth 100000 in
theorem k_X5_postOk (l : Launch) (D : va_G) (cA : Nat → ClassId) (A : Nat → Prop) {mb n f : Nat} {X : Mem} {M : MM} (hS : mS mb n f X) (hB : bM M) (i : Nat) (hi : i < n) : mt l D cA A yX5_postOk wsX5_postOk rmX5_postOk [.ref mb, .int (nI i)] (sM mb X M) (fun w Y => w = none ∧ Y = sM mb X (m_pok n M i)) := by
  refine q_start (by decide) rfl (Nat.le_of_ble_eq_true rfl) (fun p e s m args below meth c H locs hC hr hlk hnm hG ls hl => ?_)
  have hl : lv_has ls 2 [(0, .ref mb), (1, .int (nI i))] := hl
  have hx := hC.1.1
  have hb := hC.1.2.1
  have hts := hC.1.2.2.2.2
  have i5 : ∀ w ∈ wsX50, w ∈ wsX5_postOk := by decide +kernel
  have hnf := hS.2.2.2.2
  have k13 := hts (.fieldLink RX5 13 "ViewStampsModel" "many" "[I") (by decide +kernel)
  have k22 := hts (.fieldLink RX5 22 "ViewStampsModel" "view" "[I") (by decide +kernel)
  have k77 := hts (.fieldLink RX5 77 "ViewStampsModel" "n" "I") (by decide +kernel)
  refine lv_aload_n hx hb dX5_postOk_0 rfl (lv_at hl 0 rfl) ?_
  refine lv_iload_n hx hb dX5_postOk_1 rfl (lv_at hl 1 rfl) ?_
  refine lv_aload_n hx hb dX5_postOk_2 rfl (lv_at hl 0 rfl) ?_
  refine q_mg hC hG hS i5 6 rfl k22 dX5_postOk_3 ?_
  refine lv_iload_n hx hb dX5_postOk_6 rfl (lv_at hl 1 rfl) ?_
  refine q_ml (N := 5) (w := M 6 i) hC hG hS 6 rfl rfl rfl (by omega) rfl dX5_postOk_7 ?_
  have b1 : M 6 i < 2147483648 := by have := hB.1 6 i rfl; first | exact this | (simp [up2, m_cp, m_cpk] at this; exact this) | omega
  refine lv_aload_n hx hb dX5_postOk_8 rfl (lv_at hl 0 rfl) ?_
  refine q_mn hC hG hS i5 k77 dX5_postOk_9 ?_
  refine n_irem hC (by omega) (by omega) (by omega) dX5_postOk_12 ?_
  have r12 : (M 6 i) % n < n := Nat.mod_lt _ (by omega)
  refine n_iconst hC 2 dX5_postOk_13 ?_
  refine lv_aload_n hx hb dX5_postOk_14 rfl (lv_at hl 0 rfl) ?_
  refine q_mg hC hG hS i5 6 rfl k22 dX5_postOk_15 ?_
  refine lv_iload_n hx hb dX5_postOk_18 rfl (lv_at hl 1 rfl) ?_
  refine q_ml (N := 5) (w := M 6 i) hC hG hS 6 rfl rfl rfl (by omega) rfl dX5_postOk_19 ?_
  have b2 : M 6 i < 2147483648 := by have := hB.1 6 i rfl; first | exact this | (simp [up2, m_cp, m_cpk] at this; exact this) | omega
  refine lv_aload_n hx hb dX5_postOk_20 rfl (lv_at hl 0 rfl) ?_
  refine q_mg hC hG hS i5 3 rfl k13 dX5_postOk_21 ?_
  refine lv_iload_n hx hb dX5_postOk_24 rfl (lv_at hl 1 rfl) ?_
  refine q_ml (N := 295) (w := M 3 i) hC hG hS 3 rfl rfl rfl (by omega) rfl dX5_postOk_25 ?_
  have b3 : M 3 i < 2147483648 := by have := hB.1 3 i rfl; first | exact this | (simp [up2, m_cp, m_cpk] at this; exact this) | omega
  refine q_callV (rest := []) (k_X5_post l D cA A hS hB i ((M 6 i) % n) 2 (M 6 i) (M 3 i) (by omega) (by omega) (by omega) (by omega) (by omega)) hC hG cF5 hS.1 5 gX5_postOk_X5_post rfl (by decide +kernel) ⟨by decide, by decide⟩ rfl hl.1 rfl (by simp [Value.category]) dX5_postOk_26 ⟨Nat.le_of_ble_eq_true rfl, Nat.le_of_ble_eq_true rfl⟩ (fun v Y H locs hq hG => ?_)
  obtain ⟨rfl, rfl⟩ := hq
  have hB := bM_post (i := i) (j := (M 6 i) % n) (k := 2) (v := M 6 i) (c := M 3 i) hB (by omega) (by omega) (by omega) (by omega) (by omega)
  exact q_vret hC hG hr hlk (⟨rfl, rfl⟩) dX5_postOk_29

def m_hav (n : Nat) (M : MM) (i g v : Nat) : MM := m_pok n (up2 (up2 (up2 (up2 (m_cp M g i) 4 i (m_les (m_gre (M 4 i) (m_cp M g i 4 g)) (M 3 g))) 6 i v) 7 i v) 5 i 0) i
theorem bM_hav {n : Nat} {M : MM} (h : bM M) {i g v : Nat} (hi : i < 2147483648) (hn : 0 < n) (hv : v < 2147483648) : bM (m_hav n M i g v) :=
  bM_pok (bM_up (bM_up (bM_up (bM_up (bM_cp h g i) 4 i (Nat.lt_of_le_of_lt (m_les_le _ _).2 (h.1 3 g rfl))) 6 i hv) 7 i hv) 5 i (by decide)) hi hn

abbrev rmX5_havingAs : Room := { frames := 3, cells := 0, slots := 0, locals := 69 }
set_option maxHeartbeats 4000000 in
set_option maxRecDepth 100000 in
theorem k_X5_havingAs (l : Launch) (D : va_G) (cA : Nat → ClassId) (A : Nat → Prop) {mb n f : Nat} {X : Mem} {M : MM} (hS : mS mb n f X) (hB : bM M) (i g v : Nat) (hi : i < n) (hg : g < 295) (hv : v < 2147483648) : mt l D cA A yX5_havingAs wsX5_havingAs rmX5_havingAs [.ref mb, .int (nI i), .int (nI g), .int (nI v)] (sM mb X M) (fun w Y => w = none ∧ Y = sM mb X (m_hav n M i g v)) := by
  refine q_start (by decide) rfl (Nat.le_of_ble_eq_true rfl) (fun p e s m args below meth c H locs hC hr hlk hnm hG ls hl => ?_)
  have hl : lv_has ls 5 [(0, .ref mb), (1, .int (nI i)), (2, .int (nI g)), (3, .int (nI v))] := hl
  have hx := hC.1.1
  have hb := hC.1.2.1
  have hts := hC.1.2.2.2.2
  have i5 : ∀ w ∈ wsX50, w ∈ wsX5_havingAs := by decide +kernel
  have hnf := hS.2.2.2.2
  have k13 := hts (.fieldLink RX5 13 "ViewStampsModel" "many" "[I") (by decide +kernel)
  have k16 := hts (.fieldLink RX5 16 "ViewStampsModel" "sure" "[I") (by decide +kernel)
  have k19 := hts (.fieldLink RX5 19 "ViewStampsModel" "status" "[I") (by decide +kernel)
  have k22 := hts (.fieldLink RX5 22 "ViewStampsModel" "view" "[I") (by decide +kernel)
  have k25 := hts (.fieldLink RX5 25 "ViewStampsModel" "lastView" "[I") (by decide +kernel)
  refine lv_aload_n hx hb dX5_havingAs_0 rfl (lv_at hl 0 rfl) ?_
  refine q_mg hC hG hS i5 4 rfl k16 dX5_havingAs_1 ?_
  refine lv_iload_n hx hb dX5_havingAs_4 rfl (lv_at hl 1 rfl) ?_
  refine q_ml (N := 295) (w := M 4 i) hC hG hS 4 rfl rfl rfl (by omega) rfl dX5_havingAs_5 ?_
  have b1 : M 4 i < 2147483648 := by have := hB.1 4 i rfl; first | exact this | (simp [up2, m_cp, m_cpk] at this; exact this) | omega
  refine lv_istore (lv' := [(4, .int (nI (M 4 i))), (0, .ref mb), (1, .int (nI i)), (2, .int (nI g)), (3, .int (nI v))]) hx hb dX5_havingAs_6 hl (by decide) rfl (fun ls hl => ?_)
  refine lv_aload_n hx hb dX5_havingAs_8 rfl (lv_at hl 1 rfl) ?_
  refine lv_iload_n hx hb dX5_havingAs_9 rfl (lv_at hl 3 rfl) ?_
  refine lv_iload_n hx hb dX5_havingAs_10 rfl (lv_at hl 2 rfl) ?_
  refine q_callV (rest := []) (k_X5_copyLog l D cA A hS hB g i (by omega) (by omega)) hC hG cF5 hS.1 2 gX5_havingAs_X5_copyLog rfl (by decide +kernel) ⟨by decide, by decide⟩ rfl hl.1 rfl (by simp [Value.category]) dX5_havingAs_11 ⟨Nat.le_of_ble_eq_true rfl, Nat.le_of_ble_eq_true rfl⟩ (fun v Y H locs hq hG => ?_)
  obtain ⟨rfl, rfl⟩ := hq
  have hB := bM_cp hB g i
  refine lv_aload_n hx hb dX5_havingAs_14 rfl (lv_at hl 1 rfl) ?_
  refine q_mg hC hG hS i5 4 rfl k16 dX5_havingAs_15 ?_
  refine lv_iload_n hx hb dX5_havingAs_18 rfl (lv_at hl 2 rfl) ?_
  refine lv_iload hx hb dX5_havingAs_19 (lv_at hl 0 rfl) ?_
  refine lv_aload_n hx hb dX5_havingAs_21 rfl (lv_at hl 1 rfl) ?_
  refine q_mg hC hG hS i5 4 rfl k16 dX5_havingAs_22 ?_
  refine lv_iload_n hx hb dX5_havingAs_25 rfl (lv_at hl 3 rfl) ?_
  refine q_ml (N := 295) (w := (m_cp M g i) 4 g) hC hG hS 4 rfl rfl rfl (by omega) rfl dX5_havingAs_26 ?_
  have b2 : (m_cp M g i) 4 g < 2147483648 := by have := hB.1 4 g rfl; first | exact this | (simp [up2, m_cp, m_cpk] at this; exact this) | omega
  refine q_callS (rest := [.int (nI i), .ref (mb + ao 4)]) (k_X5_greater l D cA A _ (M 4 i) ((m_cp M g i) 4 g) (by omega) (by omega)) hC hG 2 gX5_havingAs_X5_greater rfl (by decide +kernel) ⟨by decide, by decide⟩ rfl hl.1 rfl (by simp [Value.category]) dX5_havingAs_27 ⟨Nat.le_of_ble_eq_true rfl, Nat.le_of_ble_eq_true rfl⟩ (fun v Y H locs hq hG => ?_)
  obtain ⟨rfl, rfl⟩ := hq
  have q27 : m_gre (M 4 i) ((m_cp M g i) 4 g) < 2147483648 := m_gre_le (by omega) (by omega)
  refine lv_aload_n hx hb dX5_havingAs_30 rfl (lv_at hl 1 rfl) ?_
  refine q_mg hC hG hS i5 3 rfl k13 dX5_havingAs_31 ?_
  refine lv_iload_n hx hb dX5_havingAs_34 rfl (lv_at hl 2 rfl) ?_
  refine q_ml (N := 295) (w := M 3 g) hC hG hS 3 rfl rfl rfl (by omega) (by simp [up2, m_cp, m_cpk]) dX5_havingAs_35 ?_
  have b3 : M 3 g < 2147483648 := by have := hB.1 3 i rfl; first | exact this | (simp [up2, m_cp, m_cpk] at this; exact this) | omega
  refine q_callS (rest := [.int (nI i), .ref (mb + ao 4)]) (k_X5_lesser l D cA A _ (m_gre (M 4 i) ((m_cp M g i) 4 g)) (M 3 g) (by omega) (by omega)) hC hG 2 gX5_havingAs_X5_lesser rfl (by decide +kernel) ⟨by decide, by decide⟩ rfl hl.1 rfl (by simp [Value.category]) dX5_havingAs_36 ⟨Nat.le_of_ble_eq_true rfl, Nat.le_of_ble_eq_true rfl⟩ (fun v Y H locs hq hG => ?_)
  obtain ⟨rfl, rfl⟩ := hq
  have q36 := m_les_le (m_gre (M 4 i) ((m_cp M g i) 4 g)) (M 3 g)
  refine q_ms (N := 295) hC hG hS 4 rfl rfl rfl (by omega) dX5_havingAs_39 (fun H locs hG => ?_)
  have hB := bM_up hB 4 i (v := m_les (m_gre (M 4 i) ((m_cp M g i) 4 g)) (M 3 g)) (by omega)
  refine lv_aload_n hx hb dX5_havingAs_40 rfl (lv_at hl 1 rfl) ?_
  refine q_mg hC hG hS i5 6 rfl k22 dX5_havingAs_41 ?_
  refine lv_iload_n hx hb dX5_havingAs_44 rfl (lv_at hl 2 rfl) ?_
  refine lv_iload_n hx hb dX5_havingAs_45 rfl (lv_at hl 4 rfl) ?_
  refine q_ms (N := 5) hC hG hS 6 rfl rfl rfl (by omega) dX5_havingAs_46 (fun H locs hG => ?_)
  have hB := bM_up hB 6 i (v := v) (by omega)
  refine lv_aload_n hx hb dX5_havingAs_47 rfl (lv_at hl 1 rfl) ?_
  refine q_mg hC hG hS i5 7 rfl k25 dX5_havingAs_48 ?_
  refine lv_iload_n hx hb dX5_havingAs_51 rfl (lv_at hl 2 rfl) ?_
  refine lv_iload_n hx hb dX5_havingAs_52 rfl (lv_at hl 4 rfl) ?_
  refine q_ms (N := 5) hC hG hS 7 rfl rfl rfl (by omega) dX5_havingAs_53 (fun H locs hG => ?_)
  have hB := bM_up hB 7 i (v := v) (by omega)
  refine lv_aload_n hx hb dX5_havingAs_54 rfl (lv_at hl 1 rfl) ?_
  refine q_mg hC hG hS i5 5 rfl k19 dX5_havingAs_55 ?_
  refine lv_iload_n hx hb dX5_havingAs_58 rfl (lv_at hl 2 rfl) ?_
  refine n_iconst hC 0 dX5_havingAs_59 ?_
  refine q_ms (N := 5) hC hG hS 5 rfl rfl rfl (by omega) dX5_havingAs_60 (fun H locs hG => ?_)
  have hB := bM_up hB 5 i (v := 0) (by omega)
  refine lv_aload_n hx hb dX5_havingAs_61 rfl (lv_at hl 1 rfl) ?_
  refine lv_iload_n hx hb dX5_havingAs_62 rfl (lv_at hl 2 rfl) ?_
  refine q_callV (rest := []) (k_X5_postOk l D cA A hS hB i (by omega)) hC hG cF5 hS.1 1 gX5_havingAs_X5_postOk rfl (by decide +kernel) ⟨by decide, by decide⟩ rfl hl.1 rfl (by simp [Value.category]) dX5_havingAs_63 ⟨Nat.le_of_ble_eq_true rfl, Nat.le_of_ble_eq_true rfl⟩ (fun v Y H locs hq hG => ?_)
  obtain ⟨rfl, rfl⟩ := hq
  have hB := bM_pok (n := n) (i := i) hB (by omega) (by omega)
  exact q_vret hC hG hr hlk (⟨rfl, rfl⟩) dX5_havingAs_66

/-- prepares: the answer, the memory -/
def m_pre (n : Nat) (M : MM) (i g v : Nat) : Nat × MM :=
  if M 6 i < v then (1, m_hav n M i g v) else if M 5 i = 1 then (1, m_hav n M i g v) else if m_fst n M i = 0 then
    (if M 3 i < M 3 g then (1, m_pok n (up2 (m_cp M g i) 4 i (m_les (m_gre (M 4 i) (M 4 g)) (M 3 g))) i) else (1, m_pok n (up2 M 4 i (m_les (m_gre (M 4 i) (M 4 g)) (M 3 i))) i))
  else (0, M)

abbrev rmX5_prepares : Room := { frames := 4, cells := 0, slots := 0, locals := 93 }
set_option maxHeartbeats 4000000 in
set_option maxRecDepth 100000 in
theorem k_X5_prepares (l : Launch) (D : va_G) (cA : Nat → ClassId) (A : Nat → Prop) {mb n f : Nat} {X : Mem} {M : MM} (hS : mS mb n f X) (hB : bM M) (i g v : Nat) (hi : i < n) (hg : g < 295) (hv : v < 2147483648) : mt l D cA A yX5_prepares wsX5_prepares rmX5_prepares [.ref mb, .int (nI i), .int (nI g), .int (nI v)] (sM mb X M) (fun w Y => w = some (.int (nI (m_pre n M i g v).1)) ∧ Y = sM mb X (m_pre n M i g v).2) := by
  refine q_start (by decide) rfl (Nat.le_of_ble_eq_true rfl) (fun p e s m args below meth c H locs hC hr hlk hnm hG ls hl => ?_)
  have hl : lv_has ls 6 [(0, .ref mb), (1, .int (nI i)), (2, .int (nI g)), (3, .int (nI v))] := hl
  have hx := hC.1.1
  have hb := hC.1.2.1
  have hts := hC.1.2.2.2.2
  have i5 : ∀ w ∈ wsX50, w ∈ wsX5_prepares := by decide +kernel
  have hnf := hS.2.2.2.2
  have k13 := hts (.fieldLink RX5 13 "ViewStampsModel" "many" "[I") (by decide +kernel)
  have k16 := hts (.fieldLink RX5 16 "ViewStampsModel" "sure" "[I") (by decide +kernel)
  have k19 := hts (.fieldLink RX5 19 "ViewStampsModel" "status" "[I") (by decide +kernel)
  have k22 := hts (.fieldLink RX5 22 "ViewStampsModel" "view" "[I") (by decide +kernel)
  refine lv_aload_n hx hb dX5_prepares_0 rfl (lv_at hl 0 rfl) ?_
  refine q_mg hC hG hS i5 6 rfl k22 dX5_prepares_1 ?_
  refine lv_iload_n hx hb dX5_prepares_4 rfl (lv_at hl 1 rfl) ?_
  refine q_ml (N := 5) (w := M 6 i) hC hG hS 6 rfl rfl rfl (by omega) rfl dX5_prepares_5 ?_
  have b1 : M 6 i < 2147483648 := by have := hB.1 6 i rfl; first | exact this | (simp [up2, m_cp, m_cpk] at this; exact this) | omega
  refine lv_iload_n hx hb dX5_prepares_6 rfl (lv_at hl 3 rfl) ?_
  refine n_lt (tgt := 20) hC dX5_prepares_7 (by decide) (by omega) (by omega) (fun c7 => ?_) (fun c7 => ?_)
  · have c7n := Nat.not_le.mpr c7
    refine lv_aload_n hx hb dX5_prepares_20 rfl (lv_at hl 0 rfl) ?_
    refine lv_iload_n hx hb dX5_prepares_21 rfl (lv_at hl 1 rfl) ?_
    refine lv_iload_n hx hb dX5_prepares_22 rfl (lv_at hl 2 rfl) ?_
    refine lv_iload_n hx hb dX5_prepares_23 rfl (lv_at hl 3 rfl) ?_
    refine q_callV (rest := []) (k_X5_havingAs l D cA A hS hB i g v (by omega) (by omega) (by omega)) hC hG cF5 hS.1 3 gX5_prepares_X5_havingAs rfl (by decide +kernel) ⟨by decide, by decide⟩ rfl hl.1 rfl (by simp [Value.category]) dX5_prepares_24 ⟨Nat.le_of_ble_eq_true rfl, Nat.le_of_ble_eq_true rfl⟩ (fun v Y H locs hq hG => ?_)
    obtain ⟨rfl, rfl⟩ := hq
    have hB := bM_hav (n := n) (i := i) (g := g) (v := v) hB (by omega) (by omega) (by omega)
    refine n_iconst hC 1 dX5_prepares_27 ?_
    exact q_zret (v := 1) hC hG hr hlk (by first | decide | omega) (⟨by simp only [m_pre, c7, c7n, ↓reduceIte], by simp only [m_pre, c7, c7n, ↓reduceIte]⟩) dX5_prepares_28
  · have c7n := Nat.not_lt.mpr c7
    refine lv_aload_n hx hb dX5_prepares_10 rfl (lv_at hl 0 rfl) ?_
    refine q_mg hC hG hS i5 5 rfl k19 dX5_prepares_11 ?_
    refine lv_iload_n hx hb dX5_prepares_14 rfl (lv_at hl 1 rfl) ?_
    refine q_ml (N := 5) (w := M 5 i) hC hG hS 5 rfl rfl rfl (by omega) rfl dX5_prepares_15 ?_
    have b2 : M 5 i < 2147483648 := by have := hB.1 5 i rfl; first | exact this | (simp [up2, m_cp, m_cpk] at this; exact this) | omega
    refine n_iconst hC 1 dX5_prepares_16 ?_
    refine n_ne (tgt := 29) hC dX5_prepares_17 (by decide) (by omega) (by omega) (fun c17 => ?_) (fun c17 => ?_)
    · refine lv_aload_n hx hb dX5_prepares_29 rfl (lv_at hl 0 rfl) ?_
      refine lv_iload_n hx hb dX5_prepares_30 rfl (lv_at hl 1 rfl) ?_
      refine q_callV (rest := []) (k_X5_isFirst l D cA A hS hB i (by omega)) hC hG cF5 hS.1 1 gX5_prepares_X5_isFirst rfl (by decide +kernel) ⟨by decide, by decide⟩ rfl hl.1 rfl (by simp [Value.category]) dX5_prepares_31 ⟨Nat.le_of_ble_eq_true rfl, Nat.le_of_ble_eq_true rfl⟩ (fun v Y H locs hq hG => ?_)
      obtain ⟨rfl, rfl⟩ := hq
      have q31 := m_fst_le n M i
      refine n_ifeq (tgt := 39) hC dX5_prepares_34 (by decide) (by omega) (fun c34 => ?_) (fun c34 => ?_)
      · refine lv_aload_n hx hb dX5_prepares_39 rfl (lv_at hl 0 rfl) ?_
        refine q_mg hC hG hS i5 4 rfl k16 dX5_prepares_40 ?_
        refine lv_iload_n hx hb dX5_prepares_43 rfl (lv_at hl 1 rfl) ?_
        refine q_ml (N := 295) (w := M 4 i) hC hG hS 4 rfl rfl rfl (by omega) rfl dX5_prepares_44 ?_
        have b3 : M 4 i < 2147483648 := by have := hB.1 4 i rfl; first | exact this | (simp [up2, m_cp, m_cpk] at this; exact this) | omega
        refine lv_istore (lv' := [(4, .int (nI (M 4 i))), (0, .ref mb), (1, .int (nI i)), (2, .int (nI g)), (3, .int (nI v))]) hx hb dX5_prepares_45 hl (by decide) rfl (fun ls hl => ?_)
        refine lv_aload_n hx hb dX5_prepares_47 rfl (lv_at hl 1 rfl) ?_
        refine q_mg hC hG hS i5 4 rfl k16 dX5_prepares_48 ?_
        refine lv_iload_n hx hb dX5_prepares_51 rfl (lv_at hl 3 rfl) ?_
        refine q_ml (N := 295) (w := M 4 g) hC hG hS 4 rfl rfl rfl (by omega) rfl dX5_prepares_52 ?_
        have b4 : M 4 g < 2147483648 := by have := hB.1 4 g rfl; first | exact this | (simp [up2, m_cp, m_cpk] at this; exact this) | omega
        refine lv_istore (lv' := [(5, .int (nI (M 4 g))), (4, .int (nI (M 4 i))), (0, .ref mb), (1, .int (nI i)), (2, .int (nI g)), (3, .int (nI v))]) hx hb dX5_prepares_53 hl (by decide) rfl (fun ls hl => ?_)
        refine lv_aload_n hx hb dX5_prepares_55 rfl (lv_at hl 2 rfl) ?_
        refine q_mg hC hG hS i5 3 rfl k13 dX5_prepares_56 ?_
        refine lv_iload_n hx hb dX5_prepares_59 rfl (lv_at hl 4 rfl) ?_
        refine q_ml (N := 295) (w := M 3 g) hC hG hS 3 rfl rfl rfl (by omega) rfl dX5_prepares_60 ?_
        have b5 : M 3 g < 2147483648 := by have := hB.1 3 g rfl; first | exact this | (simp [up2, m_cp, m_cpk] at this; exact this) | omega
        refine lv_aload_n hx hb dX5_prepares_61 rfl (lv_at hl 2 rfl) ?_
        refine q_mg hC hG hS i5 3 rfl k13 dX5_prepares_62 ?_
        refine lv_iload_n hx hb dX5_prepares_65 rfl (lv_at hl 3 rfl) ?_
        refine q_ml (N := 295) (w := M 3 i) hC hG hS 3 rfl rfl rfl (by omega) rfl dX5_prepares_66 ?_
        have b6 : M 3 i < 2147483648 := by have := hB.1 3 i rfl; first | exact this | (simp [up2, m_cp, m_cpk] at this; exact this) | omega
        refine n_le (tgt := 76) hC dX5_prepares_67 (by decide) (by omega) (by omega) (fun c67 => ?_) (fun c67 => ?_)
        · have c67n := Nat.not_lt.mpr c67
          refine lv_aload_n hx hb dX5_prepares_76 rfl (lv_at hl 2 rfl) ?_
          refine q_mg hC hG hS i5 4 rfl k16 dX5_prepares_77 ?_
          refine lv_iload_n hx hb dX5_prepares_80 rfl (lv_at hl 3 rfl) ?_
          refine lv_iload hx hb dX5_prepares_81 (lv_at hl 1 rfl) ?_
          refine lv_iload hx hb dX5_prepares_83 (lv_at hl 0 rfl) ?_
          refine q_callS (rest := [.int (nI i), .ref (mb + ao 4)]) (k_X5_greater l D cA A _ (M 4 i) (M 4 g) (by omega) (by omega)) hC hG 2 gX5_prepares_X5_greater rfl (by decide +kernel) ⟨by decide, by decide⟩ rfl hl.1 rfl (by simp [Value.category]) dX5_prepares_85 ⟨Nat.le_of_ble_eq_true rfl, Nat.le_of_ble_eq_true rfl⟩ (fun v Y H locs hq hG => ?_)
          obtain ⟨rfl, rfl⟩ := hq
          have q85 : m_gre (M 4 i) (M 4 g) < 2147483648 := m_gre_le (by omega) (by omega)
          refine lv_aload_n hx hb dX5_prepares_88 rfl (lv_at hl 2 rfl) ?_
          refine q_mg hC hG hS i5 3 rfl k13 dX5_prepares_89 ?_
          refine lv_iload_n hx hb dX5_prepares_92 rfl (lv_at hl 3 rfl) ?_
          refine q_ml (N := 295) (w := M 3 i) hC hG hS 3 rfl rfl rfl (by omega) rfl dX5_prepares_93 ?_
          have b7 : M 3 i < 2147483648 := by have := hB.1 3 i rfl; first | exact this | (simp [up2, m_cp, m_cpk] at this; exact this) | omega
          refine q_callS (rest := [.int (nI i), .ref (mb + ao 4)]) (k_X5_lesser l D cA A _ (m_gre (M 4 i) (M 4 g)) (M 3 i) (by omega) (by omega)) hC hG 2 gX5_prepares_X5_lesser rfl (by decide +kernel) ⟨by decide, by decide⟩ rfl hl.1 rfl (by simp [Value.category]) dX5_prepares_94 ⟨Nat.le_of_ble_eq_true rfl, Nat.le_of_ble_eq_true rfl⟩ (fun v Y H locs hq hG => ?_)
          obtain ⟨rfl, rfl⟩ := hq
          have q94 := m_les_le (m_gre (M 4 i) (M 4 g)) (M 3 i)
          refine q_ms (N := 295) hC hG hS 4 rfl rfl rfl (by omega) dX5_prepares_97 (fun H locs hG => ?_)
          have hB := bM_up hB 4 i (v := m_les (m_gre (M 4 i) (M 4 g)) (M 3 i)) (by omega)
          refine lv_aload_n hx hb dX5_prepares_98 rfl (lv_at hl 2 rfl) ?_
          refine lv_iload_n hx hb dX5_prepares_99 rfl (lv_at hl 3 rfl) ?_
          refine q_callV (rest := []) (k_X5_postOk l D cA A hS hB i (by omega)) hC hG cF5 hS.1 1 gX5_prepares_X5_postOk rfl (by decide +kernel) ⟨by decide, by decide⟩ rfl hl.1 rfl (by simp [Value.category]) dX5_prepares_100 ⟨Nat.le_of_ble_eq_true rfl, Nat.le_of_ble_eq_true rfl⟩ (fun v Y H locs hq hG => ?_)
          obtain ⟨rfl, rfl⟩ := hq
          have hB := bM_pok (n := n) (i := i) hB (by omega) (by omega)
          refine n_iconst hC 1 dX5_prepares_103 ?_
          exact q_zret (v := 1) hC hG hr hlk (by first | decide | omega) (⟨by simp only [m_pre, c7, c7n, c17, c34, c67, c67n, ↓reduceIte], by simp only [m_pre, c7, c7n, c17, c34, c67, c67n, ↓reduceIte]⟩) dX5_prepares_104
        · have c67n := Nat.not_le.mpr c67
          refine lv_aload_n hx hb dX5_prepares_70 rfl (lv_at hl 2 rfl) ?_
          refine lv_iload_n hx hb dX5_prepares_71 rfl (lv_at hl 4 rfl) ?_
          refine lv_iload_n hx hb dX5_prepares_72 rfl (lv_at hl 3 rfl) ?_
          refine q_callV (rest := []) (k_X5_copyLog l D cA A hS hB g i (by omega) (by omega)) hC hG cF5 hS.1 2 gX5_prepares_X5_copyLog rfl (by decide +kernel) ⟨by decide, by decide⟩ rfl hl.1 rfl (by simp [Value.category]) dX5_prepares_73 ⟨Nat.le_of_ble_eq_true rfl, Nat.le_of_ble_eq_true rfl⟩ (fun v Y H locs hq hG => ?_)
          obtain ⟨rfl, rfl⟩ := hq
          have hB := bM_cp hB g i
          refine lv_aload_n hx hb dX5_prepares_76 rfl (lv_at hl 2 rfl) ?_
          refine q_mg hC hG hS i5 4 rfl k16 dX5_prepares_77 ?_
          refine lv_iload_n hx hb dX5_prepares_80 rfl (lv_at hl 3 rfl) ?_
          refine lv_iload hx hb dX5_prepares_81 (lv_at hl 1 rfl) ?_
          refine lv_iload hx hb dX5_prepares_83 (lv_at hl 0 rfl) ?_
          refine q_callS (rest := [.int (nI i), .ref (mb + ao 4)]) (k_X5_greater l D cA A _ (M 4 i) (M 4 g) (by omega) (by omega)) hC hG 2 gX5_prepares_X5_greater rfl (by decide +kernel) ⟨by decide, by decide⟩ rfl hl.1 rfl (by simp [Value.category]) dX5_prepares_85 ⟨Nat.le_of_ble_eq_true rfl, Nat.le_of_ble_eq_true rfl⟩ (fun v Y H locs hq hG => ?_)
          obtain ⟨rfl, rfl⟩ := hq
          have q85 : m_gre (M 4 i) (M 4 g) < 2147483648 := m_gre_le (by omega) (by omega)
          refine lv_aload_n hx hb dX5_prepares_88 rfl (lv_at hl 2 rfl) ?_
          refine q_mg hC hG hS i5 3 rfl k13 dX5_prepares_89 ?_
          refine lv_iload_n hx hb dX5_prepares_92 rfl (lv_at hl 3 rfl) ?_
          refine q_ml (N := 295) (w := M 3 g) hC hG hS 3 rfl rfl rfl (by omega) (by simp [up2, m_cp, m_cpk]) dX5_prepares_93 ?_
          have b8 : M 3 g < 2147483648 := by have := hB.1 3 i rfl; first | exact this | (simp [up2, m_cp, m_cpk] at this; exact this) | omega
          refine q_callS (rest := [.int (nI i), .ref (mb + ao 4)]) (k_X5_lesser l D cA A _ (m_gre (M 4 i) (M 4 g)) (M 3 g) (by omega) (by omega)) hC hG 2 gX5_prepares_X5_lesser rfl (by decide +kernel) ⟨by decide, by decide⟩ rfl hl.1 rfl (by simp [Value.category]) dX5_prepares_94 ⟨Nat.le_of_ble_eq_true rfl, Nat.le_of_ble_eq_true rfl⟩ (fun v Y H locs hq hG => ?_)
          obtain ⟨rfl, rfl⟩ := hq
          have q94 := m_les_le (m_gre (M 4 i) (M 4 g)) (M 3 g)
          refine q_ms (N := 295) hC hG hS 4 rfl rfl rfl (by omega) dX5_prepares_97 (fun H locs hG => ?_)
          have hB := bM_up hB 4 i (v := m_les (m_gre (M 4 i) (M 4 g)) (M 3 g)) (by omega)
          refine lv_aload_n hx hb dX5_prepares_98 rfl (lv_at hl 2 rfl) ?_
          refine lv_iload_n hx hb dX5_prepares_99 rfl (lv_at hl 3 rfl) ?_
          refine q_callV (rest := []) (k_X5_postOk l D cA A hS hB i (by omega)) hC hG cF5 hS.1 1 gX5_prepares_X5_postOk rfl (by decide +kernel) ⟨by decide, by decide⟩ rfl hl.1 rfl (by simp [Value.category]) dX5_prepares_100 ⟨Nat.le_of_ble_eq_true rfl, Nat.le_of_ble_eq_true rfl⟩ (fun v Y H locs hq hG => ?_)
          obtain ⟨rfl, rfl⟩ := hq
          have hB := bM_pok (n := n) (i := i) hB (by omega) (by omega)
          refine n_iconst hC 1 dX5_prepares_103 ?_
          exact q_zret (v := 1) hC hG hr hlk (by first | decide | omega) (⟨by simp only [m_pre, c7, c7n, c17, c34, c67, c67n, ↓reduceIte], by simp only [m_pre, c7, c7n, c17, c34, c67, c67n, ↓reduceIte]⟩) dX5_prepares_104
      · refine n_iconst hC 0 dX5_prepares_37 ?_
        exact q_zret (v := 0) hC hG hr hlk (by first | decide | omega) (⟨by simp only [m_pre, c7, c7n, c17, c34, ↓reduceIte], by simp only [m_pre, c7, c7n, c17, c34, ↓reduceIte]⟩) dX5_prepares_38
    · refine lv_aload_n hx hb dX5_prepares_20 rfl (lv_at hl 0 rfl) ?_
      refine lv_iload_n hx hb dX5_prepares_21 rfl (lv_at hl 1 rfl) ?_
      refine lv_iload_n hx hb dX5_prepares_22 rfl (lv_at hl 2 rfl) ?_
      refine lv_iload_n hx hb dX5_prepares_23 rfl (lv_at hl 3 rfl) ?_
      refine q_callV (rest := []) (k_X5_havingAs l D cA A hS hB i g v (by omega) (by omega) (by omega)) hC hG cF5 hS.1 3 gX5_prepares_X5_havingAs rfl (by decide +kernel) ⟨by decide, by decide⟩ rfl hl.1 rfl (by simp [Value.category]) dX5_prepares_24 ⟨Nat.le_of_ble_eq_true rfl, Nat.le_of_ble_eq_true rfl⟩ (fun v Y H locs hq hG => ?_)
      obtain ⟨rfl, rfl⟩ := hq
      have hB := bM_hav (n := n) (i := i) (g := g) (v := v) hB (by omega) (by omega) (by omega)
      refine n_iconst hC 1 dX5_prepares_27 ?_
      exact q_zret (v := 1) hC hG hr hlk (by first | decide | omega) (⟨by simp only [m_pre, c7, c7n, c17, ↓reduceIte], by simp only [m_pre, c7, c7n, c17, ↓reduceIte]⟩) dX5_prepares_28

/-- how many of the places base .. base + j - 1 of array x aren't 0 -/
def m_cnt (M : MM) (x base : Nat) : Nat → Nat
  | 0 => 0
  | j + 1 => m_cnt M x base j + (if M x (base + j) = 0 then 0 else 1)
theorem m_cnt_le (M : MM) (x base : Nat) : ∀ j, m_cnt M x base j ≤ j := by
  intro j
  induction j with
  | zero => exact Nat.le_refl 0
  | succ j ih => unfold m_cnt; split <;> omega

abbrev rmX5_voters : Room := { frames := 0, cells := 0, slots := 0, locals := 0 }
set_option maxHeartbeats 4000000 in
set_option maxRecDepth 100000 in
theorem k_X5_voters (l : Launch) (D : va_G) (cA : Nat → ClassId) (A : Nat → Prop) {mb n f : Nat} {X : Mem} {M : MM} (hS : mS mb n f X) (hB : bM M) (i : Nat) (hi : i < n) : mt l D cA A yX5_voters wsX5_voters rmX5_voters [.ref mb, .int (nI i)] (sM mb X M) (fun w Y => w = some (.int (nI (m_cnt M 11 (5 * i) n))) ∧ Y = sM mb X M) := by
  refine q_start (by decide) rfl (Nat.le_of_ble_eq_true rfl) (fun p e s m args below meth c H locs hC hr hlk hnm hG ls hl => ?_)
  have hl : lv_has ls 4 [(0, .ref mb), (1, .int (nI i))] := hl
  have hx := hC.1.1
  have hb := hC.1.2.1
  have hts := hC.1.2.2.2.2
  have i5 : ∀ w ∈ wsX50, w ∈ wsX5_voters := by decide +kernel
  have hnf := hS.2.2.2.2
  have k38 := hts (.fieldLink RX5 38 "ViewStampsModel" "isVoter" "[Z") (by decide +kernel)
  have k77 := hts (.fieldLink RX5 77 "ViewStampsModel" "n" "I") (by decide +kernel)
  have loop : ∀ (d : Nat) (k j : Nat) (H : Heap) (locs : List Loc) (ls : Array Slot), n - j < d → j ≤ n → k = m_cnt M 11 (5 * i) j → gw D cA A (sM mb X M) s.heap H locs → lv_has ls 4 [(0, .ref mb), (1, .int (nI i)), (2, .int (nI k)), (3, .int (nI j))] → W p l e rmX5_voters s m args below meth c H locs 0 0 (MQ below (mQ D cA A (fun w Y => w = some (.int (nI (m_cnt M 11 (5 * i) n))) ∧ Y = sM mb X M)) args s rmX5_voters.cells rmX5_voters.slots A) (F0 m 4 ls []) := by
    intro d
    induction d with
    | zero => intro k j H locs ls hd; exact absurd hd (Nat.not_lt_zero _)
    | succ d ih =>
      intro k j H locs ls hd hj hk hG hl
      have hk2 := m_cnt_le M 11 (5 * i) j
      refine lv_iload_n hx hb dX5_voters_4 rfl (lv_at hl 3 rfl) ?_
      refine lv_aload_n hx hb dX5_voters_5 rfl (lv_at hl 0 rfl) ?_
      refine q_mn hC hG hS i5 k77 dX5_voters_6 ?_
      refine n_ge (tgt := 39) hC dX5_voters_9 (by decide) (by omega) (by omega) (fun c9 => ?_) (fun c9 => ?_)
      · have c9n := Nat.not_lt.mpr c9
        refine lv_iload_n hx hb dX5_voters_39 rfl (lv_at hl 2 rfl) ?_
        exact q_iret (v := (nI k)) hC hG hr hlk (⟨by rw [hk, show j = n by omega], rfl⟩) dX5_voters_40
      · have c9n := Nat.not_le.mpr c9
        refine lv_iload_n hx hb dX5_voters_12 rfl (lv_at hl 2 rfl) ?_
        refine lv_aload_n hx hb dX5_voters_13 rfl (lv_at hl 0 rfl) ?_
        refine q_mg hC hG hS i5 11 rfl k38 dX5_voters_14 ?_
        refine n_iconst hC 5 dX5_voters_17 ?_
        refine lv_iload_n hx hb dX5_voters_18 rfl (lv_at hl 1 rfl) ?_
        refine n_imul hC dX5_voters_19 ?_
        refine lv_iload_n hx hb dX5_voters_20 rfl (lv_at hl 3 rfl) ?_
        refine n_iadd hC dX5_voters_21 ?_
        refine q_mlz (N := 25) (w := M 11 ((5 * i) + j)) hC hG hS 11 rfl rfl rfl (by omega) rfl dX5_voters_22 ?_
        have b1 : M 11 ((5 * i) + j) < 2147483648 := by have := hB.1 11 ((5 * i) + j) rfl; first | exact this | (simp [up2, m_cp, m_cpk] at this; exact this) | omega
        refine n_ifeq (tgt := 30) hC dX5_voters_23 (by decide) (by omega) (fun c23 => ?_) (fun c23 => ?_)
        · refine n_iconst hC 0 dX5_voters_30 ?_
          refine n_iadd hC dX5_voters_31 ?_
          refine lv_istore_n (lv' := [(2, .int (nI (k + 0))), (0, .ref mb), (1, .int (nI i)), (3, .int (nI j))]) hx hb dX5_voters_32 rfl hl (by decide) rfl (fun ls hl => ?_)
          refine n_iinc (n := 1) (k := 3) (lv' := [(3, .int (nI (j + 1))), (2, .int (nI (k + 0))), (0, .ref mb), (1, .int (nI i))]) hC dX5_voters_33 hl rfl (by decide) rfl (fun ls hl => ?_)
          refine lv_goto (tgt := 4) hx hb dX5_voters_36 (by decide) ?_
          exact ih (k + 0) (j + 1) _ _ _ (by omega) (by omega) (by rw [m_cnt, ← hk]; simp only [c23, ↓reduceIte]) hG (lv_sub hl [2, 3, 1, 0] rfl)
        · refine n_iconst hC 1 dX5_voters_26 ?_
          refine lv_goto (tgt := 31) hx hb dX5_voters_27 (by decide) ?_
          refine n_iadd hC dX5_voters_31 ?_
          refine lv_istore_n (lv' := [(2, .int (nI (k + 1))), (0, .ref mb), (1, .int (nI i)), (3, .int (nI j))]) hx hb dX5_voters_32 rfl hl (by decide) rfl (fun ls hl => ?_)
          refine n_iinc (n := 1) (k := 3) (lv' := [(3, .int (nI (j + 1))), (2, .int (nI (k + 1))), (0, .ref mb), (1, .int (nI i))]) hC dX5_voters_33 hl rfl (by decide) rfl (fun ls hl => ?_)
          refine lv_goto (tgt := 4) hx hb dX5_voters_36 (by decide) ?_
          exact ih (k + 1) (j + 1) _ _ _ (by omega) (by omega) (by rw [m_cnt, ← hk]; simp only [c23, ↓reduceIte]) hG (lv_sub hl [2, 3, 1, 0] rfl)
  refine n_iconst hC 0 dX5_voters_0 ?_
  refine lv_istore_n (lv' := [(2, .int (nI 0)), (0, .ref mb), (1, .int (nI i))]) hx hb dX5_voters_1 rfl hl (by decide) rfl (fun ls hl => ?_)
  refine n_iconst hC 0 dX5_voters_2 ?_
  refine lv_istore_n (lv' := [(3, .int (nI 0)), (2, .int (nI 0)), (0, .ref mb), (1, .int (nI i))]) hx hb dX5_voters_3 rfl hl (by decide) rfl (fun ls hl => ?_)
  exact loop (n + 1) 0 0 _ _ _ (by omega) (by omega) rfl hG (lv_sub hl [2, 3, 1, 0] rfl)

abbrev rmX5_votes : Room := { frames := 0, cells := 0, slots := 0, locals := 0 }
set_option maxHeartbeats 4000000 in
set_option maxRecDepth 100000 in
theorem k_X5_votes (l : Launch) (D : va_G) (cA : Nat → ClassId) (A : Nat → Prop) {mb n f : Nat} {X : Mem} {M : MM} (hS : mS mb n f X) (hB : bM M) (i : Nat) (hi : i < n) : mt l D cA A yX5_votes wsX5_votes rmX5_votes [.ref mb, .int (nI i)] (sM mb X M) (fun w Y => w = some (.int (nI (m_cnt M 12 (5 * i) n))) ∧ Y = sM mb X M) := by
  refine q_start (by decide) rfl (Nat.le_of_ble_eq_true rfl) (fun p e s m args below meth c H locs hC hr hlk hnm hG ls hl => ?_)
  have hl : lv_has ls 4 [(0, .ref mb), (1, .int (nI i))] := hl
  have hx := hC.1.1
  have hb := hC.1.2.1
  have hts := hC.1.2.2.2.2
  have i5 : ∀ w ∈ wsX50, w ∈ wsX5_votes := by decide +kernel
  have hnf := hS.2.2.2.2
  have k41 := hts (.fieldLink RX5 41 "ViewStampsModel" "hasVote" "[Z") (by decide +kernel)
  have k77 := hts (.fieldLink RX5 77 "ViewStampsModel" "n" "I") (by decide +kernel)
  have loop : ∀ (d : Nat) (k j : Nat) (H : Heap) (locs : List Loc) (ls : Array Slot), n - j < d → j ≤ n → k = m_cnt M 12 (5 * i) j → gw D cA A (sM mb X M) s.heap H locs → lv_has ls 4 [(0, .ref mb), (1, .int (nI i)), (2, .int (nI k)), (3, .int (nI j))] → W p l e rmX5_votes s m args below meth c H locs 0 0 (MQ below (mQ D cA A (fun w Y => w = some (.int (nI (m_cnt M 12 (5 * i) n))) ∧ Y = sM mb X M)) args s rmX5_votes.cells rmX5_votes.slots A) (F0 m 4 ls []) := by
    intro d
    induction d with
    | zero => intro k j H locs ls hd; exact absurd hd (Nat.not_lt_zero _)
    | succ d ih =>
      intro k j H locs ls hd hj hk hG hl
      have hk2 := m_cnt_le M 12 (5 * i) j
      refine lv_iload_n hx hb dX5_votes_4 rfl (lv_at hl 3 rfl) ?_
      refine lv_aload_n hx hb dX5_votes_5 rfl (lv_at hl 0 rfl) ?_
      refine q_mn hC hG hS i5 k77 dX5_votes_6 ?_
      refine n_ge (tgt := 39) hC dX5_votes_9 (by decide) (by omega) (by omega) (fun c9 => ?_) (fun c9 => ?_)
      · have c9n := Nat.not_lt.mpr c9
        refine lv_iload_n hx hb dX5_votes_39 rfl (lv_at hl 2 rfl) ?_
        exact q_iret (v := (nI k)) hC hG hr hlk (⟨by rw [hk, show j = n by omega], rfl⟩) dX5_votes_40
      · have c9n := Nat.not_le.mpr c9
        refine lv_iload_n hx hb dX5_votes_12 rfl (lv_at hl 2 rfl) ?_
        refine lv_aload_n hx hb dX5_votes_13 rfl (lv_at hl 0 rfl) ?_
        refine q_mg hC hG hS i5 12 rfl k41 dX5_votes_14 ?_
        refine n_iconst hC 5 dX5_votes_17 ?_
        refine lv_iload_n hx hb dX5_votes_18 rfl (lv_at hl 1 rfl) ?_
        refine n_imul hC dX5_votes_19 ?_
        refine lv_iload_n hx hb dX5_votes_20 rfl (lv_at hl 3 rfl) ?_
        refine n_iadd hC dX5_votes_21 ?_
        refine q_mlz (N := 25) (w := M 12 ((5 * i) + j)) hC hG hS 12 rfl rfl rfl (by omega) rfl dX5_votes_22 ?_
        have b1 : M 12 ((5 * i) + j) < 2147483648 := by have := hB.1 12 ((5 * i) + j) rfl; first | exact this | (simp [up2, m_cp, m_cpk] at this; exact this) | omega
        refine n_ifeq (tgt := 30) hC dX5_votes_23 (by decide) (by omega) (fun c23 => ?_) (fun c23 => ?_)
        · refine n_iconst hC 0 dX5_votes_30 ?_
          refine n_iadd hC dX5_votes_31 ?_
          refine lv_istore_n (lv' := [(2, .int (nI (k + 0))), (0, .ref mb), (1, .int (nI i)), (3, .int (nI j))]) hx hb dX5_votes_32 rfl hl (by decide) rfl (fun ls hl => ?_)
          refine n_iinc (n := 1) (k := 3) (lv' := [(3, .int (nI (j + 1))), (2, .int (nI (k + 0))), (0, .ref mb), (1, .int (nI i))]) hC dX5_votes_33 hl rfl (by decide) rfl (fun ls hl => ?_)
          refine lv_goto (tgt := 4) hx hb dX5_votes_36 (by decide) ?_
          exact ih (k + 0) (j + 1) _ _ _ (by omega) (by omega) (by rw [m_cnt, ← hk]; simp only [c23, ↓reduceIte]) hG (lv_sub hl [2, 3, 1, 0] rfl)
        · refine n_iconst hC 1 dX5_votes_26 ?_
          refine lv_goto (tgt := 31) hx hb dX5_votes_27 (by decide) ?_
          refine n_iadd hC dX5_votes_31 ?_
          refine lv_istore_n (lv' := [(2, .int (nI (k + 1))), (0, .ref mb), (1, .int (nI i)), (3, .int (nI j))]) hx hb dX5_votes_32 rfl hl (by decide) rfl (fun ls hl => ?_)
          refine n_iinc (n := 1) (k := 3) (lv' := [(3, .int (nI (j + 1))), (2, .int (nI (k + 1))), (0, .ref mb), (1, .int (nI i))]) hC dX5_votes_33 hl rfl (by decide) rfl (fun ls hl => ?_)
          refine lv_goto (tgt := 4) hx hb dX5_votes_36 (by decide) ?_
          exact ih (k + 1) (j + 1) _ _ _ (by omega) (by omega) (by rw [m_cnt, ← hk]; simp only [c23, ↓reduceIte]) hG (lv_sub hl [2, 3, 1, 0] rfl)
  refine n_iconst hC 0 dX5_votes_0 ?_
  refine lv_istore_n (lv' := [(2, .int (nI 0)), (0, .ref mb), (1, .int (nI i))]) hx hb dX5_votes_1 rfl hl (by decide) rfl (fun ls hl => ?_)
  refine n_iconst hC 0 dX5_votes_2 ?_
  refine lv_istore_n (lv' := [(3, .int (nI 0)), (2, .int (nI 0)), (0, .ref mb), (1, .int (nI i))]) hx hb dX5_votes_3 rfl hl (by decide) rfl (fun ls hl => ?_)
  exact loop (n + 1) 0 0 _ _ _ (by omega) (by omega) rfl hG (lv_sub hl [2, 3, 1, 0] rfl)

abbrev rmX5_tales : Room := { frames := 0, cells := 0, slots := 0, locals := 0 }
set_option maxHeartbeats 4000000 in
set_option maxRecDepth 100000 in
theorem k_X5_tales (l : Launch) (D : va_G) (cA : Nat → ClassId) (A : Nat → Prop) {mb n f : Nat} {X : Mem} {M : MM} (hS : mS mb n f X) (hB : bM M) (i : Nat) (hi : i < n) : mt l D cA A yX5_tales wsX5_tales rmX5_tales [.ref mb, .int (nI i)] (sM mb X M) (fun w Y => w = some (.int (nI (m_cnt M 14 (5 * i) n))) ∧ Y = sM mb X M) := by
  refine q_start (by decide) rfl (Nat.le_of_ble_eq_true rfl) (fun p e s m args below meth c H locs hC hr hlk hnm hG ls hl => ?_)
  have hl : lv_has ls 4 [(0, .ref mb), (1, .int (nI i))] := hl
  have hx := hC.1.1
  have hb := hC.1.2.1
  have hts := hC.1.2.2.2.2
  have i5 : ∀ w ∈ wsX50, w ∈ wsX5_tales := by decide +kernel
  have hnf := hS.2.2.2.2
  have k47 := hts (.fieldLink RX5 47 "ViewStampsModel" "hasTale" "[Z") (by decide +kernel)
  have k77 := hts (.fieldLink RX5 77 "ViewStampsModel" "n" "I") (by decide +kernel)
  have loop : ∀ (d : Nat) (k j : Nat) (H : Heap) (locs : List Loc) (ls : Array Slot), n - j < d → j ≤ n → k = m_cnt M 14 (5 * i) j → gw D cA A (sM mb X M) s.heap H locs → lv_has ls 4 [(0, .ref mb), (1, .int (nI i)), (2, .int (nI k)), (3, .int (nI j))] → W p l e rmX5_tales s m args below meth c H locs 0 0 (MQ below (mQ D cA A (fun w Y => w = some (.int (nI (m_cnt M 14 (5 * i) n))) ∧ Y = sM mb X M)) args s rmX5_tales.cells rmX5_tales.slots A) (F0 m 4 ls []) := by
    intro d
    induction d with
    | zero => intro k j H locs ls hd; exact absurd hd (Nat.not_lt_zero _)
    | succ d ih =>
      intro k j H locs ls hd hj hk hG hl
      have hk2 := m_cnt_le M 14 (5 * i) j
      refine lv_iload_n hx hb dX5_tales_4 rfl (lv_at hl 3 rfl) ?_
      refine lv_aload_n hx hb dX5_tales_5 rfl (lv_at hl 0 rfl) ?_
      refine q_mn hC hG hS i5 k77 dX5_tales_6 ?_
      refine n_ge (tgt := 39) hC dX5_tales_9 (by decide) (by omega) (by omega) (fun c9 => ?_) (fun c9 => ?_)
      · have c9n := Nat.not_lt.mpr c9
        refine lv_iload_n hx hb dX5_tales_39 rfl (lv_at hl 2 rfl) ?_
        exact q_iret (v := (nI k)) hC hG hr hlk (⟨by rw [hk, show j = n by omega], rfl⟩) dX5_tales_40
      · have c9n := Nat.not_le.mpr c9
        refine lv_iload_n hx hb dX5_tales_12 rfl (lv_at hl 2 rfl) ?_
        refine lv_aload_n hx hb dX5_tales_13 rfl (lv_at hl 0 rfl) ?_
        refine q_mg hC hG hS i5 14 rfl k47 dX5_tales_14 ?_
        refine n_iconst hC 5 dX5_tales_17 ?_
        refine lv_iload_n hx hb dX5_tales_18 rfl (lv_at hl 1 rfl) ?_
        refine n_imul hC dX5_tales_19 ?_
        refine lv_iload_n hx hb dX5_tales_20 rfl (lv_at hl 3 rfl) ?_
        refine n_iadd hC dX5_tales_21 ?_
        refine q_mlz (N := 25) (w := M 14 ((5 * i) + j)) hC hG hS 14 rfl rfl rfl (by omega) rfl dX5_tales_22 ?_
        have b1 : M 14 ((5 * i) + j) < 2147483648 := by have := hB.1 14 ((5 * i) + j) rfl; first | exact this | (simp [up2, m_cp, m_cpk] at this; exact this) | omega
        refine n_ifeq (tgt := 30) hC dX5_tales_23 (by decide) (by omega) (fun c23 => ?_) (fun c23 => ?_)
        · refine n_iconst hC 0 dX5_tales_30 ?_
          refine n_iadd hC dX5_tales_31 ?_
          refine lv_istore_n (lv' := [(2, .int (nI (k + 0))), (0, .ref mb), (1, .int (nI i)), (3, .int (nI j))]) hx hb dX5_tales_32 rfl hl (by decide) rfl (fun ls hl => ?_)
          refine n_iinc (n := 1) (k := 3) (lv' := [(3, .int (nI (j + 1))), (2, .int (nI (k + 0))), (0, .ref mb), (1, .int (nI i))]) hC dX5_tales_33 hl rfl (by decide) rfl (fun ls hl => ?_)
          refine lv_goto (tgt := 4) hx hb dX5_tales_36 (by decide) ?_
          exact ih (k + 0) (j + 1) _ _ _ (by omega) (by omega) (by rw [m_cnt, ← hk]; simp only [c23, ↓reduceIte]) hG (lv_sub hl [2, 3, 1, 0] rfl)
        · refine n_iconst hC 1 dX5_tales_26 ?_
          refine lv_goto (tgt := 31) hx hb dX5_tales_27 (by decide) ?_
          refine n_iadd hC dX5_tales_31 ?_
          refine lv_istore_n (lv' := [(2, .int (nI (k + 1))), (0, .ref mb), (1, .int (nI i)), (3, .int (nI j))]) hx hb dX5_tales_32 rfl hl (by decide) rfl (fun ls hl => ?_)
          refine n_iinc (n := 1) (k := 3) (lv' := [(3, .int (nI (j + 1))), (2, .int (nI (k + 1))), (0, .ref mb), (1, .int (nI i))]) hC dX5_tales_33 hl rfl (by decide) rfl (fun ls hl => ?_)
          refine lv_goto (tgt := 4) hx hb dX5_tales_36 (by decide) ?_
          exact ih (k + 1) (j + 1) _ _ _ (by omega) (by omega) (by rw [m_cnt, ← hk]; simp only [c23, ↓reduceIte]) hG (lv_sub hl [2, 3, 1, 0] rfl)
  refine n_iconst hC 0 dX5_tales_0 ?_
  refine lv_istore_n (lv' := [(2, .int (nI 0)), (0, .ref mb), (1, .int (nI i))]) hx hb dX5_tales_1 rfl hl (by decide) rfl (fun ls hl => ?_)
  refine n_iconst hC 0 dX5_tales_2 ?_
  refine lv_istore_n (lv' := [(3, .int (nI 0)), (2, .int (nI 0)), (0, .ref mb), (1, .int (nI i))]) hx hb dX5_tales_3 rfl hl (by decide) rfl (fun ls hl => ?_)
  exact loop (n + 1) 0 0 _ _ _ (by omega) (by omega) rfl hG (lv_sub hl [2, 3, 1, 0] rfl)

def m_fgk (M : MM) (i k : Nat) : MM := fun x y => if (x = 11 ∨ x = 12) ∧ 5 * i ≤ y ∧ y < 5 * i + k then 0 else M x y
def m_fg (M : MM) (i : Nat) : MM := up2 (m_fgk M i 5) 8 i 0
theorem m_fgk_s (M : MM) (i k : Nat) : up2 (up2 (m_fgk M i k) 11 (5 * i + k) 0) 12 (5 * i + k) 0 = m_fgk M i (k + 1) := by
  funext x y
  unfold up2 m_fgk
  by_cases h1 : x = 11
  · subst h1
    by_cases hy : y = 5 * i + k
    · subst hy; simp
    · have : (5 * i ≤ y ∧ y < 5 * i + k) ↔ (5 * i ≤ y ∧ y < 5 * i + (k + 1)) := by omega
      simp [hy, this]
  · by_cases h2 : x = 12
    · subst h2
      by_cases hy : y = 5 * i + k
      · subst hy; simp
      · have : (5 * i ≤ y ∧ y < 5 * i + k) ↔ (5 * i ≤ y ∧ y < 5 * i + (k + 1)) := by omega
        simp [hy, this]
    · simp [h1, h2]
theorem m_fgk_0 (M : MM) (i : Nat) : m_fgk M i 0 = M := by
  funext x y
  unfold m_fgk
  rw [if_neg (by omega)]
theorem bM_fgk {M : MM} (h : bM M) (i k : Nat) : bM (m_fgk M i k) := by
  refine ⟨fun x y hx => ?_, ?_⟩
  · unfold m_fgk
    split
    · decide
    · exact h.1 x y hx
  · have : m_fgk M i k 17 0 = M 17 0 := by simp [m_fgk]
    rw [this]; exact h.2
theorem bM_fg {M : MM} (h : bM M) (i : Nat) : bM (m_fg M i) := bM_up (bM_fgk h i 5) 8 i (by decide)

abbrev rmX5_forget : Room := { frames := 0, cells := 0, slots := 0, locals := 0 }
set_option maxHeartbeats 4000000 in
set_option maxRecDepth 100000 in
theorem k_X5_forget (l : Launch) (D : va_G) (cA : Nat → ClassId) (A : Nat → Prop) {mb n f : Nat} {X : Mem} {M : MM} (hS : mS mb n f X) (hB : bM M) (i : Nat) (hi : i < n) : mt l D cA A yX5_forget wsX5_forget rmX5_forget [.ref mb, .int (nI i)] (sM mb X M) (fun w Y => w = none ∧ Y = sM mb X (m_fg M i)) := by
  refine q_start (by decide) rfl (Nat.le_of_ble_eq_true rfl) (fun p e s m args below meth c H locs hC hr hlk hnm hG ls hl => ?_)
  have hl : lv_has ls 3 [(0, .ref mb), (1, .int (nI i))] := hl
  have hx := hC.1.1
  have hb := hC.1.2.1
  have hts := hC.1.2.2.2.2
  have i5 : ∀ w ∈ wsX50, w ∈ wsX5_forget := by decide +kernel
  have hnf := hS.2.2.2.2
  have hB0 := hB
  have k28 := hts (.fieldLink RX5 28 "ViewStampsModel" "voted" "[Z") (by decide +kernel)
  have k38 := hts (.fieldLink RX5 38 "ViewStampsModel" "isVoter" "[Z") (by decide +kernel)
  have k41 := hts (.fieldLink RX5 41 "ViewStampsModel" "hasVote" "[Z") (by decide +kernel)
  have loop : ∀ (d : Nat) (k : Nat) (H : Heap) (locs : List Loc) (ls : Array Slot), 5 - k < d → k ≤ 5 → bM (m_fgk M i k) → gw D cA A (sM mb X (m_fgk M i k)) s.heap H locs → lv_has ls 3 [(0, .ref mb), (1, .int (nI i)), (2, .int (nI k))] → W p l e rmX5_forget s m args below meth c H locs 0 0 (MQ below (mQ D cA A (fun w Y => w = none ∧ Y = sM mb X (m_fg M i))) args s rmX5_forget.cells rmX5_forget.slots A) (F0 m 2 ls []) := by
    intro d
    induction d with
    | zero => intro k H locs ls hd; exact absurd hd (Nat.not_lt_zero _)
    | succ d ih =>
      intro k H locs ls hd hk hB hG hl
      refine lv_iload_n hx hb dX5_forget_2 rfl (lv_at hl 2 rfl) ?_
      refine n_iconst hC 5 dX5_forget_3 ?_
      refine n_ge (tgt := 35) hC dX5_forget_4 (by decide) (by omega) (by omega) (fun c4 => ?_) (fun c4 => ?_)
      · have c4n := Nat.not_lt.mpr c4
        refine lv_aload_n hx hb dX5_forget_35 rfl (lv_at hl 0 rfl) ?_
        refine q_mg hC hG hS i5 8 rfl k28 dX5_forget_36 ?_
        refine lv_iload_n hx hb dX5_forget_39 rfl (lv_at hl 1 rfl) ?_
        refine n_iconst hC 0 dX5_forget_40 ?_
        refine q_msz (N := 5) hC hG hS 8 rfl rfl rfl (by omega) (by omega) dX5_forget_41 (fun H locs hG => ?_)
        have hB := bM_up hB 8 i (v := 0) (by omega)
        exact q_vret hC hG hr hlk (⟨rfl, by rw [show k = 5 by omega]; rfl⟩) dX5_forget_42
      · have c4n := Nat.not_le.mpr c4
        refine lv_aload_n hx hb dX5_forget_7 rfl (lv_at hl 0 rfl) ?_
        refine q_mg hC hG hS i5 11 rfl k38 dX5_forget_8 ?_
        refine n_iconst hC 5 dX5_forget_11 ?_
        refine lv_iload_n hx hb dX5_forget_12 rfl (lv_at hl 1 rfl) ?_
        refine n_imul hC dX5_forget_13 ?_
        refine lv_iload_n hx hb dX5_forget_14 rfl (lv_at hl 2 rfl) ?_
        refine n_iadd hC dX5_forget_15 ?_
        refine n_iconst hC 0 dX5_forget_16 ?_
        refine q_msz (N := 25) hC hG hS 11 rfl rfl rfl (by omega) (by omega) dX5_forget_17 (fun H locs hG => ?_)
        have hB := bM_up hB 11 ((5 * i) + k) (v := 0) (by omega)
        refine lv_aload_n hx hb dX5_forget_18 rfl (lv_at hl 0 rfl) ?_
        refine q_mg hC hG hS i5 12 rfl k41 dX5_forget_19 ?_
        refine n_iconst hC 5 dX5_forget_22 ?_
        refine lv_iload_n hx hb dX5_forget_23 rfl (lv_at hl 1 rfl) ?_
        refine n_imul hC dX5_forget_24 ?_
        refine lv_iload_n hx hb dX5_forget_25 rfl (lv_at hl 2 rfl) ?_
        refine n_iadd hC dX5_forget_26 ?_
        refine n_iconst hC 0 dX5_forget_27 ?_
        refine q_msz (N := 25) hC hG hS 12 rfl rfl rfl (by omega) (by omega) dX5_forget_28 (fun H locs hG => ?_)
        have hB := bM_up hB 12 ((5 * i) + k) (v := 0) (by omega)
        refine n_iinc (n := 1) (k := 2) (lv' := [(2, .int (nI (k + 1))), (0, .ref mb), (1, .int (nI i))]) hC dX5_forget_29 hl rfl (by decide) rfl (fun ls hl => ?_)
        refine lv_goto (tgt := 2) hx hb dX5_forget_32 (by decide) ?_
        have hG : gw D cA A (sM mb X (up2 (up2 (m_fgk M i k) 11 (5 * i + k) 0) 12 (5 * i + k) 0)) _ _ _ := hG
        rw [m_fgk_s] at hG
        exact ih (k + 1) _ _ _ (by omega) (by omega) (bM_fgk hB0 i _) hG (lv_sub hl [1, 2, 0] rfl)
  refine n_iconst hC 0 dX5_forget_0 ?_
  refine lv_istore_n (lv' := [(2, .int (nI 0)), (0, .ref mb), (1, .int (nI i))]) hx hb dX5_forget_1 rfl hl (by decide) rfl (fun ls hl => ?_)
  exact loop 6 0 _ _ _ (by omega) (by omega) (bM_fgk hB0 i 0) (by rw [m_fgk_0]; exact hG) (lv_sub hl [1, 2, 0] rfl)

def m_chg (n : Nat) (M : MM) (i v : Nat) : MM := m_pa (m_fg (up2 (up2 M 6 i v) 5 i 1) i) i 3 v 0 n
theorem bM_chg {n : Nat} {M : MM} (h : bM M) {i v : Nat} (hi : i < 2147483648) (hn : n < 2147483648) (hv : v < 2147483648) : bM (m_chg n M i v) :=
  bM_pa (bM_fg (bM_up (bM_up h 6 i hv) 5 i (by decide)) i) hi (by decide) hv (by decide) n hn

abbrev rmX5_changes : Room := { frames := 3, cells := 0, slots := 0, locals := 73 }
set_option maxHeartbeats 4000000 in
set_option maxRecDepth 100000 in
theorem k_X5_changes (l : Launch) (D : va_G) (cA : Nat → ClassId) (A : Nat → Prop) {mb n f : Nat} {X : Mem} {M : MM} (hS : mS mb n f X) (hB : bM M) (i v : Nat) (hi : i < n) (hv : v < 2147483648) : mt l D cA A yX5_changes wsX5_changes rmX5_changes [.ref mb, .int (nI i), .int (nI v)] (sM mb X M) (fun w Y => w = none ∧ Y = sM mb X (m_chg n M i v)) := by
  refine q_start (by decide) rfl (Nat.le_of_ble_eq_true rfl) (fun p e s m args below meth c H locs hC hr hlk hnm hG ls hl => ?_)
  have hl : lv_has ls 4 [(0, .ref mb), (1, .int (nI i)), (2, .int (nI v))] := hl
  have hx := hC.1.1
  have hb := hC.1.2.1
  have hts := hC.1.2.2.2.2
  have i5 : ∀ w ∈ wsX50, w ∈ wsX5_changes := by decide +kernel
  have hnf := hS.2.2.2.2
  have k19 := hts (.fieldLink RX5 19 "ViewStampsModel" "status" "[I") (by decide +kernel)
  have k22 := hts (.fieldLink RX5 22 "ViewStampsModel" "view" "[I") (by decide +kernel)
  refine lv_aload_n hx hb dX5_changes_0 rfl (lv_at hl 0 rfl) ?_
  refine q_mg hC hG hS i5 6 rfl k22 dX5_changes_1 ?_
  refine lv_iload_n hx hb dX5_changes_4 rfl (lv_at hl 1 rfl) ?_
  refine lv_iload_n hx hb dX5_changes_5 rfl (lv_at hl 2 rfl) ?_
  refine q_ms (N := 5) hC hG hS 6 rfl rfl rfl (by omega) dX5_changes_6 (fun H locs hG => ?_)
  have hB := bM_up hB 6 i (v := v) (by omega)
  refine lv_aload_n hx hb dX5_changes_7 rfl (lv_at hl 0 rfl) ?_
  refine q_mg hC hG hS i5 5 rfl k19 dX5_changes_8 ?_
  refine lv_iload_n hx hb dX5_changes_11 rfl (lv_at hl 1 rfl) ?_
  refine n_iconst hC 1 dX5_changes_12 ?_
  refine q_ms (N := 5) hC hG hS 5 rfl rfl rfl (by omega) dX5_changes_13 (fun H locs hG => ?_)
  have hB := bM_up hB 5 i (v := 1) (by omega)
  refine lv_aload_n hx hb dX5_changes_14 rfl (lv_at hl 0 rfl) ?_
  refine lv_iload_n hx hb dX5_changes_15 rfl (lv_at hl 1 rfl) ?_
  refine q_callV (rest := []) (k_X5_forget l D cA A hS hB i (by omega)) hC hG cF5 hS.1 1 gX5_changes_X5_forget rfl (by decide +kernel) ⟨by decide, by decide⟩ rfl hl.1 rfl (by simp [Value.category]) dX5_changes_16 ⟨Nat.le_of_ble_eq_true rfl, Nat.le_of_ble_eq_true rfl⟩ (fun v Y H locs hq hG => ?_)
  obtain ⟨rfl, rfl⟩ := hq
  have hB := bM_fg hB i
  refine lv_aload_n hx hb dX5_changes_19 rfl (lv_at hl 0 rfl) ?_
  refine lv_iload_n hx hb dX5_changes_20 rfl (lv_at hl 1 rfl) ?_
  refine n_iconst hC 3 dX5_changes_21 ?_
  refine lv_iload_n hx hb dX5_changes_22 rfl (lv_at hl 2 rfl) ?_
  refine n_iconst hC 0 dX5_changes_23 ?_
  refine q_callV (rest := []) (k_X5_postAll l D cA A hS hB i 3 v 0 (by omega) (by omega) (by omega) (by omega)) hC hG cF5 hS.1 4 gX5_changes_X5_postAll rfl (by decide +kernel) ⟨by decide, by decide⟩ rfl hl.1 rfl (by simp [Value.category]) dX5_changes_24 ⟨Nat.le_of_ble_eq_true rfl, Nat.le_of_ble_eq_true rfl⟩ (fun v Y H locs hq hG => ?_)
  obtain ⟨rfl, rfl⟩ := hq
  have hB := bM_pa (i := i) (k := 3) (v := v) (c := 0) hB (by omega) (by omega) (by omega) (by omega) n (by omega)
  refine lv_istore_n (lv' := [(3, .int (nI (n - 1))), (0, .ref mb), (1, .int (nI i)), (2, .int (nI v))]) hx hb dX5_changes_27 rfl hl (by decide) rfl (fun ls hl => ?_)
  exact q_vret hC hG hr hlk (⟨rfl, rfl⟩) dX5_changes_28
end
