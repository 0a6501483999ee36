section
-- ===== PART A: goes FIRST, ahead of the names: the tables' words, and 'selects' of the private methods out of them =====
/-- a private method of a class that the tables say can be made, by its rows of tables_1 -/
def lw_okq (q : MethodName × Nat) : Prop := (q.1.cls ≠ "java/lang/invoke/MethodHandle" ∧ q.1.cls ≠ "java/lang/invoke/VarHandle") ∧ Cond.instantiable q.1.cls q.2 ∈ tables_1 ∧ Cond.privateMethod q.1 ∈ tables_1 ∧ Cond.instanceMethod q.1 ∈ tables_1
theorem lw_p0 : lw_okq (⟨"WishRoutes", "isDesk", "(I)Z"⟩, 14) := ⟨⟨by decide +kernel, by decide +kernel⟩, List.mem_of_getElem? (i := 19) (by decide +kernel), List.mem_of_getElem? (i := 139) (by decide +kernel), List.mem_of_getElem? (i := 140) (by decide +kernel)⟩
theorem lw_p1 : lw_okq (⟨"WishRoutes", "reach", "(II)I"⟩, 14) := ⟨⟨by decide +kernel, by decide +kernel⟩, List.mem_of_getElem? (i := 19) (by decide +kernel), List.mem_of_getElem? (i := 143) (by decide +kernel), List.mem_of_getElem? (i := 144) (by decide +kernel)⟩
theorem lw_p2 : lw_okq (⟨"WishRoutes", "openLane", "(II)V"⟩, 14) := ⟨⟨by decide +kernel, by decide +kernel⟩, List.mem_of_getElem? (i := 19) (by decide +kernel), List.mem_of_getElem? (i := 150) (by decide +kernel), List.mem_of_getElem? (i := 151) (by decide +kernel)⟩
theorem lw_p3 : lw_okq (⟨"java/util/ArrayList", "fastRemove", "([Ljava/lang/Object;I)V"⟩, 3) := ⟨⟨by decide +kernel, by decide +kernel⟩, List.mem_of_getElem? (i := 27) (by decide +kernel), List.mem_of_getElem? (i := 168) (by decide +kernel), List.mem_of_getElem? (i := 169) (by decide +kernel)⟩
theorem lw_p4 : lw_okq (⟨"WishRoutes", "tellNeighbours", "(I)V"⟩, 14) := ⟨⟨by decide +kernel, by decide +kernel⟩, List.mem_of_getElem? (i := 19) (by decide +kernel), List.mem_of_getElem? (i := 205) (by decide +kernel), List.mem_of_getElem? (i := 206) (by decide +kernel)⟩
theorem lw_p5 : lw_okq (⟨"WishRoutes", "laneFrom", "(II)LWishRoutes$Lane;"⟩, 14) := ⟨⟨by decide +kernel, by decide +kernel⟩, List.mem_of_getElem? (i := 19) (by decide +kernel), List.mem_of_getElem? (i := 209) (by decide +kernel), List.mem_of_getElem? (i := 210) (by decide +kernel)⟩
theorem lw_p6 : lw_okq (⟨"WishRoutes", "findMeant", "(II)V"⟩, 14) := ⟨⟨by decide +kernel, by decide +kernel⟩, List.mem_of_getElem? (i := 19) (by decide +kernel), List.mem_of_getElem? (i := 213) (by decide +kernel), List.mem_of_getElem? (i := 214) (by decide +kernel)⟩
theorem lw_p7 : lw_okq (⟨"WishRoutes", "findKnown", "(II)V"⟩, 14) := ⟨⟨by decide +kernel, by decide +kernel⟩, List.mem_of_getElem? (i := 19) (by decide +kernel), List.mem_of_getElem? (i := 217) (by decide +kernel), List.mem_of_getElem? (i := 218) (by decide +kernel)⟩
theorem lw_p8 : lw_okq (⟨"WishRoutes$Lane", "slot", "(I)I"⟩, 6) := ⟨⟨by decide +kernel, by decide +kernel⟩, List.mem_of_getElem? (i := 174) (by decide +kernel), List.mem_of_getElem? (i := 262) (by decide +kernel), List.mem_of_getElem? (i := 263) (by decide +kernel)⟩
theorem lw_p9 : lw_okq (⟨"WishRoutes$Lane", "rowAt", "(I)LWishRoutes$Row;"⟩, 6) := ⟨⟨by decide +kernel, by decide +kernel⟩, List.mem_of_getElem? (i := 174) (by decide +kernel), List.mem_of_getElem? (i := 266) (by decide +kernel), List.mem_of_getElem? (i := 267) (by decide +kernel)⟩
theorem lw_p10 : lw_okq (⟨"WishRoutes", "closeLane", "(II)V"⟩, 14) := ⟨⟨by decide +kernel, by decide +kernel⟩, List.mem_of_getElem? (i := 19) (by decide +kernel), List.mem_of_getElem? (i := 278) (by decide +kernel), List.mem_of_getElem? (i := 279) (by decide +kernel)⟩
theorem lw_p11 : lw_okq (⟨"WishRoutes", "findNotice", "(I)LWishRoutes$Notice;"⟩, 14) := ⟨⟨by decide +kernel, by decide +kernel⟩, List.mem_of_getElem? (i := 19) (by decide +kernel), List.mem_of_getElem? (i := 283) (by decide +kernel), List.mem_of_getElem? (i := 284) (by decide +kernel)⟩
theorem lw_p12 : lw_okq (⟨"java/util/ArrayList", "add", "(Ljava/lang/Object;[Ljava/lang/Object;I)V"⟩, 3) := ⟨⟨by decide +kernel, by decide +kernel⟩, List.mem_of_getElem? (i := 27) (by decide +kernel), List.mem_of_getElem? (i := 297) (by decide +kernel), List.mem_of_getElem? (i := 298) (by decide +kernel)⟩
theorem lw_p13 : lw_okq (⟨"java/util/ArrayList", "grow", "()[Ljava/lang/Object;"⟩, 3) := ⟨⟨by decide +kernel, by decide +kernel⟩, List.mem_of_getElem? (i := 27) (by decide +kernel), List.mem_of_getElem? (i := 301) (by decide +kernel), List.mem_of_getElem? (i := 302) (by decide +kernel)⟩
theorem lw_p14 : lw_okq (⟨"java/util/ArrayList", "grow", "(I)[Ljava/lang/Object;"⟩, 3) := ⟨⟨by decide +kernel, by decide +kernel⟩, List.mem_of_getElem? (i := 27) (by decide +kernel), List.mem_of_getElem? (i := 305) (by decide +kernel), List.mem_of_getElem? (i := 306) (by decide +kernel)⟩
theorem lw_p15 : lw_okq (⟨"WishRoutes", "findReader", "(I)LWishRoutes$Reader;"⟩, 14) := ⟨⟨by decide +kernel, by decide +kernel⟩, List.mem_of_getElem? (i := 19) (by decide +kernel), List.mem_of_getElem? (i := 372) (by decide +kernel), List.mem_of_getElem? (i := 373) (by decide +kernel)⟩
def lw_privs_1 : List (MethodName × Nat) := [(⟨"WishRoutes", "isDesk", "(I)Z"⟩, 14), (⟨"WishRoutes", "reach", "(II)I"⟩, 14), (⟨"WishRoutes", "openLane", "(II)V"⟩, 14), (⟨"java/util/ArrayList", "fastRemove", "([Ljava/lang/Object;I)V"⟩, 3), (⟨"WishRoutes", "tellNeighbours", "(I)V"⟩, 14), (⟨"WishRoutes", "laneFrom", "(II)LWishRoutes$Lane;"⟩, 14), (⟨"WishRoutes", "findMeant", "(II)V"⟩, 14), (⟨"WishRoutes", "findKnown", "(II)V"⟩, 14), (⟨"WishRoutes$Lane", "slot", "(I)I"⟩, 6), (⟨"WishRoutes$Lane", "rowAt", "(I)LWishRoutes$Row;"⟩, 6), (⟨"WishRoutes", "closeLane", "(II)V"⟩, 14), (⟨"WishRoutes", "findNotice", "(I)LWishRoutes$Notice;"⟩, 14), (⟨"java/util/ArrayList", "add", "(Ljava/lang/Object;[Ljava/lang/Object;I)V"⟩, 3), (⟨"java/util/ArrayList", "grow", "()[Ljava/lang/Object;"⟩, 3), (⟨"java/util/ArrayList", "grow", "(I)[Ljava/lang/Object;"⟩, 3), (⟨"WishRoutes", "findReader", "(I)LWishRoutes$Reader;"⟩, 14)]
theorem lw_r1 : ∀ q ∈ lw_privs_1, lw_okq q := List.forall_mem_cons.mpr ⟨lw_p0, List.forall_mem_cons.mpr ⟨lw_p1, List.forall_mem_cons.mpr ⟨lw_p2, List.forall_mem_cons.mpr ⟨lw_p3, List.forall_mem_cons.mpr ⟨lw_p4, List.forall_mem_cons.mpr ⟨lw_p5, List.forall_mem_cons.mpr ⟨lw_p6, List.forall_mem_cons.mpr ⟨lw_p7, List.forall_mem_cons.mpr ⟨lw_p8, List.forall_mem_cons.mpr ⟨lw_p9, List.forall_mem_cons.mpr ⟨lw_p10, List.forall_mem_cons.mpr ⟨lw_p11, List.forall_mem_cons.mpr ⟨lw_p12, List.forall_mem_cons.mpr ⟨lw_p13, List.forall_mem_cons.mpr ⟨lw_p14, List.forall_mem_cons.mpr ⟨lw_p15, fun _ h => absurd h List.not_mem_nil⟩⟩⟩⟩⟩⟩⟩⟩⟩⟩⟩⟩⟩⟩⟩⟩
theorem lw_p16 : lw_okq (⟨"WishRoutes$FieldTest", "hasNumber", "(I)Z"⟩, 3) := ⟨⟨by decide +kernel, by decide +kernel⟩, List.mem_of_getElem? (i := 71) (by decide +kernel), List.mem_of_getElem? (i := 395) (by decide +kernel), List.mem_of_getElem? (i := 396) (by decide +kernel)⟩
theorem lw_p17 : lw_okq (⟨"WishRoutes", "weigh", "(LWishRoutes$Wish;I)V"⟩, 14) := ⟨⟨by decide +kernel, by decide +kernel⟩, List.mem_of_getElem? (i := 19) (by decide +kernel), List.mem_of_getElem? (i := 431) (by decide +kernel), List.mem_of_getElem? (i := 432) (by decide +kernel)⟩
theorem lw_p18 : lw_okq (⟨"WishRoutes$Wish", "isNeverMet", "()Z"⟩, 5) := ⟨⟨by decide +kernel, by decide +kernel⟩, List.mem_of_getElem? (i := 402) (by decide +kernel), List.mem_of_getElem? (i := 439) (by decide +kernel), List.mem_of_getElem? (i := 440) (by decide +kernel)⟩
theorem lw_p19 : lw_okq (⟨"WishRoutes$FieldTest", "spans", "()I"⟩, 3) := ⟨⟨by decide +kernel, by decide +kernel⟩, List.mem_of_getElem? (i := 71) (by decide +kernel), List.mem_of_getElem? (i := 453) (by decide +kernel), List.mem_of_getElem? (i := 454) (by decide +kernel)⟩
theorem lw_p20 : lw_okq (⟨"WishRoutes$FieldTest", "spanStart", "(I)J"⟩, 3) := ⟨⟨by decide +kernel, by decide +kernel⟩, List.mem_of_getElem? (i := 71) (by decide +kernel), List.mem_of_getElem? (i := 457) (by decide +kernel), List.mem_of_getElem? (i := 458) (by decide +kernel)⟩
theorem lw_p21 : lw_okq (⟨"WishRoutes$FieldTest", "spanEnd", "(I)J"⟩, 3) := ⟨⟨by decide +kernel, by decide +kernel⟩, List.mem_of_getElem? (i := 71) (by decide +kernel), List.mem_of_getElem? (i := 466) (by decide +kernel), List.mem_of_getElem? (i := 467) (by decide +kernel)⟩
theorem lw_p22 : lw_okq (⟨"WishRoutes$FieldTest", "passesAll", "(JJ)Z"⟩, 3) := ⟨⟨by decide +kernel, by decide +kernel⟩, List.mem_of_getElem? (i := 71) (by decide +kernel), List.mem_of_getElem? (i := 471) (by decide +kernel), List.mem_of_getElem? (i := 472) (by decide +kernel)⟩
theorem lw_p23 : lw_okq (⟨"WishRoutes", "findWish", "(I)LWishRoutes$Wish;"⟩, 14) := ⟨⟨by decide +kernel, by decide +kernel⟩, List.mem_of_getElem? (i := 19) (by decide +kernel), List.mem_of_getElem? (i := 479) (by decide +kernel), List.mem_of_getElem? (i := 480) (by decide +kernel)⟩
theorem lw_p24 : lw_okq (⟨"WishRoutes", "underWay", "()I"⟩, 14) := ⟨⟨by decide +kernel, by decide +kernel⟩, List.mem_of_getElem? (i := 19) (by decide +kernel), List.mem_of_getElem? (i := 487) (by decide +kernel), List.mem_of_getElem? (i := 488) (by decide +kernel)⟩
theorem lw_p25 : lw_okq (⟨"WishRoutes", "letHear", "(LWishRoutes$Notice;I)V"⟩, 14) := ⟨⟨by decide +kernel, by decide +kernel⟩, List.mem_of_getElem? (i := 19) (by decide +kernel), List.mem_of_getElem? (i := 521) (by decide +kernel), List.mem_of_getElem? (i := 522) (by decide +kernel)⟩
theorem lw_p26 : lw_okq (⟨"WishRoutes", "passOn", "(LWishRoutes$Notice;II)V"⟩, 14) := ⟨⟨by decide +kernel, by decide +kernel⟩, List.mem_of_getElem? (i := 19) (by decide +kernel), List.mem_of_getElem? (i := 537) (by decide +kernel), List.mem_of_getElem? (i := 538) (by decide +kernel)⟩
theorem lw_p27 : lw_okq (⟨"WishRoutes", "isInTable", "(LWishRoutes$Notice;LWishRoutes$Row;)Z"⟩, 14) := ⟨⟨by decide +kernel, by decide +kernel⟩, List.mem_of_getElem? (i := 19) (by decide +kernel), List.mem_of_getElem? (i := 541) (by decide +kernel), List.mem_of_getElem? (i := 542) (by decide +kernel)⟩
theorem lw_p28 : lw_okq (⟨"WishRoutes", "isWantedAt", "(LWishRoutes$Notice;I)Z"⟩, 14) := ⟨⟨by decide +kernel, by decide +kernel⟩, List.mem_of_getElem? (i := 19) (by decide +kernel), List.mem_of_getElem? (i := 549) (by decide +kernel), List.mem_of_getElem? (i := 550) (by decide +kernel)⟩
theorem lw_p29 : lw_okq (⟨"WishRoutes", "deliverFirst", "(II)V"⟩, 14) := ⟨⟨by decide +kernel, by decide +kernel⟩, List.mem_of_getElem? (i := 19) (by decide +kernel), List.mem_of_getElem? (i := 558) (by decide +kernel), List.mem_of_getElem? (i := 559) (by decide +kernel)⟩
theorem lw_p30 : lw_okq (⟨"WishRoutes", "firstBusyPlace", "()I"⟩, 14) := ⟨⟨by decide +kernel, by decide +kernel⟩, List.mem_of_getElem? (i := 19) (by decide +kernel), List.mem_of_getElem? (i := 570) (by decide +kernel), List.mem_of_getElem? (i := 571) (by decide +kernel)⟩
theorem lw_p31 : lw_okq (⟨"WishRoutes", "messagesInLanes", "()I"⟩, 14) := ⟨⟨by decide +kernel, by decide +kernel⟩, List.mem_of_getElem? (i := 19) (by decide +kernel), List.mem_of_getElem? (i := 620) (by decide +kernel), List.mem_of_getElem? (i := 621) (by decide +kernel)⟩
def lw_privs_2 : List (MethodName × Nat) := [(⟨"WishRoutes$FieldTest", "hasNumber", "(I)Z"⟩, 3), (⟨"WishRoutes", "weigh", "(LWishRoutes$Wish;I)V"⟩, 14), (⟨"WishRoutes$Wish", "isNeverMet", "()Z"⟩, 5), (⟨"WishRoutes$FieldTest", "spans", "()I"⟩, 3), (⟨"WishRoutes$FieldTest", "spanStart", "(I)J"⟩, 3), (⟨"WishRoutes$FieldTest", "spanEnd", "(I)J"⟩, 3), (⟨"WishRoutes$FieldTest", "passesAll", "(JJ)Z"⟩, 3), (⟨"WishRoutes", "findWish", "(I)LWishRoutes$Wish;"⟩, 14), (⟨"WishRoutes", "underWay", "()I"⟩, 14), (⟨"WishRoutes", "letHear", "(LWishRoutes$Notice;I)V"⟩, 14), (⟨"WishRoutes", "passOn", "(LWishRoutes$Notice;II)V"⟩, 14), (⟨"WishRoutes", "isInTable", "(LWishRoutes$Notice;LWishRoutes$Row;)Z"⟩, 14), (⟨"WishRoutes", "isWantedAt", "(LWishRoutes$Notice;I)Z"⟩, 14), (⟨"WishRoutes", "deliverFirst", "(II)V"⟩, 14), (⟨"WishRoutes", "firstBusyPlace", "()I"⟩, 14), (⟨"WishRoutes", "messagesInLanes", "()I"⟩, 14)]
theorem lw_r2 : ∀ q ∈ lw_privs_2, lw_okq q := List.forall_mem_cons.mpr ⟨lw_p16, List.forall_mem_cons.mpr ⟨lw_p17, List.forall_mem_cons.mpr ⟨lw_p18, List.forall_mem_cons.mpr ⟨lw_p19, List.forall_mem_cons.mpr ⟨lw_p20, List.forall_mem_cons.mpr ⟨lw_p21, List.forall_mem_cons.mpr ⟨lw_p22, List.forall_mem_cons.mpr ⟨lw_p23, List.forall_mem_cons.mpr ⟨lw_p24, List.forall_mem_cons.mpr ⟨lw_p25, List.forall_mem_cons.mpr ⟨lw_p26, List.forall_mem_cons.mpr ⟨lw_p27, List.forall_mem_cons.mpr ⟨lw_p28, List.forall_mem_cons.mpr ⟨lw_p29, List.forall_mem_cons.mpr ⟨lw_p30, List.forall_mem_cons.mpr ⟨lw_p31, fun _ h => absurd h List.not_mem_nil⟩⟩⟩⟩⟩⟩⟩⟩⟩⟩⟩⟩⟩⟩⟩⟩
theorem lw_p32 : lw_okq (⟨"WishRoutes", "tellsInLanes", "()I"⟩, 14) := ⟨⟨by decide +kernel, by decide +kernel⟩, List.mem_of_getElem? (i := 19) (by decide +kernel), List.mem_of_getElem? (i := 624) (by decide +kernel), List.mem_of_getElem? (i := 625) (by decide +kernel)⟩
theorem lw_p33 : lw_okq (⟨"WishRoutesModel", "unread", "()V"⟩, 33) := ⟨⟨by decide +kernel, by decide +kernel⟩, List.mem_of_getElem? (i := 632) (by decide +kernel), List.mem_of_getElem? (i := 639) (by decide +kernel), List.mem_of_getElem? (i := 640) (by decide +kernel)⟩
theorem lw_p34 : lw_okq (⟨"WishRoutesModel", "isDesk", "(I)Z"⟩, 33) := ⟨⟨by decide +kernel, by decide +kernel⟩, List.mem_of_getElem? (i := 632) (by decide +kernel), List.mem_of_getElem? (i := 752) (by decide +kernel), List.mem_of_getElem? (i := 753) (by decide +kernel)⟩
theorem lw_p35 : lw_okq (⟨"WishRoutesModel", "reach", "(II)V"⟩, 33) := ⟨⟨by decide +kernel, by decide +kernel⟩, List.mem_of_getElem? (i := 632) (by decide +kernel), List.mem_of_getElem? (i := 756) (by decide +kernel), List.mem_of_getElem? (i := 757) (by decide +kernel)⟩
theorem lw_p36 : lw_okq (⟨"WishRoutesModel", "isLinked", "(II)Z"⟩, 33) := ⟨⟨by decide +kernel, by decide +kernel⟩, List.mem_of_getElem? (i := 632) (by decide +kernel), List.mem_of_getElem? (i := 760) (by decide +kernel), List.mem_of_getElem? (i := 761) (by decide +kernel)⟩
theorem lw_p37 : lw_okq (⟨"WishRoutesModel", "links", "(IIZ)V"⟩, 33) := ⟨⟨by decide +kernel, by decide +kernel⟩, List.mem_of_getElem? (i := 632) (by decide +kernel), List.mem_of_getElem? (i := 764) (by decide +kernel), List.mem_of_getElem? (i := 765) (by decide +kernel)⟩
theorem lw_p38 : lw_okq (⟨"WishRoutesModel", "tells", "()V"⟩, 33) := ⟨⟨by decide +kernel, by decide +kernel⟩, List.mem_of_getElem? (i := 632) (by decide +kernel), List.mem_of_getElem? (i := 771) (by decide +kernel), List.mem_of_getElem? (i := 772) (by decide +kernel)⟩
theorem lw_p39 : lw_okq (⟨"WishRoutesModel", "means", "(II)V"⟩, 33) := ⟨⟨by decide +kernel, by decide +kernel⟩, List.mem_of_getElem? (i := 632) (by decide +kernel), List.mem_of_getElem? (i := 775) (by decide +kernel), List.mem_of_getElem? (i := 776) (by decide +kernel)⟩
theorem lw_p40 : lw_okq (⟨"WishRoutesModel", "lastOf", "(II)I"⟩, 33) := ⟨⟨by decide +kernel, by decide +kernel⟩, List.mem_of_getElem? (i := 632) (by decide +kernel), List.mem_of_getElem? (i := 782) (by decide +kernel), List.mem_of_getElem? (i := 783) (by decide +kernel)⟩
theorem lw_p41 : lw_okq (⟨"WishRoutesModel", "put", "(III)I"⟩, 33) := ⟨⟨by decide +kernel, by decide +kernel⟩, List.mem_of_getElem? (i := 632) (by decide +kernel), List.mem_of_getElem? (i := 786) (by decide +kernel), List.mem_of_getElem? (i := 787) (by decide +kernel)⟩
theorem lw_p42 : lw_okq (⟨"WishRoutesModel", "drop", "(I)V"⟩, 33) := ⟨⟨by decide +kernel, by decide +kernel⟩, List.mem_of_getElem? (i := 632) (by decide +kernel), List.mem_of_getElem? (i := 794) (by decide +kernel), List.mem_of_getElem? (i := 795) (by decide +kernel)⟩
theorem lw_p43 : lw_okq (⟨"WishRoutesModel", "isReader", "(I)Z"⟩, 33) := ⟨⟨by decide +kernel, by decide +kernel⟩, List.mem_of_getElem? (i := 632) (by decide +kernel), List.mem_of_getElem? (i := 806) (by decide +kernel), List.mem_of_getElem? (i := 807) (by decide +kernel)⟩
theorem lw_p44 : lw_okq (⟨"WishRoutesModel", "passes", "(II)Z"⟩, 33) := ⟨⟨by decide +kernel, by decide +kernel⟩, List.mem_of_getElem? (i := 632) (by decide +kernel), List.mem_of_getElem? (i := 821) (by decide +kernel), List.mem_of_getElem? (i := 822) (by decide +kernel)⟩
theorem lw_p45 : lw_okq (⟨"WishRoutesModel", "isCovered", "(II)Z"⟩, 33) := ⟨⟨by decide +kernel, by decide +kernel⟩, List.mem_of_getElem? (i := 632) (by decide +kernel), List.mem_of_getElem? (i := 829) (by decide +kernel), List.mem_of_getElem? (i := 830) (by decide +kernel)⟩
theorem lw_p46 : lw_okq (⟨"WishRoutesModel", "spans", "(II)I"⟩, 33) := ⟨⟨by decide +kernel, by decide +kernel⟩, List.mem_of_getElem? (i := 632) (by decide +kernel), List.mem_of_getElem? (i := 833) (by decide +kernel), List.mem_of_getElem? (i := 834) (by decide +kernel)⟩
theorem lw_p47 : lw_okq (⟨"WishRoutesModel", "holds", "(II)Z"⟩, 33) := ⟨⟨by decide +kernel, by decide +kernel⟩, List.mem_of_getElem? (i := 632) (by decide +kernel), List.mem_of_getElem? (i := 839) (by decide +kernel), List.mem_of_getElem? (i := 840) (by decide +kernel)⟩
def lw_privs_3 : List (MethodName × Nat) := [(⟨"WishRoutes", "tellsInLanes", "()I"⟩, 14), (⟨"WishRoutesModel", "unread", "()V"⟩, 33), (⟨"WishRoutesModel", "isDesk", "(I)Z"⟩, 33), (⟨"WishRoutesModel", "reach", "(II)V"⟩, 33), (⟨"WishRoutesModel", "isLinked", "(II)Z"⟩, 33), (⟨"WishRoutesModel", "links", "(IIZ)V"⟩, 33), (⟨"WishRoutesModel", "tells", "()V"⟩, 33), (⟨"WishRoutesModel", "means", "(II)V"⟩, 33), (⟨"WishRoutesModel", "lastOf", "(II)I"⟩, 33), (⟨"WishRoutesModel", "put", "(III)I"⟩, 33), (⟨"WishRoutesModel", "drop", "(I)V"⟩, 33), (⟨"WishRoutesModel", "isReader", "(I)Z"⟩, 33), (⟨"WishRoutesModel", "passes", "(II)Z"⟩, 33), (⟨"WishRoutesModel", "isCovered", "(II)Z"⟩, 33), (⟨"WishRoutesModel", "spans", "(II)I"⟩, 33), (⟨"WishRoutesModel", "holds", "(II)Z"⟩, 33)]
theorem lw_r3 : ∀ q ∈ lw_privs_3, lw_okq q := List.forall_mem_cons.mpr ⟨lw_p32, List.forall_mem_cons.mpr ⟨lw_p33, List.forall_mem_cons.mpr ⟨lw_p34, List.forall_mem_cons.mpr ⟨lw_p35, List.forall_mem_cons.mpr ⟨lw_p36, List.forall_mem_cons.mpr ⟨lw_p37, List.forall_mem_cons.mpr ⟨lw_p38, List.forall_mem_cons.mpr ⟨lw_p39, List.forall_mem_cons.mpr ⟨lw_p40, List.forall_mem_cons.mpr ⟨lw_p41, List.forall_mem_cons.mpr ⟨lw_p42, List.forall_mem_cons.mpr ⟨lw_p43, List.forall_mem_cons.mpr ⟨lw_p44, List.forall_mem_cons.mpr ⟨lw_p45, List.forall_mem_cons.mpr ⟨lw_p46, List.forall_mem_cons.mpr ⟨lw_p47, fun _ h => absurd h List.not_mem_nil⟩⟩⟩⟩⟩⟩⟩⟩⟩⟩⟩⟩⟩⟩⟩⟩
theorem lw_p48 : lw_okq (⟨"WishRoutesModel", "isWish", "(I)Z"⟩, 33) := ⟨⟨by decide +kernel, by decide +kernel⟩, List.mem_of_getElem? (i := 632) (by decide +kernel), List.mem_of_getElem? (i := 847) (by decide +kernel), List.mem_of_getElem? (i := 848) (by decide +kernel)⟩
theorem lw_p49 : lw_okq (⟨"WishRoutesModel", "underWay", "()I"⟩, 33) := ⟨⟨by decide +kernel, by decide +kernel⟩, List.mem_of_getElem? (i := 632) (by decide +kernel), List.mem_of_getElem? (i := 855) (by decide +kernel), List.mem_of_getElem? (i := 856) (by decide +kernel)⟩
theorem lw_p50 : lw_okq (⟨"WishRoutesModel", "messagesOf", "(I)I"⟩, 33) := ⟨⟨by decide +kernel, by decide +kernel⟩, List.mem_of_getElem? (i := 632) (by decide +kernel), List.mem_of_getElem? (i := 859) (by decide +kernel), List.mem_of_getElem? (i := 860) (by decide +kernel)⟩
theorem lw_p51 : lw_okq (⟨"WishRoutesModel", "comes", "(III)V"⟩, 33) := ⟨⟨by decide +kernel, by decide +kernel⟩, List.mem_of_getElem? (i := 632) (by decide +kernel), List.mem_of_getElem? (i := 863) (by decide +kernel), List.mem_of_getElem? (i := 864) (by decide +kernel)⟩
theorem lw_p52 : lw_okq (⟨"WishRoutesModel", "wants", "(II)Z"⟩, 33) := ⟨⟨by decide +kernel, by decide +kernel⟩, List.mem_of_getElem? (i := 632) (by decide +kernel), List.mem_of_getElem? (i := 867) (by decide +kernel), List.mem_of_getElem? (i := 868) (by decide +kernel)⟩
theorem lw_p53 : lw_okq (⟨"WishRoutesModel", "isFit", "(II)Z"⟩, 33) := ⟨⟨by decide +kernel, by decide +kernel⟩, List.mem_of_getElem? (i := 632) (by decide +kernel), List.mem_of_getElem? (i := 871) (by decide +kernel), List.mem_of_getElem? (i := 872) (by decide +kernel)⟩
theorem lw_p54 : lw_okq (⟨"WishRoutesModel", "isFit", "(IIIII)Z"⟩, 33) := ⟨⟨by decide +kernel, by decide +kernel⟩, List.mem_of_getElem? (i := 632) (by decide +kernel), List.mem_of_getElem? (i := 875) (by decide +kernel), List.mem_of_getElem? (i := 876) (by decide +kernel)⟩
theorem lw_p55 : lw_okq (⟨"WishRoutesModel", "isNeeded", "(III)Z"⟩, 33) := ⟨⟨by decide +kernel, by decide +kernel⟩, List.mem_of_getElem? (i := 632) (by decide +kernel), List.mem_of_getElem? (i := 879) (by decide +kernel), List.mem_of_getElem? (i := 880) (by decide +kernel)⟩
theorem lw_p56 : lw_okq (⟨"WishRoutesModel", "firstOf", "(II)I"⟩, 33) := ⟨⟨by decide +kernel, by decide +kernel⟩, List.mem_of_getElem? (i := 632) (by decide +kernel), List.mem_of_getElem? (i := 887) (by decide +kernel), List.mem_of_getElem? (i := 888) (by decide +kernel)⟩
theorem lw_p57 : lw_okq (⟨"WishRoutesModel", "delivers", "(I)V"⟩, 33) := ⟨⟨by decide +kernel, by decide +kernel⟩, List.mem_of_getElem? (i := 632) (by decide +kernel), List.mem_of_getElem? (i := 891) (by decide +kernel), List.mem_of_getElem? (i := 892) (by decide +kernel)⟩
theorem lw_p58 : lw_okq (⟨"WishRoutesModel", "inRow", "([JIII)I"⟩, 33) := ⟨⟨by decide +kernel, by decide +kernel⟩, List.mem_of_getElem? (i := 632) (by decide +kernel), List.mem_of_getElem? (i := 911) (by decide +kernel), List.mem_of_getElem? (i := 912) (by decide +kernel)⟩
def lw_privs_4 : List (MethodName × Nat) := [(⟨"WishRoutesModel", "isWish", "(I)Z"⟩, 33), (⟨"WishRoutesModel", "underWay", "()I"⟩, 33), (⟨"WishRoutesModel", "messagesOf", "(I)I"⟩, 33), (⟨"WishRoutesModel", "comes", "(III)V"⟩, 33), (⟨"WishRoutesModel", "wants", "(II)Z"⟩, 33), (⟨"WishRoutesModel", "isFit", "(II)Z"⟩, 33), (⟨"WishRoutesModel", "isFit", "(IIIII)Z"⟩, 33), (⟨"WishRoutesModel", "isNeeded", "(III)Z"⟩, 33), (⟨"WishRoutesModel", "firstOf", "(II)I"⟩, 33), (⟨"WishRoutesModel", "delivers", "(I)V"⟩, 33), (⟨"WishRoutesModel", "inRow", "([JIII)I"⟩, 33)]
theorem lw_r4 : ∀ q ∈ lw_privs_4, lw_okq q := List.forall_mem_cons.mpr ⟨lw_p48, List.forall_mem_cons.mpr ⟨lw_p49, List.forall_mem_cons.mpr ⟨lw_p50, List.forall_mem_cons.mpr ⟨lw_p51, List.forall_mem_cons.mpr ⟨lw_p52, List.forall_mem_cons.mpr ⟨lw_p53, List.forall_mem_cons.mpr ⟨lw_p54, List.forall_mem_cons.mpr ⟨lw_p55, List.forall_mem_cons.mpr ⟨lw_p56, List.forall_mem_cons.mpr ⟨lw_p57, List.forall_mem_cons.mpr ⟨lw_p58, fun _ h => absurd h List.not_mem_nil⟩⟩⟩⟩⟩⟩⟩⟩⟩⟩⟩
def lw_privs : List (MethodName × Nat) := lw_privs_1 ++ (lw_privs_2 ++ (lw_privs_3 ++ (lw_privs_4)))
def lw_tbl : List Cond := k2_sels lw_privs ++ tables_1
theorem lw_privs_ok : ∀ q ∈ lw_privs, lw_okq q := by
  show ∀ q ∈ lw_privs_1 ++ (lw_privs_2 ++ (lw_privs_3 ++ (lw_privs_4))), lw_okq q
  exact List.forall_mem_append.mpr ⟨lw_r1, List.forall_mem_append.mpr ⟨lw_r2, List.forall_mem_append.mpr ⟨lw_r3, lw_r4⟩⟩⟩
end
section
def RX0 : String := "WishRoutes$FieldTest"
def TX0 : u_T := fun k => match k with
  | 0 => ("WishRoutes$FieldTest", "kind", "I", false)
  | 1 => ("WishRoutes$FieldTest", "numbers", "[I", true)
  | _ => ("WishRoutes$FieldTest", "size", "I", false)
def tyX0 : Nat → FieldType := fun k => match k with
  | 0 => .int
  | 1 => .array .int
  | _ => .int
theorem nmX0 : ∀ a, a < 3 → ∀ b, b < 3 → a ≠ b → (TX0 a).2.1 ≠ (TX0 b).2.1 := by decide +kernel
theorem tyX0_ok : ∀ k, k < 3 → parseFieldDescriptor (TX0 k).2.2.1 = some (tyX0 k) := by decide +kernel
abbrev cX0_init : ByteArray := prog_2_method_1_code
def yX0_init : MethodName := ⟨RX0, "<init>", "()V"⟩
abbrev cX0_setKind : ByteArray := prog_2_method_2_code
def yX0_setKind : MethodName := ⟨RX0, "setKind", "(III)V"⟩
abbrev cX0_addNumber : ByteArray := prog_2_method_3_code
def yX0_addNumber : MethodName := ⟨RX0, "addNumber", "(I)Z"⟩
abbrev cX0_numberAt : ByteArray := prog_2_method_4_code
def yX0_numberAt : MethodName := ⟨RX0, "numberAt", "(I)I"⟩
abbrev cX0_passes : ByteArray := prog_2_method_5_code
def yX0_passes : MethodName := ⟨RX0, "passes", "(I)Z"⟩
abbrev cX0_passesNone : ByteArray := prog_2_method_6_code
def yX0_passesNone : MethodName := ⟨RX0, "passesNone", "()Z"⟩
abbrev cX0_isAsWideAs : ByteArray := prog_2_method_7_code
def yX0_isAsWideAs : MethodName := ⟨RX0, "isAsWideAs", "(LWishRoutes$FieldTest;)Z"⟩
abbrev cX0_hasNumber : ByteArray := prog_2_method_8_code
def yX0_hasNumber : MethodName := ⟨RX0, "hasNumber", "(I)Z"⟩
abbrev cX0_passesAll : ByteArray := prog_2_method_9_code
def yX0_passesAll : MethodName := ⟨RX0, "passesAll", "(JJ)Z"⟩
abbrev cX0_spans : ByteArray := prog_2_method_10_code
def yX0_spans : MethodName := ⟨RX0, "spans", "()I"⟩
abbrev cX0_spanStart : ByteArray := prog_2_method_11_code
def yX0_spanStart : MethodName := ⟨RX0, "spanStart", "(I)J"⟩
abbrev cX0_spanEnd : ByteArray := prog_2_method_12_code
def yX0_spanEnd : MethodName := ⟨RX0, "spanEnd", "(I)J"⟩
def RX1 : String := "WishRoutes$Lane"
def TX1 : u_T := fun k => match k with
  | 0 => ("WishRoutes$Lane", "told", "LWishRoutes$Row;", true)
  | 1 => ("WishRoutes$Lane", "table", "LWishRoutes$Row;", true)
  | 2 => ("WishRoutes$Lane", "size", "I", false)
  | 3 => ("WishRoutes$Lane", "items", "[I", true)
  | 4 => ("WishRoutes$Lane", "rows", "[LWishRoutes$Row;", true)
  | _ => ("WishRoutes$Lane", "first", "I", false)
def tyX1 : Nat → FieldType := fun k => match k with
  | 0 => .object "WishRoutes$Row"
  | 1 => .object "WishRoutes$Row"
  | 2 => .int
  | 3 => .array .int
  | 4 => .array (.object "WishRoutes$Row")
  | _ => .int
theorem nmX1 : ∀ a, a < 6 → ∀ b, b < 6 → a ≠ b → (TX1 a).2.1 ≠ (TX1 b).2.1 := by decide +kernel
theorem tyX1_ok : ∀ k, k < 6 → parseFieldDescriptor (TX1 k).2.2.1 = some (tyX1 k) := by decide +kernel
abbrev cX1_init : ByteArray := prog_3_method_1_code
def yX1_init : MethodName := ⟨RX1, "<init>", "()V"⟩
abbrev cX1_itemAt : ByteArray := prog_3_method_2_code
def yX1_itemAt : MethodName := ⟨RX1, "itemAt", "(I)I"⟩
abbrev cX1_putNotice : ByteArray := prog_3_method_3_code
def yX1_putNotice : MethodName := ⟨RX1, "putNotice", "(I)V"⟩
abbrev cX1_putTell : ByteArray := prog_3_method_4_code
def yX1_putTell : MethodName := ⟨RX1, "putTell", "(LWishRoutes$Row;)V"⟩
abbrev cX1_takeFirst : ByteArray := prog_3_method_5_code
def yX1_takeFirst : MethodName := ⟨RX1, "takeFirst", "()I"⟩
abbrev cX1_tells : ByteArray := prog_3_method_6_code
def yX1_tells : MethodName := ⟨RX1, "tells", "()I"⟩
abbrev cX1_clear : ByteArray := prog_3_method_7_code
def yX1_clear : MethodName := ⟨RX1, "clear", "()V"⟩
abbrev cX1_slot : ByteArray := prog_3_method_8_code
def yX1_slot : MethodName := ⟨RX1, "slot", "(I)I"⟩
abbrev cX1_rowAt : ByteArray := prog_3_method_9_code
def yX1_rowAt : MethodName := ⟨RX1, "rowAt", "(I)LWishRoutes$Row;"⟩
def RX2 : String := "WishRoutes$Notice"
def TX2 : u_T := fun k => match k with
  | 0 => ("WishRoutes$Notice", "number", "I", true)
  | 1 => ("WishRoutes$Notice", "desk", "I", true)
  | 2 => ("WishRoutes$Notice", "fields", "[I", true)
  | 3 => ("WishRoutes$Notice", "messages", "I", false)
  | 4 => ("WishRoutes$Notice", "seenAt", "I", false)
  | _ => ("WishRoutes$Notice", "heardBy", "I", false)
def tyX2 : Nat → FieldType := fun k => match k with
  | 0 => .int
  | 1 => .int
  | 2 => .array .int
  | 3 => .int
  | 4 => .int
  | _ => .int
theorem nmX2 : ∀ a, a < 6 → ∀ b, b < 6 → a ≠ b → (TX2 a).2.1 ≠ (TX2 b).2.1 := by decide +kernel
theorem tyX2_ok : ∀ k, k < 6 → parseFieldDescriptor (TX2 k).2.2.1 = some (tyX2 k) := by decide +kernel
abbrev cX2_init : ByteArray := prog_4_method_1_code
def yX2_init : MethodName := ⟨RX2, "<init>", "(II[I)V"⟩
def RX3 : String := "WishRoutes$Reader"
def TX3 : u_T := fun k => match k with
  | 0 => ("WishRoutes$Reader", "desk", "I", false)
  | 1 => ("WishRoutes$Reader", "hearings", "[I", true)
  | _ => ("WishRoutes$Reader", "size", "I", false)
def tyX3 : Nat → FieldType := fun k => match k with
  | 0 => .int
  | 1 => .array .int
  | _ => .int
theorem nmX3 : ∀ a, a < 3 → ∀ b, b < 3 → a ≠ b → (TX3 a).2.1 ≠ (TX3 b).2.1 := by decide +kernel
theorem tyX3_ok : ∀ k, k < 3 → parseFieldDescriptor (TX3 k).2.2.1 = some (tyX3 k) := by decide +kernel
abbrev cX3_init : ByteArray := prog_5_method_1_code
def yX3_init : MethodName := ⟨RX3, "<init>", "(I)V"⟩
abbrev cX3_addHeard : ByteArray := prog_5_method_2_code
def yX3_addHeard : MethodName := ⟨RX3, "addHeard", "(I)V"⟩
abbrev cX3_nthHeard : ByteArray := prog_5_method_3_code
def yX3_nthHeard : MethodName := ⟨RX3, "nthHeard", "(I)I"⟩
def RX4 : String := "WishRoutes$Row"
def TX4 : u_T := fun k => match k with
  | _ => ("WishRoutes$Row", "words", "[J", true)
def tyX4 : Nat → FieldType := fun k => match k with
  | _ => .array .long
theorem nmX4 : ∀ a, a < 1 → ∀ b, b < 1 → a ≠ b → (TX4 a).2.1 ≠ (TX4 b).2.1 := by decide +kernel
theorem tyX4_ok : ∀ k, k < 1 → parseFieldDescriptor (TX4 k).2.2.1 = some (tyX4 k) := by decide +kernel
abbrev cX4_init : ByteArray := prog_6_method_1_code
def yX4_init : MethodName := ⟨RX4, "<init>", "()V"⟩
abbrev cX4_has : ByteArray := prog_6_method_2_code
def yX4_has : MethodName := ⟨RX4, "has", "(I)Z"⟩
abbrev cX4_add : ByteArray := prog_6_method_3_code
def yX4_add : MethodName := ⟨RX4, "add", "(I)V"⟩
abbrev cX4_addAll : ByteArray := prog_6_method_4_code
def yX4_addAll : MethodName := ⟨RX4, "addAll", "(LWishRoutes$Row;)V"⟩
abbrev cX4_clear : ByteArray := prog_6_method_5_code
def yX4_clear : MethodName := ⟨RX4, "clear", "()V"⟩
abbrev cX4_set : ByteArray := prog_6_method_6_code
def yX4_set : MethodName := ⟨RX4, "set", "(LWishRoutes$Row;)V"⟩
abbrev cX4_meets : ByteArray := prog_6_method_7_code
def yX4_meets : MethodName := ⟨RX4, "meets", "(LWishRoutes$Row;)Z"⟩
abbrev cX4_sameAs : ByteArray := prog_6_method_8_code
def yX4_sameAs : MethodName := ⟨RX4, "sameAs", "(LWishRoutes$Row;)Z"⟩
abbrev cX4_nth : ByteArray := prog_6_method_9_code
def yX4_nth : MethodName := ⟨RX4, "nth", "(I)I"⟩
def RX5 : String := "WishRoutes$Wish"
def TX5 : u_T := fun k => match k with
  | 0 => ("WishRoutes$Wish", "reader", "I", true)
  | 1 => ("WishRoutes$Wish", "owner", "LWishRoutes$Reader;", true)
  | 2 => ("WishRoutes$Wish", "tests", "[LWishRoutes$FieldTest;", true)
  | 3 => ("WishRoutes$Wish", "outdoneBy", "LWishRoutes$Row;", true)
  | _ => ("WishRoutes$Wish", "alive", "Z", false)
def tyX5 : Nat → FieldType := fun k => match k with
  | 0 => .int
  | 1 => .object "WishRoutes$Reader"
  | 2 => .array (.object "WishRoutes$FieldTest")
  | 3 => .object "WishRoutes$Row"
  | _ => .boolean
theorem nmX5 : ∀ a, a < 5 → ∀ b, b < 5 → a ≠ b → (TX5 a).2.1 ≠ (TX5 b).2.1 := by decide +kernel
theorem tyX5_ok : ∀ k, k < 5 → parseFieldDescriptor (TX5 k).2.2.1 = some (tyX5 k) := by decide +kernel
abbrev cX5_init : ByteArray := prog_7_method_1_code
def yX5_init : MethodName := ⟨RX5, "<init>", "(ILWishRoutes$Reader;[LWishRoutes$FieldTest;)V"⟩
abbrev cX5_isMetBy : ByteArray := prog_7_method_2_code
def yX5_isMetBy : MethodName := ⟨RX5, "isMetBy", "([I)Z"⟩
abbrev cX5_takesIn : ByteArray := prog_7_method_3_code
def yX5_takesIn : MethodName := ⟨RX5, "takesIn", "(LWishRoutes$Wish;)Z"⟩
abbrev cX5_isNeverMet : ByteArray := prog_7_method_4_code
def yX5_isNeverMet : MethodName := ⟨RX5, "isNeverMet", "()Z"⟩
def RX6 : String := "WishRoutes"
def TX6 : u_T := fun k => match k with
  | 0 => ("WishRoutes", "readers", "Ljava/util/ArrayList;", true)
  | 1 => ("WishRoutes", "wishes", "Ljava/util/ArrayList;", true)
  | 2 => ("WishRoutes", "notices", "Ljava/util/ArrayList;", true)
  | 3 => ("WishRoutes", "neighbours", "[I", true)
  | 4 => ("WishRoutes", "lanes", "[LWishRoutes$Lane;", true)
  | 5 => ("WishRoutes", "spareLanes", "Ljava/util/ArrayList;", true)
  | 6 => ("WishRoutes", "known", "LWishRoutes$Row;", true)
  | 7 => ("WishRoutes", "meant", "LWishRoutes$Row;", true)
  | 8 => ("WishRoutes", "reading", "[LWishRoutes$FieldTest;", false)
  | 9 => ("WishRoutes", "desks", "I", false)
  | 10 => ("WishRoutes", "links", "I", false)
  | 11 => ("WishRoutes", "passedOn", "I", false)
  | 12 => ("WishRoutes", "needless", "I", false)
  | _ => ("WishRoutes", "tellsDelivered", "I", false)
def tyX6 : Nat → FieldType := fun k => match k with
  | 0 => .object "java/util/ArrayList"
  | 1 => .object "java/util/ArrayList"
  | 2 => .object "java/util/ArrayList"
  | 3 => .array .int
  | 4 => .array (.object "WishRoutes$Lane")
  | 5 => .object "java/util/ArrayList"
  | 6 => .object "WishRoutes$Row"
  | 7 => .object "WishRoutes$Row"
  | 8 => .array (.object "WishRoutes$FieldTest")
  | 9 => .int
  | 10 => .int
  | 11 => .int
  | 12 => .int
  | _ => .int
theorem nmX6 : ∀ a, a < 14 → ∀ b, b < 14 → a ≠ b → (TX6 a).2.1 ≠ (TX6 b).2.1 := by decide +kernel
theorem tyX6_ok : ∀ k, k < 14 → parseFieldDescriptor (TX6 k).2.2.1 = some (tyX6 k) := by decide +kernel
abbrev cX6_init : ByteArray := prog_1_method_1_code
def yX6_init : MethodName := ⟨RX6, "<init>", "()V"⟩
abbrev cX6_desk : ByteArray := prog_1_method_2_code
def yX6_desk : MethodName := ⟨RX6, "desk", "()I"⟩
abbrev cX6_link : ByteArray := prog_1_method_3_code
def yX6_link : MethodName := ⟨RX6, "link", "(II)I"⟩
abbrev cX6_cut : ByteArray := prog_1_method_4_code
def yX6_cut : MethodName := ⟨RX6, "cut", "(II)I"⟩
abbrev cX6_reader : ByteArray := prog_1_method_5_code
def yX6_reader : MethodName := ⟨RX6, "reader", "(I)I"⟩
abbrev cX6_move : ByteArray := prog_1_method_6_code
def yX6_move : MethodName := ⟨RX6, "move", "(II)I"⟩
abbrev cX6_test : ByteArray := prog_1_method_7_code
def yX6_test : MethodName := ⟨RX6, "test", "(IIII)Z"⟩
abbrev cX6_among : ByteArray := prog_1_method_8_code
def yX6_among : MethodName := ⟨RX6, "among", "(II)Z"⟩
abbrev cX6_wish : ByteArray := prog_1_method_9_code
def yX6_wish : MethodName := ⟨RX6, "wish", "(I)I"⟩
abbrev cX6_off : ByteArray := prog_1_method_10_code
def yX6_off : MethodName := ⟨RX6, "off", "(I)I"⟩
abbrev cX6_send : ByteArray := prog_1_method_11_code
def yX6_send : MethodName := ⟨RX6, "send", "(IIIII)I"⟩
abbrev cX6_deliver : ByteArray := prog_1_method_12_code
def yX6_deliver : MethodName := ⟨RX6, "deliver", "(III)I"⟩
abbrev cX6_all : ByteArray := prog_1_method_13_code
def yX6_all : MethodName := ⟨RX6, "all", "()I"⟩
abbrev cX6_covers : ByteArray := prog_1_method_14_code
def yX6_covers : MethodName := ⟨RX6, "covers", "(II)I"⟩
abbrev cX6_fits : ByteArray := prog_1_method_15_code
def yX6_fits : MethodName := ⟨RX6, "fits", "(IIIII)I"⟩
abbrev cX6_table : ByteArray := prog_1_method_16_code
def yX6_table : MethodName := ⟨RX6, "table", "(III)I"⟩
abbrev cX6_told : ByteArray := prog_1_method_17_code
def yX6_told : MethodName := ⟨RX6, "told", "(III)I"⟩
abbrev cX6_message : ByteArray := prog_1_method_18_code
def yX6_message : MethodName := ⟨RX6, "message", "(III)I"⟩
abbrev cX6_heard : ByteArray := prog_1_method_19_code
def yX6_heard : MethodName := ⟨RX6, "heard", "(II)I"⟩
abbrev cX6_notice : ByteArray := prog_1_method_20_code
def yX6_notice : MethodName := ⟨RX6, "notice", "(II)I"⟩
abbrev cX6_look : ByteArray := prog_1_method_21_code
def yX6_look : MethodName := ⟨RX6, "look", "(II)I"⟩
abbrev cX6_count : ByteArray := prog_1_method_22_code
def yX6_count : MethodName := ⟨RX6, "count", "(I)I"⟩
abbrev cX6_allAny : ByteArray := prog_1_method_23_code
def yX6_allAny : MethodName := ⟨RX6, "allAny", "()[LWishRoutes$FieldTest;"⟩
abbrev cX6_isField : ByteArray := prog_1_method_24_code
def yX6_isField : MethodName := ⟨RX6, "isField", "(I)Z"⟩
abbrev cX6_inMask : ByteArray := prog_1_method_25_code
def yX6_inMask : MethodName := ⟨RX6, "inMask", "(II)Z"⟩
abbrev cX6_isDesk : ByteArray := prog_1_method_26_code
def yX6_isDesk : MethodName := ⟨RX6, "isDesk", "(I)Z"⟩
abbrev cX6_findReader : ByteArray := prog_1_method_27_code
def yX6_findReader : MethodName := ⟨RX6, "findReader", "(I)LWishRoutes$Reader;"⟩
abbrev cX6_findWish : ByteArray := prog_1_method_28_code
def yX6_findWish : MethodName := ⟨RX6, "findWish", "(I)LWishRoutes$Wish;"⟩
abbrev cX6_findNotice : ByteArray := prog_1_method_29_code
def yX6_findNotice : MethodName := ⟨RX6, "findNotice", "(I)LWishRoutes$Notice;"⟩
abbrev cX6_laneFrom : ByteArray := prog_1_method_30_code
def yX6_laneFrom : MethodName := ⟨RX6, "laneFrom", "(II)LWishRoutes$Lane;"⟩
abbrev cX6_openLane : ByteArray := prog_1_method_31_code
def yX6_openLane : MethodName := ⟨RX6, "openLane", "(II)V"⟩
abbrev cX6_closeLane : ByteArray := prog_1_method_32_code
def yX6_closeLane : MethodName := ⟨RX6, "closeLane", "(II)V"⟩
abbrev cX6_reach : ByteArray := prog_1_method_33_code
def yX6_reach : MethodName := ⟨RX6, "reach", "(II)I"⟩
abbrev cX6_weigh : ByteArray := prog_1_method_34_code
def yX6_weigh : MethodName := ⟨RX6, "weigh", "(LWishRoutes$Wish;I)V"⟩
abbrev cX6_tellNeighbours : ByteArray := prog_1_method_35_code
def yX6_tellNeighbours : MethodName := ⟨RX6, "tellNeighbours", "(I)V"⟩
abbrev cX6_findMeant : ByteArray := prog_1_method_36_code
def yX6_findMeant : MethodName := ⟨RX6, "findMeant", "(II)V"⟩
abbrev cX6_findKnown : ByteArray := prog_1_method_37_code
def yX6_findKnown : MethodName := ⟨RX6, "findKnown", "(II)V"⟩
abbrev cX6_firstBusyPlace : ByteArray := prog_1_method_38_code
def yX6_firstBusyPlace : MethodName := ⟨RX6, "firstBusyPlace", "()I"⟩
abbrev cX6_deliverFirst : ByteArray := prog_1_method_39_code
def yX6_deliverFirst : MethodName := ⟨RX6, "deliverFirst", "(II)V"⟩
abbrev cX6_letHear : ByteArray := prog_1_method_40_code
def yX6_letHear : MethodName := ⟨RX6, "letHear", "(LWishRoutes$Notice;I)V"⟩
abbrev cX6_passOn : ByteArray := prog_1_method_41_code
def yX6_passOn : MethodName := ⟨RX6, "passOn", "(LWishRoutes$Notice;II)V"⟩
abbrev cX6_isInTable : ByteArray := prog_1_method_42_code
def yX6_isInTable : MethodName := ⟨RX6, "isInTable", "(LWishRoutes$Notice;LWishRoutes$Row;)Z"⟩
abbrev cX6_isWantedAt : ByteArray := prog_1_method_43_code
def yX6_isWantedAt : MethodName := ⟨RX6, "isWantedAt", "(LWishRoutes$Notice;I)Z"⟩
abbrev cX6_underWay : ByteArray := prog_1_method_44_code
def yX6_underWay : MethodName := ⟨RX6, "underWay", "()I"⟩
abbrev cX6_messagesInLanes : ByteArray := prog_1_method_45_code
def yX6_messagesInLanes : MethodName := ⟨RX6, "messagesInLanes", "()I"⟩
abbrev cX6_tellsInLanes : ByteArray := prog_1_method_46_code
def yX6_tellsInLanes : MethodName := ⟨RX6, "tellsInLanes", "()I"⟩
def RX7 : String := "WishRoutesModel"
def TX7 : u_T := fun k => match k with
  | 0 => ("WishRoutesModel", "desks", "I", false)
  | 1 => ("WishRoutesModel", "readers", "I", false)
  | 2 => ("WishRoutesModel", "wishes", "I", false)
  | 3 => ("WishRoutesModel", "notices", "I", false)
  | 4 => ("WishRoutesModel", "linked", "[Z", true)
  | 5 => ("WishRoutesModel", "deskOf", "[I", true)
  | 6 => ("WishRoutesModel", "readerOf", "[I", true)
  | 7 => ("WishRoutesModel", "alive", "[Z", true)
  | 8 => ("WishRoutesModel", "kind", "[I", true)
  | 9 => ("WishRoutesModel", "many", "[I", true)
  | 10 => ("WishRoutesModel", "number", "[I", true)
  | 11 => ("WishRoutesModel", "field", "[I", true)
  | 12 => ("WishRoutesModel", "sentAt", "[I", true)
  | 13 => ("WishRoutesModel", "wasAt", "[I", true)
  | 14 => ("WishRoutesModel", "hasHeard", "[Z", true)
  | 15 => ("WishRoutesModel", "heard", "[I", true)
  | 16 => ("WishRoutesModel", "heardMany", "[I", true)
  | 17 => ("WishRoutesModel", "table", "[J", true)
  | 18 => ("WishRoutesModel", "told", "[J", true)
  | 19 => ("WishRoutesModel", "messages", "I", false)
  | 20 => ("WishRoutesModel", "from", "[I", false)
  | 21 => ("WishRoutesModel", "to", "[I", false)
  | 22 => ("WishRoutesModel", "what", "[I", false)
  | 23 => ("WishRoutesModel", "row", "[J", false)
  | 24 => ("WishRoutesModel", "passed", "I", false)
  | 25 => ("WishRoutesModel", "needless", "I", false)
  | 26 => ("WishRoutesModel", "delivered", "I", false)
  | 27 => ("WishRoutesModel", "low", "[J", true)
  | 28 => ("WishRoutesModel", "high", "[J", true)
  | 29 => ("WishRoutesModel", "covering", "[Z", true)
  | 30 => ("WishRoutesModel", "some", "[J", true)
  | 31 => ("WishRoutesModel", "meant", "[J", true)
  | _ => ("WishRoutesModel", "reached", "[Z", true)
def tyX7 : Nat → FieldType := fun k => match k with
  | 0 => .int
  | 1 => .int
  | 2 => .int
  | 3 => .int
  | 4 => .array .boolean
  | 5 => .array .int
  | 6 => .array .int
  | 7 => .array .boolean
  | 8 => .array .int
  | 9 => .array .int
  | 10 => .array .int
  | 11 => .array .int
  | 12 => .array .int
  | 13 => .array .int
  | 14 => .array .boolean
  | 15 => .array .int
  | 16 => .array .int
  | 17 => .array .long
  | 18 => .array .long
  | 19 => .int
  | 20 => .array .int
  | 21 => .array .int
  | 22 => .array .int
  | 23 => .array .long
  | 24 => .int
  | 25 => .int
  | 26 => .int
  | 27 => .array .long
  | 28 => .array .long
  | 29 => .array .boolean
  | 30 => .array .long
  | 31 => .array .long
  | _ => .array .boolean
theorem nmX7 : ∀ a, a < 33 → ∀ b, b < 33 → a ≠ b → (TX7 a).2.1 ≠ (TX7 b).2.1 := by decide +kernel
theorem tyX7_ok : ∀ k, k < 33 → parseFieldDescriptor (TX7 k).2.2.1 = some (tyX7 k) := by decide +kernel
abbrev cX7_init : ByteArray := prog_9_method_1_code
def yX7_init : MethodName := ⟨RX7, "<init>", "()V"⟩
abbrev cX7_unread : ByteArray := prog_9_method_2_code
def yX7_unread : MethodName := ⟨RX7, "unread", "()V"⟩
abbrev cX7_isDesk : ByteArray := prog_9_method_3_code
def yX7_isDesk : MethodName := ⟨RX7, "isDesk", "(I)Z"⟩
abbrev cX7_isLinked : ByteArray := prog_9_method_4_code
def yX7_isLinked : MethodName := ⟨RX7, "isLinked", "(II)Z"⟩
abbrev cX7_isWish : ByteArray := prog_9_method_5_code
def yX7_isWish : MethodName := ⟨RX7, "isWish", "(I)Z"⟩
abbrev cX7_passes : ByteArray := prog_9_method_6_code
def yX7_passes : MethodName := ⟨RX7, "passes", "(II)Z"⟩
abbrev cX7_isFit : ByteArray := prog_9_method_7_code
def yX7_isFit : MethodName := ⟨RX7, "isFit", "(IIIII)Z"⟩
abbrev cX7_isFit_ : ByteArray := prog_9_method_8_code
def yX7_isFit_ : MethodName := ⟨RX7, "isFit", "(II)Z"⟩
abbrev cX7_spans : ByteArray := prog_9_method_9_code
def yX7_spans : MethodName := ⟨RX7, "spans", "(II)I"⟩
abbrev cX7_holds : ByteArray := prog_9_method_10_code
def yX7_holds : MethodName := ⟨RX7, "holds", "(II)Z"⟩
abbrev cX7_isCovered : ByteArray := prog_9_method_11_code
def yX7_isCovered : MethodName := ⟨RX7, "isCovered", "(II)Z"⟩
abbrev cX7_has : ByteArray := prog_9_method_12_code
def yX7_has : MethodName := ⟨RX7, "has", "([JII)Z"⟩
abbrev cX7_rowOf : ByteArray := prog_9_method_13_code
def yX7_rowOf : MethodName := ⟨RX7, "rowOf", "(II)I"⟩
abbrev cX7_means : ByteArray := prog_9_method_14_code
def yX7_means : MethodName := ⟨RX7, "means", "(II)V"⟩
abbrev cX7_lastOf : ByteArray := prog_9_method_15_code
def yX7_lastOf : MethodName := ⟨RX7, "lastOf", "(II)I"⟩
abbrev cX7_firstOf : ByteArray := prog_9_method_16_code
def yX7_firstOf : MethodName := ⟨RX7, "firstOf", "(II)I"⟩
abbrev cX7_put : ByteArray := prog_9_method_17_code
def yX7_put : MethodName := ⟨RX7, "put", "(III)I"⟩
abbrev cX7_drop : ByteArray := prog_9_method_18_code
def yX7_drop : MethodName := ⟨RX7, "drop", "(I)V"⟩
abbrev cX7_tells : ByteArray := prog_9_method_19_code
def yX7_tells : MethodName := ⟨RX7, "tells", "()V"⟩
abbrev cX7_desk : ByteArray := prog_9_method_20_code
def yX7_desk : MethodName := ⟨RX7, "desk", "()I"⟩
abbrev cX7_reach : ByteArray := prog_9_method_21_code
def yX7_reach : MethodName := ⟨RX7, "reach", "(II)V"⟩
abbrev cX7_links : ByteArray := prog_9_method_22_code
def yX7_links : MethodName := ⟨RX7, "links", "(IIZ)V"⟩
abbrev cX7_link : ByteArray := prog_9_method_23_code
def yX7_link : MethodName := ⟨RX7, "link", "(II)I"⟩
abbrev cX7_cut : ByteArray := prog_9_method_24_code
def yX7_cut : MethodName := ⟨RX7, "cut", "(II)I"⟩
abbrev cX7_reader : ByteArray := prog_9_method_25_code
def yX7_reader : MethodName := ⟨RX7, "reader", "(I)I"⟩
abbrev cX7_isReader : ByteArray := prog_9_method_26_code
def yX7_isReader : MethodName := ⟨RX7, "isReader", "(I)Z"⟩
abbrev cX7_move : ByteArray := prog_9_method_27_code
def yX7_move : MethodName := ⟨RX7, "move", "(II)I"⟩
abbrev cX7_isField : ByteArray := prog_9_method_28_code
def yX7_isField : MethodName := ⟨RX7, "isField", "(I)Z"⟩
abbrev cX7_test : ByteArray := prog_9_method_29_code
def yX7_test : MethodName := ⟨RX7, "test", "(IIII)Z"⟩
abbrev cX7_among : ByteArray := prog_9_method_30_code
def yX7_among : MethodName := ⟨RX7, "among", "(II)Z"⟩
abbrev cX7_wish : ByteArray := prog_9_method_31_code
def yX7_wish : MethodName := ⟨RX7, "wish", "(I)I"⟩
abbrev cX7_off : ByteArray := prog_9_method_32_code
def yX7_off : MethodName := ⟨RX7, "off", "(I)I"⟩
abbrev cX7_wants : ByteArray := prog_9_method_33_code
def yX7_wants : MethodName := ⟨RX7, "wants", "(II)Z"⟩
abbrev cX7_comes : ByteArray := prog_9_method_34_code
def yX7_comes : MethodName := ⟨RX7, "comes", "(III)V"⟩
abbrev cX7_isNeeded : ByteArray := prog_9_method_35_code
def yX7_isNeeded : MethodName := ⟨RX7, "isNeeded", "(III)Z"⟩
abbrev cX7_messagesOf : ByteArray := prog_9_method_36_code
def yX7_messagesOf : MethodName := ⟨RX7, "messagesOf", "(I)I"⟩
abbrev cX7_underWay : ByteArray := prog_9_method_37_code
def yX7_underWay : MethodName := ⟨RX7, "underWay", "()I"⟩
abbrev cX7_send : ByteArray := prog_9_method_38_code
def yX7_send : MethodName := ⟨RX7, "send", "(IIIII)I"⟩
abbrev cX7_delivers : ByteArray := prog_9_method_39_code
def yX7_delivers : MethodName := ⟨RX7, "delivers", "(I)V"⟩
abbrev cX7_deliver : ByteArray := prog_9_method_40_code
def yX7_deliver : MethodName := ⟨RX7, "deliver", "(III)I"⟩
abbrev cX7_all : ByteArray := prog_9_method_41_code
def yX7_all : MethodName := ⟨RX7, "all", "()I"⟩
abbrev cX7_covers : ByteArray := prog_9_method_42_code
def yX7_covers : MethodName := ⟨RX7, "covers", "(II)I"⟩
abbrev cX7_fits : ByteArray := prog_9_method_43_code
def yX7_fits : MethodName := ⟨RX7, "fits", "(IIIII)I"⟩
abbrev cX7_inRow : ByteArray := prog_9_method_44_code
def yX7_inRow : MethodName := ⟨RX7, "inRow", "([JIII)I"⟩
abbrev cX7_table : ByteArray := prog_9_method_45_code
def yX7_table : MethodName := ⟨RX7, "table", "(III)I"⟩
abbrev cX7_told : ByteArray := prog_9_method_46_code
def yX7_told : MethodName := ⟨RX7, "told", "(III)I"⟩
abbrev cX7_message : ByteArray := prog_9_method_47_code
def yX7_message : MethodName := ⟨RX7, "message", "(III)I"⟩
abbrev cX7_heard : ByteArray := prog_9_method_48_code
def yX7_heard : MethodName := ⟨RX7, "heard", "(II)I"⟩
abbrev cX7_notice : ByteArray := prog_9_method_49_code
def yX7_notice : MethodName := ⟨RX7, "notice", "(II)I"⟩
abbrev cX7_look : ByteArray := prog_9_method_50_code
def yX7_look : MethodName := ⟨RX7, "look", "(II)I"⟩
abbrev cX7_count : ByteArray := prog_9_method_51_code
def yX7_count : MethodName := ⟨RX7, "count", "(I)I"⟩
def RJx145de : String := "java/io/Serializable"
def TJx145de : u_T := fun k => match k with
  | _ => ("", "", "", false)
def tyJx145de : Nat → FieldType := fun k => match k with
  | _ => .int
theorem nmJx145de : ∀ a, a < 0 → ∀ b, b < 0 → a ≠ b → (TJx145de a).2.1 ≠ (TJx145de b).2.1 := by decide +kernel
theorem tyJx145de_ok : ∀ k, k < 0 → parseFieldDescriptor (TJx145de k).2.2.1 = some (tyJx145de k) := by decide +kernel
def RJx8e188 : String := "java/lang/Cloneable"
def TJx8e188 : u_T := fun k => match k with
  | _ => ("", "", "", false)
def tyJx8e188 : Nat → FieldType := fun k => match k with
  | _ => .int
theorem nmJx8e188 : ∀ a, a < 0 → ∀ b, b < 0 → a ≠ b → (TJx8e188 a).2.1 ≠ (TJx8e188 b).2.1 := by decide +kernel
theorem tyJx8e188_ok : ∀ k, k < 0 → parseFieldDescriptor (TJx8e188 k).2.2.1 = some (tyJx8e188 k) := by decide +kernel
def RJxab1ab : String := "java/lang/Iterable"
def TJxab1ab : u_T := fun k => match k with
  | _ => ("", "", "", false)
def tyJxab1ab : Nat → FieldType := fun k => match k with
  | _ => .int
theorem nmJxab1ab : ∀ a, a < 0 → ∀ b, b < 0 → a ≠ b → (TJxab1ab a).2.1 ≠ (TJxab1ab b).2.1 := by decide +kernel
theorem tyJxab1ab_ok : ∀ k, k < 0 → parseFieldDescriptor (TJxab1ab k).2.2.1 = some (tyJxab1ab k) := by decide +kernel
def RJ9 : String := "java/lang/Math"
def TJ9 : u_T := fun k => match k with
  | _ => ("", "", "", false)
def tyJ9 : Nat → FieldType := fun k => match k with
  | _ => .int
theorem nmJ9 : ∀ a, a < 0 → ∀ b, b < 0 → a ≠ b → (TJ9 a).2.1 ≠ (TJ9 b).2.1 := by decide +kernel
theorem tyJ9_ok : ∀ k, k < 0 → parseFieldDescriptor (TJ9 k).2.2.1 = some (tyJ9 k) := by decide +kernel
abbrev cJ9_max_7cf53 : ByteArray := prog_13_method_65_code
def yJ9_max_7cf53 : MethodName := ⟨RJ9, "max", "(II)I"⟩
abbrev cJ9_min_7cf53 : ByteArray := prog_13_method_69_code
def yJ9_min_7cf53 : MethodName := ⟨RJ9, "min", "(II)I"⟩
def RJ10 : String := "java/lang/System"
def TJ10 : u_T := fun k => match k with
  | _ => ("", "", "", false)
def tyJ10 : Nat → FieldType := fun k => match k with
  | _ => .int
theorem nmJ10 : ∀ a, a < 0 → ∀ b, b < 0 → a ≠ b → (TJ10 a).2.1 ≠ (TJ10 b).2.1 := by decide +kernel
theorem tyJ10_ok : ∀ k, k < 0 → parseFieldDescriptor (TJ10 k).2.2.1 = some (tyJ10 k) := by decide +kernel
def RJxa1e45 : String := "java/util/AbstractCollection"
def TJxa1e45 : u_T := fun k => match k with
  | _ => ("", "", "", false)
def tyJxa1e45 : Nat → FieldType := fun k => match k with
  | _ => .int
theorem nmJxa1e45 : ∀ a, a < 0 → ∀ b, b < 0 → a ≠ b → (TJxa1e45 a).2.1 ≠ (TJxa1e45 b).2.1 := by decide +kernel
theorem tyJxa1e45_ok : ∀ k, k < 0 → parseFieldDescriptor (TJxa1e45 k).2.2.1 = some (tyJxa1e45 k) := by decide +kernel
abbrev cJxa1e45_init_da8c8 : ByteArray := prog_15_method_1_code
def yJxa1e45_init_da8c8 : MethodName := ⟨RJxa1e45, "<init>", "()V"⟩
def RJxc12de : String := "java/util/AbstractList"
def TJxc12de : u_T := fun k => match k with
  | _ => ("", "", "", false)
def tyJxc12de : Nat → FieldType := fun k => match k with
  | _ => .int
theorem nmJxc12de : ∀ a, a < 0 → ∀ b, b < 0 → a ≠ b → (TJxc12de a).2.1 ≠ (TJxc12de b).2.1 := by decide +kernel
theorem tyJxc12de_ok : ∀ k, k < 0 → parseFieldDescriptor (TJxc12de k).2.2.1 = some (tyJxc12de k) := by decide +kernel
abbrev cJxc12de_init_da8c8 : ByteArray := prog_16_method_1_code
def yJxc12de_init_da8c8 : MethodName := ⟨RJxc12de, "<init>", "()V"⟩
def RJx4a65c : String := "java/util/ArrayList"
def TJx4a65c : u_T := fun k => match k with
  | 0 => ("java/util/AbstractList", "modCount", "I", false)
  | 1 => ("java/util/ArrayList", "elementData", "[Ljava/lang/Object;", false)
  | _ => ("java/util/ArrayList", "size", "I", false)
def tyJx4a65c : Nat → FieldType := fun k => match k with
  | 0 => .int
  | 1 => .array (.object "java/lang/Object")
  | _ => .int
theorem nmJx4a65c : ∀ a, a < 3 → ∀ b, b < 3 → a ≠ b → (TJx4a65c a).2.1 ≠ (TJx4a65c b).2.1 := by decide +kernel
theorem tyJx4a65c_ok : ∀ k, k < 3 → parseFieldDescriptor (TJx4a65c k).2.2.1 = some (tyJx4a65c k) := by decide +kernel
abbrev cJx4a65c_init_da8c8 : ByteArray := prog_17_method_2_code
def yJx4a65c_init_da8c8 : MethodName := ⟨RJx4a65c, "<init>", "()V"⟩
abbrev cJx4a65c_grow_92f84 : ByteArray := prog_17_method_6_code
def yJx4a65c_grow_92f84 : MethodName := ⟨RJx4a65c, "grow", "(I)[Ljava/lang/Object;"⟩
abbrev cJx4a65c_grow_d5877 : ByteArray := prog_17_method_7_code
def yJx4a65c_grow_d5877 : MethodName := ⟨RJx4a65c, "grow", "()[Ljava/lang/Object;"⟩
abbrev cJx4a65c_size_8abf5 : ByteArray := prog_17_method_8_code
def yJx4a65c_size_8abf5 : MethodName := ⟨RJx4a65c, "size", "()I"⟩
abbrev cJx4a65c_elementData_915e3 : ByteArray := prog_17_method_18_code
def yJx4a65c_elementData_915e3 : MethodName := ⟨RJx4a65c, "elementData", "(I)Ljava/lang/Object;"⟩
abbrev cJx4a65c_get_915e3 : ByteArray := prog_17_method_20_code
def yJx4a65c_get_915e3 : MethodName := ⟨RJx4a65c, "get", "(I)Ljava/lang/Object;"⟩
abbrev cJx4a65c_add_72be8 : ByteArray := prog_17_method_24_code
def yJx4a65c_add_72be8 : MethodName := ⟨RJx4a65c, "add", "(Ljava/lang/Object;[Ljava/lang/Object;I)V"⟩
abbrev cJx4a65c_add_9ea2d : ByteArray := prog_17_method_25_code
def yJx4a65c_add_9ea2d : MethodName := ⟨RJx4a65c, "add", "(Ljava/lang/Object;)Z"⟩
abbrev cJx4a65c_remove_915e3 : ByteArray := prog_17_method_29_code
def yJx4a65c_remove_915e3 : MethodName := ⟨RJx4a65c, "remove", "(I)Ljava/lang/Object;"⟩
abbrev cJx4a65c_fastRemove_b59b0 : ByteArray := prog_17_method_39_code
def yJx4a65c_fastRemove_b59b0 : MethodName := ⟨RJx4a65c, "fastRemove", "([Ljava/lang/Object;I)V"⟩
def RJ7 : String := "java/util/Arrays"
def TJ7 : u_T := fun k => match k with
  | _ => ("", "", "", false)
def tyJ7 : Nat → FieldType := fun k => match k with
  | _ => .int
theorem nmJ7 : ∀ a, a < 0 → ∀ b, b < 0 → a ≠ b → (TJ7 a).2.1 ≠ (TJ7 b).2.1 := by decide +kernel
theorem tyJ7_ok : ∀ k, k < 0 → parseFieldDescriptor (TJ7 k).2.2.1 = some (tyJ7 k) := by decide +kernel
abbrev cJ7_copyOf_1904c : ByteArray := prog_18_method_119_code
def yJ7_copyOf_1904c : MethodName := ⟨RJ7, "copyOf", "([Ljava/lang/Object;I)[Ljava/lang/Object;"⟩
abbrev cJ7_copyOf_6403c : ByteArray := prog_18_method_120_code
def yJ7_copyOf_6403c : MethodName := ⟨RJ7, "copyOf", "([Ljava/lang/Object;ILjava/lang/Class;)[Ljava/lang/Object;"⟩
def RJx5ef63 : String := "java/util/Collection"
def TJx5ef63 : u_T := fun k => match k with
  | _ => ("", "", "", false)
def tyJx5ef63 : Nat → FieldType := fun k => match k with
  | _ => .int
theorem nmJx5ef63 : ∀ a, a < 0 → ∀ b, b < 0 → a ≠ b → (TJx5ef63 a).2.1 ≠ (TJx5ef63 b).2.1 := by decide +kernel
theorem tyJx5ef63_ok : ∀ k, k < 0 → parseFieldDescriptor (TJx5ef63 k).2.2.1 = some (tyJx5ef63 k) := by decide +kernel
def RJxbd725 : String := "java/util/List"
def TJxbd725 : u_T := fun k => match k with
  | _ => ("", "", "", false)
def tyJxbd725 : Nat → FieldType := fun k => match k with
  | _ => .int
theorem nmJxbd725 : ∀ a, a < 0 → ∀ b, b < 0 → a ≠ b → (TJxbd725 a).2.1 ≠ (TJxbd725 b).2.1 := by decide +kernel
theorem tyJxbd725_ok : ∀ k, k < 0 → parseFieldDescriptor (TJxbd725 k).2.2.1 = some (tyJxbd725 k) := by decide +kernel
def RJ15 : String := "java/util/Objects"
def TJ15 : u_T := fun k => match k with
  | _ => ("", "", "", false)
def tyJ15 : Nat → FieldType := fun k => match k with
  | _ => .int
theorem nmJ15 : ∀ a, a < 0 → ∀ b, b < 0 → a ≠ b → (TJ15 a).2.1 ≠ (TJ15 b).2.1 := by decide +kernel
theorem tyJ15_ok : ∀ k, k < 0 → parseFieldDescriptor (TJ15 k).2.2.1 = some (tyJ15 k) := by decide +kernel
abbrev cJ15_checkIndex_7cf53 : ByteArray := prog_21_method_17_code
def yJ15_checkIndex_7cf53 : MethodName := ⟨RJ15, "checkIndex", "(II)I"⟩
def RJxf0a74 : String := "java/util/RandomAccess"
def TJxf0a74 : u_T := fun k => match k with
  | _ => ("", "", "", false)
def tyJxf0a74 : Nat → FieldType := fun k => match k with
  | _ => .int
theorem nmJxf0a74 : ∀ a, a < 0 → ∀ b, b < 0 → a ≠ b → (TJxf0a74 a).2.1 ≠ (TJxf0a74 b).2.1 := by decide +kernel
theorem tyJxf0a74_ok : ∀ k, k < 0 → parseFieldDescriptor (TJxf0a74 k).2.2.1 = some (tyJxf0a74 k) := by decide +kernel
def RJxa66e6 : String := "java/util/SequencedCollection"
def TJxa66e6 : u_T := fun k => match k with
  | _ => ("", "", "", false)
def tyJxa66e6 : Nat → FieldType := fun k => match k with
  | _ => .int
theorem nmJxa66e6 : ∀ a, a < 0 → ∀ b, b < 0 → a ≠ b → (TJxa66e6 a).2.1 ≠ (TJxa66e6 b).2.1 := by decide +kernel
theorem tyJxa66e6_ok : ∀ k, k < 0 → parseFieldDescriptor (TJxa66e6 k).2.2.1 = some (tyJxa66e6 k) := by decide +kernel
def RJ8 : String := "jdk/internal/util/ArraysSupport"
def TJ8 : u_T := fun k => match k with
  | _ => ("", "", "", false)
def tyJ8 : Nat → FieldType := fun k => match k with
  | _ => .int
theorem nmJ8 : ∀ a, a < 0 → ∀ b, b < 0 → a ≠ b → (TJ8 a).2.1 ≠ (TJ8 b).2.1 := by decide +kernel
theorem tyJ8_ok : ∀ k, k < 0 → parseFieldDescriptor (TJ8 k).2.2.1 = some (tyJ8 k) := by decide +kernel
abbrev cJ8_newLength_cabcc : ByteArray := prog_24_method_27_code
def yJ8_newLength_cabcc : MethodName := ⟨RJ8, "newLength", "(III)I"⟩
abbrev cJ8_hugeLength_7cf53 : ByteArray := prog_24_method_28_code
def yJ8_hugeLength_7cf53 : MethodName := ⟨RJ8, "hugeLength", "(II)I"⟩
def RJ3 : String := "jdk/internal/util/Preconditions"
def TJ3 : u_T := fun k => match k with
  | _ => ("", "", "", false)
def tyJ3 : Nat → FieldType := fun k => match k with
  | _ => .int
theorem nmJ3 : ∀ a, a < 0 → ∀ b, b < 0 → a ≠ b → (TJ3 a).2.1 ≠ (TJ3 b).2.1 := by decide +kernel
theorem tyJ3_ok : ∀ k, k < 0 → parseFieldDescriptor (TJ3 k).2.2.1 = some (tyJ3 k) := by decide +kernel
abbrev cJ3_checkIndex_8e157 : ByteArray := prog_25_method_11_code
def yJ3_checkIndex_8e157 : MethodName := ⟨RJ3, "checkIndex", "(IILjava/util/function/BiFunction;)I"⟩
def RL : String := "WishRoutesLaw"
abbrev cL_law : ByteArray := code
def yL_law : MethodName := ⟨RL, "law", "([I)Z"⟩
abbrev vwCl : List vw_C := [(RJx4a65c, TJx4a65c, 3), (RX0, TX0, 3), (RX1, TX1, 6), (RX2, TX2, 6), (RX3, TX3, 3), (RX4, TX4, 1), (RX5, TX5, 5), (RX6, TX6, 14), (RX7, TX7, 33)]
end
section
/-! Named worlds: abstract values, cells and heaps; what a method's frame stands for -/
abbrev zNm : Type := Nat × Nat × Nat
abbrev zAV : Type := Value ⊕ zNm
abbrev zAA : Type := (Nat → Int32) ⊕ (Nat → Int64) ⊕ (Nat → Option zNm)
abbrev zAE : Type := (FieldType × Nat × zAA) ⊕ (Nat × List zAV)
abbrev zMp : Type := zNm → Option zAE
/-- names of cells that nobody writes have a first number of 90 or more -/
def zmo (n : zNm) : Prop := n.1 < 90
def zcv (ad : zNm → Nat) : zAV → Value
  | .inl v => v
  | .inr n => .ref (ad n)
def zca (ad : zNm → Nat) : zAA → ((Nat → Int32) ⊕ (Nat → Int64) ⊕ (Nat → UInt32) ⊕ (Nat → UInt64) ⊕ (Nat → Option Nat))
  | .inl f => .inl f
  | .inr (.inl f) => .inr (.inl f)
  | .inr (.inr f) => .inr (.inr (.inr (.inr (fun k => (f k).map ad))))
def zat (D : va_G) (s : State) (ad : zNm → Nat) (n : zNm) (e : zAE) (H : Heap) : Prop := match e with
  | .inl (ty, len, x) => ∃ cA : ClassId, ArrOfT s cA ty ∧ va_RA s cA ty ∧ H[ad n]? = some (vp_cell cA (len, zca ad x))
  | .inr (ci, fs) => ∃ r : vw_C, vwCl[ci]? = some r ∧ t_OB (ad n) (D.1 ci) r.2.2 (D.2 ci) H (vp_V (fs.map (zcv ad)))
/-- the names that a cell holds -/
def zrf (e : zAE) (n : zNm) : Prop := match e with
  | .inl (_, _, .inr (.inr f)) => ∃ k, f k = some n
  | .inl _ => False
  | .inr (_, fs) => .inr n ∈ fs
def zcl (M : zMp) : Prop := ∀ n e, M n = some e → ∀ n', zrf e n' → M n' ≠ none
def zalv (M : zMp) : zAV → Prop
  | .inl _ => True
  | .inr n => M n ≠ none
def zWd (D : va_G) (s : State) (A : Nat → Prop) (ad : zNm → Nat) (M : zMp) (H : Heap) : Prop :=
  (∀ n e, M n = some e → zat D s ad n e H) ∧ (∀ n n', M n ≠ none → M n' ≠ none → ad n = ad n' → n = n') ∧ (∀ n, M n ≠ none → zmo n → A (ad n)) ∧ zcl M
def zEx (ad0 : zNm → Nat) (M0 : zMp) (ad : zNm → Nat) (M : zMp) : Prop := ∀ n, M0 n ≠ none → M n ≠ none ∧ ad n = ad0 n
def zup (M : zMp) (a : zNm) (e : zAE) : zMp := fun n => if n = a then some e else M n
def zua (ad : zNm → Nat) (a : zNm) (q : Nat) : zNm → Nat := fun n => if n = a then q else ad n
theorem zcv_cat (ad : zNm → Nat) (v : zAV) : (zcv ad v).category = match v with | .inl w => w.category | .inr _ => 1 := by cases v <;> rfl
/-- values, contents and cells don't change when a name is bound that they don't hold -/
theorem zcv_ext {ad ad' : zNm → Nat} {v : zAV} (h : ∀ n, v = .inr n → ad' n = ad n) : zcv ad' v = zcv ad v := by
  cases v with
  | inl w => rfl
  | inr n => simp only [zcv]; rw [h n rfl]
theorem zat_ext {D : va_G} {s : State} {ad ad' : zNm → Nat} {n : zNm} {e : zAE} {H : Heap} (hn : ad' n = ad n) (h : ∀ n', zrf e n' → ad' n' = ad n') (ha : zat D s ad n e H) : zat D s ad' n e H := by
  match e, h, ha with
  | .inl (ty, len, .inl f), h, ⟨cA, h1, h2, h3⟩ => exact ⟨cA, h1, h2, by rw [hn]; exact h3⟩
  | .inl (ty, len, .inr (.inl f)), h, ⟨cA, h1, h2, h3⟩ => exact ⟨cA, h1, h2, by rw [hn]; exact h3⟩
  | .inl (ty, len, .inr (.inr f)), h, ⟨cA, h1, h2, h3⟩ =>
    refine ⟨cA, h1, h2, ?_⟩
    rw [hn]
    have hf : (fun k => (f k).map ad') = (fun k => (f k).map ad) := by
      funext k
      cases hk : f k with
      | none => rfl
      | some y => exact congrArg some (h y ⟨k, hk⟩)
    simp only [zca] at h3 ⊢
    rw [hf]
    exact h3
  | .inr (ci, fs), h, ⟨r, h1, h2⟩ =>
    refine ⟨r, h1, ?_⟩
    rw [hn]
    have hf : fs.map (zcv ad') = fs.map (zcv ad) := by
      refine List.map_congr_left fun v hv => zcv_ext fun n' e' => h n' ?_
      rw [e'] at hv
      exact hv
    rw [hf]
    exact h2
theorem zat_kept {D : va_G} {s : State} {ad : zNm → Nat} {n : zNm} {e : zAE} {H H1 : Heap} (ha : zat D s ad n e H) (hq : H1[ad n]? = H[ad n]?) : zat D s ad n e H1 := by
  match e, ha with
  | .inl (ty, len, x), ⟨cA, h1, h2, h3⟩ => exact ⟨cA, h1, h2, hq.trans h3⟩
  | .inr (ci, fs), ⟨r, h1, h2⟩ => exact ⟨r, h1, h2.kept hq⟩
theorem zat_lt {D : va_G} {s : State} {ad : zNm → Nat} {n : zNm} {e : zAE} {H : Heap} (ha : zat D s ad n e H) : ad n < H.size := by
  match e, ha with
  | .inl (ty, len, x), ⟨cA, h1, h2, h3⟩ => exact (Array.getElem?_eq_some_iff.mp h3).1
  | .inr (ci, fs), ⟨r, h1, ⟨c0, h2, _⟩⟩ => exact (Array.getElem?_eq_some_iff.mp h2).1
theorem zat_moved {D : va_G} {s U : State} {ad : zNm → Nat} {n : zNm} {e : zAE} {H : Heap} (hvm : s.vm.Alike U.vm) (ha : zat D s ad n e H) : zat D U ad n e H := by
  match e, ha with
  | .inl (ty, len, x), ⟨cA, h1, h2, h3⟩ => exact ⟨cA, arrOfT_moved hvm h1, h2.moved hvm, h3⟩
  | .inr (ci, fs), ha => exact ha
theorem zWd_moved {D : va_G} {s U : State} {A : Nat → Prop} {ad : zNm → Nat} {M : zMp} {H : Heap} (hvm : s.vm.Alike U.vm) (h : zWd D s A ad M H) : zWd D U A ad M H := ⟨fun n e hn => zat_moved hvm (h.1 n e hn), h.2⟩
theorem zWd_weak {D : va_G} {s : State} {A B : Nat → Prop} {ad : zNm → Nat} {M : zMp} {H : Heap} (hAB : ∀ n, M n ≠ none → zmo n → B (ad n)) (h : zWd D s A ad M H) : zWd D s B ad M H := ⟨h.1, h.2.1, hAB, h.2.2.2⟩
theorem zWd_lt {D : va_G} {s : State} {A : Nat → Prop} {ad : zNm → Nat} {M : zMp} {H : Heap} (h : zWd D s A ad M H) {n : zNm} (hn : M n ≠ none) : ad n < H.size := by
  cases he : M n with
  | none => exact absurd he hn
  | some e => exact zat_lt (h.1 n e he)
theorem zup_ne {M : zMp} {a n : zNm} {e : zAE} (hn : M n ≠ none) : zup M a e n ≠ none := by
  unfold zup
  split
  · simp
  · exact hn
theorem zup_in {M : zMp} {a n : zNm} {e e0 : zAE} (ha : M a = some e0) (hn : zup M a e n ≠ none) : M n ≠ none := by
  unfold zup at hn
  split at hn
  · next h => rw [h, ha]; simp
  · exact hn
theorem zalv_up {M : zMp} {a : zNm} {e : zAE} {v : zAV} (h : zalv M v) : zalv (zup M a e) v := by
  cases v with
  | inl w => trivial
  | inr n => exact zup_ne h
/-- one cell written -/
theorem zWd_put {D : va_G} {s : State} {A : Nat → Prop} {ad : zNm → Nat} {M : zMp} {H H1 : Heap} {a : zNm} {e0 e : zAE} (h : zWd D s A ad M H) (ha : M a = some e0) (he : zat D s ad a e H1) (hr : ∀ n', zrf e n' → M n' ≠ none) (oq : ∀ q : Nat, q ≠ ad a → H1[q]? = H[q]?) : zWd D s A ad (zup M a e) H1 := by
  obtain ⟨h1, h2, h3, h4⟩ := h
  have hin : ∀ n, zup M a e n ≠ none → M n ≠ none := fun n hn => zup_in ha hn
  refine ⟨fun n x hx => ?_, fun n n' hn hn' => h2 n n' (hin n hn) (hin n' hn'), fun n hn => h3 n (hin n hn), fun n x hx n' hn' => ?_⟩
  · unfold zup at hx
    split at hx
    · next hna => cases hx; rw [hna]; exact he
    · next hna => exact zat_kept (h1 n x hx) (oq _ (fun z => hna (h2 n a (by rw [hx]; simp) (by rw [ha]; simp) z)))
  · unfold zup at hx
    split at hx
    · cases hx; exact zup_ne (hr n' hn')
    · exact zup_ne (h4 n x hx n' hn')
/-- one cell made, under a name that was free -/
theorem zWd_new {D : va_G} {s : State} {A : Nat → Prop} {ad : zNm → Nat} {M : zMp} {H H1 : Heap} {a : zNm} {e : zAE} (h : zWd D s A ad M H) (ha : M a = none) (hA : A H.size) (he : zat D s (zua ad a H.size) a e H1) (hr : ∀ n', ¬ zrf e n') (oq : ∀ q : Nat, q < H.size → H1[q]? = H[q]?) : zWd D s A (zua ad a H.size) (zup M a e) H1 := by
  have hlt := fun n (hn : M n ≠ none) => zWd_lt h hn
  obtain ⟨h1, h2, h3, h4⟩ := h
  have hno : ∀ n, M n ≠ none → n ≠ a := fun n hn z => hn (by rw [z]; exact ha)
  have had : ∀ n, M n ≠ none → zua ad a H.size n = ad n := fun n hn => if_neg (hno n hn)
  have hself : zua ad a H.size a = H.size := if_pos rfl
  have hin : ∀ n, zup M a e n ≠ none → n = a ∨ M n ≠ none := by
    intro n hn
    unfold zup at hn
    split at hn
    · next hna => exact Or.inl hna
    · exact Or.inr hn
  refine ⟨fun n x hx => ?_, fun n n' hn hn' hq => ?_, fun n hn hm => ?_, fun n x hx n' hn' => ?_⟩
  · unfold zup at hx
    split at hx
    · next hna => cases hx; rw [hna]; exact he
    · next hna =>
      have hnn : M n ≠ none := by rw [hx]; simp
      refine zat_kept (zat_ext (had n hnn) (fun n' hn' => had n' (h4 n x hx n' hn')) (h1 n x hx)) ?_
      rw [had n hnn]
      exact oq _ (hlt n hnn)
  · rcases hin n hn with e1 | k1
    · rcases hin n' hn' with e2 | k2
      · rw [e1, e2]
      · rw [e1, hself, had n' k2] at hq
        exact absurd (hlt n' k2) (by omega)
    · rcases hin n' hn' with e2 | k2
      · rw [e2, hself, had n k1] at hq
        exact absurd (hlt n k1) (by omega)
      · rw [had n k1, had n' k2] at hq
        exact h2 n n' k1 k2 hq
  · rcases hin n hn with e1 | k1
    · rw [e1, hself]; exact hA
    · rw [had n k1]; exact h3 n k1 hm
  · unfold zup at hx
    split at hx
    · cases hx; exact absurd hn' (hr n')
    · exact zup_ne (h4 n x hx n' hn')
/-! words -/
def tb : List Cond := lw_tbl.filter goodWord
theorem tb_of {w : Cond} (h : w ∈ lw_tbl) (g : goodWord w = true) : w ∈ tb := List.mem_filter.mpr ⟨h, g⟩
theorem tb_good {w1 w2 : Cond} (h : w2 ∈ tb) : GoodIn (w1 :: tb) (w2 :: tb) := by
  intro w hw
  have hin : w ∈ tb := (List.mem_cons.mp hw).elim (fun e => e ▸ h) id
  exact ⟨List.mem_cons_of_mem _ hin, good_of_word (List.mem_filter.mp hin).2⟩
def zxw : Cond → Bool
  | .castable .. => true
  | .methodLinkNest .. => true
  | .declares .. => true
  | .arrayOver (.object _) => true
  | _ => false
def xw : List Cond := tables_1.filter zxw
def zKS (D : va_G) (U : State) : Prop := va_K D vwCl [] U ∧ ∀ w ∈ xw, w.before #[] U = true
theorem zKS_warm {D : va_G} {s U : State} (hW : s.WarmedH U.vm) (h : zKS D s) : zKS D U := by
  refine ⟨va_K.moved hW.alike h.1, fun w hw => ?_⟩
  have h1 := h.2 w hw
  have h2 := (List.mem_filter.mp hw).2
  match w, h1, h2 with
  | .castable C T, h1, _ => exact va_Nw.warmC hW h1
  | .methodLinkNest a i x hst, h1, _ => exact va_Nw.warmM hW h1
  | .declares x, h1, _ => exact va_Nw.warmD hW h1
  | .arrayOver (.object C), h1, _ => exact va_AO.moved (C := C) hW.alike h1
/-- the static that new lists hold: bound to the name (90, 0, 0) where that name is in the world -/
def znE : zNm := (90, 0, 0)
def zSF (ad : zNm → Nat) (M : zMp) (A : Nat → Prop) (U : State) (H : Heap) : Prop := M znE ≠ none → va_Z "java/util/ArrayList" "DEFAULTCAPACITY_EMPTY_ELEMENTDATA" "[Ljava/lang/Object;" (.ref (ad znE)) A U H
/-! a method's end, a method's contract -/
def zAQ (D : va_G) (A : Nat → Prop) (ad0 : zNm → Nat) (M0 : zMp) (Rt : Option zAV → zMp → Prop) : Array Value → State → Outcome → State → Prop := fun _ st oc t =>
  (∃ (v : Option zAV) (M : zMp) (ad : zNm → Nat), oc = .returned (v.map (zcv ad)) ∧ Rt v M ∧ zEx ad0 M0 ad M ∧ zWd D t A ad M t.heap ∧ ∀ x, v = some x → zalv M x) ∧ va_F A st t
def zA0 (ad : zNm → Nat) (M : zMp) (sz : Nat) : Nat → Prop := fun q => (∃ n, M n ≠ none ∧ zmo n ∧ ad n = q) ∨ sz ≤ q
def zPc (D : va_G) (ad : zNm → Nat) (M : zMp) (sz : Nat) (As : List zAV) : Array Value → State → Prop :=
  va_Pc (As.map (zcv ad)) (fun U => U.heap.size = sz ∧ zWd D U (fun _ => True) ad M U.heap ∧ zKS D U ∧ zSF ad M (zA0 ad M sz) U U.heap)
def zMet (l : Launch) (y : MethodName) (bytes : ByteArray) (maxL : Nat) (ret : Option FieldType) (fr lo : Nat) (As : List zAV) (M : zMp) (mc ms : Nat) (Rt : Option zAV → zMp → Prop) : Prop :=
  ∀ (D : va_G) (ad : zNm → Nat) (sz : Nat), (∀ a ∈ As, zalv M a) → Met l y (Cond.code y bytes maxL ret :: tb) { frames := fr, cells := mc, slots := ms, locals := lo } (zPc D ad M sz As) (zAQ D (zA0 ad M sz) ad M Rt) mc ms (zA0 ad M sz)
/-- a method's contract: T tells what must hold of arguments and world, and of what comes back; co what it may make -/
def zCT (l : Launch) (y : MethodName) (bytes : ByteArray) (maxL : Nat) (ret : Option FieldType) (fr lo : Nat) (T : List zAV → zMp → (Option zAV → zMp → Prop) → Prop) (co : List zAV → zMp → Nat × Nat) : Prop :=
  ∀ (As : List zAV) (M : zMp) (Rt : Option zAV → zMp → Prop), T As M Rt → zMet l y bytes maxL ret fr lo As M (co As M).1 (co As M).2 Rt
/-! the judgement: locals by places, stack, world, cells and slots made so far -/
abbrev zKT : Type := List (Option zAV) → List zAV → zMp → Nat → Nat → Prop
abbrev zMa : Type := Program × Launch × Env × Room × State × MethodId × Array Value × List Frame × Method × Code × (State → Prop) × Nat × va_G × (Nat → Prop) × (zNm → Nat) × zMp
def zlg (L : List (Option zAV)) (k : Nat) : Option zAV := (L[k]?).getD none
def zlH (ad : zNm → Nat) (nL : Nat) (ls : Array Slot) (L : List (Option zAV)) : Prop := ls.size = nL ∧ lv_wf ls ∧ ∀ k v, zlg L k = some v → ls[k]? = some (.val (zcv ad v))
def zHd (s : State) (nL : Nat) (D : va_G) (A : Nat → Prop) (ad0 : zNm → Nat) (M0 : zMp) (ad : zNm → Nat) (H : Heap) (locs : List Loc) (ls : Array Slot) (L : List (Option zAV)) (st : List zAV) (M : zMp) : Prop :=
  zWd D s A ad M H ∧ va_S A s.heap H locs ∧ zlH ad nL ls L ∧ zEx ad0 M0 ad M ∧ (∀ k v, zlg L k = some v → zalv M v) ∧ ∀ v ∈ st, zalv M v
def zG (X : zMa) (pc : Nat) : zKT := fun L st M k n => match X with
  | (p, l, e, R, s, m, args, below, meth, c, Q, nL, D, A, ad0, M0) => ∀ (ad : zNm → Nat) (H : Heap) (locs : List Loc) (ls : Array Slot), zHd s nL D A ad0 M0 ad H locs ls L st M → W p l e R s m args below meth c H locs k n Q (F0 m pc ls (st.map (zcv ad)))
/-- what holds in a method's body: own class, code, room, end -/
def zCx (X : zMa) (own : String) (cc : ByteArray) (fr lo mc ms : Nat) (ret : Option FieldType) (ini : Bool) (Rt : Option zAV → zMp → Prop) : Prop := match X with
  | (p, l, e, R, s, m, args, below, meth, c, Q, nL, D, A, ad0, M0) => p.tables.exec = Jvm.exec ∧ c.code = cc ∧ c.maxLocals = nL ∧ s.vm.findClass own = some m.cls ∧ (∀ w ∈ tb, w.before args s = true) ∧ zKS D s ∧ zSF ad0 M0 A s s.heap ∧ (∀ q, s.heap.size ≤ q → A q) ∧ R = { frames := fr, cells := mc, slots := ms, locals := lo } ∧ Q = MQ below (zAQ D A ad0 M0 Rt) args s mc ms A ∧ meth.sig.returnType = ret ∧ meth.locks = false ∧ (ini = true → meth.name = "<init>")
def zLe (K1 K2 : zKT) : Prop := ∀ L st M k n, K1 L st M k n → K2 L st M k n
theorem zLe_rfl {K : zKT} : zLe K K := fun _ _ _ _ _ h => h
/-- where the locals stand at the entry -/
def zen : List zAV → List (Option zAV)
  | [] => []
  | a :: as => if (match a with | .inl w => w.category | .inr _ => 1) = 2 then some a :: none :: zen as else some a :: zen as
theorem zmo_A {ad : zNm → Nat} {M : zMp} {sz : Nat} {n : zNm} (h : M n ≠ none) (hm : zmo n) : zA0 ad M sz (ad n) := Or.inl ⟨n, h, hm, rfl⟩
end
