section
-- ===== PART A: goes FIRST, ahead of the names: the tables' words, and 'selects' of the private methods out of them =====
/-- a private method of a class that the tables say can be made, by its rows of tables_1 -/
def lw_okq (q : MethodName × Nat) : Prop := (q.1.cls ≠ "java/lang/invoke/MethodHandle" ∧ q.1.cls ≠ "java/lang/invoke/VarHandle") ∧ Cond.instantiable q.1.cls q.2 ∈ tables_1 ∧ Cond.privateMethod q.1 ∈ tables_1 ∧ Cond.instanceMethod q.1 ∈ tables_1
theorem lw_p0 : lw_okq (⟨"WishRoutes", "isDesk", "(I)Z"⟩, 14) := ⟨⟨by decide +kernel, by decide +kernel⟩, List.mem_of_getElem? (i := 19) (by decide +kernel), List.mem_of_getElem? (i := 139) (by decide +kernel), List.mem_of_getElem? (i := 140) (by decide +kernel)⟩
theorem lw_p1 : lw_okq (⟨"WishRoutes", "reach", "(II)I"⟩, 14) := ⟨⟨by decide +kernel, by decide +kernel⟩, List.mem_of_getElem? (i := 19) (by decide +kernel), List.mem_of_getElem? (i := 143) (by decide +kernel), List.mem_of_getElem? (i := 144) (by decide +kernel)⟩
theorem lw_p2 : lw_okq (⟨"WishRoutes", "openLane", "(II)V"⟩, 14) := ⟨⟨by decide +kernel, by decide +kernel⟩, List.mem_of_getElem? (i := 19) (by decide +kernel), List.mem_of_getElem? (i := 150) (by decide +kernel), List.mem_of_getElem? (i := 151) (by decide +kernel)⟩
theorem lw_p3 : lw_okq (⟨"java/util/ArrayList", "fastRemove", "([Ljava/lang/Object;I)V"⟩, 3) := ⟨⟨by decide +kernel, by decide +kernel⟩, List.mem_of_getElem? (i := 27) (by decide +kernel), List.mem_of_getElem? (i := 168) (by decide +kernel), List.mem_of_getElem? (i := 169) (by decide +kernel)⟩
theorem lw_p4 : lw_okq (⟨"WishRoutes", "tellNeighbours", "(I)V"⟩, 14) := ⟨⟨by decide +kernel, by decide +kernel⟩, List.mem_of_getElem? (i := 19) (by decide +kernel), List.mem_of_getElem? (i := 205) (by decide +kernel), List.mem_of_getElem? (i := 206) (by decide +kernel)⟩
theorem lw_p5 : lw_okq (⟨"WishRoutes", "laneFrom", "(II)LWishRoutes$Lane;"⟩, 14) := ⟨⟨by decide +kernel, by decide +kernel⟩, List.mem_of_getElem? (i := 19) (by decide +kernel), List.mem_of_getElem? (i := 209) (by decide +kernel), List.mem_of_getElem? (i := 210) (by decide +kernel)⟩
theorem lw_p6 : lw_okq (⟨"WishRoutes", "findMeant", "(II)V"⟩, 14) := ⟨⟨by decide +kernel, by decide +kernel⟩, List.mem_of_getElem? (i := 19) (by decide +kernel), List.mem_of_getElem? (i := 213) (by decide +kernel), List.mem_of_getElem? (i := 214) (by decide +kernel)⟩
theorem lw_p7 : lw_okq (⟨"WishRoutes", "findKnown", "(II)V"⟩, 14) := ⟨⟨by decide +kernel, by decide +kernel⟩, List.mem_of_getElem? (i := 19) (by decide +kernel), List.mem_of_getElem? (i := 217) (by decide +kernel), List.mem_of_getElem? (i := 218) (by decide +kernel)⟩
theorem lw_p8 : lw_okq (⟨"WishRoutes$Lane", "slot", "(I)I"⟩, 6) := ⟨⟨by decide +kernel, by decide +kernel⟩, List.mem_of_getElem? (i := 174) (by decide +kernel), List.mem_of_getElem? (i := 262) (by decide +kernel), List.mem_of_getElem? (i := 263) (by decide +kernel)⟩
theorem lw_p9 : lw_okq (⟨"WishRoutes$Lane", "rowAt", "(I)LWishRoutes$Row;"⟩, 6) := ⟨⟨by decide +kernel, by decide +kernel⟩, List.mem_of_getElem? (i := 174) (by decide +kernel), List.mem_of_getElem? (i := 266) (by decide +kernel), List.mem_of_getElem? (i := 267) (by decide +kernel)⟩
theorem lw_p10 : lw_okq (⟨"WishRoutes", "closeLane", "(II)V"⟩, 14) := ⟨⟨by decide +kernel, by decide +kernel⟩, List.mem_of_getElem? (i := 19) (by decide +kernel), List.mem_of_getElem? (i := 278) (by decide +kernel), List.mem_of_getElem? (i := 279) (by decide +kernel)⟩
theorem lw_p11 : lw_okq (⟨"WishRoutes", "findNotice", "(I)LWishRoutes$Notice;"⟩, 14) := ⟨⟨by decide +kernel, by decide +kernel⟩, List.mem_of_getElem? (i := 19) (by decide +kernel), List.mem_of_getElem? (i := 283) (by decide +kernel), List.mem_of_getElem? (i := 284) (by decide +kernel)⟩
theorem lw_p12 : lw_okq (⟨"java/util/ArrayList", "add", "(Ljava/lang/Object;[Ljava/lang/Object;I)V"⟩, 3) := ⟨⟨by decide +kernel, by decide +kernel⟩, List.mem_of_getElem? (i := 27) (by decide +kernel), List.mem_of_getElem? (i := 297) (by decide +kernel), List.mem_of_getElem? (i := 298) (by decide +kernel)⟩
theorem lw_p13 : lw_okq (⟨"java/util/ArrayList", "grow", "()[Ljava/lang/Object;"⟩, 3) := ⟨⟨by decide +kernel, by decide +kernel⟩, List.mem_of_getElem? (i := 27) (by decide +kernel), List.mem_of_getElem? (i := 301) (by decide +kernel), List.mem_of_getElem? (i := 302) (by decide +kernel)⟩
theorem lw_p14 : lw_okq (⟨"java/util/ArrayList", "grow", "(I)[Ljava/lang/Object;"⟩, 3) := ⟨⟨by decide +kernel, by decide +kernel⟩, List.mem_of_getElem? (i := 27) (by decide +kernel), List.mem_of_getElem? (i := 305) (by decide +kernel), List.mem_of_getElem? (i := 306) (by decide +kernel)⟩
theorem lw_p15 : lw_okq (⟨"WishRoutes", "findReader", "(I)LWishRoutes$Reader;"⟩, 14) := ⟨⟨by decide +kernel, by decide +kernel⟩, List.mem_of_getElem? (i := 19) (by decide +kernel), List.mem_of_getElem? (i := 372) (by decide +kernel), List.mem_of_getElem? (i := 373) (by decide +kernel)⟩
def lw_privs_1 : List (MethodName × Nat) := [(⟨"WishRoutes", "isDesk", "(I)Z"⟩, 14), (⟨"WishRoutes", "reach", "(II)I"⟩, 14), (⟨"WishRoutes", "openLane", "(II)V"⟩, 14), (⟨"java/util/ArrayList", "fastRemove", "([Ljava/lang/Object;I)V"⟩, 3), (⟨"WishRoutes", "tellNeighbours", "(I)V"⟩, 14), (⟨"WishRoutes", "laneFrom", "(II)LWishRoutes$Lane;"⟩, 14), (⟨"WishRoutes", "findMeant", "(II)V"⟩, 14), (⟨"WishRoutes", "findKnown", "(II)V"⟩, 14), (⟨"WishRoutes$Lane", "slot", "(I)I"⟩, 6), (⟨"WishRoutes$Lane", "rowAt", "(I)LWishRoutes$Row;"⟩, 6), (⟨"WishRoutes", "closeLane", "(II)V"⟩, 14), (⟨"WishRoutes", "findNotice", "(I)LWishRoutes$Notice;"⟩, 14), (⟨"java/util/ArrayList", "add", "(Ljava/lang/Object;[Ljava/lang/Object;I)V"⟩, 3), (⟨"java/util/ArrayList", "grow", "()[Ljava/lang/Object;"⟩, 3), (⟨"java/util/ArrayList", "grow", "(I)[Ljava/lang/Object;"⟩, 3), (⟨"WishRoutes", "findReader", "(I)LWishRoutes$Reader;"⟩, 14)]
theorem lw_r1 : ∀ q ∈ lw_privs_1, lw_okq q := List.forall_mem_cons.mpr ⟨lw_p0, List.forall_mem_cons.mpr ⟨lw_p1, List.forall_mem_cons.mpr ⟨lw_p2, List.forall_mem_cons.mpr ⟨lw_p3, List.forall_mem_cons.mpr ⟨lw_p4, List.forall_mem_cons.mpr ⟨lw_p5, List.forall_mem_cons.mpr ⟨lw_p6, List.forall_mem_cons.mpr ⟨lw_p7, List.forall_mem_cons.mpr ⟨lw_p8, List.forall_mem_cons.mpr ⟨lw_p9, List.forall_mem_cons.mpr ⟨lw_p10, List.forall_mem_cons.mpr ⟨lw_p11, List.forall_mem_cons.mpr ⟨lw_p12, List.forall_mem_cons.mpr ⟨lw_p13, List.forall_mem_cons.mpr ⟨lw_p14, List.forall_mem_cons.mpr ⟨lw_p15, fun _ h => absurd h List.not_mem_nil⟩⟩⟩⟩⟩⟩⟩⟩⟩⟩⟩⟩⟩⟩⟩⟩
theorem lw_p16 : lw_okq (⟨"WishRoutes$FieldTest", "hasNumber", "(I)Z"⟩, 3) := ⟨⟨by decide +kernel, by decide +kernel⟩, List.mem_of_getElem? (i := 71) (by decide +kernel), List.mem_of_getElem? (i := 395) (by decide +kernel), List.mem_of_getElem? (i := 396) (by decide +kernel)⟩
theorem lw_p17 : lw_okq (⟨"WishRoutes", "weigh", "(LWishRoutes$Wish;I)V"⟩, 14) := ⟨⟨by decide +kernel, by decide +kernel⟩, List.mem_of_getElem? (i := 19) (by decide +kernel), List.mem_of_getElem? (i := 431) (by decide +kernel), List.mem_of_getElem? (i := 432) (by decide +kernel)⟩
theorem lw_p18 : lw_okq (⟨"WishRoutes$Wish", "isNeverMet", "()Z"⟩, 5) := ⟨⟨by decide +kernel, by decide +kernel⟩, List.mem_of_getElem? (i := 402) (by decide +kernel), List.mem_of_getElem? (i := 439) (by decide +kernel), List.mem_of_getElem? (i := 440) (by decide +kernel)⟩
theorem lw_p19 : lw_okq (⟨"WishRoutes$FieldTest", "spans", "()I"⟩, 3) := ⟨⟨by decide +kernel, by decide +kernel⟩, List.mem_of_getElem? (i := 71) (by decide +kernel), List.mem_of_getElem? (i := 453) (by decide +kernel), List.mem_of_getElem? (i := 454) (by decide +kernel)⟩
theorem lw_p20 : lw_okq (⟨"WishRoutes$FieldTest", "spanStart", "(I)J"⟩, 3) := ⟨⟨by decide +kernel, by decide +kernel⟩, List.mem_of_getElem? (i := 71) (by decide +kernel), List.mem_of_getElem? (i := 457) (by decide +kernel), List.mem_of_getElem? (i := 458) (by decide +kernel)⟩
theorem lw_p21 : lw_okq (⟨"WishRoutes$FieldTest", "spanEnd", "(I)J"⟩, 3) := ⟨⟨by decide +kernel, by decide +kernel⟩, List.mem_of_getElem? (i := 71) (by decide +kernel), List.mem_of_getElem? (i := 466) (by decide +kernel), List.mem_of_getElem? (i := 467) (by decide +kernel)⟩
theorem lw_p22 : lw_okq (⟨"WishRoutes$FieldTest", "passesAll", "(JJ)Z"⟩, 3) := ⟨⟨by decide +kernel, by decide +kernel⟩, List.mem_of_getElem? (i := 71) (by decide +kernel), List.mem_of_getElem? (i := 471) (by decide +kernel), List.mem_of_getElem? (i := 472) (by decide +kernel)⟩
theorem lw_p23 : lw_okq (⟨"WishRoutes", "findWish", "(I)LWishRoutes$Wish;"⟩, 14) := ⟨⟨by decide +kernel, by decide +kernel⟩, List.mem_of_getElem? (i := 19) (by decide +kernel), List.mem_of_getElem? (i := 479) (by decide +kernel), List.mem_of_getElem? (i := 480) (by decide +kernel)⟩
theorem lw_p24 : lw_okq (⟨"WishRoutes", "underWay", "()I"⟩, 14) := ⟨⟨by decide +kernel, by decide +kernel⟩, List.mem_of_getElem? (i := 19) (by decide +kernel), List.mem_of_getElem? (i := 487) (by decide +kernel), List.mem_of_getElem? (i := 488) (by decide +kernel)⟩
theorem lw_p25 : lw_okq (⟨"WishRoutes", "letHear", "(LWishRoutes$Notice;I)V"⟩, 14) := ⟨⟨by decide +kernel, by decide +kernel⟩, List.mem_of_getElem? (i := 19) (by decide +kernel), List.mem_of_getElem? (i := 521) (by decide +kernel), List.mem_of_getElem? (i := 522) (by decide +kernel)⟩
theorem lw_p26 : lw_okq (⟨"WishRoutes", "passOn", "(LWishRoutes$Notice;II)V"⟩, 14) := ⟨⟨by decide +kernel, by decide +kernel⟩, List.mem_of_getElem? (i := 19) (by decide +kernel), List.mem_of_getElem? (i := 537) (by decide +kernel), List.mem_of_getElem? (i := 538) (by decide +kernel)⟩
theorem lw_p27 : lw_okq (⟨"WishRoutes", "isInTable", "(LWishRoutes$Notice;LWishRoutes$Row;)Z"⟩, 14) := ⟨⟨by decide +kernel, by decide +kernel⟩, List.mem_of_getElem? (i := 19) (by decide +kernel), List.mem_of_getElem? (i := 541) (by decide +kernel), List.mem_of_getElem? (i := 542) (by decide +kernel)⟩
theorem lw_p28 : lw_okq (⟨"WishRoutes", "isWantedAt", "(LWishRoutes$Notice;I)Z"⟩, 14) := ⟨⟨by decide +kernel, by decide +kernel⟩, List.mem_of_getElem? (i := 19) (by decide +kernel), List.mem_of_getElem? (i := 549) (by decide +kernel), List.mem_of_getElem? (i := 550) (by decide +kernel)⟩
theorem lw_p29 : lw_okq (⟨"WishRoutes", "deliverFirst", "(II)V"⟩, 14) := ⟨⟨by decide +kernel, by decide +kernel⟩, List.mem_of_getElem? (i := 19) (by decide +kernel), List.mem_of_getElem? (i := 558) (by decide +kernel), List.mem_of_getElem? (i := 559) (by decide +kernel)⟩
theorem lw_p30 : lw_okq (⟨"WishRoutes", "firstBusyPlace", "()I"⟩, 14) := ⟨⟨by decide +kernel, by decide +kernel⟩, List.mem_of_getElem? (i := 19) (by decide +kernel), List.mem_of_getElem? (i := 570) (by decide +kernel), List.mem_of_getElem? (i := 571) (by decide +kernel)⟩
theorem lw_p31 : lw_okq (⟨"WishRoutes", "messagesInLanes", "()I"⟩, 14) := ⟨⟨by decide +kernel, by decide +kernel⟩, List.mem_of_getElem? (i := 19) (by decide +kernel), List.mem_of_getElem? (i := 620) (by decide +kernel), List.mem_of_getElem? (i := 621) (by decide +kernel)⟩
def lw_privs_2 : List (MethodName × Nat) := [(⟨"WishRoutes$FieldTest", "hasNumber", "(I)Z"⟩, 3), (⟨"WishRoutes", "weigh", "(LWishRoutes$Wish;I)V"⟩, 14), (⟨"WishRoutes$Wish", "isNeverMet", "()Z"⟩, 5), (⟨"WishRoutes$FieldTest", "spans", "()I"⟩, 3), (⟨"WishRoutes$FieldTest", "spanStart", "(I)J"⟩, 3), (⟨"WishRoutes$FieldTest", "spanEnd", "(I)J"⟩, 3), (⟨"WishRoutes$FieldTest", "passesAll", "(JJ)Z"⟩, 3), (⟨"WishRoutes", "findWish", "(I)LWishRoutes$Wish;"⟩, 14), (⟨"WishRoutes", "underWay", "()I"⟩, 14), (⟨"WishRoutes", "letHear", "(LWishRoutes$Notice;I)V"⟩, 14), (⟨"WishRoutes", "passOn", "(LWishRoutes$Notice;II)V"⟩, 14), (⟨"WishRoutes", "isInTable", "(LWishRoutes$Notice;LWishRoutes$Row;)Z"⟩, 14), (⟨"WishRoutes", "isWantedAt", "(LWishRoutes$Notice;I)Z"⟩, 14), (⟨"WishRoutes", "deliverFirst", "(II)V"⟩, 14), (⟨"WishRoutes", "firstBusyPlace", "()I"⟩, 14), (⟨"WishRoutes", "messagesInLanes", "()I"⟩, 14)]
theorem lw_r2 : ∀ q ∈ lw_privs_2, lw_okq q := List.forall_mem_cons.mpr ⟨lw_p16, List.forall_mem_cons.mpr ⟨lw_p17, List.forall_mem_cons.mpr ⟨lw_p18, List.forall_mem_cons.mpr ⟨lw_p19, List.forall_mem_cons.mpr ⟨lw_p20, List.forall_mem_cons.mpr ⟨lw_p21, List.forall_mem_cons.mpr ⟨lw_p22, List.forall_mem_cons.mpr ⟨lw_p23, List.forall_mem_cons.mpr ⟨lw_p24, List.forall_mem_cons.mpr ⟨lw_p25, List.forall_mem_cons.mpr ⟨lw_p26, List.forall_mem_cons.mpr ⟨lw_p27, List.forall_mem_cons.mpr ⟨lw_p28, List.forall_mem_cons.mpr ⟨lw_p29, List.forall_mem_cons.mpr ⟨lw_p30, List.forall_mem_cons.mpr ⟨lw_p31, fun _ h => absurd h List.not_mem_nil⟩⟩⟩⟩⟩⟩⟩⟩⟩⟩⟩⟩⟩⟩⟩⟩
theorem lw_p32 : lw_okq (⟨"WishRoutes", "tellsInLanes", "()I"⟩, 14) := ⟨⟨by decide +kernel, by decide +kernel⟩, List.mem_of_getElem? (i := 19) (by decide +kernel), List.mem_of_getElem? (i := 624) (by decide +kernel), List.mem_of_getElem? (i := 625) (by decide +kernel)⟩
theorem lw_p33 : lw_okq (⟨"WishRoutesModel", "unread", "()V"⟩, 33) := ⟨⟨by decide +kernel, by decide +kernel⟩, List.mem_of_getElem? (i := 632) (by decide +kernel), List.mem_of_getElem? (i := 639) (by decide +kernel), List.mem_of_getElem? (i := 640) (by decide +kernel)⟩
theorem lw_p34 : lw_okq (⟨"WishRoutesModel", "isDesk", "(I)Z"⟩, 33) := ⟨⟨by decide +kernel, by decide +kernel⟩, List.mem_of_getElem? (i := 632) (by decide +kernel), List.mem_of_getElem? (i := 752) (by decide +kernel), List.mem_of_getElem? (i := 753) (by decide +kernel)⟩
theorem lw_p35 : lw_okq (⟨"WishRoutesModel", "reach", "(II)V"⟩, 33) := ⟨⟨by decide +kernel, by decide +kernel⟩, List.mem_of_getElem? (i := 632) (by decide +kernel), List.mem_of_getElem? (i := 756) (by decide +kernel), List.mem_of_getElem? (i := 757) (by decide +kernel)⟩
theorem lw_p36 : lw_okq (⟨"WishRoutesModel", "isLinked", "(II)Z"⟩, 33) := ⟨⟨by decide +kernel, by decide +kernel⟩, List.mem_of_getElem? (i := 632) (by decide +kernel), List.mem_of_getElem? (i := 760) (by decide +kernel), List.mem_of_getElem? (i := 761) (by decide +kernel)⟩
theorem lw_p37 : lw_okq (⟨"WishRoutesModel", "links", "(IIZ)V"⟩, 33) := ⟨⟨by decide +kernel, by decide +kernel⟩, List.mem_of_getElem? (i := 632) (by decide +kernel), List.mem_of_getElem? (i := 764) (by decide +kernel), List.mem_of_getElem? (i := 765) (by decide +kernel)⟩
theorem lw_p38 : lw_okq (⟨"WishRoutesModel", "tells", "()V"⟩, 33) := ⟨⟨by decide +kernel, by decide +kernel⟩, List.mem_of_getElem? (i := 632) (by decide +kernel), List.mem_of_getElem? (i := 771) (by decide +kernel), List.mem_of_getElem? (i := 772) (by decide +kernel)⟩
theorem lw_p39 : lw_okq (⟨"WishRoutesModel", "means", "(II)V"⟩, 33) := ⟨⟨by decide +kernel, by decide +kernel⟩, List.mem_of_getElem? (i := 632) (by decide +kernel), List.mem_of_getElem? (i := 775) (by decide +kernel), List.mem_of_getElem? (i := 776) (by decide +kernel)⟩
theorem lw_p40 : lw_okq (⟨"WishRoutesModel", "lastOf", "(II)I"⟩, 33) := ⟨⟨by decide +kernel, by decide +kernel⟩, List.mem_of_getElem? (i := 632) (by decide +kernel), List.mem_of_getElem? (i := 782) (by decide +kernel), List.mem_of_getElem? (i := 783) (by decide +kernel)⟩
theorem lw_p41 : lw_okq (⟨"WishRoutesModel", "put", "(III)I"⟩, 33) := ⟨⟨by decide +kernel, by decide +kernel⟩, List.mem_of_getElem? (i := 632) (by decide +kernel), List.mem_of_getElem? (i := 786) (by decide +kernel), List.mem_of_getElem? (i := 787) (by decide +kernel)⟩
theorem lw_p42 : lw_okq (⟨"WishRoutesModel", "drop", "(I)V"⟩, 33) := ⟨⟨by decide +kernel, by decide +kernel⟩, List.mem_of_getElem? (i := 632) (by decide +kernel), List.mem_of_getElem? (i := 794) (by decide +kernel), List.mem_of_getElem? (i := 795) (by decide +kernel)⟩
theorem lw_p43 : lw_okq (⟨"WishRoutesModel", "isReader", "(I)Z"⟩, 33) := ⟨⟨by decide +kernel, by decide +kernel⟩, List.mem_of_getElem? (i := 632) (by decide +kernel), List.mem_of_getElem? (i := 806) (by decide +kernel), List.mem_of_getElem? (i := 807) (by decide +kernel)⟩
theorem lw_p44 : lw_okq (⟨"WishRoutesModel", "passes", "(II)Z"⟩, 33) := ⟨⟨by decide +kernel, by decide +kernel⟩, List.mem_of_getElem? (i := 632) (by decide +kernel), List.mem_of_getElem? (i := 821) (by decide +kernel), List.mem_of_getElem? (i := 822) (by decide +kernel)⟩
theorem lw_p45 : lw_okq (⟨"WishRoutesModel", "isCovered", "(II)Z"⟩, 33) := ⟨⟨by decide +kernel, by decide +kernel⟩, List.mem_of_getElem? (i := 632) (by decide +kernel), List.mem_of_getElem? (i := 829) (by decide +kernel), List.mem_of_getElem? (i := 830) (by decide +kernel)⟩
theorem lw_p46 : lw_okq (⟨"WishRoutesModel", "spans", "(II)I"⟩, 33) := ⟨⟨by decide +kernel, by decide +kernel⟩, List.mem_of_getElem? (i := 632) (by decide +kernel), List.mem_of_getElem? (i := 833) (by decide +kernel), List.mem_of_getElem? (i := 834) (by decide +kernel)⟩
theorem lw_p47 : lw_okq (⟨"WishRoutesModel", "holds", "(II)Z"⟩, 33) := ⟨⟨by decide +kernel, by decide +kernel⟩, List.mem_of_getElem? (i := 632) (by decide +kernel), List.mem_of_getElem? (i := 839) (by decide +kernel), List.mem_of_getElem? (i := 840) (by decide +kernel)⟩
def lw_privs_3 : List (MethodName × Nat) := [(⟨"WishRoutes", "tellsInLanes", "()I"⟩, 14), (⟨"WishRoutesModel", "unread", "()V"⟩, 33), (⟨"WishRoutesModel", "isDesk", "(I)Z"⟩, 33), (⟨"WishRoutesModel", "reach", "(II)V"⟩, 33), (⟨"WishRoutesModel", "isLinked", "(II)Z"⟩, 33), (⟨"WishRoutesModel", "links", "(IIZ)V"⟩, 33), (⟨"WishRoutesModel", "tells", "()V"⟩, 33), (⟨"WishRoutesModel", "means", "(II)V"⟩, 33), (⟨"WishRoutesModel", "lastOf", "(II)I"⟩, 33), (⟨"WishRoutesModel", "put", "(III)I"⟩, 33), (⟨"WishRoutesModel", "drop", "(I)V"⟩, 33), (⟨"WishRoutesModel", "isReader", "(I)Z"⟩, 33), (⟨"WishRoutesModel", "passes", "(II)Z"⟩, 33), (⟨"WishRoutesModel", "isCovered", "(II)Z"⟩, 33), (⟨"WishRoutesModel", "spans", "(II)I"⟩, 33), (⟨"WishRoutesModel", "holds", "(II)Z"⟩, 33)]
theorem lw_r3 : ∀ q ∈ lw_privs_3, lw_okq q := List.forall_mem_cons.mpr ⟨lw_p32, List.forall_mem_cons.mpr ⟨lw_p33, List.forall_mem_cons.mpr ⟨lw_p34, List.forall_mem_cons.mpr ⟨lw_p35, List.forall_mem_cons.mpr ⟨lw_p36, List.forall_mem_cons.mpr ⟨lw_p37, List.forall_mem_cons.mpr ⟨lw_p38, List.forall_mem_cons.mpr ⟨lw_p39, List.forall_mem_cons.mpr ⟨lw_p40, List.forall_mem_cons.mpr ⟨lw_p41, List.forall_mem_cons.mpr ⟨lw_p42, List.forall_mem_cons.mpr ⟨lw_p43, List.forall_mem_cons.mpr ⟨lw_p44, List.forall_mem_cons.mpr ⟨lw_p45, List.forall_mem_cons.mpr ⟨lw_p46, List.forall_mem_cons.mpr ⟨lw_p47, fun _ h => absurd h List.not_mem_nil⟩⟩⟩⟩⟩⟩⟩⟩⟩⟩⟩⟩⟩⟩⟩⟩
theorem lw_p48 : lw_okq (⟨"WishRoutesModel", "isWish", "(I)Z"⟩, 33) := ⟨⟨by decide +kernel, by decide +kernel⟩, List.mem_of_getElem? (i := 632) (by decide +kernel), List.mem_of_getElem? (i := 847) (by decide +kernel), List.mem_of_getElem? (i := 848) (by decide +kernel)⟩
theorem lw_p49 : lw_okq (⟨"WishRoutesModel", "underWay", "()I"⟩, 33) := ⟨⟨by decide +kernel, by decide +kernel⟩, List.mem_of_getElem? (i := 632) (by decide +kernel), List.mem_of_getElem? (i := 855) (by decide +kernel), List.mem_of_getElem? (i := 856) (by decide +kernel)⟩
theorem lw_p50 : lw_okq (⟨"WishRoutesModel", "messagesOf", "(I)I"⟩, 33) := ⟨⟨by decide +kernel, by decide +kernel⟩, List.mem_of_getElem? (i := 632) (by decide +kernel), List.mem_of_getElem? (i := 859) (by decide +kernel), List.mem_of_getElem? (i := 860) (by decide +kernel)⟩
theorem lw_p51 : lw_okq (⟨"WishRoutesModel", "comes", "(III)V"⟩, 33) := ⟨⟨by decide +kernel, by decide +kernel⟩, List.mem_of_getElem? (i := 632) (by decide +kernel), List.mem_of_getElem? (i := 863) (by decide +kernel), List.mem_of_getElem? (i := 864) (by decide +kernel)⟩
theorem lw_p52 : lw_okq (⟨"WishRoutesModel", "wants", "(II)Z"⟩, 33) := ⟨⟨by decide +kernel, by decide +kernel⟩, List.mem_of_getElem? (i := 632) (by decide +kernel), List.mem_of_getElem? (i := 867) (by decide +kernel), List.mem_of_getElem? (i := 868) (by decide +kernel)⟩
theorem lw_p53 : lw_okq (⟨"WishRoutesModel", "isFit", "(II)Z"⟩, 33) := ⟨⟨by decide +kernel, by decide +kernel⟩, List.mem_of_getElem? (i := 632) (by decide +kernel), List.mem_of_getElem? (i := 871) (by decide +kernel), List.mem_of_getElem? (i := 872) (by decide +kernel)⟩
theorem lw_p54 : lw_okq (⟨"WishRoutesModel", "isFit", "(IIIII)Z"⟩, 33) := ⟨⟨by decide +kernel, by decide +kernel⟩, List.mem_of_getElem? (i := 632) (by decide +kernel), List.mem_of_getElem? (i := 875) (by decide +kernel), List.mem_of_getElem? (i := 876) (by decide +kernel)⟩
theorem lw_p55 : lw_okq (⟨"WishRoutesModel", "isNeeded", "(III)Z"⟩, 33) := ⟨⟨by decide +kernel, by decide +kernel⟩, List.mem_of_getElem? (i := 632) (by decide +kernel), List.mem_of_getElem? (i := 879) (by decide +kernel), List.mem_of_getElem? (i := 880) (by decide +kernel)⟩
theorem lw_p56 : lw_okq (⟨"WishRoutesModel", "firstOf", "(II)I"⟩, 33) := ⟨⟨by decide +kernel, by decide +kernel⟩, List.mem_of_getElem? (i := 632) (by decide +kernel), List.mem_of_getElem? (i := 887) (by decide +kernel), List.mem_of_getElem? (i := 888) (by decide +kernel)⟩
theorem lw_p57 : lw_okq (⟨"WishRoutesModel", "delivers", "(I)V"⟩, 33) := ⟨⟨by decide +kernel, by decide +kernel⟩, List.mem_of_getElem? (i := 632) (by decide +kernel), List.mem_of_getElem? (i := 891) (by decide +kernel), List.mem_of_getElem? (i := 892) (by decide +kernel)⟩
theorem lw_p58 : lw_okq (⟨"WishRoutesModel", "inRow", "([JIII)I"⟩, 33) := ⟨⟨by decide +kernel, by decide +kernel⟩, List.mem_of_getElem? (i := 632) (by decide +kernel), List.mem_of_getElem? (i := 911) (by decide +kernel), List.mem_of_getElem? (i := 912) (by decide +kernel)⟩
def lw_privs_4 : List (MethodName × Nat) := [(⟨"WishRoutesModel", "isWish", "(I)Z"⟩, 33), (⟨"WishRoutesModel", "underWay", "()I"⟩, 33), (⟨"WishRoutesModel", "messagesOf", "(I)I"⟩, 33), (⟨"WishRoutesModel", "comes", "(III)V"⟩, 33), (⟨"WishRoutesModel", "wants", "(II)Z"⟩, 33), (⟨"WishRoutesModel", "isFit", "(II)Z"⟩, 33), (⟨"WishRoutesModel", "isFit", "(IIIII)Z"⟩, 33), (⟨"WishRoutesModel", "isNeeded", "(III)Z"⟩, 33), (⟨"WishRoutesModel", "firstOf", "(II)I"⟩, 33), (⟨"WishRoutesModel", "delivers", "(I)V"⟩, 33), (⟨"WishRoutesModel", "inRow", "([JIII)I"⟩, 33)]
theorem lw_r4 : ∀ q ∈ lw_privs_4, lw_okq q := List.forall_mem_cons.mpr ⟨lw_p48, List.forall_mem_cons.mpr ⟨lw_p49, List.forall_mem_cons.mpr ⟨lw_p50, List.forall_mem_cons.mpr ⟨lw_p51, List.forall_mem_cons.mpr ⟨lw_p52, List.forall_mem_cons.mpr ⟨lw_p53, List.forall_mem_cons.mpr ⟨lw_p54, List.forall_mem_cons.mpr ⟨lw_p55, List.forall_mem_cons.mpr ⟨lw_p56, List.forall_mem_cons.mpr ⟨lw_p57, List.forall_mem_cons.mpr ⟨lw_p58, fun _ h => absurd h List.not_mem_nil⟩⟩⟩⟩⟩⟩⟩⟩⟩⟩⟩
def lw_privs : List (MethodName × Nat) := lw_privs_1 ++ (lw_privs_2 ++ (lw_privs_3 ++ (lw_privs_4)))
def lw_tbl : List Cond := k2_sels lw_privs ++ tables_1
theorem lw_privs_ok : ∀ q ∈ lw_privs, lw_okq q := by
  show ∀ q ∈ lw_privs_1 ++ (lw_privs_2 ++ (lw_privs_3 ++ (lw_privs_4))), lw_okq q
  exact List.forall_mem_append.mpr ⟨lw_r1, List.forall_mem_append.mpr ⟨lw_r2, List.forall_mem_append.mpr ⟨lw_r3, lw_r4⟩⟩⟩
end
section
def RX0 : String := "WishRoutes$FieldTest"
def TX0 : u_T := fun k => match k with
  | 0 => ("WishRoutes$FieldTest", "kind", "I", false)
  | 1 => ("WishRoutes$FieldTest", "numbers", "[I", true)
  | _ => ("WishRoutes$FieldTest", "size", "I", false)
def tyX0 : Nat → FieldType := fun k => match k with
  | 0 => .int
  | 1 => .array .int
  | _ => .int
theorem nmX0 : ∀ a, a < 3 → ∀ b, b < 3 → a ≠ b → (TX0 a).2.1 ≠ (TX0 b).2.1 := by decide +kernel
theorem tyX0_ok : ∀ k, k < 3 → parseFieldDescriptor (TX0 k).2.2.1 = some (tyX0 k) := by decide +kernel
abbrev cX0_init : ByteArray := prog_2_method_1_code
def yX0_init : MethodName := ⟨RX0, "<init>", "()V"⟩
abbrev cX0_setKind : ByteArray := prog_2_method_2_code
def yX0_setKind : MethodName := ⟨RX0, "setKind", "(III)V"⟩
abbrev cX0_addNumber : ByteArray := prog_2_method_3_code
def yX0_addNumber : MethodName := ⟨RX0, "addNumber", "(I)Z"⟩
abbrev cX0_numberAt : ByteArray := prog_2_method_4_code
def yX0_numberAt : MethodName := ⟨RX0, "numberAt", "(I)I"⟩
abbrev cX0_passes : ByteArray := prog_2_method_5_code
def yX0_passes : MethodName := ⟨RX0, "passes", "(I)Z"⟩
abbrev cX0_passesNone : ByteArray := prog_2_method_6_code
def yX0_passesNone : MethodName := ⟨RX0, "passesNone", "()Z"⟩
abbrev cX0_isAsWideAs : ByteArray := prog_2_method_7_code
def yX0_isAsWideAs : MethodName := ⟨RX0, "isAsWideAs", "(LWishRoutes$FieldTest;)Z"⟩
abbrev cX0_hasNumber : ByteArray := prog_2_method_8_code
def yX0_hasNumber : MethodName := ⟨RX0, "hasNumber", "(I)Z"⟩
abbrev cX0_passesAll : ByteArray := prog_2_method_9_code
def yX0_passesAll : MethodName := ⟨RX0, "passesAll", "(JJ)Z"⟩
abbrev cX0_spans : ByteArray := prog_2_method_10_code
def yX0_spans : MethodName := ⟨RX0, "spans", "()I"⟩
abbrev cX0_spanStart : ByteArray := prog_2_method_11_code
def yX0_spanStart : MethodName := ⟨RX0, "spanStart", "(I)J"⟩
abbrev cX0_spanEnd : ByteArray := prog_2_method_12_code
def yX0_spanEnd : MethodName := ⟨RX0, "spanEnd", "(I)J"⟩
def RX1 : String := "WishRoutes$Lane"
def TX1 : u_T := fun k => match k with
  | 0 => ("WishRoutes$Lane", "told", "LWishRoutes$Row;", true)
  | 1 => ("WishRoutes$Lane", "table", "LWishRoutes$Row;", true)
  | 2 => ("WishRoutes$Lane", "size", "I", false)
  | 3 => ("WishRoutes$Lane", "items", "[I", true)
  | 4 => ("WishRoutes$Lane", "rows", "[LWishRoutes$Row;", true)
  | _ => ("WishRoutes$Lane", "first", "I", false)
def tyX1 : Nat → FieldType := fun k => match k with
  | 0 => .object "WishRoutes$Row"
  | 1 => .object "WishRoutes$Row"
  | 2 => .int
  | 3 => .array .int
  | 4 => .array (.object "WishRoutes$Row")
  | _ => .int
theorem nmX1 : ∀ a, a < 6 → ∀ b, b < 6 → a ≠ b → (TX1 a).2.1 ≠ (TX1 b).2.1 := by decide +kernel
theorem tyX1_ok : ∀ k, k < 6 → parseFieldDescriptor (TX1 k).2.2.1 = some (tyX1 k) := by decide +kernel
abbrev cX1_init : ByteArray := prog_3_method_1_code
def yX1_init : MethodName := ⟨RX1, "<init>", "()V"⟩
abbrev cX1_itemAt : ByteArray := prog_3_method_2_code
def yX1_itemAt : MethodName := ⟨RX1, "itemAt", "(I)I"⟩
abbrev cX1_putNotice : ByteArray := prog_3_method_3_code
def yX1_putNotice : MethodName := ⟨RX1, "putNotice", "(I)V"⟩
abbrev cX1_putTell : ByteArray := prog_3_method_4_code
def yX1_putTell : MethodName := ⟨RX1, "putTell", "(LWishRoutes$Row;)V"⟩
abbrev cX1_takeFirst : ByteArray := prog_3_method_5_code
def yX1_takeFirst : MethodName := ⟨RX1, "takeFirst", "()I"⟩
abbrev cX1_tells : ByteArray := prog_3_method_6_code
def yX1_tells : MethodName := ⟨RX1, "tells", "()I"⟩
abbrev cX1_clear : ByteArray := prog_3_method_7_code
def yX1_clear : MethodName := ⟨RX1, "clear", "()V"⟩
abbrev cX1_slot : ByteArray := prog_3_method_8_code
def yX1_slot : MethodName := ⟨RX1, "slot", "(I)I"⟩
abbrev cX1_rowAt : ByteArray := prog_3_method_9_code
def yX1_rowAt : MethodName := ⟨RX1, "rowAt", "(I)LWishRoutes$Row;"⟩
def RX2 : String := "WishRoutes$Notice"
def TX2 : u_T := fun k => match k with
  | 0 => ("WishRoutes$Notice", "number", "I", true)
  | 1 => ("WishRoutes$Notice", "desk", "I", true)
  | 2 => ("WishRoutes$Notice", "fields", "[I", true)
  | 3 => ("WishRoutes$Notice", "messages", "I", false)
  | 4 => ("WishRoutes$Notice", "seenAt", "I", false)
  | _ => ("WishRoutes$Notice", "heardBy", "I", false)
def tyX2 : Nat → FieldType := fun k => match k with
  | 0 => .int
  | 1 => .int
  | 2 => .array .int
  | 3 => .int
  | 4 => .int
  | _ => .int
theorem nmX2 : ∀ a, a < 6 → ∀ b, b < 6 → a ≠ b → (TX2 a).2.1 ≠ (TX2 b).2.1 := by decide +kernel
theorem tyX2_ok : ∀ k, k < 6 → parseFieldDescriptor (TX2 k).2.2.1 = some (tyX2 k) := by decide +kernel
abbrev cX2_init : ByteArray := prog_4_method_1_code
def yX2_init : MethodName := ⟨RX2, "<init>", "(II[I)V"⟩
def RX3 : String := "WishRoutes$Reader"
def TX3 : u_T := fun k => match k with
  | 0 => ("WishRoutes$Reader", "desk", "I", false)
  | 1 => ("WishRoutes$Reader", "hearings", "[I", true)
  | _ => ("WishRoutes$Reader", "size", "I", false)
def tyX3 : Nat → FieldType := fun k => match k with
  | 0 => .int
  | 1 => .array .int
  | _ => .int
theorem nmX3 : ∀ a, a < 3 → ∀ b, b < 3 → a ≠ b → (TX3 a).2.1 ≠ (TX3 b).2.1 := by decide +kernel
theorem tyX3_ok : ∀ k, k < 3 → parseFieldDescriptor (TX3 k).2.2.1 = some (tyX3 k) := by decide +kernel
abbrev cX3_init : ByteArray := prog_5_method_1_code
def yX3_init : MethodName := ⟨RX3, "<init>", "(I)V"⟩
abbrev cX3_addHeard : ByteArray := prog_5_method_2_code
def yX3_addHeard : MethodName := ⟨RX3, "addHeard", "(I)V"⟩
abbrev cX3_nthHeard : ByteArray := prog_5_method_3_code
def yX3_nthHeard : MethodName := ⟨RX3, "nthHeard", "(I)I"⟩
def RX4 : String := "WishRoutes$Row"
def TX4 : u_T := fun k => match k with
  | _ => ("WishRoutes$Row", "words", "[J", true)
def tyX4 : Nat → FieldType := fun k => match k with
  | _ => .array .long
theorem nmX4 : ∀ a, a < 1 → ∀ b, b < 1 → a ≠ b → (TX4 a).2.1 ≠ (TX4 b).2.1 := by decide +kernel
theorem tyX4_ok : ∀ k, k < 1 → parseFieldDescriptor (TX4 k).2.2.1 = some (tyX4 k) := by decide +kernel
abbrev cX4_init : ByteArray := prog_6_method_1_code
def yX4_init : MethodName := ⟨RX4, "<init>", "()V"⟩
abbrev cX4_has : ByteArray := prog_6_method_2_code
def yX4_has : MethodName := ⟨RX4, "has", "(I)Z"⟩
abbrev cX4_add : ByteArray := prog_6_method_3_code
def yX4_add : MethodName := ⟨RX4, "add", "(I)V"⟩
abbrev cX4_addAll : ByteArray := prog_6_method_4_code
def yX4_addAll : MethodName := ⟨RX4, "addAll", "(LWishRoutes$Row;)V"⟩
abbrev cX4_clear : ByteArray := prog_6_method_5_code
def yX4_clear : MethodName := ⟨RX4, "clear", "()V"⟩
abbrev cX4_set : ByteArray := prog_6_method_6_code
def yX4_set : MethodName := ⟨RX4, "set", "(LWishRoutes$Row;)V"⟩
abbrev cX4_meets : ByteArray := prog_6_method_7_code
def yX4_meets : MethodName := ⟨RX4, "meets", "(LWishRoutes$Row;)Z"⟩
abbrev cX4_sameAs : ByteArray := prog_6_method_8_code
def yX4_sameAs : MethodName := ⟨RX4, "sameAs", "(LWishRoutes$Row;)Z"⟩
abbrev cX4_nth : ByteArray := prog_6_method_9_code
def yX4_nth : MethodName := ⟨RX4, "nth", "(I)I"⟩
def RX5 : String := "WishRoutes$Wish"
def TX5 : u_T := fun k => match k with
  | 0 => ("WishRoutes$Wish", "reader", "I", true)
  | 1 => ("WishRoutes$Wish", "owner", "LWishRoutes$Reader;", true)
  | 2 => ("WishRoutes$Wish", "tests", "[LWishRoutes$FieldTest;", true)
  | 3 => ("WishRoutes$Wish", "outdoneBy", "LWishRoutes$Row;", true)
  | _ => ("WishRoutes$Wish", "alive", "Z", false)
def tyX5 : Nat → FieldType := fun k => match k with
  | 0 => .int
  | 1 => .object "WishRoutes$Reader"
  | 2 => .array (.object "WishRoutes$FieldTest")
  | 3 => .object "WishRoutes$Row"
  | _ => .boolean
theorem nmX5 : ∀ a, a < 5 → ∀ b, b < 5 → a ≠ b → (TX5 a).2.1 ≠ (TX5 b).2.1 := by decide +kernel
theorem tyX5_ok : ∀ k, k < 5 → parseFieldDescriptor (TX5 k).2.2.1 = some (tyX5 k) := by decide +kernel
abbrev cX5_init : ByteArray := prog_7_method_1_code
def yX5_init : MethodName := ⟨RX5, "<init>", "(ILWishRoutes$Reader;[LWishRoutes$FieldTest;)V"⟩
abbrev cX5_isMetBy : ByteArray := prog_7_method_2_code
def yX5_isMetBy : MethodName := ⟨RX5, "isMetBy", "([I)Z"⟩
abbrev cX5_takesIn : ByteArray := prog_7_method_3_code
def yX5_takesIn : MethodName := ⟨RX5, "takesIn", "(LWishRoutes$Wish;)Z"⟩
abbrev cX5_isNeverMet : ByteArray := prog_7_method_4_code
def yX5_isNeverMet : MethodName := ⟨RX5, "isNeverMet", "()Z"⟩
def RX6 : String := "WishRoutes"
def TX6 : u_T := fun k => match k with
  | 0 => ("WishRoutes", "readers", "Ljava/util/ArrayList;", true)
  | 1 => ("WishRoutes", "wishes", "Ljava/util/ArrayList;", true)
  | 2 => ("WishRoutes", "notices", "Ljava/util/ArrayList;", true)
  | 3 => ("WishRoutes", "neighbours", "[I", true)
  | 4 => ("WishRoutes", "lanes", "[LWishRoutes$Lane;", true)
  | 5 => ("WishRoutes", "spareLanes", "Ljava/util/ArrayList;", true)
  | 6 => ("WishRoutes", "known", "LWishRoutes$Row;", true)
  | 7 => ("WishRoutes", "meant", "LWishRoutes$Row;", true)
  | 8 => ("WishRoutes", "reading", "[LWishRoutes$FieldTest;", false)
  | 9 => ("WishRoutes", "desks", "I", false)
  | 10 => ("WishRoutes", "links", "I", false)
  | 11 => ("WishRoutes", "passedOn", "I", false)
  | 12 => ("WishRoutes", "needless", "I", false)
  | _ => ("WishRoutes", "tellsDelivered", "I", false)
def tyX6 : Nat → FieldType := fun k => match k with
  | 0 => .object "java/util/ArrayList"
  | 1 => .object "java/util/ArrayList"
  | 2 => .object "java/util/ArrayList"
  | 3 => .array .int
  | 4 => .array (.object "WishRoutes$Lane")
  | 5 => .object "java/util/ArrayList"
  | 6 => .object "WishRoutes$Row"
  | 7 => .object "WishRoutes$Row"
  | 8 => .array (.object "WishRoutes$FieldTest")
  | 9 => .int
  | 10 => .int
  | 11 => .int
  | 12 => .int
  | _ => .int
theorem nmX6 : ∀ a, a < 14 → ∀ b, b < 14 → a ≠ b → (TX6 a).2.1 ≠ (TX6 b).2.1 := by decide +kernel
theorem tyX6_ok : ∀ k, k < 14 → parseFieldDescriptor (TX6 k).2.2.1 = some (tyX6 k) := by decide +kernel
abbrev cX6_init : ByteArray := prog_1_method_1_code
def yX6_init : MethodName := ⟨RX6, "<init>", "()V"⟩
abbrev cX6_desk : ByteArray := prog_1_method_2_code
def yX6_desk : MethodName := ⟨RX6, "desk", "()I"⟩
abbrev cX6_link : ByteArray := prog_1_method_3_code
def yX6_link : MethodName := ⟨RX6, "link", "(II)I"⟩
abbrev cX6_cut : ByteArray := prog_1_method_4_code
def yX6_cut : MethodName := ⟨RX6, "cut", "(II)I"⟩
abbrev cX6_reader : ByteArray := prog_1_method_5_code
def yX6_reader : MethodName := ⟨RX6, "reader", "(I)I"⟩
abbrev cX6_move : ByteArray := prog_1_method_6_code
def yX6_move : MethodName := ⟨RX6, "move", "(II)I"⟩
abbrev cX6_test : ByteArray := prog_1_method_7_code
def yX6_test : MethodName := ⟨RX6, "test", "(IIII)Z"⟩
abbrev cX6_among : ByteArray := prog_1_method_8_code
def yX6_among : MethodName := ⟨RX6, "among", "(II)Z"⟩
abbrev cX6_wish : ByteArray := prog_1_method_9_code
def yX6_wish : MethodName := ⟨RX6, "wish", "(I)I"⟩
abbrev cX6_off : ByteArray := prog_1_method_10_code
def yX6_off : MethodName := ⟨RX6, "off", "(I)I"⟩
abbrev cX6_send : ByteArray := prog_1_method_11_code
def yX6_send : MethodName := ⟨RX6, "send", "(IIIII)I"⟩
abbrev cX6_deliver : ByteArray := prog_1_method_12_code
def yX6_deliver : MethodName := ⟨RX6, "deliver", "(III)I"⟩
abbrev cX6_all : ByteArray := prog_1_method_13_code
def yX6_all : MethodName := ⟨RX6, "all", "()I"⟩
abbrev cX6_covers : ByteArray := prog_1_method_14_code
def yX6_covers : MethodName := ⟨RX6, "covers", "(II)I"⟩
abbrev cX6_fits : ByteArray := prog_1_method_15_code
def yX6_fits : MethodName := ⟨RX6, "fits", "(IIIII)I"⟩
abbrev cX6_table : ByteArray := prog_1_method_16_code
def yX6_table : MethodName := ⟨RX6, "table", "(III)I"⟩
abbrev cX6_told : ByteArray := prog_1_method_17_code
def yX6_told : MethodName := ⟨RX6, "told", "(III)I"⟩
abbrev cX6_message : ByteArray := prog_1_method_18_code
def yX6_message : MethodName := ⟨RX6, "message", "(III)I"⟩
abbrev cX6_heard : ByteArray := prog_1_method_19_code
def yX6_heard : MethodName := ⟨RX6, "heard", "(II)I"⟩
abbrev cX6_notice : ByteArray := prog_1_method_20_code
def yX6_notice : MethodName := ⟨RX6, "notice", "(II)I"⟩
abbrev cX6_look : ByteArray := prog_1_method_21_code
def yX6_look : MethodName := ⟨RX6, "look", "(II)I"⟩
abbrev cX6_count : ByteArray := prog_1_method_22_code
def yX6_count : MethodName := ⟨RX6, "count", "(I)I"⟩
abbrev cX6_allAny : ByteArray := prog_1_method_23_code
def yX6_allAny : MethodName := ⟨RX6, "allAny", "()[LWishRoutes$FieldTest;"⟩
abbrev cX6_isField : ByteArray := prog_1_method_24_code
def yX6_isField : MethodName := ⟨RX6, "isField", "(I)Z"⟩
abbrev cX6_inMask : ByteArray := prog_1_method_25_code
def yX6_inMask : MethodName := ⟨RX6, "inMask", "(II)Z"⟩
abbrev cX6_isDesk : ByteArray := prog_1_method_26_code
def yX6_isDesk : MethodName := ⟨RX6, "isDesk", "(I)Z"⟩
abbrev cX6_findReader : ByteArray := prog_1_method_27_code
def yX6_findReader : MethodName := ⟨RX6, "findReader", "(I)LWishRoutes$Reader;"⟩
abbrev cX6_findWish : ByteArray := prog_1_method_28_code
def yX6_findWish : MethodName := ⟨RX6, "findWish", "(I)LWishRoutes$Wish;"⟩
abbrev cX6_findNotice : ByteArray := prog_1_method_29_code
def yX6_findNotice : MethodName := ⟨RX6, "findNotice", "(I)LWishRoutes$Notice;"⟩
abbrev cX6_laneFrom : ByteArray := prog_1_method_30_code
def yX6_laneFrom : MethodName := ⟨RX6, "laneFrom", "(II)LWishRoutes$Lane;"⟩
abbrev cX6_openLane : ByteArray := prog_1_method_31_code
def yX6_openLane : MethodName := ⟨RX6, "openLane", "(II)V"⟩
abbrev cX6_closeLane : ByteArray := prog_1_method_32_code
def yX6_closeLane : MethodName := ⟨RX6, "closeLane", "(II)V"⟩
abbrev cX6_reach : ByteArray := prog_1_method_33_code
def yX6_reach : MethodName := ⟨RX6, "reach", "(II)I"⟩
abbrev cX6_weigh : ByteArray := prog_1_method_34_code
def yX6_weigh : MethodName := ⟨RX6, "weigh", "(LWishRoutes$Wish;I)V"⟩
abbrev cX6_tellNeighbours : ByteArray := prog_1_method_35_code
def yX6_tellNeighbours : MethodName := ⟨RX6, "tellNeighbours", "(I)V"⟩
abbrev cX6_findMeant : ByteArray := prog_1_method_36_code
def yX6_findMeant : MethodName := ⟨RX6, "findMeant", "(II)V"⟩
abbrev cX6_findKnown : ByteArray := prog_1_method_37_code
def yX6_findKnown : MethodName := ⟨RX6, "findKnown", "(II)V"⟩
abbrev cX6_firstBusyPlace : ByteArray := prog_1_method_38_code
def yX6_firstBusyPlace : MethodName := ⟨RX6, "firstBusyPlace", "()I"⟩
abbrev cX6_deliverFirst : ByteArray := prog_1_method_39_code
def yX6_deliverFirst : MethodName := ⟨RX6, "deliverFirst", "(II)V"⟩
abbrev cX6_letHear : ByteArray := prog_1_method_40_code
def yX6_letHear : MethodName := ⟨RX6, "letHear", "(LWishRoutes$Notice;I)V"⟩
abbrev cX6_passOn : ByteArray := prog_1_method_41_code
def yX6_passOn : MethodName := ⟨RX6, "passOn", "(LWishRoutes$Notice;II)V"⟩
abbrev cX6_isInTable : ByteArray := prog_1_method_42_code
def yX6_isInTable : MethodName := ⟨RX6, "isInTable", "(LWishRoutes$Notice;LWishRoutes$Row;)Z"⟩
abbrev cX6_isWantedAt : ByteArray := prog_1_method_43_code
def yX6_isWantedAt : MethodName := ⟨RX6, "isWantedAt", "(LWishRoutes$Notice;I)Z"⟩
abbrev cX6_underWay : ByteArray := prog_1_method_44_code
def yX6_underWay : MethodName := ⟨RX6, "underWay", "()I"⟩
abbrev cX6_messagesInLanes : ByteArray := prog_1_method_45_code
def yX6_messagesInLanes : MethodName := ⟨RX6, "messagesInLanes", "()I"⟩
abbrev cX6_tellsInLanes : ByteArray := prog_1_method_46_code
def yX6_tellsInLanes : MethodName := ⟨RX6, "tellsInLanes", "()I"⟩
def RX7 : String := "WishRoutesModel"
def TX7 : u_T := fun k => match k with
  | 0 => ("WishRoutesModel", "desks", "I", false)
  | 1 => ("WishRoutesModel", "readers", "I", false)
  | 2 => ("WishRoutesModel", "wishes", "I", false)
  | 3 => ("WishRoutesModel", "notices", "I", false)
  | 4 => ("WishRoutesModel", "linked", "[Z", true)
  | 5 => ("WishRoutesModel", "deskOf", "[I", true)
  | 6 => ("WishRoutesModel", "readerOf", "[I", true)
  | 7 => ("WishRoutesModel", "alive", "[Z", true)
  | 8 => ("WishRoutesModel", "kind", "[I", true)
  | 9 => ("WishRoutesModel", "many", "[I", true)
  | 10 => ("WishRoutesModel", "number", "[I", true)
  | 11 => ("WishRoutesModel", "field", "[I", true)
  | 12 => ("WishRoutesModel", "sentAt", "[I", true)
  | 13 => ("WishRoutesModel", "wasAt", "[I", true)
  | 14 => ("WishRoutesModel", "hasHeard", "[Z", true)
  | 15 => ("WishRoutesModel", "heard", "[I", true)
  | 16 => ("WishRoutesModel", "heardMany", "[I", true)
  | 17 => ("WishRoutesModel", "table", "[J", true)
  | 18 => ("WishRoutesModel", "told", "[J", true)
  | 19 => ("WishRoutesModel", "messages", "I", false)
  | 20 => ("WishRoutesModel", "from", "[I", false)
  | 21 => ("WishRoutesModel", "to", "[I", false)
  | 22 => ("WishRoutesModel", "what", "[I", false)
  | 23 => ("WishRoutesModel", "row", "[J", false)
  | 24 => ("WishRoutesModel", "passed", "I", false)
  | 25 => ("WishRoutesModel", "needless", "I", false)
  | 26 => ("WishRoutesModel", "delivered", "I", false)
  | 27 => ("WishRoutesModel", "low", "[J", true)
  | 28 => ("WishRoutesModel", "high", "[J", true)
  | 29 => ("WishRoutesModel", "covering", "[Z", true)
  | 30 => ("WishRoutesModel", "some", "[J", true)
  | 31 => ("WishRoutesModel", "meant", "[J", true)
  | _ => ("WishRoutesModel", "reached", "[Z", true)
def tyX7 : Nat → FieldType := fun k => match k with
  | 0 => .int
  | 1 => .int
  | 2 => .int
  | 3 => .int
  | 4 => .array .boolean
  | 5 => .array .int
  | 6 => .array .int
  | 7 => .array .boolean
  | 8 => .array .int
  | 9 => .array .int
  | 10 => .array .int
  | 11 => .array .int
  | 12 => .array .int
  | 13 => .array .int
  | 14 => .array .boolean
  | 15 => .array .int
  | 16 => .array .int
  | 17 => .array .long
  | 18 => .array .long
  | 19 => .int
  | 20 => .array .int
  | 21 => .array .int
  | 22 => .array .int
  | 23 => .array .long
  | 24 => .int
  | 25 => .int
  | 26 => .int
  | 27 => .array .long
  | 28 => .array .long
  | 29 => .array .boolean
  | 30 => .array .long
  | 31 => .array .long
  | _ => .array .boolean
theorem nmX7 : ∀ a, a < 33 → ∀ b, b < 33 → a ≠ b → (TX7 a).2.1 ≠ (TX7 b).2.1 := by decide +kernel
theorem tyX7_ok : ∀ k, k < 33 → parseFieldDescriptor (TX7 k).2.2.1 = some (tyX7 k) := by decide +kernel
abbrev cX7_init : ByteArray := prog_9_method_1_code
def yX7_init : MethodName := ⟨RX7, "<init>", "()V"⟩
abbrev cX7_unread : ByteArray := prog_9_method_2_code
def yX7_unread : MethodName := ⟨RX7, "unread", "()V"⟩
abbrev cX7_isDesk : ByteArray := prog_9_method_3_code
def yX7_isDesk : MethodName := ⟨RX7, "isDesk", "(I)Z"⟩
abbrev cX7_isLinked : ByteArray := prog_9_method_4_code
def yX7_isLinked : MethodName := ⟨RX7, "isLinked", "(II)Z"⟩
abbrev cX7_isWish : ByteArray := prog_9_method_5_code
def yX7_isWish : MethodName := ⟨RX7, "isWish", "(I)Z"⟩
abbrev cX7_passes : ByteArray := prog_9_method_6_code
def yX7_passes : MethodName := ⟨RX7, "passes", "(II)Z"⟩
abbrev cX7_isFit : ByteArray := prog_9_method_7_code
def yX7_isFit : MethodName := ⟨RX7, "isFit", "(IIIII)Z"⟩
abbrev cX7_isFit_ : ByteArray := prog_9_method_8_code
def yX7_isFit_ : MethodName := ⟨RX7, "isFit", "(II)Z"⟩
abbrev cX7_spans : ByteArray := prog_9_method_9_code
def yX7_spans : MethodName := ⟨RX7, "spans", "(II)I"⟩
abbrev cX7_holds : ByteArray := prog_9_method_10_code
def yX7_holds : MethodName := ⟨RX7, "holds", "(II)Z"⟩
abbrev cX7_isCovered : ByteArray := prog_9_method_11_code
def yX7_isCovered : MethodName := ⟨RX7, "isCovered", "(II)Z"⟩
abbrev cX7_has : ByteArray := prog_9_method_12_code
def yX7_has : MethodName := ⟨RX7, "has", "([JII)Z"⟩
abbrev cX7_rowOf : ByteArray := prog_9_method_13_code
def yX7_rowOf : MethodName := ⟨RX7, "rowOf", "(II)I"⟩
abbrev cX7_means : ByteArray := prog_9_method_14_code
def yX7_means : MethodName := ⟨RX7, "means", "(II)V"⟩
abbrev cX7_lastOf : ByteArray := prog_9_method_15_code
def yX7_lastOf : MethodName := ⟨RX7, "lastOf", "(II)I"⟩
abbrev cX7_firstOf : ByteArray := prog_9_method_16_code
def yX7_firstOf : MethodName := ⟨RX7, "firstOf", "(II)I"⟩
abbrev cX7_put : ByteArray := prog_9_method_17_code
def yX7_put : MethodName := ⟨RX7, "put", "(III)I"⟩
abbrev cX7_drop : ByteArray := prog_9_method_18_code
def yX7_drop : MethodName := ⟨RX7, "drop", "(I)V"⟩
abbrev cX7_tells : ByteArray := prog_9_method_19_code
def yX7_tells : MethodName := ⟨RX7, "tells", "()V"⟩
abbrev cX7_desk : ByteArray := prog_9_method_20_code
def yX7_desk : MethodName := ⟨RX7, "desk", "()I"⟩
abbrev cX7_reach : ByteArray := prog_9_method_21_code
def yX7_reach : MethodName := ⟨RX7, "reach", "(II)V"⟩
abbrev cX7_links : ByteArray := prog_9_method_22_code
def yX7_links : MethodName := ⟨RX7, "links", "(IIZ)V"⟩
abbrev cX7_link : ByteArray := prog_9_method_23_code
def yX7_link : MethodName := ⟨RX7, "link", "(II)I"⟩
abbrev cX7_cut : ByteArray := prog_9_method_24_code
def yX7_cut : MethodName := ⟨RX7, "cut", "(II)I"⟩
abbrev cX7_reader : ByteArray := prog_9_method_25_code
def yX7_reader : MethodName := ⟨RX7, "reader", "(I)I"⟩
abbrev cX7_isReader : ByteArray := prog_9_method_26_code
def yX7_isReader : MethodName := ⟨RX7, "isReader", "(I)Z"⟩
abbrev cX7_move : ByteArray := prog_9_method_27_code
def yX7_move : MethodName := ⟨RX7, "move", "(II)I"⟩
abbrev cX7_isField : ByteArray := prog_9_method_28_code
def yX7_isField : MethodName := ⟨RX7, "isField", "(I)Z"⟩
abbrev cX7_test : ByteArray := prog_9_method_29_code
def yX7_test : MethodName := ⟨RX7, "test", "(IIII)Z"⟩
abbrev cX7_among : ByteArray := prog_9_method_30_code
def yX7_among : MethodName := ⟨RX7, "among", "(II)Z"⟩
abbrev cX7_wish : ByteArray := prog_9_method_31_code
def yX7_wish : MethodName := ⟨RX7, "wish", "(I)I"⟩
abbrev cX7_off : ByteArray := prog_9_method_32_code
def yX7_off : MethodName := ⟨RX7, "off", "(I)I"⟩
abbrev cX7_wants : ByteArray := prog_9_method_33_code
def yX7_wants : MethodName := ⟨RX7, "wants", "(II)Z"⟩
abbrev cX7_comes : ByteArray := prog_9_method_34_code
def yX7_comes : MethodName := ⟨RX7, "comes", "(III)V"⟩
abbrev cX7_isNeeded : ByteArray := prog_9_method_35_code
def yX7_isNeeded : MethodName := ⟨RX7, "isNeeded", "(III)Z"⟩
abbrev cX7_messagesOf : ByteArray := prog_9_method_36_code
def yX7_messagesOf : MethodName := ⟨RX7, "messagesOf", "(I)I"⟩
abbrev cX7_underWay : ByteArray := prog_9_method_37_code
def yX7_underWay : MethodName := ⟨RX7, "underWay", "()I"⟩
abbrev cX7_send : ByteArray := prog_9_method_38_code
def yX7_send : MethodName := ⟨RX7, "send", "(IIIII)I"⟩
abbrev cX7_delivers : ByteArray := prog_9_method_39_code
def yX7_delivers : MethodName := ⟨RX7, "delivers", "(I)V"⟩
abbrev cX7_deliver : ByteArray := prog_9_method_40_code
def yX7_deliver : MethodName := ⟨RX7, "deliver", "(III)I"⟩
abbrev cX7_all : ByteArray := prog_9_method_41_code
def yX7_all : MethodName := ⟨RX7, "all", "()I"⟩
abbrev cX7_covers : ByteArray := prog_9_method_42_code
def yX7_covers : MethodName := ⟨RX7, "covers", "(II)I"⟩
abbrev cX7_fits : ByteArray := prog_9_method_43_code
def yX7_fits : MethodName := ⟨RX7, "fits", "(IIIII)I"⟩
abbrev cX7_inRow : ByteArray := prog_9_method_44_code
def yX7_inRow : MethodName := ⟨RX7, "inRow", "([JIII)I"⟩
abbrev cX7_table : ByteArray := prog_9_method_45_code
def yX7_table : MethodName := ⟨RX7, "table", "(III)I"⟩
abbrev cX7_told : ByteArray := prog_9_method_46_code
def yX7_told : MethodName := ⟨RX7, "told", "(III)I"⟩
abbrev cX7_message : ByteArray := prog_9_method_47_code
def yX7_message : MethodName := ⟨RX7, "message", "(III)I"⟩
abbrev cX7_heard : ByteArray := prog_9_method_48_code
def yX7_heard : MethodName := ⟨RX7, "heard", "(II)I"⟩
abbrev cX7_notice : ByteArray := prog_9_method_49_code
def yX7_notice : MethodName := ⟨RX7, "notice", "(II)I"⟩
abbrev cX7_look : ByteArray := prog_9_method_50_code
def yX7_look : MethodName := ⟨RX7, "look", "(II)I"⟩
abbrev cX7_count : ByteArray := prog_9_method_51_code
def yX7_count : MethodName := ⟨RX7, "count", "(I)I"⟩
def RJx145de : String := "java/io/Serializable"
def TJx145de : u_T := fun k => match k with
  | _ => ("", "", "", false)
def tyJx145de : Nat → FieldType := fun k => match k with
  | _ => .int
theorem nmJx145de : ∀ a, a < 0 → ∀ b, b < 0 → a ≠ b → (TJx145de a).2.1 ≠ (TJx145de b).2.1 := by decide +kernel
theorem tyJx145de_ok : ∀ k, k < 0 → parseFieldDescriptor (TJx145de k).2.2.1 = some (tyJx145de k) := by decide +kernel
def RJx8e188 : String := "java/lang/Cloneable"
def TJx8e188 : u_T := fun k => match k with
  | _ => ("", "", "", false)
def tyJx8e188 : Nat → FieldType := fun k => match k with
  | _ => .int
theorem nmJx8e188 : ∀ a, a < 0 → ∀ b, b < 0 → a ≠ b → (TJx8e188 a).2.1 ≠ (TJx8e188 b).2.1 := by decide +kernel
theorem tyJx8e188_ok : ∀ k, k < 0 → parseFieldDescriptor (TJx8e188 k).2.2.1 = some (tyJx8e188 k) := by decide +kernel
def RJxab1ab : String := "java/lang/Iterable"
def TJxab1ab : u_T := fun k => match k with
  | _ => ("", "", "", false)
def tyJxab1ab : Nat → FieldType := fun k => match k with
  | _ => .int
theorem nmJxab1ab : ∀ a, a < 0 → ∀ b, b < 0 → a ≠ b → (TJxab1ab a).2.1 ≠ (TJxab1ab b).2.1 := by decide +kernel
theorem tyJxab1ab_ok : ∀ k, k < 0 → parseFieldDescriptor (TJxab1ab k).2.2.1 = some (tyJxab1ab k) := by decide +kernel
def RJ9 : String := "java/lang/Math"
def TJ9 : u_T := fun k => match k with
  | _ => ("", "", "", false)
def tyJ9 : Nat → FieldType := fun k => match k with
  | _ => .int
theorem nmJ9 : ∀ a, a < 0 → ∀ b, b < 0 → a ≠ b → (TJ9 a).2.1 ≠ (TJ9 b).2.1 := by decide +kernel
theorem tyJ9_ok : ∀ k, k < 0 → parseFieldDescriptor (TJ9 k).2.2.1 = some (tyJ9 k) := by decide +kernel
abbrev cJ9_max_7cf53 : ByteArray := prog_13_method_65_code
def yJ9_max_7cf53 : MethodName := ⟨RJ9, "max", "(II)I"⟩
abbrev cJ9_min_7cf53 : ByteArray := prog_13_method_69_code
def yJ9_min_7cf53 : MethodName := ⟨RJ9, "min", "(II)I"⟩
def RJ10 : String := "java/lang/System"
def TJ10 : u_T := fun k => match k with
  | _ => ("", "", "", false)
def tyJ10 : Nat → FieldType := fun k => match k with
  | _ => .int
theorem nmJ10 : ∀ a, a < 0 → ∀ b, b < 0 → a ≠ b → (TJ10 a).2.1 ≠ (TJ10 b).2.1 := by decide +kernel
theorem tyJ10_ok : ∀ k, k < 0 → parseFieldDescriptor (TJ10 k).2.2.1 = some (tyJ10 k) := by decide +kernel
def RJxa1e45 : String := "java/util/AbstractCollection"
def TJxa1e45 : u_T := fun k => match k with
  | _ => ("", "", "", false)
def tyJxa1e45 : Nat → FieldType := fun k => match k with
  | _ => .int
theorem nmJxa1e45 : ∀ a, a < 0 → ∀ b, b < 0 → a ≠ b → (TJxa1e45 a).2.1 ≠ (TJxa1e45 b).2.1 := by decide +kernel
theorem tyJxa1e45_ok : ∀ k, k < 0 → parseFieldDescriptor (TJxa1e45 k).2.2.1 = some (tyJxa1e45 k) := by decide +kernel
abbrev cJxa1e45_init_da8c8 : ByteArray := prog_15_method_1_code
def yJxa1e45_init_da8c8 : MethodName := ⟨RJxa1e45, "<init>", "()V"⟩
def RJxc12de : String := "java/util/AbstractList"
def TJxc12de : u_T := fun k => match k with
  | _ => ("", "", "", false)
def tyJxc12de : Nat → FieldType := fun k => match k with
  | _ => .int
theorem nmJxc12de : ∀ a, a < 0 → ∀ b, b < 0 → a ≠ b → (TJxc12de a).2.1 ≠ (TJxc12de b).2.1 := by decide +kernel
theorem tyJxc12de_ok : ∀ k, k < 0 → parseFieldDescriptor (TJxc12de k).2.2.1 = some (tyJxc12de k) := by decide +kernel
abbrev cJxc12de_init_da8c8 : ByteArray := prog_16_method_1_code
def yJxc12de_init_da8c8 : MethodName := ⟨RJxc12de, "<init>", "()V"⟩
def RJx4a65c : String := "java/util/ArrayList"
def TJx4a65c : u_T := fun k => match k with
  | 0 => ("java/util/AbstractList", "modCount", "I", false)
  | 1 => ("java/util/ArrayList", "elementData", "[Ljava/lang/Object;", false)
  | _ => ("java/util/ArrayList", "size", "I", false)
def tyJx4a65c : Nat → FieldType := fun k => match k with
  | 0 => .int
  | 1 => .array (.object "java/lang/Object")
  | _ => .int
theorem nmJx4a65c : ∀ a, a < 3 → ∀ b, b < 3 → a ≠ b → (TJx4a65c a).2.1 ≠ (TJx4a65c b).2.1 := by decide +kernel
theorem tyJx4a65c_ok : ∀ k, k < 3 → parseFieldDescriptor (TJx4a65c k).2.2.1 = some (tyJx4a65c k) := by decide +kernel
abbrev cJx4a65c_init_da8c8 : ByteArray := prog_17_method_2_code
def yJx4a65c_init_da8c8 : MethodName := ⟨RJx4a65c, "<init>", "()V"⟩
abbrev cJx4a65c_grow_92f84 : ByteArray := prog_17_method_6_code
def yJx4a65c_grow_92f84 : MethodName := ⟨RJx4a65c, "grow", "(I)[Ljava/lang/Object;"⟩
abbrev cJx4a65c_grow_d5877 : ByteArray := prog_17_method_7_code
def yJx4a65c_grow_d5877 : MethodName := ⟨RJx4a65c, "grow", "()[Ljava/lang/Object;"⟩
abbrev cJx4a65c_size_8abf5 : ByteArray := prog_17_method_8_code
def yJx4a65c_size_8abf5 : MethodName := ⟨RJx4a65c, "size", "()I"⟩
abbrev cJx4a65c_elementData_915e3 : ByteArray := prog_17_method_18_code
def yJx4a65c_elementData_915e3 : MethodName := ⟨RJx4a65c, "elementData", "(I)Ljava/lang/Object;"⟩
abbrev cJx4a65c_get_915e3 : ByteArray := prog_17_method_20_code
def yJx4a65c_get_915e3 : MethodName := ⟨RJx4a65c, "get", "(I)Ljava/lang/Object;"⟩
abbrev cJx4a65c_add_72be8 : ByteArray := prog_17_method_24_code
def yJx4a65c_add_72be8 : MethodName := ⟨RJx4a65c, "add", "(Ljava/lang/Object;[Ljava/lang/Object;I)V"⟩
abbrev cJx4a65c_add_9ea2d : ByteArray := prog_17_method_25_code
def yJx4a65c_add_9ea2d : MethodName := ⟨RJx4a65c, "add", "(Ljava/lang/Object;)Z"⟩
abbrev cJx4a65c_remove_915e3 : ByteArray := prog_17_method_29_code
def yJx4a65c_remove_915e3 : MethodName := ⟨RJx4a65c, "remove", "(I)Ljava/lang/Object;"⟩
abbrev cJx4a65c_fastRemove_b59b0 : ByteArray := prog_17_method_39_code
def yJx4a65c_fastRemove_b59b0 : MethodName := ⟨RJx4a65c, "fastRemove", "([Ljava/lang/Object;I)V"⟩
def RJ7 : String := "java/util/Arrays"
def TJ7 : u_T := fun k => match k with
  | _ => ("", "", "", false)
def tyJ7 : Nat → FieldType := fun k => match k with
  | _ => .int
theorem nmJ7 : ∀ a, a < 0 → ∀ b, b < 0 → a ≠ b → (TJ7 a).2.1 ≠ (TJ7 b).2.1 := by decide +kernel
theorem tyJ7_ok : ∀ k, k < 0 → parseFieldDescriptor (TJ7 k).2.2.1 = some (tyJ7 k) := by decide +kernel
abbrev cJ7_copyOf_1904c : ByteArray := prog_18_method_119_code
def yJ7_copyOf_1904c : MethodName := ⟨RJ7, "copyOf", "([Ljava/lang/Object;I)[Ljava/lang/Object;"⟩
abbrev cJ7_copyOf_6403c : ByteArray := prog_18_method_120_code
def yJ7_copyOf_6403c : MethodName := ⟨RJ7, "copyOf", "([Ljava/lang/Object;ILjava/lang/Class;)[Ljava/lang/Object;"⟩
def RJx5ef63 : String := "java/util/Collection"
def TJx5ef63 : u_T := fun k => match k with
  | _ => ("", "", "", false)
def tyJx5ef63 : Nat → FieldType := fun k => match k with
  | _ => .int
theorem nmJx5ef63 : ∀ a, a < 0 → ∀ b, b < 0 → a ≠ b → (TJx5ef63 a).2.1 ≠ (TJx5ef63 b).2.1 := by decide +kernel
theorem tyJx5ef63_ok : ∀ k, k < 0 → parseFieldDescriptor (TJx5ef63 k).2.2.1 = some (tyJx5ef63 k) := by decide +kernel
def RJxbd725 : String := "java/util/List"
def TJxbd725 : u_T := fun k => match k with
  | _ => ("", "", "", false)
def tyJxbd725 : Nat → FieldType := fun k => match k with
  | _ => .int
theorem nmJxbd725 : ∀ a, a < 0 → ∀ b, b < 0 → a ≠ b → (TJxbd725 a).2.1 ≠ (TJxbd725 b).2.1 := by decide +kernel
theorem tyJxbd725_ok : ∀ k, k < 0 → parseFieldDescriptor (TJxbd725 k).2.2.1 = some (tyJxbd725 k) := by decide +kernel
def RJ15 : String := "java/util/Objects"
def TJ15 : u_T := fun k => match k with
  | _ => ("", "", "", false)
def tyJ15 : Nat → FieldType := fun k => match k with
  | _ => .int
theorem nmJ15 : ∀ a, a < 0 → ∀ b, b < 0 → a ≠ b → (TJ15 a).2.1 ≠ (TJ15 b).2.1 := by decide +kernel
theorem tyJ15_ok : ∀ k, k < 0 → parseFieldDescriptor (TJ15 k).2.2.1 = some (tyJ15 k) := by decide +kernel
abbrev cJ15_checkIndex_7cf53 : ByteArray := prog_21_method_17_code
def yJ15_checkIndex_7cf53 : MethodName := ⟨RJ15, "checkIndex", "(II)I"⟩
def RJxf0a74 : String := "java/util/RandomAccess"
def TJxf0a74 : u_T := fun k => match k with
  | _ => ("", "", "", false)
def tyJxf0a74 : Nat → FieldType := fun k => match k with
  | _ => .int
theorem nmJxf0a74 : ∀ a, a < 0 → ∀ b, b < 0 → a ≠ b → (TJxf0a74 a).2.1 ≠ (TJxf0a74 b).2.1 := by decide +kernel
theorem tyJxf0a74_ok : ∀ k, k < 0 → parseFieldDescriptor (TJxf0a74 k).2.2.1 = some (tyJxf0a74 k) := by decide +kernel
def RJxa66e6 : String := "java/util/SequencedCollection"
def TJxa66e6 : u_T := fun k => match k with
  | _ => ("", "", "", false)
def tyJxa66e6 : Nat → FieldType := fun k => match k with
  | _ => .int
theorem nmJxa66e6 : ∀ a, a < 0 → ∀ b, b < 0 → a ≠ b → (TJxa66e6 a).2.1 ≠ (TJxa66e6 b).2.1 := by decide +kernel
theorem tyJxa66e6_ok : ∀ k, k < 0 → parseFieldDescriptor (TJxa66e6 k).2.2.1 = some (tyJxa66e6 k) := by decide +kernel
def RJ8 : String := "jdk/internal/util/ArraysSupport"
def TJ8 : u_T := fun k => match k with
  | _ => ("", "", "", false)
def tyJ8 : Nat → FieldType := fun k => match k with
  | _ => .int
theorem nmJ8 : ∀ a, a < 0 → ∀ b, b < 0 → a ≠ b → (TJ8 a).2.1 ≠ (TJ8 b).2.1 := by decide +kernel
theorem tyJ8_ok : ∀ k, k < 0 → parseFieldDescriptor (TJ8 k).2.2.1 = some (tyJ8 k) := by decide +kernel
abbrev cJ8_newLength_cabcc : ByteArray := prog_24_method_27_code
def yJ8_newLength_cabcc : MethodName := ⟨RJ8, "newLength", "(III)I"⟩
abbrev cJ8_hugeLength_7cf53 : ByteArray := prog_24_method_28_code
def yJ8_hugeLength_7cf53 : MethodName := ⟨RJ8, "hugeLength", "(II)I"⟩
def RJ3 : String := "jdk/internal/util/Preconditions"
def TJ3 : u_T := fun k => match k with
  | _ => ("", "", "", false)
def tyJ3 : Nat → FieldType := fun k => match k with
  | _ => .int
theorem nmJ3 : ∀ a, a < 0 → ∀ b, b < 0 → a ≠ b → (TJ3 a).2.1 ≠ (TJ3 b).2.1 := by decide +kernel
theorem tyJ3_ok : ∀ k, k < 0 → parseFieldDescriptor (TJ3 k).2.2.1 = some (tyJ3 k) := by decide +kernel
abbrev cJ3_checkIndex_8e157 : ByteArray := prog_25_method_11_code
def yJ3_checkIndex_8e157 : MethodName := ⟨RJ3, "checkIndex", "(IILjava/util/function/BiFunction;)I"⟩
def RL : String := "WishRoutesLaw"
abbrev cL_law : ByteArray := code
def yL_law : MethodName := ⟨RL, "law", "([I)Z"⟩
abbrev vwCl : List vw_C := [(RJx4a65c, TJx4a65c, 3), (RX0, TX0, 3), (RX1, TX1, 6), (RX2, TX2, 6), (RX3, TX3, 3), (RX4, TX4, 1), (RX5, TX5, 5), (RX6, TX6, 14), (RX7, TX7, 33)]
end
section
/-! Named worlds: abstract values, cells and heaps; what a method's frame stands for -/
abbrev zNm : Type := Nat × Nat × Nat
abbrev zAV : Type := Value ⊕ zNm
abbrev zAA : Type := (Nat → Int32) ⊕ (Nat → Int64) ⊕ (Nat → Option zNm)
abbrev zAE : Type := (FieldType × Nat × zAA) ⊕ (Nat × List zAV)
abbrev zMp : Type := zNm → Option zAE
/-- names of cells that nobody writes have a first number of 90 or more -/
def zmo (n : zNm) : Prop := n.1 < 90
def zcv (ad : zNm → Nat) : zAV → Value
  | .inl v => v
  | .inr n => .ref (ad n)
def zca (ad : zNm → Nat) : zAA → ((Nat → Int32) ⊕ (Nat → Int64) ⊕ (Nat → UInt32) ⊕ (Nat → UInt64) ⊕ (Nat → Option Nat))
  | .inl f => .inl f
  | .inr (.inl f) => .inr (.inl f)
  | .inr (.inr f) => .inr (.inr (.inr (.inr (fun k => (f k).map ad))))
def zat (D : va_G) (s : State) (ad : zNm → Nat) (n : zNm) (e : zAE) (H : Heap) : Prop := match e with
  | .inl (ty, len, x) => ∃ cA : ClassId, ArrOfT s cA ty ∧ va_RA s cA ty ∧ H[ad n]? = some (vp_cell cA (len, zca ad x))
  | .inr (ci, fs) => ∃ r : vw_C, vwCl[ci]? = some r ∧ t_OB (ad n) (D.1 ci) r.2.2 (D.2 ci) H (vp_V (fs.map (zcv ad)))
/-- the names that a cell holds -/
def zrf (e : zAE) (n : zNm) : Prop := match e with
  | .inl (_, _, .inr (.inr f)) => ∃ k, f k = some n
  | .inl _ => False
  | .inr (_, fs) => .inr n ∈ fs
def zcl (M : zMp) : Prop := ∀ n e, M n = some e → ∀ n', zrf e n' → M n' ≠ none
def zalv (M : zMp) : zAV → Prop
  | .inl _ => True
  | .inr n => M n ≠ none
def zWd (D : va_G) (s : State) (A : Nat → Prop) (ad : zNm → Nat) (M : zMp) (H : Heap) : Prop :=
  (∀ n e, M n = some e → zat D s ad n e H) ∧ (∀ n n', M n ≠ none → M n' ≠ none → ad n = ad n' → n = n') ∧ (∀ n, M n ≠ none → zmo n → A (ad n)) ∧ zcl M
def zEx (ad0 : zNm → Nat) (M0 : zMp) (ad : zNm → Nat) (M : zMp) : Prop := (∀ n, M0 n ≠ none → M n ≠ none ∧ ad n = ad0 n) ∧ ∀ n, ¬ zmo n → M n ≠ none → M0 n ≠ none
def zup (M : zMp) (a : zNm) (e : zAE) : zMp := fun n => if n = a then some e else M n
def zua (ad : zNm → Nat) (a : zNm) (q : Nat) : zNm → Nat := fun n => if n = a then q else ad n
theorem zcv_cat (ad : zNm → Nat) (v : zAV) : (zcv ad v).category = match v with | .inl w => w.category | .inr _ => 1 := by cases v <;> rfl
/-- values, contents and cells don't change when a name is bound that they don't hold -/
theorem zcv_ext {ad ad' : zNm → Nat} {v : zAV} (h : ∀ n, v = .inr n → ad' n = ad n) : zcv ad' v = zcv ad v := by
  cases v with
  | inl w => rfl
  | inr n => simp only [zcv]; rw [h n rfl]
theorem zat_ext {D : va_G} {s : State} {ad ad' : zNm → Nat} {n : zNm} {e : zAE} {H : Heap} (hn : ad' n = ad n) (h : ∀ n', zrf e n' → ad' n' = ad n') (ha : zat D s ad n e H) : zat D s ad' n e H := by
  match e, h, ha with
  | .inl (ty, len, .inl f), h, ⟨cA, h1, h2, h3⟩ => exact ⟨cA, h1, h2, by rw [hn]; exact h3⟩
  | .inl (ty, len, .inr (.inl f)), h, ⟨cA, h1, h2, h3⟩ => exact ⟨cA, h1, h2, by rw [hn]; exact h3⟩
  | .inl (ty, len, .inr (.inr f)), h, ⟨cA, h1, h2, h3⟩ =>
    refine ⟨cA, h1, h2, ?_⟩
    rw [hn]
    have hf : (fun k => (f k).map ad') = (fun k => (f k).map ad) := by
      funext k
      cases hk : f k with
      | none => rfl
      | some y => exact congrArg some (h y ⟨k, hk⟩)
    simp only [zca] at h3 ⊢
    rw [hf]
    exact h3
  | .inr (ci, fs), h, ⟨r, h1, h2⟩ =>
    refine ⟨r, h1, ?_⟩
    rw [hn]
    have hf : fs.map (zcv ad') = fs.map (zcv ad) := by
      refine List.map_congr_left fun v hv => zcv_ext fun n' e' => h n' ?_
      rw [e'] at hv
      exact hv
    rw [hf]
    exact h2
theorem zat_kept {D : va_G} {s : State} {ad : zNm → Nat} {n : zNm} {e : zAE} {H H1 : Heap} (ha : zat D s ad n e H) (hq : H1[ad n]? = H[ad n]?) : zat D s ad n e H1 := by
  match e, ha with
  | .inl (ty, len, x), ⟨cA, h1, h2, h3⟩ => exact ⟨cA, h1, h2, hq.trans h3⟩
  | .inr (ci, fs), ⟨r, h1, h2⟩ => exact ⟨r, h1, h2.kept hq⟩
theorem zat_lt {D : va_G} {s : State} {ad : zNm → Nat} {n : zNm} {e : zAE} {H : Heap} (ha : zat D s ad n e H) : ad n < H.size := by
  match e, ha with
  | .inl (ty, len, x), ⟨cA, h1, h2, h3⟩ => exact (Array.getElem?_eq_some_iff.mp h3).1
  | .inr (ci, fs), ⟨r, h1, ⟨c0, h2, _⟩⟩ => exact (Array.getElem?_eq_some_iff.mp h2).1
theorem zat_moved {D : va_G} {s U : State} {ad : zNm → Nat} {n : zNm} {e : zAE} {H : Heap} (hvm : s.vm.Alike U.vm) (ha : zat D s ad n e H) : zat D U ad n e H := by
  match e, ha with
  | .inl (ty, len, x), ⟨cA, h1, h2, h3⟩ => exact ⟨cA, arrOfT_moved hvm h1, h2.moved hvm, h3⟩
  | .inr (ci, fs), ha => exact ha
theorem zWd_moved {D : va_G} {s U : State} {A : Nat → Prop} {ad : zNm → Nat} {M : zMp} {H : Heap} (hvm : s.vm.Alike U.vm) (h : zWd D s A ad M H) : zWd D U A ad M H := ⟨fun n e hn => zat_moved hvm (h.1 n e hn), h.2⟩
theorem zWd_weak {D : va_G} {s : State} {A B : Nat → Prop} {ad : zNm → Nat} {M : zMp} {H : Heap} (hAB : ∀ n, M n ≠ none → zmo n → B (ad n)) (h : zWd D s A ad M H) : zWd D s B ad M H := ⟨h.1, h.2.1, hAB, h.2.2.2⟩
theorem zWd_lt {D : va_G} {s : State} {A : Nat → Prop} {ad : zNm → Nat} {M : zMp} {H : Heap} (h : zWd D s A ad M H) {n : zNm} (hn : M n ≠ none) : ad n < H.size := by
  cases he : M n with
  | none => exact absurd he hn
  | some e => exact zat_lt (h.1 n e he)
theorem zup_ne {M : zMp} {a n : zNm} {e : zAE} (hn : M n ≠ none) : zup M a e n ≠ none := by
  unfold zup
  split
  · simp
  · exact hn
theorem zup_in {M : zMp} {a n : zNm} {e e0 : zAE} (ha : M a = some e0) (hn : zup M a e n ≠ none) : M n ≠ none := by
  unfold zup at hn
  split at hn
  · next h => rw [h, ha]; simp
  · exact hn
theorem zalv_up {M : zMp} {a : zNm} {e : zAE} {v : zAV} (h : zalv M v) : zalv (zup M a e) v := by
  cases v with
  | inl w => trivial
  | inr n => exact zup_ne h
/-- one cell written -/
theorem zWd_put {D : va_G} {s : State} {A : Nat → Prop} {ad : zNm → Nat} {M : zMp} {H H1 : Heap} {a : zNm} {e0 e : zAE} (h : zWd D s A ad M H) (ha : M a = some e0) (he : zat D s ad a e H1) (hr : ∀ n', zrf e n' → M n' ≠ none) (oq : ∀ q : Nat, q ≠ ad a → H1[q]? = H[q]?) : zWd D s A ad (zup M a e) H1 := by
  obtain ⟨h1, h2, h3, h4⟩ := h
  have hin : ∀ n, zup M a e n ≠ none → M n ≠ none := fun n hn => zup_in ha hn
  refine ⟨fun n x hx => ?_, fun n n' hn hn' => h2 n n' (hin n hn) (hin n' hn'), fun n hn => h3 n (hin n hn), fun n x hx n' hn' => ?_⟩
  · unfold zup at hx
    split at hx
    · next hna => cases hx; rw [hna]; exact he
    · next hna => exact zat_kept (h1 n x hx) (oq _ (fun z => hna (h2 n a (by rw [hx]; simp) (by rw [ha]; simp) z)))
  · unfold zup at hx
    split at hx
    · cases hx; exact zup_ne (hr n' hn')
    · exact zup_ne (h4 n x hx n' hn')
/-- one cell made, under a name that was free -/
theorem zWd_new {D : va_G} {s : State} {A : Nat → Prop} {ad : zNm → Nat} {M : zMp} {H H1 : Heap} {a : zNm} {e : zAE} (h : zWd D s A ad M H) (ha : M a = none) (hA : A H.size) (he : zat D s (zua ad a H.size) a e H1) (hr : ∀ n', ¬ zrf e n') (oq : ∀ q : Nat, q < H.size → H1[q]? = H[q]?) : zWd D s A (zua ad a H.size) (zup M a e) H1 := by
  have hlt := fun n (hn : M n ≠ none) => zWd_lt h hn
  obtain ⟨h1, h2, h3, h4⟩ := h
  have hno : ∀ n, M n ≠ none → n ≠ a := fun n hn z => hn (by rw [z]; exact ha)
  have had : ∀ n, M n ≠ none → zua ad a H.size n = ad n := fun n hn => if_neg (hno n hn)
  have hself : zua ad a H.size a = H.size := if_pos rfl
  have hin : ∀ n, zup M a e n ≠ none → n = a ∨ M n ≠ none := by
    intro n hn
    unfold zup at hn
    split at hn
    · next hna => exact Or.inl hna
    · exact Or.inr hn
  refine ⟨fun n x hx => ?_, fun n n' hn hn' hq => ?_, fun n hn hm => ?_, fun n x hx n' hn' => ?_⟩
  · unfold zup at hx
    split at hx
    · next hna => cases hx; rw [hna]; exact he
    · next hna =>
      have hnn : M n ≠ none := by rw [hx]; simp
      refine zat_kept (zat_ext (had n hnn) (fun n' hn' => had n' (h4 n x hx n' hn')) (h1 n x hx)) ?_
      rw [had n hnn]
      exact oq _ (hlt n hnn)
  · rcases hin n hn with e1 | k1
    · rcases hin n' hn' with e2 | k2
      · rw [e1, e2]
      · rw [e1, hself, had n' k2] at hq
        exact absurd (hlt n' k2) (by omega)
    · rcases hin n' hn' with e2 | k2
      · rw [e2, hself, had n k1] at hq
        exact absurd (hlt n k1) (by omega)
      · rw [had n k1, had n' k2] at hq
        exact h2 n n' k1 k2 hq
  · rcases hin n hn with e1 | k1
    · rw [e1, hself]; exact hA
    · rw [had n k1]; exact h3 n k1 hm
  · unfold zup at hx
    split at hx
    · cases hx; exact absurd hn' (hr n')
    · exact zup_ne (h4 n x hx n' hn')
/-! words -/
def tb : List Cond := lw_tbl.filter goodWord
theorem tb_of {w : Cond} (h : w ∈ lw_tbl) (g : goodWord w = true) : w ∈ tb := List.mem_filter.mpr ⟨h, g⟩
theorem tb_good {w1 w2 : Cond} (h : w2 ∈ tb) : GoodIn (w1 :: tb) (w2 :: tb) := by
  intro w hw
  have hin : w ∈ tb := (List.mem_cons.mp hw).elim (fun e => e ▸ h) id
  exact ⟨List.mem_cons_of_mem _ hin, good_of_word (List.mem_filter.mp hin).2⟩
def zxw : Cond → Bool
  | .castable .. => true
  | .methodLinkNest .. => true
  | .declares .. => true
  | .arrayOver (.object _) => true
  | _ => false
def xw : List Cond := tables_1.filter zxw
def zKS (D : va_G) (U : State) : Prop := va_K D vwCl [] U ∧ (∀ w ∈ xw, w.before #[] U = true) ∧ ∃ mi : Nat, va_Mi "[Ljava/lang/Object;" mi U
theorem zKS_warm {D : va_G} {s U : State} (hW : s.WarmedH U.vm) (h : zKS D s) : zKS D U := by
  refine ⟨va_K.moved hW.alike h.1, fun w hw => ?_, h.2.2.imp fun _ hm => hm.moved hW.alike⟩
  have h1 := h.2.1 w hw
  have h2 := (List.mem_filter.mp hw).2
  match w, h1, h2 with
  | .castable C T, h1, _ => exact va_Nw.warmC hW h1
  | .methodLinkNest a i x hst, h1, _ => exact va_Nw.warmM hW h1
  | .declares x, h1, _ => exact va_Nw.warmD hW h1
  | .arrayOver (.object C), h1, _ => exact va_AO.moved (C := C) hW.alike h1
/-- the static that new lists hold: bound to the name (90, 0, 0) where that name is in the world -/
def znE : zNm := (90, 0, 0)
def zSF (ad : zNm → Nat) (M : zMp) (A : Nat → Prop) (U : State) (H : Heap) : Prop := M znE ≠ none → va_Z "java/util/ArrayList" "DEFAULTCAPACITY_EMPTY_ELEMENTDATA" "[Ljava/lang/Object;" (.ref (ad znE)) A U H
/-! a method's end, a method's contract -/
def zAQ (D : va_G) (A : Nat → Prop) (ad0 : zNm → Nat) (M0 : zMp) (Rt : Option zAV → zMp → Prop) : Array Value → State → Outcome → State → Prop := fun _ st oc t =>
  (∃ (v : Option zAV) (M : zMp) (ad : zNm → Nat), oc = .returned (v.map (zcv ad)) ∧ Rt v M ∧ zEx ad0 M0 ad M ∧ zWd D t A ad M t.heap ∧ ∀ x, v = some x → zalv M x) ∧ va_F A st t
def zA0 (ad : zNm → Nat) (M : zMp) (sz : Nat) : Nat → Prop := fun q => (∃ n, M n ≠ none ∧ zmo n ∧ ad n = q) ∨ sz ≤ q
def zPc (D : va_G) (ad : zNm → Nat) (M : zMp) (sz : Nat) (As : List zAV) : Array Value → State → Prop :=
  va_Pc (As.map (zcv ad)) (fun U => U.heap.size = sz ∧ zWd D U (fun _ => True) ad M U.heap ∧ zKS D U ∧ zSF ad M (zA0 ad M sz) U U.heap)
def zMet (l : Launch) (y : MethodName) (bytes : ByteArray) (maxL : Nat) (ret : Option FieldType) (fr lo : Nat) (As : List zAV) (M : zMp) (mc ms : Nat) (Rt : Option zAV → zMp → Prop) : Prop :=
  ∀ (D : va_G) (ad : zNm → Nat) (sz : Nat), (∀ a ∈ As, zalv M a) → Met l y (Cond.code y bytes maxL ret :: tb) { frames := fr, cells := mc, slots := ms, locals := lo } (zPc D ad M sz As) (zAQ D (zA0 ad M sz) ad M Rt) mc ms (zA0 ad M sz)
/-- a method's contract: T tells what must hold of arguments and world, and of what comes back; co what it may make -/
def zCT (l : Launch) (y : MethodName) (bytes : ByteArray) (maxL : Nat) (ret : Option FieldType) (fr lo : Nat) (T : List zAV → zMp → (Option zAV → zMp → Prop) → Prop) (co : List zAV → zMp → Nat × Nat) : Prop :=
  ∀ (As : List zAV) (M : zMp) (Rt : Option zAV → zMp → Prop), T As M Rt → zMet l y bytes maxL ret fr lo As M (co As M).1 (co As M).2 Rt
/-! the judgement: locals by places, stack, world, cells and slots made so far -/
abbrev zKT : Type := List (Option zAV) → List zAV → zMp → Nat → Nat → Prop
abbrev zMa : Type := Program × Launch × Env × Room × State × MethodId × Array Value × List Frame × Method × Code × (State → Prop) × Nat × va_G × (Nat → Prop) × (zNm → Nat) × zMp
def zlg : List (Option zAV) → Nat → Option zAV
  | [], _ => none
  | x :: _, 0 => x
  | _ :: t, k + 1 => zlg t k
def zls : List (Option zAV) → Nat → Option zAV → List (Option zAV)
  | [], _, _ => []
  | _ :: t, 0, v => v :: t
  | x :: t, k + 1, v => x :: zls t k v
def zlH (ad : zNm → Nat) (nL : Nat) (ls : Array Slot) (L : List (Option zAV)) : Prop := ls.size = nL ∧ lv_wf ls ∧ ∀ k v, zlg L k = some v → ls[k]? = some (.val (zcv ad v))
def zHd (s : State) (nL : Nat) (D : va_G) (A : Nat → Prop) (ad0 : zNm → Nat) (M0 : zMp) (ad : zNm → Nat) (H : Heap) (locs : List Loc) (ls : Array Slot) (L : List (Option zAV)) (st : List zAV) (M : zMp) : Prop :=
  zWd D s A ad M H ∧ va_S A s.heap H locs ∧ zlH ad nL ls L ∧ zEx ad0 M0 ad M ∧ (∀ k v, zlg L k = some v → zalv M v) ∧ ∀ v ∈ st, zalv M v
def zG (X : zMa) (pc : Nat) : zKT := fun L st M k n => match X with
  | (p, l, e, R, s, m, args, below, meth, c, Q, nL, D, A, ad0, M0) => ∀ (ad : zNm → Nat) (H : Heap) (locs : List Loc) (ls : Array Slot), zHd s nL D A ad0 M0 ad H locs ls L st M → W p l e R s m args below meth c H locs k n Q (F0 m pc ls (st.map (zcv ad)))
/-- what holds in a method's body: own class, code, room, end -/
def zCx (X : zMa) (own : String) (cc : ByteArray) (fr lo mc ms : Nat) (ret : Option FieldType) (ini : Bool) (Rt : Option zAV → zMp → Prop) : Prop := match X with
  | (p, l, e, R, s, m, args, below, meth, c, Q, nL, D, A, ad0, M0) => p.tables.exec = Jvm.exec ∧ c.code = cc ∧ c.maxLocals = nL ∧ s.vm.findClass own = some m.cls ∧ (∀ w ∈ tb, w.before args s = true) ∧ zKS D s ∧ zSF ad0 M0 A s s.heap ∧ (∀ q, s.heap.size ≤ q → A q) ∧ R = { frames := fr, cells := mc, slots := ms, locals := lo } ∧ Q = MQ below (zAQ D A ad0 M0 Rt) args s mc ms A ∧ meth.sig.returnType = ret ∧ meth.locks = false ∧ (ini = true → meth.name = "<init>")
def zLe (K1 K2 : zKT) : Prop := ∀ L st M k n, K1 L st M k n → K2 L st M k n
theorem zLe_rfl {K : zKT} : zLe K K := fun _ _ _ _ _ h => h
/-- where the locals stand at the entry -/
def zcat : zAV → Nat
  | .inl w => w.category
  | .inr _ => 1
def zen : List zAV → List (Option zAV)
  | [] => []
  | a :: as => if zcat a = 2 then some a :: none :: zen as else some a :: zen as
theorem zmo_A {ad : zNm → Nat} {M : zMp} {sz : Nat} {n : zNm} (h : M n ≠ none) (hm : zmo n) : zA0 ad M sz (ad n) := Or.inl ⟨n, h, hm, rfl⟩
end
section
/-! stacks of live values -/
def zsv (M : zMp) (st : List zAV) : Prop := ∀ v ∈ st, zalv M v
theorem zsv_c {M : zMp} {a : zAV} {l : List zAV} (h : zalv M a) (h2 : zsv M l) : zsv M (a :: l) := fun v hv => (List.mem_cons.mp hv).elim (fun e => e ▸ h) (h2 v)
theorem zsv_t {M : zMp} {a : zAV} {l : List zAV} (h : zsv M (a :: l)) : zsv M l := fun v hv => h v (List.mem_cons_of_mem _ hv)
theorem zsv_h {M : zMp} {a : zAV} {l : List zAV} (h : zsv M (a :: l)) : zalv M a := h a List.mem_cons_self
theorem zHd_st {s : State} {nL : Nat} {D : va_G} {A : Nat → Prop} {ad0 : zNm → Nat} {M0 : zMp} {ad : zNm → Nat} {H : Heap} {locs : List Loc} {ls : Array Slot} {L : List (Option zAV)} {st st' : List zAV} {M : zMp} (h : zHd s nL D A ad0 M0 ad H locs ls L st M) (hs : zsv M st → zsv M st') : zHd s nL D A ad0 M0 ad H locs ls L st' M := ⟨h.1, h.2.1, h.2.2.1, h.2.2.2.1, h.2.2.2.2.1, hs h.2.2.2.2.2⟩
def zI (x : Int32) : zAV := .inl (.int x)
/-! locals -/
theorem zls_i : ∀ (L : List (Option zAV)) (k : Nat) (a : Option zAV) (v : zAV), zlg (zls L k a) k = some v → a = some v
  | [], _, _, _, h => by simp [zls, zlg] at h
  | _ :: _, 0, _, _, h => h
  | _ :: t, k + 1, a, v, h => zls_i t k a v h
theorem zls_o : ∀ (L : List (Option zAV)) (k j : Nat) (a : Option zAV) (v : zAV), j ≠ k → zlg (zls L k a) j = some v → zlg L j = some v
  | [], _, _, _, _, _, h => h
  | _ :: _, 0, 0, _, _, hn, _ => absurd rfl hn
  | _ :: _, 0, _ + 1, _, _, _, h => h
  | _ :: _, _ + 1, 0, _, _, _, h => h
  | _ :: t, k + 1, j + 1, a, v, hn, h => zls_o t k j a v (fun e => hn (by rw [e])) h
theorem zlg_lt : ∀ (L : List (Option zAV)) (k : Nat) (v : zAV), zlg L k = some v → k < L.length
  | [], _, _, h => by simp [zlg] at h
  | _ :: _, 0, _, _ => Nat.succ_pos _
  | _ :: t, k + 1, v, h => Nat.succ_lt_succ (zlg_lt t k v h)
def zlv (ad : zNm → Nat) (L : List (Option zAV)) : List (Nat × Value) := (List.range L.length).filterMap (fun k => (zlg L k).map (fun v => (k, zcv ad v)))
theorem zlv_m {ad : zNm → Nat} {L : List (Option zAV)} {q : Nat × Value} : q ∈ zlv ad L ↔ ∃ v, zlg L q.1 = some v ∧ q.2 = zcv ad v := by
  unfold zlv
  constructor
  · intro h
    obtain ⟨k, -, hk⟩ := List.mem_filterMap.mp h
    cases hv : zlg L k with
    | none => rw [hv] at hk; simp at hk
    | some v => rw [hv] at hk; simp at hk; rw [← hk]; exact ⟨v, hv, rfl⟩
  · rintro ⟨v, h1, h2⟩
    refine List.mem_filterMap.mpr ⟨q.1, List.mem_range.mpr (zlg_lt L _ v h1), ?_⟩
    rw [h1]
    simp [← h2]
theorem zlH_has {ad : zNm → Nat} {nL : Nat} {ls : Array Slot} {L : List (Option zAV)} (h : zlH ad nL ls L) : lv_has ls nL (zlv ad L) := by
  refine ⟨h.1, h.2.1, fun q hq => ?_⟩
  obtain ⟨v, h1, h2⟩ := zlv_m.mp hq
  rw [h2]
  exact h.2.2 _ v h1
/-- the place ahead of i doesn't hold a value of two slots -/
def znl (L : List (Option zAV)) : Nat → Prop
  | 0 => True
  | k + 1 => match zlg L k with
    | some (.inl (.long _)) => False
    | some (.inl (.double _)) => False
    | _ => True
theorem znl_cat {ad : zNm → Nat} {L : List (Option zAV)} {i k : Nat} {v : zAV} (h : znl L i) (hk : k + 1 = i) (hv : zlg L k = some v) : ¬ (zcv ad v).category = 2 := by
  subst hk
  simp only [znl, hv] at h
  match v, h with
  | .inl (.int _), _ => simp [zcv, Value.category]
  | .inl (.long _), h => exact h.elim
  | .inl (.float _), _ => simp [zcv, Value.category]
  | .inl (.double _), h => exact h.elim
  | .inl (.ref _), _ => simp [zcv, Value.category]
  | .inl .null, _ => simp [zcv, Value.category]
  | .inl (.retAddr _), _ => simp [zcv, Value.category]
  | .inr _, _ => simp [zcv, Value.category]
theorem zlH_st1 {ad : zNm → Nat} {nL i : Nat} {ls' : Array Slot} {L : List (Option zAV)} {a : zAV} (hn : znl L i) (h : lv_has ls' nL ((i, zcv ad a) :: (zlv ad L).filter (fun q => !(q.1 == i) && !(q.1 + 1 == i && q.2.category == 2)))) : zlH ad nL ls' (zls L i (some a)) := by
  refine ⟨h.1, h.2.1, fun k v hk => ?_⟩
  by_cases hki : k = i
  · subst hki
    have := zls_i L k (some a) v hk
    cases this
    exact h.2.2 (k, zcv ad a) List.mem_cons_self
  · have h1 := zls_o L i k (some a) v hki hk
    refine h.2.2 (k, zcv ad v) (List.mem_cons_of_mem _ (List.mem_filter.mpr ⟨zlv_m.mpr ⟨v, h1, rfl⟩, ?_⟩))
    have h2 : k + 1 = i → ¬ (zcv ad v).category = 2 := fun e => znl_cat hn e h1
    by_cases h3 : k + 1 = i
    · simp [hki, h3, h2 h3]
    · simp [hki, h3]
theorem zlH_st2 {ad : zNm → Nat} {nL i : Nat} {ls' : Array Slot} {L : List (Option zAV)} {a : zAV} (hn : znl L i) (h : lv_has ls' nL ((i, zcv ad a) :: (zlv ad L).filter (fun q => !(q.1 == i) && (!(q.1 == i + 1) && !(q.1 + 1 == i && q.2.category == 2))))) : zlH ad nL ls' (zls (zls L (i + 1) none) i (some a)) := by
  refine ⟨h.1, h.2.1, fun k v hk => ?_⟩
  by_cases hki : k = i
  · subst hki
    have := zls_i (zls L (k + 1) none) k (some a) v hk
    cases this
    exact h.2.2 (k, zcv ad a) List.mem_cons_self
  · have h0 := zls_o _ i k (some a) v hki hk
    have hk2 : k ≠ i + 1 := by
      intro e
      subst e
      have := zls_i L (i + 1) none v h0
      cases this
    have h1 := zls_o L (i + 1) k none v hk2 h0
    refine h.2.2 (k, zcv ad v) (List.mem_cons_of_mem _ (List.mem_filter.mpr ⟨zlv_m.mpr ⟨v, h1, rfl⟩, ?_⟩))
    have h2 : k + 1 = i → ¬ (zcv ad v).category = 2 := fun e => znl_cat hn e h1
    by_cases h3 : k + 1 = i
    · simp [hki, hk2, h3, h2 h3]
    · simp [hki, hk2, h3]
theorem zll_set {M : zMp} {L : List (Option zAV)} {i : Nat} {a : zAV} (h : ∀ k v, zlg L k = some v → zalv M v) (ha : zalv M a) : ∀ k v, zlg (zls L i (some a)) k = some v → zalv M v := by
  intro k v hk
  by_cases hki : k = i
  · subst hki
    have := zls_i L k (some a) v hk
    cases this
    exact ha
  · exact h k v (zls_o L i k (some a) v hki hk)
theorem zll_set2 {M : zMp} {L : List (Option zAV)} {i : Nat} {a : zAV} (h : ∀ k v, zlg L k = some v → zalv M v) (ha : zalv M a) : ∀ k v, zlg (zls (zls L (i + 1) none) i (some a)) k = some v → zalv M v := by
  refine zll_set (fun k v hk => ?_) ha
  by_cases hki : k = i + 1
  · subst hki
    have := zls_i L (i + 1) none v hk
    cases this
  · exact h k v (zls_o L (i + 1) k none v hki hk)

def i_iadd (K : zKT) : zKT := fun L st M k n => match st with
  | .inl (.int y) :: .inl (.int x) :: st => K L (.inl (.int (x + y)) :: st) M k n
  | _ => False

theorem sd_iadd {X : zMa} {own : String} {cc : ByteArray} {fr lo mc ms : Nat} {ret : Option FieldType} {ini : Bool} {Rt : Option zAV → zMp → Prop} (hC : zCx X own cc fr lo mc ms ret ini Rt) {pc : Nat} (hd : decode cc pc = .ok (.iadd, 1)) {K : zKT} (hK : zLe K (zG X (pc + 1))) : zLe (i_iadd K) (zG X pc) := by
  obtain ⟨p, l, e, R, s, m, args, below, meth, c, Q, nL, D, A, ad0, M0⟩ := X
  obtain ⟨hx, hb, hml, hown, hts, hKS, hSF, hA, hR, hQ, hret, hlk, hini⟩ := hC
  intro L st M k n h
  unfold i_iadd at h
  split at h
  · intro ad H locs ls hH
    exact lv_iadd hx hb hd (hK L _ M k n h ad H locs ls (zHd_st hH (fun h => zsv_c trivial (zsv_t (zsv_t h)))))
  · exact h.elim

def i_isub (K : zKT) : zKT := fun L st M k n => match st with
  | .inl (.int y) :: .inl (.int x) :: st => K L (.inl (.int (x - y)) :: st) M k n
  | _ => False

theorem sd_isub {X : zMa} {own : String} {cc : ByteArray} {fr lo mc ms : Nat} {ret : Option FieldType} {ini : Bool} {Rt : Option zAV → zMp → Prop} (hC : zCx X own cc fr lo mc ms ret ini Rt) {pc : Nat} (hd : decode cc pc = .ok (.isub, 1)) {K : zKT} (hK : zLe K (zG X (pc + 1))) : zLe (i_isub K) (zG X pc) := by
  obtain ⟨p, l, e, R, s, m, args, below, meth, c, Q, nL, D, A, ad0, M0⟩ := X
  obtain ⟨hx, hb, hml, hown, hts, hKS, hSF, hA, hR, hQ, hret, hlk, hini⟩ := hC
  intro L st M k n h
  unfold i_isub at h
  split at h
  · intro ad H locs ls hH
    exact lv_isub hx hb hd (hK L _ M k n h ad H locs ls (zHd_st hH (fun h => zsv_c trivial (zsv_t (zsv_t h)))))
  · exact h.elim

def i_imul (K : zKT) : zKT := fun L st M k n => match st with
  | .inl (.int y) :: .inl (.int x) :: st => K L (.inl (.int (x * y)) :: st) M k n
  | _ => False

theorem sd_imul {X : zMa} {own : String} {cc : ByteArray} {fr lo mc ms : Nat} {ret : Option FieldType} {ini : Bool} {Rt : Option zAV → zMp → Prop} (hC : zCx X own cc fr lo mc ms ret ini Rt) {pc : Nat} (hd : decode cc pc = .ok (.imul, 1)) {K : zKT} (hK : zLe K (zG X (pc + 1))) : zLe (i_imul K) (zG X pc) := by
  obtain ⟨p, l, e, R, s, m, args, below, meth, c, Q, nL, D, A, ad0, M0⟩ := X
  obtain ⟨hx, hb, hml, hown, hts, hKS, hSF, hA, hR, hQ, hret, hlk, hini⟩ := hC
  intro L st M k n h
  unfold i_imul at h
  split at h
  · intro ad H locs ls hH
    exact lv_imul hx hb hd (hK L _ M k n h ad H locs ls (zHd_st hH (fun h => zsv_c trivial (zsv_t (zsv_t h)))))
  · exact h.elim

def i_iand (K : zKT) : zKT := fun L st M k n => match st with
  | .inl (.int y) :: .inl (.int x) :: st => K L (.inl (.int (x &&& y)) :: st) M k n
  | _ => False

theorem sd_iand {X : zMa} {own : String} {cc : ByteArray} {fr lo mc ms : Nat} {ret : Option FieldType} {ini : Bool} {Rt : Option zAV → zMp → Prop} (hC : zCx X own cc fr lo mc ms ret ini Rt) {pc : Nat} (hd : decode cc pc = .ok (.iand, 1)) {K : zKT} (hK : zLe K (zG X (pc + 1))) : zLe (i_iand K) (zG X pc) := by
  obtain ⟨p, l, e, R, s, m, args, below, meth, c, Q, nL, D, A, ad0, M0⟩ := X
  obtain ⟨hx, hb, hml, hown, hts, hKS, hSF, hA, hR, hQ, hret, hlk, hini⟩ := hC
  intro L st M k n h
  unfold i_iand at h
  split at h
  · intro ad H locs ls hH
    exact lv_iand hx hb hd (hK L _ M k n h ad H locs ls (zHd_st hH (fun h => zsv_c trivial (zsv_t (zsv_t h)))))
  · exact h.elim

def i_ior (K : zKT) : zKT := fun L st M k n => match st with
  | .inl (.int y) :: .inl (.int x) :: st => K L (.inl (.int (x ||| y)) :: st) M k n
  | _ => False

theorem sd_ior {X : zMa} {own : String} {cc : ByteArray} {fr lo mc ms : Nat} {ret : Option FieldType} {ini : Bool} {Rt : Option zAV → zMp → Prop} (hC : zCx X own cc fr lo mc ms ret ini Rt) {pc : Nat} (hd : decode cc pc = .ok (.ior, 1)) {K : zKT} (hK : zLe K (zG X (pc + 1))) : zLe (i_ior K) (zG X pc) := by
  obtain ⟨p, l, e, R, s, m, args, below, meth, c, Q, nL, D, A, ad0, M0⟩ := X
  obtain ⟨hx, hb, hml, hown, hts, hKS, hSF, hA, hR, hQ, hret, hlk, hini⟩ := hC
  intro L st M k n h
  unfold i_ior at h
  split at h
  · intro ad H locs ls hH
    exact lv_ior hx hb hd (hK L _ M k n h ad H locs ls (zHd_st hH (fun h => zsv_c trivial (zsv_t (zsv_t h)))))
  · exact h.elim

def i_ixor (K : zKT) : zKT := fun L st M k n => match st with
  | .inl (.int y) :: .inl (.int x) :: st => K L (.inl (.int (x ^^^ y)) :: st) M k n
  | _ => False

theorem sd_ixor {X : zMa} {own : String} {cc : ByteArray} {fr lo mc ms : Nat} {ret : Option FieldType} {ini : Bool} {Rt : Option zAV → zMp → Prop} (hC : zCx X own cc fr lo mc ms ret ini Rt) {pc : Nat} (hd : decode cc pc = .ok (.ixor, 1)) {K : zKT} (hK : zLe K (zG X (pc + 1))) : zLe (i_ixor K) (zG X pc) := by
  obtain ⟨p, l, e, R, s, m, args, below, meth, c, Q, nL, D, A, ad0, M0⟩ := X
  obtain ⟨hx, hb, hml, hown, hts, hKS, hSF, hA, hR, hQ, hret, hlk, hini⟩ := hC
  intro L st M k n h
  unfold i_ixor at h
  split at h
  · intro ad H locs ls hH
    exact lv_ixor hx hb hd (hK L _ M k n h ad H locs ls (zHd_st hH (fun h => zsv_c trivial (zsv_t (zsv_t h)))))
  · exact h.elim

def i_idiv (K : zKT) : zKT := fun L st M k n => match st with
  | .inl (.int y) :: .inl (.int x) :: st => ¬ y = 0 ∧ K L (.inl (.int (x / y)) :: st) M k n
  | _ => False

theorem sd_idiv {X : zMa} {own : String} {cc : ByteArray} {fr lo mc ms : Nat} {ret : Option FieldType} {ini : Bool} {Rt : Option zAV → zMp → Prop} (hC : zCx X own cc fr lo mc ms ret ini Rt) {pc : Nat} (hd : decode cc pc = .ok (.idiv, 1)) {K : zKT} (hK : zLe K (zG X (pc + 1))) : zLe (i_idiv K) (zG X pc) := by
  obtain ⟨p, l, e, R, s, m, args, below, meth, c, Q, nL, D, A, ad0, M0⟩ := X
  obtain ⟨hx, hb, hml, hown, hts, hKS, hSF, hA, hR, hQ, hret, hlk, hini⟩ := hC
  intro L st M k n h
  unfold i_idiv at h
  split at h
  · intro ad H locs ls hH
    obtain ⟨hc0, h⟩ := h
    exact lv_idiv hx hb hd hc0 (hK L _ M k n h ad H locs ls (zHd_st hH (fun h => zsv_c trivial (zsv_t (zsv_t h)))))
  · exact h.elim

def i_irem (K : zKT) : zKT := fun L st M k n => match st with
  | .inl (.int y) :: .inl (.int x) :: st => ¬ y = 0 ∧ K L (.inl (.int (x - x / y * y)) :: st) M k n
  | _ => False

theorem sd_irem {X : zMa} {own : String} {cc : ByteArray} {fr lo mc ms : Nat} {ret : Option FieldType} {ini : Bool} {Rt : Option zAV → zMp → Prop} (hC : zCx X own cc fr lo mc ms ret ini Rt) {pc : Nat} (hd : decode cc pc = .ok (.irem, 1)) {K : zKT} (hK : zLe K (zG X (pc + 1))) : zLe (i_irem K) (zG X pc) := by
  obtain ⟨p, l, e, R, s, m, args, below, meth, c, Q, nL, D, A, ad0, M0⟩ := X
  obtain ⟨hx, hb, hml, hown, hts, hKS, hSF, hA, hR, hQ, hret, hlk, hini⟩ := hC
  intro L st M k n h
  unfold i_irem at h
  split at h
  · intro ad H locs ls hH
    obtain ⟨hc0, h⟩ := h
    exact lv_irem hx hb hd hc0 (hK L _ M k n h ad H locs ls (zHd_st hH (fun h => zsv_c trivial (zsv_t (zsv_t h)))))
  · exact h.elim

def i_ishl (K : zKT) : zKT := fun L st M k n => match st with
  | .inl (.int y) :: .inl (.int x) :: st => K L (.inl (.int (x <<< (y &&& 31))) :: st) M k n
  | _ => False

theorem sd_ishl {X : zMa} {own : String} {cc : ByteArray} {fr lo mc ms : Nat} {ret : Option FieldType} {ini : Bool} {Rt : Option zAV → zMp → Prop} (hC : zCx X own cc fr lo mc ms ret ini Rt) {pc : Nat} (hd : decode cc pc = .ok (.ishl, 1)) {K : zKT} (hK : zLe K (zG X (pc + 1))) : zLe (i_ishl K) (zG X pc) := by
  obtain ⟨p, l, e, R, s, m, args, below, meth, c, Q, nL, D, A, ad0, M0⟩ := X
  obtain ⟨hx, hb, hml, hown, hts, hKS, hSF, hA, hR, hQ, hret, hlk, hini⟩ := hC
  intro L st M k n h
  unfold i_ishl at h
  split at h
  · intro ad H locs ls hH
    exact lv_ishl hx hb hd (hK L _ M k n h ad H locs ls (zHd_st hH (fun h => zsv_c trivial (zsv_t (zsv_t h)))))
  · exact h.elim

def i_ishr (K : zKT) : zKT := fun L st M k n => match st with
  | .inl (.int y) :: .inl (.int x) :: st => K L (.inl (.int (x >>> (y &&& 31))) :: st) M k n
  | _ => False

theorem sd_ishr {X : zMa} {own : String} {cc : ByteArray} {fr lo mc ms : Nat} {ret : Option FieldType} {ini : Bool} {Rt : Option zAV → zMp → Prop} (hC : zCx X own cc fr lo mc ms ret ini Rt) {pc : Nat} (hd : decode cc pc = .ok (.ishr, 1)) {K : zKT} (hK : zLe K (zG X (pc + 1))) : zLe (i_ishr K) (zG X pc) := by
  obtain ⟨p, l, e, R, s, m, args, below, meth, c, Q, nL, D, A, ad0, M0⟩ := X
  obtain ⟨hx, hb, hml, hown, hts, hKS, hSF, hA, hR, hQ, hret, hlk, hini⟩ := hC
  intro L st M k n h
  unfold i_ishr at h
  split at h
  · intro ad H locs ls hH
    exact lv_ishr hx hb hd (hK L _ M k n h ad H locs ls (zHd_st hH (fun h => zsv_c trivial (zsv_t (zsv_t h)))))
  · exact h.elim

def i_ladd (K : zKT) : zKT := fun L st M k n => match st with
  | .inl (.long y) :: .inl (.long x) :: st => K L (.inl (.long (x + y)) :: st) M k n
  | _ => False

theorem sd_ladd {X : zMa} {own : String} {cc : ByteArray} {fr lo mc ms : Nat} {ret : Option FieldType} {ini : Bool} {Rt : Option zAV → zMp → Prop} (hC : zCx X own cc fr lo mc ms ret ini Rt) {pc : Nat} (hd : decode cc pc = .ok (.ladd, 1)) {K : zKT} (hK : zLe K (zG X (pc + 1))) : zLe (i_ladd K) (zG X pc) := by
  obtain ⟨p, l, e, R, s, m, args, below, meth, c, Q, nL, D, A, ad0, M0⟩ := X
  obtain ⟨hx, hb, hml, hown, hts, hKS, hSF, hA, hR, hQ, hret, hlk, hini⟩ := hC
  intro L st M k n h
  unfold i_ladd at h
  split at h
  · intro ad H locs ls hH
    exact lv_ladd hx hb hd (hK L _ M k n h ad H locs ls (zHd_st hH (fun h => zsv_c trivial (zsv_t (zsv_t h)))))
  · exact h.elim

def i_lsub (K : zKT) : zKT := fun L st M k n => match st with
  | .inl (.long y) :: .inl (.long x) :: st => K L (.inl (.long (x - y)) :: st) M k n
  | _ => False

theorem sd_lsub {X : zMa} {own : String} {cc : ByteArray} {fr lo mc ms : Nat} {ret : Option FieldType} {ini : Bool} {Rt : Option zAV → zMp → Prop} (hC : zCx X own cc fr lo mc ms ret ini Rt) {pc : Nat} (hd : decode cc pc = .ok (.lsub, 1)) {K : zKT} (hK : zLe K (zG X (pc + 1))) : zLe (i_lsub K) (zG X pc) := by
  obtain ⟨p, l, e, R, s, m, args, below, meth, c, Q, nL, D, A, ad0, M0⟩ := X
  obtain ⟨hx, hb, hml, hown, hts, hKS, hSF, hA, hR, hQ, hret, hlk, hini⟩ := hC
  intro L st M k n h
  unfold i_lsub at h
  split at h
  · intro ad H locs ls hH
    exact lv_lsub hx hb hd (hK L _ M k n h ad H locs ls (zHd_st hH (fun h => zsv_c trivial (zsv_t (zsv_t h)))))
  · exact h.elim

def i_land (K : zKT) : zKT := fun L st M k n => match st with
  | .inl (.long y) :: .inl (.long x) :: st => K L (.inl (.long (x &&& y)) :: st) M k n
  | _ => False

theorem sd_land {X : zMa} {own : String} {cc : ByteArray} {fr lo mc ms : Nat} {ret : Option FieldType} {ini : Bool} {Rt : Option zAV → zMp → Prop} (hC : zCx X own cc fr lo mc ms ret ini Rt) {pc : Nat} (hd : decode cc pc = .ok (.land, 1)) {K : zKT} (hK : zLe K (zG X (pc + 1))) : zLe (i_land K) (zG X pc) := by
  obtain ⟨p, l, e, R, s, m, args, below, meth, c, Q, nL, D, A, ad0, M0⟩ := X
  obtain ⟨hx, hb, hml, hown, hts, hKS, hSF, hA, hR, hQ, hret, hlk, hini⟩ := hC
  intro L st M k n h
  unfold i_land at h
  split at h
  · intro ad H locs ls hH
    exact lv_land hx hb hd (hK L _ M k n h ad H locs ls (zHd_st hH (fun h => zsv_c trivial (zsv_t (zsv_t h)))))
  · exact h.elim

def i_lor (K : zKT) : zKT := fun L st M k n => match st with
  | .inl (.long y) :: .inl (.long x) :: st => K L (.inl (.long (x ||| y)) :: st) M k n
  | _ => False

theorem sd_lor {X : zMa} {own : String} {cc : ByteArray} {fr lo mc ms : Nat} {ret : Option FieldType} {ini : Bool} {Rt : Option zAV → zMp → Prop} (hC : zCx X own cc fr lo mc ms ret ini Rt) {pc : Nat} (hd : decode cc pc = .ok (.lor, 1)) {K : zKT} (hK : zLe K (zG X (pc + 1))) : zLe (i_lor K) (zG X pc) := by
  obtain ⟨p, l, e, R, s, m, args, below, meth, c, Q, nL, D, A, ad0, M0⟩ := X
  obtain ⟨hx, hb, hml, hown, hts, hKS, hSF, hA, hR, hQ, hret, hlk, hini⟩ := hC
  intro L st M k n h
  unfold i_lor at h
  split at h
  · intro ad H locs ls hH
    exact lv_lor hx hb hd (hK L _ M k n h ad H locs ls (zHd_st hH (fun h => zsv_c trivial (zsv_t (zsv_t h)))))
  · exact h.elim

def i_i2l (K : zKT) : zKT := fun L st M k n => match st with
  | .inl (.int x) :: st => K L (.inl (.long x.toInt64) :: st) M k n
  | _ => False

theorem sd_i2l {X : zMa} {own : String} {cc : ByteArray} {fr lo mc ms : Nat} {ret : Option FieldType} {ini : Bool} {Rt : Option zAV → zMp → Prop} (hC : zCx X own cc fr lo mc ms ret ini Rt) {pc : Nat} (hd : decode cc pc = .ok (.i2l, 1)) {K : zKT} (hK : zLe K (zG X (pc + 1))) : zLe (i_i2l K) (zG X pc) := by
  obtain ⟨p, l, e, R, s, m, args, below, meth, c, Q, nL, D, A, ad0, M0⟩ := X
  obtain ⟨hx, hb, hml, hown, hts, hKS, hSF, hA, hR, hQ, hret, hlk, hini⟩ := hC
  intro L st M k n h
  unfold i_i2l at h
  split at h
  · intro ad H locs ls hH
    exact lv_i2l hx hb hd rfl (hK L _ M k n h ad H locs ls (zHd_st hH (fun h => zsv_c trivial (zsv_t h))))
  · exact h.elim

def i_lushr (K : zKT) : zKT := fun L st M k n => match st with
  | .inl (.int y) :: .inl (.long x) :: st => K L (.inl (.long (x.toUInt64 >>> (y.toInt64.toUInt64 &&& Int64.toUInt64 63)).toInt64) :: st) M k n
  | _ => False

theorem sd_lushr {X : zMa} {own : String} {cc : ByteArray} {fr lo mc ms : Nat} {ret : Option FieldType} {ini : Bool} {Rt : Option zAV → zMp → Prop} (hC : zCx X own cc fr lo mc ms ret ini Rt) {pc : Nat} (hd : decode cc pc = .ok (.lushr, 1)) {K : zKT} (hK : zLe K (zG X (pc + 1))) : zLe (i_lushr K) (zG X pc) := by
  obtain ⟨p, l, e, R, s, m, args, below, meth, c, Q, nL, D, A, ad0, M0⟩ := X
  obtain ⟨hx, hb, hml, hown, hts, hKS, hSF, hA, hR, hQ, hret, hlk, hini⟩ := hC
  intro L st M k n h
  unfold i_lushr at h
  split at h
  · intro ad H locs ls hH
    exact lv_lushr hx hb hd rfl (hK L _ M k n h ad H locs ls (zHd_st hH (fun h => zsv_c trivial (zsv_t (zsv_t h)))))
  · exact h.elim

def i_lshl (K : zKT) : zKT := fun L st M k n => match st with
  | .inl (.int y) :: .inl (.long x) :: st => K L (.inl (.long (x <<< (y.toInt64 &&& 63))) :: st) M k n
  | _ => False

theorem sd_lshl {X : zMa} {own : String} {cc : ByteArray} {fr lo mc ms : Nat} {ret : Option FieldType} {ini : Bool} {Rt : Option zAV → zMp → Prop} (hC : zCx X own cc fr lo mc ms ret ini Rt) {pc : Nat} (hd : decode cc pc = .ok (.lshl, 1)) {K : zKT} (hK : zLe K (zG X (pc + 1))) : zLe (i_lshl K) (zG X pc) := by
  obtain ⟨p, l, e, R, s, m, args, below, meth, c, Q, nL, D, A, ad0, M0⟩ := X
  obtain ⟨hx, hb, hml, hown, hts, hKS, hSF, hA, hR, hQ, hret, hlk, hini⟩ := hC
  intro L st M k n h
  unfold i_lshl at h
  split at h
  · intro ad H locs ls hH
    exact lv_lshl hx hb hd rfl (hK L _ M k n h ad H locs ls (zHd_st hH (fun h => zsv_c trivial (zsv_t (zsv_t h)))))
  · exact h.elim

def i_lshr (K : zKT) : zKT := fun L st M k n => match st with
  | .inl (.int y) :: .inl (.long x) :: st => K L (.inl (.long (x >>> (y.toInt64 &&& 63))) :: st) M k n
  | _ => False

theorem sd_lshr {X : zMa} {own : String} {cc : ByteArray} {fr lo mc ms : Nat} {ret : Option FieldType} {ini : Bool} {Rt : Option zAV → zMp → Prop} (hC : zCx X own cc fr lo mc ms ret ini Rt) {pc : Nat} (hd : decode cc pc = .ok (.lshr, 1)) {K : zKT} (hK : zLe K (zG X (pc + 1))) : zLe (i_lshr K) (zG X pc) := by
  obtain ⟨p, l, e, R, s, m, args, below, meth, c, Q, nL, D, A, ad0, M0⟩ := X
  obtain ⟨hx, hb, hml, hown, hts, hKS, hSF, hA, hR, hQ, hret, hlk, hini⟩ := hC
  intro L st M k n h
  unfold i_lshr at h
  split at h
  · intro ad H locs ls hH
    exact lv_lshr hx hb hd rfl (hK L _ M k n h ad H locs ls (zHd_st hH (fun h => zsv_c trivial (zsv_t (zsv_t h)))))
  · exact h.elim

def i_lcmp (K : zKT) : zKT := fun L st M k n => match st with
  | .inl (.long y) :: .inl (.long x) :: st => K L (.inl (.int (lg_cmp x y)) :: st) M k n
  | _ => False

theorem sd_lcmp {X : zMa} {own : String} {cc : ByteArray} {fr lo mc ms : Nat} {ret : Option FieldType} {ini : Bool} {Rt : Option zAV → zMp → Prop} (hC : zCx X own cc fr lo mc ms ret ini Rt) {pc : Nat} (hd : decode cc pc = .ok (.lcmp, 1)) {K : zKT} (hK : zLe K (zG X (pc + 1))) : zLe (i_lcmp K) (zG X pc) := by
  obtain ⟨p, l, e, R, s, m, args, below, meth, c, Q, nL, D, A, ad0, M0⟩ := X
  obtain ⟨hx, hb, hml, hown, hts, hKS, hSF, hA, hR, hQ, hret, hlk, hini⟩ := hC
  intro L st M k n h
  unfold i_lcmp at h
  split at h
  · intro ad H locs ls hH
    exact W.lcmp hx hb hd (hK L _ M k n h ad H locs ls (zHd_st hH (fun h => zsv_c trivial (zsv_t (zsv_t h)))))
  · exact h.elim

def i_ic (x : Int32) (K : zKT) : zKT := fun L st M k n => K L (.inl (.int x) :: st) M k n
def i_lc (x : Int64) (K : zKT) : zKT := fun L st M k n => K L (.inl (.long x) :: st) M k n
def i_nul (K : zKT) : zKT := fun L st M k n => K L (.inl .null :: st) M k n

theorem sd_iconst {X : zMa} {own : String} {cc : ByteArray} {fr lo mc ms : Nat} {ret : Option FieldType} {ini : Bool} {Rt : Option zAV → zMp → Prop} (hC : zCx X own cc fr lo mc ms ret ini Rt) {pc : Nat} {z : Int} {x : Int32} (hz : Int32.ofInt z = x) (hd : decode cc pc = .ok (.iconst z, 1)) {K : zKT} (hK : zLe K (zG X (pc + 1))) : zLe (i_ic x K) (zG X pc) := by
  obtain ⟨p, l, e, R, s, m, args, below, meth, c, Q, nL, D, A, ad0, M0⟩ := X
  obtain ⟨hx, hb, hml, hown, hts, hKS, hSF, hA, hR, hQ, hret, hlk, hini⟩ := hC
  intro L st M k n h ad H locs ls hH
  exact lv_iconst hx hb hd hz (hK L _ M k n h ad H locs ls (zHd_st hH (fun h => zsv_c trivial h)))

theorem sd_bipush {X : zMa} {own : String} {cc : ByteArray} {fr lo mc ms : Nat} {ret : Option FieldType} {ini : Bool} {Rt : Option zAV → zMp → Prop} (hC : zCx X own cc fr lo mc ms ret ini Rt) {pc : Nat} {z : Int} {x : Int32} (hz : (Int8.ofInt z).toInt32 = x) (hd : decode cc pc = .ok (.bipush z, 2)) {K : zKT} (hK : zLe K (zG X (pc + 2))) : zLe (i_ic x K) (zG X pc) := by
  obtain ⟨p, l, e, R, s, m, args, below, meth, c, Q, nL, D, A, ad0, M0⟩ := X
  obtain ⟨hx, hb, hml, hown, hts, hKS, hSF, hA, hR, hQ, hret, hlk, hini⟩ := hC
  intro L st M k n h ad H locs ls hH
  exact lv_bipush hx hb hd hz (hK L _ M k n h ad H locs ls (zHd_st hH (fun h => zsv_c trivial h)))

theorem sd_sipush {X : zMa} {own : String} {cc : ByteArray} {fr lo mc ms : Nat} {ret : Option FieldType} {ini : Bool} {Rt : Option zAV → zMp → Prop} (hC : zCx X own cc fr lo mc ms ret ini Rt) {pc : Nat} {z : Int} {x : Int32} (hz : (Int16.ofInt z).toInt32 = x) (hd : decode cc pc = .ok (.sipush z, 3)) {K : zKT} (hK : zLe K (zG X (pc + 3))) : zLe (i_ic x K) (zG X pc) := by
  obtain ⟨p, l, e, R, s, m, args, below, meth, c, Q, nL, D, A, ad0, M0⟩ := X
  obtain ⟨hx, hb, hml, hown, hts, hKS, hSF, hA, hR, hQ, hret, hlk, hini⟩ := hC
  intro L st M k n h ad H locs ls hH
  exact lv_sipush hx hb hd hz (hK L _ M k n h ad H locs ls (zHd_st hH (fun h => zsv_c trivial h)))

theorem sd_ldc {X : zMa} {own : String} {cc : ByteArray} {fr lo mc ms : Nat} {ret : Option FieldType} {ini : Bool} {Rt : Option zAV → zMp → Prop} (hC : zCx X own cc fr lo mc ms ret ini Rt) {pc : Nat} {ix : Nat} {x : Int32} (hz : Cond.constant own ix x ∈ tb) (hd : decode cc pc = .ok (.ldc ix, 2)) {K : zKT} (hK : zLe K (zG X (pc + 2))) : zLe (i_ic x K) (zG X pc) := by
  obtain ⟨p, l, e, R, s, m, args, below, meth, c, Q, nL, D, A, ad0, M0⟩ := X
  obtain ⟨hx, hb, hml, hown, hts, hKS, hSF, hA, hR, hQ, hret, hlk, hini⟩ := hC
  intro L st M k n h ad H locs ls hH
  exact lv_ldc hx hb hown (hts _ hz) hd (hK L _ M k n h ad H locs ls (zHd_st hH (fun h => zsv_c trivial h)))

theorem sd_lconst {X : zMa} {own : String} {cc : ByteArray} {fr lo mc ms : Nat} {ret : Option FieldType} {ini : Bool} {Rt : Option zAV → zMp → Prop} (hC : zCx X own cc fr lo mc ms ret ini Rt) {pc : Nat} {z : Fin 2} {x : Int64} (hz : Int64.ofNat (z : Nat) = x) (hd : decode cc pc = .ok (.lconst z, 1)) {K : zKT} (hK : zLe K (zG X (pc + 1))) : zLe (i_lc x K) (zG X pc) := by
  obtain ⟨p, l, e, R, s, m, args, below, meth, c, Q, nL, D, A, ad0, M0⟩ := X
  obtain ⟨hx, hb, hml, hown, hts, hKS, hSF, hA, hR, hQ, hret, hlk, hini⟩ := hC
  intro L st M k n h ad H locs ls hH
  exact lv_lconst hx hb hd hz (hK L _ M k n h ad H locs ls (zHd_st hH (fun h => zsv_c trivial h)))

theorem sd_ldc2 {X : zMa} {own : String} {cc : ByteArray} {fr lo mc ms : Nat} {ret : Option FieldType} {ini : Bool} {Rt : Option zAV → zMp → Prop} (hC : zCx X own cc fr lo mc ms ret ini Rt) {pc : Nat} {ix : Nat} {x : Int64} (hz : Cond.constantLong own ix x ∈ tb) (hd : decode cc pc = .ok (.ldc2_w ix, 3)) {K : zKT} (hK : zLe K (zG X (pc + 3))) : zLe (i_lc x K) (zG X pc) := by
  obtain ⟨p, l, e, R, s, m, args, below, meth, c, Q, nL, D, A, ad0, M0⟩ := X
  obtain ⟨hx, hb, hml, hown, hts, hKS, hSF, hA, hR, hQ, hret, hlk, hini⟩ := hC
  intro L st M k n h ad H locs ls hH
  exact lv_ldc2 hx hb hown (hts _ hz) hd (hK L _ M k n h ad H locs ls (zHd_st hH (fun h => zsv_c trivial h)))

theorem sd_nul {X : zMa} {own : String} {cc : ByteArray} {fr lo mc ms : Nat} {ret : Option FieldType} {ini : Bool} {Rt : Option zAV → zMp → Prop} (hC : zCx X own cc fr lo mc ms ret ini Rt) {pc : Nat}  (hd : decode cc pc = .ok (.aconst_null, 1)) {K : zKT} (hK : zLe K (zG X (pc + 1))) : zLe (i_nul K) (zG X pc) := by
  obtain ⟨p, l, e, R, s, m, args, below, meth, c, Q, nL, D, A, ad0, M0⟩ := X
  obtain ⟨hx, hb, hml, hown, hts, hKS, hSF, hA, hR, hQ, hret, hlk, hini⟩ := hC
  intro L st M k n h ad H locs ls hH
  exact lv_null hx hb hd (hK L _ M k n h ad H locs ls (zHd_st hH (fun h => zsv_c trivial h)))

def i_il (i : Nat) (K : zKT) : zKT := fun L st M k n => match zlg L i with
  | some (.inl (.int x)) => K L (.inl (.int x) :: st) M k n
  | _ => False

theorem sd_il_n {X : zMa} {own : String} {cc : ByteArray} {fr lo mc ms : Nat} {ret : Option FieldType} {ini : Bool} {Rt : Option zAV → zMp → Prop} (hC : zCx X own cc fr lo mc ms ret ini Rt) {pc : Nat} {j : Fin 4} {i : Nat} (hi : (j : Nat) = i) (hd : decode cc pc = .ok (.iload_n j, 1)) {K : zKT} (hK : zLe K (zG X (pc + 1))) : zLe (i_il i K) (zG X pc) := by
  obtain ⟨p, l, e, R, s, m, args, below, meth, c, Q, nL, D, A, ad0, M0⟩ := X
  obtain ⟨hx, hb, hml, hown, hts, hKS, hSF, hA, hR, hQ, hret, hlk, hini⟩ := hC
  intro L st M k n h
  unfold i_il at h
  split at h
  · next x he =>
    intro ad H locs ls hH
    exact lv_iload_n hx hb hd hi (hH.2.2.1.2.2 _ _ he) (hK L _ M k n h ad H locs ls (zHd_st hH (fun h => zsv_c trivial h)))
  · exact h.elim

theorem sd_il {X : zMa} {own : String} {cc : ByteArray} {fr lo mc ms : Nat} {ret : Option FieldType} {ini : Bool} {Rt : Option zAV → zMp → Prop} (hC : zCx X own cc fr lo mc ms ret ini Rt) {pc : Nat} {i : Nat} (hd : decode cc pc = .ok (.iload i, 2)) {K : zKT} (hK : zLe K (zG X (pc + 2))) : zLe (i_il i K) (zG X pc) := by
  obtain ⟨p, l, e, R, s, m, args, below, meth, c, Q, nL, D, A, ad0, M0⟩ := X
  obtain ⟨hx, hb, hml, hown, hts, hKS, hSF, hA, hR, hQ, hret, hlk, hini⟩ := hC
  intro L st M k n h
  unfold i_il at h
  split at h
  · next x he =>
    intro ad H locs ls hH
    exact lv_iload hx hb hd (hH.2.2.1.2.2 _ _ he) (hK L _ M k n h ad H locs ls (zHd_st hH (fun h => zsv_c trivial h)))
  · exact h.elim

def i_ll (i : Nat) (K : zKT) : zKT := fun L st M k n => match zlg L i with
  | some (.inl (.long x)) => K L (.inl (.long x) :: st) M k n
  | _ => False

theorem sd_ll_n {X : zMa} {own : String} {cc : ByteArray} {fr lo mc ms : Nat} {ret : Option FieldType} {ini : Bool} {Rt : Option zAV → zMp → Prop} (hC : zCx X own cc fr lo mc ms ret ini Rt) {pc : Nat} {j : Fin 4} {i : Nat} (hi : (j : Nat) = i) (hd : decode cc pc = .ok (.lload_n j, 1)) {K : zKT} (hK : zLe K (zG X (pc + 1))) : zLe (i_ll i K) (zG X pc) := by
  obtain ⟨p, l, e, R, s, m, args, below, meth, c, Q, nL, D, A, ad0, M0⟩ := X
  obtain ⟨hx, hb, hml, hown, hts, hKS, hSF, hA, hR, hQ, hret, hlk, hini⟩ := hC
  intro L st M k n h
  unfold i_ll at h
  split at h
  · next x he =>
    intro ad H locs ls hH
    exact lv_lload_n hx hb hd hi (hH.2.2.1.2.2 _ _ he) (hK L _ M k n h ad H locs ls (zHd_st hH (fun h => zsv_c trivial h)))
  · exact h.elim

theorem sd_ll {X : zMa} {own : String} {cc : ByteArray} {fr lo mc ms : Nat} {ret : Option FieldType} {ini : Bool} {Rt : Option zAV → zMp → Prop} (hC : zCx X own cc fr lo mc ms ret ini Rt) {pc : Nat} {i : Nat} (hd : decode cc pc = .ok (.lload i, 2)) {K : zKT} (hK : zLe K (zG X (pc + 2))) : zLe (i_ll i K) (zG X pc) := by
  obtain ⟨p, l, e, R, s, m, args, below, meth, c, Q, nL, D, A, ad0, M0⟩ := X
  obtain ⟨hx, hb, hml, hown, hts, hKS, hSF, hA, hR, hQ, hret, hlk, hini⟩ := hC
  intro L st M k n h
  unfold i_ll at h
  split at h
  · next x he =>
    intro ad H locs ls hH
    exact lv_lload hx hb hd (hH.2.2.1.2.2 _ _ he) (hK L _ M k n h ad H locs ls (zHd_st hH (fun h => zsv_c trivial h)))
  · exact h.elim

def i_al (i : Nat) (K : zKT) : zKT := fun L st M k n => match zlg L i with
  | some (.inr a) => K L (.inr a :: st) M k n
  | some (.inl .null) => K L (.inl .null :: st) M k n
  | _ => False

theorem sd_al_n {X : zMa} {own : String} {cc : ByteArray} {fr lo mc ms : Nat} {ret : Option FieldType} {ini : Bool} {Rt : Option zAV → zMp → Prop} (hC : zCx X own cc fr lo mc ms ret ini Rt) {pc : Nat} {j : Fin 4} {i : Nat} (hi : (j : Nat) = i) (hd : decode cc pc = .ok (.aload_n j, 1)) {K : zKT} (hK : zLe K (zG X (pc + 1))) : zLe (i_al i K) (zG X pc) := by
  obtain ⟨p, l, e, R, s, m, args, below, meth, c, Q, nL, D, A, ad0, M0⟩ := X
  obtain ⟨hx, hb, hml, hown, hts, hKS, hSF, hA, hR, hQ, hret, hlk, hini⟩ := hC
  intro L st M k n h
  unfold i_al at h
  split at h
  · next x he =>
    intro ad H locs ls hH
    exact lv_aload_n hx hb hd hi (hH.2.2.1.2.2 _ _ he) (hK L _ M k n h ad H locs ls (zHd_st hH (fun h => zsv_c (hH.2.2.2.2.1 _ _ he) h)))
  · next he =>
    intro ad H locs ls hH
    exact lv_aload_nN hx hb hd hi (hH.2.2.1.2.2 _ _ he) (hK L _ M k n h ad H locs ls (zHd_st hH (fun h => zsv_c trivial h)))
  · exact h.elim

theorem sd_al {X : zMa} {own : String} {cc : ByteArray} {fr lo mc ms : Nat} {ret : Option FieldType} {ini : Bool} {Rt : Option zAV → zMp → Prop} (hC : zCx X own cc fr lo mc ms ret ini Rt) {pc : Nat} {i : Nat} (hd : decode cc pc = .ok (.aload i, 2)) {K : zKT} (hK : zLe K (zG X (pc + 2))) : zLe (i_al i K) (zG X pc) := by
  obtain ⟨p, l, e, R, s, m, args, below, meth, c, Q, nL, D, A, ad0, M0⟩ := X
  obtain ⟨hx, hb, hml, hown, hts, hKS, hSF, hA, hR, hQ, hret, hlk, hini⟩ := hC
  intro L st M k n h
  unfold i_al at h
  split at h
  · next x he =>
    intro ad H locs ls hH
    exact lv_aload hx hb hd (hH.2.2.1.2.2 _ _ he) (hK L _ M k n h ad H locs ls (zHd_st hH (fun h => zsv_c (hH.2.2.2.2.1 _ _ he) h)))
  · next he =>
    intro ad H locs ls hH
    exact lv_aloadN hx hb hd (hH.2.2.1.2.2 _ _ he) (hK L _ M k n h ad H locs ls (zHd_st hH (fun h => zsv_c trivial h)))
  · exact h.elim

theorem zHd_lo {s : State} {nL : Nat} {D : va_G} {A : Nat → Prop} {ad0 : zNm → Nat} {M0 : zMp} {ad : zNm → Nat} {H : Heap} {locs : List Loc} {ls ls' : Array Slot} {L L' : List (Option zAV)} {st st' : List zAV} {M : zMp} (h : zHd s nL D A ad0 M0 ad H locs ls L st M) (hl : zlH ad nL ls' L') (ha : ∀ k v, zlg L' k = some v → zalv M v) (hs : zsv M st → zsv M st') : zHd s nL D A ad0 M0 ad H locs ls' L' st' M := ⟨h.1, h.2.1, hl, h.2.2.2.1, ha, hs h.2.2.2.2.2⟩

def i_is (i : Nat) (K : zKT) : zKT := fun L st M k n => match st with
  | .inl (.int x) :: st => znl L i ∧ K (zls L i (some (.inl (.int x)))) st M k n
  | _ => False

def i_as (i : Nat) (K : zKT) : zKT := fun L st M k n => match st with
  | .inr x :: st => znl L i ∧ K (zls L i (some (.inr x))) st M k n
  | .inl .null :: st => znl L i ∧ K (zls L i (some (.inl .null))) st M k n
  | _ => False

def i_ls (i : Nat) (K : zKT) : zKT := fun L st M k n => match st with
  | .inl (.long x) :: st => znl L i ∧ K (zls (zls L (i + 1) none) i (some (.inl (.long x)))) st M k n
  | _ => False

def i_inc (i : Nat) (d : Int32) (K : zKT) : zKT := fun L st M k n => match zlg L i with
  | some (.inl (.int x)) => znl L i ∧ K (zls L i (some (.inl (.int (x + d))))) st M k n
  | _ => False

def zNL (X : zMa) : Nat := match X with
  | (_, _, _, _, _, _, _, _, _, _, _, nL, _, _, _, _) => nL

theorem sd_is_n {X : zMa} {own : String} {cc : ByteArray} {fr lo mc ms : Nat} {ret : Option FieldType} {ini : Bool} {Rt : Option zAV → zMp → Prop} (hC : zCx X own cc fr lo mc ms ret ini Rt) {pc : Nat} {j : Fin 4} {i : Nat} (hi : (j : Nat) = i) (hnL : i < zNL X) (hd : decode cc pc = .ok (.istore_n j, 1)) {K : zKT} (hK : zLe K (zG X (pc + 1))) : zLe (i_is i K) (zG X pc) := by
  obtain ⟨p, l, e, R, s, m, args, below, meth, c, Q, nL, D, A, ad0, M0⟩ := X
  obtain ⟨hx, hb, hml, hown, hts, hKS, hSF, hA, hR, hQ, hret, hlk, hini⟩ := hC
  intro L st M k n h
  unfold i_is at h
  split at h
  · next x st =>
    obtain ⟨hz, h⟩ := h
    intro ad H locs ls hH
    refine lv_istore_n hx hb hd hi (zlH_has hH.2.2.1) hnL rfl (fun ls' hl' => ?_)
    exact hK _ _ M k n h ad H locs ls' (zHd_lo hH (zlH_st1 hz hl') (zll_set hH.2.2.2.2.1 trivial) zsv_t)
  · exact h.elim

theorem sd_is {X : zMa} {own : String} {cc : ByteArray} {fr lo mc ms : Nat} {ret : Option FieldType} {ini : Bool} {Rt : Option zAV → zMp → Prop} (hC : zCx X own cc fr lo mc ms ret ini Rt) {pc : Nat} {i : Nat} (hnL : i < zNL X) (hd : decode cc pc = .ok (.istore i, 2)) {K : zKT} (hK : zLe K (zG X (pc + 2))) : zLe (i_is i K) (zG X pc) := by
  obtain ⟨p, l, e, R, s, m, args, below, meth, c, Q, nL, D, A, ad0, M0⟩ := X
  obtain ⟨hx, hb, hml, hown, hts, hKS, hSF, hA, hR, hQ, hret, hlk, hini⟩ := hC
  intro L st M k n h
  unfold i_is at h
  split at h
  · next x st =>
    obtain ⟨hz, h⟩ := h
    intro ad H locs ls hH
    refine lv_istore hx hb hd (zlH_has hH.2.2.1) hnL rfl (fun ls' hl' => ?_)
    exact hK _ _ M k n h ad H locs ls' (zHd_lo hH (zlH_st1 hz hl') (zll_set hH.2.2.2.2.1 trivial) zsv_t)
  · exact h.elim

theorem sd_as_n {X : zMa} {own : String} {cc : ByteArray} {fr lo mc ms : Nat} {ret : Option FieldType} {ini : Bool} {Rt : Option zAV → zMp → Prop} (hC : zCx X own cc fr lo mc ms ret ini Rt) {pc : Nat} {j : Fin 4} {i : Nat} (hi : (j : Nat) = i) (hnL : i < zNL X) (hd : decode cc pc = .ok (.astore_n j, 1)) {K : zKT} (hK : zLe K (zG X (pc + 1))) : zLe (i_as i K) (zG X pc) := by
  obtain ⟨p, l, e, R, s, m, args, below, meth, c, Q, nL, D, A, ad0, M0⟩ := X
  obtain ⟨hx, hb, hml, hown, hts, hKS, hSF, hA, hR, hQ, hret, hlk, hini⟩ := hC
  intro L st M k n h
  unfold i_as at h
  split at h
  · next x st =>
    obtain ⟨hz, h⟩ := h
    intro ad H locs ls hH
    refine lv_astore_n hx hb hd hi (zlH_has hH.2.2.1) hnL rfl (fun ls' hl' => ?_)
    exact hK _ _ M k n h ad H locs ls' (zHd_lo hH (zlH_st1 (a := .inr x) hz hl') (zll_set hH.2.2.2.2.1 (zsv_h hH.2.2.2.2.2)) zsv_t)
  · next st =>
    obtain ⟨hz, h⟩ := h
    intro ad H locs ls hH
    refine lv_astore_nN hx hb hd hi (zlH_has hH.2.2.1) hnL rfl (fun ls' hl' => ?_)
    exact hK _ _ M k n h ad H locs ls' (zHd_lo hH (zlH_st1 (a := .inl .null) hz hl') (zll_set hH.2.2.2.2.1 trivial) zsv_t)
  · exact h.elim

theorem sd_as {X : zMa} {own : String} {cc : ByteArray} {fr lo mc ms : Nat} {ret : Option FieldType} {ini : Bool} {Rt : Option zAV → zMp → Prop} (hC : zCx X own cc fr lo mc ms ret ini Rt) {pc : Nat} {i : Nat} (hnL : i < zNL X) (hd : decode cc pc = .ok (.astore i, 2)) {K : zKT} (hK : zLe K (zG X (pc + 2))) : zLe (i_as i K) (zG X pc) := by
  obtain ⟨p, l, e, R, s, m, args, below, meth, c, Q, nL, D, A, ad0, M0⟩ := X
  obtain ⟨hx, hb, hml, hown, hts, hKS, hSF, hA, hR, hQ, hret, hlk, hini⟩ := hC
  intro L st M k n h
  unfold i_as at h
  split at h
  · next x st =>
    obtain ⟨hz, h⟩ := h
    intro ad H locs ls hH
    refine lv_astore hx hb hd (zlH_has hH.2.2.1) hnL rfl (fun ls' hl' => ?_)
    exact hK _ _ M k n h ad H locs ls' (zHd_lo hH (zlH_st1 (a := .inr x) hz hl') (zll_set hH.2.2.2.2.1 (zsv_h hH.2.2.2.2.2)) zsv_t)
  · next st =>
    obtain ⟨hz, h⟩ := h
    intro ad H locs ls hH
    refine lv_astoreN hx hb hd (zlH_has hH.2.2.1) hnL rfl (fun ls' hl' => ?_)
    exact hK _ _ M k n h ad H locs ls' (zHd_lo hH (zlH_st1 (a := .inl .null) hz hl') (zll_set hH.2.2.2.2.1 trivial) zsv_t)
  · exact h.elim

theorem sd_ls_n {X : zMa} {own : String} {cc : ByteArray} {fr lo mc ms : Nat} {ret : Option FieldType} {ini : Bool} {Rt : Option zAV → zMp → Prop} (hC : zCx X own cc fr lo mc ms ret ini Rt) {pc : Nat} {j : Fin 4} {i : Nat} (hi : (j : Nat) = i) (hnL : i + 1 < zNL X) (hd : decode cc pc = .ok (.lstore_n j, 1)) {K : zKT} (hK : zLe K (zG X (pc + 1))) : zLe (i_ls i K) (zG X pc) := by
  obtain ⟨p, l, e, R, s, m, args, below, meth, c, Q, nL, D, A, ad0, M0⟩ := X
  obtain ⟨hx, hb, hml, hown, hts, hKS, hSF, hA, hR, hQ, hret, hlk, hini⟩ := hC
  intro L st M k n h
  unfold i_ls at h
  split at h
  · next x st =>
    obtain ⟨hz, h⟩ := h
    intro ad H locs ls hH
    refine lv_lstore_n hx hb hd hi (zlH_has hH.2.2.1) hnL rfl (fun ls' hl' => ?_)
    exact hK _ _ M k n h ad H locs ls' (zHd_lo hH (zlH_st2 hz hl') (zll_set2 hH.2.2.2.2.1 trivial) zsv_t)
  · exact h.elim

theorem sd_ls {X : zMa} {own : String} {cc : ByteArray} {fr lo mc ms : Nat} {ret : Option FieldType} {ini : Bool} {Rt : Option zAV → zMp → Prop} (hC : zCx X own cc fr lo mc ms ret ini Rt) {pc : Nat} {i : Nat} (hnL : i + 1 < zNL X) (hd : decode cc pc = .ok (.lstore i, 2)) {K : zKT} (hK : zLe K (zG X (pc + 2))) : zLe (i_ls i K) (zG X pc) := by
  obtain ⟨p, l, e, R, s, m, args, below, meth, c, Q, nL, D, A, ad0, M0⟩ := X
  obtain ⟨hx, hb, hml, hown, hts, hKS, hSF, hA, hR, hQ, hret, hlk, hini⟩ := hC
  intro L st M k n h
  unfold i_ls at h
  split at h
  · next x st =>
    obtain ⟨hz, h⟩ := h
    intro ad H locs ls hH
    refine lv_lstore hx hb hd (zlH_has hH.2.2.1) hnL rfl (fun ls' hl' => ?_)
    exact hK _ _ M k n h ad H locs ls' (zHd_lo hH (zlH_st2 hz hl') (zll_set2 hH.2.2.2.2.1 trivial) zsv_t)
  · exact h.elim

theorem sd_inc {X : zMa} {own : String} {cc : ByteArray} {fr lo mc ms : Nat} {ret : Option FieldType} {ini : Bool} {Rt : Option zAV → zMp → Prop} (hC : zCx X own cc fr lo mc ms ret ini Rt) {pc : Nat} {i : Nat} {z : Int} {d : Int32} (hz : Int32.ofInt z = d) (hnL : i < zNL X) (hd : decode cc pc = .ok (.iinc i z, 3)) {K : zKT} (hK : zLe K (zG X (pc + 3))) : zLe (i_inc i d K) (zG X pc) := by
  obtain ⟨p, l, e, R, s, m, args, below, meth, c, Q, nL, D, A, ad0, M0⟩ := X
  obtain ⟨hx, hb, hml, hown, hts, hKS, hSF, hA, hR, hQ, hret, hlk, hini⟩ := hC
  intro L st M k n h
  unfold i_inc at h
  split at h
  · next x he =>
    obtain ⟨hz2, h⟩ := h
    intro ad H locs ls hH
    subst hz
    have hm : (i, Value.int x) ∈ zlv ad L := zlv_m.mpr ⟨_, he, rfl⟩
    obtain ⟨j, hj⟩ := List.getElem?_of_mem hm
    refine lv_iinc hx hb hd (zlH_has hH.2.2.1) hj rfl hnL rfl (fun ls' hl' => ?_)
    exact hK _ _ M k n h ad H locs ls' (zHd_lo hH (zlH_st1 (a := .inl (.int (x + Int32.ofInt z))) hz2 hl') (zll_set hH.2.2.2.2.1 trivial) id)
  · exact h.elim

def zc1 : zAV → Prop
  | .inl (.long _) => False
  | .inl (.double _) => False
  | _ => True
theorem zc1_c {ad : zNm → Nat} {v : zAV} (h : zc1 v) : (zcv ad v).category = 1 := by
  match v, h with
  | .inl (.int _), _ => rfl
  | .inl (.float _), _ => rfl
  | .inl (.ref _), _ => rfl
  | .inl .null, _ => rfl
  | .inl (.retAddr _), _ => rfl
  | .inr _, _ => rfl

def i_dup (K : zKT) : zKT := fun L st M k n => match st with
  | a :: st => zc1 a ∧ K L (a :: a :: st) M k n
  | _ => False

theorem sd_dup {X : zMa} {own : String} {cc : ByteArray} {fr lo mc ms : Nat} {ret : Option FieldType} {ini : Bool} {Rt : Option zAV → zMp → Prop} (hC : zCx X own cc fr lo mc ms ret ini Rt) {pc : Nat} (hd : decode cc pc = .ok (.dup, 1)) {K : zKT} (hK : zLe K (zG X (pc + 1))) : zLe (i_dup K) (zG X pc) := by
  obtain ⟨p, l, e, R, s, m, args, below, meth, c, Q, nL, D, A, ad0, M0⟩ := X
  obtain ⟨hx, hb, hml, hown, hts, hKS, hSF, hA, hR, hQ, hret, hlk, hini⟩ := hC
  intro L st M k n h
  unfold i_dup at h
  split at h
  · obtain ⟨hca, h⟩ := h
    intro ad H locs ls hH
    exact lv_dup hx hb hd (zc1_c hca) (hK L _ M k n h ad H locs ls (zHd_st hH (fun h => zsv_c (zsv_h h) h)))
  · exact h.elim

def i_pop (K : zKT) : zKT := fun L st M k n => match st with
  | a :: st => zc1 a ∧ K L (st) M k n
  | _ => False

theorem sd_pop {X : zMa} {own : String} {cc : ByteArray} {fr lo mc ms : Nat} {ret : Option FieldType} {ini : Bool} {Rt : Option zAV → zMp → Prop} (hC : zCx X own cc fr lo mc ms ret ini Rt) {pc : Nat} (hd : decode cc pc = .ok (.pop, 1)) {K : zKT} (hK : zLe K (zG X (pc + 1))) : zLe (i_pop K) (zG X pc) := by
  obtain ⟨p, l, e, R, s, m, args, below, meth, c, Q, nL, D, A, ad0, M0⟩ := X
  obtain ⟨hx, hb, hml, hown, hts, hKS, hSF, hA, hR, hQ, hret, hlk, hini⟩ := hC
  intro L st M k n h
  unfold i_pop at h
  split at h
  · obtain ⟨hca, h⟩ := h
    intro ad H locs ls hH
    exact lv_pop hx hb hd (zc1_c hca) (hK L _ M k n h ad H locs ls (zHd_st hH (zsv_t)))
  · exact h.elim

def i_dx1 (K : zKT) : zKT := fun L st M k n => match st with
  | a :: b :: st => zc1 a ∧ zc1 b ∧ K L (a :: b :: a :: st) M k n
  | _ => False

theorem sd_dx1 {X : zMa} {own : String} {cc : ByteArray} {fr lo mc ms : Nat} {ret : Option FieldType} {ini : Bool} {Rt : Option zAV → zMp → Prop} (hC : zCx X own cc fr lo mc ms ret ini Rt) {pc : Nat} (hd : decode cc pc = .ok (.dup_x1, 1)) {K : zKT} (hK : zLe K (zG X (pc + 1))) : zLe (i_dx1 K) (zG X pc) := by
  obtain ⟨p, l, e, R, s, m, args, below, meth, c, Q, nL, D, A, ad0, M0⟩ := X
  obtain ⟨hx, hb, hml, hown, hts, hKS, hSF, hA, hR, hQ, hret, hlk, hini⟩ := hC
  intro L st M k n h
  unfold i_dx1 at h
  split at h
  · obtain ⟨hca, hcb, h⟩ := h
    intro ad H locs ls hH
    exact lv_dup_x1 hx hb hd (zc1_c hca) (zc1_c hcb) (hK L _ M k n h ad H locs ls (zHd_st hH (fun h => zsv_c (zsv_h h) (zsv_c (zsv_h (zsv_t h)) (zsv_c (zsv_h h) (zsv_t (zsv_t h)))))))
  · exact h.elim

def i_dup2 (K : zKT) : zKT := fun L st M k n => match st with
  | a :: b :: st => zc1 a ∧ zc1 b ∧ K L (a :: b :: a :: b :: st) M k n
  | _ => False

theorem sd_dup2 {X : zMa} {own : String} {cc : ByteArray} {fr lo mc ms : Nat} {ret : Option FieldType} {ini : Bool} {Rt : Option zAV → zMp → Prop} (hC : zCx X own cc fr lo mc ms ret ini Rt) {pc : Nat} (hd : decode cc pc = .ok (.dup2, 1)) {K : zKT} (hK : zLe K (zG X (pc + 1))) : zLe (i_dup2 K) (zG X pc) := by
  obtain ⟨p, l, e, R, s, m, args, below, meth, c, Q, nL, D, A, ad0, M0⟩ := X
  obtain ⟨hx, hb, hml, hown, hts, hKS, hSF, hA, hR, hQ, hret, hlk, hini⟩ := hC
  intro L st M k n h
  unfold i_dup2 at h
  split at h
  · obtain ⟨hca, hcb, h⟩ := h
    intro ad H locs ls hH
    exact lv_dup2_11 hx hb hd (zc1_c hca) (zc1_c hcb) (hK L _ M k n h ad H locs ls (zHd_st hH (fun h => zsv_c (zsv_h h) (zsv_c (zsv_h (zsv_t h)) h))))
  · exact h.elim

def i_ifeq (Kt Kf : zKT) : zKT := fun L st M k n => match st with
  | .inl (.int x) :: st => (x = 0 → Kt L st M k n) ∧ (¬ x = 0 → Kf L st M k n)
  | _ => False

theorem sd_ifeq {X : zMa} {own : String} {cc : ByteArray} {fr lo mc ms : Nat} {ret : Option FieldType} {ini : Bool} {Rt : Option zAV → zMp → Prop} (hC : zCx X own cc fr lo mc ms ret ini Rt) {pc : Nat} {off : Int} {tgt : Nat} (ht : (pc : Int) + off = (tgt : Int)) (hd : decode cc pc = .ok (.ifCond .eq off, 3)) {Kt Kf : zKT} (hKt : zLe Kt (zG X tgt)) (hKf : zLe Kf (zG X (pc + 3))) : zLe (i_ifeq Kt Kf) (zG X pc) := by
  obtain ⟨p, l, e, R, s, m, args, below, meth, c, Q, nL, D, A, ad0, M0⟩ := X
  obtain ⟨hx, hb, hml, hown, hts, hKS, hSF, hA, hR, hQ, hret, hlk, hini⟩ := hC
  intro L st M k n h
  unfold i_ifeq at h
  split at h
  · obtain ⟨h1, h2⟩ := h
    intro ad H locs ls hH
    exact lv_if_eq hx hb hd ht (fun q => hKt L _ M k n (h1 q) ad H locs ls (zHd_st hH (zsv_t))) (fun q => hKf L _ M k n (h2 q) ad H locs ls (zHd_st hH (zsv_t)))
  · exact h.elim

def i_iceq (Kt Kf : zKT) : zKT := fun L st M k n => match st with
  | .inl (.int y) :: .inl (.int x) :: st => (x = y → Kt L st M k n) ∧ (¬ x = y → Kf L st M k n)
  | _ => False

theorem sd_iceq {X : zMa} {own : String} {cc : ByteArray} {fr lo mc ms : Nat} {ret : Option FieldType} {ini : Bool} {Rt : Option zAV → zMp → Prop} (hC : zCx X own cc fr lo mc ms ret ini Rt) {pc : Nat} {off : Int} {tgt : Nat} (ht : (pc : Int) + off = (tgt : Int)) (hd : decode cc pc = .ok (.if_icmp .eq off, 3)) {Kt Kf : zKT} (hKt : zLe Kt (zG X tgt)) (hKf : zLe Kf (zG X (pc + 3))) : zLe (i_iceq Kt Kf) (zG X pc) := by
  obtain ⟨p, l, e, R, s, m, args, below, meth, c, Q, nL, D, A, ad0, M0⟩ := X
  obtain ⟨hx, hb, hml, hown, hts, hKS, hSF, hA, hR, hQ, hret, hlk, hini⟩ := hC
  intro L st M k n h
  unfold i_iceq at h
  split at h
  · obtain ⟨h1, h2⟩ := h
    intro ad H locs ls hH
    exact lv_icmp_eq hx hb hd ht (fun q => hKt L _ M k n (h1 q) ad H locs ls (zHd_st hH (fun h => zsv_t (zsv_t h)))) (fun q => hKf L _ M k n (h2 q) ad H locs ls (zHd_st hH (fun h => zsv_t (zsv_t h))))
  · exact h.elim

def i_ifne (Kt Kf : zKT) : zKT := fun L st M k n => match st with
  | .inl (.int x) :: st => (¬ x = 0 → Kt L st M k n) ∧ (x = 0 → Kf L st M k n)
  | _ => False

theorem sd_ifne {X : zMa} {own : String} {cc : ByteArray} {fr lo mc ms : Nat} {ret : Option FieldType} {ini : Bool} {Rt : Option zAV → zMp → Prop} (hC : zCx X own cc fr lo mc ms ret ini Rt) {pc : Nat} {off : Int} {tgt : Nat} (ht : (pc : Int) + off = (tgt : Int)) (hd : decode cc pc = .ok (.ifCond .ne off, 3)) {Kt Kf : zKT} (hKt : zLe Kt (zG X tgt)) (hKf : zLe Kf (zG X (pc + 3))) : zLe (i_ifne Kt Kf) (zG X pc) := by
  obtain ⟨p, l, e, R, s, m, args, below, meth, c, Q, nL, D, A, ad0, M0⟩ := X
  obtain ⟨hx, hb, hml, hown, hts, hKS, hSF, hA, hR, hQ, hret, hlk, hini⟩ := hC
  intro L st M k n h
  unfold i_ifne at h
  split at h
  · obtain ⟨h1, h2⟩ := h
    intro ad H locs ls hH
    exact lv_if_ne hx hb hd ht (fun q => hKt L _ M k n (h1 q) ad H locs ls (zHd_st hH (zsv_t))) (fun q => hKf L _ M k n (h2 q) ad H locs ls (zHd_st hH (zsv_t)))
  · exact h.elim

def i_icne (Kt Kf : zKT) : zKT := fun L st M k n => match st with
  | .inl (.int y) :: .inl (.int x) :: st => (¬ x = y → Kt L st M k n) ∧ (x = y → Kf L st M k n)
  | _ => False

theorem sd_icne {X : zMa} {own : String} {cc : ByteArray} {fr lo mc ms : Nat} {ret : Option FieldType} {ini : Bool} {Rt : Option zAV → zMp → Prop} (hC : zCx X own cc fr lo mc ms ret ini Rt) {pc : Nat} {off : Int} {tgt : Nat} (ht : (pc : Int) + off = (tgt : Int)) (hd : decode cc pc = .ok (.if_icmp .ne off, 3)) {Kt Kf : zKT} (hKt : zLe Kt (zG X tgt)) (hKf : zLe Kf (zG X (pc + 3))) : zLe (i_icne Kt Kf) (zG X pc) := by
  obtain ⟨p, l, e, R, s, m, args, below, meth, c, Q, nL, D, A, ad0, M0⟩ := X
  obtain ⟨hx, hb, hml, hown, hts, hKS, hSF, hA, hR, hQ, hret, hlk, hini⟩ := hC
  intro L st M k n h
  unfold i_icne at h
  split at h
  · obtain ⟨h1, h2⟩ := h
    intro ad H locs ls hH
    exact lv_icmp_ne hx hb hd ht (fun q => hKt L _ M k n (h1 q) ad H locs ls (zHd_st hH (fun h => zsv_t (zsv_t h)))) (fun q => hKf L _ M k n (h2 q) ad H locs ls (zHd_st hH (fun h => zsv_t (zsv_t h))))
  · exact h.elim

def i_iflt (Kt Kf : zKT) : zKT := fun L st M k n => match st with
  | .inl (.int x) :: st => (x < 0 → Kt L st M k n) ∧ (¬ x < 0 → Kf L st M k n)
  | _ => False

theorem sd_iflt {X : zMa} {own : String} {cc : ByteArray} {fr lo mc ms : Nat} {ret : Option FieldType} {ini : Bool} {Rt : Option zAV → zMp → Prop} (hC : zCx X own cc fr lo mc ms ret ini Rt) {pc : Nat} {off : Int} {tgt : Nat} (ht : (pc : Int) + off = (tgt : Int)) (hd : decode cc pc = .ok (.ifCond .lt off, 3)) {Kt Kf : zKT} (hKt : zLe Kt (zG X tgt)) (hKf : zLe Kf (zG X (pc + 3))) : zLe (i_iflt Kt Kf) (zG X pc) := by
  obtain ⟨p, l, e, R, s, m, args, below, meth, c, Q, nL, D, A, ad0, M0⟩ := X
  obtain ⟨hx, hb, hml, hown, hts, hKS, hSF, hA, hR, hQ, hret, hlk, hini⟩ := hC
  intro L st M k n h
  unfold i_iflt at h
  split at h
  · obtain ⟨h1, h2⟩ := h
    intro ad H locs ls hH
    exact lv_if_lt hx hb hd ht (fun q => hKt L _ M k n (h1 q) ad H locs ls (zHd_st hH (zsv_t))) (fun q => hKf L _ M k n (h2 q) ad H locs ls (zHd_st hH (zsv_t)))
  · exact h.elim

def i_iclt (Kt Kf : zKT) : zKT := fun L st M k n => match st with
  | .inl (.int y) :: .inl (.int x) :: st => (x < y → Kt L st M k n) ∧ (¬ x < y → Kf L st M k n)
  | _ => False

theorem sd_iclt {X : zMa} {own : String} {cc : ByteArray} {fr lo mc ms : Nat} {ret : Option FieldType} {ini : Bool} {Rt : Option zAV → zMp → Prop} (hC : zCx X own cc fr lo mc ms ret ini Rt) {pc : Nat} {off : Int} {tgt : Nat} (ht : (pc : Int) + off = (tgt : Int)) (hd : decode cc pc = .ok (.if_icmp .lt off, 3)) {Kt Kf : zKT} (hKt : zLe Kt (zG X tgt)) (hKf : zLe Kf (zG X (pc + 3))) : zLe (i_iclt Kt Kf) (zG X pc) := by
  obtain ⟨p, l, e, R, s, m, args, below, meth, c, Q, nL, D, A, ad0, M0⟩ := X
  obtain ⟨hx, hb, hml, hown, hts, hKS, hSF, hA, hR, hQ, hret, hlk, hini⟩ := hC
  intro L st M k n h
  unfold i_iclt at h
  split at h
  · obtain ⟨h1, h2⟩ := h
    intro ad H locs ls hH
    exact lv_icmp_lt hx hb hd ht (fun q => hKt L _ M k n (h1 q) ad H locs ls (zHd_st hH (fun h => zsv_t (zsv_t h)))) (fun q => hKf L _ M k n (h2 q) ad H locs ls (zHd_st hH (fun h => zsv_t (zsv_t h))))
  · exact h.elim

def i_ifge (Kt Kf : zKT) : zKT := fun L st M k n => match st with
  | .inl (.int x) :: st => (0 ≤ x → Kt L st M k n) ∧ (¬ 0 ≤ x → Kf L st M k n)
  | _ => False

theorem sd_ifge {X : zMa} {own : String} {cc : ByteArray} {fr lo mc ms : Nat} {ret : Option FieldType} {ini : Bool} {Rt : Option zAV → zMp → Prop} (hC : zCx X own cc fr lo mc ms ret ini Rt) {pc : Nat} {off : Int} {tgt : Nat} (ht : (pc : Int) + off = (tgt : Int)) (hd : decode cc pc = .ok (.ifCond .ge off, 3)) {Kt Kf : zKT} (hKt : zLe Kt (zG X tgt)) (hKf : zLe Kf (zG X (pc + 3))) : zLe (i_ifge Kt Kf) (zG X pc) := by
  obtain ⟨p, l, e, R, s, m, args, below, meth, c, Q, nL, D, A, ad0, M0⟩ := X
  obtain ⟨hx, hb, hml, hown, hts, hKS, hSF, hA, hR, hQ, hret, hlk, hini⟩ := hC
  intro L st M k n h
  unfold i_ifge at h
  split at h
  · obtain ⟨h1, h2⟩ := h
    intro ad H locs ls hH
    exact lv_if_ge hx hb hd ht (fun q => hKt L _ M k n (h1 q) ad H locs ls (zHd_st hH (zsv_t))) (fun q => hKf L _ M k n (h2 q) ad H locs ls (zHd_st hH (zsv_t)))
  · exact h.elim

def i_icge (Kt Kf : zKT) : zKT := fun L st M k n => match st with
  | .inl (.int y) :: .inl (.int x) :: st => (y ≤ x → Kt L st M k n) ∧ (¬ y ≤ x → Kf L st M k n)
  | _ => False

theorem sd_icge {X : zMa} {own : String} {cc : ByteArray} {fr lo mc ms : Nat} {ret : Option FieldType} {ini : Bool} {Rt : Option zAV → zMp → Prop} (hC : zCx X own cc fr lo mc ms ret ini Rt) {pc : Nat} {off : Int} {tgt : Nat} (ht : (pc : Int) + off = (tgt : Int)) (hd : decode cc pc = .ok (.if_icmp .ge off, 3)) {Kt Kf : zKT} (hKt : zLe Kt (zG X tgt)) (hKf : zLe Kf (zG X (pc + 3))) : zLe (i_icge Kt Kf) (zG X pc) := by
  obtain ⟨p, l, e, R, s, m, args, below, meth, c, Q, nL, D, A, ad0, M0⟩ := X
  obtain ⟨hx, hb, hml, hown, hts, hKS, hSF, hA, hR, hQ, hret, hlk, hini⟩ := hC
  intro L st M k n h
  unfold i_icge at h
  split at h
  · obtain ⟨h1, h2⟩ := h
    intro ad H locs ls hH
    exact lv_icmp_ge hx hb hd ht (fun q => hKt L _ M k n (h1 q) ad H locs ls (zHd_st hH (fun h => zsv_t (zsv_t h)))) (fun q => hKf L _ M k n (h2 q) ad H locs ls (zHd_st hH (fun h => zsv_t (zsv_t h))))
  · exact h.elim

def i_ifgt (Kt Kf : zKT) : zKT := fun L st M k n => match st with
  | .inl (.int x) :: st => (0 < x → Kt L st M k n) ∧ (¬ 0 < x → Kf L st M k n)
  | _ => False

theorem sd_ifgt {X : zMa} {own : String} {cc : ByteArray} {fr lo mc ms : Nat} {ret : Option FieldType} {ini : Bool} {Rt : Option zAV → zMp → Prop} (hC : zCx X own cc fr lo mc ms ret ini Rt) {pc : Nat} {off : Int} {tgt : Nat} (ht : (pc : Int) + off = (tgt : Int)) (hd : decode cc pc = .ok (.ifCond .gt off, 3)) {Kt Kf : zKT} (hKt : zLe Kt (zG X tgt)) (hKf : zLe Kf (zG X (pc + 3))) : zLe (i_ifgt Kt Kf) (zG X pc) := by
  obtain ⟨p, l, e, R, s, m, args, below, meth, c, Q, nL, D, A, ad0, M0⟩ := X
  obtain ⟨hx, hb, hml, hown, hts, hKS, hSF, hA, hR, hQ, hret, hlk, hini⟩ := hC
  intro L st M k n h
  unfold i_ifgt at h
  split at h
  · obtain ⟨h1, h2⟩ := h
    intro ad H locs ls hH
    exact lv_if_gt hx hb hd ht (fun q => hKt L _ M k n (h1 q) ad H locs ls (zHd_st hH (zsv_t))) (fun q => hKf L _ M k n (h2 q) ad H locs ls (zHd_st hH (zsv_t)))
  · exact h.elim

def i_icgt (Kt Kf : zKT) : zKT := fun L st M k n => match st with
  | .inl (.int y) :: .inl (.int x) :: st => (y < x → Kt L st M k n) ∧ (¬ y < x → Kf L st M k n)
  | _ => False

theorem sd_icgt {X : zMa} {own : String} {cc : ByteArray} {fr lo mc ms : Nat} {ret : Option FieldType} {ini : Bool} {Rt : Option zAV → zMp → Prop} (hC : zCx X own cc fr lo mc ms ret ini Rt) {pc : Nat} {off : Int} {tgt : Nat} (ht : (pc : Int) + off = (tgt : Int)) (hd : decode cc pc = .ok (.if_icmp .gt off, 3)) {Kt Kf : zKT} (hKt : zLe Kt (zG X tgt)) (hKf : zLe Kf (zG X (pc + 3))) : zLe (i_icgt Kt Kf) (zG X pc) := by
  obtain ⟨p, l, e, R, s, m, args, below, meth, c, Q, nL, D, A, ad0, M0⟩ := X
  obtain ⟨hx, hb, hml, hown, hts, hKS, hSF, hA, hR, hQ, hret, hlk, hini⟩ := hC
  intro L st M k n h
  unfold i_icgt at h
  split at h
  · obtain ⟨h1, h2⟩ := h
    intro ad H locs ls hH
    exact lv_icmp_gt hx hb hd ht (fun q => hKt L _ M k n (h1 q) ad H locs ls (zHd_st hH (fun h => zsv_t (zsv_t h)))) (fun q => hKf L _ M k n (h2 q) ad H locs ls (zHd_st hH (fun h => zsv_t (zsv_t h))))
  · exact h.elim

def i_ifle (Kt Kf : zKT) : zKT := fun L st M k n => match st with
  | .inl (.int x) :: st => (x ≤ 0 → Kt L st M k n) ∧ (¬ x ≤ 0 → Kf L st M k n)
  | _ => False

theorem sd_ifle {X : zMa} {own : String} {cc : ByteArray} {fr lo mc ms : Nat} {ret : Option FieldType} {ini : Bool} {Rt : Option zAV → zMp → Prop} (hC : zCx X own cc fr lo mc ms ret ini Rt) {pc : Nat} {off : Int} {tgt : Nat} (ht : (pc : Int) + off = (tgt : Int)) (hd : decode cc pc = .ok (.ifCond .le off, 3)) {Kt Kf : zKT} (hKt : zLe Kt (zG X tgt)) (hKf : zLe Kf (zG X (pc + 3))) : zLe (i_ifle Kt Kf) (zG X pc) := by
  obtain ⟨p, l, e, R, s, m, args, below, meth, c, Q, nL, D, A, ad0, M0⟩ := X
  obtain ⟨hx, hb, hml, hown, hts, hKS, hSF, hA, hR, hQ, hret, hlk, hini⟩ := hC
  intro L st M k n h
  unfold i_ifle at h
  split at h
  · obtain ⟨h1, h2⟩ := h
    intro ad H locs ls hH
    exact lv_if_le hx hb hd ht (fun q => hKt L _ M k n (h1 q) ad H locs ls (zHd_st hH (zsv_t))) (fun q => hKf L _ M k n (h2 q) ad H locs ls (zHd_st hH (zsv_t)))
  · exact h.elim

def i_icle (Kt Kf : zKT) : zKT := fun L st M k n => match st with
  | .inl (.int y) :: .inl (.int x) :: st => (x ≤ y → Kt L st M k n) ∧ (¬ x ≤ y → Kf L st M k n)
  | _ => False

theorem sd_icle {X : zMa} {own : String} {cc : ByteArray} {fr lo mc ms : Nat} {ret : Option FieldType} {ini : Bool} {Rt : Option zAV → zMp → Prop} (hC : zCx X own cc fr lo mc ms ret ini Rt) {pc : Nat} {off : Int} {tgt : Nat} (ht : (pc : Int) + off = (tgt : Int)) (hd : decode cc pc = .ok (.if_icmp .le off, 3)) {Kt Kf : zKT} (hKt : zLe Kt (zG X tgt)) (hKf : zLe Kf (zG X (pc + 3))) : zLe (i_icle Kt Kf) (zG X pc) := by
  obtain ⟨p, l, e, R, s, m, args, below, meth, c, Q, nL, D, A, ad0, M0⟩ := X
  obtain ⟨hx, hb, hml, hown, hts, hKS, hSF, hA, hR, hQ, hret, hlk, hini⟩ := hC
  intro L st M k n h
  unfold i_icle at h
  split at h
  · obtain ⟨h1, h2⟩ := h
    intro ad H locs ls hH
    exact lv_icmp_le hx hb hd ht (fun q => hKt L _ M k n (h1 q) ad H locs ls (zHd_st hH (fun h => zsv_t (zsv_t h)))) (fun q => hKf L _ M k n (h2 q) ad H locs ls (zHd_st hH (fun h => zsv_t (zsv_t h))))
  · exact h.elim

def i_ifn (Kt Kf : zKT) : zKT := fun L st M k n => match st with
  | .inr _ :: st => Kf L st M k n
  | .inl .null :: st => Kt L st M k n
  | _ => False

theorem sd_ifnull {X : zMa} {own : String} {cc : ByteArray} {fr lo mc ms : Nat} {ret : Option FieldType} {ini : Bool} {Rt : Option zAV → zMp → Prop} (hC : zCx X own cc fr lo mc ms ret ini Rt) {pc : Nat} {off : Int} {tgt : Nat} (ht : (pc : Int) + off = (tgt : Int)) (hd : decode cc pc = .ok (.ifnull off, 3)) {Kt Kf : zKT} (hKt : zLe Kt (zG X tgt)) (hKf : zLe Kf (zG X (pc + 3))) : zLe (i_ifn Kt Kf) (zG X pc) := by
  obtain ⟨p, l, e, R, s, m, args, below, meth, c, Q, nL, D, A, ad0, M0⟩ := X
  obtain ⟨hx, hb, hml, hown, hts, hKS, hSF, hA, hR, hQ, hret, hlk, hini⟩ := hC
  intro L st M k n h
  unfold i_ifn at h
  split at h
  · intro ad H locs ls hH
    exact lv_ifnull hx hb hd (hKf L _ M k n h ad H locs ls (zHd_st hH zsv_t))
  · intro ad H locs ls hH
    exact lv_ifnullN hx hb hd ht (hKt L _ M k n h ad H locs ls (zHd_st hH zsv_t))
  · exact h.elim

theorem sd_ifnonnull {X : zMa} {own : String} {cc : ByteArray} {fr lo mc ms : Nat} {ret : Option FieldType} {ini : Bool} {Rt : Option zAV → zMp → Prop} (hC : zCx X own cc fr lo mc ms ret ini Rt) {pc : Nat} {off : Int} {tgt : Nat} (ht : (pc : Int) + off = (tgt : Int)) (hd : decode cc pc = .ok (.ifnonnull off, 3)) {Kt Kf : zKT} (hKt : zLe Kt (zG X tgt)) (hKf : zLe Kf (zG X (pc + 3))) : zLe (i_ifn Kf Kt) (zG X pc) := by
  obtain ⟨p, l, e, R, s, m, args, below, meth, c, Q, nL, D, A, ad0, M0⟩ := X
  obtain ⟨hx, hb, hml, hown, hts, hKS, hSF, hA, hR, hQ, hret, hlk, hini⟩ := hC
  intro L st M k n h
  unfold i_ifn at h
  split at h
  · intro ad H locs ls hH
    exact lv_ifnonnull hx hb hd ht (hKt L _ M k n h ad H locs ls (zHd_st hH zsv_t))
  · intro ad H locs ls hH
    exact lv_ifnonnullN hx hb hd (hKf L _ M k n h ad H locs ls (zHd_st hH zsv_t))
  · exact h.elim

theorem sd_goto {X : zMa} {own : String} {cc : ByteArray} {fr lo mc ms : Nat} {ret : Option FieldType} {ini : Bool} {Rt : Option zAV → zMp → Prop} (hC : zCx X own cc fr lo mc ms ret ini Rt) {pc : Nat} {off : Int} {tgt : Nat} (ht : (pc : Int) + off = (tgt : Int)) (hd : decode cc pc = .ok (.goto off, 3)) {K : zKT} (hK : zLe K (zG X tgt)) : zLe K (zG X pc) := by
  obtain ⟨p, l, e, R, s, m, args, below, meth, c, Q, nL, D, A, ad0, M0⟩ := X
  obtain ⟨hx, hb, hml, hown, hts, hKS, hSF, hA, hR, hQ, hret, hlk, hini⟩ := hC
  intro L st M k n h ad H locs ls hH
  exact lv_goto hx hb hd ht (hK L st M k n h ad H locs ls hH)
end
section
/-! a cell written, a cell made -/
theorem zne {M : zMp} {a : zNm} {e : zAE} (h : M a = some e) : M a ≠ none := by rw [h]; simp
theorem zHd_put {s : State} {nL : Nat} {D : va_G} {A : Nat → Prop} {ad0 : zNm → Nat} {M0 : zMp} {ad : zNm → Nat} {H H1 : Heap} {locs : List Loc} {ls : Array Slot} {L : List (Option zAV)} {st st' : List zAV} {M : zMp} {a : zNm} {e0 e : zAE} {j : Nat} (h : zHd s nL D A ad0 M0 ad H locs ls L st M) (ha : M a = some e0) (hm : zmo a) (he : zat D s ad a e H1) (hr : ∀ n', zrf e n' → M n' ≠ none) (hz : H1.size = H.size) (oq : ∀ q : Nat, q ≠ ad a → H1[q]? = H[q]?) (hs : zsv M st → zsv M st') : zHd s nL D A ad0 M0 ad H1 (locs ++ [⟨ad a, j⟩]) ls L st' (zup M a e) := by
  obtain ⟨h1, h2, h3, h4, h5, h6⟩ := h
  refine ⟨zWd_put h1 ha he hr oq, h2.put hz oq (h1.2.2.1 a (zne ha) hm), h3, ⟨fun n hn => ⟨zup_ne (h4.1 n hn).1, (h4.1 n hn).2⟩, fun n hn hn2 => h4.2 n hn (zup_in ha hn2)⟩, fun k v hv => zalv_up (h5 k v hv), fun v hv => zalv_up (hs h6 v hv)⟩
theorem zua_ne {ad : zNm → Nat} {M : zMp} {a : zNm} {q : Nat} (ha : M a = none) {n : zNm} (hn : M n ≠ none) : zua ad a q n = ad n := if_neg (fun z => hn (by rw [z]; exact ha))
theorem zcv_new {ad : zNm → Nat} {M : zMp} {a : zNm} {q : Nat} (ha : M a = none) {v : zAV} (hv : zalv M v) : zcv (zua ad a q) v = zcv ad v := zcv_ext fun n e => zua_ne ha (by rw [e] at hv; exact hv)
theorem zst_new {ad : zNm → Nat} {M : zMp} {a : zNm} {q : Nat} {st : List zAV} (ha : M a = none) (hs : zsv M st) : st.map (zcv (zua ad a q)) = st.map (zcv ad) := List.map_congr_left fun v hv => zcv_new ha (hs v hv)
theorem zHd_new {s : State} {nL : Nat} {D : va_G} {A : Nat → Prop} {ad0 : zNm → Nat} {M0 : zMp} {ad : zNm → Nat} {H H1 : Heap} {locs : List Loc} {ls : Array Slot} {L : List (Option zAV)} {st st' : List zAV} {M : zMp} {a : zNm} {e : zAE} (h : zHd s nL D A ad0 M0 ad H locs ls L st M) (ha : M a = none) (hm : zmo a) (hA : ∀ q, s.heap.size ≤ q → A q) (he : zat D s (zua ad a H.size) a e H1) (hr : ∀ n', ¬ zrf e n') (hz : H1.size = H.size + 1) (oq : ∀ q : Nat, q < H.size → H1[q]? = H[q]?) (hs : zsv M st → zsv M st') : zHd s nL D A ad0 M0 (zua ad a H.size) H1 locs ls L (.inr a :: st') (zup M a e) := by
  obtain ⟨h1, h2, h3, h4, h5, h6⟩ := h
  refine ⟨zWd_new h1 ha (hA _ h2.1) he hr oq, ⟨Nat.le_trans h2.1 (by omega), fun x k1 k2 => (oq x (Nat.lt_of_lt_of_le k1 h2.1)).trans (h2.2.1 x k1 k2), h2.2.2⟩, ⟨h3.1, h3.2.1, fun k v hv => ?_⟩, ⟨fun n hn => ⟨zup_ne (h4.1 n hn).1, ?_⟩, fun n hn hn2 => ?_⟩, fun k v hv => zalv_up (h5 k v hv), ?_⟩
  · rw [zcv_new ha (h5 k v hv)]
    exact h3.2.2 k v hv
  · rw [zua_ne ha (h4.1 n hn).1]
    exact (h4.1 n hn).2
  · refine h4.2 n hn ?_
    unfold zup at hn2
    split at hn2
    · next q => exact absurd hm (by rw [← q]; exact hn)
    · exact hn2
  · refine zsv_c ?_ (fun v hv => zalv_up (hs h6 v hv))
    show zup M a e a ≠ none
    simp [zup]
/-! fields -/
def zfg : List zAV → Nat → Option zAV
  | [], _ => none
  | x :: _, 0 => some x
  | _ :: t, k + 1 => zfg t k
theorem zfg_e : ∀ (l : List zAV) (k : Nat), zfg l k = l[k]?
  | [], _ => rfl
  | _ :: _, 0 => rfl
  | _ :: t, k + 1 => by rw [List.getElem?_cons_succ]; exact zfg_e t k
def zft : FieldType → zAV → Prop
  | .int, .inl (.int _) => True
  | .boolean, .inl (.int x) => x = 0 ∨ x = 1
  | .long, .inl (.long _) => True
  | .object _, .inr _ => True
  | .object _, .inl .null => True
  | .array _, .inr _ => True
  | .array _, .inl .null => True
  | _, _ => False
theorem zft_ok {ad : zNm → Nat} {ty : FieldType} {v : zAV} (h : zft ty v) : narrow ty (zcv ad v) = zcv ad v ∧ fits ty (zcv ad v) = true := by
  unfold zft at h
  split at h
  · exact ⟨rfl, rfl⟩
  · next x =>
    rcases h with h | h <;> subst h <;> exact ⟨rfl, rfl⟩
  · exact ⟨rfl, rfl⟩
  · exact ⟨rfl, rfl⟩
  · exact ⟨rfl, rfl⟩
  · exact ⟨rfl, rfl⟩
  · exact ⟨rfl, rfl⟩
  · exact h.elim
def i_gf (ci fk : Nat) (K : zKT) : zKT := fun L st M k n => match st with
  | .inr a :: st => match M a with
    | some (.inr (cj, fs)) => cj = ci ∧ (match zfg fs fk with
      | some v => K L (v :: st) M k n
      | none => False)
    | _ => False
  | _ => False
theorem sd_gf {X : zMa} {own : String} {cc : ByteArray} {fr lo mc ms : Nat} {ret : Option FieldType} {ini : Bool} {Rt : Option zAV → zMp → Prop} (hC : zCx X own cc fr lo mc ms ret ini Rt) {pc : Nat} {ci fk ix N : Nat} {C ref : String} {T : u_T} (hc : vwCl[ci]? = some (C, T, N)) (hin : ∀ w ∈ u_ws C T N, w ∈ tb) (hk : fk < N) (hlink : Cond.fieldLink own ix ref (T fk).2.1 (T fk).2.2.1 ∈ tb) (hsame : ref = (T fk).1 ∨ Cond.sameField ref (T fk).1 (T fk).2.1 (T fk).2.2.1 ∈ tb) (hd : decode cc pc = .ok (.getfield ix, 3)) {K : zKT} (hK : zLe K (zG X (pc + 3))) : zLe (i_gf ci fk K) (zG X pc) := by
  obtain ⟨p, l, e, R, s, m, args, below, meth, c, Q, nL, D, A, ad0, M0⟩ := X
  obtain ⟨hx, hb, hml, hown, hts, hKS, hSF, hA, hR, hQ, hret, hlk, hini⟩ := hC
  intro L st M k n h
  unfold i_gf at h
  split at h
  · next a st =>
    split at h
    · next cj fs hM =>
      obtain ⟨rfl, h⟩ := h
      split at h
      · next v hv =>
        intro ad H locs ls hH
        have hz := hH.1.1 a _ hM
        have hP : va_P D vwCl [(ad a, .inr (cj, fs.map (zcv ad)))] H := fun j q hq => by
          have hj : j < 1 := (List.getElem?_eq_some_iff.mp hq).1
          rw [show j = 0 by omega] at hq
          cases hq
          exact hz
        have hvv : (fs.map (zcv ad))[fk]? = some (zcv ad v) := by rw [List.getElem?_map, ← zfg_e, hv]; rfl
        have hal : zalv M v := by
          rw [zfg_e] at hv
          match v, hv with
          | .inl w, _ => trivial
          | .inr b, hv => exact hH.1.2.2.2 a _ hM b (show Sum.inr b ∈ fs from List.mem_of_getElem? hv)
        have hs : ∀ x, s.fieldFound? (T fk).1 (T fk).2.1 (T fk).2.2.1 = some x → s.fieldFound? ref (T fk).2.1 (T fk).2.2.1 = some x := by
          rcases hsame with e1 | e1
          · rw [e1]; exact fun _ h => h
          · exact fun x hx => u_same (hts _ e1) x hx
        exact va_get (D := D) (cl := vwCl) hx hb hts hin hown hKS.1 hP 0 rfl hc fk hk (hts _ hlink) hs hvv hd (hK L _ M k n h ad H locs ls (zHd_st hH (fun h => zsv_c hal (zsv_t h))))
      · exact h.elim
    · exact h.elim
  · exact h.elim
def i_pf (ci fk : Nat) (ty : FieldType) (K : zKT) : zKT := fun L st M k n => match st with
  | v :: .inr a :: st => match M a with
    | some (.inr (cj, fs)) => cj = ci ∧ zmo a ∧ zft ty v ∧ fk < fs.length ∧ K L st (zup M a (.inr (ci, fs.set fk v))) k n
    | _ => False
  | _ => False
theorem zrf_set {M : zMp} {a : zNm} {ci : Nat} {fs : List zAV} {fk : Nat} {v : zAV} (hcl : zcl M) (hM : M a = some (.inr (ci, fs))) (hv : zalv M v) : ∀ n', zrf (.inr (ci, fs.set fk v)) n' → M n' ≠ none := by
  intro n' hn
  rcases List.mem_or_eq_of_mem_set (show Sum.inr n' ∈ fs.set fk v from hn) with h | h
  · exact hcl a _ hM n' h
  · rw [← h] at hv; exact hv
theorem sd_pf {X : zMa} {own : String} {cc : ByteArray} {fr lo mc ms : Nat} {ret : Option FieldType} {ini : Bool} {Rt : Option zAV → zMp → Prop} (hC : zCx X own cc fr lo mc ms ret ini Rt) {pc : Nat} {ci fk ix N : Nat} {C ref : String} {T : u_T} (hc : vwCl[ci]? = some (C, T, N)) (hin : ∀ w ∈ u_ws C T N, w ∈ tb) (ty0 : Nat → FieldType) (hty : ∀ k, k < N → parseFieldDescriptor (T k).2.2.1 = some (ty0 k)) (hnm : ∀ a, a < N → ∀ b, b < N → a ≠ b → (T a).2.1 ≠ (T b).2.1) (hk : fk < N) (hlink : Cond.fieldLink own ix ref (T fk).2.1 (T fk).2.2.1 ∈ tb) (hsame : ref = (T fk).1 ∨ Cond.sameField ref (T fk).1 (T fk).2.1 (T fk).2.2.1 ∈ tb) (hfin : (T fk).2.2.2 = false ∨ (ini = true ∧ (T fk).1 = own)) (hd : decode cc pc = .ok (.putfield ix, 3)) {K : zKT} (hK : zLe K (zG X (pc + 3))) : zLe (i_pf ci fk (ty0 fk) K) (zG X pc) := by
  obtain ⟨p, l, e, R, s, m, args, below, meth, c, Q, nL, D, A, ad0, M0⟩ := X
  obtain ⟨hx, hb, hml, hown, hts, hKS, hSF, hA, hR, hQ, hret, hlk, hini⟩ := hC
  intro L st M k n h
  unfold i_pf at h
  split at h
  · next v a st =>
    split at h
    · next cj fs hM =>
      obtain ⟨rfl, hmo, hft, hl, h⟩ := h
      intro ad H locs ls hH
      have hap := va_apart (own := own) hts hin ty0 hty hnm hKS.1 hc
      obtain ⟨r, h1, cl0, q1, q2, q3, q4⟩ := hH.1.1 a _ hM
      have hr : r = (C, T, N) := Option.some.inj (h1.symm.trans hc)
      subst hr
      obtain ⟨hS, hfc, kC, hkC, hkind⟩ := hKS.1.1 cj _ hc
      obtain ⟨cf, kf, fi, f, hi, hsl⟩ := hS fk hk
      have hs : s.fieldFound? ref (T fk).2.1 (T fk).2.2.1 = some (cf, kf, fi, f) := by
        rcases hsame with e1 | e1
        · rw [e1]; exact hi
        · exact u_same (hts _ e1) _ hi
      have hlay := hts _ (hin _ (u_in_lay hk))
      have hst := (u_facts hfc hkC (u_lays hts hin hk) hi).1
      obtain ⟨g1, g2⟩ := zft_ok (ad := ad) hft
      have fin : ∀ (H' : Heap) (jj : Nat), H'[ad a]? = some (cl0.setSlot (D.2 cj fk) (zcv ad v)) → H'.size = H.size → (∀ q, q ≠ ad a → H'[q]? = H[q]?) → W p l e R s m args below meth c H' (locs ++ [⟨ad a, jj⟩]) k n Q (F0 m (pc + 3) ls (st.map (zcv ad))) := by
        intro H' jj e1 e2 e3
        refine hK L st _ k n h ad H' _ ls (zHd_put hH hM hmo ⟨_, hc, t_OB.to (V := updV (vp_V (fs.map (zcv ad))) fk (zcv ad v)) ⟨_, e1, q2, q3, t_set q4 hap hk (zcv ad v)⟩ (fun j _ => ?_)⟩ (zrf_set hH.1.2.2.2 hM (zsv_h hH.2.2.2.2.2)) e2 e3 (fun h => zsv_t (zsv_t h)))
        rw [List.map_set]
        exact vp_updV_set (by rw [List.length_map]; exact hl) _ j
      unfold u_lay at hlay
      rcases hfin with hfin | ⟨hi1, hi2⟩
      · rw [if_neg (by rw [hfin]; decide)] at hlay
        have h6 := u_store hfc hkC hkind hlay hi (hty fk hk) g1 g2
        refine W.putK hx hb (f := f) ⟨hown, hts _ hlink, ⟨_, _, _, hs⟩, hst⟩ (by rw [q2]; exact h6) q1 q3 (by rw [hsl]; exact k2_hasslot (q4 fk hk)) rfl rfl hd fun H' e1 e2 e3 => ?_
        rw [hsl] at e1 ⊢
        exact fin H' _ e1 e2 e3
      · by_cases hff : (T fk).2.2.2 = true
        · rw [if_pos hff] at hlay
          have hcf : m.cls = cf := by
            obtain ⟨_, _, c', _, _, _, -, -, hf', -, -, -, hown2, -⟩ := Cond.laysFinal_spec hlay
            have e1 : c' = cf := by have := hi.symm.trans hf'; simp at this; exact this.1.symm
            rw [hi2] at hown2
            rw [← e1]; exact Option.some.inj (hown.symm.trans hown2)
          have h6 := u_fits hfc hkC hkind (Or.inr hlay) hi (hty fk hk) g1 g2
          refine W.putFinK hx hb hown (hts _ hlink) hs hst hcf (hini hi1) (by rw [q2]; exact h6) q1 q3 (by rw [hsl]; exact k2_hasslot (q4 fk hk)) rfl rfl hd fun H' e1 e2 e3 => ?_
          rw [hsl] at e1 ⊢
          exact fin H' _ e1 e2 e3
        · rw [if_neg hff] at hlay
          have h6 := u_store hfc hkC hkind hlay hi (hty fk hk) g1 g2
          refine W.putK hx hb (f := f) ⟨hown, hts _ hlink, ⟨_, _, _, hs⟩, hst⟩ (by rw [q2]; exact h6) q1 q3 (by rw [hsl]; exact k2_hasslot (q4 fk hk)) rfl rfl hd fun H' e1 e2 e3 => ?_
          rw [hsl] at e1 ⊢
          exact fin H' _ e1 e2 e3
    · exact h.elim
  · exact h.elim
/-! arrays -/
theorem zKa {D : va_G} {s : State} {cA : ClassId} {ty : FieldType} (h : va_K D vwCl [] s) (h1 : ArrOfT s cA ty) (h2 : va_RA s cA ty) : va_K D vwCl [(cA, ty)] s := ⟨h.1, fun k q hq => by
  have hj : k < 1 := (List.getElem?_eq_some_iff.mp hq).1
  rw [show k = 0 by omega] at hq
  cases hq
  exact ⟨h1, h2⟩⟩
theorem zPa {D : va_G} {a : Nat} {x : va_E} {H : Heap} (h : va_at D vwCl (a, x) H) : va_P D vwCl [(a, x)] H := fun j q hq => by
  have hj : j < 1 := (List.getElem?_eq_some_iff.mp hq).1
  rw [show j = 0 by omega] at hq
  cases hq
  exact h
theorem zPb {D : va_G} {a : Nat} {cA : ClassId} {y : vp_A} {H : Heap} (h : H[a]? = some (vp_cell cA y)) : va_P D vwCl [(a, .inl (cA, y))] H := zPa (x := .inl (cA, y)) h
def zov : Option zNm → zAV
  | none => .inl .null
  | some n => .inr n
theorem zov_rf (ad : zNm → Nat) (r : Option zNm) : va_rf (r.map ad) = zcv ad (zov r) := by cases r <;> rfl

def i_ial (K : zKT) : zKT := fun L st M k n => match st with
  | .inl (.int i) :: .inr a :: st => match M a with
    | some (.inl (ty, len, .inl f)) => ty = .int ∧ vp_in i len ∧ K L (.inl (.int (f i.toNatClampNeg)) :: st) M k n
    | _ => False
  | _ => False
theorem sd_ial {X : zMa} {own : String} {cc : ByteArray} {fr lo mc ms : Nat} {ret : Option FieldType} {ini : Bool} {Rt : Option zAV → zMp → Prop} (hC : zCx X own cc fr lo mc ms ret ini Rt) {pc : Nat} (hd : decode cc pc = .ok (.iaload, 1)) {K : zKT} (hK : zLe K (zG X (pc + 1))) : zLe (i_ial K) (zG X pc) := by
  obtain ⟨p, l, e, R, s, m, args, below, meth, c, Q, nL, D, A, ad0, M0⟩ := X
  obtain ⟨hx, hb, hml, hown, hts, hKS, hSF, hA, hR, hQ, hret, hlk, hini⟩ := hC
  intro L st M k n h
  unfold i_ial at h
  split at h
  · next i a st =>
    split at h
    · next ty len f hM =>
      obtain ⟨rfl, hin, h⟩ := h
      intro ad H locs ls hH
      obtain ⟨cA, h1, h2, h3⟩ := hH.1.1 a _ hM
      exact va_iald (D := D) (cl := vwCl) hx hb (zKa hKS.1 h1 h2) (zPb h3) 0 0 rfl rfl hin hd (hK L _ M k n h ad H locs ls (zHd_st hH (fun h => zsv_c trivial (zsv_t (zsv_t h)))))
    · exact h.elim
  · exact h.elim

def i_bal (K : zKT) : zKT := fun L st M k n => match st with
  | .inl (.int i) :: .inr a :: st => match M a with
    | some (.inl (ty, len, .inl f)) => ty = .boolean ∧ vp_in i len ∧ K L (.inl (.int (f i.toNatClampNeg)) :: st) M k n
    | _ => False
  | _ => False
theorem sd_bal {X : zMa} {own : String} {cc : ByteArray} {fr lo mc ms : Nat} {ret : Option FieldType} {ini : Bool} {Rt : Option zAV → zMp → Prop} (hC : zCx X own cc fr lo mc ms ret ini Rt) {pc : Nat} (hd : decode cc pc = .ok (.baload, 1)) {K : zKT} (hK : zLe K (zG X (pc + 1))) : zLe (i_bal K) (zG X pc) := by
  obtain ⟨p, l, e, R, s, m, args, below, meth, c, Q, nL, D, A, ad0, M0⟩ := X
  obtain ⟨hx, hb, hml, hown, hts, hKS, hSF, hA, hR, hQ, hret, hlk, hini⟩ := hC
  intro L st M k n h
  unfold i_bal at h
  split at h
  · next i a st =>
    split at h
    · next ty len f hM =>
      obtain ⟨rfl, hin, h⟩ := h
      intro ad H locs ls hH
      obtain ⟨cA, h1, h2, h3⟩ := hH.1.1 a _ hM
      exact va_zald (D := D) (cl := vwCl) hx hb (zKa hKS.1 h1 h2) (zPb h3) 0 0 rfl rfl hin hd (hK L _ M k n h ad H locs ls (zHd_st hH (fun h => zsv_c trivial (zsv_t (zsv_t h)))))
    · exact h.elim
  · exact h.elim

def i_lal (K : zKT) : zKT := fun L st M k n => match st with
  | .inl (.int i) :: .inr a :: st => match M a with
    | some (.inl (ty, len, .inr (.inl f))) => ty = .long ∧ vp_in i len ∧ K L (.inl (.long (f i.toNatClampNeg)) :: st) M k n
    | _ => False
  | _ => False
theorem sd_lal {X : zMa} {own : String} {cc : ByteArray} {fr lo mc ms : Nat} {ret : Option FieldType} {ini : Bool} {Rt : Option zAV → zMp → Prop} (hC : zCx X own cc fr lo mc ms ret ini Rt) {pc : Nat} (hd : decode cc pc = .ok (.laload, 1)) {K : zKT} (hK : zLe K (zG X (pc + 1))) : zLe (i_lal K) (zG X pc) := by
  obtain ⟨p, l, e, R, s, m, args, below, meth, c, Q, nL, D, A, ad0, M0⟩ := X
  obtain ⟨hx, hb, hml, hown, hts, hKS, hSF, hA, hR, hQ, hret, hlk, hini⟩ := hC
  intro L st M k n h
  unfold i_lal at h
  split at h
  · next i a st =>
    split at h
    · next ty len f hM =>
      obtain ⟨rfl, hin, h⟩ := h
      intro ad H locs ls hH
      obtain ⟨cA, h1, h2, h3⟩ := hH.1.1 a _ hM
      exact va_lald (D := D) (cl := vwCl) hx hb (zKa hKS.1 h1 h2) (zPb h3) 0 0 rfl rfl hin hd (hK L _ M k n h ad H locs ls (zHd_st hH (fun h => zsv_c trivial (zsv_t (zsv_t h)))))
    · exact h.elim
  · exact h.elim

def i_aal (C : String) (K : zKT) : zKT := fun L st M k n => match st with
  | .inl (.int i) :: .inr a :: st => match M a with
    | some (.inl (ty, len, .inr (.inr f))) => ty = .object C ∧ vp_in i len ∧ K L (zov (f i.toNatClampNeg) :: st) M k n
    | _ => False
  | _ => False
theorem sd_aal {X : zMa} {own : String} {cc : ByteArray} {fr lo mc ms : Nat} {ret : Option FieldType} {ini : Bool} {Rt : Option zAV → zMp → Prop} (hC : zCx X own cc fr lo mc ms ret ini Rt) {pc : Nat} {C : String} (hd : decode cc pc = .ok (.aaload, 1)) {K : zKT} (hK : zLe K (zG X (pc + 1))) : zLe (i_aal C K) (zG X pc) := by
  obtain ⟨p, l, e, R, s, m, args, below, meth, c, Q, nL, D, A, ad0, M0⟩ := X
  obtain ⟨hx, hb, hml, hown, hts, hKS, hSF, hA, hR, hQ, hret, hlk, hini⟩ := hC
  intro L st M k n h
  unfold i_aal at h
  split at h
  · next i a st =>
    split at h
    · next ty len f hM =>
      obtain ⟨rfl, hin, h⟩ := h
      intro ad H locs ls hH
      obtain ⟨cA, h1, h2, h3⟩ := hH.1.1 a _ hM
      have hal : zalv M (zov (f i.toNatClampNeg)) := by
        cases hf : f i.toNatClampNeg with
        | none => trivial
        | some b => exact hH.1.2.2.2 a _ hM b ⟨_, hf⟩
      have hg := hK L _ M k n h ad H locs ls (zHd_st hH (fun h => zsv_c hal (zsv_t (zsv_t h))))
      refine va_aldq (D := D) (cl := vwCl) hx hb (zKa hKS.1 h1 h2) (zPb h3) 0 0 rfl rfl hin hd ?_
      rw [zov_rf]
      exact hg
    · exact h.elim
  · exact h.elim

def i_ias (K : zKT) : zKT := fun L st M k n => match st with
  | .inl (.int x) :: .inl (.int i) :: .inr a :: st => match M a with
    | some (.inl (ty, len, .inl f)) => ty = .int ∧ zmo a ∧ vp_in i len ∧ K L st (zup M a (.inl (.int, len, .inl (upd f i.toNatClampNeg x)))) k n
    | _ => False
  | _ => False
theorem sd_ias {X : zMa} {own : String} {cc : ByteArray} {fr lo mc ms : Nat} {ret : Option FieldType} {ini : Bool} {Rt : Option zAV → zMp → Prop} (hC : zCx X own cc fr lo mc ms ret ini Rt) {pc : Nat} (hd : decode cc pc = .ok (.iastore, 1)) {K : zKT} (hK : zLe K (zG X (pc + 1))) : zLe (i_ias K) (zG X pc) := by
  obtain ⟨p, l, e, R, s, m, args, below, meth, c, Q, nL, D, A, ad0, M0⟩ := X
  obtain ⟨hx, hb, hml, hown, hts, hKS, hSF, hA, hR, hQ, hret, hlk, hini⟩ := hC
  intro L st M k n h
  unfold i_ias at h
  split at h
  · next x i a st =>
    split at h
    · next ty len f hM =>
      obtain ⟨rfl, hmo, hin, h⟩ := h
      intro ad H locs ls hH
      obtain ⟨cA, h1, h2, h3⟩ := hH.1.1 a _ hM
      refine W.iast hx hb h3 (h1 len _) (fun q => by cases q) (by show ¬ (i < 0 ∨ (arrV _ _ _).slots.size ≤ _); rw [arrV_size]; exact hin) rfl rfl hd fun H1 e1 z oq => ?_
      refine hK L st _ k n h ad H1 _ ls (zHd_put hH hM hmo ⟨cA, h1, h2, ?_⟩ (fun _ hn => hn.elim) z oq (fun h => zsv_t (zsv_t (zsv_t h))))
      rw [e1]
      simp only [zca]
      rw [vp_cell_i, vp_cell_i, arrV_store]
      congr 2
      funext q
      by_cases hq : q = i.toNatClampNeg
      · subst hq
        simp [updV, upd]
      · simp [updV, upd, hq]
    · exact h.elim
  · exact h.elim

def i_las (K : zKT) : zKT := fun L st M k n => match st with
  | .inl (.long x) :: .inl (.int i) :: .inr a :: st => match M a with
    | some (.inl (ty, len, .inr (.inl f))) => ty = .long ∧ zmo a ∧ vp_in i len ∧ K L st (zup M a (.inl (.long, len, .inr (.inl (vp_updL f i.toNatClampNeg x))))) k n
    | _ => False
  | _ => False
theorem sd_las {X : zMa} {own : String} {cc : ByteArray} {fr lo mc ms : Nat} {ret : Option FieldType} {ini : Bool} {Rt : Option zAV → zMp → Prop} (hC : zCx X own cc fr lo mc ms ret ini Rt) {pc : Nat} (hd : decode cc pc = .ok (.lastore, 1)) {K : zKT} (hK : zLe K (zG X (pc + 1))) : zLe (i_las K) (zG X pc) := by
  obtain ⟨p, l, e, R, s, m, args, below, meth, c, Q, nL, D, A, ad0, M0⟩ := X
  obtain ⟨hx, hb, hml, hown, hts, hKS, hSF, hA, hR, hQ, hret, hlk, hini⟩ := hC
  intro L st M k n h
  unfold i_las at h
  split at h
  · next x i a st =>
    split at h
    · next ty len f hM =>
      obtain ⟨rfl, hmo, hin, h⟩ := h
      intro ad H locs ls hH
      obtain ⟨cA, h1, h2, h3⟩ := hH.1.1 a _ hM
      refine W.last hx hb h3 (h1 len _) (fun q => by cases q) (by show ¬ (i < 0 ∨ (arrV _ _ _).slots.size ≤ _); rw [arrV_size]; exact hin) rfl rfl hd fun H1 e1 z oq => ?_
      refine hK L st _ k n h ad H1 _ ls (zHd_put hH hM hmo ⟨cA, h1, h2, ?_⟩ (fun _ hn => hn.elim) z oq (fun h => zsv_t (zsv_t (zsv_t h))))
      rw [e1]
      simp only [zca]
      rw [vp_cell_l, vp_cell_l, arrV_store]
      congr 2
      funext q
      by_cases hq : q = i.toNatClampNeg
      · subst hq
        simp [updV, vp_updL]
      · simp [updV, vp_updL, hq]
    · exact h.elim
  · exact h.elim

def i_bas (K : zKT) : zKT := fun L st M k n => match st with
  | .inl (.int x) :: .inl (.int i) :: .inr a :: st => match M a with
    | some (.inl (ty, len, .inl f)) => ty = .boolean ∧ zmo a ∧ vp_in i len ∧ (x = 0 ∨ x = 1) ∧ K L st (zup M a (.inl (.boolean, len, .inl (upd f i.toNatClampNeg x)))) k n
    | _ => False
  | _ => False
theorem sd_bas {X : zMa} {own : String} {cc : ByteArray} {fr lo mc ms : Nat} {ret : Option FieldType} {ini : Bool} {Rt : Option zAV → zMp → Prop} (hC : zCx X own cc fr lo mc ms ret ini Rt) {pc : Nat} (hd : decode cc pc = .ok (.bastore, 1)) {K : zKT} (hK : zLe K (zG X (pc + 1))) : zLe (i_bas K) (zG X pc) := by
  obtain ⟨p, l, e, R, s, m, args, below, meth, c, Q, nL, D, A, ad0, M0⟩ := X
  obtain ⟨hx, hb, hml, hown, hts, hKS, hSF, hA, hR, hQ, hret, hlk, hini⟩ := hC
  intro L st M k n h
  unfold i_bas at h
  split at h
  · next x i a st =>
    split at h
    · next ty len f hM =>
      obtain ⟨rfl, hmo, hin, hb01, h⟩ := h
      intro ad H locs ls hH
      obtain ⟨cA, h1, h2, h3⟩ := hH.1.1 a _ hM
      refine W.zast hx hb h3 (h1 len _) (fun q => by cases q) (by show ¬ (i < 0 ∨ (arrV _ _ _).slots.size ≤ _); rw [arrV_size]; exact hin) rfl rfl hd fun H1 e1 z oq => ?_
      refine hK L st _ k n h ad H1 _ ls (zHd_put hH hM hmo ⟨cA, h1, h2, ?_⟩ (fun _ hn => hn.elim) z oq (fun h => zsv_t (zsv_t (zsv_t h))))
      rw [e1]
      simp only [zca]
      rw [vp_cell_i, vp_cell_i, arrV_store]
      congr 2
      funext q
      by_cases hq : q = i.toNatClampNeg
      · subst hq
        rcases hb01 with h0 | h0 <;> subst h0 <;> simp [updV, upd, narrow] <;> decide
      · simp [updV, upd, hq]
    · exact h.elim
  · exact h.elim

def zcast (ci : Nat) (C : String) : Prop := match vwCl[ci]? with
  | some r => r.1 = C ∨ Cond.castable r.1 C ∈ xw
  | none => False
def zok (M : zMp) (C : String) : zAV → Prop
  | .inl .null => True
  | .inr b => (match M b with
    | some (.inr (ci, _)) => zcast ci C
    | _ => False)
  | _ => False
def zto : zAV → Option zNm
  | .inr b => some b
  | _ => none
def i_aas (C : String) (K : zKT) : zKT := fun L st M k n => match st with
  | v :: .inl (.int i) :: .inr a :: st => match M a with
    | some (.inl (ty, len, .inr (.inr f))) => ty = .object C ∧ zmo a ∧ vp_in i len ∧ zok M C v ∧ K L st (zup M a (.inl (.object C, len, .inr (.inr (va_up f i.toNatClampNeg (zto v)))))) k n
    | _ => False
  | _ => False
theorem sd_aas {X : zMa} {own : String} {cc : ByteArray} {fr lo mc ms : Nat} {ret : Option FieldType} {ini : Bool} {Rt : Option zAV → zMp → Prop} (hC : zCx X own cc fr lo mc ms ret ini Rt) {pc : Nat} {C : String} (hd : decode cc pc = .ok (.aastore, 1)) {K : zKT} (hK : zLe K (zG X (pc + 1))) : zLe (i_aas C K) (zG X pc) := by
  obtain ⟨p, l, e, R, s, m, args, below, meth, c, Q, nL, D, A, ad0, M0⟩ := X
  obtain ⟨hx, hb, hml, hown, hts, hKS, hSF, hA, hR, hQ, hret, hlk, hini⟩ := hC
  intro L st M k n h
  unfold i_aas at h
  split at h
  · next v i a st =>
    split at h
    · next ty len f hM =>
      obtain ⟨rfl, hmo, hin, hok, h⟩ := h
      intro ad H locs ls hH
      obtain ⟨cA, h1, h2, h3⟩ := hH.1.1 a _ hM
      have hlt : i.toNatClampNeg < len := Nat.not_le.mp fun q => hin (Or.inr q)
      have h0 : ¬ i < 0 := fun q => hin (Or.inl q)
      have fin : ∀ (H1 : Heap) (w : Value), zcv ad v = w → H1[ad a]? = some ((vp_cell cA (len, zca ad (.inr (.inr f)))).setSlot i.toNatClampNeg w) → H1.size = H.size → (∀ q, q ≠ ad a → H1[q]? = H[q]?) → va_rf ((zto v).map ad) = w → W p l e R s m args below meth c H1 (locs ++ [⟨ad a, i.toNatClampNeg⟩]) k n Q (F0 m (pc + 1) ls (st.map (zcv ad))) := by
        intro H1 w ew e1 z oq ez
        refine hK L st _ k n h ad H1 _ ls (zHd_put hH hM hmo ⟨cA, h1, h2, ?_⟩ ?_ z oq (fun h => zsv_t (zsv_t (zsv_t h))))
        · rw [e1]
          simp only [zca]
          rw [vp_cell_q, vp_cell_q, arrV_store]
          congr 2
          funext q
          by_cases hq : q = i.toNatClampNeg
          · subst hq
            simp [updV, va_up, ez]
          · simp [updV, va_up, hq]
        · rintro n' ⟨j, hj⟩
          by_cases hq : j = i.toNatClampNeg
          · simp only [va_up, hq, if_true] at hj
            have hal := zsv_h hH.2.2.2.2.2
            match v, hj, hal with
            | .inr b, hj, hal => simp only [zto, Option.some.injEq] at hj; rw [← hj]; exact hal
          · simp only [va_up, hq, if_false] at hj
            exact hH.1.2.2.2 a _ hM n' ⟨j, hj⟩
      match v, hok, fin, hH with
      | .inl .null, _, fin, hH =>
        exact va_WaastN (C := C) hx hb h3 (h1 len _) (fun h => by cases h) (by show ¬ (i < 0 ∨ (arrV _ _ _).slots.size ≤ _); rw [arrV_size]; exact hin) rfl rfl hd fun H1 e1 z oq => fin H1 _ rfl e1 z oq rfl
      | .inr b, hok, fin, hH =>
        simp only [zok] at hok
        split at hok
        · next ci fs hMb =>
          unfold zcast at hok
          split at hok
          · next r hr =>
            obtain ⟨r', hr', cV, g1, g2, g3, -⟩ := hH.1.1 b _ hMb
            have hrr : r' = r := Option.some.inj (hr'.symm.trans hr)
            subst hrr
            have hcls := (hKS.1.1 ci r' hr).2
            obtain ⟨kA, comp, k1, k2, k3, -⟩ := h2
            obtain ⟨kC, hkC, -⟩ := id hcls.2
            have hasg : s.vm.assignable (D.1 ci) comp = true := by
              rcases hok with e1 | e1
              · have hcomp : comp = D.1 ci := Option.some.inj (k3.symm.trans (by rw [← e1]; exact hcls.1))
                rw [hcomp]
                exact va_assign hcls
              · obtain ⟨c0, t0, f1, f2, f3⟩ := Cond.castable_spec (hKS.2.1 _ e1)
                have e2 : c0 = D.1 ci := Option.some.inj (f1.symm.trans hcls.1)
                have e3 : t0 = comp := Option.some.inj (f2.symm.trans k3)
                rw [← e2, ← e3]
                exact f3
            obtain ⟨kcomp, hkcomp, -⟩ := Vm.findClass_spec k3
            exact W.aast hx hb h3 (fun q h => by cases h) (fun h => by cases h) k1 k2 rfl hkcomp ⟨h0, by show _ < (arrV _ _ _).slots.size; rw [arrV_size]; exact hlt⟩ g1 (fun q h => by rw [g3] at h; cases h) (by rw [g2]; exact hkC) (by rw [g2]; exact hasg) rfl rfl hd fun H1 e1 z oq => fin H1 _ rfl e1 z oq rfl
          · exact hok.elim
        · exact hok.elim
    · exact h.elim
  · exact h.elim
end
section
def i_alen (K : zKT) : zKT := fun L st M k n => match st with
  | .inr a :: st => match M a with
    | some (.inl (_, len, _)) => K L (.inl (.int (nI len)) :: st) M k n
    | _ => False
  | _ => False
theorem sd_alen {X : zMa} {own : String} {cc : ByteArray} {fr lo mc ms : Nat} {ret : Option FieldType} {ini : Bool} {Rt : Option zAV → zMp → Prop} (hC : zCx X own cc fr lo mc ms ret ini Rt) {pc : Nat} (hd : decode cc pc = .ok (.arraylength, 1)) {K : zKT} (hK : zLe K (zG X (pc + 1))) : zLe (i_alen K) (zG X pc) := by
  obtain ⟨p, l, e, R, s, m, args, below, meth, c, Q, nL, D, A, ad0, M0⟩ := X
  obtain ⟨hx, hb, hml, hown, hts, hKS, hSF, hA, hR, hQ, hret, hlk, hini⟩ := hC
  intro L st M k n h
  unfold i_alen at h
  split at h
  · next a st =>
    split at h
    · next ty len f hM =>
      intro ad H locs ls hH
      obtain ⟨cA, h1, h2, h3⟩ := hH.1.1 a _ hM
      exact va_alen (D := D) (cl := vwCl) hx hb (zKa hKS.1 h1 h2) (zPb h3) 0 0 rfl rfl rfl hd (hK L _ M k n h ad H locs ls (zHd_st hH (fun h => zsv_c trivial (zsv_t h))))
    · exact h.elim
  · exact h.elim
/-- new arrays of numbers -/
def z0 : FieldType → zAA
  | .long => .inr (.inl (fun _ => 0))
  | _ => .inl (fun _ => 0)
def i_newa (mc ms : Nat) (ty : FieldType) (K : zKT) : zKT := fun L st M k n => match st with
  | .inl (.int x) :: st => ∃ a : zNm, M a = none ∧ zmo a ∧ ¬ x < 0 ∧ x.toNatClampNeg ≤ 100000 ∧ k + 1 ≤ mc ∧ n + x.toNatClampNeg ≤ ms ∧ K L (.inr a :: st) (zup M a (.inl (ty, x.toNatClampNeg, z0 ty))) (k + 1) (n + x.toNatClampNeg)
  | _ => False
theorem zself (ad : zNm → Nat) (a : zNm) (q : Nat) : zua ad a q a = q := if_pos rfl
theorem sd_newa {X : zMa} {own : String} {cc : ByteArray} {fr lo mc ms : Nat} {ret : Option FieldType} {ini : Bool} {Rt : Option zAV → zMp → Prop} (hC : zCx X own cc fr lo mc ms ret ini Rt) {pc : Nat} {at0 : ArrayType} {ty : FieldType} (hty : newarray.typeOf at0 = ty) (hok : ty = .int ∨ ty = .long ∨ ty = .boolean) (harr : Cond.arrayClass ty ∈ tb) (hd : decode cc pc = .ok (.newarray at0, 2)) {K : zKT} (hK : zLe K (zG X (pc + 2))) : zLe (i_newa mc ms ty K) (zG X pc) := by
  obtain ⟨p, l, e, R, s, m, args, below, meth, c, Q, nL, D, A, ad0, M0⟩ := X
  obtain ⟨hx, hb, hml, hown, hts, hKS, hSF, hA, hR, hQ, hret, hlk, hini⟩ := hC
  subst hR
  intro L st M k n h
  unfold i_newa at h
  split at h
  · next x st =>
    obtain ⟨a, ha, hm, h0, hlen, hk1, hn1, h⟩ := h
    intro ad H locs ls hH
    subst hty
    refine va_newaK hx hb (hts _ harr) rfl hd rfl h0 rfl ?_ hk1 hn1 rfl fun H1 cA e1 z1 o1 hAr hNm => ?_
    · refine Nat.le_trans (Nat.mul_le_mul_right _ hlen) ?_
      rcases hok with e0 | e0 | e0 <;> rw [e0] <;> decide
    · have hcell : H1[H.size]? = some (vp_cell cA (x.toNatClampNeg, zca (zua ad a H.size) (z0 (newarray.typeOf at0)))) := by
        rw [e1]
        rcases hok with e0 | e0 | e0 <;> rw [e0] <;> rfl
      have hRA : va_RA s cA (newarray.typeOf at0) := by
        rcases hok with e0 | e0 | e0 <;> rw [e0] at hNm ⊢ <;> exact hNm
      have hr : ∀ n', ¬ zrf (.inl (newarray.typeOf at0, x.toNatClampNeg, z0 (newarray.typeOf at0))) n' := by
        rcases hok with e0 | e0 | e0 <;> rw [e0] <;> exact fun _ hn => hn
      have hg := hK L _ _ _ _ h _ H1 locs ls (zHd_new (st' := st) hH ha hm hA ⟨cA, hAr, hRA, by rw [zself]; exact hcell⟩ hr z1 o1 zsv_t)
      have hst : (Sum.inr a :: st).map (zcv (zua ad a H.size)) = Value.ref H.size :: st.map (zcv ad) := by
        rw [List.map_cons, zst_new ha (zsv_t hH.2.2.2.2.2)]
        simp only [zcv, zself]
      rw [hst] at hg
      exact hg
  · exact h.elim
/-- new objects -/
def i_new (mc ms ci N : Nat) (fs : List zAV) (K : zKT) : zKT := fun L st M k n => ∃ a : zNm, M a = none ∧ zmo a ∧ k + 1 ≤ mc ∧ n + N ≤ ms ∧ K L (.inr a :: st) (zup M a (.inr (ci, fs))) (k + 1) (n + N)
theorem sd_new {X : zMa} {own : String} {cc : ByteArray} {fr lo mc ms : Nat} {ret : Option FieldType} {ini : Bool} {Rt : Option zAV → zMp → Prop} (hC : zCx X own cc fr lo mc ms ret ini Rt) {pc : Nat} {ci ix N : Nat} {C : String} {T : u_T} {fs : List zAV} (hc : vwCl[ci]? = some (C, T, N)) (hin : ∀ w ∈ u_ws C T N, w ∈ tb) (ty0 : Nat → FieldType) (hty : ∀ k, k < N → parseFieldDescriptor (T k).2.2.1 = some (ty0 k)) (hcl : Cond.classLink own ix C ∈ tb) (hinst : Cond.instantiable C N ∈ tb) (hinit : Cond.initialized C ∈ tb) (hfs : ∀ j, j < N → some (Sum.inl (defaultValue (ty0 j))) = zfg fs j) (hnr : ∀ n : zNm, Sum.inr n ∉ fs) (hd : decode cc pc = .ok (.new ix, 3)) {K : zKT} (hK : zLe K (zG X (pc + 3))) : zLe (i_new mc ms ci N fs K) (zG X pc) := by
  obtain ⟨p, l, e, R, s, m, args, below, meth, c, Q, nL, D, A, ad0, M0⟩ := X
  obtain ⟨hx, hb, hml, hown, hts, hKS, hSF, hA, hR, hQ, hret, hlk, hini⟩ := hC
  subst hR
  intro L st M k n h
  obtain ⟨a, ha, hm, hk1, hn1, h⟩ := h
  intro ad H locs ls hH
  have hKn := hKS.1.1 ci _ hc
  refine W.newcK hx hb hown (hts _ hcl) (hts _ hinst) (hts _ hinit) rfl hd hk1 hn1 hKn.2.1 rfl fun H1 kC hkC e1 z1 o1 => ?_
  have hcell : t_OB H.size (D.1 ci) N (D.2 ci) H1 (vp_V (fs.map (zcv (zua ad a H.size)))) := (u_born ty0 hts hin hKn hkC e1 hty).to (fun j hj => by
    have h1 := hfs j hj
    rw [zfg_e] at h1
    simp only [vp_V, List.getD_eq_getElem?_getD, List.getElem?_map, ← h1]
    rfl)
  have hg := hK L _ _ _ _ h _ H1 locs ls (zHd_new (st' := st) hH ha hm hA ⟨_, hc, by rw [zself]; exact hcell⟩ (fun n' hn => hnr n' hn) z1 o1 id)
  have hst : (Sum.inr a :: st).map (zcv (zua ad a H.size)) = Value.ref H.size :: st.map (zcv ad) := by
    rw [List.map_cons, zst_new ha hH.2.2.2.2.2]
    simp only [zcv, zself]
  rw [hst] at hg
  exact hg
/-- new arrays of references -/
def i_anew (mc ms : Nat) (C : String) (K : zKT) : zKT := fun L st M k n => match st with
  | .inl (.int x) :: st => ∃ a : zNm, M a = none ∧ zmo a ∧ ¬ x < 0 ∧ x.toNatClampNeg ≤ 100000 ∧ k + 1 ≤ mc ∧ n + x.toNatClampNeg ≤ ms ∧ K L (.inr a :: st) (zup M a (.inl (.object C, x.toNatClampNeg, .inr (.inr (fun _ => none))))) (k + 1) (n + x.toNatClampNeg)
  | _ => False
theorem sd_anew {X : zMa} {own : String} {cc : ByteArray} {fr lo mc ms : Nat} {ret : Option FieldType} {ini : Bool} {Rt : Option zAV → zMp → Prop} (hC : zCx X own cc fr lo mc ms ret ini Rt) {pc : Nat} {ix : Nat} {C : String} (hcl : Cond.classLink own ix C ∈ tb) (hao : Cond.arrayOver (.object C) ∈ xw) (hd : decode cc pc = .ok (.anewarray ix, 3)) {K : zKT} (hK : zLe K (zG X (pc + 3))) : zLe (i_anew mc ms C K) (zG X pc) := by
  obtain ⟨p, l, e, R, s, m, args, below, meth, c, Q, nL, D, A, ad0, M0⟩ := X
  obtain ⟨hx, hb, hml, hown, hts, hKS, hSF, hA, hR, hQ, hret, hlk, hini⟩ := hC
  subst hR
  intro L st M k n h
  unfold i_anew at h
  split at h
  · next x st =>
    obtain ⟨a, ha, hm, h0, hlen, hk1, hn1, h⟩ := h
    intro ad H locs ls hH
    refine W.anew hx hb hown (hts _ hcl) (va_AO.use (va_AO.of (hKS.2.1 _ hao))) rfl hd rfl h0 (Nat.le_trans (Nat.mul_le_mul_right _ hlen) (by decide)) hk1 hn1 fun cA kA comp f1 f2 f3 f4 => ?_
    generalize hH1 : H.push ({ cls := cA, slots := Array.replicate x.toNatClampNeg .null, vm := .none } : Cell) = H1
    have z1 : H1.size = H.size + 1 := by rw [← hH1, Array.size_push]
    have e1 : H1[H.size]? = some (arrV cA x.toNatClampNeg (fun _ => .null)) := by rw [← hH1, Array.getElem?_push_size, ← arrV_new]
    have o1 : ∀ q : Nat, q < H.size → H1[q]? = H[q]? := fun q hq => by rw [← hH1, Array.getElem?_push, if_neg (Nat.ne_of_lt hq)]
    have hAr : ArrOfT s cA (.object C) := fun N z => ⟨(fun k h => by cases h), kA, f2, comp, f3⟩
    have hg := hK L _ _ _ _ h _ H1 locs ls (zHd_new (st' := st) hH ha hm hA ⟨cA, hAr, ⟨kA, comp, f2, f3, f4, f1⟩, by rw [zself]; exact e1⟩ (fun n' hn => by obtain ⟨j, hj⟩ := hn; cases hj) z1 o1 zsv_t)
    have hst : (Sum.inr a :: st).map (zcv (zua ad a H.size)) = Value.ref H.size :: st.map (zcv ad) := by
      rw [List.map_cons, zst_new ha (zsv_t hH.2.2.2.2.2)]
      simp only [zcv, zself]
    rw [hst] at hg
    exact hg
  · exact h.elim
/-! casts -/
def i_cast (C : String) (K : zKT) : zKT := fun L st M k n => match st with
  | .inl .null :: st => K L (.inl .null :: st) M k n
  | .inr a :: st => zok M C (.inr a) ∧ K L (.inr a :: st) M k n
  | _ => False
theorem sd_cast {X : zMa} {own : String} {cc : ByteArray} {fr lo mc ms : Nat} {ret : Option FieldType} {ini : Bool} {Rt : Option zAV → zMp → Prop} (hC : zCx X own cc fr lo mc ms ret ini Rt) {pc : Nat} {ix : Nat} {C : String} (hcl : Cond.classLink own ix C ∈ tb) (hd : decode cc pc = .ok (.checkcast ix, 3)) {K : zKT} (hK : zLe K (zG X (pc + 3))) : zLe (i_cast C K) (zG X pc) := by
  obtain ⟨p, l, e, R, s, m, args, below, meth, c, Q, nL, D, A, ad0, M0⟩ := X
  obtain ⟨hx, hb, hml, hown, hts, hKS, hSF, hA, hR, hQ, hret, hlk, hini⟩ := hC
  intro L st M k n h
  unfold i_cast at h
  split at h
  · intro ad H locs ls hH
    exact lv_castN hx hb hd (hK L _ M k n h ad H locs ls hH)
  · next a st =>
    obtain ⟨hok, h⟩ := h
    intro ad H locs ls hH
    simp only [zok] at hok
    split at hok
    · next ci fs hMb =>
      unfold zcast at hok
      split at hok
      · next r hr =>
        obtain ⟨r', hr', cV, g1, g2, g3, -⟩ := hH.1.1 a _ hMb
        have hrr : r' = r := Option.some.inj (hr'.symm.trans hr)
        subst hrr
        have hcls := (hKS.1.1 ci r' hr).2
        have hcell : ∃ cell : Cell, H[ad a]? = some cell ∧ cell.vm.isStatics = false ∧ s.vm.findClass r'.1 = some cell.cls := ⟨cV, g1, by rw [g3]; rfl, by rw [g2]; exact hcls.1⟩
        have hg := hK L _ M k n h ad H locs ls hH
        rcases hok with e1 | e1
        · subst e1
          exact va_castS hx hb hown (hts _ hcl) hcls hcell hd hg
        · exact va_castY hx hb hown (hts _ hcl) (hKS.2.1 _ e1) hcell hd hg
      · exact hok.elim
    · exact hok.elim
  · exact h.elim
/-! Object.<init> -/
def zcs : List zAV → Nat
  | [] => 0
  | .inl v :: t => v.category + zcs t
  | .inr _ :: t => 1 + zcs t
theorem zcs_e (ad : zNm → Nat) : ∀ st : List zAV, ((st.map (zcv ad)).map fun v => v.category).sum = zcs st
  | [] => rfl
  | .inl v :: t => by simp only [List.map_cons, List.sum_cons, zcs, zcv]; rw [← zcs_e ad t]
  | .inr _ :: t => by simp only [List.map_cons, List.sum_cons, zcs, zcv]; rw [← zcs_e ad t]; rfl
def i_oi (K : zKT) : zKT := fun L st M k n => match st with
  | .inr _ :: st => zcs st ≤ 8 ∧ K L st M k n
  | _ => False
theorem sd_oi {X : zMa} {own : String} {cc : ByteArray} {fr lo mc ms : Nat} {ret : Option FieldType} {ini : Bool} {Rt : Option zAV → zMp → Prop} (hC : zCx X own cc fr lo mc ms ret ini Rt) {pc : Nat} {ix : Nat} (h1 : Cond.methodLink own ix objectInit ∈ tb) (h2 : Cond.instanceMethod objectInit ∈ tb) (h3 : Cond.code objectInit ⟨#[0xb1]⟩ 1 none ∈ tb) (hfr : 1 ≤ fr) (hlo : 20 ≤ lo) (hd : decode cc pc = .ok (.invokespecial ix, 3)) {K : zKT} (hK : zLe K (zG X (pc + 3))) : zLe (i_oi K) (zG X pc) := by
  obtain ⟨p, l, e, R, s, m, args, below, meth, c, Q, nL, D, A, ad0, M0⟩ := X
  obtain ⟨hx, hb, hml, hown, hts, hKS, hSF, hA, hR, hQ, hret, hlk, hini⟩ := hC
  subst hR
  intro L st M k n h
  unfold i_oi at h
  split at h
  · next a st =>
    obtain ⟨hcs, h⟩ := h
    intro ad H locs ls hH
    have hr := lv_room (m := m) (pc := pc) (ls := ls) (rest := Value.ref (ad a) :: st.map (zcv ad)) (st := st.map (zcv ad)) (by rw [zcs_e]; exact hcs)
    refine W.objInit hx hb hown (hts _ h1) (hts _ h2) (hts _ h3) rfl (by rw [hml]; exact hH.2.2.1.1) rfl hd hfr (Nat.le_trans (Nat.add_le_add_right hr 12) hlo) ?_
    exact hK L _ M k n h ad H locs ls (zHd_st hH zsv_t)
  · exact h.elim
/-! calls -/
def zsp : Nat → List zAV → List zAV → Option (List zAV × List zAV)
  | 0, acc, st => some (acc, st)
  | k + 1, acc, v :: st => zsp k (v :: acc) st
  | _ + 1, _, [] => none
theorem zsp_e : ∀ (k : Nat) (acc st As rest : List zAV), zsp k acc st = some (As, rest) → acc.reverse ++ st = As.reverse ++ rest ∧ As.length = acc.length + k
  | 0, acc, st, As, rest, h => by
    simp only [zsp, Option.some.injEq, Prod.mk.injEq] at h
    obtain ⟨rfl, rfl⟩ := h
    exact ⟨rfl, rfl⟩
  | k + 1, acc, v :: st, As, rest, h => by
    have h1 := zsp_e k (v :: acc) st As rest h
    refine ⟨?_, ?_⟩
    · rw [← h1.1]; simp
    · rw [h1.2]; simp; omega
  | _ + 1, _, [], _, _, h => by simp [zsp] at h
def zSpc : Type := (List zAV → zMp → (Option zAV → zMp → Prop) → Prop) × (List zAV → zMp → Nat × Nat)
def i_call (mc ms na : Nat) (T : List zAV → zMp → (Option zAV → zMp → Prop) → Prop) (co : List zAV → zMp → Nat × Nat) (K : zKT) : zKT := fun L st M k n => match zsp na [] st with
  | some (As, rest) => zcs rest ≤ 8 ∧ k + (co As M).1 ≤ mc ∧ n + (co As M).2 ≤ ms ∧ T As M (fun v M' => K L (v.toList ++ rest) M' (k + (co As M).1) (n + (co As M).2))
  | none => False
def zrc (ci : Nat) (As : List zAV) (M : zMp) : Prop := match As with
  | .inr b :: _ => (match M b with
    | some (.inr (cj, _)) => cj = ci
    | _ => False)
  | _ => False
/-- the receiver is an object of class ci -/
def i_callV (mc ms ci na : Nat) (T : List zAV → zMp → (Option zAV → zMp → Prop) → Prop) (co : List zAV → zMp → Nat × Nat) (K : zKT) : zKT := fun L st M k n => match zsp na [] st with
  | some (As, rest) => zrc ci As M ∧ zcs rest ≤ 8 ∧ k + (co As M).1 ≤ mc ∧ n + (co As M).2 ≤ ms ∧ T As M (fun v M' => K L (v.toList ++ rest) M' (k + (co As M).1) (n + (co As M).2))
  | none => False
theorem zPc_blind {D : va_G} {ad : zNm → Nat} {M : zMp} {sz : Nat} {As : List zAV} : FrameBlind (zPc D ad M sz As) := by
  intro a U g mk q
  obtain ⟨q0, q1, q2, q3, q4⟩ := q
  refine ⟨q0, q1, zWd_moved (s := U) (U := U.calling g mk a) (Vm.Alike.refl U.vm) q2, ⟨va_K.moved (u := U) (U := U.calling g mk a) (Vm.Alike.refl U.vm) q3.1, fun w hw => ?_, q3.2.2.imp fun _ hm => hm.moved (u := U) (U := U.calling g mk a) (Vm.Alike.refl U.vm)⟩, fun h => va_Z.moved (u := U) (U := U.calling g mk a) (Vm.Alike.refl U.vm) (q4 h)⟩
  have h1 := q3.2.1 w hw
  have h2 := (List.mem_filter.mp hw).2
  match w, h1, h2 with
  | .castable C T, h1, _ => exact va_Nw.same (w := .castable C T) rfl (u := U) (U := U.calling g mk a) rfl h1
  | .methodLinkNest a0 i x hst, h1, _ => exact va_Nw.same (w := .methodLinkNest a0 i x hst) rfl (u := U) (U := U.calling g mk a) rfl h1
  | .declares x, h1, _ => exact va_Nw.same (w := .declares x) rfl (u := U) (U := U.calling g mk a) rfl h1
  | .arrayOver (.object C), h1, _ => exact va_AO.moved (C := C) (u := U) (U := U.calling g mk a) (Vm.Alike.refl U.vm) h1
/-- the callee's start out of the caller's frame -/
theorem zPc_of {s U : State} {nL : Nat} {D : va_G} {A : Nat → Prop} {ad0 : zNm → Nat} {M0 : zMp} {ad : zNm → Nat} {H : Heap} {locs : List Loc} {ls : Array Slot} {L : List (Option zAV)} {st As : List zAV} {M : zMp} (hH : zHd s nL D A ad0 M0 ad H locs ls L st M) (hKS : zKS D s) (hSF : zSF ad0 M0 A s s.heap) (hA : ∀ q, s.heap.size ≤ q → A q) (hU : U.heap = H) (hW : s.WarmedH U.vm) : zPc D ad M H.size As ((As.map (zcv ad)).toArray) U := by
  obtain ⟨h1, h2, h3, h4, h5, h6⟩ := hH
  refine ⟨rfl, by rw [hU], ?_, zKS_warm hW hKS, fun hn => ?_⟩
  · rw [hU]
    exact zWd_moved hW.alike (zWd_weak (fun _ _ _ => trivial) h1)
  · have hm : ¬ zmo znE := by unfold zmo znE; decide
    have h0 := h4.2 znE hm hn
    have hz := hSF h0
    rw [← (h4.1 znE h0).2] at hz
    have hAA : ∀ q, zA0 ad M H.size q → A q := by
      intro q hq
      rcases hq with ⟨n, k1, k2, k3⟩ | hq
      · rw [← k3]; exact h1.2.2.1 n k1 k2
      · exact hA q (Nat.le_trans h2.1 hq)
    rw [hU]
    exact va_Z.moved hW.alike ((va_Z.kept hz (fun a k1 k2 => h2.2.1 a k1 k2)).narrow hAA)
theorem zrun_go {p : Program} {l : Launch} {e : Env} {R : Room} {s : State} {m : MethodId} {args : Array Value} {below : List Frame} {meth : Method} {c : Code} {Q : State → Prop} {nL : Nat} {D : va_G} {A : Nat → Prop} {ad0 : zNm → Nat} {M0 : zMp} {ad : zNm → Nat} {H : Heap} {locs : List Loc} {ls : Array Slot} {L : List (Option zAV)} {st rest : List zAV} {st0 : List Value} {M : zMp} {k n m1 m2 pc : Nat} {a : Array Value} {Rt : Option zAV → zMp → Prop}
    (hr : va_Run p l e R s m args below meth c H locs k n m1 m2 (F0 m pc ls st0) (rest.map (zcv ad)) (zAQ D (zA0 ad M H.size) ad M Rt a) (zA0 ad M H.size)) (hH : zHd s nL D A ad0 M0 ad H locs ls L st M) (hA : ∀ q, s.heap.size ≤ q → A q) (hrest : zsv M rest)
    (kk : ∀ v M', Rt v M' → zG (p, l, e, R, s, m, args, below, meth, c, Q, nL, D, A, ad0, M0) (pc + 3) L (v.toList ++ rest) M' (k + m1) (n + m2)) : W p l e R s m args below meth c H locs k n Q (F0 m pc ls st0) := by
  intro T hT X
  obtain ⟨v, st₀, t, T', Lc, h0, X', hL, e1, e2, ⟨⟨v', M', ad', hv, hRt, hEx, hWd, hal⟩, hz, hk⟩, st⟩ := hr T hT X
  have hv' : v = v'.map (zcv ad') := Outcome.returned.inj hv
  subst hv'
  rw [h0] at hz hk
  obtain ⟨h1, h2, h3, h4, h5, h6⟩ := hH
  have hAA : ∀ q, zA0 ad M H.size q → A q := by
    intro q hq
    rcases hq with ⟨n, k1, k2, k3⟩ | hq
    · rw [← k3]; exact h1.2.2.1 n k1 k2
    · exact hA q (Nat.le_trans h2.1 hq)
  have hcvE : ∀ x, zalv M x → zcv ad' x = zcv ad x := fun x hx => zcv_ext fun n0 en => (hEx.1 n0 (by rw [en] at hx; exact hx)).2
  have hlive : ∀ x, zalv M x → zalv M' x := by
    intro x hx
    cases x with
    | inl w => trivial
    | inr n0 => exact (hEx.1 n0 hx).1
  have hal2 : s.vm.Alike t.vm := by rw [← e2]; exact X'.warmed.alike
  have hH' : zHd s nL D A ad0 M0 ad' T'.heap (locs ++ Lc) ls L (v'.toList ++ rest) M' := by
    refine ⟨?_, ⟨Nat.le_trans h2.1 (by rw [e1]; exact hz), fun q q1 q2 => ?_, fun q hq => ?_⟩, ⟨h3.1, h3.2.1, fun j x hj => ?_⟩, ⟨fun n0 hn => ?_, fun n0 hn hn2 => ?_⟩, fun j x hj => hlive x (h5 j x hj), fun x hx => ?_⟩
    · rw [e1]
      exact zWd_weak (fun n0 hn hm => hAA _ (hWd.2.2.1 n0 hn hm)) (zWd_moved hal2.symm hWd)
    · rw [e1, hk q (Nat.lt_of_lt_of_le q1 h2.1) (fun z => q2 (hAA q z))]
      exact h2.2.1 q q1 q2
    · rcases List.mem_append.mp hq with hh | hh
      · exact h2.2.2 q hh
      · exact hAA _ (hL q hh)
    · rw [hcvE x (h5 j x hj)]
      exact h3.2.2 j x hj
    · have g1 := h4.1 n0 hn
      have g2 := hEx.1 n0 g1.1
      exact ⟨g2.1, g2.2.trans g1.2⟩
    · exact h4.2 n0 hn (hEx.2 n0 hn hn2)
    · rcases List.mem_append.mp hx with hh | hh
      · cases v' with
        | none => cases hh
        | some y =>
          have : x = y := by simpa using hh
          rw [this]
          exact hal y rfl
      · exact hlive x (hrest x hh)
  obtain ⟨t2, a1, b1⟩ := kk v' M' hRt ad' T'.heap (locs ++ Lc) ls hH' T' rfl X'
  refine ⟨t2, st t2 ?_, b1⟩
  have hs2 : (v'.toList ++ rest).map (zcv ad') = (v'.map (zcv ad')).toList ++ rest.map (zcv ad) := by
    rw [List.map_append]
    congr 1
    · cases v' <;> rfl
    · exact List.map_congr_left fun x hx => hcvE x (hrest x hx)
  rw [hs2] at a1
  exact a1
end
section
theorem zsv_app {M : zMp} {a b : List zAV} (h : zsv M (a ++ b)) : zsv M a ∧ zsv M b := ⟨fun v hv => h v (List.mem_append_left _ hv), fun v hv => h v (List.mem_append_right _ hv)⟩
theorem zgoodV {own : String} {ix : Nat} {y : MethodName} {w : Cond} (h1 : Cond.methodLink own ix y ∈ tb) (h2 : Cond.instanceMethod y ∈ tb) (h3 : Cond.selects y.cls y y ∈ tb) (h4 : Cond.initialized y.cls ∈ tb) (h5 : w ∈ tb) : GoodIn tb (wsV own ix y.cls y (w :: tb)) := by
  have key : ∀ w' ∈ wsV own ix y.cls y (w :: tb), w' ∈ tb := by
    intro w' hw
    unfold wsV at hw
    rcases List.mem_append.mp hw with hw | hw
    · simp only [List.mem_cons, List.not_mem_nil, or_false] at hw
      rcases hw with rfl | rfl | rfl | rfl
      · exact h1
      · exact h2
      · exact h3
      · exact h4
    · rcases List.mem_cons.mp hw with rfl | hw
      · exact h5
      · exact hw
  exact fun w' hw => ⟨key w' hw, good_of_word (List.mem_filter.mp (key w' hw)).2⟩
theorem zgoodS {own : String} {ix : Nat} {y : MethodName} {w : Cond} (h1 : Cond.methodLink own ix y ∈ tb) (h2 : Cond.static y ∈ tb) (h4 : Cond.initialized y.cls ∈ tb) (h5 : w ∈ tb) : GoodIn tb (va_wsS own ix y (w :: tb)) := by
  have key : ∀ w' ∈ va_wsS own ix y (w :: tb), w' ∈ tb := by
    intro w' hw
    unfold va_wsS at hw
    rcases List.mem_append.mp hw with hw | hw
    · simp only [List.mem_cons, List.not_mem_nil, or_false] at hw
      rcases hw with rfl | rfl | rfl
      · exact h1
      · exact h2
      · exact h4
    · rcases List.mem_cons.mp hw with rfl | hw
      · exact h5
      · exact hw
  exact fun w' hw => ⟨key w' hw, good_of_word (List.mem_filter.mp (key w' hw)).2⟩
theorem zgoodI {w : Cond} (h5 : w ∈ tb) : GoodIn tb (w :: tb) := by
  have key : ∀ w' ∈ w :: tb, w' ∈ tb := fun w' hw => (List.mem_cons.mp hw).elim (fun e => e ▸ h5) id
  exact fun w' hw => ⟨key w' hw, good_of_word (List.mem_filter.mp (key w' hw)).2⟩
/-- a virtual call (its words: zYV) -/
def zYV (y : MethodName) (bytes : ByteArray) (maxL : Nat) (rt' : Option FieldType) (na : Nat) : Prop := Cond.instanceMethod y ∈ tb ∧ Cond.selects y.cls y y ∈ tb ∧ Cond.initialized y.cls ∈ tb ∧ Cond.code y bytes maxL rt' ∈ tb ∧ y.cls ≠ "java/lang/invoke/MethodHandle" ∧ y.cls ≠ "java/lang/invoke/VarHandle" ∧ (parseMethodDescriptor y.desc).map (fun d => d.parameters.length + 1) = some na
theorem sd_cV {X : zMa} {own : String} {cc : ByteArray} {fr lo mc ms : Nat} {ret : Option FieldType} {ini : Bool} {Rt : Option zAV → zMp → Prop} (hC : zCx X own cc fr lo mc ms ret ini Rt) {pc : Nat} {y : MethodName} {bytes : ByteArray} {maxL ix na fr' lo' : Nat} {rt' : Option FieldType} {T : List zAV → zMp → (Option zAV → zMp → Prop) → Prop} {co : List zAV → zMp → Nat × Nat} {ci : Nat} {r : vw_C} (hT : ∀ l, zCT l y bytes maxL rt' fr' lo' T co) (hY : zYV y bytes maxL rt' na) (hc : vwCl[ci]? = some r) (hr : r.1 = y.cls) (hl : Cond.methodLink own ix y ∈ tb) (hfr : fr' + 1 ≤ fr) (hlo : 8 + (maxL + 11) + lo' ≤ lo) (hd : decode cc pc = .ok (.invokevirtual ix, 3)) {K : zKT} (hK : zLe K (zG X (pc + 3))) : zLe (i_callV mc ms ci na T co K) (zG X pc) := by
  obtain ⟨p, l, e, R, s, m, args, below, meth, c, Q, nL, D, A, ad0, M0⟩ := X
  obtain ⟨hx, hb, hml, hown, hts, hKS, hSF, hA, hR, hQ, hret, hlk, hini⟩ := hC
  subst hR
  intro L st M k n h
  unfold i_callV at h
  split at h
  · next As rest hsp =>
    obtain ⟨hrc, hcs, hk1, hn1, h⟩ := h
    obtain ⟨y1, y2, y3, y4, y5, y6, y7⟩ := hY
    obtain ⟨s1, s2⟩ := zsp_e na [] st As rest hsp
    simp only [List.reverse_nil, List.nil_append] at s1
    subst s1
    intro ad H locs ls hH
    unfold zrc at hrc
    split at hrc
    · next b As' =>
      split at hrc
      · next cj fs hMb =>
        subst hrc
        have hlen : na = As'.length + 1 := by simpa using s2.symm
        have hsv := zsv_app hH.2.2.2.2.2
        have hargs : ∀ a ∈ (Sum.inr b :: As' : List zAV), zalv M a := fun a ha => hsv.1 a (List.mem_reverse.mpr ha)
        have hM := hT l _ M _ h D ad H.size hargs
        have hcell : ∃ cellB : Cell, H[ad b]? = some cellB ∧ cellB.vm.isStatics = false ∧ s.vm.findClass y.cls = some cellB.cls := by
          obtain ⟨r', hr', cV, g1, g2, g3, -⟩ := hH.1.1 b _ hMb
          have hcls := (hKS.1.1 cj r hc).2
          exact ⟨cV, g1, by rw [g3]; rfl, by rw [g2, ← hr]; exact hcls.1⟩
        refine zrun_go (st := (Sum.inr b :: As').reverse ++ rest) (rest := rest) (va_runV (b := ad b) (As := As'.map (zcv ad)) (rest := rest.map (zcv ad)) ⟨hx, hb, hml, hown, hts⟩ hM (cwV (C := y.cls) As'.length hts (zgoodV hl y1 y2 y3 y4) rfl rfl rfl ⟨rfl, y5, y6, ?_⟩ ⟨hfr, hlo⟩) ⟨zPc_blind, hcell, fun U hU hW => zPc_of (As := Sum.inr b :: As') hH hKS hSF hA hU hW⟩ rfl (by simp) hH.2.2.1.1 ?_ (lv_room (by rw [zcs_e]; exact hcs)) hd ⟨hk1, hn1⟩) hH hA hsv.2 (fun v M' hq => hK _ _ _ _ _ hq)
        · rw [hlen] at y7
          cases hp : parseMethodDescriptor y.desc with
          | none => rw [hp] at y7; simp at y7
          | some d =>
            rw [hp] at y7
            simp at y7 ⊢
            exact y7
        · simp [List.map_append, List.map_reverse, zcv]
      · exact hrc.elim
    · exact hrc.elim
  · exact h.elim
/-- a static call -/
def zYS (y : MethodName) (bytes : ByteArray) (maxL : Nat) (rt' : Option FieldType) (na : Nat) : Prop := Cond.static y ∈ tb ∧ Cond.initialized y.cls ∈ tb ∧ Cond.code y bytes maxL rt' ∈ tb ∧ y.cls ≠ "java/lang/invoke/MethodHandle" ∧ y.cls ≠ "java/lang/invoke/VarHandle" ∧ (parseMethodDescriptor y.desc).map (fun d => d.parameters.length) = some na
theorem sd_cS {X : zMa} {own : String} {cc : ByteArray} {fr lo mc ms : Nat} {ret : Option FieldType} {ini : Bool} {Rt : Option zAV → zMp → Prop} (hC : zCx X own cc fr lo mc ms ret ini Rt) {pc : Nat} {y : MethodName} {bytes : ByteArray} {maxL ix na fr' lo' : Nat} {rt' : Option FieldType} {T : List zAV → zMp → (Option zAV → zMp → Prop) → Prop} {co : List zAV → zMp → Nat × Nat} (hT : ∀ l, zCT l y bytes maxL rt' fr' lo' T co) (hY : zYS y bytes maxL rt' na) (hl : Cond.methodLink own ix y ∈ tb) (hfr : fr' + 1 ≤ fr) (hlo : 8 + (maxL + 11) + lo' ≤ lo) (hd : decode cc pc = .ok (.invokestatic ix, 3)) {K : zKT} (hK : zLe K (zG X (pc + 3))) : zLe (i_call mc ms na T co K) (zG X pc) := by
  obtain ⟨p, l, e, R, s, m, args, below, meth, c, Q, nL, D, A, ad0, M0⟩ := X
  obtain ⟨hx, hb, hml, hown, hts, hKS, hSF, hA, hR, hQ, hret, hlk, hini⟩ := hC
  subst hR
  intro L st M k n h
  unfold i_call at h
  split at h
  · next As rest hsp =>
    obtain ⟨hcs, hk1, hn1, h⟩ := h
    obtain ⟨y1, y3, y4, y5, y6, y7⟩ := hY
    obtain ⟨s1, s2⟩ := zsp_e na [] st As rest hsp
    simp only [List.reverse_nil, List.nil_append] at s1
    subst s1
    intro ad H locs ls hH
    have hlen : As.length = na := by simpa using s2
    have hsv := zsv_app hH.2.2.2.2.2
    have hargs : ∀ a ∈ As, zalv M a := fun a ha => hsv.1 a (List.mem_reverse.mpr ha)
    have hM := hT l _ M _ h D ad H.size hargs
    exact zrun_go (st := As.reverse ++ rest) (rest := rest) (va_runS (As := As.map (zcv ad)) (rest := rest.map (zcv ad)) ⟨hx, hb, hml, hown, hts⟩ hM (va_cwS na hts (zgoodS hl y1 y3 y4) rfl rfl rfl ⟨y5, y6, y7⟩ ⟨hfr, hlo⟩) ⟨zPc_blind, fun U hU hW => zPc_of (As := As) hH hKS hSF hA hU hW⟩ rfl (by rw [List.length_map]; exact hlen) hH.2.2.1.1 (by simp [List.map_append, List.map_reverse]) (lv_room (by rw [zcs_e]; exact hcs)) hd ⟨hk1, hn1⟩) hH hA hsv.2 (fun v M' hq => hK _ _ _ _ _ hq)
  · exact h.elim
/-- a constructor's call -/
def zisn : List zAV → Prop
  | .inr _ :: _ => True
  | _ => False
def i_callI (mc ms na : Nat) (T : List zAV → zMp → (Option zAV → zMp → Prop) → Prop) (co : List zAV → zMp → Nat × Nat) (K : zKT) : zKT := fun L st M k n => match zsp na [] st with
  | some (As, rest) => zisn As ∧ zcs rest ≤ 8 ∧ k + (co As M).1 ≤ mc ∧ n + (co As M).2 ≤ ms ∧ T As M (fun v M' => K L (v.toList ++ rest) M' (k + (co As M).1) (n + (co As M).2))
  | none => False
def zYI (y : MethodName) (bytes : ByteArray) (maxL : Nat) (na : Nat) : Prop := y.name = "<init>" ∧ Cond.instanceMethod y ∈ tb ∧ Cond.initialized y.cls ∈ tb ∧ Cond.code y bytes maxL none ∈ tb ∧ y.cls ≠ "java/lang/invoke/MethodHandle" ∧ y.cls ≠ "java/lang/invoke/VarHandle" ∧ (parseMethodDescriptor y.desc).map (fun d => d.parameters.length + 1) = some na

theorem sd_cI {X : zMa} {own : String} {cc : ByteArray} {fr lo mc ms : Nat} {ret : Option FieldType} {ini : Bool} {Rt : Option zAV → zMp → Prop} (hC : zCx X own cc fr lo mc ms ret ini Rt) {pc : Nat} {y : MethodName} {bytes : ByteArray} {maxL ix na fr' lo' : Nat} {T : List zAV → zMp → (Option zAV → zMp → Prop) → Prop} {co : List zAV → zMp → Nat × Nat} (hT : ∀ l, zCT l y bytes maxL none fr' lo' T co) (hY : zYI y bytes maxL na) (hl : Cond.methodLink own ix y ∈ tb) (hfr : fr' + 1 ≤ fr) (hlo : 8 + (maxL + 11) + lo' ≤ lo) (hd : decode cc pc = .ok (.invokespecial ix, 3)) {K : zKT} (hK : zLe K (zG X (pc + 3))) : zLe (i_callI mc ms na T co K) (zG X pc) := by
  obtain ⟨p, l, e, R, s, m, args, below, meth, c, Q, nL, D, A, ad0, M0⟩ := X
  obtain ⟨hx, hb, hml, hown, hts, hKS, hSF, hA, hR, hQ, hret, hlk, hini⟩ := hC
  subst hR
  intro L st M k n h
  unfold i_callI at h
  split at h
  · next As rest hsp =>
    obtain ⟨hrc, hcs, hk1, hn1, h⟩ := h
    obtain ⟨y0, y1, y3, y4, y5, y6, y7⟩ := hY
    obtain ⟨s1, s2⟩ := zsp_e na [] st As rest hsp
    simp only [List.reverse_nil, List.nil_append] at s1
    subst s1
    intro ad H locs ls hH
    have hd0 : ∃ d, parseMethodDescriptor y.desc = some d ∧ d.parameters.length + 1 = na := by
      cases hp : parseMethodDescriptor y.desc with
      | none => rw [hp] at y7; simp at y7
      | some d => rw [hp] at y7; simp at y7; exact ⟨d, rfl, y7⟩
    obtain ⟨d, hpd, hdl⟩ := hd0
    unfold zisn at hrc
    split at hrc
    · next b As' =>
      have hlen : na = As'.length + 1 := by simpa using s2.symm
      have hy7 : (parseMethodDescriptor y.desc).map (fun d => d.parameters.length) = some As'.length := by rw [hpd]; simp; omega
      have hsv := zsv_app hH.2.2.2.2.2
      have hargs : ∀ a ∈ (Sum.inr b :: As' : List zAV), zalv M a := fun a ha => hsv.1 a (List.mem_reverse.mpr ha)
      have hM := hT l _ M _ h D ad H.size hargs
      exact zrun_go (st := (Sum.inr b :: As').reverse ++ rest) (rest := rest) (va_runI (b := ad b) (As := As'.map (zcv ad)) (rest := rest.map (zcv ad)) ⟨hx, hb, hml, hown, hts⟩ hM (cwI As'.length hts (zgoodI y4) rfl rfl rfl (hts _ y3) (hts _ hl) (hts _ y1) y0 ⟨y5, y6, hy7⟩ ⟨hfr, hlo⟩) ⟨zPc_blind, fun U hU hW => zPc_of (As := Sum.inr b :: As') hH hKS hSF hA hU hW⟩ rfl (by simp) hH.2.2.1.1 (by simp [List.map_append, List.map_reverse, zcv]) (lv_room (by rw [zcs_e]; exact hcs)) hd ⟨hk1, hn1⟩) hH hA hsv.2 (fun v M' hq => hK _ _ _ _ _ hq)
    · exact hrc.elim
  · exact h.elim

theorem sd_cIN {X : zMa} {own : String} {cc : ByteArray} {fr lo mc ms : Nat} {ret : Option FieldType} {ini : Bool} {Rt : Option zAV → zMp → Prop} (hC : zCx X own cc fr lo mc ms ret ini Rt) {pc : Nat} {y : MethodName} {bytes : ByteArray} {maxL ix na fr' lo' : Nat} {T : List zAV → zMp → (Option zAV → zMp → Prop) → Prop} {co : List zAV → zMp → Nat × Nat} {host : String} (hT : ∀ l, zCT l y bytes maxL none fr' lo' T co) (hY : zYI y bytes maxL na) (hl : Cond.methodLinkNest own ix y host ∈ xw) (hfr : fr' + 1 ≤ fr) (hlo : 8 + (maxL + 11) + lo' ≤ lo) (hd : decode cc pc = .ok (.invokespecial ix, 3)) {K : zKT} (hK : zLe K (zG X (pc + 3))) : zLe (i_callI mc ms na T co K) (zG X pc) := by
  obtain ⟨p, l, e, R, s, m, args, below, meth, c, Q, nL, D, A, ad0, M0⟩ := X
  obtain ⟨hx, hb, hml, hown, hts, hKS, hSF, hA, hR, hQ, hret, hlk, hini⟩ := hC
  subst hR
  intro L st M k n h
  unfold i_callI at h
  split at h
  · next As rest hsp =>
    obtain ⟨hrc, hcs, hk1, hn1, h⟩ := h
    obtain ⟨y0, y1, y3, y4, y5, y6, y7⟩ := hY
    obtain ⟨s1, s2⟩ := zsp_e na [] st As rest hsp
    simp only [List.reverse_nil, List.nil_append] at s1
    subst s1
    intro ad H locs ls hH
    have hd0 : ∃ d, parseMethodDescriptor y.desc = some d ∧ d.parameters.length + 1 = na := by
      cases hp : parseMethodDescriptor y.desc with
      | none => rw [hp] at y7; simp at y7
      | some d => rw [hp] at y7; simp at y7; exact ⟨d, rfl, y7⟩
    obtain ⟨d, hpd, hdl⟩ := hd0
    unfold zisn at hrc
    split at hrc
    · next b As' =>
      have hlen : na = As'.length + 1 := by simpa using s2.symm
      have hy7 : (parseMethodDescriptor y.desc).map (fun d => d.parameters.length) = some As'.length := by rw [hpd]; simp; omega
      have hsv := zsv_app hH.2.2.2.2.2
      have hargs : ∀ a ∈ (Sum.inr b :: As' : List zAV), zalv M a := fun a ha => hsv.1 a (List.mem_reverse.mpr ha)
      have hM := hT l _ M _ h D ad H.size hargs
      exact zrun_go (st := (Sum.inr b :: As').reverse ++ rest) (rest := rest) (va_runIN (b := ad b) (As := As'.map (zcv ad)) (rest := rest.map (zcv ad)) ⟨hx, hb, hml, hown, hts⟩ hM (⟨va_cnB As'.length hts (zgoodI y4) rfl rfl rfl (hKS.2.1 _ hl) (hts _ y3) ⟨y5, y6, hy7⟩ ⟨hfr, hlo⟩, y0, hts _ y1⟩) ⟨zPc_blind, fun U hU hW => zPc_of (As := Sum.inr b :: As') hH hKS hSF hA hU hW⟩ rfl (by simp) hH.2.2.1.1 (by simp [List.map_append, List.map_reverse, zcv]) (lv_room (by rw [zcs_e]; exact hcs)) hd ⟨hk1, hn1⟩) hH hA hsv.2 (fun v M' hq => hK _ _ _ _ _ hq)
    · exact hrc.elim
  · exact h.elim
end
section
def i_iret (mc ms : Nat) (Rt : Option zAV → zMp → Prop) : zKT := fun _ st M k n => match st with
  | [.inl (.int x)] => k ≤ mc ∧ n ≤ ms ∧ Rt (some (.inl (.int x))) M
  | _ => False
theorem sd_iret {X : zMa} {own : String} {cc : ByteArray} {fr lo mc ms : Nat} {ini : Bool} {Rt : Option zAV → zMp → Prop} (hC : zCx X own cc fr lo mc ms (some .int) ini Rt) {pc : Nat} (hd : decode cc pc = .ok (.ireturn, 1)) : zLe (i_iret mc ms Rt) (zG X pc) := by
  obtain ⟨p, l, e, R, s, m, args, below, meth, c, Q, nL, D, A, ad0, M0⟩ := X
  obtain ⟨hx, hb, hml, hown, hts, hKS, hSF, hA, hR, hQ, hret, hlk, hini⟩ := hC
  subst hQ
  intro L st M k n h
  unfold i_iret at h
  split at h
  · obtain ⟨h1, h2, hq⟩ := h
    intro ad H locs ls hH
    refine W.widen h1 h2 ?_
    exact W.iret hx hb hret (fun t ht hW => ⟨⟨_, M, ad, rfl, hq, hH.2.2.2.1, zWd_moved hW.alike (by rw [ht]; exact hH.1), fun x hx => by cases hx <;> first | trivial | exact zsv_h hH.2.2.2.2.2⟩, hH.2.1.F ht⟩) hH.2.1.2.2 hd hlk
  · exact h.elim

def i_zret (mc ms : Nat) (Rt : Option zAV → zMp → Prop) : zKT := fun _ st M k n => match st with
  | [.inl (.int x)] => (x = 0 ∨ x = 1) ∧ k ≤ mc ∧ n ≤ ms ∧ Rt (some (.inl (.int x))) M
  | _ => False
theorem sd_zret {X : zMa} {own : String} {cc : ByteArray} {fr lo mc ms : Nat} {ini : Bool} {Rt : Option zAV → zMp → Prop} (hC : zCx X own cc fr lo mc ms (some .boolean) ini Rt) {pc : Nat} (hd : decode cc pc = .ok (.ireturn, 1)) : zLe (i_zret mc ms Rt) (zG X pc) := by
  obtain ⟨p, l, e, R, s, m, args, below, meth, c, Q, nL, D, A, ad0, M0⟩ := X
  obtain ⟨hx, hb, hml, hown, hts, hKS, hSF, hA, hR, hQ, hret, hlk, hini⟩ := hC
  subst hQ
  intro L st M k n h
  unfold i_zret at h
  split at h
  · obtain ⟨hb01, h1, h2, hq⟩ := h
    intro ad H locs ls hH
    refine W.widen h1 h2 ?_
    exact W.zret hx hb hret (by rcases hb01 with h0 | h0 <;> subst h0 <;> rfl) (fun t ht hW => ⟨⟨_, M, ad, rfl, hq, hH.2.2.2.1, zWd_moved hW.alike (by rw [ht]; exact hH.1), fun x hx => by cases hx <;> first | trivial | exact zsv_h hH.2.2.2.2.2⟩, hH.2.1.F ht⟩) hH.2.1.2.2 hd hlk
  · exact h.elim

def i_lret (mc ms : Nat) (Rt : Option zAV → zMp → Prop) : zKT := fun _ st M k n => match st with
  | [.inl (.long x)] => k ≤ mc ∧ n ≤ ms ∧ Rt (some (.inl (.long x))) M
  | _ => False
theorem sd_lret {X : zMa} {own : String} {cc : ByteArray} {fr lo mc ms : Nat} {ini : Bool} {Rt : Option zAV → zMp → Prop} (hC : zCx X own cc fr lo mc ms (some .long) ini Rt) {pc : Nat} (hd : decode cc pc = .ok (.lreturn, 1)) : zLe (i_lret mc ms Rt) (zG X pc) := by
  obtain ⟨p, l, e, R, s, m, args, below, meth, c, Q, nL, D, A, ad0, M0⟩ := X
  obtain ⟨hx, hb, hml, hown, hts, hKS, hSF, hA, hR, hQ, hret, hlk, hini⟩ := hC
  subst hQ
  intro L st M k n h
  unfold i_lret at h
  split at h
  · obtain ⟨h1, h2, hq⟩ := h
    intro ad H locs ls hH
    refine W.widen h1 h2 ?_
    exact W.lret hx hb hret (fun t ht hW => ⟨⟨_, M, ad, rfl, hq, hH.2.2.2.1, zWd_moved hW.alike (by rw [ht]; exact hH.1), fun x hx => by cases hx <;> first | trivial | exact zsv_h hH.2.2.2.2.2⟩, hH.2.1.F ht⟩) hH.2.1.2.2 hd hlk
  · exact h.elim

def i_vret (mc ms : Nat) (Rt : Option zAV → zMp → Prop) : zKT := fun _ st M k n => match st with
  | [] => k ≤ mc ∧ n ≤ ms ∧ Rt (none) M
  | _ => False
theorem sd_vret {X : zMa} {own : String} {cc : ByteArray} {fr lo mc ms : Nat} {ini : Bool} {Rt : Option zAV → zMp → Prop} (hC : zCx X own cc fr lo mc ms (none) ini Rt) {pc : Nat} (hd : decode cc pc = .ok (.return_, 1)) : zLe (i_vret mc ms Rt) (zG X pc) := by
  obtain ⟨p, l, e, R, s, m, args, below, meth, c, Q, nL, D, A, ad0, M0⟩ := X
  obtain ⟨hx, hb, hml, hown, hts, hKS, hSF, hA, hR, hQ, hret, hlk, hini⟩ := hC
  subst hQ
  intro L st M k n h
  unfold i_vret at h
  split at h
  · obtain ⟨h1, h2, hq⟩ := h
    intro ad H locs ls hH
    refine W.widen h1 h2 ?_
    exact W.vret hx hb hret (fun t ht hW => ⟨⟨_, M, ad, rfl, hq, hH.2.2.2.1, zWd_moved hW.alike (by rw [ht]; exact hH.1), fun x hx => by cases hx <;> first | trivial | exact zsv_h hH.2.2.2.2.2⟩, hH.2.1.F ht⟩) hH.2.1.2.2 hd hlk
  · exact h.elim

def i_aret (mc ms : Nat) (Rt : Option zAV → zMp → Prop) : zKT := fun _ st M k n => match st with
  | [.inr a] => k ≤ mc ∧ n ≤ ms ∧ Rt (some (.inr a)) M
  | [.inl .null] => k ≤ mc ∧ n ≤ ms ∧ Rt (some (.inl .null)) M
  | _ => False
theorem sd_aret {X : zMa} {own : String} {cc : ByteArray} {fr lo mc ms : Nat} {rt0 : FieldType} {ini : Bool} {Rt : Option zAV → zMp → Prop} (hC : zCx X own cc fr lo mc ms (some rt0) ini Rt) {pc : Nat} (hrt : (∃ n, rt0 = .object n) ∨ ∃ t, rt0 = .array t) (hd : decode cc pc = .ok (.areturn, 1)) : zLe (i_aret mc ms Rt) (zG X pc) := by
  obtain ⟨p, l, e, R, s, m, args, below, meth, c, Q, nL, D, A, ad0, M0⟩ := X
  obtain ⟨hx, hb, hml, hown, hts, hKS, hSF, hA, hR, hQ, hret, hlk, hini⟩ := hC
  subst hQ
  intro L st M k n h
  unfold i_aret at h
  split at h
  · next a =>
    obtain ⟨h1, h2, hq⟩ := h
    intro ad H locs ls hH
    refine W.widen h1 h2 ?_
    exact W.aret hx hb hret hrt (Or.inr ⟨_, rfl⟩) (fun t ht hW => ⟨⟨some (.inr a), M, ad, rfl, hq, hH.2.2.2.1, zWd_moved hW.alike (by rw [ht]; exact hH.1), fun x hx => by cases hx; exact zsv_h hH.2.2.2.2.2⟩, hH.2.1.F ht⟩) hH.2.1.2.2 hd hlk
  · obtain ⟨h1, h2, hq⟩ := h
    intro ad H locs ls hH
    refine W.widen h1 h2 ?_
    exact W.aret hx hb hret hrt (Or.inl rfl) (fun t ht hW => ⟨⟨some (.inl .null), M, ad, rfl, hq, hH.2.2.2.1, zWd_moved hW.alike (by rw [ht]; exact hH.1), fun x hx => by cases hx; trivial⟩, hH.2.1.F ht⟩) hH.2.1.2.2 hd hlk
  · exact h.elim
/-! switches -/
def zsw (x : Int32) : List (Int32 × zKT) → zKT → zKT
  | [], d => d
  | (v, K) :: r, d => fun L st M k n => (x = v → K L st M k n) ∧ (¬ x = v → zsw x r d L st M k n)
def i_sw (cs : List (Int32 × zKT)) (d : zKT) : zKT := fun L st M k n => match st with
  | .inl (.int x) :: st => zsw x cs d L st M k n
  | _ => False
theorem zsw_e {x : Int32} {d : zKT} {X : zMa} {jump : Int32 → Nat → Prop} {dt : Nat} (hd : zLe d (zG X dt)) : ∀ (cs : List (Int32 × zKT)) (ts : List Nat), ts.length = cs.length → (∀ q ∈ cs.zip ts, jump q.1.1 q.2 ∧ zLe q.1.2 (zG X q.2)) → ((∀ q ∈ cs, x ≠ q.1) → jump x dt) → ∀ L st M k n, zsw x cs d L st M k n → ∃ t, jump x t ∧ zG X t L st M k n
  | [], ts, hl, h1, h2, L, st, M, k, n, h => ⟨dt, h2 (fun q hq => by cases hq), hd _ _ _ _ _ h⟩
  | (v, K) :: cs, t :: ts, hl, h1, h2, L, st, M, k, n, h => by
    by_cases hx : x = v
    · have h3 := h1 ((v, K), t) List.mem_cons_self
      exact ⟨t, by rw [hx]; exact h3.1, h3.2 _ _ _ _ _ (h.1 hx)⟩
    · exact zsw_e hd cs ts (by simpa using hl) (fun q hq => h1 q (List.mem_cons_of_mem _ hq)) (fun h3 => h2 (fun q hq => by
        rcases List.mem_cons.mp hq with rfl | hq
        · exact hx
        · exact h3 q hq)) L st M k n (h.2 hx)
  | _ :: _, [], hl, _, _, _, _, _, _, _, _ => by simp at hl
def zjT (pc : Nat) (df lo hi : Int) (offs : Array Int) (x : Int32) (t : Nat) : Prop := ((x.toInt < lo ∨ hi < x.toInt) ∧ (pc : Int) + df = t) ∨ (¬ x.toInt < lo ∧ ¬ hi < x.toInt ∧ ∃ off, offs[(x.toInt - lo).toNat]? = some off ∧ (pc : Int) + off = t)
theorem sd_tsw {X : zMa} {own : String} {cc : ByteArray} {fr lo mc ms : Nat} {ret : Option FieldType} {ini : Bool} {Rt : Option zAV → zMp → Prop} (hC : zCx X own cc fr lo mc ms ret ini Rt) {pc : Nat} {df lo0 hi : Int} {offs : Array Int} {len dt : Nat} (hd : decode cc pc = .ok (.tableswitch df lo0 hi offs, len)) {cs : List (Int32 × zKT)} {d : zKT} (hdt : zLe d (zG X dt)) (ts : List Nat) (hl : ts.length = cs.length) (h1 : ∀ q ∈ cs.zip ts, zjT pc df lo0 hi offs q.1.1 q.2 ∧ zLe q.1.2 (zG X q.2)) (h2 : ∀ x : Int32, (∀ q ∈ cs, x ≠ q.1) → zjT pc df lo0 hi offs x dt) : zLe (i_sw cs d) (zG X pc) := by
  obtain ⟨p, l, e, R, s, m, args, below, meth, c, Q, nL, D, A, ad0, M0⟩ := X
  obtain ⟨hx, hb, hml, hown, hts, hKS, hSF, hA, hR, hQ, hret, hlk, hini⟩ := hC
  intro L st M k n h
  unfold i_sw at h
  split at h
  · next x st =>
    obtain ⟨t, hj, hg⟩ := zsw_e hdt cs ts hl h1 (h2 x) L st M k n h
    intro ad H locs ls hH
    have hg := hg ad H locs ls (zHd_st hH zsv_t)
    rcases hj with ⟨j1, j2⟩ | ⟨j1, j2, off, j3, j4⟩
    · exact lv_tableOut hx hb hd j1 j2 hg
    · exact lv_tableIn hx hb hd j1 j2 j3 j4 hg
  · exact h.elim
def zjL (pc : Nat) (df : Int) (ps : Array (Int × Int)) (x : Int32) (t : Nat) : Prop := (pc : Int) + Op.lookupswitch.offset ps.toList df x.toInt = t
theorem sd_lsw {X : zMa} {own : String} {cc : ByteArray} {fr lo mc ms : Nat} {ret : Option FieldType} {ini : Bool} {Rt : Option zAV → zMp → Prop} (hC : zCx X own cc fr lo mc ms ret ini Rt) {pc : Nat} {df : Int} {ps : Array (Int × Int)} {len dt : Nat} (hd : decode cc pc = .ok (.lookupswitch df ps, len)) (hp : (ps.toList.zip (ps.toList.drop 1)).all (fun (a, next) => a.1 < next.1) = true) {cs : List (Int32 × zKT)} {d : zKT} (hdt : zLe d (zG X dt)) (ts : List Nat) (hl : ts.length = cs.length) (h1 : ∀ q ∈ cs.zip ts, zjL pc df ps q.1.1 q.2 ∧ zLe q.1.2 (zG X q.2)) (h2 : ∀ x : Int32, (∀ q ∈ cs, x ≠ q.1) → zjL pc df ps x dt) : zLe (i_sw cs d) (zG X pc) := by
  obtain ⟨p, l, e, R, s, m, args, below, meth, c, Q, nL, D, A, ad0, M0⟩ := X
  obtain ⟨hx, hb, hml, hown, hts, hKS, hSF, hA, hR, hQ, hret, hlk, hini⟩ := hC
  intro L st M k n h
  unfold i_sw at h
  split at h
  · next x st =>
    obtain ⟨t, hj, hg⟩ := zsw_e hdt cs ts hl h1 (h2 x) L st M k n h
    intro ad H locs ls hH
    exact lv_lookup hx hb hd hp rfl hj (hg ad H locs ls (zHd_st hH zsv_t))
  · exact h.elim
theorem zne_i {x v : Int32} {z : Int} (h : x ≠ v) (hv : v.toInt = z) : x.toInt ≠ z := fun q => h (Int32.toInt_inj.mp (by rw [hv]; exact q))
/-! the entry -/
def zeL (nL : Nat) (As : List zAV) : List (Option zAV) := zen As ++ List.replicate (nL - (zen As).length) none
theorem zlg_rep : ∀ (L : List (Option zAV)) (j k : Nat) (v : zAV), zlg (L ++ List.replicate j none) k = some v → zlg L k = some v
  | [], 0, k, v, h => by simp [zlg] at h
  | [], j + 1, 0, v, h => by simp [List.replicate_succ, zlg] at h
  | [], j + 1, k + 1, v, h => zlg_rep [] j k v (by simpa [List.replicate_succ, zlg] using h)
  | x :: L, j, 0, v, h => h
  | x :: L, j, k + 1, v, h => zlg_rep L j k v h
theorem zcat_e (ad : zNm → Nat) (a : zAV) : zcat a = (zcv ad a).category := by cases a <;> rfl
theorem zen_args (ad : zNm → Nat) : ∀ (As : List zAV) (i k : Nat) (v : zAV), zlg (zen As) k = some v → (i + k, zcv ad v) ∈ lv_args i (As.map (zcv ad))
  | [], i, k, v, h => by simp [zen, zlg] at h
  | a :: As, i, k, v, h => by
    simp only [zen, zcat_e ad] at h
    simp only [List.map_cons, lv_args]
    split at h
    · next hc =>
      rw [if_pos hc]
      match k, h with
      | 0, h => cases h; exact List.mem_cons_self
      | 1, h => simp [zlg] at h
      | k + 2, h => exact List.mem_cons_of_mem _ (by have := zen_args ad As (i + 2) k v h; rwa [show i + 2 + k = i + (k + 2) by omega] at this)
    · next hc =>
      rw [if_neg hc]
      match k, h with
      | 0, h => cases h; exact List.mem_cons_self
      | k + 1, h => exact List.mem_cons_of_mem _ (by have := zen_args ad As (i + 1) k v h; rwa [show i + 1 + k = i + (k + 1) by omega] at this)
theorem zen_len (ad : zNm → Nat) : ∀ As : List zAV, (lg_sl (As.map (zcv ad))).length = (zen As).length
  | [] => rfl
  | a :: As => by
    have ih := zen_len ad As
    simp only [lg_sl] at ih
    simp only [List.map_cons, lg_sl, List.flatMap_cons, List.length_append, zen, zcat_e ad, ih]
    split <;> simp <;> omega
theorem zen_live {M : zMp} : ∀ As : List zAV, (∀ a ∈ As, zalv M a) → ∀ k v, zlg (zen As) k = some v → zalv M v
  | [], _, k, v, h => by simp [zen, zlg] at h
  | a :: As, ha, k, v, h => by
    simp only [zen] at h
    have h1 := ha a List.mem_cons_self
    have h2 : ∀ a ∈ As, zalv M a := fun b hb => ha b (List.mem_cons_of_mem _ hb)
    split at h
    · match k, h with
      | 0, h => cases h; exact h1
      | 1, h => simp [zlg] at h
      | k + 2, h => exact zen_live As h2 k v h
    · match k, h with
      | 0, h => cases h; exact h1
      | k + 1, h => exact zen_live As h2 k v h
theorem zMet_of {l : Launch} {y : MethodName} {bytes : ByteArray} {maxL : Nat} {ret : Option FieldType} {fr lo : Nat} {As : List zAV} {M : zMp} {mc ms : Nat} {Rt : Option zAV → zMp → Prop} (ini : Bool) (hy : plainName y.cls = true) (hi : ini = true → y.name = "<init>") (hlen : (zen As).length ≤ maxL)
    (body : ∀ X, zNL X = maxL → zCx X y.cls bytes fr lo mc ms ret ini Rt → zG X 0 (zeL maxL As) [] M 0 0) : zMet l y bytes maxL ret fr lo As M mc ms Rt := by
  intro D ad sz hargs
  refine Met.ofW (cc := bytes) (maxL := maxL) (ret := ret) hy rfl ?_
  intro p e s m args below meth c s₁ B hml hv
  obtain ⟨rfl, hsz, hWd, hKS, hSF⟩ := hv
  subst hsz
  have hts := atoms_spec (ws := Cond.code y bytes maxL ret :: tb) B.pre
  have hg := body (p, l, e, (headSpec (Cond.code y bytes maxL ret :: tb) { frames := fr, cells := mc, slots := ms, locals := lo }).room, s, m, (As.map (zcv ad)).toArray, below, meth, c, MQ below (zAQ D (zA0 ad M s.heap.size) ad M Rt) (As.map (zcv ad)).toArray s mc ms (zA0 ad M s.heap.size), maxL, D, zA0 ad M s.heap.size, ad, M) rfl
    ⟨B.exec, B.bytes, hml, findClass_of_methodNamed B.named, fun w hw => hts w (List.mem_cons_of_mem _ hw), hKS, hSF, fun q h => Or.inr h, rfl, rfl, B.returns, B.notSynchronized, fun h => ((name_of_methodNamed B.named B.method).1).trans (hi h)⟩
  have hl := lv_entry (As.map (zcv ad)) (n := maxL) (by rw [zen_len]; exact hlen)
  rw [lg_entry_eq]
  refine hg ad s.heap [] _ ⟨zWd_weak (fun n hn hm => zmo_A hn hm) hWd, va_S.rf, ⟨hl.1, hl.2.1, fun k v hk => ?_⟩, ⟨fun n hn => ⟨hn, rfl⟩, fun n _ hn => hn⟩, fun k v hk => zen_live As hargs k v (zlg_rep _ _ k v hk), fun v hv => by cases hv⟩
  have h1 := zen_args ad As 0 k v (zlg_rep _ _ k v hk)
  rw [Nat.zero_add] at h1
  exact hl.2.2 _ h1
end
section
theorem tb_t {w : Cond} (i : Nat) (h : tables_1[i]? = some w) (g : goodWord w = true) : w ∈ tb := tb_of (List.mem_append_right _ (List.mem_of_getElem? h)) g
theorem tb_s {q : MethodName × Nat} (i : Nat) (h : lw_privs[i]? = some q) : Cond.selects q.1.cls q.1 q.1 ∈ tb := tb_of (List.mem_append_left _ (List.mem_map.mpr ⟨q, List.mem_of_getElem? h, rfl⟩)) (by cases q; rfl)
theorem xw_t {w : Cond} (i : Nat) (h : tables_1[i]? = some w) (g : zxw w = true) : w ∈ xw := List.mem_filter.mpr ⟨List.mem_of_getElem? h, g⟩
theorem tb_u {C : String} {T : u_T} {N : Nat} (h : ∀ k, k < N → u_lay C T k ∈ tb) : ∀ w ∈ u_ws C T N, w ∈ tb := by
  intro w hw
  obtain ⟨k, hk, rfl⟩ := List.mem_map.mp hw
  exact h k (List.mem_range.mp hk)
theorem wk_AL : ∀ k, k < 3 → u_lay RJx4a65c TJx4a65c k ∈ tb
  | 0, _ => (tb_t 49 (by decide +kernel) (by decide +kernel))
  | 1, _ => (tb_t 45 (by decide +kernel) (by decide +kernel))
  | 2, _ => (tb_t 47 (by decide +kernel) (by decide +kernel))
  | k + 3, h => absurd h (by omega)
theorem wi_AL : ∀ w ∈ u_ws RJx4a65c TJx4a65c 3, w ∈ tb := tb_u wk_AL
theorem in_AL : Cond.instantiable RJx4a65c 3 ∈ tb := (tb_t 27 (by decide +kernel) (by decide +kernel))
theorem iz_AL : Cond.initialized RJx4a65c ∈ tb := (tb_t 4 (by decide +kernel) (by decide +kernel))
theorem wk_FT : ∀ k, k < 3 → u_lay RX0 TX0 k ∈ tb
  | 0, _ => (tb_t 80 (by decide +kernel) (by decide +kernel))
  | 1, _ => (tb_t 82 (by decide +kernel) (by decide +kernel))
  | 2, _ => (tb_t 84 (by decide +kernel) (by decide +kernel))
  | k + 3, h => absurd h (by omega)
theorem wi_FT : ∀ w ∈ u_ws RX0 TX0 3, w ∈ tb := tb_u wk_FT
theorem in_FT : Cond.instantiable RX0 3 ∈ tb := (tb_t 71 (by decide +kernel) (by decide +kernel))
theorem iz_FT : Cond.initialized RX0 ∈ tb := (tb_t 6 (by decide +kernel) (by decide +kernel))
theorem wk_Lane : ∀ k, k < 6 → u_lay RX1 TX1 k ∈ tb
  | 0, _ => (tb_t 191 (by decide +kernel) (by decide +kernel))
  | 1, _ => (tb_t 193 (by decide +kernel) (by decide +kernel))
  | 2, _ => (tb_t 195 (by decide +kernel) (by decide +kernel))
  | 3, _ => (tb_t 197 (by decide +kernel) (by decide +kernel))
  | 4, _ => (tb_t 199 (by decide +kernel) (by decide +kernel))
  | 5, _ => (tb_t 201 (by decide +kernel) (by decide +kernel))
  | k + 6, h => absurd h (by omega)
theorem wi_Lane : ∀ w ∈ u_ws RX1 TX1 6, w ∈ tb := tb_u wk_Lane
theorem in_Lane : Cond.instantiable RX1 6 ∈ tb := (tb_t 174 (by decide +kernel) (by decide +kernel))
theorem iz_Lane : Cond.initialized RX1 ∈ tb := (tb_t 11 (by decide +kernel) (by decide +kernel))
theorem wk_Not : ∀ k, k < 6 → u_lay RX2 TX2 k ∈ tb
  | 0, _ => (tb_t 507 (by decide +kernel) (by decide +kernel))
  | 1, _ => (tb_t 509 (by decide +kernel) (by decide +kernel))
  | 2, _ => (tb_t 511 (by decide +kernel) (by decide +kernel))
  | 3, _ => (tb_t 513 (by decide +kernel) (by decide +kernel))
  | 4, _ => (tb_t 515 (by decide +kernel) (by decide +kernel))
  | 5, _ => (tb_t 517 (by decide +kernel) (by decide +kernel))
  | k + 6, h => absurd h (by omega)
theorem wi_Not : ∀ w ∈ u_ws RX2 TX2 6, w ∈ tb := tb_u wk_Not
theorem in_Not : Cond.instantiable RX2 6 ∈ tb := (tb_t 490 (by decide +kernel) (by decide +kernel))
theorem iz_Not : Cond.initialized RX2 ∈ tb := (tb_t 17 (by decide +kernel) (by decide +kernel))
theorem wk_Rdr : ∀ k, k < 3 → u_lay RX3 TX3 k ∈ tb
  | 0, _ => (tb_t 360 (by decide +kernel) (by decide +kernel))
  | 1, _ => (tb_t 362 (by decide +kernel) (by decide +kernel))
  | 2, _ => (tb_t 364 (by decide +kernel) (by decide +kernel))
  | k + 3, h => absurd h (by omega)
theorem wi_Rdr : ∀ w ∈ u_ws RX3 TX3 3, w ∈ tb := tb_u wk_Rdr
theorem in_Rdr : Cond.instantiable RX3 3 ∈ tb := (tb_t 351 (by decide +kernel) (by decide +kernel))
theorem iz_Rdr : Cond.initialized RX3 ∈ tb := (tb_t 15 (by decide +kernel) (by decide +kernel))
theorem wk_Row : ∀ k, k < 1 → u_lay RX4 TX4 k ∈ tb
  | 0, _ => (tb_t 61 (by decide +kernel) (by decide +kernel))
  | k + 1, h => absurd h (by omega)
theorem wi_Row : ∀ w ∈ u_ws RX4 TX4 1, w ∈ tb := tb_u wk_Row
theorem in_Row : Cond.instantiable RX4 1 ∈ tb := (tb_t 55 (by decide +kernel) (by decide +kernel))
theorem iz_Row : Cond.initialized RX4 ∈ tb := (tb_t 5 (by decide +kernel) (by decide +kernel))
theorem wk_Wsh : ∀ k, k < 5 → u_lay RX5 TX5 k ∈ tb
  | 0, _ => (tb_t 419 (by decide +kernel) (by decide +kernel))
  | 1, _ => (tb_t 421 (by decide +kernel) (by decide +kernel))
  | 2, _ => (tb_t 423 (by decide +kernel) (by decide +kernel))
  | 3, _ => (tb_t 425 (by decide +kernel) (by decide +kernel))
  | 4, _ => (tb_t 427 (by decide +kernel) (by decide +kernel))
  | k + 5, h => absurd h (by omega)
theorem wi_Wsh : ∀ w ∈ u_ws RX5 TX5 5, w ∈ tb := tb_u wk_Wsh
theorem in_Wsh : Cond.instantiable RX5 5 ∈ tb := (tb_t 402 (by decide +kernel) (by decide +kernel))
theorem iz_Wsh : Cond.initialized RX5 ∈ tb := (tb_t 16 (by decide +kernel) (by decide +kernel))
theorem wk_WR : ∀ k, k < 14 → u_lay RX6 TX6 k ∈ tb
  | 0, _ => (tb_t 101 (by decide +kernel) (by decide +kernel))
  | 1, _ => (tb_t 103 (by decide +kernel) (by decide +kernel))
  | 2, _ => (tb_t 105 (by decide +kernel) (by decide +kernel))
  | 3, _ => (tb_t 107 (by decide +kernel) (by decide +kernel))
  | 4, _ => (tb_t 109 (by decide +kernel) (by decide +kernel))
  | 5, _ => (tb_t 111 (by decide +kernel) (by decide +kernel))
  | 6, _ => (tb_t 113 (by decide +kernel) (by decide +kernel))
  | 7, _ => (tb_t 115 (by decide +kernel) (by decide +kernel))
  | 8, _ => (tb_t 117 (by decide +kernel) (by decide +kernel))
  | 9, _ => (tb_t 119 (by decide +kernel) (by decide +kernel))
  | 10, _ => (tb_t 121 (by decide +kernel) (by decide +kernel))
  | 11, _ => (tb_t 123 (by decide +kernel) (by decide +kernel))
  | 12, _ => (tb_t 125 (by decide +kernel) (by decide +kernel))
  | 13, _ => (tb_t 127 (by decide +kernel) (by decide +kernel))
  | k + 14, h => absurd h (by omega)
theorem wi_WR : ∀ w ∈ u_ws RX6 TX6 14, w ∈ tb := tb_u wk_WR
theorem in_WR : Cond.instantiable RX6 14 ∈ tb := (tb_t 19 (by decide +kernel) (by decide +kernel))
theorem iz_WR : Cond.initialized RX6 ∈ tb := (tb_t 1 (by decide +kernel) (by decide +kernel))
theorem wk_Mo : ∀ k, k < 33 → u_lay RX7 TX7 k ∈ tb
  | 0, _ => (tb_t 675 (by decide +kernel) (by decide +kernel))
  | 1, _ => (tb_t 677 (by decide +kernel) (by decide +kernel))
  | 2, _ => (tb_t 679 (by decide +kernel) (by decide +kernel))
  | 3, _ => (tb_t 681 (by decide +kernel) (by decide +kernel))
  | 4, _ => (tb_t 683 (by decide +kernel) (by decide +kernel))
  | 5, _ => (tb_t 685 (by decide +kernel) (by decide +kernel))
  | 6, _ => (tb_t 687 (by decide +kernel) (by decide +kernel))
  | 7, _ => (tb_t 689 (by decide +kernel) (by decide +kernel))
  | 8, _ => (tb_t 691 (by decide +kernel) (by decide +kernel))
  | 9, _ => (tb_t 693 (by decide +kernel) (by decide +kernel))
  | 10, _ => (tb_t 695 (by decide +kernel) (by decide +kernel))
  | 11, _ => (tb_t 697 (by decide +kernel) (by decide +kernel))
  | 12, _ => (tb_t 699 (by decide +kernel) (by decide +kernel))
  | 13, _ => (tb_t 701 (by decide +kernel) (by decide +kernel))
  | 14, _ => (tb_t 703 (by decide +kernel) (by decide +kernel))
  | 15, _ => (tb_t 705 (by decide +kernel) (by decide +kernel))
  | 16, _ => (tb_t 707 (by decide +kernel) (by decide +kernel))
  | 17, _ => (tb_t 709 (by decide +kernel) (by decide +kernel))
  | 18, _ => (tb_t 711 (by decide +kernel) (by decide +kernel))
  | 19, _ => (tb_t 713 (by decide +kernel) (by decide +kernel))
  | 20, _ => (tb_t 715 (by decide +kernel) (by decide +kernel))
  | 21, _ => (tb_t 717 (by decide +kernel) (by decide +kernel))
  | 22, _ => (tb_t 719 (by decide +kernel) (by decide +kernel))
  | 23, _ => (tb_t 721 (by decide +kernel) (by decide +kernel))
  | 24, _ => (tb_t 723 (by decide +kernel) (by decide +kernel))
  | 25, _ => (tb_t 725 (by decide +kernel) (by decide +kernel))
  | 26, _ => (tb_t 727 (by decide +kernel) (by decide +kernel))
  | 27, _ => (tb_t 729 (by decide +kernel) (by decide +kernel))
  | 28, _ => (tb_t 731 (by decide +kernel) (by decide +kernel))
  | 29, _ => (tb_t 733 (by decide +kernel) (by decide +kernel))
  | 30, _ => (tb_t 735 (by decide +kernel) (by decide +kernel))
  | 31, _ => (tb_t 737 (by decide +kernel) (by decide +kernel))
  | 32, _ => (tb_t 739 (by decide +kernel) (by decide +kernel))
  | k + 33, h => absurd h (by omega)
theorem wi_Mo : ∀ w ∈ u_ws RX7 TX7 33, w ∈ tb := tb_u wk_Mo
theorem in_Mo : Cond.instantiable RX7 33 ∈ tb := (tb_t 632 (by decide +kernel) (by decide +kernel))
theorem iz_Mo : Cond.initialized RX7 ∈ tb := (tb_t 7 (by decide +kernel) (by decide +kernel))
theorem ac_int : Cond.arrayClass .int ∈ tb := (tb_t 64 (by decide +kernel) (by decide +kernel))
theorem ac_long : Cond.arrayClass .long ∈ tb := (tb_t 65 (by decide +kernel) (by decide +kernel))
theorem ac_boolean : Cond.arrayClass .boolean ∈ tb := (tb_t 742 (by decide +kernel) (by decide +kernel))
theorem oi_2 : Cond.instanceMethod objectInit ∈ tb := (tb_t 24 (by decide +kernel) (by decide +kernel))
theorem oi_3 : Cond.code objectInit ⟨#[0xb1]⟩ 1 none ∈ tb := (tb_t 25 (by decide +kernel) (by decide +kernel))
theorem fl_WR_12 : Cond.fieldLink RX6 12 "WishRoutes" "readers" "Ljava/util/ArrayList;" ∈ tb := (tb_t 87 (by decide +kernel) (by decide +kernel))
theorem fl_WR_16 : Cond.fieldLink RX6 16 "WishRoutes" "wishes" "Ljava/util/ArrayList;" ∈ tb := (tb_t 88 (by decide +kernel) (by decide +kernel))
theorem fl_WR_19 : Cond.fieldLink RX6 19 "WishRoutes" "notices" "Ljava/util/ArrayList;" ∈ tb := (tb_t 89 (by decide +kernel) (by decide +kernel))
theorem fl_WR_22 : Cond.fieldLink RX6 22 "WishRoutes" "neighbours" "[I" ∈ tb := (tb_t 90 (by decide +kernel) (by decide +kernel))
theorem fl_WR_28 : Cond.fieldLink RX6 28 "WishRoutes" "lanes" "[LWishRoutes$Lane;" ∈ tb := (tb_t 91 (by decide +kernel) (by decide +kernel))
theorem fl_WR_32 : Cond.fieldLink RX6 32 "WishRoutes" "spareLanes" "Ljava/util/ArrayList;" ∈ tb := (tb_t 92 (by decide +kernel) (by decide +kernel))
theorem fl_WR_38 : Cond.fieldLink RX6 38 "WishRoutes" "known" "LWishRoutes$Row;" ∈ tb := (tb_t 93 (by decide +kernel) (by decide +kernel))
theorem fl_WR_42 : Cond.fieldLink RX6 42 "WishRoutes" "meant" "LWishRoutes$Row;" ∈ tb := (tb_t 94 (by decide +kernel) (by decide +kernel))
theorem fl_WR_49 : Cond.fieldLink RX6 49 "WishRoutes" "reading" "[LWishRoutes$FieldTest;" ∈ tb := (tb_t 95 (by decide +kernel) (by decide +kernel))
theorem fl_WR_53 : Cond.fieldLink RX6 53 "WishRoutes" "desks" "I" ∈ tb := (tb_t 96 (by decide +kernel) (by decide +kernel))
theorem fl_WR_57 : Cond.fieldLink RX6 57 "WishRoutes" "links" "I" ∈ tb := (tb_t 97 (by decide +kernel) (by decide +kernel))
theorem fl_WR_60 : Cond.fieldLink RX6 60 "WishRoutes" "passedOn" "I" ∈ tb := (tb_t 98 (by decide +kernel) (by decide +kernel))
theorem fl_WR_63 : Cond.fieldLink RX6 63 "WishRoutes" "needless" "I" ∈ tb := (tb_t 99 (by decide +kernel) (by decide +kernel))
theorem fl_WR_66 : Cond.fieldLink RX6 66 "WishRoutes" "tellsDelivered" "I" ∈ tb := (tb_t 100 (by decide +kernel) (by decide +kernel))
theorem fl_WR_112 : Cond.fieldLink RX6 112 "WishRoutes$Reader" "desk" "I" ∈ tb := (tb_t 357 (by decide +kernel) (by decide +kernel))
theorem fl_WR_140 : Cond.fieldLink RX6 140 "WishRoutes$Wish" "alive" "Z" ∈ tb := (tb_t 418 (by decide +kernel) (by decide +kernel))
theorem fl_WR_144 : Cond.fieldLink RX6 144 "WishRoutes$Wish" "owner" "LWishRoutes$Reader;" ∈ tb := (tb_t 412 (by decide +kernel) (by decide +kernel))
theorem fl_WR_165 : Cond.fieldLink RX6 165 "WishRoutes$Lane" "size" "I" ∈ tb := (tb_t 187 (by decide +kernel) (by decide +kernel))
theorem fl_WR_181 : Cond.fieldLink RX6 181 "WishRoutes$Lane" "table" "LWishRoutes$Row;" ∈ tb := (tb_t 185 (by decide +kernel) (by decide +kernel))
theorem fl_WR_188 : Cond.fieldLink RX6 188 "WishRoutes$Lane" "told" "LWishRoutes$Row;" ∈ tb := (tb_t 183 (by decide +kernel) (by decide +kernel))
theorem fl_WR_201 : Cond.fieldLink RX6 201 "WishRoutes$Notice" "fields" "[I" ∈ tb := (tb_t 500 (by decide +kernel) (by decide +kernel))
theorem fl_WR_204 : Cond.fieldLink RX6 204 "WishRoutes$Notice" "desk" "I" ∈ tb := (tb_t 498 (by decide +kernel) (by decide +kernel))
theorem fl_WR_205 : Cond.fieldLink RX6 205 "WishRoutes$Notice" "messages" "I" ∈ tb := (tb_t 502 (by decide +kernel) (by decide +kernel))
theorem fl_WR_208 : Cond.fieldLink RX6 208 "WishRoutes$Wish" "reader" "I" ∈ tb := (tb_t 410 (by decide +kernel) (by decide +kernel))
theorem fl_WR_211 : Cond.fieldLink RX6 211 "WishRoutes$Wish" "tests" "[LWishRoutes$FieldTest;" ∈ tb := (tb_t 414 (by decide +kernel) (by decide +kernel))
theorem fl_WR_214 : Cond.fieldLink RX6 214 "WishRoutes$FieldTest" "kind" "I" ∈ tb := (tb_t 77 (by decide +kernel) (by decide +kernel))
theorem fl_WR_238 : Cond.fieldLink RX6 238 "WishRoutes$Wish" "outdoneBy" "LWishRoutes$Row;" ∈ tb := (tb_t 416 (by decide +kernel) (by decide +kernel))
theorem fl_WR_270 : Cond.fieldLink RX6 270 "WishRoutes$Notice" "seenAt" "I" ∈ tb := (tb_t 504 (by decide +kernel) (by decide +kernel))
theorem fl_WR_273 : Cond.fieldLink RX6 273 "WishRoutes$Notice" "heardBy" "I" ∈ tb := (tb_t 506 (by decide +kernel) (by decide +kernel))
theorem fl_WR_276 : Cond.fieldLink RX6 276 "WishRoutes$Notice" "number" "I" ∈ tb := (tb_t 496 (by decide +kernel) (by decide +kernel))
theorem fl_FT_9 : Cond.fieldLink RX0 9 "WishRoutes$FieldTest" "kind" "I" ∈ tb := (tb_t 76 (by decide +kernel) (by decide +kernel))
theorem fl_FT_15 : Cond.fieldLink RX0 15 "WishRoutes$FieldTest" "numbers" "[I" ∈ tb := (tb_t 78 (by decide +kernel) (by decide +kernel))
theorem fl_FT_19 : Cond.fieldLink RX0 19 "WishRoutes$FieldTest" "size" "I" ∈ tb := (tb_t 79 (by decide +kernel) (by decide +kernel))
theorem fl_Lane_12 : Cond.fieldLink RX1 12 "WishRoutes$Lane" "told" "LWishRoutes$Row;" ∈ tb := (tb_t 182 (by decide +kernel) (by decide +kernel))
theorem fl_Lane_18 : Cond.fieldLink RX1 18 "WishRoutes$Lane" "table" "LWishRoutes$Row;" ∈ tb := (tb_t 184 (by decide +kernel) (by decide +kernel))
theorem fl_Lane_21 : Cond.fieldLink RX1 21 "WishRoutes$Lane" "size" "I" ∈ tb := (tb_t 186 (by decide +kernel) (by decide +kernel))
theorem fl_Lane_25 : Cond.fieldLink RX1 25 "WishRoutes$Lane" "items" "[I" ∈ tb := (tb_t 188 (by decide +kernel) (by decide +kernel))
theorem fl_Lane_29 : Cond.fieldLink RX1 29 "WishRoutes$Lane" "rows" "[LWishRoutes$Row;" ∈ tb := (tb_t 189 (by decide +kernel) (by decide +kernel))
theorem fl_Lane_33 : Cond.fieldLink RX1 33 "WishRoutes$Lane" "first" "I" ∈ tb := (tb_t 190 (by decide +kernel) (by decide +kernel))
theorem fl_Not_7 : Cond.fieldLink RX2 7 "WishRoutes$Notice" "messages" "I" ∈ tb := (tb_t 501 (by decide +kernel) (by decide +kernel))
theorem fl_Not_13 : Cond.fieldLink RX2 13 "WishRoutes$Notice" "seenAt" "I" ∈ tb := (tb_t 503 (by decide +kernel) (by decide +kernel))
theorem fl_Not_16 : Cond.fieldLink RX2 16 "WishRoutes$Notice" "heardBy" "I" ∈ tb := (tb_t 505 (by decide +kernel) (by decide +kernel))
theorem fl_Not_19 : Cond.fieldLink RX2 19 "WishRoutes$Notice" "number" "I" ∈ tb := (tb_t 495 (by decide +kernel) (by decide +kernel))
theorem fl_Not_22 : Cond.fieldLink RX2 22 "WishRoutes$Notice" "desk" "I" ∈ tb := (tb_t 497 (by decide +kernel) (by decide +kernel))
theorem fl_Not_25 : Cond.fieldLink RX2 25 "WishRoutes$Notice" "fields" "[I" ∈ tb := (tb_t 499 (by decide +kernel) (by decide +kernel))
theorem fl_Rdr_9 : Cond.fieldLink RX3 9 "WishRoutes$Reader" "hearings" "[I" ∈ tb := (tb_t 358 (by decide +kernel) (by decide +kernel))
theorem fl_Rdr_15 : Cond.fieldLink RX3 15 "WishRoutes$Reader" "size" "I" ∈ tb := (tb_t 359 (by decide +kernel) (by decide +kernel))
theorem fl_Rdr_19 : Cond.fieldLink RX3 19 "WishRoutes$Reader" "desk" "I" ∈ tb := (tb_t 356 (by decide +kernel) (by decide +kernel))
theorem fl_Row_9 : Cond.fieldLink RX4 9 "WishRoutes$Row" "words" "[J" ∈ tb := (tb_t 60 (by decide +kernel) (by decide +kernel))
theorem fl_Wsh_12 : Cond.fieldLink RX5 12 "WishRoutes$Wish" "outdoneBy" "LWishRoutes$Row;" ∈ tb := (tb_t 415 (by decide +kernel) (by decide +kernel))
theorem fl_Wsh_18 : Cond.fieldLink RX5 18 "WishRoutes$Wish" "alive" "Z" ∈ tb := (tb_t 417 (by decide +kernel) (by decide +kernel))
theorem fl_Wsh_22 : Cond.fieldLink RX5 22 "WishRoutes$Wish" "reader" "I" ∈ tb := (tb_t 409 (by decide +kernel) (by decide +kernel))
theorem fl_Wsh_26 : Cond.fieldLink RX5 26 "WishRoutes$Wish" "owner" "LWishRoutes$Reader;" ∈ tb := (tb_t 411 (by decide +kernel) (by decide +kernel))
theorem fl_Wsh_30 : Cond.fieldLink RX5 30 "WishRoutes$Wish" "tests" "[LWishRoutes$FieldTest;" ∈ tb := (tb_t 413 (by decide +kernel) (by decide +kernel))
theorem fl_Mo_9 : Cond.fieldLink RX7 9 "WishRoutesModel" "linked" "[Z" ∈ tb := (tb_t 646 (by decide +kernel) (by decide +kernel))
theorem fl_Mo_13 : Cond.fieldLink RX7 13 "WishRoutesModel" "deskOf" "[I" ∈ tb := (tb_t 647 (by decide +kernel) (by decide +kernel))
theorem fl_Mo_17 : Cond.fieldLink RX7 17 "WishRoutesModel" "readerOf" "[I" ∈ tb := (tb_t 648 (by decide +kernel) (by decide +kernel))
theorem fl_Mo_20 : Cond.fieldLink RX7 20 "WishRoutesModel" "alive" "[Z" ∈ tb := (tb_t 649 (by decide +kernel) (by decide +kernel))
theorem fl_Mo_23 : Cond.fieldLink RX7 23 "WishRoutesModel" "kind" "[I" ∈ tb := (tb_t 650 (by decide +kernel) (by decide +kernel))
theorem fl_Mo_26 : Cond.fieldLink RX7 26 "WishRoutesModel" "many" "[I" ∈ tb := (tb_t 651 (by decide +kernel) (by decide +kernel))
theorem fl_Mo_29 : Cond.fieldLink RX7 29 "WishRoutesModel" "number" "[I" ∈ tb := (tb_t 652 (by decide +kernel) (by decide +kernel))
theorem fl_Mo_32 : Cond.fieldLink RX7 32 "WishRoutesModel" "field" "[I" ∈ tb := (tb_t 653 (by decide +kernel) (by decide +kernel))
theorem fl_Mo_35 : Cond.fieldLink RX7 35 "WishRoutesModel" "sentAt" "[I" ∈ tb := (tb_t 654 (by decide +kernel) (by decide +kernel))
theorem fl_Mo_38 : Cond.fieldLink RX7 38 "WishRoutesModel" "wasAt" "[I" ∈ tb := (tb_t 655 (by decide +kernel) (by decide +kernel))
theorem fl_Mo_41 : Cond.fieldLink RX7 41 "WishRoutesModel" "hasHeard" "[Z" ∈ tb := (tb_t 656 (by decide +kernel) (by decide +kernel))
theorem fl_Mo_44 : Cond.fieldLink RX7 44 "WishRoutesModel" "heard" "[I" ∈ tb := (tb_t 657 (by decide +kernel) (by decide +kernel))
theorem fl_Mo_47 : Cond.fieldLink RX7 47 "WishRoutesModel" "heardMany" "[I" ∈ tb := (tb_t 658 (by decide +kernel) (by decide +kernel))
theorem fl_Mo_50 : Cond.fieldLink RX7 50 "WishRoutesModel" "table" "[J" ∈ tb := (tb_t 659 (by decide +kernel) (by decide +kernel))
theorem fl_Mo_54 : Cond.fieldLink RX7 54 "WishRoutesModel" "told" "[J" ∈ tb := (tb_t 660 (by decide +kernel) (by decide +kernel))
theorem fl_Mo_57 : Cond.fieldLink RX7 57 "WishRoutesModel" "from" "[I" ∈ tb := (tb_t 662 (by decide +kernel) (by decide +kernel))
theorem fl_Mo_60 : Cond.fieldLink RX7 60 "WishRoutesModel" "to" "[I" ∈ tb := (tb_t 663 (by decide +kernel) (by decide +kernel))
theorem fl_Mo_63 : Cond.fieldLink RX7 63 "WishRoutesModel" "what" "[I" ∈ tb := (tb_t 664 (by decide +kernel) (by decide +kernel))
theorem fl_Mo_66 : Cond.fieldLink RX7 66 "WishRoutesModel" "row" "[J" ∈ tb := (tb_t 665 (by decide +kernel) (by decide +kernel))
theorem fl_Mo_69 : Cond.fieldLink RX7 69 "WishRoutesModel" "low" "[J" ∈ tb := (tb_t 669 (by decide +kernel) (by decide +kernel))
theorem fl_Mo_72 : Cond.fieldLink RX7 72 "WishRoutesModel" "high" "[J" ∈ tb := (tb_t 670 (by decide +kernel) (by decide +kernel))
theorem fl_Mo_76 : Cond.fieldLink RX7 76 "WishRoutesModel" "covering" "[Z" ∈ tb := (tb_t 671 (by decide +kernel) (by decide +kernel))
theorem fl_Mo_79 : Cond.fieldLink RX7 79 "WishRoutesModel" "some" "[J" ∈ tb := (tb_t 672 (by decide +kernel) (by decide +kernel))
theorem fl_Mo_82 : Cond.fieldLink RX7 82 "WishRoutesModel" "meant" "[J" ∈ tb := (tb_t 673 (by decide +kernel) (by decide +kernel))
theorem fl_Mo_85 : Cond.fieldLink RX7 85 "WishRoutesModel" "reached" "[Z" ∈ tb := (tb_t 674 (by decide +kernel) (by decide +kernel))
theorem fl_Mo_91 : Cond.fieldLink RX7 91 "WishRoutesModel" "desks" "I" ∈ tb := (tb_t 642 (by decide +kernel) (by decide +kernel))
theorem fl_Mo_95 : Cond.fieldLink RX7 95 "WishRoutesModel" "wishes" "I" ∈ tb := (tb_t 644 (by decide +kernel) (by decide +kernel))
theorem fl_Mo_129 : Cond.fieldLink RX7 129 "WishRoutesModel" "messages" "I" ∈ tb := (tb_t 661 (by decide +kernel) (by decide +kernel))
theorem fl_Mo_161 : Cond.fieldLink RX7 161 "WishRoutesModel" "readers" "I" ∈ tb := (tb_t 643 (by decide +kernel) (by decide +kernel))
theorem fl_Mo_181 : Cond.fieldLink RX7 181 "WishRoutesModel" "passed" "I" ∈ tb := (tb_t 666 (by decide +kernel) (by decide +kernel))
theorem fl_Mo_184 : Cond.fieldLink RX7 184 "WishRoutesModel" "needless" "I" ∈ tb := (tb_t 667 (by decide +kernel) (by decide +kernel))
theorem fl_Mo_191 : Cond.fieldLink RX7 191 "WishRoutesModel" "notices" "I" ∈ tb := (tb_t 645 (by decide +kernel) (by decide +kernel))
theorem fl_Mo_206 : Cond.fieldLink RX7 206 "WishRoutesModel" "delivered" "I" ∈ tb := (tb_t 668 (by decide +kernel) (by decide +kernel))
theorem fl_ALi_7 : Cond.fieldLink RJxc12de 7 "java/util/AbstractList" "modCount" "I" ∈ tb := (tb_t 42 (by decide +kernel) (by decide +kernel))
theorem fl_AL_9 : Cond.fieldLink RJx4a65c 9 "java/util/ArrayList" "elementData" "[Ljava/lang/Object;" ∈ tb := (tb_t 40 (by decide +kernel) (by decide +kernel))
theorem fl_AL_39 : Cond.fieldLink RJx4a65c 39 "java/util/ArrayList" "DEFAULTCAPACITY_EMPTY_ELEMENTDATA" "[Ljava/lang/Object;" ∈ tb := (tb_t 38 (by decide +kernel) (by decide +kernel))
theorem fl_AL_48 : Cond.fieldLink RJx4a65c 48 "java/util/ArrayList" "size" "I" ∈ tb := (tb_t 41 (by decide +kernel) (by decide +kernel))
theorem fl_AL_63 : Cond.fieldLink RJx4a65c 63 "java/util/ArrayList" "modCount" "I" ∈ tb := (tb_t 43 (by decide +kernel) (by decide +kernel))
theorem ml_WR_3 : Cond.methodLink RX6 3 objectInit ∈ tb := (tb_t 23 (by decide +kernel) (by decide +kernel))
theorem ml_WR_11 : Cond.methodLink RX6 11 yJx4a65c_init_da8c8 ∈ tb := (tb_t 28 (by decide +kernel) (by decide +kernel))
theorem ml_WR_45 : Cond.methodLink RX6 45 yX6_allAny ∈ tb := (tb_t 66 (by decide +kernel) (by decide +kernel))
theorem ml_WR_69 : Cond.methodLink RX6 69 yX6_isDesk ∈ tb := (tb_t 138 (by decide +kernel) (by decide +kernel))
theorem ml_WR_73 : Cond.methodLink RX6 73 yX6_reach ∈ tb := (tb_t 142 (by decide +kernel) (by decide +kernel))
theorem ml_WR_77 : Cond.methodLink RX6 77 yX6_inMask ∈ tb := (tb_t 146 (by decide +kernel) (by decide +kernel))
theorem ml_WR_81 : Cond.methodLink RX6 81 yX6_openLane ∈ tb := (tb_t 149 (by decide +kernel) (by decide +kernel))
theorem ml_WR_85 : Cond.methodLink RX6 85 yX6_tellNeighbours ∈ tb := (tb_t 204 (by decide +kernel) (by decide +kernel))
theorem ml_WR_89 : Cond.methodLink RX6 89 yX6_laneFrom ∈ tb := (tb_t 208 (by decide +kernel) (by decide +kernel))
theorem ml_WR_93 : Cond.methodLink RX6 93 yX6_closeLane ∈ tb := (tb_t 277 (by decide +kernel) (by decide +kernel))
theorem ml_WR_96 : Cond.methodLink RX6 96 yJx4a65c_size_8abf5 ∈ tb := (tb_t 153 (by decide +kernel) (by decide +kernel))
theorem ml_WR_102 : Cond.methodLink RX6 102 yX3_init ∈ tb := (tb_t 352 (by decide +kernel) (by decide +kernel))
theorem ml_WR_104 : Cond.methodLink RX6 104 yJx4a65c_add_9ea2d ∈ tb := (tb_t 292 (by decide +kernel) (by decide +kernel))
theorem ml_WR_108 : Cond.methodLink RX6 108 yX6_findReader ∈ tb := (tb_t 371 (by decide +kernel) (by decide +kernel))
theorem ml_WR_115 : Cond.methodLink RX6 115 yX6_isField ∈ tb := (tb_t 379 (by decide +kernel) (by decide +kernel))
theorem ml_WR_118 : Cond.methodLink RX6 118 yX0_setKind ∈ tb := (tb_t 382 (by decide +kernel) (by decide +kernel))
theorem ml_WR_124 : Cond.methodLink RX6 124 yX0_addNumber ∈ tb := (tb_t 390 (by decide +kernel) (by decide +kernel))
theorem ml_WR_129 : Cond.methodLink RX6 129 yX5_init ∈ tb := (tb_t 403 (by decide +kernel) (by decide +kernel))
theorem ml_WR_132 : Cond.methodLink RX6 132 yX6_weigh ∈ tb := (tb_t 430 (by decide +kernel) (by decide +kernel))
theorem ml_WR_136 : Cond.methodLink RX6 136 yX6_findWish ∈ tb := (tb_t 478 (by decide +kernel) (by decide +kernel))
theorem ml_WR_148 : Cond.methodLink RX6 148 yX6_underWay ∈ tb := (tb_t 486 (by decide +kernel) (by decide +kernel))
theorem ml_WR_153 : Cond.methodLink RX6 153 yX2_init ∈ tb := (tb_t 491 (by decide +kernel) (by decide +kernel))
theorem ml_WR_156 : Cond.methodLink RX6 156 yX6_letHear ∈ tb := (tb_t 520 (by decide +kernel) (by decide +kernel))
theorem ml_WR_160 : Cond.methodLink RX6 160 yX6_passOn ∈ tb := (tb_t 536 (by decide +kernel) (by decide +kernel))
theorem ml_WR_167 : Cond.methodLink RX6 167 yX6_deliverFirst ∈ tb := (tb_t 557 (by decide +kernel) (by decide +kernel))
theorem ml_WR_170 : Cond.methodLink RX6 170 yX6_firstBusyPlace ∈ tb := (tb_t 569 (by decide +kernel) (by decide +kernel))
theorem ml_WR_173 : Cond.methodLink RX6 173 yX5_takesIn ∈ tb := (tb_t 434 (by decide +kernel) (by decide +kernel))
theorem ml_WR_177 : Cond.methodLink RX6 177 yX5_isMetBy ∈ tb := (tb_t 524 (by decide +kernel) (by decide +kernel))
theorem ml_WR_184 : Cond.methodLink RX6 184 yX4_nth ∈ tb := (tb_t 585 (by decide +kernel) (by decide +kernel))
theorem ml_WR_191 : Cond.methodLink RX6 191 yX1_itemAt ∈ tb := (tb_t 281 (by decide +kernel) (by decide +kernel))
theorem ml_WR_194 : Cond.methodLink RX6 194 yX3_nthHeard ∈ tb := (tb_t 602 (by decide +kernel) (by decide +kernel))
theorem ml_WR_197 : Cond.methodLink RX6 197 yX6_findNotice ∈ tb := (tb_t 282 (by decide +kernel) (by decide +kernel))
theorem ml_WR_217 : Cond.methodLink RX6 217 yX0_numberAt ∈ tb := (tb_t 614 (by decide +kernel) (by decide +kernel))
theorem ml_WR_220 : Cond.methodLink RX6 220 yX6_messagesInLanes ∈ tb := (tb_t 619 (by decide +kernel) (by decide +kernel))
theorem ml_WR_223 : Cond.methodLink RX6 223 yX6_tellsInLanes ∈ tb := (tb_t 623 (by decide +kernel) (by decide +kernel))
theorem ml_WR_227 : Cond.methodLink RX6 227 yJx4a65c_get_915e3 ∈ tb := (tb_t 224 (by decide +kernel) (by decide +kernel))
theorem ml_WR_231 : Cond.methodLink RX6 231 yJx4a65c_remove_915e3 ∈ tb := (tb_t 157 (by decide +kernel) (by decide +kernel))
theorem ml_WR_235 : Cond.methodLink RX6 235 yX1_clear ∈ tb := (tb_t 287 (by decide +kernel) (by decide +kernel))
theorem ml_WR_241 : Cond.methodLink RX6 241 yX4_add ∈ tb := (tb_t 233 (by decide +kernel) (by decide +kernel))
theorem ml_WR_243 : Cond.methodLink RX6 243 yX6_findMeant ∈ tb := (tb_t 212 (by decide +kernel) (by decide +kernel))
theorem ml_WR_246 : Cond.methodLink RX6 246 yX4_sameAs ∈ tb := (tb_t 249 (by decide +kernel) (by decide +kernel))
theorem ml_WR_250 : Cond.methodLink RX6 250 yX1_putTell ∈ tb := (tb_t 253 (by decide +kernel) (by decide +kernel))
theorem ml_WR_254 : Cond.methodLink RX6 254 yX6_findKnown ∈ tb := (tb_t 216 (by decide +kernel) (by decide +kernel))
theorem ml_WR_257 : Cond.methodLink RX6 257 yX4_clear ∈ tb := (tb_t 220 (by decide +kernel) (by decide +kernel))
theorem ml_WR_258 : Cond.methodLink RX6 258 yX4_has ∈ tb := (tb_t 241 (by decide +kernel) (by decide +kernel))
theorem ml_WR_261 : Cond.methodLink RX6 261 yX4_meets ∈ tb := (tb_t 245 (by decide +kernel) (by decide +kernel))
theorem ml_WR_264 : Cond.methodLink RX6 264 yX4_addAll ∈ tb := (tb_t 237 (by decide +kernel) (by decide +kernel))
theorem ml_WR_267 : Cond.methodLink RX6 267 yX1_takeFirst ∈ tb := (tb_t 561 (by decide +kernel) (by decide +kernel))
theorem ml_WR_279 : Cond.methodLink RX6 279 yX3_addHeard ∈ tb := (tb_t 532 (by decide +kernel) (by decide +kernel))
theorem ml_WR_282 : Cond.methodLink RX6 282 yX6_isInTable ∈ tb := (tb_t 540 (by decide +kernel) (by decide +kernel))
theorem ml_WR_286 : Cond.methodLink RX6 286 yX1_putNotice ∈ tb := (tb_t 544 (by decide +kernel) (by decide +kernel))
theorem ml_WR_289 : Cond.methodLink RX6 289 yX6_isWantedAt ∈ tb := (tb_t 548 (by decide +kernel) (by decide +kernel))
theorem ml_WR_293 : Cond.methodLink RX6 293 yX1_tells ∈ tb := (tb_t 627 (by decide +kernel) (by decide +kernel))
theorem ml_FT_3 : Cond.methodLink RX0 3 objectInit ∈ tb := (tb_t 75 (by decide +kernel) (by decide +kernel))
theorem ml_FT_22 : Cond.methodLink RX0 22 yX0_hasNumber ∈ tb := (tb_t 394 (by decide +kernel) (by decide +kernel))
theorem ml_FT_30 : Cond.methodLink RX0 30 yX0_spans ∈ tb := (tb_t 452 (by decide +kernel) (by decide +kernel))
theorem ml_FT_34 : Cond.methodLink RX0 34 yX0_spanStart ∈ tb := (tb_t 456 (by decide +kernel) (by decide +kernel))
theorem ml_FT_38 : Cond.methodLink RX0 38 yX0_spanEnd ∈ tb := (tb_t 465 (by decide +kernel) (by decide +kernel))
theorem ml_FT_41 : Cond.methodLink RX0 41 yX0_passesAll ∈ tb := (tb_t 470 (by decide +kernel) (by decide +kernel))
theorem ml_FT_47 : Cond.methodLink RX0 47 yX0_numberAt ∈ tb := (tb_t 461 (by decide +kernel) (by decide +kernel))
theorem ml_Lane_3 : Cond.methodLink RX1 3 objectInit ∈ tb := (tb_t 178 (by decide +kernel) (by decide +kernel))
theorem ml_Lane_36 : Cond.methodLink RX1 36 yX1_slot ∈ tb := (tb_t 261 (by decide +kernel) (by decide +kernel))
theorem ml_Lane_40 : Cond.methodLink RX1 40 yX1_itemAt ∈ tb := (tb_t 257 (by decide +kernel) (by decide +kernel))
theorem ml_Lane_43 : Cond.methodLink RX1 43 yX1_rowAt ∈ tb := (tb_t 265 (by decide +kernel) (by decide +kernel))
theorem ml_Lane_47 : Cond.methodLink RX1 47 yX4_set ∈ tb := (tb_t 269 (by decide +kernel) (by decide +kernel))
theorem ml_Lane_51 : Cond.methodLink RX1 51 yX4_clear ∈ tb := (tb_t 291 (by decide +kernel) (by decide +kernel))
theorem ml_Not_1 : Cond.methodLink RX2 1 objectInit ∈ tb := (tb_t 494 (by decide +kernel) (by decide +kernel))
theorem ml_Rdr_3 : Cond.methodLink RX3 3 objectInit ∈ tb := (tb_t 355 (by decide +kernel) (by decide +kernel))
theorem ml_Row_3 : Cond.methodLink RX4 3 objectInit ∈ tb := (tb_t 59 (by decide +kernel) (by decide +kernel))
theorem ml_Row_15 : Cond.methodLink RX4 15 yX4_has ∈ tb := (tb_t 589 (by decide +kernel) (by decide +kernel))
theorem ml_Wsh_3 : Cond.methodLink RX5 3 objectInit ∈ tb := (tb_t 406 (by decide +kernel) (by decide +kernel))
theorem ml_Wsh_34 : Cond.methodLink RX5 34 yX0_passes ∈ tb := (tb_t 528 (by decide +kernel) (by decide +kernel))
theorem ml_Wsh_40 : Cond.methodLink RX5 40 yX5_isNeverMet ∈ tb := (tb_t 438 (by decide +kernel) (by decide +kernel))
theorem ml_Wsh_44 : Cond.methodLink RX5 44 yX0_isAsWideAs ∈ tb := (tb_t 448 (by decide +kernel) (by decide +kernel))
theorem ml_Wsh_48 : Cond.methodLink RX5 48 yX0_passesNone ∈ tb := (tb_t 442 (by decide +kernel) (by decide +kernel))
theorem ml_Law_9 : Cond.methodLink RL 9 yX6_init ∈ tb := (tb_t 20 (by decide +kernel) (by decide +kernel))
theorem ml_Law_12 : Cond.methodLink RL 12 yX7_init ∈ tb := (tb_t 633 (by decide +kernel) (by decide +kernel))
theorem ml_Law_13 : Cond.methodLink RL 13 yX6_desk ∈ tb := (tb_t 130 (by decide +kernel) (by decide +kernel))
theorem ml_Law_17 : Cond.methodLink RL 17 yX7_desk ∈ tb := (tb_t 743 (by decide +kernel) (by decide +kernel))
theorem ml_Law_18 : Cond.methodLink RL 18 yX6_link ∈ tb := (tb_t 134 (by decide +kernel) (by decide +kernel))
theorem ml_Law_22 : Cond.methodLink RL 22 yX7_link ∈ tb := (tb_t 747 (by decide +kernel) (by decide +kernel))
theorem ml_Law_23 : Cond.methodLink RL 23 yX6_cut ∈ tb := (tb_t 273 (by decide +kernel) (by decide +kernel))
theorem ml_Law_26 : Cond.methodLink RL 26 yX7_cut ∈ tb := (tb_t 789 (by decide +kernel) (by decide +kernel))
theorem ml_Law_27 : Cond.methodLink RL 27 yX6_reader ∈ tb := (tb_t 346 (by decide +kernel) (by decide +kernel))
theorem ml_Law_31 : Cond.methodLink RL 31 yX7_reader ∈ tb := (tb_t 797 (by decide +kernel) (by decide +kernel))
theorem ml_Law_32 : Cond.methodLink RL 32 yX6_move ∈ tb := (tb_t 367 (by decide +kernel) (by decide +kernel))
theorem ml_Law_35 : Cond.methodLink RL 35 yX7_move ∈ tb := (tb_t 801 (by decide +kernel) (by decide +kernel))
theorem ml_Law_36 : Cond.methodLink RL 36 yX6_test ∈ tb := (tb_t 375 (by decide +kernel) (by decide +kernel))
theorem ml_Law_40 : Cond.methodLink RL 40 yX7_test ∈ tb := (tb_t 809 (by decide +kernel) (by decide +kernel))
theorem ml_Law_41 : Cond.methodLink RL 41 yX6_among ∈ tb := (tb_t 386 (by decide +kernel) (by decide +kernel))
theorem ml_Law_45 : Cond.methodLink RL 45 yX7_among ∈ tb := (tb_t 816 (by decide +kernel) (by decide +kernel))
theorem ml_Law_46 : Cond.methodLink RL 46 yX6_wish ∈ tb := (tb_t 398 (by decide +kernel) (by decide +kernel))
theorem ml_Law_49 : Cond.methodLink RL 49 yX7_wish ∈ tb := (tb_t 824 (by decide +kernel) (by decide +kernel))
theorem ml_Law_50 : Cond.methodLink RL 50 yX6_off ∈ tb := (tb_t 474 (by decide +kernel) (by decide +kernel))
theorem ml_Law_53 : Cond.methodLink RL 53 yX7_off ∈ tb := (tb_t 842 (by decide +kernel) (by decide +kernel))
theorem ml_Law_54 : Cond.methodLink RL 54 yX6_send ∈ tb := (tb_t 482 (by decide +kernel) (by decide +kernel))
theorem ml_Law_58 : Cond.methodLink RL 58 yX7_send ∈ tb := (tb_t 850 (by decide +kernel) (by decide +kernel))
theorem ml_Law_59 : Cond.methodLink RL 59 yX6_deliver ∈ tb := (tb_t 552 (by decide +kernel) (by decide +kernel))
theorem ml_Law_63 : Cond.methodLink RL 63 yX7_deliver ∈ tb := (tb_t 882 (by decide +kernel) (by decide +kernel))
theorem ml_Law_64 : Cond.methodLink RL 64 yX6_all ∈ tb := (tb_t 565 (by decide +kernel) (by decide +kernel))
theorem ml_Law_67 : Cond.methodLink RL 67 yX7_all ∈ tb := (tb_t 894 (by decide +kernel) (by decide +kernel))
theorem ml_Law_68 : Cond.methodLink RL 68 yX6_covers ∈ tb := (tb_t 573 (by decide +kernel) (by decide +kernel))
theorem ml_Law_71 : Cond.methodLink RL 71 yX7_covers ∈ tb := (tb_t 898 (by decide +kernel) (by decide +kernel))
theorem ml_Law_72 : Cond.methodLink RL 72 yX6_fits ∈ tb := (tb_t 577 (by decide +kernel) (by decide +kernel))
theorem ml_Law_75 : Cond.methodLink RL 75 yX7_fits ∈ tb := (tb_t 902 (by decide +kernel) (by decide +kernel))
theorem ml_Law_76 : Cond.methodLink RL 76 yX6_table ∈ tb := (tb_t 581 (by decide +kernel) (by decide +kernel))
theorem ml_Law_79 : Cond.methodLink RL 79 yX7_table ∈ tb := (tb_t 906 (by decide +kernel) (by decide +kernel))
theorem ml_Law_80 : Cond.methodLink RL 80 yX6_told ∈ tb := (tb_t 590 (by decide +kernel) (by decide +kernel))
theorem ml_Law_83 : Cond.methodLink RL 83 yX7_told ∈ tb := (tb_t 914 (by decide +kernel) (by decide +kernel))
theorem ml_Law_84 : Cond.methodLink RL 84 yX6_message ∈ tb := (tb_t 594 (by decide +kernel) (by decide +kernel))
theorem ml_Law_87 : Cond.methodLink RL 87 yX7_message ∈ tb := (tb_t 918 (by decide +kernel) (by decide +kernel))
theorem ml_Law_88 : Cond.methodLink RL 88 yX6_heard ∈ tb := (tb_t 598 (by decide +kernel) (by decide +kernel))
theorem ml_Law_91 : Cond.methodLink RL 91 yX7_heard ∈ tb := (tb_t 922 (by decide +kernel) (by decide +kernel))
theorem ml_Law_92 : Cond.methodLink RL 92 yX6_notice ∈ tb := (tb_t 606 (by decide +kernel) (by decide +kernel))
theorem ml_Law_95 : Cond.methodLink RL 95 yX7_notice ∈ tb := (tb_t 926 (by decide +kernel) (by decide +kernel))
theorem ml_Law_96 : Cond.methodLink RL 96 yX6_look ∈ tb := (tb_t 610 (by decide +kernel) (by decide +kernel))
theorem ml_Law_99 : Cond.methodLink RL 99 yX7_look ∈ tb := (tb_t 930 (by decide +kernel) (by decide +kernel))
theorem ml_Law_100 : Cond.methodLink RL 100 yX6_count ∈ tb := (tb_t 615 (by decide +kernel) (by decide +kernel))
theorem ml_Law_103 : Cond.methodLink RL 103 yX7_count ∈ tb := (tb_t 934 (by decide +kernel) (by decide +kernel))
theorem ml_Mo_3 : Cond.methodLink RX7 3 objectInit ∈ tb := (tb_t 636 (by decide +kernel) (by decide +kernel))
theorem ml_Mo_88 : Cond.methodLink RX7 88 yX7_unread ∈ tb := (tb_t 638 (by decide +kernel) (by decide +kernel))
theorem ml_Mo_98 : Cond.methodLink RX7 98 yX7_passes ∈ tb := (tb_t 820 (by decide +kernel) (by decide +kernel))
theorem ml_Mo_102 : Cond.methodLink RX7 102 yX7_isFit ∈ tb := (tb_t 874 (by decide +kernel) (by decide +kernel))
theorem ml_Mo_112 : Cond.methodLink RX7 112 yX7_spans ∈ tb := (tb_t 832 (by decide +kernel) (by decide +kernel))
theorem ml_Mo_116 : Cond.methodLink RX7 116 yX7_holds ∈ tb := (tb_t 838 (by decide +kernel) (by decide +kernel))
theorem ml_Mo_119 : Cond.methodLink RX7 119 yX7_isLinked ∈ tb := (tb_t 759 (by decide +kernel) (by decide +kernel))
theorem ml_Mo_122 : Cond.methodLink RX7 122 yX7_rowOf ∈ tb := (tb_t 767 (by decide +kernel) (by decide +kernel))
theorem ml_Mo_125 : Cond.methodLink RX7 125 yX7_has ∈ tb := (tb_t 778 (by decide +kernel) (by decide +kernel))
theorem ml_Mo_132 : Cond.methodLink RX7 132 yX7_means ∈ tb := (tb_t 774 (by decide +kernel) (by decide +kernel))
theorem ml_Mo_136 : Cond.methodLink RX7 136 yX7_lastOf ∈ tb := (tb_t 781 (by decide +kernel) (by decide +kernel))
theorem ml_Mo_139 : Cond.methodLink RX7 139 yX7_put ∈ tb := (tb_t 785 (by decide +kernel) (by decide +kernel))
theorem ml_Mo_143 : Cond.methodLink RX7 143 yX7_isDesk ∈ tb := (tb_t 751 (by decide +kernel) (by decide +kernel))
theorem ml_Mo_147 : Cond.methodLink RX7 147 yX7_reach ∈ tb := (tb_t 755 (by decide +kernel) (by decide +kernel))
theorem ml_Mo_150 : Cond.methodLink RX7 150 yX7_links ∈ tb := (tb_t 763 (by decide +kernel) (by decide +kernel))
theorem ml_Mo_154 : Cond.methodLink RX7 154 yX7_tells ∈ tb := (tb_t 770 (by decide +kernel) (by decide +kernel))
theorem ml_Mo_157 : Cond.methodLink RX7 157 yX7_drop ∈ tb := (tb_t 793 (by decide +kernel) (by decide +kernel))
theorem ml_Mo_164 : Cond.methodLink RX7 164 yX7_isReader ∈ tb := (tb_t 805 (by decide +kernel) (by decide +kernel))
theorem ml_Mo_167 : Cond.methodLink RX7 167 yX7_isField ∈ tb := (tb_t 813 (by decide +kernel) (by decide +kernel))
theorem ml_Mo_170 : Cond.methodLink RX7 170 yX7_isCovered ∈ tb := (tb_t 828 (by decide +kernel) (by decide +kernel))
theorem ml_Mo_173 : Cond.methodLink RX7 173 yX7_isWish ∈ tb := (tb_t 846 (by decide +kernel) (by decide +kernel))
theorem ml_Mo_176 : Cond.methodLink RX7 176 yX7_isFit_ ∈ tb := (tb_t 870 (by decide +kernel) (by decide +kernel))
theorem ml_Mo_178 : Cond.methodLink RX7 178 yX7_wants ∈ tb := (tb_t 866 (by decide +kernel) (by decide +kernel))
theorem ml_Mo_187 : Cond.methodLink RX7 187 yX7_isNeeded ∈ tb := (tb_t 878 (by decide +kernel) (by decide +kernel))
theorem ml_Mo_194 : Cond.methodLink RX7 194 yX7_messagesOf ∈ tb := (tb_t 858 (by decide +kernel) (by decide +kernel))
theorem ml_Mo_198 : Cond.methodLink RX7 198 yX7_underWay ∈ tb := (tb_t 854 (by decide +kernel) (by decide +kernel))
theorem ml_Mo_202 : Cond.methodLink RX7 202 yX7_comes ∈ tb := (tb_t 862 (by decide +kernel) (by decide +kernel))
theorem ml_Mo_209 : Cond.methodLink RX7 209 yX7_firstOf ∈ tb := (tb_t 886 (by decide +kernel) (by decide +kernel))
theorem ml_Mo_212 : Cond.methodLink RX7 212 yX7_delivers ∈ tb := (tb_t 890 (by decide +kernel) (by decide +kernel))
theorem ml_Mo_215 : Cond.methodLink RX7 215 yX7_inRow ∈ tb := (tb_t 910 (by decide +kernel) (by decide +kernel))
theorem ml_AC_1 : Cond.methodLink RJxa1e45 1 objectInit ∈ tb := (tb_t 37 (by decide +kernel) (by decide +kernel))
theorem ml_ALi_1 : Cond.methodLink RJxc12de 1 yJxa1e45_init_da8c8 ∈ tb := (tb_t 34 (by decide +kernel) (by decide +kernel))
theorem ml_AL_1 : Cond.methodLink RJx4a65c 1 yJxc12de_init_da8c8 ∈ tb := (tb_t 31 (by decide +kernel) (by decide +kernel))
theorem ml_AL_66 : Cond.methodLink RJx4a65c 66 yJ7_copyOf_1904c ∈ tb := (tb_t 318 (by decide +kernel) (by decide +kernel))
theorem ml_AL_69 : Cond.methodLink RJx4a65c 69 yJx4a65c_grow_92f84 ∈ tb := (tb_t 304 (by decide +kernel) (by decide +kernel))
theorem ml_AL_73 : Cond.methodLink RJx4a65c 73 yJ8_newLength_cabcc ∈ tb := (tb_t 308 (by decide +kernel) (by decide +kernel))
theorem ml_AL_79 : Cond.methodLink RJx4a65c 79 yJ9_max_7cf53 ∈ tb := (tb_t 344 (by decide +kernel) (by decide +kernel))
theorem ml_AL_112 : Cond.methodLink RJx4a65c 112 arraycopyName ∈ tb := (tb_t 171 (by decide +kernel) (by decide +kernel))
theorem ml_AL_118 : Cond.methodLink RJx4a65c 118 yJ15_checkIndex_7cf53 ∈ tb := (tb_t 161 (by decide +kernel) (by decide +kernel))
theorem ml_AL_123 : Cond.methodLink RJx4a65c 123 yJx4a65c_elementData_915e3 ∈ tb := (tb_t 228 (by decide +kernel) (by decide +kernel))
theorem ml_AL_129 : Cond.methodLink RJx4a65c 129 yJx4a65c_grow_d5877 ∈ tb := (tb_t 300 (by decide +kernel) (by decide +kernel))
theorem ml_AL_131 : Cond.methodLink RJx4a65c 131 yJx4a65c_add_72be8 ∈ tb := (tb_t 296 (by decide +kernel) (by decide +kernel))
theorem ml_AL_144 : Cond.methodLink RJx4a65c 144 yJx4a65c_fastRemove_b59b0 ∈ tb := (tb_t 167 (by decide +kernel) (by decide +kernel))
theorem ml_Arrs_86 : Cond.methodLink RJ7 86 ⟨"java/lang/Object", "getClass", "()Ljava/lang/Class;"⟩ ∈ tb := (tb_t 321 (by decide +kernel) (by decide +kernel))
theorem ml_Arrs_150 : Cond.methodLink RJ7 150 arraycopyName ∈ tb := (tb_t 343 (by decide +kernel) (by decide +kernel))
theorem ml_Arrs_300 : Cond.methodLink RJ7 300 yJ7_copyOf_6403c ∈ tb := (tb_t 334 (by decide +kernel) (by decide +kernel))
theorem ml_Arrs_304 : Cond.methodLink RJ7 304 yJ9_min_7cf53 ∈ tb := (tb_t 340 (by decide +kernel) (by decide +kernel))
theorem ml_Objs_105 : Cond.methodLink RJ15 105 yJ3_checkIndex_8e157 ∈ tb := (tb_t 164 (by decide +kernel) (by decide +kernel))
theorem ml_ASup_194 : Cond.methodLink RJ8 194 yJ9_max_7cf53 ∈ tb := (tb_t 311 (by decide +kernel) (by decide +kernel))
theorem ml_ASup_201 : Cond.methodLink RJ8 201 yJ8_hugeLength_7cf53 ∈ tb := (tb_t 315 (by decide +kernel) (by decide +kernel))
theorem mn_WR_37 : Cond.methodLinkNest RX6 37 yX4_init "WishRoutes" ∈ xw := (xw_t 56 (by decide +kernel) (by decide +kernel))
theorem mn_WR_226 : Cond.methodLinkNest RX6 226 yX0_init "WishRoutes" ∈ xw := (xw_t 72 (by decide +kernel) (by decide +kernel))
theorem mn_WR_234 : Cond.methodLinkNest RX6 234 yX1_init "WishRoutes" ∈ xw := (xw_t 175 (by decide +kernel) (by decide +kernel))
theorem mn_Lane_11 : Cond.methodLinkNest RX1 11 yX4_init "WishRoutes" ∈ xw := (xw_t 180 (by decide +kernel) (by decide +kernel))
theorem mn_Wsh_11 : Cond.methodLinkNest RX5 11 yX4_init "WishRoutes" ∈ xw := (xw_t 408 (by decide +kernel) (by decide +kernel))
theorem cl_WR_9 : Cond.classLink RX6 9 RJx4a65c ∈ tb := (tb_t 26 (by decide +kernel) (by decide +kernel))
theorem cl_WR_26 : Cond.classLink RX6 26 RX1 ∈ tb := (tb_t 52 (by decide +kernel) (by decide +kernel))
theorem cl_WR_35 : Cond.classLink RX6 35 RX4 ∈ tb := (tb_t 54 (by decide +kernel) (by decide +kernel))
theorem cl_WR_100 : Cond.classLink RX6 100 RX3 ∈ tb := (tb_t 350 (by decide +kernel) (by decide +kernel))
theorem cl_WR_119 : Cond.classLink RX6 119 RX0 ∈ tb := (tb_t 69 (by decide +kernel) (by decide +kernel))
theorem cl_WR_127 : Cond.classLink RX6 127 RX5 ∈ tb := (tb_t 232 (by decide +kernel) (by decide +kernel))
theorem cl_WR_151 : Cond.classLink RX6 151 RX2 ∈ tb := (tb_t 286 (by decide +kernel) (by decide +kernel))
theorem cl_Lane_9 : Cond.classLink RX1 9 RX4 ∈ tb := (tb_t 179 (by decide +kernel) (by decide +kernel))
theorem cl_Wsh_9 : Cond.classLink RX5 9 RX4 ∈ tb := (tb_t 407 (by decide +kernel) (by decide +kernel))
theorem cl_Law_7 : Cond.classLink RL 7 RX6 ∈ tb := (tb_t 18 (by decide +kernel) (by decide +kernel))
theorem cl_Law_10 : Cond.classLink RL 10 RX7 ∈ tb := (tb_t 631 (by decide +kernel) (by decide +kernel))
theorem cl_AL_7 : Cond.classLink RJx4a65c 7 "java/lang/Object" ∈ tb := (tb_t 345 (by decide +kernel) (by decide +kernel))
theorem cl_Arrs_2 : Cond.classLink RJ7 2 "java/lang/Object" ∈ tb := (tb_t 339 (by decide +kernel) (by decide +kernel))
theorem cl_Arrs_110 : Cond.classLink RJ7 110 "[Ljava/lang/Object;" ∈ tb := (tb_t 337 (by decide +kernel) (by decide +kernel))
theorem kc_WR_164 : Cond.constant RX6 164 (1000000) ∈ tb := (tb_t 556 (by decide +kernel) (by decide +kernel))
theorem kc_FT_28 : Cond.constant RX0 28 (-2147483648) ∈ tb := (tb_t 446 (by decide +kernel) (by decide +kernel))
theorem kc_FT_29 : Cond.constant RX0 29 (2147483647) ∈ tb := (tb_t 447 (by decide +kernel) (by decide +kernel))
theorem kc_Mo_75 : Cond.constant RX7 75 (90000) ∈ tb := (tb_t 637 (by decide +kernel) (by decide +kernel))
theorem kc_ASup_200 : Cond.constant RJ8 200 (2147483639) ∈ tb := (tb_t 314 (by decide +kernel) (by decide +kernel))
theorem kl_FT_45 : Cond.constantLong RX0 45 (-2147483648) ∈ tb := (tb_t 460 (by decide +kernel) (by decide +kernel))
theorem kl_FT_51 : Cond.constantLong RX0 51 (2147483647) ∈ tb := (tb_t 469 (by decide +kernel) (by decide +kernel))
theorem kl_Mo_108 : Cond.constantLong RX7 108 (-2147483648) ∈ tb := (tb_t 836 (by decide +kernel) (by decide +kernel))
theorem kl_Mo_110 : Cond.constantLong RX7 110 (2147483647) ∈ tb := (tb_t 837 (by decide +kernel) (by decide +kernel))
theorem ao_Lane_0 : Cond.arrayOver (.object "WishRoutes$Lane") ∈ xw := (xw_t 53 (by decide +kernel) (by decide +kernel))
theorem ao_FT_0 : Cond.arrayOver (.object "WishRoutes$FieldTest") ∈ xw := (xw_t 70 (by decide +kernel) (by decide +kernel))
theorem ao_Row_0 : Cond.arrayOver (.object "WishRoutes$Row") ∈ xw := (xw_t 181 (by decide +kernel) (by decide +kernel))
theorem ao_Obj_0 : Cond.arrayOver (.object "java/lang/Object") ∈ xw := (xw_t 338 (by decide +kernel) (by decide +kernel))
theorem sf_AL_0 : Cond.sameField "java/util/ArrayList" "java/util/AbstractList" "modCount" "I" ∈ tb := (tb_t 44 (by decide +kernel) (by decide +kernel))
theorem zk_Lane_Lane : zcast 2 "WishRoutes$Lane" := Or.inl rfl
theorem zk_Wsh_Wsh : zcast 6 "WishRoutes$Wish" := Or.inl rfl
theorem zk_Not_Not : zcast 3 "WishRoutes$Notice" := Or.inl rfl
theorem zk_Rdr_Rdr : zcast 4 "WishRoutes$Reader" := Or.inl rfl
theorem zk_WR_Obj : zcast 7 "java/lang/Object" := Or.inr (xw_t 945 (by decide +kernel) (by decide +kernel))
theorem zk_Row_Obj : zcast 5 "java/lang/Object" := Or.inr (xw_t 946 (by decide +kernel) (by decide +kernel))
theorem zk_FT_Obj : zcast 1 "java/lang/Object" := Or.inr (xw_t 947 (by decide +kernel) (by decide +kernel))
theorem zk_Mo_Obj : zcast 8 "java/lang/Object" := Or.inr (xw_t 948 (by decide +kernel) (by decide +kernel))
theorem zk_Lane_Obj : zcast 2 "java/lang/Object" := Or.inr (xw_t 949 (by decide +kernel) (by decide +kernel))
theorem zk_Rdr_Obj : zcast 4 "java/lang/Object" := Or.inr (xw_t 950 (by decide +kernel) (by decide +kernel))
theorem zk_Wsh_Obj : zcast 6 "java/lang/Object" := Or.inr (xw_t 951 (by decide +kernel) (by decide +kernel))
theorem zk_Not_Obj : zcast 3 "java/lang/Object" := Or.inr (xw_t 952 (by decide +kernel) (by decide +kernel))
theorem zk_FT_FT : zcast 1 "WishRoutes$FieldTest" := Or.inl rfl
theorem zk_Row_Row : zcast 5 "WishRoutes$Row" := Or.inl rfl
theorem yi_FT_init : zYI yX0_init cX0_init 1 1 := ⟨by decide +kernel, (tb_t 73 (by decide +kernel) (by decide +kernel)), (tb_t 6 (by decide +kernel) (by decide +kernel)), (tb_t 74 (by decide +kernel) (by decide +kernel)), by decide +kernel, by decide +kernel, by decide +kernel⟩
theorem yv_FT_setKind : zYV yX0_setKind cX0_setKind 4 (none) 4 := ⟨(tb_t 383 (by decide +kernel) (by decide +kernel)), (tb_t 384 (by decide +kernel) (by decide +kernel)), (tb_t 6 (by decide +kernel) (by decide +kernel)), (tb_t 385 (by decide +kernel) (by decide +kernel)), by decide +kernel, by decide +kernel, by decide +kernel⟩
theorem yv_FT_addNumber : zYV yX0_addNumber cX0_addNumber 3 (some .boolean) 2 := ⟨(tb_t 391 (by decide +kernel) (by decide +kernel)), (tb_t 392 (by decide +kernel) (by decide +kernel)), (tb_t 6 (by decide +kernel) (by decide +kernel)), (tb_t 393 (by decide +kernel) (by decide +kernel)), by decide +kernel, by decide +kernel, by decide +kernel⟩
theorem yv_FT_numberAt : zYV yX0_numberAt cX0_numberAt 2 (some .int) 2 := ⟨(tb_t 462 (by decide +kernel) (by decide +kernel)), (tb_t 463 (by decide +kernel) (by decide +kernel)), (tb_t 6 (by decide +kernel) (by decide +kernel)), (tb_t 464 (by decide +kernel) (by decide +kernel)), by decide +kernel, by decide +kernel, by decide +kernel⟩
theorem yv_FT_passes : zYV yX0_passes cX0_passes 2 (some .boolean) 2 := ⟨(tb_t 529 (by decide +kernel) (by decide +kernel)), (tb_t 530 (by decide +kernel) (by decide +kernel)), (tb_t 6 (by decide +kernel) (by decide +kernel)), (tb_t 531 (by decide +kernel) (by decide +kernel)), by decide +kernel, by decide +kernel, by decide +kernel⟩
theorem yv_FT_passesNone : zYV yX0_passesNone cX0_passesNone 1 (some .boolean) 1 := ⟨(tb_t 443 (by decide +kernel) (by decide +kernel)), (tb_t 444 (by decide +kernel) (by decide +kernel)), (tb_t 6 (by decide +kernel) (by decide +kernel)), (tb_t 445 (by decide +kernel) (by decide +kernel)), by decide +kernel, by decide +kernel, by decide +kernel⟩
theorem yv_FT_isAsWideAs : zYV yX0_isAsWideAs cX0_isAsWideAs 3 (some .boolean) 2 := ⟨(tb_t 449 (by decide +kernel) (by decide +kernel)), (tb_t 450 (by decide +kernel) (by decide +kernel)), (tb_t 6 (by decide +kernel) (by decide +kernel)), (tb_t 451 (by decide +kernel) (by decide +kernel)), by decide +kernel, by decide +kernel, by decide +kernel⟩
theorem yv_FT_hasNumber : zYV yX0_hasNumber cX0_hasNumber 3 (some .boolean) 2 := ⟨(tb_t 396 (by decide +kernel) (by decide +kernel)), (show Cond.selects yX0_hasNumber.cls yX0_hasNumber yX0_hasNumber ∈ tb from tb_s (q := (yX0_hasNumber, _)) 16 rfl), (tb_t 6 (by decide +kernel) (by decide +kernel)), (tb_t 397 (by decide +kernel) (by decide +kernel)), by decide +kernel, by decide +kernel, by decide +kernel⟩
theorem yv_FT_passesAll : zYV yX0_passesAll cX0_passesAll 8 (some .boolean) 3 := ⟨(tb_t 472 (by decide +kernel) (by decide +kernel)), (show Cond.selects yX0_passesAll.cls yX0_passesAll yX0_passesAll ∈ tb from tb_s (q := (yX0_passesAll, _)) 22 rfl), (tb_t 6 (by decide +kernel) (by decide +kernel)), (tb_t 473 (by decide +kernel) (by decide +kernel)), by decide +kernel, by decide +kernel, by decide +kernel⟩
theorem yv_FT_spans : zYV yX0_spans cX0_spans 1 (some .int) 1 := ⟨(tb_t 454 (by decide +kernel) (by decide +kernel)), (show Cond.selects yX0_spans.cls yX0_spans yX0_spans ∈ tb from tb_s (q := (yX0_spans, _)) 19 rfl), (tb_t 6 (by decide +kernel) (by decide +kernel)), (tb_t 455 (by decide +kernel) (by decide +kernel)), by decide +kernel, by decide +kernel, by decide +kernel⟩
theorem yv_FT_spanStart : zYV yX0_spanStart cX0_spanStart 2 (some .long) 2 := ⟨(tb_t 458 (by decide +kernel) (by decide +kernel)), (show Cond.selects yX0_spanStart.cls yX0_spanStart yX0_spanStart ∈ tb from tb_s (q := (yX0_spanStart, _)) 20 rfl), (tb_t 6 (by decide +kernel) (by decide +kernel)), (tb_t 459 (by decide +kernel) (by decide +kernel)), by decide +kernel, by decide +kernel, by decide +kernel⟩
theorem yv_FT_spanEnd : zYV yX0_spanEnd cX0_spanEnd 2 (some .long) 2 := ⟨(tb_t 467 (by decide +kernel) (by decide +kernel)), (show Cond.selects yX0_spanEnd.cls yX0_spanEnd yX0_spanEnd ∈ tb from tb_s (q := (yX0_spanEnd, _)) 21 rfl), (tb_t 6 (by decide +kernel) (by decide +kernel)), (tb_t 468 (by decide +kernel) (by decide +kernel)), by decide +kernel, by decide +kernel, by decide +kernel⟩
theorem yi_Lane_init : zYI yX1_init cX1_init 1 1 := ⟨by decide +kernel, (tb_t 176 (by decide +kernel) (by decide +kernel)), (tb_t 11 (by decide +kernel) (by decide +kernel)), (tb_t 177 (by decide +kernel) (by decide +kernel)), by decide +kernel, by decide +kernel, by decide +kernel⟩
theorem yv_Lane_itemAt : zYV yX1_itemAt cX1_itemAt 2 (some .int) 2 := ⟨(tb_t 258 (by decide +kernel) (by decide +kernel)), (tb_t 259 (by decide +kernel) (by decide +kernel)), (tb_t 11 (by decide +kernel) (by decide +kernel)), (tb_t 260 (by decide +kernel) (by decide +kernel)), by decide +kernel, by decide +kernel, by decide +kernel⟩
theorem yv_Lane_putNotice : zYV yX1_putNotice cX1_putNotice 2 (none) 2 := ⟨(tb_t 545 (by decide +kernel) (by decide +kernel)), (tb_t 546 (by decide +kernel) (by decide +kernel)), (tb_t 11 (by decide +kernel) (by decide +kernel)), (tb_t 547 (by decide +kernel) (by decide +kernel)), by decide +kernel, by decide +kernel, by decide +kernel⟩
theorem yv_Lane_putTell : zYV yX1_putTell cX1_putTell 2 (none) 2 := ⟨(tb_t 254 (by decide +kernel) (by decide +kernel)), (tb_t 255 (by decide +kernel) (by decide +kernel)), (tb_t 11 (by decide +kernel) (by decide +kernel)), (tb_t 256 (by decide +kernel) (by decide +kernel)), by decide +kernel, by decide +kernel, by decide +kernel⟩
theorem yv_Lane_takeFirst : zYV yX1_takeFirst cX1_takeFirst 2 (some .int) 1 := ⟨(tb_t 562 (by decide +kernel) (by decide +kernel)), (tb_t 563 (by decide +kernel) (by decide +kernel)), (tb_t 11 (by decide +kernel) (by decide +kernel)), (tb_t 564 (by decide +kernel) (by decide +kernel)), by decide +kernel, by decide +kernel, by decide +kernel⟩
theorem yv_Lane_tells : zYV yX1_tells cX1_tells 3 (some .int) 1 := ⟨(tb_t 628 (by decide +kernel) (by decide +kernel)), (tb_t 629 (by decide +kernel) (by decide +kernel)), (tb_t 11 (by decide +kernel) (by decide +kernel)), (tb_t 630 (by decide +kernel) (by decide +kernel)), by decide +kernel, by decide +kernel, by decide +kernel⟩
theorem yv_Lane_clear : zYV yX1_clear cX1_clear 1 (none) 1 := ⟨(tb_t 288 (by decide +kernel) (by decide +kernel)), (tb_t 289 (by decide +kernel) (by decide +kernel)), (tb_t 11 (by decide +kernel) (by decide +kernel)), (tb_t 290 (by decide +kernel) (by decide +kernel)), by decide +kernel, by decide +kernel, by decide +kernel⟩
theorem yv_Lane_slot : zYV yX1_slot cX1_slot 2 (some .int) 2 := ⟨(tb_t 263 (by decide +kernel) (by decide +kernel)), (show Cond.selects yX1_slot.cls yX1_slot yX1_slot ∈ tb from tb_s (q := (yX1_slot, _)) 8 rfl), (tb_t 11 (by decide +kernel) (by decide +kernel)), (tb_t 264 (by decide +kernel) (by decide +kernel)), by decide +kernel, by decide +kernel, by decide +kernel⟩
theorem yv_Lane_rowAt : zYV yX1_rowAt cX1_rowAt 2 (some (.object "WishRoutes$Row")) 2 := ⟨(tb_t 267 (by decide +kernel) (by decide +kernel)), (show Cond.selects yX1_rowAt.cls yX1_rowAt yX1_rowAt ∈ tb from tb_s (q := (yX1_rowAt, _)) 9 rfl), (tb_t 11 (by decide +kernel) (by decide +kernel)), (tb_t 268 (by decide +kernel) (by decide +kernel)), by decide +kernel, by decide +kernel, by decide +kernel⟩
theorem yi_Not_init : zYI yX2_init cX2_init 4 4 := ⟨by decide +kernel, (tb_t 492 (by decide +kernel) (by decide +kernel)), (tb_t 17 (by decide +kernel) (by decide +kernel)), (tb_t 493 (by decide +kernel) (by decide +kernel)), by decide +kernel, by decide +kernel, by decide +kernel⟩
theorem yi_Rdr_init : zYI yX3_init cX3_init 2 2 := ⟨by decide +kernel, (tb_t 353 (by decide +kernel) (by decide +kernel)), (tb_t 15 (by decide +kernel) (by decide +kernel)), (tb_t 354 (by decide +kernel) (by decide +kernel)), by decide +kernel, by decide +kernel, by decide +kernel⟩
theorem yv_Rdr_addHeard : zYV yX3_addHeard cX3_addHeard 2 (none) 2 := ⟨(tb_t 533 (by decide +kernel) (by decide +kernel)), (tb_t 534 (by decide +kernel) (by decide +kernel)), (tb_t 15 (by decide +kernel) (by decide +kernel)), (tb_t 535 (by decide +kernel) (by decide +kernel)), by decide +kernel, by decide +kernel, by decide +kernel⟩
theorem yv_Rdr_nthHeard : zYV yX3_nthHeard cX3_nthHeard 2 (some .int) 2 := ⟨(tb_t 603 (by decide +kernel) (by decide +kernel)), (tb_t 604 (by decide +kernel) (by decide +kernel)), (tb_t 15 (by decide +kernel) (by decide +kernel)), (tb_t 605 (by decide +kernel) (by decide +kernel)), by decide +kernel, by decide +kernel, by decide +kernel⟩
theorem yi_Row_init : zYI yX4_init cX4_init 1 1 := ⟨by decide +kernel, (tb_t 57 (by decide +kernel) (by decide +kernel)), (tb_t 5 (by decide +kernel) (by decide +kernel)), (tb_t 58 (by decide +kernel) (by decide +kernel)), by decide +kernel, by decide +kernel, by decide +kernel⟩
theorem yv_Row_has : zYV yX4_has cX4_has 2 (some .boolean) 2 := ⟨(tb_t 242 (by decide +kernel) (by decide +kernel)), (tb_t 243 (by decide +kernel) (by decide +kernel)), (tb_t 5 (by decide +kernel) (by decide +kernel)), (tb_t 244 (by decide +kernel) (by decide +kernel)), by decide +kernel, by decide +kernel, by decide +kernel⟩
theorem yv_Row_add : zYV yX4_add cX4_add 2 (none) 2 := ⟨(tb_t 234 (by decide +kernel) (by decide +kernel)), (tb_t 235 (by decide +kernel) (by decide +kernel)), (tb_t 5 (by decide +kernel) (by decide +kernel)), (tb_t 236 (by decide +kernel) (by decide +kernel)), by decide +kernel, by decide +kernel, by decide +kernel⟩
theorem yv_Row_addAll : zYV yX4_addAll cX4_addAll 3 (none) 2 := ⟨(tb_t 238 (by decide +kernel) (by decide +kernel)), (tb_t 239 (by decide +kernel) (by decide +kernel)), (tb_t 5 (by decide +kernel) (by decide +kernel)), (tb_t 240 (by decide +kernel) (by decide +kernel)), by decide +kernel, by decide +kernel, by decide +kernel⟩
theorem yv_Row_clear : zYV yX4_clear cX4_clear 2 (none) 1 := ⟨(tb_t 221 (by decide +kernel) (by decide +kernel)), (tb_t 222 (by decide +kernel) (by decide +kernel)), (tb_t 5 (by decide +kernel) (by decide +kernel)), (tb_t 223 (by decide +kernel) (by decide +kernel)), by decide +kernel, by decide +kernel, by decide +kernel⟩
theorem yv_Row_set : zYV yX4_set cX4_set 3 (none) 2 := ⟨(tb_t 270 (by decide +kernel) (by decide +kernel)), (tb_t 271 (by decide +kernel) (by decide +kernel)), (tb_t 5 (by decide +kernel) (by decide +kernel)), (tb_t 272 (by decide +kernel) (by decide +kernel)), by decide +kernel, by decide +kernel, by decide +kernel⟩
theorem yv_Row_meets : zYV yX4_meets cX4_meets 3 (some .boolean) 2 := ⟨(tb_t 246 (by decide +kernel) (by decide +kernel)), (tb_t 247 (by decide +kernel) (by decide +kernel)), (tb_t 5 (by decide +kernel) (by decide +kernel)), (tb_t 248 (by decide +kernel) (by decide +kernel)), by decide +kernel, by decide +kernel, by decide +kernel⟩
theorem yv_Row_sameAs : zYV yX4_sameAs cX4_sameAs 3 (some .boolean) 2 := ⟨(tb_t 250 (by decide +kernel) (by decide +kernel)), (tb_t 251 (by decide +kernel) (by decide +kernel)), (tb_t 5 (by decide +kernel) (by decide +kernel)), (tb_t 252 (by decide +kernel) (by decide +kernel)), by decide +kernel, by decide +kernel, by decide +kernel⟩
theorem yv_Row_nth : zYV yX4_nth cX4_nth 4 (some .int) 2 := ⟨(tb_t 586 (by decide +kernel) (by decide +kernel)), (tb_t 587 (by decide +kernel) (by decide +kernel)), (tb_t 5 (by decide +kernel) (by decide +kernel)), (tb_t 588 (by decide +kernel) (by decide +kernel)), by decide +kernel, by decide +kernel, by decide +kernel⟩
theorem yi_Wsh_init : zYI yX5_init cX5_init 4 4 := ⟨by decide +kernel, (tb_t 404 (by decide +kernel) (by decide +kernel)), (tb_t 16 (by decide +kernel) (by decide +kernel)), (tb_t 405 (by decide +kernel) (by decide +kernel)), by decide +kernel, by decide +kernel, by decide +kernel⟩
theorem yv_Wsh_isMetBy : zYV yX5_isMetBy cX5_isMetBy 3 (some .boolean) 2 := ⟨(tb_t 525 (by decide +kernel) (by decide +kernel)), (tb_t 526 (by decide +kernel) (by decide +kernel)), (tb_t 16 (by decide +kernel) (by decide +kernel)), (tb_t 527 (by decide +kernel) (by decide +kernel)), by decide +kernel, by decide +kernel, by decide +kernel⟩
theorem yv_Wsh_takesIn : zYV yX5_takesIn cX5_takesIn 3 (some .boolean) 2 := ⟨(tb_t 435 (by decide +kernel) (by decide +kernel)), (tb_t 436 (by decide +kernel) (by decide +kernel)), (tb_t 16 (by decide +kernel) (by decide +kernel)), (tb_t 437 (by decide +kernel) (by decide +kernel)), by decide +kernel, by decide +kernel, by decide +kernel⟩
theorem yv_Wsh_isNeverMet : zYV yX5_isNeverMet cX5_isNeverMet 2 (some .boolean) 1 := ⟨(tb_t 440 (by decide +kernel) (by decide +kernel)), (show Cond.selects yX5_isNeverMet.cls yX5_isNeverMet yX5_isNeverMet ∈ tb from tb_s (q := (yX5_isNeverMet, _)) 18 rfl), (tb_t 16 (by decide +kernel) (by decide +kernel)), (tb_t 441 (by decide +kernel) (by decide +kernel)), by decide +kernel, by decide +kernel, by decide +kernel⟩
theorem yi_WR_init : zYI yX6_init cX6_init 1 1 := ⟨by decide +kernel, (tb_t 21 (by decide +kernel) (by decide +kernel)), (tb_t 1 (by decide +kernel) (by decide +kernel)), (tb_t 22 (by decide +kernel) (by decide +kernel)), by decide +kernel, by decide +kernel, by decide +kernel⟩
theorem yv_WR_desk : zYV yX6_desk cX6_desk 1 (some .int) 1 := ⟨(tb_t 131 (by decide +kernel) (by decide +kernel)), (tb_t 132 (by decide +kernel) (by decide +kernel)), (tb_t 1 (by decide +kernel) (by decide +kernel)), (tb_t 133 (by decide +kernel) (by decide +kernel)), by decide +kernel, by decide +kernel, by decide +kernel⟩
theorem yv_WR_link : zYV yX6_link cX6_link 3 (some .int) 3 := ⟨(tb_t 135 (by decide +kernel) (by decide +kernel)), (tb_t 136 (by decide +kernel) (by decide +kernel)), (tb_t 1 (by decide +kernel) (by decide +kernel)), (tb_t 137 (by decide +kernel) (by decide +kernel)), by decide +kernel, by decide +kernel, by decide +kernel⟩
theorem yv_WR_cut : zYV yX6_cut cX6_cut 3 (some .int) 3 := ⟨(tb_t 274 (by decide +kernel) (by decide +kernel)), (tb_t 275 (by decide +kernel) (by decide +kernel)), (tb_t 1 (by decide +kernel) (by decide +kernel)), (tb_t 276 (by decide +kernel) (by decide +kernel)), by decide +kernel, by decide +kernel, by decide +kernel⟩
theorem yv_WR_reader : zYV yX6_reader cX6_reader 2 (some .int) 2 := ⟨(tb_t 347 (by decide +kernel) (by decide +kernel)), (tb_t 348 (by decide +kernel) (by decide +kernel)), (tb_t 1 (by decide +kernel) (by decide +kernel)), (tb_t 349 (by decide +kernel) (by decide +kernel)), by decide +kernel, by decide +kernel, by decide +kernel⟩
theorem yv_WR_move : zYV yX6_move cX6_move 5 (some .int) 3 := ⟨(tb_t 368 (by decide +kernel) (by decide +kernel)), (tb_t 369 (by decide +kernel) (by decide +kernel)), (tb_t 1 (by decide +kernel) (by decide +kernel)), (tb_t 370 (by decide +kernel) (by decide +kernel)), by decide +kernel, by decide +kernel, by decide +kernel⟩
theorem yv_WR_test : zYV yX6_test cX6_test 5 (some .boolean) 5 := ⟨(tb_t 376 (by decide +kernel) (by decide +kernel)), (tb_t 377 (by decide +kernel) (by decide +kernel)), (tb_t 1 (by decide +kernel) (by decide +kernel)), (tb_t 378 (by decide +kernel) (by decide +kernel)), by decide +kernel, by decide +kernel, by decide +kernel⟩
theorem yv_WR_among : zYV yX6_among cX6_among 3 (some .boolean) 3 := ⟨(tb_t 387 (by decide +kernel) (by decide +kernel)), (tb_t 388 (by decide +kernel) (by decide +kernel)), (tb_t 1 (by decide +kernel) (by decide +kernel)), (tb_t 389 (by decide +kernel) (by decide +kernel)), by decide +kernel, by decide +kernel, by decide +kernel⟩
theorem yv_WR_wish : zYV yX6_wish cX6_wish 4 (some .int) 2 := ⟨(tb_t 399 (by decide +kernel) (by decide +kernel)), (tb_t 400 (by decide +kernel) (by decide +kernel)), (tb_t 1 (by decide +kernel) (by decide +kernel)), (tb_t 401 (by decide +kernel) (by decide +kernel)), by decide +kernel, by decide +kernel, by decide +kernel⟩
theorem yv_WR_off : zYV yX6_off cX6_off 3 (some .int) 2 := ⟨(tb_t 475 (by decide +kernel) (by decide +kernel)), (tb_t 476 (by decide +kernel) (by decide +kernel)), (tb_t 1 (by decide +kernel) (by decide +kernel)), (tb_t 477 (by decide +kernel) (by decide +kernel)), by decide +kernel, by decide +kernel, by decide +kernel⟩
theorem yv_WR_send : zYV yX6_send cX6_send 8 (some .int) 6 := ⟨(tb_t 483 (by decide +kernel) (by decide +kernel)), (tb_t 484 (by decide +kernel) (by decide +kernel)), (tb_t 1 (by decide +kernel) (by decide +kernel)), (tb_t 485 (by decide +kernel) (by decide +kernel)), by decide +kernel, by decide +kernel, by decide +kernel⟩
theorem yv_WR_deliver : zYV yX6_deliver cX6_deliver 6 (some .int) 4 := ⟨(tb_t 553 (by decide +kernel) (by decide +kernel)), (tb_t 554 (by decide +kernel) (by decide +kernel)), (tb_t 1 (by decide +kernel) (by decide +kernel)), (tb_t 555 (by decide +kernel) (by decide +kernel)), by decide +kernel, by decide +kernel, by decide +kernel⟩
theorem yv_WR_all : zYV yX6_all cX6_all 3 (some .int) 1 := ⟨(tb_t 566 (by decide +kernel) (by decide +kernel)), (tb_t 567 (by decide +kernel) (by decide +kernel)), (tb_t 1 (by decide +kernel) (by decide +kernel)), (tb_t 568 (by decide +kernel) (by decide +kernel)), by decide +kernel, by decide +kernel, by decide +kernel⟩
theorem yv_WR_covers : zYV yX6_covers cX6_covers 5 (some .int) 3 := ⟨(tb_t 574 (by decide +kernel) (by decide +kernel)), (tb_t 575 (by decide +kernel) (by decide +kernel)), (tb_t 1 (by decide +kernel) (by decide +kernel)), (tb_t 576 (by decide +kernel) (by decide +kernel)), by decide +kernel, by decide +kernel, by decide +kernel⟩
theorem yv_WR_fits : zYV yX6_fits cX6_fits 7 (some .int) 6 := ⟨(tb_t 578 (by decide +kernel) (by decide +kernel)), (tb_t 579 (by decide +kernel) (by decide +kernel)), (tb_t 1 (by decide +kernel) (by decide +kernel)), (tb_t 580 (by decide +kernel) (by decide +kernel)), by decide +kernel, by decide +kernel, by decide +kernel⟩
theorem yv_WR_table : zYV yX6_table cX6_table 5 (some .int) 4 := ⟨(tb_t 582 (by decide +kernel) (by decide +kernel)), (tb_t 583 (by decide +kernel) (by decide +kernel)), (tb_t 1 (by decide +kernel) (by decide +kernel)), (tb_t 584 (by decide +kernel) (by decide +kernel)), by decide +kernel, by decide +kernel, by decide +kernel⟩
theorem yv_WR_told : zYV yX6_told cX6_told 5 (some .int) 4 := ⟨(tb_t 591 (by decide +kernel) (by decide +kernel)), (tb_t 592 (by decide +kernel) (by decide +kernel)), (tb_t 1 (by decide +kernel) (by decide +kernel)), (tb_t 593 (by decide +kernel) (by decide +kernel)), by decide +kernel, by decide +kernel, by decide +kernel⟩
theorem yv_WR_message : zYV yX6_message cX6_message 5 (some .int) 4 := ⟨(tb_t 595 (by decide +kernel) (by decide +kernel)), (tb_t 596 (by decide +kernel) (by decide +kernel)), (tb_t 1 (by decide +kernel) (by decide +kernel)), (tb_t 597 (by decide +kernel) (by decide +kernel)), by decide +kernel, by decide +kernel, by decide +kernel⟩
theorem yv_WR_heard : zYV yX6_heard cX6_heard 4 (some .int) 3 := ⟨(tb_t 599 (by decide +kernel) (by decide +kernel)), (tb_t 600 (by decide +kernel) (by decide +kernel)), (tb_t 1 (by decide +kernel) (by decide +kernel)), (tb_t 601 (by decide +kernel) (by decide +kernel)), by decide +kernel, by decide +kernel, by decide +kernel⟩
theorem yv_WR_notice : zYV yX6_notice cX6_notice 4 (some .int) 3 := ⟨(tb_t 607 (by decide +kernel) (by decide +kernel)), (tb_t 608 (by decide +kernel) (by decide +kernel)), (tb_t 1 (by decide +kernel) (by decide +kernel)), (tb_t 609 (by decide +kernel) (by decide +kernel)), by decide +kernel, by decide +kernel, by decide +kernel⟩
theorem yv_WR_look : zYV yX6_look cX6_look 5 (some .int) 3 := ⟨(tb_t 611 (by decide +kernel) (by decide +kernel)), (tb_t 612 (by decide +kernel) (by decide +kernel)), (tb_t 1 (by decide +kernel) (by decide +kernel)), (tb_t 613 (by decide +kernel) (by decide +kernel)), by decide +kernel, by decide +kernel, by decide +kernel⟩
theorem yv_WR_count : zYV yX6_count cX6_count 2 (some .int) 2 := ⟨(tb_t 616 (by decide +kernel) (by decide +kernel)), (tb_t 617 (by decide +kernel) (by decide +kernel)), (tb_t 1 (by decide +kernel) (by decide +kernel)), (tb_t 618 (by decide +kernel) (by decide +kernel)), by decide +kernel, by decide +kernel, by decide +kernel⟩
theorem ys_WR_allAny : zYS yX6_allAny cX6_allAny 2 (some (.array (.object "WishRoutes$FieldTest"))) 0 := ⟨(tb_t 67 (by decide +kernel) (by decide +kernel)), (tb_t 1 (by decide +kernel) (by decide +kernel)), (tb_t 68 (by decide +kernel) (by decide +kernel)), by decide +kernel, by decide +kernel, by decide +kernel⟩
theorem ys_WR_isField : zYS yX6_isField cX6_isField 1 (some .boolean) 1 := ⟨(tb_t 380 (by decide +kernel) (by decide +kernel)), (tb_t 1 (by decide +kernel) (by decide +kernel)), (tb_t 381 (by decide +kernel) (by decide +kernel)), by decide +kernel, by decide +kernel, by decide +kernel⟩
theorem ys_WR_inMask : zYS yX6_inMask cX6_inMask 2 (some .boolean) 2 := ⟨(tb_t 147 (by decide +kernel) (by decide +kernel)), (tb_t 1 (by decide +kernel) (by decide +kernel)), (tb_t 148 (by decide +kernel) (by decide +kernel)), by decide +kernel, by decide +kernel, by decide +kernel⟩
theorem yv_WR_isDesk : zYV yX6_isDesk cX6_isDesk 2 (some .boolean) 2 := ⟨(tb_t 140 (by decide +kernel) (by decide +kernel)), (show Cond.selects yX6_isDesk.cls yX6_isDesk yX6_isDesk ∈ tb from tb_s (q := (yX6_isDesk, _)) 0 rfl), (tb_t 1 (by decide +kernel) (by decide +kernel)), (tb_t 141 (by decide +kernel) (by decide +kernel)), by decide +kernel, by decide +kernel, by decide +kernel⟩
theorem yv_WR_findReader : zYV yX6_findReader cX6_findReader 2 (some (.object "WishRoutes$Reader")) 2 := ⟨(tb_t 373 (by decide +kernel) (by decide +kernel)), (show Cond.selects yX6_findReader.cls yX6_findReader yX6_findReader ∈ tb from tb_s (q := (yX6_findReader, _)) 15 rfl), (tb_t 1 (by decide +kernel) (by decide +kernel)), (tb_t 374 (by decide +kernel) (by decide +kernel)), by decide +kernel, by decide +kernel, by decide +kernel⟩
theorem yv_WR_findWish : zYV yX6_findWish cX6_findWish 2 (some (.object "WishRoutes$Wish")) 2 := ⟨(tb_t 480 (by decide +kernel) (by decide +kernel)), (show Cond.selects yX6_findWish.cls yX6_findWish yX6_findWish ∈ tb from tb_s (q := (yX6_findWish, _)) 23 rfl), (tb_t 1 (by decide +kernel) (by decide +kernel)), (tb_t 481 (by decide +kernel) (by decide +kernel)), by decide +kernel, by decide +kernel, by decide +kernel⟩
theorem yv_WR_findNotice : zYV yX6_findNotice cX6_findNotice 2 (some (.object "WishRoutes$Notice")) 2 := ⟨(tb_t 284 (by decide +kernel) (by decide +kernel)), (show Cond.selects yX6_findNotice.cls yX6_findNotice yX6_findNotice ∈ tb from tb_s (q := (yX6_findNotice, _)) 11 rfl), (tb_t 1 (by decide +kernel) (by decide +kernel)), (tb_t 285 (by decide +kernel) (by decide +kernel)), by decide +kernel, by decide +kernel, by decide +kernel⟩
theorem yv_WR_laneFrom : zYV yX6_laneFrom cX6_laneFrom 3 (some (.object "WishRoutes$Lane")) 3 := ⟨(tb_t 210 (by decide +kernel) (by decide +kernel)), (show Cond.selects yX6_laneFrom.cls yX6_laneFrom yX6_laneFrom ∈ tb from tb_s (q := (yX6_laneFrom, _)) 5 rfl), (tb_t 1 (by decide +kernel) (by decide +kernel)), (tb_t 211 (by decide +kernel) (by decide +kernel)), by decide +kernel, by decide +kernel, by decide +kernel⟩
theorem yv_WR_openLane : zYV yX6_openLane cX6_openLane 4 (none) 3 := ⟨(tb_t 151 (by decide +kernel) (by decide +kernel)), (show Cond.selects yX6_openLane.cls yX6_openLane yX6_openLane ∈ tb from tb_s (q := (yX6_openLane, _)) 2 rfl), (tb_t 1 (by decide +kernel) (by decide +kernel)), (tb_t 152 (by decide +kernel) (by decide +kernel)), by decide +kernel, by decide +kernel, by decide +kernel⟩
theorem yv_WR_closeLane : zYV yX6_closeLane cX6_closeLane 6 (none) 3 := ⟨(tb_t 279 (by decide +kernel) (by decide +kernel)), (show Cond.selects yX6_closeLane.cls yX6_closeLane yX6_closeLane ∈ tb from tb_s (q := (yX6_closeLane, _)) 10 rfl), (tb_t 1 (by decide +kernel) (by decide +kernel)), (tb_t 280 (by decide +kernel) (by decide +kernel)), by decide +kernel, by decide +kernel, by decide +kernel⟩
theorem yv_WR_reach : zYV yX6_reach cX6_reach 9 (some .int) 3 := ⟨(tb_t 144 (by decide +kernel) (by decide +kernel)), (show Cond.selects yX6_reach.cls yX6_reach yX6_reach ∈ tb from tb_s (q := (yX6_reach, _)) 1 rfl), (tb_t 1 (by decide +kernel) (by decide +kernel)), (tb_t 145 (by decide +kernel) (by decide +kernel)), by decide +kernel, by decide +kernel, by decide +kernel⟩
theorem yv_WR_weigh : zYV yX6_weigh cX6_weigh 5 (none) 3 := ⟨(tb_t 432 (by decide +kernel) (by decide +kernel)), (show Cond.selects yX6_weigh.cls yX6_weigh yX6_weigh ∈ tb from tb_s (q := (yX6_weigh, _)) 17 rfl), (tb_t 1 (by decide +kernel) (by decide +kernel)), (tb_t 433 (by decide +kernel) (by decide +kernel)), by decide +kernel, by decide +kernel, by decide +kernel⟩
theorem yv_WR_tellNeighbours : zYV yX6_tellNeighbours cX6_tellNeighbours 4 (none) 2 := ⟨(tb_t 206 (by decide +kernel) (by decide +kernel)), (show Cond.selects yX6_tellNeighbours.cls yX6_tellNeighbours yX6_tellNeighbours ∈ tb from tb_s (q := (yX6_tellNeighbours, _)) 4 rfl), (tb_t 1 (by decide +kernel) (by decide +kernel)), (tb_t 207 (by decide +kernel) (by decide +kernel)), by decide +kernel, by decide +kernel, by decide +kernel⟩
theorem yv_WR_findMeant : zYV yX6_findMeant cX6_findMeant 4 (none) 3 := ⟨(tb_t 214 (by decide +kernel) (by decide +kernel)), (show Cond.selects yX6_findMeant.cls yX6_findMeant yX6_findMeant ∈ tb from tb_s (q := (yX6_findMeant, _)) 6 rfl), (tb_t 1 (by decide +kernel) (by decide +kernel)), (tb_t 215 (by decide +kernel) (by decide +kernel)), by decide +kernel, by decide +kernel, by decide +kernel⟩
theorem yv_WR_findKnown : zYV yX6_findKnown cX6_findKnown 5 (none) 3 := ⟨(tb_t 218 (by decide +kernel) (by decide +kernel)), (show Cond.selects yX6_findKnown.cls yX6_findKnown yX6_findKnown ∈ tb from tb_s (q := (yX6_findKnown, _)) 7 rfl), (tb_t 1 (by decide +kernel) (by decide +kernel)), (tb_t 219 (by decide +kernel) (by decide +kernel)), by decide +kernel, by decide +kernel, by decide +kernel⟩
theorem yv_WR_firstBusyPlace : zYV yX6_firstBusyPlace cX6_firstBusyPlace 2 (some .int) 1 := ⟨(tb_t 571 (by decide +kernel) (by decide +kernel)), (show Cond.selects yX6_firstBusyPlace.cls yX6_firstBusyPlace yX6_firstBusyPlace ∈ tb from tb_s (q := (yX6_firstBusyPlace, _)) 30 rfl), (tb_t 1 (by decide +kernel) (by decide +kernel)), (tb_t 572 (by decide +kernel) (by decide +kernel)), by decide +kernel, by decide +kernel, by decide +kernel⟩
theorem yv_WR_deliverFirst : zYV yX6_deliverFirst cX6_deliverFirst 6 (none) 3 := ⟨(tb_t 559 (by decide +kernel) (by decide +kernel)), (show Cond.selects yX6_deliverFirst.cls yX6_deliverFirst yX6_deliverFirst ∈ tb from tb_s (q := (yX6_deliverFirst, _)) 29 rfl), (tb_t 1 (by decide +kernel) (by decide +kernel)), (tb_t 560 (by decide +kernel) (by decide +kernel)), by decide +kernel, by decide +kernel, by decide +kernel⟩
theorem yv_WR_letHear : zYV yX6_letHear cX6_letHear 5 (none) 3 := ⟨(tb_t 522 (by decide +kernel) (by decide +kernel)), (show Cond.selects yX6_letHear.cls yX6_letHear yX6_letHear ∈ tb from tb_s (q := (yX6_letHear, _)) 25 rfl), (tb_t 1 (by decide +kernel) (by decide +kernel)), (tb_t 523 (by decide +kernel) (by decide +kernel)), by decide +kernel, by decide +kernel, by decide +kernel⟩
theorem yv_WR_passOn : zYV yX6_passOn cX6_passOn 7 (none) 4 := ⟨(tb_t 538 (by decide +kernel) (by decide +kernel)), (show Cond.selects yX6_passOn.cls yX6_passOn yX6_passOn ∈ tb from tb_s (q := (yX6_passOn, _)) 26 rfl), (tb_t 1 (by decide +kernel) (by decide +kernel)), (tb_t 539 (by decide +kernel) (by decide +kernel)), by decide +kernel, by decide +kernel, by decide +kernel⟩
theorem yv_WR_isInTable : zYV yX6_isInTable cX6_isInTable 4 (some .boolean) 3 := ⟨(tb_t 542 (by decide +kernel) (by decide +kernel)), (show Cond.selects yX6_isInTable.cls yX6_isInTable yX6_isInTable ∈ tb from tb_s (q := (yX6_isInTable, _)) 27 rfl), (tb_t 1 (by decide +kernel) (by decide +kernel)), (tb_t 543 (by decide +kernel) (by decide +kernel)), by decide +kernel, by decide +kernel, by decide +kernel⟩
theorem yv_WR_isWantedAt : zYV yX6_isWantedAt cX6_isWantedAt 5 (some .boolean) 3 := ⟨(tb_t 550 (by decide +kernel) (by decide +kernel)), (show Cond.selects yX6_isWantedAt.cls yX6_isWantedAt yX6_isWantedAt ∈ tb from tb_s (q := (yX6_isWantedAt, _)) 28 rfl), (tb_t 1 (by decide +kernel) (by decide +kernel)), (tb_t 551 (by decide +kernel) (by decide +kernel)), by decide +kernel, by decide +kernel, by decide +kernel⟩
theorem yv_WR_underWay : zYV yX6_underWay cX6_underWay 3 (some .int) 1 := ⟨(tb_t 488 (by decide +kernel) (by decide +kernel)), (show Cond.selects yX6_underWay.cls yX6_underWay yX6_underWay ∈ tb from tb_s (q := (yX6_underWay, _)) 24 rfl), (tb_t 1 (by decide +kernel) (by decide +kernel)), (tb_t 489 (by decide +kernel) (by decide +kernel)), by decide +kernel, by decide +kernel, by decide +kernel⟩
theorem yv_WR_messagesInLanes : zYV yX6_messagesInLanes cX6_messagesInLanes 3 (some .int) 1 := ⟨(tb_t 621 (by decide +kernel) (by decide +kernel)), (show Cond.selects yX6_messagesInLanes.cls yX6_messagesInLanes yX6_messagesInLanes ∈ tb from tb_s (q := (yX6_messagesInLanes, _)) 31 rfl), (tb_t 1 (by decide +kernel) (by decide +kernel)), (tb_t 622 (by decide +kernel) (by decide +kernel)), by decide +kernel, by decide +kernel, by decide +kernel⟩
theorem yv_WR_tellsInLanes : zYV yX6_tellsInLanes cX6_tellsInLanes 3 (some .int) 1 := ⟨(tb_t 625 (by decide +kernel) (by decide +kernel)), (show Cond.selects yX6_tellsInLanes.cls yX6_tellsInLanes yX6_tellsInLanes ∈ tb from tb_s (q := (yX6_tellsInLanes, _)) 32 rfl), (tb_t 1 (by decide +kernel) (by decide +kernel)), (tb_t 626 (by decide +kernel) (by decide +kernel)), by decide +kernel, by decide +kernel, by decide +kernel⟩
theorem yi_Mo_init : zYI yX7_init cX7_init 1 1 := ⟨by decide +kernel, (tb_t 634 (by decide +kernel) (by decide +kernel)), (tb_t 7 (by decide +kernel) (by decide +kernel)), (tb_t 635 (by decide +kernel) (by decide +kernel)), by decide +kernel, by decide +kernel, by decide +kernel⟩
theorem yv_Mo_unread : zYV yX7_unread cX7_unread 2 (none) 1 := ⟨(tb_t 640 (by decide +kernel) (by decide +kernel)), (show Cond.selects yX7_unread.cls yX7_unread yX7_unread ∈ tb from tb_s (q := (yX7_unread, _)) 33 rfl), (tb_t 7 (by decide +kernel) (by decide +kernel)), (tb_t 641 (by decide +kernel) (by decide +kernel)), by decide +kernel, by decide +kernel, by decide +kernel⟩
theorem yv_Mo_isDesk : zYV yX7_isDesk cX7_isDesk 2 (some .boolean) 2 := ⟨(tb_t 753 (by decide +kernel) (by decide +kernel)), (show Cond.selects yX7_isDesk.cls yX7_isDesk yX7_isDesk ∈ tb from tb_s (q := (yX7_isDesk, _)) 34 rfl), (tb_t 7 (by decide +kernel) (by decide +kernel)), (tb_t 754 (by decide +kernel) (by decide +kernel)), by decide +kernel, by decide +kernel, by decide +kernel⟩
theorem yv_Mo_isLinked : zYV yX7_isLinked cX7_isLinked 3 (some .boolean) 3 := ⟨(tb_t 761 (by decide +kernel) (by decide +kernel)), (show Cond.selects yX7_isLinked.cls yX7_isLinked yX7_isLinked ∈ tb from tb_s (q := (yX7_isLinked, _)) 36 rfl), (tb_t 7 (by decide +kernel) (by decide +kernel)), (tb_t 762 (by decide +kernel) (by decide +kernel)), by decide +kernel, by decide +kernel, by decide +kernel⟩
theorem yv_Mo_isWish : zYV yX7_isWish cX7_isWish 2 (some .boolean) 2 := ⟨(tb_t 848 (by decide +kernel) (by decide +kernel)), (show Cond.selects yX7_isWish.cls yX7_isWish yX7_isWish ∈ tb from tb_s (q := (yX7_isWish, _)) 48 rfl), (tb_t 7 (by decide +kernel) (by decide +kernel)), (tb_t 849 (by decide +kernel) (by decide +kernel)), by decide +kernel, by decide +kernel, by decide +kernel⟩
theorem yv_Mo_passes : zYV yX7_passes cX7_passes 6 (some .boolean) 3 := ⟨(tb_t 822 (by decide +kernel) (by decide +kernel)), (show Cond.selects yX7_passes.cls yX7_passes yX7_passes ∈ tb from tb_s (q := (yX7_passes, _)) 44 rfl), (tb_t 7 (by decide +kernel) (by decide +kernel)), (tb_t 823 (by decide +kernel) (by decide +kernel)), by decide +kernel, by decide +kernel, by decide +kernel⟩
theorem yv_Mo_isFit : zYV yX7_isFit cX7_isFit 6 (some .boolean) 6 := ⟨(tb_t 876 (by decide +kernel) (by decide +kernel)), (show Cond.selects yX7_isFit.cls yX7_isFit yX7_isFit ∈ tb from tb_s (q := (yX7_isFit, _)) 54 rfl), (tb_t 7 (by decide +kernel) (by decide +kernel)), (tb_t 877 (by decide +kernel) (by decide +kernel)), by decide +kernel, by decide +kernel, by decide +kernel⟩
theorem yv_Mo_isFit2 : zYV yX7_isFit_ cX7_isFit_ 3 (some .boolean) 3 := ⟨(tb_t 872 (by decide +kernel) (by decide +kernel)), (show Cond.selects yX7_isFit_.cls yX7_isFit_ yX7_isFit_ ∈ tb from tb_s (q := (yX7_isFit_, _)) 53 rfl), (tb_t 7 (by decide +kernel) (by decide +kernel)), (tb_t 873 (by decide +kernel) (by decide +kernel)), by decide +kernel, by decide +kernel, by decide +kernel⟩
theorem yv_Mo_spans : zYV yX7_spans cX7_spans 13 (some .int) 3 := ⟨(tb_t 834 (by decide +kernel) (by decide +kernel)), (show Cond.selects yX7_spans.cls yX7_spans yX7_spans ∈ tb from tb_s (q := (yX7_spans, _)) 46 rfl), (tb_t 7 (by decide +kernel) (by decide +kernel)), (tb_t 835 (by decide +kernel) (by decide +kernel)), by decide +kernel, by decide +kernel, by decide +kernel⟩
theorem yv_Mo_holds : zYV yX7_holds cX7_holds 11 (some .boolean) 3 := ⟨(tb_t 840 (by decide +kernel) (by decide +kernel)), (show Cond.selects yX7_holds.cls yX7_holds yX7_holds ∈ tb from tb_s (q := (yX7_holds, _)) 47 rfl), (tb_t 7 (by decide +kernel) (by decide +kernel)), (tb_t 841 (by decide +kernel) (by decide +kernel)), by decide +kernel, by decide +kernel, by decide +kernel⟩
theorem yv_Mo_isCovered : zYV yX7_isCovered cX7_isCovered 4 (some .boolean) 3 := ⟨(tb_t 830 (by decide +kernel) (by decide +kernel)), (show Cond.selects yX7_isCovered.cls yX7_isCovered yX7_isCovered ∈ tb from tb_s (q := (yX7_isCovered, _)) 45 rfl), (tb_t 7 (by decide +kernel) (by decide +kernel)), (tb_t 831 (by decide +kernel) (by decide +kernel)), by decide +kernel, by decide +kernel, by decide +kernel⟩
theorem ys_Mo_has : zYS yX7_has cX7_has 3 (some .boolean) 3 := ⟨(tb_t 779 (by decide +kernel) (by decide +kernel)), (tb_t 7 (by decide +kernel) (by decide +kernel)), (tb_t 780 (by decide +kernel) (by decide +kernel)), by decide +kernel, by decide +kernel, by decide +kernel⟩
theorem ys_Mo_rowOf : zYS yX7_rowOf cX7_rowOf 2 (some .int) 2 := ⟨(tb_t 768 (by decide +kernel) (by decide +kernel)), (tb_t 7 (by decide +kernel) (by decide +kernel)), (tb_t 769 (by decide +kernel) (by decide +kernel)), by decide +kernel, by decide +kernel, by decide +kernel⟩
theorem yv_Mo_means : zYV yX7_means cX7_means 6 (none) 3 := ⟨(tb_t 776 (by decide +kernel) (by decide +kernel)), (show Cond.selects yX7_means.cls yX7_means yX7_means ∈ tb from tb_s (q := (yX7_means, _)) 39 rfl), (tb_t 7 (by decide +kernel) (by decide +kernel)), (tb_t 777 (by decide +kernel) (by decide +kernel)), by decide +kernel, by decide +kernel, by decide +kernel⟩
theorem yv_Mo_lastOf : zYV yX7_lastOf cX7_lastOf 4 (some .int) 3 := ⟨(tb_t 783 (by decide +kernel) (by decide +kernel)), (show Cond.selects yX7_lastOf.cls yX7_lastOf yX7_lastOf ∈ tb from tb_s (q := (yX7_lastOf, _)) 40 rfl), (tb_t 7 (by decide +kernel) (by decide +kernel)), (tb_t 784 (by decide +kernel) (by decide +kernel)), by decide +kernel, by decide +kernel, by decide +kernel⟩
theorem yv_Mo_firstOf : zYV yX7_firstOf cX7_firstOf 4 (some .int) 3 := ⟨(tb_t 888 (by decide +kernel) (by decide +kernel)), (show Cond.selects yX7_firstOf.cls yX7_firstOf yX7_firstOf ∈ tb from tb_s (q := (yX7_firstOf, _)) 56 rfl), (tb_t 7 (by decide +kernel) (by decide +kernel)), (tb_t 889 (by decide +kernel) (by decide +kernel)), by decide +kernel, by decide +kernel, by decide +kernel⟩
theorem yv_Mo_put : zYV yX7_put cX7_put 9 (some .int) 4 := ⟨(tb_t 787 (by decide +kernel) (by decide +kernel)), (show Cond.selects yX7_put.cls yX7_put yX7_put ∈ tb from tb_s (q := (yX7_put, _)) 41 rfl), (tb_t 7 (by decide +kernel) (by decide +kernel)), (tb_t 788 (by decide +kernel) (by decide +kernel)), by decide +kernel, by decide +kernel, by decide +kernel⟩
theorem yv_Mo_drop : zYV yX7_drop cX7_drop 4 (none) 2 := ⟨(tb_t 795 (by decide +kernel) (by decide +kernel)), (show Cond.selects yX7_drop.cls yX7_drop yX7_drop ∈ tb from tb_s (q := (yX7_drop, _)) 42 rfl), (tb_t 7 (by decide +kernel) (by decide +kernel)), (tb_t 796 (by decide +kernel) (by decide +kernel)), by decide +kernel, by decide +kernel, by decide +kernel⟩
theorem yv_Mo_tells : zYV yX7_tells cX7_tells 7 (none) 1 := ⟨(tb_t 772 (by decide +kernel) (by decide +kernel)), (show Cond.selects yX7_tells.cls yX7_tells yX7_tells ∈ tb from tb_s (q := (yX7_tells, _)) 38 rfl), (tb_t 7 (by decide +kernel) (by decide +kernel)), (tb_t 773 (by decide +kernel) (by decide +kernel)), by decide +kernel, by decide +kernel, by decide +kernel⟩
theorem yv_Mo_desk : zYV yX7_desk cX7_desk 1 (some .int) 1 := ⟨(tb_t 744 (by decide +kernel) (by decide +kernel)), (tb_t 745 (by decide +kernel) (by decide +kernel)), (tb_t 7 (by decide +kernel) (by decide +kernel)), (tb_t 746 (by decide +kernel) (by decide +kernel)), by decide +kernel, by decide +kernel, by decide +kernel⟩
theorem yv_Mo_reach : zYV yX7_reach cX7_reach 6 (none) 3 := ⟨(tb_t 757 (by decide +kernel) (by decide +kernel)), (show Cond.selects yX7_reach.cls yX7_reach yX7_reach ∈ tb from tb_s (q := (yX7_reach, _)) 35 rfl), (tb_t 7 (by decide +kernel) (by decide +kernel)), (tb_t 758 (by decide +kernel) (by decide +kernel)), by decide +kernel, by decide +kernel, by decide +kernel⟩
theorem yv_Mo_links : zYV yX7_links cX7_links 5 (none) 4 := ⟨(tb_t 765 (by decide +kernel) (by decide +kernel)), (show Cond.selects yX7_links.cls yX7_links yX7_links ∈ tb from tb_s (q := (yX7_links, _)) 37 rfl), (tb_t 7 (by decide +kernel) (by decide +kernel)), (tb_t 766 (by decide +kernel) (by decide +kernel)), by decide +kernel, by decide +kernel, by decide +kernel⟩
theorem yv_Mo_link : zYV yX7_link cX7_link 3 (some .int) 3 := ⟨(tb_t 748 (by decide +kernel) (by decide +kernel)), (tb_t 749 (by decide +kernel) (by decide +kernel)), (tb_t 7 (by decide +kernel) (by decide +kernel)), (tb_t 750 (by decide +kernel) (by decide +kernel)), by decide +kernel, by decide +kernel, by decide +kernel⟩
theorem yv_Mo_cut : zYV yX7_cut cX7_cut 4 (some .int) 3 := ⟨(tb_t 790 (by decide +kernel) (by decide +kernel)), (tb_t 791 (by decide +kernel) (by decide +kernel)), (tb_t 7 (by decide +kernel) (by decide +kernel)), (tb_t 792 (by decide +kernel) (by decide +kernel)), by decide +kernel, by decide +kernel, by decide +kernel⟩
theorem yv_Mo_reader : zYV yX7_reader cX7_reader 2 (some .int) 2 := ⟨(tb_t 798 (by decide +kernel) (by decide +kernel)), (tb_t 799 (by decide +kernel) (by decide +kernel)), (tb_t 7 (by decide +kernel) (by decide +kernel)), (tb_t 800 (by decide +kernel) (by decide +kernel)), by decide +kernel, by decide +kernel, by decide +kernel⟩
theorem yv_Mo_isReader : zYV yX7_isReader cX7_isReader 2 (some .boolean) 2 := ⟨(tb_t 807 (by decide +kernel) (by decide +kernel)), (show Cond.selects yX7_isReader.cls yX7_isReader yX7_isReader ∈ tb from tb_s (q := (yX7_isReader, _)) 43 rfl), (tb_t 7 (by decide +kernel) (by decide +kernel)), (tb_t 808 (by decide +kernel) (by decide +kernel)), by decide +kernel, by decide +kernel, by decide +kernel⟩
theorem yv_Mo_move : zYV yX7_move cX7_move 3 (some .int) 3 := ⟨(tb_t 802 (by decide +kernel) (by decide +kernel)), (tb_t 803 (by decide +kernel) (by decide +kernel)), (tb_t 7 (by decide +kernel) (by decide +kernel)), (tb_t 804 (by decide +kernel) (by decide +kernel)), by decide +kernel, by decide +kernel, by decide +kernel⟩
theorem ys_Mo_isField : zYS yX7_isField cX7_isField 1 (some .boolean) 1 := ⟨(tb_t 814 (by decide +kernel) (by decide +kernel)), (tb_t 7 (by decide +kernel) (by decide +kernel)), (tb_t 815 (by decide +kernel) (by decide +kernel)), by decide +kernel, by decide +kernel, by decide +kernel⟩
theorem yv_Mo_test : zYV yX7_test cX7_test 6 (some .boolean) 5 := ⟨(tb_t 810 (by decide +kernel) (by decide +kernel)), (tb_t 811 (by decide +kernel) (by decide +kernel)), (tb_t 7 (by decide +kernel) (by decide +kernel)), (tb_t 812 (by decide +kernel) (by decide +kernel)), by decide +kernel, by decide +kernel, by decide +kernel⟩
theorem yv_Mo_among : zYV yX7_among cX7_among 5 (some .boolean) 3 := ⟨(tb_t 817 (by decide +kernel) (by decide +kernel)), (tb_t 818 (by decide +kernel) (by decide +kernel)), (tb_t 7 (by decide +kernel) (by decide +kernel)), (tb_t 819 (by decide +kernel) (by decide +kernel)), by decide +kernel, by decide +kernel, by decide +kernel⟩
theorem yv_Mo_wish : zYV yX7_wish cX7_wish 7 (some .int) 2 := ⟨(tb_t 825 (by decide +kernel) (by decide +kernel)), (tb_t 826 (by decide +kernel) (by decide +kernel)), (tb_t 7 (by decide +kernel) (by decide +kernel)), (tb_t 827 (by decide +kernel) (by decide +kernel)), by decide +kernel, by decide +kernel, by decide +kernel⟩
theorem yv_Mo_off : zYV yX7_off cX7_off 2 (some .int) 2 := ⟨(tb_t 843 (by decide +kernel) (by decide +kernel)), (tb_t 844 (by decide +kernel) (by decide +kernel)), (tb_t 7 (by decide +kernel) (by decide +kernel)), (tb_t 845 (by decide +kernel) (by decide +kernel)), by decide +kernel, by decide +kernel, by decide +kernel⟩
theorem yv_Mo_wants : zYV yX7_wants cX7_wants 4 (some .boolean) 3 := ⟨(tb_t 868 (by decide +kernel) (by decide +kernel)), (show Cond.selects yX7_wants.cls yX7_wants yX7_wants ∈ tb from tb_s (q := (yX7_wants, _)) 52 rfl), (tb_t 7 (by decide +kernel) (by decide +kernel)), (tb_t 869 (by decide +kernel) (by decide +kernel)), by decide +kernel, by decide +kernel, by decide +kernel⟩
theorem yv_Mo_comes : zYV yX7_comes cX7_comes 7 (none) 4 := ⟨(tb_t 864 (by decide +kernel) (by decide +kernel)), (show Cond.selects yX7_comes.cls yX7_comes yX7_comes ∈ tb from tb_s (q := (yX7_comes, _)) 51 rfl), (tb_t 7 (by decide +kernel) (by decide +kernel)), (tb_t 865 (by decide +kernel) (by decide +kernel)), by decide +kernel, by decide +kernel, by decide +kernel⟩
theorem yv_Mo_isNeeded : zYV yX7_isNeeded cX7_isNeeded 5 (some .boolean) 4 := ⟨(tb_t 880 (by decide +kernel) (by decide +kernel)), (show Cond.selects yX7_isNeeded.cls yX7_isNeeded yX7_isNeeded ∈ tb from tb_s (q := (yX7_isNeeded, _)) 55 rfl), (tb_t 7 (by decide +kernel) (by decide +kernel)), (tb_t 881 (by decide +kernel) (by decide +kernel)), by decide +kernel, by decide +kernel, by decide +kernel⟩
theorem yv_Mo_messagesOf : zYV yX7_messagesOf cX7_messagesOf 4 (some .int) 2 := ⟨(tb_t 860 (by decide +kernel) (by decide +kernel)), (show Cond.selects yX7_messagesOf.cls yX7_messagesOf yX7_messagesOf ∈ tb from tb_s (q := (yX7_messagesOf, _)) 50 rfl), (tb_t 7 (by decide +kernel) (by decide +kernel)), (tb_t 861 (by decide +kernel) (by decide +kernel)), by decide +kernel, by decide +kernel, by decide +kernel⟩
theorem yv_Mo_underWay : zYV yX7_underWay cX7_underWay 3 (some .int) 1 := ⟨(tb_t 856 (by decide +kernel) (by decide +kernel)), (show Cond.selects yX7_underWay.cls yX7_underWay yX7_underWay ∈ tb from tb_s (q := (yX7_underWay, _)) 49 rfl), (tb_t 7 (by decide +kernel) (by decide +kernel)), (tb_t 857 (by decide +kernel) (by decide +kernel)), by decide +kernel, by decide +kernel, by decide +kernel⟩
theorem yv_Mo_send : zYV yX7_send cX7_send 7 (some .int) 6 := ⟨(tb_t 851 (by decide +kernel) (by decide +kernel)), (tb_t 852 (by decide +kernel) (by decide +kernel)), (tb_t 7 (by decide +kernel) (by decide +kernel)), (tb_t 853 (by decide +kernel) (by decide +kernel)), by decide +kernel, by decide +kernel, by decide +kernel⟩
theorem yv_Mo_delivers : zYV yX7_delivers cX7_delivers 6 (none) 2 := ⟨(tb_t 892 (by decide +kernel) (by decide +kernel)), (show Cond.selects yX7_delivers.cls yX7_delivers yX7_delivers ∈ tb from tb_s (q := (yX7_delivers, _)) 57 rfl), (tb_t 7 (by decide +kernel) (by decide +kernel)), (tb_t 893 (by decide +kernel) (by decide +kernel)), by decide +kernel, by decide +kernel, by decide +kernel⟩
theorem yv_Mo_deliver : zYV yX7_deliver cX7_deliver 6 (some .int) 4 := ⟨(tb_t 883 (by decide +kernel) (by decide +kernel)), (tb_t 884 (by decide +kernel) (by decide +kernel)), (tb_t 7 (by decide +kernel) (by decide +kernel)), (tb_t 885 (by decide +kernel) (by decide +kernel)), by decide +kernel, by decide +kernel, by decide +kernel⟩
theorem yv_Mo_all : zYV yX7_all cX7_all 4 (some .int) 1 := ⟨(tb_t 895 (by decide +kernel) (by decide +kernel)), (tb_t 896 (by decide +kernel) (by decide +kernel)), (tb_t 7 (by decide +kernel) (by decide +kernel)), (tb_t 897 (by decide +kernel) (by decide +kernel)), by decide +kernel, by decide +kernel, by decide +kernel⟩
theorem yv_Mo_covers : zYV yX7_covers cX7_covers 3 (some .int) 3 := ⟨(tb_t 899 (by decide +kernel) (by decide +kernel)), (tb_t 900 (by decide +kernel) (by decide +kernel)), (tb_t 7 (by decide +kernel) (by decide +kernel)), (tb_t 901 (by decide +kernel) (by decide +kernel)), by decide +kernel, by decide +kernel, by decide +kernel⟩
theorem yv_Mo_fits : zYV yX7_fits cX7_fits 6 (some .int) 6 := ⟨(tb_t 903 (by decide +kernel) (by decide +kernel)), (tb_t 904 (by decide +kernel) (by decide +kernel)), (tb_t 7 (by decide +kernel) (by decide +kernel)), (tb_t 905 (by decide +kernel) (by decide +kernel)), by decide +kernel, by decide +kernel, by decide +kernel⟩
theorem yv_Mo_inRow : zYV yX7_inRow cX7_inRow 7 (some .int) 5 := ⟨(tb_t 912 (by decide +kernel) (by decide +kernel)), (show Cond.selects yX7_inRow.cls yX7_inRow yX7_inRow ∈ tb from tb_s (q := (yX7_inRow, _)) 58 rfl), (tb_t 7 (by decide +kernel) (by decide +kernel)), (tb_t 913 (by decide +kernel) (by decide +kernel)), by decide +kernel, by decide +kernel, by decide +kernel⟩
theorem yv_Mo_table : zYV yX7_table cX7_table 4 (some .int) 4 := ⟨(tb_t 907 (by decide +kernel) (by decide +kernel)), (tb_t 908 (by decide +kernel) (by decide +kernel)), (tb_t 7 (by decide +kernel) (by decide +kernel)), (tb_t 909 (by decide +kernel) (by decide +kernel)), by decide +kernel, by decide +kernel, by decide +kernel⟩
theorem yv_Mo_told : zYV yX7_told cX7_told 4 (some .int) 4 := ⟨(tb_t 915 (by decide +kernel) (by decide +kernel)), (tb_t 916 (by decide +kernel) (by decide +kernel)), (tb_t 7 (by decide +kernel) (by decide +kernel)), (tb_t 917 (by decide +kernel) (by decide +kernel)), by decide +kernel, by decide +kernel, by decide +kernel⟩
theorem yv_Mo_message : zYV yX7_message cX7_message 6 (some .int) 4 := ⟨(tb_t 919 (by decide +kernel) (by decide +kernel)), (tb_t 920 (by decide +kernel) (by decide +kernel)), (tb_t 7 (by decide +kernel) (by decide +kernel)), (tb_t 921 (by decide +kernel) (by decide +kernel)), by decide +kernel, by decide +kernel, by decide +kernel⟩
theorem yv_Mo_heard : zYV yX7_heard cX7_heard 3 (some .int) 3 := ⟨(tb_t 923 (by decide +kernel) (by decide +kernel)), (tb_t 924 (by decide +kernel) (by decide +kernel)), (tb_t 7 (by decide +kernel) (by decide +kernel)), (tb_t 925 (by decide +kernel) (by decide +kernel)), by decide +kernel, by decide +kernel, by decide +kernel⟩
theorem yv_Mo_notice : zYV yX7_notice cX7_notice 3 (some .int) 3 := ⟨(tb_t 927 (by decide +kernel) (by decide +kernel)), (tb_t 928 (by decide +kernel) (by decide +kernel)), (tb_t 7 (by decide +kernel) (by decide +kernel)), (tb_t 929 (by decide +kernel) (by decide +kernel)), by decide +kernel, by decide +kernel, by decide +kernel⟩
theorem yv_Mo_look : zYV yX7_look cX7_look 6 (some .int) 3 := ⟨(tb_t 931 (by decide +kernel) (by decide +kernel)), (tb_t 932 (by decide +kernel) (by decide +kernel)), (tb_t 7 (by decide +kernel) (by decide +kernel)), (tb_t 933 (by decide +kernel) (by decide +kernel)), by decide +kernel, by decide +kernel, by decide +kernel⟩
theorem yv_Mo_count : zYV yX7_count cX7_count 6 (some .int) 2 := ⟨(tb_t 935 (by decide +kernel) (by decide +kernel)), (tb_t 936 (by decide +kernel) (by decide +kernel)), (tb_t 7 (by decide +kernel) (by decide +kernel)), (tb_t 937 (by decide +kernel) (by decide +kernel)), by decide +kernel, by decide +kernel, by decide +kernel⟩
theorem ys_Math_max : zYS yJ9_max_7cf53 cJ9_max_7cf53 2 (some .int) 2 := ⟨(tb_t 312 (by decide +kernel) (by decide +kernel)), (tb_t 13 (by decide +kernel) (by decide +kernel)), (tb_t 313 (by decide +kernel) (by decide +kernel)), by decide +kernel, by decide +kernel, by decide +kernel⟩
theorem ys_Math_min : zYS yJ9_min_7cf53 cJ9_min_7cf53 2 (some .int) 2 := ⟨(tb_t 341 (by decide +kernel) (by decide +kernel)), (tb_t 13 (by decide +kernel) (by decide +kernel)), (tb_t 342 (by decide +kernel) (by decide +kernel)), by decide +kernel, by decide +kernel, by decide +kernel⟩
theorem yi_AC_init : zYI yJxa1e45_init_da8c8 cJxa1e45_init_da8c8 1 1 := ⟨by decide +kernel, (tb_t 35 (by decide +kernel) (by decide +kernel)), (tb_t 2 (by decide +kernel) (by decide +kernel)), (tb_t 36 (by decide +kernel) (by decide +kernel)), by decide +kernel, by decide +kernel, by decide +kernel⟩
theorem yi_ALi_init : zYI yJxc12de_init_da8c8 cJxc12de_init_da8c8 1 1 := ⟨by decide +kernel, (tb_t 32 (by decide +kernel) (by decide +kernel)), (tb_t 3 (by decide +kernel) (by decide +kernel)), (tb_t 33 (by decide +kernel) (by decide +kernel)), by decide +kernel, by decide +kernel, by decide +kernel⟩
theorem yi_AL_init : zYI yJx4a65c_init_da8c8 cJx4a65c_init_da8c8 1 1 := ⟨by decide +kernel, (tb_t 29 (by decide +kernel) (by decide +kernel)), (tb_t 4 (by decide +kernel) (by decide +kernel)), (tb_t 30 (by decide +kernel) (by decide +kernel)), by decide +kernel, by decide +kernel, by decide +kernel⟩
theorem yv_AL_grow : zYV yJx4a65c_grow_92f84 cJx4a65c_grow_92f84 4 (some (.array (.object "java/lang/Object"))) 2 := ⟨(tb_t 306 (by decide +kernel) (by decide +kernel)), (show Cond.selects yJx4a65c_grow_92f84.cls yJx4a65c_grow_92f84 yJx4a65c_grow_92f84 ∈ tb from tb_s (q := (yJx4a65c_grow_92f84, _)) 14 rfl), (tb_t 4 (by decide +kernel) (by decide +kernel)), (tb_t 307 (by decide +kernel) (by decide +kernel)), by decide +kernel, by decide +kernel, by decide +kernel⟩
theorem yv_AL_grow2 : zYV yJx4a65c_grow_d5877 cJx4a65c_grow_d5877 1 (some (.array (.object "java/lang/Object"))) 1 := ⟨(tb_t 302 (by decide +kernel) (by decide +kernel)), (show Cond.selects yJx4a65c_grow_d5877.cls yJx4a65c_grow_d5877 yJx4a65c_grow_d5877 ∈ tb from tb_s (q := (yJx4a65c_grow_d5877, _)) 13 rfl), (tb_t 4 (by decide +kernel) (by decide +kernel)), (tb_t 303 (by decide +kernel) (by decide +kernel)), by decide +kernel, by decide +kernel, by decide +kernel⟩
theorem yv_AL_size : zYV yJx4a65c_size_8abf5 cJx4a65c_size_8abf5 1 (some .int) 1 := ⟨(tb_t 154 (by decide +kernel) (by decide +kernel)), (tb_t 155 (by decide +kernel) (by decide +kernel)), (tb_t 4 (by decide +kernel) (by decide +kernel)), (tb_t 156 (by decide +kernel) (by decide +kernel)), by decide +kernel, by decide +kernel, by decide +kernel⟩
theorem yv_AL_elementData : zYV yJx4a65c_elementData_915e3 cJx4a65c_elementData_915e3 2 (some (.object "java/lang/Object")) 2 := ⟨(tb_t 229 (by decide +kernel) (by decide +kernel)), (tb_t 230 (by decide +kernel) (by decide +kernel)), (tb_t 4 (by decide +kernel) (by decide +kernel)), (tb_t 231 (by decide +kernel) (by decide +kernel)), by decide +kernel, by decide +kernel, by decide +kernel⟩
theorem yv_AL_get : zYV yJx4a65c_get_915e3 cJx4a65c_get_915e3 2 (some (.object "java/lang/Object")) 2 := ⟨(tb_t 225 (by decide +kernel) (by decide +kernel)), (tb_t 226 (by decide +kernel) (by decide +kernel)), (tb_t 4 (by decide +kernel) (by decide +kernel)), (tb_t 227 (by decide +kernel) (by decide +kernel)), by decide +kernel, by decide +kernel, by decide +kernel⟩
theorem yv_AL_add : zYV yJx4a65c_add_72be8 cJx4a65c_add_72be8 4 (none) 4 := ⟨(tb_t 298 (by decide +kernel) (by decide +kernel)), (show Cond.selects yJx4a65c_add_72be8.cls yJx4a65c_add_72be8 yJx4a65c_add_72be8 ∈ tb from tb_s (q := (yJx4a65c_add_72be8, _)) 12 rfl), (tb_t 4 (by decide +kernel) (by decide +kernel)), (tb_t 299 (by decide +kernel) (by decide +kernel)), by decide +kernel, by decide +kernel, by decide +kernel⟩
theorem yv_AL_add2 : zYV yJx4a65c_add_9ea2d cJx4a65c_add_9ea2d 2 (some .boolean) 2 := ⟨(tb_t 293 (by decide +kernel) (by decide +kernel)), (tb_t 294 (by decide +kernel) (by decide +kernel)), (tb_t 4 (by decide +kernel) (by decide +kernel)), (tb_t 295 (by decide +kernel) (by decide +kernel)), by decide +kernel, by decide +kernel, by decide +kernel⟩
theorem yv_AL_remove : zYV yJx4a65c_remove_915e3 cJx4a65c_remove_915e3 4 (some (.object "java/lang/Object")) 2 := ⟨(tb_t 158 (by decide +kernel) (by decide +kernel)), (tb_t 159 (by decide +kernel) (by decide +kernel)), (tb_t 4 (by decide +kernel) (by decide +kernel)), (tb_t 160 (by decide +kernel) (by decide +kernel)), by decide +kernel, by decide +kernel, by decide +kernel⟩
theorem yv_AL_fastRemove : zYV yJx4a65c_fastRemove_b59b0 cJx4a65c_fastRemove_b59b0 4 (none) 3 := ⟨(tb_t 169 (by decide +kernel) (by decide +kernel)), (show Cond.selects yJx4a65c_fastRemove_b59b0.cls yJx4a65c_fastRemove_b59b0 yJx4a65c_fastRemove_b59b0 ∈ tb from tb_s (q := (yJx4a65c_fastRemove_b59b0, _)) 3 rfl), (tb_t 4 (by decide +kernel) (by decide +kernel)), (tb_t 170 (by decide +kernel) (by decide +kernel)), by decide +kernel, by decide +kernel, by decide +kernel⟩
theorem ys_Arrs_copyOf : zYS yJ7_copyOf_1904c cJ7_copyOf_1904c 2 (some (.array (.object "java/lang/Object"))) 2 := ⟨(tb_t 319 (by decide +kernel) (by decide +kernel)), (tb_t 14 (by decide +kernel) (by decide +kernel)), (tb_t 320 (by decide +kernel) (by decide +kernel)), by decide +kernel, by decide +kernel, by decide +kernel⟩
theorem ys_Arrs_copyOf2 : zYS yJ7_copyOf_6403c cJ7_copyOf_6403c 4 (some (.array (.object "java/lang/Object"))) 3 := ⟨(tb_t 335 (by decide +kernel) (by decide +kernel)), (tb_t 14 (by decide +kernel) (by decide +kernel)), (tb_t 336 (by decide +kernel) (by decide +kernel)), by decide +kernel, by decide +kernel, by decide +kernel⟩
theorem ys_Objs_checkIndex : zYS yJ15_checkIndex_7cf53 cJ15_checkIndex_7cf53 2 (some .int) 2 := ⟨(tb_t 162 (by decide +kernel) (by decide +kernel)), (tb_t 8 (by decide +kernel) (by decide +kernel)), (tb_t 163 (by decide +kernel) (by decide +kernel)), by decide +kernel, by decide +kernel, by decide +kernel⟩
theorem ys_ASup_newLength : zYS yJ8_newLength_cabcc cJ8_newLength_cabcc 4 (some .int) 3 := ⟨(tb_t 309 (by decide +kernel) (by decide +kernel)), (tb_t 12 (by decide +kernel) (by decide +kernel)), (tb_t 310 (by decide +kernel) (by decide +kernel)), by decide +kernel, by decide +kernel, by decide +kernel⟩
theorem ys_ASup_hugeLength : zYS yJ8_hugeLength_7cf53 cJ8_hugeLength_7cf53 3 (some .int) 2 := ⟨(tb_t 316 (by decide +kernel) (by decide +kernel)), (tb_t 12 (by decide +kernel) (by decide +kernel)), (tb_t 317 (by decide +kernel) (by decide +kernel)), by decide +kernel, by decide +kernel, by decide +kernel⟩
theorem ys_Prec_checkIndex : zYS yJ3_checkIndex_8e157 cJ3_checkIndex_8e157 3 (some .int) 3 := ⟨(tb_t 165 (by decide +kernel) (by decide +kernel)), (tb_t 9 (by decide +kernel) (by decide +kernel)), (tb_t 166 (by decide +kernel) (by decide +kernel)), by decide +kernel, by decide +kernel, by decide +kernel⟩
end
section
theorem nt_1 : Cond.native arraycopyName ∈ tb := (tb_t 173 (by decide +kernel) (by decide +kernel))
theorem nt_2 : Cond.static arraycopyName ∈ tb := (tb_t 172 (by decide +kernel) (by decide +kernel))
theorem nt_3 : Cond.initialized "java/lang/System" ∈ tb := (tb_t 10 (by decide +kernel) (by decide +kernel))
/-! System.arraycopy of references -/
def i_acq (K : zKT) : zKT := fun L st M k n => match st with
  | .inl (.int len) :: .inl (.int dp) :: .inr a :: .inl (.int sp) :: .inr a0 :: st => (match M a0 with
    | some (.inl (ty0, n0, .inr (.inr f))) => (match M a with
      | some (.inl (ty1, n1, .inr (.inr g))) => ty0 = .object "java/lang/Object" ∧ ty1 = .object "java/lang/Object" ∧ zmo a ∧ ¬ sp < 0 ∧ ¬ dp < 0 ∧ ¬ len < 0 ∧ sp.toNatClampNeg + len.toNatClampNeg ≤ n0 ∧ dp.toNatClampNeg + len.toNatClampNeg ≤ n1 ∧ (∀ i, i < len.toNatClampNeg → ∀ y, f (sp.toNatClampNeg + i) = some y → zok M "java/lang/Object" (.inr y)) ∧ zcs st ≤ 8 ∧ K L st (zup M a (.inl (.object "java/lang/Object", n1, .inr (.inr (va_cpy f g sp.toNatClampNeg dp.toNatClampNeg len.toNatClampNeg))))) k n
      | _ => False)
    | _ => False)
  | _ => False
theorem zok_any {D : va_G} {s : State} {A : Nat → Prop} {ad : zNm → Nat} {M : zMp} {H : Heap} {C : String} {b : zNm} (hW : zWd D s A ad M H) (hKS : zKS D s) (h : zok M C (.inr b)) : ∃ cV : Cell, H[ad b]? = some cV ∧ (∀ q, cV.vm ≠ .statics q) ∧ (∃ kC : Class, s.vm.classes[cV.cls]? = some kC) ∧ ∀ comp : ClassId, s.vm.findClass C = some comp → s.vm.assignable cV.cls comp = true := by
  simp only [zok] at h
  split at h
  · next ci fs hMb =>
    unfold zcast at h
    split at h
    · next r hr =>
      obtain ⟨r', hr', cV, g1, g2, g3, -⟩ := hW.1 b _ hMb
      have hrr : r' = r := Option.some.inj (hr'.symm.trans hr)
      subst hrr
      have hcls := (hKS.1.1 ci r' hr).2
      obtain ⟨kC, hkC, -⟩ := id hcls.2
      refine ⟨cV, g1, (fun q hq => by rw [g3] at hq; cases hq), ⟨kC, by rw [g2]; exact hkC⟩, fun comp hc => ?_⟩
      rw [g2]
      rcases h with e1 | e1
      · have hcomp : comp = D.1 ci := Option.some.inj (hc.symm.trans (by rw [← e1]; exact hcls.1))
        rw [hcomp]
        exact va_assign hcls
      · obtain ⟨c0, t0, f1, f2, f3⟩ := Cond.castable_spec (hKS.2.1 _ e1)
        have e2 : c0 = D.1 ci := Option.some.inj (f1.symm.trans hcls.1)
        have e3 : t0 = comp := Option.some.inj (f2.symm.trans hc)
        rw [← e2, ← e3]
        exact f3
    · exact h.elim
  · exact h.elim
theorem znn : ∀ z : Int32, ¬ z < 0 → z.toInt = (z.toNatClampNeg : Int) := by
  intro z hz
  have hz0 : (0 : Int) ≤ z.toInt := by
    have := Int32.not_lt.mp hz
    simpa using Int32.le_iff_toInt_le.mp this
  show z.toInt = ((z.toInt.toNat : Nat) : Int)
  omega
theorem sd_acq {X : zMa} {own : String} {cc : ByteArray} {fr lo mc ms : Nat} {ret : Option FieldType} {ini : Bool} {Rt : Option zAV → zMp → Prop} (hC : zCx X own cc fr lo mc ms ret ini Rt) {pc : Nat} {ix : Nat} (hl : Cond.methodLink own ix arraycopyName ∈ tb) (hfr : 1 ≤ fr) (hlo : 8 + (nativeFrameWords "java/lang/System" "arraycopy" 5 + 11) ≤ lo) (hd : decode cc pc = .ok (.invokestatic ix, 3)) {K : zKT} (hK : zLe K (zG X (pc + 3))) : zLe (i_acq K) (zG X pc) := by
  obtain ⟨p, l, e, R, s, m, args, below, meth, c, Q, nL, D, A, ad0, M0⟩ := X
  obtain ⟨hx, hb, hml, hown, hts, hKS, hSF, hA, hR, hQ, hret, hlk, hini⟩ := hC
  subst hR
  intro L st M k n h
  unfold i_acq at h
  split at h
  · next len dp a sp a0 st =>
    split at h
    · next ty0 n0 f hM0 =>
      split at h
      · next ty1 n1 g hM1 =>
        obtain ⟨rfl, rfl, hmo, h1, h2, h3, h4, h5, hel, hcs, h⟩ := h
        intro ad H locs ls hH T hT X
        obtain ⟨c0, ar0, ra0, hc0⟩ := hH.1.1 a0 _ hM0
        obtain ⟨c1, ar1, ra1, hc1⟩ := hH.1.1 a _ hM1
        simp only [zca] at hc0 hc1
        generalize hf' : (fun k => (f k).map ad) = f' at hc0
        generalize hg' : (fun k => (g k).map ad) = g' at hc1
        obtain ⟨-, k0, hk0, cm0, hkk0⟩ := ar0 n0 (fun j => va_rf (f' j))
        obtain ⟨-, k1, hk1, cm1, hkk1⟩ := ar1 n1 (fun j => va_rf (g' j))
        obtain ⟨vm', X', step⟩ := X.arraycopy hx hown (hts _ hl) (hts _ nt_1) (hts _ nt_2) (hts _ nt_3) (src := ad a0) (dst := ad a) (cs := vp_cell c0 (n0, .inr (.inr (.inr (.inr f'))))) (cd := vp_cell c1 (n1, .inr (.inr (.inr (.inr g'))))) (srcPos := sp) (destPos := dp) (n := len) (by rw [hT]; exact hc0) (by rw [hT]; exact hc1)
          (fun _ h => by cases h) (fun _ h => by cases h) (fun h => by cases h) (fun h => by cases h) hk0 hk1 hkk0 hkk1 rfl h1 h2 h3
          (by rw [znn sp h1, znn len h3]; show ¬ _ > ((arrV c0 n0 (fun j => va_rf (f' j))).slots.size : Int); rw [arrV_size]; omega)
          (by rw [znn dp h2, znn len h3]; show ¬ _ > ((arrV c1 n1 (fun j => va_rf (g' j))).slots.size : Int); rw [arrV_size]; omega)
          (fun vm₁ hal i hi => by
            have e : (vp_cell c0 (n0, .inr (.inr (.inr (.inr f'))))).slots.getD (sp.toNatClampNeg + i) .null = va_rf (f' (sp.toNatClampNeg + i)) := by
              show (arrV c0 n0 (fun j => va_rf (f' j))).slots.getD _ _ = _
              rw [Array.getD_eq_getD_getElem?, arrV_read _ _ (by omega)]
              rfl
            rw [e]
            cases hy : f (sp.toNatClampNeg + i) with
            | none =>
              have : f' (sp.toNatClampNeg + i) = none := by rw [← hf']; simp [hy]
              rw [this]
              exact ⟨rfl, trivial⟩
            | some y =>
              have : f' (sp.toNatClampNeg + i) = some (ad y) := by rw [← hf']; simp [hy]
              rw [this]
              obtain ⟨cV, g1, g2, ⟨kC, hkC⟩, g4⟩ := zok_any hH.1 hKS (hel i hi y hy)
              obtain ⟨kA, comp, r1, r2, r3, -⟩ := ra1
              cases hk1.symm.trans r1
              cases hkk1.symm.trans r2
              obtain ⟨kE, hkE, -⟩ := Vm.findClass_spec r3
              obtain ⟨kC', hkC', -⟩ := hal.2.2 _ _ hkC
              obtain ⟨kE', hkE', -⟩ := hal.2.2 _ _ hkE
              refine ⟨rfl, cV, (show T.heap[ad y]? = some cV by rw [hT]; exact g1), g2, ⟨kC', hkC'⟩, ?_, ?_⟩
              · exact ⟨kE', hkE'⟩
              · show vm₁.assignable _ _ = true
                rw [hal.assignable]
                exact g4 _ r3)
          (g := F0 m pc ls (.int len :: .int dp :: .ref (ad a) :: .int sp :: .ref (ad a0) :: st.map (zcv ad))) rfl (by rw [hml]; exact hH.2.2.1.1) (rest := st.map (zcv ad)) rfl (by rw [hb]; exact hd) hfr (by show 2 * 0 + _ + _ ≤ lo; rw [zcs_e]; omega)
        have e1 : copied (vp_cell c0 (n0, .inr (.inr (.inr (.inr f'))))) (vp_cell c1 (n1, .inr (.inr (.inr (.inr g'))))) sp dp len = vp_cell c1 (n1, .inr (.inr (.inr (.inr (va_cpy f' g' sp.toNatClampNeg dp.toNatClampNeg len.toNatClampNeg))))) := by
          rw [vp_cell_q, vp_cell_q, vp_cell_q]
          exact va_copied (fun z => va_rf z) c0 c1 f' g' h4
        rw [e1] at X' step
        have hlt : ad a < H.size := (Array.getElem?_eq_some_iff.mp hc1).1
        have hheap : ((T.setVm vm').setCell (ad a) (vp_cell c1 (n1, .inr (.inr (.inr (.inr (va_cpy f' g' sp.toNatClampNeg dp.toNatClampNeg len.toNatClampNeg))))))).heap = H.setIfInBounds (ad a) (vp_cell c1 (n1, .inr (.inr (.inr (.inr (va_cpy f' g' sp.toNatClampNeg dp.toNatClampNeg len.toNatClampNeg)))))) := by rw [← hT]; rfl
        have oq : ∀ q : Nat, q ≠ ad a → (H.setIfInBounds (ad a) (vp_cell c1 (n1, .inr (.inr (.inr (.inr (va_cpy f' g' sp.toNatClampNeg dp.toNatClampNeg len.toNatClampNeg)))))))[q]? = H[q]? := fun q hq => by simp [Array.getElem?_setIfInBounds, Ne.symm hq]
        have hself : (H.setIfInBounds (ad a) (vp_cell c1 (n1, .inr (.inr (.inr (.inr (va_cpy f' g' sp.toNatClampNeg dp.toNatClampNeg len.toNatClampNeg)))))))[ad a]? = some (vp_cell c1 (n1, .inr (.inr (.inr (.inr (va_cpy f' g' sp.toNatClampNeg dp.toNatClampNeg len.toNatClampNeg)))))) := by simp [Array.getElem?_setIfInBounds, hlt]
        have hcp : (fun k => (va_cpy f g sp.toNatClampNeg dp.toNatClampNeg len.toNatClampNeg k).map ad) = va_cpy f' g' sp.toNatClampNeg dp.toNatClampNeg len.toNatClampNeg := by
          funext j
          unfold va_cpy
          rw [← hf', ← hg']
          split <;> rfl
        have hA' : A (ad a) := hH.1.2.2.1 a (zne hM1) hmo
        obtain ⟨p1, p2, p3, p4, p5, p6⟩ := hH
        have hr' : ∀ n', zrf (.inl (.object "java/lang/Object", n1, .inr (.inr (va_cpy f g sp.toNatClampNeg dp.toNatClampNeg len.toNatClampNeg)))) n' → M n' ≠ none := by
          rintro n' ⟨j, hj⟩
          unfold va_cpy at hj
          split at hj
          · exact p1.2.2.2 a0 _ hM0 n' ⟨_, hj⟩
          · exact p1.2.2.2 a _ hM1 n' ⟨_, hj⟩
        obtain ⟨t, a1, b1⟩ := hK L st _ k n h ad _ _ ls ⟨zWd_put (H1 := H.setIfInBounds (ad a) (vp_cell c1 (n1, .inr (.inr (.inr (.inr (va_cpy f' g' sp.toNatClampNeg dp.toNatClampNeg len.toNatClampNeg))))))) p1 hM1 ⟨c1, ar1, ra1, by simp only [zca]; rw [hcp]; exact hself⟩ hr' oq, ⟨by simp; exact p2.1, fun q g1 g2 => by
            rw [oq q (fun e => g2 (by rw [e]; exact hA'))]
            exact p2.2.1 q g1 g2, fun q hq => by
            rcases List.mem_append.mp hq with h | h
            · exact p2.2.2 q h
            · obtain ⟨z, -, hz⟩ := List.mem_map.mp h
              rw [← hz]
              exact hA'⟩, p3, ⟨fun n hn => ⟨zup_ne (p4.1 n hn).1, (p4.1 n hn).2⟩, fun n hn hn2 => p4.2 n hn (zup_in hM1 hn2)⟩, fun k v hv => zalv_up (p5 k v hv), fun v hv => zalv_up (p6 v (by simp [hv]))⟩ _ hheap X'
        exact ⟨t, step t a1, b1⟩
      · exact h.elim
    · exact h.elim
  · exact h.elim
/-! the static empty array; references compared -/
def i_gsE (K : zKT) : zKT := fun L st M k n => M znE ≠ none ∧ K L (.inr znE :: st) M k n
theorem sd_gsE {X : zMa} {own : String} {cc : ByteArray} {fr lo mc ms : Nat} {ret : Option FieldType} {ini : Bool} {Rt : Option zAV → zMp → Prop} (hC : zCx X own cc fr lo mc ms ret ini Rt) {pc : Nat} {ix : Nat} (hown' : own = "java/util/ArrayList") (hl : Cond.fieldLink own ix "java/util/ArrayList" "DEFAULTCAPACITY_EMPTY_ELEMENTDATA" "[Ljava/lang/Object;" ∈ tb) (hd : decode cc pc = .ok (.getstatic ix, 3)) {K : zKT} (hK : zLe K (zG X (pc + 3))) : zLe (i_gsE K) (zG X pc) := by
  obtain ⟨p, l, e, R, s, m, args, below, meth, c, Q, nL, D, A, ad0, M0⟩ := X
  obtain ⟨hx, hb, hml, hown, hts, hKS, hSF, hA, hR, hQ, hret, hlk, hini⟩ := hC
  intro L st M k n h
  obtain ⟨hz, h⟩ := h
  intro ad H locs ls hH
  have hm : ¬ zmo znE := by unfold zmo znE; decide
  have h0 := hH.2.2.2.1.2 znE hm hz
  have hZ := hSF h0
  rw [← (hH.2.2.2.1.1 znE h0).2] at hZ
  exact va_gets hx hb hZ hH.2.1 hown (hts _ hl) (fun _ h => h) hd (hK L _ M k n h ad H locs ls (zHd_st hH (fun h => zsv_c hz h)))
def i_aceq (Kt Kf : zKT) : zKT := fun L st M k n => match st with
  | .inr b :: .inr a :: st => (a = b → Kt L st M k n) ∧ (¬ a = b → Kf L st M k n)
  | _ => False
theorem sd_aceq {X : zMa} {own : String} {cc : ByteArray} {fr lo mc ms : Nat} {ret : Option FieldType} {ini : Bool} {Rt : Option zAV → zMp → Prop} (hC : zCx X own cc fr lo mc ms ret ini Rt) {pc : Nat} {off : Int} {tgt : Nat} (ht : (pc : Int) + off = (tgt : Int)) (hd : decode cc pc = .ok (.if_acmp .eq off, 3)) {Kt Kf : zKT} (hKt : zLe Kt (zG X tgt)) (hKf : zLe Kf (zG X (pc + 3))) : zLe (i_aceq Kt Kf) (zG X pc) := by
  obtain ⟨p, l, e, R, s, m, args, below, meth, c, Q, nL, D, A, ad0, M0⟩ := X
  obtain ⟨hx, hb, hml, hown, hts, hKS, hSF, hA, hR, hQ, hret, hlk, hini⟩ := hC
  intro L st M k n h
  unfold i_aceq at h
  split at h
  · next b a st =>
    obtain ⟨h1, h2⟩ := h
    intro ad H locs ls hH
    have la : M a ≠ none := zsv_h (zsv_t hH.2.2.2.2.2)
    have lb : M b ≠ none := zsv_h hH.2.2.2.2.2
    exact lv_acmp_eq (rx := some (ad a)) (ry := some (ad b)) hx hb hd ht (fun q => hKt L _ M k n (h1 (hH.1.2.1 a b la lb (Option.some.inj q))) ad H locs ls (zHd_st hH (fun h => zsv_t (zsv_t h)))) (fun q => hKf L _ M k n (h2 (fun z => q (by rw [z]))) ad H locs ls (zHd_st hH (fun h => zsv_t (zsv_t h))))
  · exact h.elim
/-! raw references: class objects -/
def i_alr (i : Nat) (K : zKT) : zKT := fun L st M k n => match zlg L i with
  | some (.inl (.ref x)) => K L (.inl (.ref x) :: st) M k n
  | _ => False
theorem sd_alr_n {X : zMa} {own : String} {cc : ByteArray} {fr lo mc ms : Nat} {ret : Option FieldType} {ini : Bool} {Rt : Option zAV → zMp → Prop} (hC : zCx X own cc fr lo mc ms ret ini Rt) {pc : Nat} {j : Fin 4} {i : Nat} (hi : (j : Nat) = i) (hd : decode cc pc = .ok (.aload_n j, 1)) {K : zKT} (hK : zLe K (zG X (pc + 1))) : zLe (i_alr i K) (zG X pc) := by
  obtain ⟨p, l, e, R, s, m, args, below, meth, c, Q, nL, D, A, ad0, M0⟩ := X
  obtain ⟨hx, hb, hml, hown, hts, hKS, hSF, hA, hR, hQ, hret, hlk, hini⟩ := hC
  intro L st M k n h
  unfold i_alr at h
  split at h
  · next x he =>
    intro ad H locs ls hH
    exact lv_aload_n hx hb hd hi (hH.2.2.1.2.2 _ _ he) (hK L _ M k n h ad H locs ls (zHd_st hH (fun h => zsv_c trivial h)))
  · exact h.elim
def zS (X : zMa) : State := match X with
  | (_, _, _, _, s, _, _, _, _, _, _, _, _, _, _, _) => s
def i_mir (mi : Nat) (K : zKT) : zKT := fun L st M k n => K L (.inl (.ref mi) :: st) M k n
theorem sd_mir {X : zMa} {own : String} {cc : ByteArray} {fr lo mc ms : Nat} {ret : Option FieldType} {ini : Bool} {Rt : Option zAV → zMp → Prop} (hC : zCx X own cc fr lo mc ms ret ini Rt) {pc : Nat} {ix mi : Nat} (hM : va_Mi "[Ljava/lang/Object;" mi (zS X)) (hl : Cond.classLink own ix "[Ljava/lang/Object;" ∈ tb) (hd : decode cc pc = .ok (.ldc ix, 2)) {K : zKT} (hK : zLe K (zG X (pc + 2))) : zLe (i_mir mi K) (zG X pc) := by
  obtain ⟨p, l, e, R, s, m, args, below, meth, c, Q, nL, D, A, ad0, M0⟩ := X
  obtain ⟨hx, hb, hml, hown, hts, hKS, hSF, hA, hR, hQ, hret, hlk, hini⟩ := hC
  intro L st M k n h ad H locs ls hH
  exact va_ldcM hx hb hown (hts _ hl) hM hd (hK L _ M k n h ad H locs ls (zHd_st hH (fun h => zsv_c trivial h)))
def i_acnR (Kt Kf : zKT) : zKT := fun L st M k n => match st with
  | .inl (.ref y) :: .inl (.ref x) :: st => (¬ x = y → Kt L st M k n) ∧ (x = y → Kf L st M k n)
  | _ => False
theorem sd_acnR {X : zMa} {own : String} {cc : ByteArray} {fr lo mc ms : Nat} {ret : Option FieldType} {ini : Bool} {Rt : Option zAV → zMp → Prop} (hC : zCx X own cc fr lo mc ms ret ini Rt) {pc : Nat} {off : Int} {tgt : Nat} (ht : (pc : Int) + off = (tgt : Int)) (hd : decode cc pc = .ok (.if_acmp .ne off, 3)) {Kt Kf : zKT} (hKt : zLe Kt (zG X tgt)) (hKf : zLe Kf (zG X (pc + 3))) : zLe (i_acnR Kt Kf) (zG X pc) := by
  obtain ⟨p, l, e, R, s, m, args, below, meth, c, Q, nL, D, A, ad0, M0⟩ := X
  obtain ⟨hx, hb, hml, hown, hts, hKS, hSF, hA, hR, hQ, hret, hlk, hini⟩ := hC
  intro L st M k n h
  unfold i_acnR at h
  split at h
  · next y x st =>
    obtain ⟨h1, h2⟩ := h
    intro ad H locs ls hH
    exact lv_acmp_ne (rx := some x) (ry := some y) hx hb hd ht (fun q => hKt L _ M k n (h1 (fun z => q (by rw [z]))) ad H locs ls (zHd_st hH (fun h => zsv_t (zsv_t h)))) (fun q => hKf L _ M k n (h2 (Option.some.inj q)) ad H locs ls (zHd_st hH (fun h => zsv_t (zsv_t h))))
  · exact h.elim
end
section
theorem gc_1 : Cond.declares ⟨"java/lang/Object", "getClass", "()Ljava/lang/Class;"⟩ ∈ xw := (xw_t 944 (by decide +kernel) (by decide +kernel))
theorem gc_2 : Cond.selects "[Ljava/lang/Object;" ⟨"java/lang/Object", "getClass", "()Ljava/lang/Class;"⟩ ⟨"java/lang/Object", "getClass", "()Ljava/lang/Class;"⟩ ∈ tb := (tb_t 943 (by decide +kernel) (by decide +kernel))
theorem gc_3 : Cond.instanceMethod ⟨"java/lang/Object", "getClass", "()Ljava/lang/Class;"⟩ ∈ tb := (tb_t 322 (by decide +kernel) (by decide +kernel))
theorem gc_4 : Cond.native ⟨"java/lang/Object", "getClass", "()Ljava/lang/Class;"⟩ ∈ tb := (tb_t 333 (by decide +kernel) (by decide +kernel))
theorem zvc (cA : ClassId) (a : vp_A) : (vp_cell cA a).vm.isStatics = false ∧ (vp_cell cA a).cls = cA := by
  obtain ⟨n, f | f | f | f | f⟩ := a <;> exact ⟨rfl, rfl⟩
def zPm (D : va_G) (ad : zNm → Nat) (M : zMp) (sz : Nat) (As : List zAV) (mi : Nat) : Array Value → State → Prop := fun v U => zPc D ad M sz As v U ∧ va_Mi "[Ljava/lang/Object;" mi U
def zMetM (l : Launch) (y : MethodName) (bytes : ByteArray) (maxL : Nat) (ret : Option FieldType) (fr lo : Nat) (As : List zAV) (M : zMp) (mc ms : Nat) (Rt : Option zAV → zMp → Prop) (mi : Nat) : Prop :=
  ∀ (D : va_G) (ad : zNm → Nat) (sz : Nat), (∀ a ∈ As, zalv M a) → Met l y (Cond.code y bytes maxL ret :: tb) { frames := fr, cells := mc, slots := ms, locals := lo } (zPm D ad M sz As mi) (zAQ D (zA0 ad M sz) ad M Rt) mc ms (zA0 ad M sz)
theorem zMetM_of {l : Launch} {y : MethodName} {bytes : ByteArray} {maxL : Nat} {ret : Option FieldType} {fr lo : Nat} {As : List zAV} {M : zMp} {mc ms : Nat} {Rt : Option zAV → zMp → Prop} {mi : Nat} (hy : plainName y.cls = true) (hlen : (zen As).length ≤ maxL)
    (body : ∀ X, zNL X = maxL → zCx X y.cls bytes fr lo mc ms ret false Rt → va_Mi "[Ljava/lang/Object;" mi (zS X) → zG X 0 (zeL maxL As) [] M 0 0) : zMetM l y bytes maxL ret fr lo As M mc ms Rt mi := by
  intro D ad sz hargs
  refine Met.ofW (cc := bytes) (maxL := maxL) (ret := ret) hy rfl ?_
  intro p e s m args below meth c s₁ B hml hv
  obtain ⟨⟨rfl, hsz, hWd, hKS, hSF⟩, hmi⟩ := hv
  subst hsz
  have hts := atoms_spec (ws := Cond.code y bytes maxL ret :: tb) B.pre
  have hg := body (p, l, e, (headSpec (Cond.code y bytes maxL ret :: tb) { frames := fr, cells := mc, slots := ms, locals := lo }).room, s, m, (As.map (zcv ad)).toArray, below, meth, c, MQ below (zAQ D (zA0 ad M s.heap.size) ad M Rt) (As.map (zcv ad)).toArray s mc ms (zA0 ad M s.heap.size), maxL, D, zA0 ad M s.heap.size, ad, M) rfl
    ⟨B.exec, B.bytes, hml, findClass_of_methodNamed B.named, fun w hw => hts w (List.mem_cons_of_mem _ hw), hKS, hSF, fun q h => Or.inr h, rfl, rfl, B.returns, B.notSynchronized, fun h => by cases h⟩ hmi
  have hl := lv_entry (As.map (zcv ad)) (n := maxL) (by rw [zen_len]; exact hlen)
  rw [lg_entry_eq]
  refine hg ad s.heap [] _ ⟨zWd_weak (fun n hn hm => zmo_A hn hm) hWd, va_S.rf, ⟨hl.1, hl.2.1, fun k v hk => ?_⟩, ⟨fun n hn => ⟨hn, rfl⟩, fun n _ hn => hn⟩, fun k v hk => zen_live As hargs k v (zlg_rep _ _ k v hk), fun v hv => by cases hv⟩
  have h1 := zen_args ad As 0 k v (zlg_rep _ _ k v hk)
  rw [Nat.zero_add] at h1
  exact hl.2.2 _ h1
def i_gcp (mc ms : Nat) (T : List zAV → zMp → (Option zAV → zMp → Prop) → Prop) (co : List zAV → zMp → Nat × Nat) (K : zKT) : zKT := fun L st M k n => match st with
  | .inr d :: .inl (.int x) :: .inr d0 :: st => (match M d with
    | some (.inl (ty, _, _)) => ty = .object "java/lang/Object" ∧ zcs st ≤ 6 ∧ ∀ mi : Nat, k + (co [.inr d0, .inl (.int x), .inl (.ref mi)] M).1 ≤ mc ∧ n + (co [.inr d0, .inl (.int x), .inl (.ref mi)] M).2 ≤ ms ∧ T [.inr d0, .inl (.int x), .inl (.ref mi)] M (fun v M' => K L (v.toList ++ st) M' (k + (co [.inr d0, .inl (.int x), .inl (.ref mi)] M).1) (n + (co [.inr d0, .inl (.int x), .inl (.ref mi)] M).2))
    | _ => False)
  | _ => False
theorem sd_gcp {X : zMa} {own : String} {cc : ByteArray} {fr lo mc ms : Nat} {ret : Option FieldType} {ini : Bool} {Rt : Option zAV → zMp → Prop} (hC : zCx X own cc fr lo mc ms ret ini Rt) {pc : Nat} {y : MethodName} {bytes : ByteArray} {maxL ix ix2 fr' lo' : Nat} {rt' : Option FieldType} {T : List zAV → zMp → (Option zAV → zMp → Prop) → Prop} {co : List zAV → zMp → Nat × Nat} (hT : ∀ l d0 x mi M Rt', T [.inr d0, .inl (.int x), .inl (.ref mi)] M Rt' → zMetM l y bytes maxL rt' fr' lo' [.inr d0, .inl (.int x), .inl (.ref mi)] M (co [.inr d0, .inl (.int x), .inl (.ref mi)] M).1 (co [.inr d0, .inl (.int x), .inl (.ref mi)] M).2 Rt' mi) (hY : zYS y bytes maxL rt' 3) (hl0 : Cond.methodLink own ix ⟨"java/lang/Object", "getClass", "()Ljava/lang/Class;"⟩ ∈ tb) (hl : Cond.methodLink own ix2 y ∈ tb) (hfr : fr' + 1 ≤ fr) (hlo : 8 + (maxL + 11) + lo' ≤ lo) (hlo2 : 22 ≤ lo) (hd : decode cc pc = .ok (.invokevirtual ix, 3)) (hd2 : decode cc (pc + 3) = .ok (.invokestatic ix2, 3)) {K : zKT} (hK : zLe K (zG X (pc + 3 + 3))) : zLe (i_gcp mc ms T co K) (zG X pc) := by
  obtain ⟨p, l, e, R, s, m, args, below, meth, c, Q, nL, D, A, ad0, M0⟩ := X
  obtain ⟨hx, hb, hml, hown, hts, hKS, hSF, hA, hR, hQ, hret, hlk, hini⟩ := hC
  subst hR
  intro L st M k n h
  unfold i_gcp at h
  split at h
  · next d x d0 st =>
    split at h
    · next ty len f hM =>
      obtain ⟨rfl, hcs, h⟩ := h
      obtain ⟨y1, y3, y4, y5, y6, y7⟩ := hY
      intro ad H locs ls hH
      obtain ⟨mi, hmi⟩ := hKS.2.2
      obtain ⟨hk1, hn1, h⟩ := h mi
      obtain ⟨cA, ar, ra, hc⟩ := hH.1.1 d _ hM
      have hcs2 : (((Sum.inl (Value.int x) :: Sum.inr d0 :: st : List zAV).map (zcv ad)).map fun v => v.category).sum = 1 + (1 + zcs st) := by rw [zcs_e]; rfl
      refine va_getC hx hb (by rw [hml]; exact hH.2.2.1.1.symm) hown (hts _ hl0) (va_Dc.use (va_Dc.of (hKS.2.1 _ gc_1))) (hts _ gc_2) (hts _ gc_3) (hts _ gc_4) hmi ⟨_, hc, (zvc _ _).1, ?_⟩ (Nat.le_trans (Nat.le_add_left 1 _) hfr) (by show _ ≤ lo; rw [hcs2]; omega) hd ?_
      · rw [(zvc _ _).2]
        exact va_nmO ra rfl
      · have hsv := hH.2.2.2.2.2
        have l0 : zalv M (.inr d0) := zsv_h (zsv_t (zsv_t hsv))
        have lst : zsv M st := zsv_t (zsv_t (zsv_t hsv))
        have hargs : ∀ a ∈ ([.inr d0, .inl (.int x), .inl (.ref mi)] : List zAV), zalv M a := by
          intro a ha
          simp only [List.mem_cons, List.not_mem_nil, or_false] at ha
          rcases ha with rfl | rfl | rfl
          · exact l0
          · trivial
          · trivial
        have hM2 := hT l d0 x mi M _ h D ad H.size hargs
        have hbl : FrameBlind (zPm D ad M H.size [.inr d0, .inl (.int x), .inl (.ref mi)] mi) := fun a U g mk q => ⟨zPc_blind _ _ _ _ q.1, q.2.moved (u := U) (U := U.calling g mk a) (Vm.Alike.refl U.vm)⟩
        exact zrun_go (st := st) (rest := st) (va_runS (As := ([.inr d0, .inl (.int x), .inl (.ref mi)] : List zAV).map (zcv ad)) (rest := st.map (zcv ad)) ⟨hx, hb, hml, hown, hts⟩ hM2 (va_cwS 3 hts (zgoodS hl y1 y3 y4) rfl rfl rfl ⟨y5, y6, y7⟩ ⟨hfr, hlo⟩) ⟨hbl, fun U hU hW => ⟨zPc_of (As := [.inr d0, .inl (.int x), .inl (.ref mi)]) hH hKS hSF hA hU hW, hmi.moved hW.alike⟩⟩ rfl rfl hH.2.2.1.1 rfl (lv_room (by rw [zcs_e]; omega)) hd2 ⟨hk1, hn1⟩) (zHd_st hH (fun _ => lst)) hA lst (fun v M' hq => hK _ _ _ _ _ hq)
    · exact h.elim
  · exact h.elim
end
section
theorem mmx_1 : Cond.static Lib.Math.max.name ∈ tb := (tb_t 312 (by decide +kernel) (by decide +kernel))
theorem mmx_2 : Cond.initialized "java/lang/Math" ∈ tb := (tb_t 13 (by decide +kernel) (by decide +kernel))
theorem mmx_3 : Cond.code Lib.Math.max.name Lib.Math.max.code 2 (some .int) ∈ tb := (tb_t 313 (by decide +kernel) (by decide +kernel))
def i_mmx (mc ms : Nat) (K : zKT) : zKT := fun L st M k n => match st with
  | .inl (.int y) :: .inl (.int x) :: st => k ≤ mc ∧ n ≤ ms ∧ zcs st ≤ 7 ∧ K L (.inl (.int (if x < y then y else x)) :: st) M k n
  | _ => False
theorem sd_mmx {X : zMa} {own : String} {cc : ByteArray} {fr lo mc ms : Nat} {ret : Option FieldType} {ini : Bool} {Rt : Option zAV → zMp → Prop} (hC : zCx X own cc fr lo mc ms ret ini Rt) {pc : Nat} {ix : Nat} (hl : Cond.methodLink own ix Lib.Math.max.name ∈ tb) (hfr : 1 ≤ fr) (hlo : 20 ≤ lo) (hd : decode cc pc = .ok (.invokestatic ix, 3)) {K : zKT} (hK : zLe K (zG X (pc + 3))) : zLe (i_mmx mc ms K) (zG X pc) := by
  obtain ⟨p, l, e, R, s, m, args, below, meth, c, Q, nL, D, A, ad0, M0⟩ := X
  obtain ⟨hx, hb, hml, hown, hts, hKS, hSF, hA, hR, hQ, hret, hlk, hini⟩ := hC
  subst hR
  intro L st M k n h
  unfold i_mmx at h
  split at h
  · obtain ⟨h1, h2, hcs, h⟩ := h
    intro ad H locs ls hH
    exact va_mmax hx hb (by rw [hml]; exact hH.2.2.1.1.symm) hown (hts _ hl) (hts _ mmx_1) (hts _ mmx_2) (hts _ mmx_3) hfr (by show _ ≤ lo; rw [zcs_e]; omega) h1 h2 hd (hK L _ M k n h ad H locs ls (zHd_st hH (fun h => zsv_c trivial (zsv_t (zsv_t h)))))
  · exact h.elim
theorem mmn_1 : Cond.static Lib.Math.min.name ∈ tb := (tb_t 341 (by decide +kernel) (by decide +kernel))
theorem mmn_2 : Cond.initialized "java/lang/Math" ∈ tb := (tb_t 13 (by decide +kernel) (by decide +kernel))
theorem mmn_3 : Cond.code Lib.Math.min.name Lib.Math.min.code 2 (some .int) ∈ tb := (tb_t 342 (by decide +kernel) (by decide +kernel))
def i_mmn (mc ms : Nat) (K : zKT) : zKT := fun L st M k n => match st with
  | .inl (.int y) :: .inl (.int x) :: st => k ≤ mc ∧ n ≤ ms ∧ zcs st ≤ 7 ∧ K L (.inl (.int (if y < x then y else x)) :: st) M k n
  | _ => False
theorem sd_mmn {X : zMa} {own : String} {cc : ByteArray} {fr lo mc ms : Nat} {ret : Option FieldType} {ini : Bool} {Rt : Option zAV → zMp → Prop} (hC : zCx X own cc fr lo mc ms ret ini Rt) {pc : Nat} {ix : Nat} (hl : Cond.methodLink own ix Lib.Math.min.name ∈ tb) (hfr : 1 ≤ fr) (hlo : 20 ≤ lo) (hd : decode cc pc = .ok (.invokestatic ix, 3)) {K : zKT} (hK : zLe K (zG X (pc + 3))) : zLe (i_mmn mc ms K) (zG X pc) := by
  obtain ⟨p, l, e, R, s, m, args, below, meth, c, Q, nL, D, A, ad0, M0⟩ := X
  obtain ⟨hx, hb, hml, hown, hts, hKS, hSF, hA, hR, hQ, hret, hlk, hini⟩ := hC
  subst hR
  intro L st M k n h
  unfold i_mmn at h
  split at h
  · obtain ⟨h1, h2, hcs, h⟩ := h
    intro ad H locs ls hH
    exact va_mmin hx hb (by rw [hml]; exact hH.2.2.1.1.symm) hown (hts _ hl) (hts _ mmn_1) (hts _ mmn_2) (hts _ mmn_3) hfr (by show _ ≤ lo; rw [zcs_e]; omega) h1 h2 hd (hK L _ M k n h ad H locs ls (zHd_st hH (fun h => zsv_c trivial (zsv_t (zsv_t h)))))
  · exact h.elim
end
section
/-! numbers, bits, updated worlds -/
def bt (x : Int32) (i : Nat) : Bool := x.toBitVec.getLsbD i
theorem b_ext {x y : Int32} (h : ∀ i, i < 32 → bt x i = bt y i) : x = y := Int32.toBitVec_inj.mp (BitVec.eq_of_getLsbD_eq (fun i hi => h i hi))
theorem b_or (x y : Int32) (i : Nat) : bt (x ||| y) i = (bt x i || bt y i) := by unfold bt; rw [Int32.toBitVec_or, BitVec.getLsbD_or]
theorem b_and (x y : Int32) (i : Nat) : bt (x &&& y) i = (bt x i && bt y i) := by unfold bt; rw [Int32.toBitVec_and, BitVec.getLsbD_and]
theorem b_xor (x y : Int32) (i : Nat) : bt (x ^^^ y) i = (bt x i ^^ bt y i) := by unfold bt; rw [Int32.toBitVec_xor, BitVec.getLsbD_xor]
theorem b_big {x : Int32} {i : Nat} (h : 32 ≤ i) : bt x i = false := BitVec.getLsbD_of_ge _ _ h
theorem b_m1 : ∀ i, i < 32 → bt (-1) i = true := by decide +kernel
theorem b_0 (i : Nat) : bt 0 i = false := BitVec.getLsbD_zero
theorem s_l : ∀ n, n < 32 → ((nI n &&& 31).toBitVec.smod 32).toNat = n := by decide +kernel
theorem b_shl (n : Nat) (hn : n < 32) (x : Int32) {i : Nat} (hi : i < 32) : bt (x <<< (nI n &&& 31)) i = (decide (n ≤ i) && bt x (i - n)) := by
  unfold bt
  rw [Int32.toBitVec_shiftLeft]
  show (x.toBitVec <<< ((nI n &&& 31).toBitVec.smod 32).toNat).getLsbD i = _
  rw [s_l n hn, BitVec.getLsbD_shiftLeft]
  rcases Nat.lt_or_ge i n with h | h
  · simp [h, Nat.not_le.mpr h]
  · simp [hi, h, Nat.not_lt.mpr h]
theorem b_sshr (n : Nat) (hn : n < 32) (x : Int32) {i : Nat} (hi : i < 32) : bt (x >>> (nI n &&& 31)) i = if n + i < 32 then bt x (n + i) else bt x 31 := by
  unfold bt
  rw [Int32.toBitVec_shiftRight]
  show (x.toBitVec.sshiftRight ((nI n &&& 31).toBitVec.smod 32).toNat).getLsbD i = _
  rw [s_l n hn, BitVec.getLsbD_sshiftRight, BitVec.msb_eq_getLsbD_last]
  simp [hi]
theorem ts_bit {w : Int64} {s : UInt64} {j : Nat} (hj : j < 64) (hs : s.toNat = j) : ((w.toUInt64 >>> s).toInt64 &&& 1) = 0 ↔ w.toBitVec.getLsbD j = false := by
  have e : (w.toUInt64 >>> s).toInt64.toBitVec = w.toBitVec >>> j := by
    apply BitVec.eq_of_toNat_eq
    show (w.toUInt64 >>> s).toNat = _
    rw [UInt64.toNat_shiftRight, hs, Nat.mod_eq_of_lt hj, BitVec.toNat_ushiftRight]
    rfl
  rw [← Int64.toBitVec_inj, Int64.toBitVec_and, e]
  show w.toBitVec >>> j &&& 1#64 = 0#64 ↔ _
  constructor
  · intro h
    have t := congrArg (fun x => x.getLsbD 0) h
    simpa using t
  · intro h
    apply BitVec.eq_of_getLsbD_eq
    intro i hi
    cases i with
    | zero => simp [h]
    | succ i => simp
theorem wb_tb (n : Nat) : (lN n).toBitVec = BitVec.ofNat 64 n := rfl
theorem wb_inj {a b : Int64} (h : a.toBitVec = b.toBitVec) : a = b := Int64.toBitVec_inj.mp h
theorem wb_tn {n : Nat} (h : n < 2 ^ 64) : (lN n).toBitVec.toNat = n := by rw [wb_tb, BitVec.toNat_ofNat, Nat.mod_eq_of_lt h]
theorem wb_c : ∀ k, k < 64 → ((nI k).toInt64 &&& 63) = lN k := by decide +kernel
theorem wb_cu : ∀ k, k < 64 → ((nI k).toInt64.toUInt64 &&& Int64.toUInt64 63) = UInt64.ofNat k := by decide +kernel
theorem wb_sm : ∀ k, k < 64 → (BitVec.ofNat 64 k).smod 64 = BitVec.ofNat 64 k := by decide +kernel
theorem zup_s {M : zMp} {a : zNm} {e : zAE} : zup M a e a = some e := if_pos rfl
theorem zup_o {M : zMp} {a n : zNm} {e : zAE} (h : n ≠ a) : zup M a e n = M n := if_neg h
theorem zup_zup {M : zMp} {a : zNm} {e e' : zAE} : zup (zup M a e) a e' = zup M a e' := by
  funext n
  unfold zup
  split <;> rfl
theorem zup_self {M : zMp} {a : zNm} {e : zAE} (h : M a = some e) : zup M a e = M := by
  funext n
  unfold zup
  split
  · next q => rw [q, h]
  · rfl
theorem zup_comm {M : zMp} {a b : zNm} {e e' : zAE} (h : a ≠ b) : zup (zup M a e) b e' = zup (zup M b e') a e := by
  funext n
  unfold zup
  split
  · next q => rw [if_neg (by rw [q]; exact Ne.symm h)]
  · rfl
theorem zdf {M : zMp} {a b : zNm} {e e' : zAE} (h : M a = some e) (h' : M b = some e') (hn : e ≠ e') : a ≠ b := fun q => hn (Option.some.inj (by rw [← h, ← h', q]))
theorem zK {K : Nat} (h : K < 2 ^ 31) {n : Nat} (hn : n < 2 ^ 31) : (nI n < nI K ↔ n < K) ∧ (nI K ≤ nI n ↔ K ≤ n) ∧ (nI n = nI K ↔ n = K) ∧ (nI K < nI n ↔ K < n) ∧ (nI n ≤ nI K ↔ n ≤ K) := ⟨nI_ltI hn h, nI_leI h hn, nI_eq hn h, nI_ltI h hn, nI_leI hn h⟩
def zbit (f : Nat → Int64) (k : Nat) : Bool := (f (k / 64)).toBitVec.getLsbD (k % 64)
def zb (b : Bool) : Int32 := if b then 1 else 0
theorem zb_01 (b : Bool) : zb b = 0 ∨ zb b = 1 := by cases b <;> simp [zb]
theorem zb_0 {b : Bool} : zb b = 0 ↔ b = false := by cases b <;> simp [zb]
theorem zb_1 {b : Bool} : zb b = 1 ↔ b = true := by cases b <;> simp [zb]
theorem nI_d64 {k : Nat} (h : k < 2 ^ 31) : nI k / 64 = nI (k / 64) := pk_div (d := 64) h (by decide) (by decide)
theorem nI_r64 {k : Nat} (h : k < 2 ^ 31) : nI k - nI (k / 64) * 64 = nI (k % 64) := by
  have := pk_rem (a := k) (d := 64) h (by decide) (by decide)
  rw [show nI 64 = 64 from rfl, nI_d64 h] at this
  exact this
theorem zbit_t (w : Int64) {j : Nat} (hj : j < 64) : ((w.toUInt64 >>> ((nI j).toInt64.toUInt64 &&& Int64.toUInt64 63)).toInt64 &&& 1) = 0 ↔ w.toBitVec.getLsbD j = false := by
  rw [wb_cu j hj]
  exact ts_bit hj (by rw [UInt64.toNat_ofNat']; exact Nat.mod_eq_of_lt (by omega))
def i_no : zKT := fun _ _ _ _ _ => False
theorem zNo {K : zKT} : zLe i_no K := fun _ _ _ _ _ h => h.elim
def co0 : List zAV → zMp → Nat × Nat := fun _ _ => (0, 0)
theorem zul {f g : Nat → Int64} {i : Nat} {x : Int64} (hx : x = g i) : vp_updL (fun j => if j < i then g j else f j) i x = fun j => if j < i + 1 then g j else f j := by
  funext j
  unfold vp_updL
  by_cases h : j = i
  · subst h; simp [hx]
  · by_cases h2 : j < i
    · simp [h, h2, Nat.lt_succ_of_lt h2]
    · have h3 : ¬ j < i + 1 := by omega
      simp [h, h2, h3]
theorem zui {f g : Nat → Int32} {i : Nat} {x : Int32} (hx : x = g i) : upd (fun j => if j < i then g j else f j) i x = fun j => if j < i + 1 then g j else f j := by
  funext j
  unfold upd
  by_cases h : j = i
  · subst h; simp [hx]
  · by_cases h2 : j < i
    · simp [h, h2, Nat.lt_succ_of_lt h2]
    · have h3 : ¬ j < i + 1 := by omega
      simp [h, h2, h3]
theorem zlt0 {α : Type} {f g : Nat → α} : (fun j => if j < 0 then g j else f j) = f := by funext j; simp
/-- loops over the five words -/
theorem five {P : Nat → Prop} (h : ∀ i, i < 5 → P (i + 1) → P i) (h5 : P 5) : P 0 := h 0 (by decide) (h 1 (by decide) (h 2 (by decide) (h 3 (by decide) (h 4 (by decide) h5))))
theorem upto {P : Nat → Prop} {N : Nat} (h : ∀ i, i < N → P (i + 1) → P i) (hN : P N) : ∀ i, i ≤ N → P i := by
  intro i hi
  obtain ⟨d, hd⟩ : ∃ d, i + d = N := ⟨N - i, by omega⟩
  induction d generalizing i with
  | zero => rw [show i = N by omega]; exact hN
  | succ d ih => exact h i (by omega) (ih (i + 1) (by omega) (by omega))
/-- any proposition as a truth value -/
noncomputable def zd (p : Prop) : Bool := @decide p (Classical.propDecidable p)
theorem zd_t {p : Prop} (h : p) : zd p = true := @decide_eq_true p (Classical.propDecidable p) h
theorem zd_f {p : Prop} (h : ¬ p) : zd p = false := @decide_eq_false p (Classical.propDecidable p) h
theorem zd_i {p : Prop} : zd p = true ↔ p := ⟨fun h => @of_decide_eq_true p (Classical.propDecidable p) h, zd_t⟩
theorem zd_n {p : Prop} : zd p = false ↔ ¬ p := ⟨fun h q => Bool.noConfusion (h.symm.trans (zd_t q)), zd_f⟩
theorem zd_c {p q : Prop} (h : p ↔ q) : zd p = zd q := by
  by_cases hp : p
  · rw [zd_t hp, zd_t (h.mp hp)]
  · rw [zd_f hp, zd_f (fun z => hp (h.mpr z))]
theorem zn_0 : (0 : Int32).toNatClampNeg = 0 := by decide
theorem zn_1 : (1 : Int32).toNatClampNeg = 1 := by decide
theorem zn_2 : (2 : Int32).toNatClampNeg = 2 := by decide
theorem zn_3 : (3 : Int32).toNatClampNeg = 3 := by decide
theorem zn_4 : (4 : Int32).toNatClampNeg = 4 := by decide
theorem zn_5 : (5 : Int32).toNatClampNeg = 5 := by decide
theorem zn_8 : (8 : Int32).toNatClampNeg = 8 := by decide
theorem zn_12 : (12 : Int32).toNatClampNeg = 12 := by decide
theorem zn_24 : (24 : Int32).toNatClampNeg = 24 := by decide
theorem zn_121 : (121 : Int32).toNatClampNeg = 121 := by decide
theorem zn_144 : (144 : Int32).toNatClampNeg = 144 := by decide
theorem zn_256 : (256 : Int32).toNatClampNeg = 256 := by decide
theorem zn_300 : (300 : Int32).toNatClampNeg = 300 := by decide
theorem zn_600 : (600 : Int32).toNatClampNeg = 600 := by decide
theorem zn_720 : (720 : Int32).toNatClampNeg = 720 := by decide
theorem zn_1204 : (1204 : Int32).toNatClampNeg = 1204 := by decide
theorem zn_1280 : (1280 : Int32).toNatClampNeg = 1280 := by decide
theorem zn_2400 : (2400 : Int32).toNatClampNeg = 2400 := by decide
theorem zn_4816 : (4816 : Int32).toNatClampNeg = 4816 := by decide
theorem zn_14400 : (14400 : Int32).toNatClampNeg = 14400 := by decide
theorem zn_90000 : (90000 : Int32).toNatClampNeg = 90000 := by decide
/-! calls whose cost is told at the call -/
def zCT2 (l : Launch) (y : MethodName) (bytes : ByteArray) (maxL : Nat) (ret : Option FieldType) (fr lo : Nat) (T : List zAV → zMp → (Option zAV → zMp → Prop) → Nat → Nat → Prop) : Prop :=
  ∀ (As : List zAV) (M : zMp) (Rt : Option zAV → zMp → Prop) (c1 c2 : Nat), T As M Rt c1 c2 → zMet l y bytes maxL ret fr lo As M c1 c2 Rt
def i_callV2 (mc ms ci na : Nat) (T : List zAV → zMp → (Option zAV → zMp → Prop) → Nat → Nat → Prop) (K : zKT) : zKT := fun L st M k n => ∃ c1 c2 : Nat, i_callV mc ms ci na (fun As M Rt => T As M Rt c1 c2) (fun _ _ => (c1, c2)) K L st M k n
theorem sd_cV2 {X : zMa} {own : String} {cc : ByteArray} {fr lo mc ms : Nat} {ret : Option FieldType} {ini : Bool} {Rt : Option zAV → zMp → Prop} (hC : zCx X own cc fr lo mc ms ret ini Rt) {pc : Nat} {y : MethodName} {bytes : ByteArray} {maxL ix na fr' lo' : Nat} {rt' : Option FieldType} {T : List zAV → zMp → (Option zAV → zMp → Prop) → Nat → Nat → Prop} {ci : Nat} {r : vw_C} (hT : ∀ l, zCT2 l y bytes maxL rt' fr' lo' T) (hY : zYV y bytes maxL rt' na) (hc : vwCl[ci]? = some r) (hr : r.1 = y.cls) (hl : Cond.methodLink own ix y ∈ tb) (hfr : fr' + 1 ≤ fr) (hlo : 8 + (maxL + 11) + lo' ≤ lo) (hd : decode cc pc = .ok (.invokevirtual ix, 3)) {K : zKT} (hK : zLe K (zG X (pc + 3))) : zLe (i_callV2 mc ms ci na T K) (zG X pc) := by
  intro L st M k n h
  obtain ⟨c1, c2, h⟩ := h
  exact sd_cV hC (T := fun As M Rt => T As M Rt c1 c2) (co := fun _ _ => (c1, c2)) (fun l As M Rt h => hT l As M Rt c1 c2 h) hY hc hr hl hfr hlo hd hK L st M k n h
end
section
/-! WishRoutes.Row: sets of wish numbers in five words -/
def zrow (M : zMp) (r q : zNm) (f : Nat → Int64) : Prop := M r = some (.inr (5, [.inr q])) ∧ M q = some (.inl (.long, 5, .inr (.inl f)))
abbrev zlo (f : Nat → Int64) : zAE := .inl (.long, 5, .inr (.inl f))
theorem zrow_ne {M : zMp} {r q : zNm} {f : Nat → Int64} (h : zrow M r q f) : r ≠ q := zdf h.1 h.2 (by simp)
def T_Row_has (As : List zAV) (M : zMp) (Rt : Option zAV → zMp → Prop) : Prop := ∃ r q f k, As = [.inr r, .inl (.int (nI k))] ∧ k < 300 ∧ zrow M r q f ∧ Rt (some (.inl (.int (zb (zbit f k))))) M
abbrev co_Row_has := co0
theorem dX4_has_0 : decode cX4_has 0 = .ok (.iload_n 1, 1) := by decide +kernel
theorem dX4_has_1 : decode cX4_has 1 = .ok (.ifCond .lt 35, 3) := by decide +kernel
theorem dX4_has_4 : decode cX4_has 4 = .ok (.iload_n 1, 1) := by decide +kernel
theorem dX4_has_5 : decode cX4_has 5 = .ok (.sipush 300, 3) := by decide +kernel
theorem dX4_has_8 : decode cX4_has 8 = .ok (.if_icmp .ge 28, 3) := by decide +kernel
theorem dX4_has_11 : decode cX4_has 11 = .ok (.aload_n 0, 1) := by decide +kernel
theorem dX4_has_12 : decode cX4_has 12 = .ok (.getfield 9, 3) := by decide +kernel
theorem dX4_has_15 : decode cX4_has 15 = .ok (.iload_n 1, 1) := by decide +kernel
theorem dX4_has_16 : decode cX4_has 16 = .ok (.bipush 64, 2) := by decide +kernel
theorem dX4_has_18 : decode cX4_has 18 = .ok (.idiv, 1) := by decide +kernel
theorem dX4_has_19 : decode cX4_has 19 = .ok (.laload, 1) := by decide +kernel
theorem dX4_has_20 : decode cX4_has 20 = .ok (.iload_n 1, 1) := by decide +kernel
theorem dX4_has_21 : decode cX4_has 21 = .ok (.bipush 64, 2) := by decide +kernel
theorem dX4_has_23 : decode cX4_has 23 = .ok (.irem, 1) := by decide +kernel
theorem dX4_has_24 : decode cX4_has 24 = .ok (.lushr, 1) := by decide +kernel
theorem dX4_has_25 : decode cX4_has 25 = .ok (.lconst 1, 1) := by decide +kernel
theorem dX4_has_26 : decode cX4_has 26 = .ok (.land, 1) := by decide +kernel
theorem dX4_has_27 : decode cX4_has 27 = .ok (.lconst 0, 1) := by decide +kernel
theorem dX4_has_28 : decode cX4_has 28 = .ok (.lcmp, 1) := by decide +kernel
theorem dX4_has_29 : decode cX4_has 29 = .ok (.ifCond .eq 7, 3) := by decide +kernel
theorem dX4_has_32 : decode cX4_has 32 = .ok (.iconst 1, 1) := by decide +kernel
theorem dX4_has_33 : decode cX4_has 33 = .ok (.goto 4, 3) := by decide +kernel
theorem dX4_has_36 : decode cX4_has 36 = .ok (.iconst 0, 1) := by decide +kernel
theorem dX4_has_37 : decode cX4_has 37 = .ok (.ireturn, 1) := by decide +kernel
def B_Row_has_37 (mc ms : Nat) (Rt : Option zAV → zMp → Prop) (g : Nat → zKT) : zKT :=
  (i_zret mc ms Rt)
set_option maxRecDepth 20000 in
theorem s_Row_has_37 {X : zMa} {mc ms : Nat} {Rt : Option zAV → zMp → Prop} (hC : zCx X RX4 cX4_has 0 0 mc ms (some .boolean) false Rt) : zLe (B_Row_has_37 mc ms Rt (zG X)) (zG X 37) :=
  (sd_zret hC dX4_has_37)
def B_Row_has_36 (mc ms : Nat) (Rt : Option zAV → zMp → Prop) (g : Nat → zKT) : zKT :=
  (i_ic 0 (B_Row_has_37 mc ms Rt g))
set_option maxRecDepth 20000 in
theorem s_Row_has_36 {X : zMa} {mc ms : Nat} {Rt : Option zAV → zMp → Prop} (hC : zCx X RX4 cX4_has 0 0 mc ms (some .boolean) false Rt) : zLe (B_Row_has_36 mc ms Rt (zG X)) (zG X 36) :=
  (sd_iconst hC (by decide) dX4_has_36 (s_Row_has_37 hC))
def B_Row_has_0 (mc ms : Nat) (Rt : Option zAV → zMp → Prop) (g : Nat → zKT) : zKT :=
  (i_il 1 (i_iflt (B_Row_has_36 mc ms Rt g) (i_il 1 (i_ic 300 (i_icge (B_Row_has_36 mc ms Rt g) (i_al 0 (i_gf 5 0 (i_il 1 (i_ic 64 (i_idiv (i_lal (i_il 1 (i_ic 64 (i_irem (i_lushr (i_lc 1 (i_land (i_lc 0 (i_lcmp (i_ifeq (B_Row_has_36 mc ms Rt g) (i_ic 1 (B_Row_has_37 mc ms Rt g))))))))))))))))))))))
set_option maxRecDepth 20000 in
theorem s_Row_has_0 {X : zMa} {mc ms : Nat} {Rt : Option zAV → zMp → Prop} (hC : zCx X RX4 cX4_has 0 0 mc ms (some .boolean) false Rt) : zLe (B_Row_has_0 mc ms Rt (zG X)) (zG X 0) :=
  (sd_il_n hC rfl dX4_has_0 ((sd_iflt hC (tgt := 36) (by decide) dX4_has_1 (s_Row_has_36 hC) ((sd_il_n hC rfl dX4_has_4 ((sd_sipush hC (by decide) dX4_has_5 ((sd_icge hC (tgt := 36) (by decide) dX4_has_8 (s_Row_has_36 hC) ((sd_al_n hC rfl dX4_has_11 ((sd_gf hC (ci := 5) (fk := 0) rfl wi_Row (by decide) fl_Row_9 (Or.inl rfl) dX4_has_12 ((sd_il_n hC rfl dX4_has_15 ((sd_bipush hC (by decide) dX4_has_16 ((sd_idiv hC dX4_has_18 ((sd_lal hC dX4_has_19 ((sd_il_n hC rfl dX4_has_20 ((sd_bipush hC (by decide) dX4_has_21 ((sd_irem hC dX4_has_23 ((sd_lushr hC dX4_has_24 ((sd_lconst hC (by decide) dX4_has_25 ((sd_land hC dX4_has_26 ((sd_lconst hC (by decide) dX4_has_27 ((sd_lcmp hC dX4_has_28 ((sd_ifeq hC (tgt := 36) (by decide) dX4_has_29 (s_Row_has_36 hC) ((sd_iconst hC (by decide) dX4_has_32 ((sd_goto hC (tgt := 37) (by decide) dX4_has_33 (s_Row_has_37 hC))))))))))))))))))))))))))))))))))))))))))))
theorem c_Row_has (l : Launch) : zCT l yX4_has cX4_has 2 (some .boolean) 0 0 T_Row_has co_Row_has := by
  intro As M Rt hT
  obtain ⟨r, q, f, k, rfl, hk, ⟨h1, h2⟩, hR⟩ := hT
  refine zMet_of false (by decide +kernel) (fun h => by first | rfl | cases h) (Nat.le_of_ble_eq_true rfl) (fun X hN hC => ?_)
  show zG X 0 [some (.inr r), some (.inl (.int (nI k)))] [] M 0 0
  refine s_Row_has_0 hC _ _ _ _ _ ?_
  simp only [B_Row_has_0, B_Row_has_36, B_Row_has_37, co_Row_has, i_ic, i_lc, i_nul, i_il, i_ll, i_al, i_is, i_as, i_ls, i_inc, i_iadd, i_isub, i_imul, i_iand, i_ior, i_ixor, i_idiv, i_irem, i_ishl, i_ishr, i_ladd, i_lsub, i_land, i_lor, i_i2l, i_lushr, i_lshl, i_lshr, i_lcmp, i_dup, i_pop, i_dx1, i_dup2, i_ifeq, i_ifne, i_iflt, i_ifge, i_ifgt, i_ifle, i_iceq, i_icne, i_iclt, i_icge, i_icgt, i_icle, i_ifn, i_gf, i_pf, i_ial, i_bal, i_lal, i_aal, i_ias, i_las, i_bas, i_aas, i_alen, i_newa, i_new, i_anew, i_cast, i_oi, i_call, i_callV, i_callV2, i_callI, i_iret, i_zret, i_lret, i_vret, i_aret, i_mmx, i_mmn, i_gsE, i_aceq, i_no, i_acq, i_sw, zsw, zlg, zls, znl, zfg, zcs, zsp, zrc, zisn, zft, zc1, zto, Value.category, List.set_cons_zero, List.set_cons_succ, List.length_cons, List.length_nil, Option.toList, List.nil_append, List.cons_append, true_and, and_true, Nat.add_zero, Nat.zero_le, Nat.zero_add, Nat.le_refl, Nat.reduceAdd, Nat.reduceLeDiff, co0, z0, zn_0, zn_1, zn_2, zn_3, zn_4, zn_5, zn_8, zn_12, zn_24, zn_121, zn_144, zn_256, zn_300, zn_600, zn_720, zn_1204, zn_1280, zn_2400, zn_4816, zn_14400, zn_90000, h1, h2]
  refine ⟨fun h => absurd h (nI_pos (by omega)), fun _ => ⟨fun h => absurd ((zK (K := 300) (by decide) (n := k) (by omega)).2.1.mp h) (by omega), fun _ => ⟨by decide, ?_, by decide, ?_⟩⟩⟩
  · rw [nI_d64 (by omega)]
    exact vp_in_nI (by omega) (by decide)
  · rw [nI_d64 (by omega), nI_r64 (by omega), nI_clamp (by omega), lg_cmp_eq, zbit_t _ (Nat.mod_lt _ (by decide))]
    cases hb : zbit f k with
    | true =>
      rw [hb] at hR
      exact ⟨fun h => absurd (hb.symm.trans h) (by decide), fun _ => ⟨Or.inr trivial, hR⟩⟩
    | false =>
      rw [hb] at hR
      exact ⟨fun _ => ⟨Or.inl trivial, hR⟩, fun h => absurd hb h⟩
/-- one number more -/
def rw_add (f : Nat → Int64) (k : Nat) : Nat → Int64 := vp_updL f (k / 64) (f (k / 64) ||| ((1 : Int64) <<< ((nI (k % 64)).toInt64 &&& 63)))
def T_Row_add (As : List zAV) (M : zMp) (Rt : Option zAV → zMp → Prop) : Prop := ∃ r q f k, As = [.inr r, .inl (.int (nI k))] ∧ k < 300 ∧ zmo q ∧ zrow M r q f ∧ Rt none (zup M q (zlo (rw_add f k)))
abbrev co_Row_add := co0
theorem dX4_add_0 : decode cX4_add 0 = .ok (.iload_n 1, 1) := by decide +kernel
theorem dX4_add_1 : decode cX4_add 1 = .ok (.ifCond .lt 28, 3) := by decide +kernel
theorem dX4_add_4 : decode cX4_add 4 = .ok (.iload_n 1, 1) := by decide +kernel
theorem dX4_add_5 : decode cX4_add 5 = .ok (.sipush 300, 3) := by decide +kernel
theorem dX4_add_8 : decode cX4_add 8 = .ok (.if_icmp .ge 21, 3) := by decide +kernel
theorem dX4_add_11 : decode cX4_add 11 = .ok (.aload_n 0, 1) := by decide +kernel
theorem dX4_add_12 : decode cX4_add 12 = .ok (.getfield 9, 3) := by decide +kernel
theorem dX4_add_15 : decode cX4_add 15 = .ok (.iload_n 1, 1) := by decide +kernel
theorem dX4_add_16 : decode cX4_add 16 = .ok (.bipush 64, 2) := by decide +kernel
theorem dX4_add_18 : decode cX4_add 18 = .ok (.idiv, 1) := by decide +kernel
theorem dX4_add_19 : decode cX4_add 19 = .ok (.dup2, 1) := by decide +kernel
theorem dX4_add_20 : decode cX4_add 20 = .ok (.laload, 1) := by decide +kernel
theorem dX4_add_21 : decode cX4_add 21 = .ok (.lconst 1, 1) := by decide +kernel
theorem dX4_add_22 : decode cX4_add 22 = .ok (.iload_n 1, 1) := by decide +kernel
theorem dX4_add_23 : decode cX4_add 23 = .ok (.bipush 64, 2) := by decide +kernel
theorem dX4_add_25 : decode cX4_add 25 = .ok (.irem, 1) := by decide +kernel
theorem dX4_add_26 : decode cX4_add 26 = .ok (.lshl, 1) := by decide +kernel
theorem dX4_add_27 : decode cX4_add 27 = .ok (.lor, 1) := by decide +kernel
theorem dX4_add_28 : decode cX4_add 28 = .ok (.lastore, 1) := by decide +kernel
theorem dX4_add_29 : decode cX4_add 29 = .ok (.return_, 1) := by decide +kernel
def B_Row_add_29 (mc ms : Nat) (Rt : Option zAV → zMp → Prop) (g : Nat → zKT) : zKT :=
  (i_vret mc ms Rt)
set_option maxRecDepth 20000 in
theorem s_Row_add_29 {X : zMa} {mc ms : Nat} {Rt : Option zAV → zMp → Prop} (hC : zCx X RX4 cX4_add 0 0 mc ms (none) false Rt) : zLe (B_Row_add_29 mc ms Rt (zG X)) (zG X 29) :=
  (sd_vret hC dX4_add_29)
def B_Row_add_0 (mc ms : Nat) (Rt : Option zAV → zMp → Prop) (g : Nat → zKT) : zKT :=
  (i_il 1 (i_iflt (B_Row_add_29 mc ms Rt g) (i_il 1 (i_ic 300 (i_icge (B_Row_add_29 mc ms Rt g) (i_al 0 (i_gf 5 0 (i_il 1 (i_ic 64 (i_idiv (i_dup2 (i_lal (i_lc 1 (i_il 1 (i_ic 64 (i_irem (i_lshl (i_lor (i_las (B_Row_add_29 mc ms Rt g))))))))))))))))))))
set_option maxRecDepth 20000 in
theorem s_Row_add_0 {X : zMa} {mc ms : Nat} {Rt : Option zAV → zMp → Prop} (hC : zCx X RX4 cX4_add 0 0 mc ms (none) false Rt) : zLe (B_Row_add_0 mc ms Rt (zG X)) (zG X 0) :=
  (sd_il_n hC rfl dX4_add_0 ((sd_iflt hC (tgt := 29) (by decide) dX4_add_1 (s_Row_add_29 hC) ((sd_il_n hC rfl dX4_add_4 ((sd_sipush hC (by decide) dX4_add_5 ((sd_icge hC (tgt := 29) (by decide) dX4_add_8 (s_Row_add_29 hC) ((sd_al_n hC rfl dX4_add_11 ((sd_gf hC (ci := 5) (fk := 0) rfl wi_Row (by decide) fl_Row_9 (Or.inl rfl) dX4_add_12 ((sd_il_n hC rfl dX4_add_15 ((sd_bipush hC (by decide) dX4_add_16 ((sd_idiv hC dX4_add_18 ((sd_dup2 hC dX4_add_19 ((sd_lal hC dX4_add_20 ((sd_lconst hC (by decide) dX4_add_21 ((sd_il_n hC rfl dX4_add_22 ((sd_bipush hC (by decide) dX4_add_23 ((sd_irem hC dX4_add_25 ((sd_lshl hC dX4_add_26 ((sd_lor hC dX4_add_27 ((sd_las hC dX4_add_28 (s_Row_add_29 hC))))))))))))))))))))))))))))))))))))))
theorem c_Row_add (l : Launch) : zCT l yX4_add cX4_add 2 (none) 0 0 T_Row_add co_Row_add := by
  intro As M Rt hT
  obtain ⟨r, q, f, k, rfl, hk, hm, ⟨h1, h2⟩, hR⟩ := hT
  refine zMet_of false (by decide +kernel) (fun h => by first | rfl | cases h) (Nat.le_of_ble_eq_true rfl) (fun X hN hC => ?_)
  show zG X 0 [some (.inr r), some (.inl (.int (nI k)))] [] M 0 0
  refine s_Row_add_0 hC _ _ _ _ _ ?_
  simp only [B_Row_add_0, B_Row_add_29, co_Row_add, i_ic, i_lc, i_nul, i_il, i_ll, i_al, i_is, i_as, i_ls, i_inc, i_iadd, i_isub, i_imul, i_iand, i_ior, i_ixor, i_idiv, i_irem, i_ishl, i_ishr, i_ladd, i_lsub, i_land, i_lor, i_i2l, i_lushr, i_lshl, i_lshr, i_lcmp, i_dup, i_pop, i_dx1, i_dup2, i_ifeq, i_ifne, i_iflt, i_ifge, i_ifgt, i_ifle, i_iceq, i_icne, i_iclt, i_icge, i_icgt, i_icle, i_ifn, i_gf, i_pf, i_ial, i_bal, i_lal, i_aal, i_ias, i_las, i_bas, i_aas, i_alen, i_newa, i_new, i_anew, i_cast, i_oi, i_call, i_callV, i_callV2, i_callI, i_iret, i_zret, i_lret, i_vret, i_aret, i_mmx, i_mmn, i_gsE, i_aceq, i_no, i_acq, i_sw, zsw, zlg, zls, znl, zfg, zcs, zsp, zrc, zisn, zft, zc1, zto, Value.category, List.set_cons_zero, List.set_cons_succ, List.length_cons, List.length_nil, Option.toList, List.nil_append, List.cons_append, true_and, and_true, Nat.add_zero, Nat.zero_le, Nat.zero_add, Nat.le_refl, Nat.reduceAdd, Nat.reduceLeDiff, co0, z0, zn_0, zn_1, zn_2, zn_3, zn_4, zn_5, zn_8, zn_12, zn_24, zn_121, zn_144, zn_256, zn_300, zn_600, zn_720, zn_1204, zn_1280, zn_2400, zn_4816, zn_14400, zn_90000, h1, h2]
  have e1 := nI_d64 (k := k) (by omega)
  have e2 := nI_r64 (k := k) (by omega)
  have hin : vp_in (nI k / 64) 5 := by
    rw [e1]
    exact vp_in_nI (by omega) (by decide)
  refine ⟨fun h => absurd h (nI_pos (by omega)), fun _ => ⟨fun h => absurd ((zK (K := 300) (by decide) (n := k) (by omega)).2.1.mp h) (by omega), fun _ => ⟨by decide, hin, by decide, hm, hin, ?_⟩⟩⟩
  rw [e1, e2, nI_clamp (by omega)]
  exact hR
/-! loops over the five words -/
def T_Row_clear (As : List zAV) (M : zMp) (Rt : Option zAV → zMp → Prop) : Prop := ∃ r q f, As = [.inr r] ∧ zmo q ∧ zrow M r q f ∧ Rt none (zup M q (zlo (fun j => if j < 5 then 0 else f j)))
abbrev co_Row_clear := co0
theorem dX4_clear_0 : decode cX4_clear 0 = .ok (.iconst 0, 1) := by decide +kernel
theorem dX4_clear_1 : decode cX4_clear 1 = .ok (.istore_n 1, 1) := by decide +kernel
theorem dX4_clear_2 : decode cX4_clear 2 = .ok (.iload_n 1, 1) := by decide +kernel
theorem dX4_clear_3 : decode cX4_clear 3 = .ok (.iconst 5, 1) := by decide +kernel
theorem dX4_clear_4 : decode cX4_clear 4 = .ok (.if_icmp .ge 16, 3) := by decide +kernel
theorem dX4_clear_7 : decode cX4_clear 7 = .ok (.aload_n 0, 1) := by decide +kernel
theorem dX4_clear_8 : decode cX4_clear 8 = .ok (.getfield 9, 3) := by decide +kernel
theorem dX4_clear_11 : decode cX4_clear 11 = .ok (.iload_n 1, 1) := by decide +kernel
theorem dX4_clear_12 : decode cX4_clear 12 = .ok (.lconst 0, 1) := by decide +kernel
theorem dX4_clear_13 : decode cX4_clear 13 = .ok (.lastore, 1) := by decide +kernel
theorem dX4_clear_14 : decode cX4_clear 14 = .ok (.iinc 1 1, 3) := by decide +kernel
theorem dX4_clear_17 : decode cX4_clear 17 = .ok (.goto (-15), 3) := by decide +kernel
theorem dX4_clear_20 : decode cX4_clear 20 = .ok (.return_, 1) := by decide +kernel
def B_Row_clear_20 (mc ms : Nat) (Rt : Option zAV → zMp → Prop) (g : Nat → zKT) : zKT :=
  (i_vret mc ms Rt)
set_option maxRecDepth 20000 in
theorem s_Row_clear_20 {X : zMa} {mc ms : Nat} {Rt : Option zAV → zMp → Prop} (hC : zCx X RX4 cX4_clear 0 0 mc ms (none) false Rt) (hN : zNL X = 2) : zLe (B_Row_clear_20 mc ms Rt (zG X)) (zG X 20) :=
  (sd_vret hC dX4_clear_20)
def B_Row_clear_2 (mc ms : Nat) (Rt : Option zAV → zMp → Prop) (g : Nat → zKT) : zKT :=
  (i_il 1 (i_ic 5 (i_icge (B_Row_clear_20 mc ms Rt g) (i_al 0 (i_gf 5 0 (i_il 1 (i_lc 0 (i_las (i_inc 1 1 (g 2))))))))))
set_option maxRecDepth 20000 in
theorem s_Row_clear_2 {X : zMa} {mc ms : Nat} {Rt : Option zAV → zMp → Prop} (hC : zCx X RX4 cX4_clear 0 0 mc ms (none) false Rt) (hN : zNL X = 2) : zLe (B_Row_clear_2 mc ms Rt (zG X)) (zG X 2) :=
  (sd_il_n hC rfl dX4_clear_2 ((sd_iconst hC (by decide) dX4_clear_3 ((sd_icge hC (tgt := 20) (by decide) dX4_clear_4 (s_Row_clear_20 hC hN) ((sd_al_n hC rfl dX4_clear_7 ((sd_gf hC (ci := 5) (fk := 0) rfl wi_Row (by decide) fl_Row_9 (Or.inl rfl) dX4_clear_8 ((sd_il_n hC rfl dX4_clear_11 ((sd_lconst hC (by decide) dX4_clear_12 ((sd_las hC dX4_clear_13 ((sd_inc hC (by decide) (by rw [hN]; decide) dX4_clear_14 ((sd_goto hC (tgt := 2) (by decide) dX4_clear_17 (zLe_rfl))))))))))))))))))))
def B_Row_clear_0 (mc ms : Nat) (Rt : Option zAV → zMp → Prop) (g : Nat → zKT) : zKT :=
  (i_ic 0 (i_is 1 (g 2)))
set_option maxRecDepth 20000 in
theorem s_Row_clear_0 {X : zMa} {mc ms : Nat} {Rt : Option zAV → zMp → Prop} (hC : zCx X RX4 cX4_clear 0 0 mc ms (none) false Rt) (hN : zNL X = 2) : zLe (B_Row_clear_0 mc ms Rt (zG X)) (zG X 0) :=
  (sd_iconst hC (by decide) dX4_clear_0 ((sd_is_n hC rfl (by rw [hN]; decide) dX4_clear_1 (zLe_rfl))))
theorem c_Row_clear (l : Launch) : zCT l yX4_clear cX4_clear 2 (none) 0 0 T_Row_clear co_Row_clear := by
  intro As M Rt hT
  obtain ⟨r, q, f, rfl, hm, ⟨h1, h2⟩, hR⟩ := hT
  have hne : r ≠ q := zrow_ne ⟨h1, h2⟩
  refine zMet_of false (by decide +kernel) (fun h => by first | rfl | cases h) (Nat.le_of_ble_eq_true rfl) (fun X hN hC => ?_)
  show zG X 0 [some (.inr r), none] [] M 0 0
  have loop : zG X 2 [some (.inr r), some (.inl (.int (nI 0)))] [] (zup M q (zlo (fun j => if j < 0 then 0 else f j))) 0 0 := by
    refine five (P := fun i => zG X 2 [some (.inr r), some (.inl (.int (nI i)))] [] (zup M q (zlo (fun j => if j < i then 0 else f j))) 0 0) (fun i hi ih => ?_) ?_
    · refine s_Row_clear_2 hC hN _ _ _ _ _ ?_
      simp only [B_Row_clear_0, B_Row_clear_2, B_Row_clear_20, co_Row_clear, i_ic, i_lc, i_nul, i_il, i_ll, i_al, i_is, i_as, i_ls, i_inc, i_iadd, i_isub, i_imul, i_iand, i_ior, i_ixor, i_idiv, i_irem, i_ishl, i_ishr, i_ladd, i_lsub, i_land, i_lor, i_i2l, i_lushr, i_lshl, i_lshr, i_lcmp, i_dup, i_pop, i_dx1, i_dup2, i_ifeq, i_ifne, i_iflt, i_ifge, i_ifgt, i_ifle, i_iceq, i_icne, i_iclt, i_icge, i_icgt, i_icle, i_ifn, i_gf, i_pf, i_ial, i_bal, i_lal, i_aal, i_ias, i_las, i_bas, i_aas, i_alen, i_newa, i_new, i_anew, i_cast, i_oi, i_call, i_callV, i_callV2, i_callI, i_iret, i_zret, i_lret, i_vret, i_aret, i_mmx, i_mmn, i_gsE, i_aceq, i_no, i_acq, i_sw, zsw, zlg, zls, znl, zfg, zcs, zsp, zrc, zisn, zft, zc1, zto, Value.category, List.set_cons_zero, List.set_cons_succ, List.length_cons, List.length_nil, Option.toList, List.nil_append, List.cons_append, true_and, and_true, Nat.add_zero, Nat.zero_le, Nat.zero_add, Nat.le_refl, Nat.reduceAdd, Nat.reduceLeDiff, co0, z0, zn_0, zn_1, zn_2, zn_3, zn_4, zn_5, zn_8, zn_12, zn_24, zn_121, zn_144, zn_256, zn_300, zn_600, zn_720, zn_1204, zn_1280, zn_2400, zn_4816, zn_14400, zn_90000, h1, zup_s, zup_o hne, zup_zup]
      refine ⟨fun h => absurd ((zK (K := 5) (by decide) (n := i) (by omega)).2.1.mp h) (by omega), fun _ => ⟨hm, vp_in_nI hi (by decide), ?_⟩⟩
      rw [nI_clamp (by omega), nI_1, zul (g := fun _ => 0) rfl]
      exact ih
    · refine s_Row_clear_2 hC hN _ _ _ _ _ ?_
      simp only [B_Row_clear_0, B_Row_clear_2, B_Row_clear_20, co_Row_clear, i_ic, i_lc, i_nul, i_il, i_ll, i_al, i_is, i_as, i_ls, i_inc, i_iadd, i_isub, i_imul, i_iand, i_ior, i_ixor, i_idiv, i_irem, i_ishl, i_ishr, i_ladd, i_lsub, i_land, i_lor, i_i2l, i_lushr, i_lshl, i_lshr, i_lcmp, i_dup, i_pop, i_dx1, i_dup2, i_ifeq, i_ifne, i_iflt, i_ifge, i_ifgt, i_ifle, i_iceq, i_icne, i_iclt, i_icge, i_icgt, i_icle, i_ifn, i_gf, i_pf, i_ial, i_bal, i_lal, i_aal, i_ias, i_las, i_bas, i_aas, i_alen, i_newa, i_new, i_anew, i_cast, i_oi, i_call, i_callV, i_callV2, i_callI, i_iret, i_zret, i_lret, i_vret, i_aret, i_mmx, i_mmn, i_gsE, i_aceq, i_no, i_acq, i_sw, zsw, zlg, zls, znl, zfg, zcs, zsp, zrc, zisn, zft, zc1, zto, Value.category, List.set_cons_zero, List.set_cons_succ, List.length_cons, List.length_nil, Option.toList, List.nil_append, List.cons_append, true_and, and_true, Nat.add_zero, Nat.zero_le, Nat.zero_add, Nat.le_refl, Nat.reduceAdd, Nat.reduceLeDiff, co0, z0, zn_0, zn_1, zn_2, zn_3, zn_4, zn_5, zn_8, zn_12, zn_24, zn_121, zn_144, zn_256, zn_300, zn_600, zn_720, zn_1204, zn_1280, zn_2400, zn_4816, zn_14400, zn_90000, h1, zup_s, zup_o hne, zup_zup]
      exact ⟨fun _ => hR, fun h => absurd (by decide) h⟩
  refine s_Row_clear_0 hC hN _ _ _ _ _ ?_
  simp only [B_Row_clear_0, B_Row_clear_2, B_Row_clear_20, co_Row_clear, i_ic, i_lc, i_nul, i_il, i_ll, i_al, i_is, i_as, i_ls, i_inc, i_iadd, i_isub, i_imul, i_iand, i_ior, i_ixor, i_idiv, i_irem, i_ishl, i_ishr, i_ladd, i_lsub, i_land, i_lor, i_i2l, i_lushr, i_lshl, i_lshr, i_lcmp, i_dup, i_pop, i_dx1, i_dup2, i_ifeq, i_ifne, i_iflt, i_ifge, i_ifgt, i_ifle, i_iceq, i_icne, i_iclt, i_icge, i_icgt, i_icle, i_ifn, i_gf, i_pf, i_ial, i_bal, i_lal, i_aal, i_ias, i_las, i_bas, i_aas, i_alen, i_newa, i_new, i_anew, i_cast, i_oi, i_call, i_callV, i_callV2, i_callI, i_iret, i_zret, i_lret, i_vret, i_aret, i_mmx, i_mmn, i_gsE, i_aceq, i_no, i_acq, i_sw, zsw, zlg, zls, znl, zfg, zcs, zsp, zrc, zisn, zft, zc1, zto, Value.category, List.set_cons_zero, List.set_cons_succ, List.length_cons, List.length_nil, Option.toList, List.nil_append, List.cons_append, true_and, and_true, Nat.add_zero, Nat.zero_le, Nat.zero_add, Nat.le_refl, Nat.reduceAdd, Nat.reduceLeDiff, co0, z0, zn_0, zn_1, zn_2, zn_3, zn_4, zn_5, zn_8, zn_12, zn_24, zn_121, zn_144, zn_256, zn_300, zn_600, zn_720, zn_1204, zn_1280, zn_2400, zn_4816, zn_14400, zn_90000]
  rw [zlt0, zup_self h2] at loop
  exact loop
def rw_or (f g : Nat → Int64) : Nat → Int64 := fun j => if j < 5 then f j ||| g j else f j
def T_Row_addAll (As : List zAV) (M : zMp) (Rt : Option zAV → zMp → Prop) : Prop := ∃ r q f o p g, As = [.inr r, .inr o] ∧ zmo q ∧ q ≠ p ∧ zrow M r q f ∧ zrow M o p g ∧ Rt none (zup M q (zlo (rw_or f g)))
abbrev co_Row_addAll := co0
theorem dX4_addAll_0 : decode cX4_addAll 0 = .ok (.iconst 0, 1) := by decide +kernel
theorem dX4_addAll_1 : decode cX4_addAll 1 = .ok (.istore_n 2, 1) := by decide +kernel
theorem dX4_addAll_2 : decode cX4_addAll 2 = .ok (.iload_n 2, 1) := by decide +kernel
theorem dX4_addAll_3 : decode cX4_addAll 3 = .ok (.iconst 5, 1) := by decide +kernel
theorem dX4_addAll_4 : decode cX4_addAll 4 = .ok (.if_icmp .ge 24, 3) := by decide +kernel
theorem dX4_addAll_7 : decode cX4_addAll 7 = .ok (.aload_n 0, 1) := by decide +kernel
theorem dX4_addAll_8 : decode cX4_addAll 8 = .ok (.getfield 9, 3) := by decide +kernel
theorem dX4_addAll_11 : decode cX4_addAll 11 = .ok (.iload_n 2, 1) := by decide +kernel
theorem dX4_addAll_12 : decode cX4_addAll 12 = .ok (.dup2, 1) := by decide +kernel
theorem dX4_addAll_13 : decode cX4_addAll 13 = .ok (.laload, 1) := by decide +kernel
theorem dX4_addAll_14 : decode cX4_addAll 14 = .ok (.aload_n 1, 1) := by decide +kernel
theorem dX4_addAll_15 : decode cX4_addAll 15 = .ok (.getfield 9, 3) := by decide +kernel
theorem dX4_addAll_18 : decode cX4_addAll 18 = .ok (.iload_n 2, 1) := by decide +kernel
theorem dX4_addAll_19 : decode cX4_addAll 19 = .ok (.laload, 1) := by decide +kernel
theorem dX4_addAll_20 : decode cX4_addAll 20 = .ok (.lor, 1) := by decide +kernel
theorem dX4_addAll_21 : decode cX4_addAll 21 = .ok (.lastore, 1) := by decide +kernel
theorem dX4_addAll_22 : decode cX4_addAll 22 = .ok (.iinc 2 1, 3) := by decide +kernel
theorem dX4_addAll_25 : decode cX4_addAll 25 = .ok (.goto (-23), 3) := by decide +kernel
theorem dX4_addAll_28 : decode cX4_addAll 28 = .ok (.return_, 1) := by decide +kernel
def B_Row_addAll_28 (mc ms : Nat) (Rt : Option zAV → zMp → Prop) (g : Nat → zKT) : zKT :=
  (i_vret mc ms Rt)
set_option maxRecDepth 20000 in
theorem s_Row_addAll_28 {X : zMa} {mc ms : Nat} {Rt : Option zAV → zMp → Prop} (hC : zCx X RX4 cX4_addAll 0 0 mc ms (none) false Rt) (hN : zNL X = 3) : zLe (B_Row_addAll_28 mc ms Rt (zG X)) (zG X 28) :=
  (sd_vret hC dX4_addAll_28)
def B_Row_addAll_2 (mc ms : Nat) (Rt : Option zAV → zMp → Prop) (g : Nat → zKT) : zKT :=
  (i_il 2 (i_ic 5 (i_icge (B_Row_addAll_28 mc ms Rt g) (i_al 0 (i_gf 5 0 (i_il 2 (i_dup2 (i_lal (i_al 1 (i_gf 5 0 (i_il 2 (i_lal (i_lor (i_las (i_inc 2 1 (g 2))))))))))))))))
set_option maxRecDepth 20000 in
theorem s_Row_addAll_2 {X : zMa} {mc ms : Nat} {Rt : Option zAV → zMp → Prop} (hC : zCx X RX4 cX4_addAll 0 0 mc ms (none) false Rt) (hN : zNL X = 3) : zLe (B_Row_addAll_2 mc ms Rt (zG X)) (zG X 2) :=
  (sd_il_n hC rfl dX4_addAll_2 ((sd_iconst hC (by decide) dX4_addAll_3 ((sd_icge hC (tgt := 28) (by decide) dX4_addAll_4 (s_Row_addAll_28 hC hN) ((sd_al_n hC rfl dX4_addAll_7 ((sd_gf hC (ci := 5) (fk := 0) rfl wi_Row (by decide) fl_Row_9 (Or.inl rfl) dX4_addAll_8 ((sd_il_n hC rfl dX4_addAll_11 ((sd_dup2 hC dX4_addAll_12 ((sd_lal hC dX4_addAll_13 ((sd_al_n hC rfl dX4_addAll_14 ((sd_gf hC (ci := 5) (fk := 0) rfl wi_Row (by decide) fl_Row_9 (Or.inl rfl) dX4_addAll_15 ((sd_il_n hC rfl dX4_addAll_18 ((sd_lal hC dX4_addAll_19 ((sd_lor hC dX4_addAll_20 ((sd_las hC dX4_addAll_21 ((sd_inc hC (by decide) (by rw [hN]; decide) dX4_addAll_22 ((sd_goto hC (tgt := 2) (by decide) dX4_addAll_25 (zLe_rfl))))))))))))))))))))))))))))))))
def B_Row_addAll_0 (mc ms : Nat) (Rt : Option zAV → zMp → Prop) (g : Nat → zKT) : zKT :=
  (i_ic 0 (i_is 2 (g 2)))
set_option maxRecDepth 20000 in
theorem s_Row_addAll_0 {X : zMa} {mc ms : Nat} {Rt : Option zAV → zMp → Prop} (hC : zCx X RX4 cX4_addAll 0 0 mc ms (none) false Rt) (hN : zNL X = 3) : zLe (B_Row_addAll_0 mc ms Rt (zG X)) (zG X 0) :=
  (sd_iconst hC (by decide) dX4_addAll_0 ((sd_is_n hC rfl (by rw [hN]; decide) dX4_addAll_1 (zLe_rfl))))
theorem c_Row_addAll (l : Launch) : zCT l yX4_addAll cX4_addAll 3 (none) 0 0 T_Row_addAll co_Row_addAll := by
  intro As M Rt hT
  obtain ⟨r, q, f, o, p, g, rfl, hm, hqp, ⟨h1, h2⟩, ⟨h3, h4⟩, hR⟩ := hT
  have hne : r ≠ q := zrow_ne ⟨h1, h2⟩
  have hne2 : o ≠ q := zdf h3 h2 (by simp)
  refine zMet_of false (by decide +kernel) (fun h => by first | rfl | cases h) (Nat.le_of_ble_eq_true rfl) (fun X hN hC => ?_)
  show zG X 0 [some (.inr r), some (.inr o), none] [] M 0 0
  have loop : zG X 2 [some (.inr r), some (.inr o), some (.inl (.int (nI 0)))] [] (zup M q (zlo (fun j => if j < 0 then f j ||| g j else f j))) 0 0 := by
    refine five (P := fun i => zG X 2 [some (.inr r), some (.inr o), some (.inl (.int (nI i)))] [] (zup M q (zlo (fun j => if j < i then f j ||| g j else f j))) 0 0) (fun i hi ih => ?_) ?_
    · refine s_Row_addAll_2 hC hN _ _ _ _ _ ?_
      simp only [B_Row_addAll_0, B_Row_addAll_2, B_Row_addAll_28, co_Row_addAll, i_ic, i_lc, i_nul, i_il, i_ll, i_al, i_is, i_as, i_ls, i_inc, i_iadd, i_isub, i_imul, i_iand, i_ior, i_ixor, i_idiv, i_irem, i_ishl, i_ishr, i_ladd, i_lsub, i_land, i_lor, i_i2l, i_lushr, i_lshl, i_lshr, i_lcmp, i_dup, i_pop, i_dx1, i_dup2, i_ifeq, i_ifne, i_iflt, i_ifge, i_ifgt, i_ifle, i_iceq, i_icne, i_iclt, i_icge, i_icgt, i_icle, i_ifn, i_gf, i_pf, i_ial, i_bal, i_lal, i_aal, i_ias, i_las, i_bas, i_aas, i_alen, i_newa, i_new, i_anew, i_cast, i_oi, i_call, i_callV, i_callV2, i_callI, i_iret, i_zret, i_lret, i_vret, i_aret, i_mmx, i_mmn, i_gsE, i_aceq, i_no, i_acq, i_sw, zsw, zlg, zls, znl, zfg, zcs, zsp, zrc, zisn, zft, zc1, zto, Value.category, List.set_cons_zero, List.set_cons_succ, List.length_cons, List.length_nil, Option.toList, List.nil_append, List.cons_append, true_and, and_true, Nat.add_zero, Nat.zero_le, Nat.zero_add, Nat.le_refl, Nat.reduceAdd, Nat.reduceLeDiff, co0, z0, zn_0, zn_1, zn_2, zn_3, zn_4, zn_5, zn_8, zn_12, zn_24, zn_121, zn_144, zn_256, zn_300, zn_600, zn_720, zn_1204, zn_1280, zn_2400, zn_4816, zn_14400, zn_90000, h1, h3, h4, zup_s, zup_o hne, zup_o hne2, zup_o (Ne.symm hqp), zup_zup]
      have hin : vp_in (nI i) 5 := vp_in_nI hi (by decide)
      refine ⟨fun h => absurd ((zK (K := 5) (by decide) (n := i) (by omega)).2.1.mp h) (by omega), fun _ => ⟨hin, hin, hm, hin, ?_⟩⟩
      rw [nI_clamp (by omega), nI_1, if_neg (Nat.lt_irrefl i), zul (g := fun j => f j ||| g j) rfl]
      exact ih
    · refine s_Row_addAll_2 hC hN _ _ _ _ _ ?_
      simp only [B_Row_addAll_0, B_Row_addAll_2, B_Row_addAll_28, co_Row_addAll, i_ic, i_lc, i_nul, i_il, i_ll, i_al, i_is, i_as, i_ls, i_inc, i_iadd, i_isub, i_imul, i_iand, i_ior, i_ixor, i_idiv, i_irem, i_ishl, i_ishr, i_ladd, i_lsub, i_land, i_lor, i_i2l, i_lushr, i_lshl, i_lshr, i_lcmp, i_dup, i_pop, i_dx1, i_dup2, i_ifeq, i_ifne, i_iflt, i_ifge, i_ifgt, i_ifle, i_iceq, i_icne, i_iclt, i_icge, i_icgt, i_icle, i_ifn, i_gf, i_pf, i_ial, i_bal, i_lal, i_aal, i_ias, i_las, i_bas, i_aas, i_alen, i_newa, i_new, i_anew, i_cast, i_oi, i_call, i_callV, i_callV2, i_callI, i_iret, i_zret, i_lret, i_vret, i_aret, i_mmx, i_mmn, i_gsE, i_aceq, i_no, i_acq, i_sw, zsw, zlg, zls, znl, zfg, zcs, zsp, zrc, zisn, zft, zc1, zto, Value.category, List.set_cons_zero, List.set_cons_succ, List.length_cons, List.length_nil, Option.toList, List.nil_append, List.cons_append, true_and, and_true, Nat.add_zero, Nat.zero_le, Nat.zero_add, Nat.le_refl, Nat.reduceAdd, Nat.reduceLeDiff, co0, z0, zn_0, zn_1, zn_2, zn_3, zn_4, zn_5, zn_8, zn_12, zn_24, zn_121, zn_144, zn_256, zn_300, zn_600, zn_720, zn_1204, zn_1280, zn_2400, zn_4816, zn_14400, zn_90000, h1, zup_s, zup_o hne, zup_zup]
      exact ⟨fun _ => hR, fun h => absurd (by decide) h⟩
  refine s_Row_addAll_0 hC hN _ _ _ _ _ ?_
  simp only [B_Row_addAll_0, B_Row_addAll_2, B_Row_addAll_28, co_Row_addAll, i_ic, i_lc, i_nul, i_il, i_ll, i_al, i_is, i_as, i_ls, i_inc, i_iadd, i_isub, i_imul, i_iand, i_ior, i_ixor, i_idiv, i_irem, i_ishl, i_ishr, i_ladd, i_lsub, i_land, i_lor, i_i2l, i_lushr, i_lshl, i_lshr, i_lcmp, i_dup, i_pop, i_dx1, i_dup2, i_ifeq, i_ifne, i_iflt, i_ifge, i_ifgt, i_ifle, i_iceq, i_icne, i_iclt, i_icge, i_icgt, i_icle, i_ifn, i_gf, i_pf, i_ial, i_bal, i_lal, i_aal, i_ias, i_las, i_bas, i_aas, i_alen, i_newa, i_new, i_anew, i_cast, i_oi, i_call, i_callV, i_callV2, i_callI, i_iret, i_zret, i_lret, i_vret, i_aret, i_mmx, i_mmn, i_gsE, i_aceq, i_no, i_acq, i_sw, zsw, zlg, zls, znl, zfg, zcs, zsp, zrc, zisn, zft, zc1, zto, Value.category, List.set_cons_zero, List.set_cons_succ, List.length_cons, List.length_nil, Option.toList, List.nil_append, List.cons_append, true_and, and_true, Nat.add_zero, Nat.zero_le, Nat.zero_add, Nat.le_refl, Nat.reduceAdd, Nat.reduceLeDiff, co0, z0, zn_0, zn_1, zn_2, zn_3, zn_4, zn_5, zn_8, zn_12, zn_24, zn_121, zn_144, zn_256, zn_300, zn_600, zn_720, zn_1204, zn_1280, zn_2400, zn_4816, zn_14400, zn_90000]
  rw [zlt0, zup_self h2] at loop
  exact loop
def rw_set (f g : Nat → Int64) : Nat → Int64 := fun j => if j < 5 then g j else f j
def T_Row_set (As : List zAV) (M : zMp) (Rt : Option zAV → zMp → Prop) : Prop := ∃ r q f o p g, As = [.inr r, .inr o] ∧ zmo q ∧ q ≠ p ∧ zrow M r q f ∧ zrow M o p g ∧ Rt none (zup M q (zlo (rw_set f g)))
abbrev co_Row_set := co0
theorem dX4_set_0 : decode cX4_set 0 = .ok (.iconst 0, 1) := by decide +kernel
theorem dX4_set_1 : decode cX4_set 1 = .ok (.istore_n 2, 1) := by decide +kernel
theorem dX4_set_2 : decode cX4_set 2 = .ok (.iload_n 2, 1) := by decide +kernel
theorem dX4_set_3 : decode cX4_set 3 = .ok (.iconst 5, 1) := by decide +kernel
theorem dX4_set_4 : decode cX4_set 4 = .ok (.if_icmp .ge 21, 3) := by decide +kernel
theorem dX4_set_7 : decode cX4_set 7 = .ok (.aload_n 0, 1) := by decide +kernel
theorem dX4_set_8 : decode cX4_set 8 = .ok (.getfield 9, 3) := by decide +kernel
theorem dX4_set_11 : decode cX4_set 11 = .ok (.iload_n 2, 1) := by decide +kernel
theorem dX4_set_12 : decode cX4_set 12 = .ok (.aload_n 1, 1) := by decide +kernel
theorem dX4_set_13 : decode cX4_set 13 = .ok (.getfield 9, 3) := by decide +kernel
theorem dX4_set_16 : decode cX4_set 16 = .ok (.iload_n 2, 1) := by decide +kernel
theorem dX4_set_17 : decode cX4_set 17 = .ok (.laload, 1) := by decide +kernel
theorem dX4_set_18 : decode cX4_set 18 = .ok (.lastore, 1) := by decide +kernel
theorem dX4_set_19 : decode cX4_set 19 = .ok (.iinc 2 1, 3) := by decide +kernel
theorem dX4_set_22 : decode cX4_set 22 = .ok (.goto (-20), 3) := by decide +kernel
theorem dX4_set_25 : decode cX4_set 25 = .ok (.return_, 1) := by decide +kernel
def B_Row_set_25 (mc ms : Nat) (Rt : Option zAV → zMp → Prop) (g : Nat → zKT) : zKT :=
  (i_vret mc ms Rt)
set_option maxRecDepth 20000 in
theorem s_Row_set_25 {X : zMa} {mc ms : Nat} {Rt : Option zAV → zMp → Prop} (hC : zCx X RX4 cX4_set 0 0 mc ms (none) false Rt) (hN : zNL X = 3) : zLe (B_Row_set_25 mc ms Rt (zG X)) (zG X 25) :=
  (sd_vret hC dX4_set_25)
def B_Row_set_2 (mc ms : Nat) (Rt : Option zAV → zMp → Prop) (g : Nat → zKT) : zKT :=
  (i_il 2 (i_ic 5 (i_icge (B_Row_set_25 mc ms Rt g) (i_al 0 (i_gf 5 0 (i_il 2 (i_al 1 (i_gf 5 0 (i_il 2 (i_lal (i_las (i_inc 2 1 (g 2)))))))))))))
set_option maxRecDepth 20000 in
theorem s_Row_set_2 {X : zMa} {mc ms : Nat} {Rt : Option zAV → zMp → Prop} (hC : zCx X RX4 cX4_set 0 0 mc ms (none) false Rt) (hN : zNL X = 3) : zLe (B_Row_set_2 mc ms Rt (zG X)) (zG X 2) :=
  (sd_il_n hC rfl dX4_set_2 ((sd_iconst hC (by decide) dX4_set_3 ((sd_icge hC (tgt := 25) (by decide) dX4_set_4 (s_Row_set_25 hC hN) ((sd_al_n hC rfl dX4_set_7 ((sd_gf hC (ci := 5) (fk := 0) rfl wi_Row (by decide) fl_Row_9 (Or.inl rfl) dX4_set_8 ((sd_il_n hC rfl dX4_set_11 ((sd_al_n hC rfl dX4_set_12 ((sd_gf hC (ci := 5) (fk := 0) rfl wi_Row (by decide) fl_Row_9 (Or.inl rfl) dX4_set_13 ((sd_il_n hC rfl dX4_set_16 ((sd_lal hC dX4_set_17 ((sd_las hC dX4_set_18 ((sd_inc hC (by decide) (by rw [hN]; decide) dX4_set_19 ((sd_goto hC (tgt := 2) (by decide) dX4_set_22 (zLe_rfl))))))))))))))))))))))))))
def B_Row_set_0 (mc ms : Nat) (Rt : Option zAV → zMp → Prop) (g : Nat → zKT) : zKT :=
  (i_ic 0 (i_is 2 (g 2)))
set_option maxRecDepth 20000 in
theorem s_Row_set_0 {X : zMa} {mc ms : Nat} {Rt : Option zAV → zMp → Prop} (hC : zCx X RX4 cX4_set 0 0 mc ms (none) false Rt) (hN : zNL X = 3) : zLe (B_Row_set_0 mc ms Rt (zG X)) (zG X 0) :=
  (sd_iconst hC (by decide) dX4_set_0 ((sd_is_n hC rfl (by rw [hN]; decide) dX4_set_1 (zLe_rfl))))
theorem c_Row_set (l : Launch) : zCT l yX4_set cX4_set 3 (none) 0 0 T_Row_set co_Row_set := by
  intro As M Rt hT
  obtain ⟨r, q, f, o, p, g, rfl, hm, hqp, ⟨h1, h2⟩, ⟨h3, h4⟩, hR⟩ := hT
  have hne : r ≠ q := zrow_ne ⟨h1, h2⟩
  have hne2 : o ≠ q := zdf h3 h2 (by simp)
  refine zMet_of false (by decide +kernel) (fun h => by first | rfl | cases h) (Nat.le_of_ble_eq_true rfl) (fun X hN hC => ?_)
  show zG X 0 [some (.inr r), some (.inr o), none] [] M 0 0
  have loop : zG X 2 [some (.inr r), some (.inr o), some (.inl (.int (nI 0)))] [] (zup M q (zlo (fun j => if j < 0 then g j else f j))) 0 0 := by
    refine five (P := fun i => zG X 2 [some (.inr r), some (.inr o), some (.inl (.int (nI i)))] [] (zup M q (zlo (fun j => if j < i then g j else f j))) 0 0) (fun i hi ih => ?_) ?_
    · refine s_Row_set_2 hC hN _ _ _ _ _ ?_
      simp only [B_Row_set_0, B_Row_set_2, B_Row_set_25, co_Row_set, i_ic, i_lc, i_nul, i_il, i_ll, i_al, i_is, i_as, i_ls, i_inc, i_iadd, i_isub, i_imul, i_iand, i_ior, i_ixor, i_idiv, i_irem, i_ishl, i_ishr, i_ladd, i_lsub, i_land, i_lor, i_i2l, i_lushr, i_lshl, i_lshr, i_lcmp, i_dup, i_pop, i_dx1, i_dup2, i_ifeq, i_ifne, i_iflt, i_ifge, i_ifgt, i_ifle, i_iceq, i_icne, i_iclt, i_icge, i_icgt, i_icle, i_ifn, i_gf, i_pf, i_ial, i_bal, i_lal, i_aal, i_ias, i_las, i_bas, i_aas, i_alen, i_newa, i_new, i_anew, i_cast, i_oi, i_call, i_callV, i_callV2, i_callI, i_iret, i_zret, i_lret, i_vret, i_aret, i_mmx, i_mmn, i_gsE, i_aceq, i_no, i_acq, i_sw, zsw, zlg, zls, znl, zfg, zcs, zsp, zrc, zisn, zft, zc1, zto, Value.category, List.set_cons_zero, List.set_cons_succ, List.length_cons, List.length_nil, Option.toList, List.nil_append, List.cons_append, true_and, and_true, Nat.add_zero, Nat.zero_le, Nat.zero_add, Nat.le_refl, Nat.reduceAdd, Nat.reduceLeDiff, co0, z0, zn_0, zn_1, zn_2, zn_3, zn_4, zn_5, zn_8, zn_12, zn_24, zn_121, zn_144, zn_256, zn_300, zn_600, zn_720, zn_1204, zn_1280, zn_2400, zn_4816, zn_14400, zn_90000, h1, h3, h4, zup_s, zup_o hne, zup_o hne2, zup_o (Ne.symm hqp), zup_zup]
      have hin : vp_in (nI i) 5 := vp_in_nI hi (by decide)
      refine ⟨fun h => absurd ((zK (K := 5) (by decide) (n := i) (by omega)).2.1.mp h) (by omega), fun _ => ⟨hin, hm, hin, ?_⟩⟩
      rw [nI_clamp (by omega), nI_1, zul (g := g) rfl]
      exact ih
    · refine s_Row_set_2 hC hN _ _ _ _ _ ?_
      simp only [B_Row_set_0, B_Row_set_2, B_Row_set_25, co_Row_set, i_ic, i_lc, i_nul, i_il, i_ll, i_al, i_is, i_as, i_ls, i_inc, i_iadd, i_isub, i_imul, i_iand, i_ior, i_ixor, i_idiv, i_irem, i_ishl, i_ishr, i_ladd, i_lsub, i_land, i_lor, i_i2l, i_lushr, i_lshl, i_lshr, i_lcmp, i_dup, i_pop, i_dx1, i_dup2, i_ifeq, i_ifne, i_iflt, i_ifge, i_ifgt, i_ifle, i_iceq, i_icne, i_iclt, i_icge, i_icgt, i_icle, i_ifn, i_gf, i_pf, i_ial, i_bal, i_lal, i_aal, i_ias, i_las, i_bas, i_aas, i_alen, i_newa, i_new, i_anew, i_cast, i_oi, i_call, i_callV, i_callV2, i_callI, i_iret, i_zret, i_lret, i_vret, i_aret, i_mmx, i_mmn, i_gsE, i_aceq, i_no, i_acq, i_sw, zsw, zlg, zls, znl, zfg, zcs, zsp, zrc, zisn, zft, zc1, zto, Value.category, List.set_cons_zero, List.set_cons_succ, List.length_cons, List.length_nil, Option.toList, List.nil_append, List.cons_append, true_and, and_true, Nat.add_zero, Nat.zero_le, Nat.zero_add, Nat.le_refl, Nat.reduceAdd, Nat.reduceLeDiff, co0, z0, zn_0, zn_1, zn_2, zn_3, zn_4, zn_5, zn_8, zn_12, zn_24, zn_121, zn_144, zn_256, zn_300, zn_600, zn_720, zn_1204, zn_1280, zn_2400, zn_4816, zn_14400, zn_90000, h1, zup_s, zup_o hne, zup_zup]
      exact ⟨fun _ => hR, fun h => absurd (by decide) h⟩
  refine s_Row_set_0 hC hN _ _ _ _ _ ?_
  simp only [B_Row_set_0, B_Row_set_2, B_Row_set_25, co_Row_set, i_ic, i_lc, i_nul, i_il, i_ll, i_al, i_is, i_as, i_ls, i_inc, i_iadd, i_isub, i_imul, i_iand, i_ior, i_ixor, i_idiv, i_irem, i_ishl, i_ishr, i_ladd, i_lsub, i_land, i_lor, i_i2l, i_lushr, i_lshl, i_lshr, i_lcmp, i_dup, i_pop, i_dx1, i_dup2, i_ifeq, i_ifne, i_iflt, i_ifge, i_ifgt, i_ifle, i_iceq, i_icne, i_iclt, i_icge, i_icgt, i_icle, i_ifn, i_gf, i_pf, i_ial, i_bal, i_lal, i_aal, i_ias, i_las, i_bas, i_aas, i_alen, i_newa, i_new, i_anew, i_cast, i_oi, i_call, i_callV, i_callV2, i_callI, i_iret, i_zret, i_lret, i_vret, i_aret, i_mmx, i_mmn, i_gsE, i_aceq, i_no, i_acq, i_sw, zsw, zlg, zls, znl, zfg, zcs, zsp, zrc, zisn, zft, zc1, zto, Value.category, List.set_cons_zero, List.set_cons_succ, List.length_cons, List.length_nil, Option.toList, List.nil_append, List.cons_append, true_and, and_true, Nat.add_zero, Nat.zero_le, Nat.zero_add, Nat.le_refl, Nat.reduceAdd, Nat.reduceLeDiff, co0, z0, zn_0, zn_1, zn_2, zn_3, zn_4, zn_5, zn_8, zn_12, zn_24, zn_121, zn_144, zn_256, zn_300, zn_600, zn_720, zn_1204, zn_1280, zn_2400, zn_4816, zn_14400, zn_90000]
  rw [zlt0, zup_self h2] at loop
  exact loop
noncomputable def rw_meets (f g : Nat → Int64) : Bool := zd (∃ i, i < 5 ∧ ¬ (f i &&& g i) = 0)
def T_Row_meets (As : List zAV) (M : zMp) (Rt : Option zAV → zMp → Prop) : Prop := ∃ r q f o p g, As = [.inr r, .inr o] ∧ zrow M r q f ∧ zrow M o p g ∧ Rt (some (.inl (.int (zb (rw_meets f g))))) M
abbrev co_Row_meets := co0
theorem dX4_meets_0 : decode cX4_meets 0 = .ok (.iconst 0, 1) := by decide +kernel
theorem dX4_meets_1 : decode cX4_meets 1 = .ok (.istore_n 2, 1) := by decide +kernel
theorem dX4_meets_2 : decode cX4_meets 2 = .ok (.iload_n 2, 1) := by decide +kernel
theorem dX4_meets_3 : decode cX4_meets 3 = .ok (.iconst 5, 1) := by decide +kernel
theorem dX4_meets_4 : decode cX4_meets 4 = .ok (.if_icmp .ge 29, 3) := by decide +kernel
theorem dX4_meets_7 : decode cX4_meets 7 = .ok (.aload_n 0, 1) := by decide +kernel
theorem dX4_meets_8 : decode cX4_meets 8 = .ok (.getfield 9, 3) := by decide +kernel
theorem dX4_meets_11 : decode cX4_meets 11 = .ok (.iload_n 2, 1) := by decide +kernel
theorem dX4_meets_12 : decode cX4_meets 12 = .ok (.laload, 1) := by decide +kernel
theorem dX4_meets_13 : decode cX4_meets 13 = .ok (.aload_n 1, 1) := by decide +kernel
theorem dX4_meets_14 : decode cX4_meets 14 = .ok (.getfield 9, 3) := by decide +kernel
theorem dX4_meets_17 : decode cX4_meets 17 = .ok (.iload_n 2, 1) := by decide +kernel
theorem dX4_meets_18 : decode cX4_meets 18 = .ok (.laload, 1) := by decide +kernel
theorem dX4_meets_19 : decode cX4_meets 19 = .ok (.land, 1) := by decide +kernel
theorem dX4_meets_20 : decode cX4_meets 20 = .ok (.lconst 0, 1) := by decide +kernel
theorem dX4_meets_21 : decode cX4_meets 21 = .ok (.lcmp, 1) := by decide +kernel
theorem dX4_meets_22 : decode cX4_meets 22 = .ok (.ifCond .eq 5, 3) := by decide +kernel
theorem dX4_meets_25 : decode cX4_meets 25 = .ok (.iconst 1, 1) := by decide +kernel
theorem dX4_meets_26 : decode cX4_meets 26 = .ok (.ireturn, 1) := by decide +kernel
theorem dX4_meets_27 : decode cX4_meets 27 = .ok (.iinc 2 1, 3) := by decide +kernel
theorem dX4_meets_30 : decode cX4_meets 30 = .ok (.goto (-28), 3) := by decide +kernel
theorem dX4_meets_33 : decode cX4_meets 33 = .ok (.iconst 0, 1) := by decide +kernel
theorem dX4_meets_34 : decode cX4_meets 34 = .ok (.ireturn, 1) := by decide +kernel
def B_Row_meets_33 (mc ms : Nat) (Rt : Option zAV → zMp → Prop) (g : Nat → zKT) : zKT :=
  (i_ic 0 (i_zret mc ms Rt))
set_option maxRecDepth 20000 in
theorem s_Row_meets_33 {X : zMa} {mc ms : Nat} {Rt : Option zAV → zMp → Prop} (hC : zCx X RX4 cX4_meets 0 0 mc ms (some .boolean) false Rt) (hN : zNL X = 3) : zLe (B_Row_meets_33 mc ms Rt (zG X)) (zG X 33) :=
  (sd_iconst hC (by decide) dX4_meets_33 ((sd_zret hC dX4_meets_34)))
def B_Row_meets_27 (mc ms : Nat) (Rt : Option zAV → zMp → Prop) (g : Nat → zKT) : zKT :=
  (i_inc 2 1 (g 2))
set_option maxRecDepth 20000 in
theorem s_Row_meets_27 {X : zMa} {mc ms : Nat} {Rt : Option zAV → zMp → Prop} (hC : zCx X RX4 cX4_meets 0 0 mc ms (some .boolean) false Rt) (hN : zNL X = 3) : zLe (B_Row_meets_27 mc ms Rt (zG X)) (zG X 27) :=
  (sd_inc hC (by decide) (by rw [hN]; decide) dX4_meets_27 ((sd_goto hC (tgt := 2) (by decide) dX4_meets_30 (zLe_rfl))))
def B_Row_meets_2 (mc ms : Nat) (Rt : Option zAV → zMp → Prop) (g : Nat → zKT) : zKT :=
  (i_il 2 (i_ic 5 (i_icge (B_Row_meets_33 mc ms Rt g) (i_al 0 (i_gf 5 0 (i_il 2 (i_lal (i_al 1 (i_gf 5 0 (i_il 2 (i_lal (i_land (i_lc 0 (i_lcmp (i_ifeq (B_Row_meets_27 mc ms Rt g) (i_ic 1 (i_zret mc ms Rt)))))))))))))))))
set_option maxRecDepth 20000 in
theorem s_Row_meets_2 {X : zMa} {mc ms : Nat} {Rt : Option zAV → zMp → Prop} (hC : zCx X RX4 cX4_meets 0 0 mc ms (some .boolean) false Rt) (hN : zNL X = 3) : zLe (B_Row_meets_2 mc ms Rt (zG X)) (zG X 2) :=
  (sd_il_n hC rfl dX4_meets_2 ((sd_iconst hC (by decide) dX4_meets_3 ((sd_icge hC (tgt := 33) (by decide) dX4_meets_4 (s_Row_meets_33 hC hN) ((sd_al_n hC rfl dX4_meets_7 ((sd_gf hC (ci := 5) (fk := 0) rfl wi_Row (by decide) fl_Row_9 (Or.inl rfl) dX4_meets_8 ((sd_il_n hC rfl dX4_meets_11 ((sd_lal hC dX4_meets_12 ((sd_al_n hC rfl dX4_meets_13 ((sd_gf hC (ci := 5) (fk := 0) rfl wi_Row (by decide) fl_Row_9 (Or.inl rfl) dX4_meets_14 ((sd_il_n hC rfl dX4_meets_17 ((sd_lal hC dX4_meets_18 ((sd_land hC dX4_meets_19 ((sd_lconst hC (by decide) dX4_meets_20 ((sd_lcmp hC dX4_meets_21 ((sd_ifeq hC (tgt := 27) (by decide) dX4_meets_22 (s_Row_meets_27 hC hN) ((sd_iconst hC (by decide) dX4_meets_25 ((sd_zret hC dX4_meets_26)))))))))))))))))))))))))))))))))
def B_Row_meets_0 (mc ms : Nat) (Rt : Option zAV → zMp → Prop) (g : Nat → zKT) : zKT :=
  (i_ic 0 (i_is 2 (g 2)))
set_option maxRecDepth 20000 in
theorem s_Row_meets_0 {X : zMa} {mc ms : Nat} {Rt : Option zAV → zMp → Prop} (hC : zCx X RX4 cX4_meets 0 0 mc ms (some .boolean) false Rt) (hN : zNL X = 3) : zLe (B_Row_meets_0 mc ms Rt (zG X)) (zG X 0) :=
  (sd_iconst hC (by decide) dX4_meets_0 ((sd_is_n hC rfl (by rw [hN]; decide) dX4_meets_1 (zLe_rfl))))
theorem c_Row_meets (l : Launch) : zCT l yX4_meets cX4_meets 3 (some .boolean) 0 0 T_Row_meets co_Row_meets := by
  intro As M Rt hT
  obtain ⟨r, q, f, o, p, g, rfl, ⟨h1, h2⟩, ⟨h3, h4⟩, hR⟩ := hT
  refine zMet_of false (by decide +kernel) (fun h => by first | rfl | cases h) (Nat.le_of_ble_eq_true rfl) (fun X hN hC => ?_)
  show zG X 0 [some (.inr r), some (.inr o), none] [] M 0 0
  have loop : (∀ j, j < 0 → (f j &&& g j) = 0) → zG X 2 [some (.inr r), some (.inr o), some (.inl (.int (nI 0)))] [] M 0 0 := by
    refine five (P := fun i => (∀ j, j < i → (f j &&& g j) = 0) → zG X 2 [some (.inr r), some (.inr o), some (.inl (.int (nI i)))] [] M 0 0) (fun i hi ih hp => ?_) (fun hp => ?_)
    · refine s_Row_meets_2 hC hN _ _ _ _ _ ?_
      simp only [B_Row_meets_0, B_Row_meets_2, B_Row_meets_27, B_Row_meets_33, co_Row_meets, i_ic, i_lc, i_nul, i_il, i_ll, i_al, i_is, i_as, i_ls, i_inc, i_iadd, i_isub, i_imul, i_iand, i_ior, i_ixor, i_idiv, i_irem, i_ishl, i_ishr, i_ladd, i_lsub, i_land, i_lor, i_i2l, i_lushr, i_lshl, i_lshr, i_lcmp, i_dup, i_pop, i_dx1, i_dup2, i_ifeq, i_ifne, i_iflt, i_ifge, i_ifgt, i_ifle, i_iceq, i_icne, i_iclt, i_icge, i_icgt, i_icle, i_ifn, i_gf, i_pf, i_ial, i_bal, i_lal, i_aal, i_ias, i_las, i_bas, i_aas, i_alen, i_newa, i_new, i_anew, i_cast, i_oi, i_call, i_callV, i_callV2, i_callI, i_iret, i_zret, i_lret, i_vret, i_aret, i_mmx, i_mmn, i_gsE, i_aceq, i_no, i_acq, i_sw, zsw, zlg, zls, znl, zfg, zcs, zsp, zrc, zisn, zft, zc1, zto, Value.category, List.set_cons_zero, List.set_cons_succ, List.length_cons, List.length_nil, Option.toList, List.nil_append, List.cons_append, true_and, and_true, Nat.add_zero, Nat.zero_le, Nat.zero_add, Nat.le_refl, Nat.reduceAdd, Nat.reduceLeDiff, co0, z0, zn_0, zn_1, zn_2, zn_3, zn_4, zn_5, zn_8, zn_12, zn_24, zn_121, zn_144, zn_256, zn_300, zn_600, zn_720, zn_1204, zn_1280, zn_2400, zn_4816, zn_14400, zn_90000, h1, h2, h3, h4]
      have hin : vp_in (nI i) 5 := vp_in_nI hi (by decide)
      rw [nI_clamp (by omega), nI_1, lg_cmp_eq]
      refine ⟨fun h => absurd ((zK (K := 5) (by decide) (n := i) (by omega)).2.1.mp h) (by omega), fun _ => ⟨hin, hin, fun hz => ih (lt_s hp hz), fun hz => ⟨Or.inr trivial, ?_⟩⟩⟩
      have : rw_meets f g = true := zd_t ⟨i, hi, hz⟩
      rw [this] at hR
      exact hR
    · refine s_Row_meets_2 hC hN _ _ _ _ _ ?_
      simp only [B_Row_meets_0, B_Row_meets_2, B_Row_meets_27, B_Row_meets_33, co_Row_meets, i_ic, i_lc, i_nul, i_il, i_ll, i_al, i_is, i_as, i_ls, i_inc, i_iadd, i_isub, i_imul, i_iand, i_ior, i_ixor, i_idiv, i_irem, i_ishl, i_ishr, i_ladd, i_lsub, i_land, i_lor, i_i2l, i_lushr, i_lshl, i_lshr, i_lcmp, i_dup, i_pop, i_dx1, i_dup2, i_ifeq, i_ifne, i_iflt, i_ifge, i_ifgt, i_ifle, i_iceq, i_icne, i_iclt, i_icge, i_icgt, i_icle, i_ifn, i_gf, i_pf, i_ial, i_bal, i_lal, i_aal, i_ias, i_las, i_bas, i_aas, i_alen, i_newa, i_new, i_anew, i_cast, i_oi, i_call, i_callV, i_callV2, i_callI, i_iret, i_zret, i_lret, i_vret, i_aret, i_mmx, i_mmn, i_gsE, i_aceq, i_no, i_acq, i_sw, zsw, zlg, zls, znl, zfg, zcs, zsp, zrc, zisn, zft, zc1, zto, Value.category, List.set_cons_zero, List.set_cons_succ, List.length_cons, List.length_nil, Option.toList, List.nil_append, List.cons_append, true_and, and_true, Nat.add_zero, Nat.zero_le, Nat.zero_add, Nat.le_refl, Nat.reduceAdd, Nat.reduceLeDiff, co0, z0, zn_0, zn_1, zn_2, zn_3, zn_4, zn_5, zn_8, zn_12, zn_24, zn_121, zn_144, zn_256, zn_300, zn_600, zn_720, zn_1204, zn_1280, zn_2400, zn_4816, zn_14400, zn_90000, h1, h2, h3, h4]
      refine ⟨fun _ => ⟨Or.inl trivial, ?_⟩, fun h => absurd (by decide) h⟩
      have : rw_meets f g = false := zd_f (fun ⟨i, hi, hz⟩ => hz (hp i hi))
      rw [this] at hR
      exact hR
  refine s_Row_meets_0 hC hN _ _ _ _ _ ?_
  simp only [B_Row_meets_0, B_Row_meets_2, B_Row_meets_27, B_Row_meets_33, co_Row_meets, i_ic, i_lc, i_nul, i_il, i_ll, i_al, i_is, i_as, i_ls, i_inc, i_iadd, i_isub, i_imul, i_iand, i_ior, i_ixor, i_idiv, i_irem, i_ishl, i_ishr, i_ladd, i_lsub, i_land, i_lor, i_i2l, i_lushr, i_lshl, i_lshr, i_lcmp, i_dup, i_pop, i_dx1, i_dup2, i_ifeq, i_ifne, i_iflt, i_ifge, i_ifgt, i_ifle, i_iceq, i_icne, i_iclt, i_icge, i_icgt, i_icle, i_ifn, i_gf, i_pf, i_ial, i_bal, i_lal, i_aal, i_ias, i_las, i_bas, i_aas, i_alen, i_newa, i_new, i_anew, i_cast, i_oi, i_call, i_callV, i_callV2, i_callI, i_iret, i_zret, i_lret, i_vret, i_aret, i_mmx, i_mmn, i_gsE, i_aceq, i_no, i_acq, i_sw, zsw, zlg, zls, znl, zfg, zcs, zsp, zrc, zisn, zft, zc1, zto, Value.category, List.set_cons_zero, List.set_cons_succ, List.length_cons, List.length_nil, Option.toList, List.nil_append, List.cons_append, true_and, and_true, Nat.add_zero, Nat.zero_le, Nat.zero_add, Nat.le_refl, Nat.reduceAdd, Nat.reduceLeDiff, co0, z0, zn_0, zn_1, zn_2, zn_3, zn_4, zn_5, zn_8, zn_12, zn_24, zn_121, zn_144, zn_256, zn_300, zn_600, zn_720, zn_1204, zn_1280, zn_2400, zn_4816, zn_14400, zn_90000]
  exact loop (fun j hj => absurd hj (Nat.not_lt_zero j))
noncomputable def rw_same (f g : Nat → Int64) : Bool := zd (∀ i, i < 5 → f i = g i)
def T_Row_sameAs (As : List zAV) (M : zMp) (Rt : Option zAV → zMp → Prop) : Prop := ∃ r q f o p g, As = [.inr r, .inr o] ∧ zrow M r q f ∧ zrow M o p g ∧ Rt (some (.inl (.int (zb (rw_same f g))))) M
abbrev co_Row_sameAs := co0
theorem dX4_sameAs_0 : decode cX4_sameAs 0 = .ok (.iconst 0, 1) := by decide +kernel
theorem dX4_sameAs_1 : decode cX4_sameAs 1 = .ok (.istore_n 2, 1) := by decide +kernel
theorem dX4_sameAs_2 : decode cX4_sameAs 2 = .ok (.iload_n 2, 1) := by decide +kernel
theorem dX4_sameAs_3 : decode cX4_sameAs 3 = .ok (.iconst 5, 1) := by decide +kernel
theorem dX4_sameAs_4 : decode cX4_sameAs 4 = .ok (.if_icmp .ge 27, 3) := by decide +kernel
theorem dX4_sameAs_7 : decode cX4_sameAs 7 = .ok (.aload_n 0, 1) := by decide +kernel
theorem dX4_sameAs_8 : decode cX4_sameAs 8 = .ok (.getfield 9, 3) := by decide +kernel
theorem dX4_sameAs_11 : decode cX4_sameAs 11 = .ok (.iload_n 2, 1) := by decide +kernel
theorem dX4_sameAs_12 : decode cX4_sameAs 12 = .ok (.laload, 1) := by decide +kernel
theorem dX4_sameAs_13 : decode cX4_sameAs 13 = .ok (.aload_n 1, 1) := by decide +kernel
theorem dX4_sameAs_14 : decode cX4_sameAs 14 = .ok (.getfield 9, 3) := by decide +kernel
theorem dX4_sameAs_17 : decode cX4_sameAs 17 = .ok (.iload_n 2, 1) := by decide +kernel
theorem dX4_sameAs_18 : decode cX4_sameAs 18 = .ok (.laload, 1) := by decide +kernel
theorem dX4_sameAs_19 : decode cX4_sameAs 19 = .ok (.lcmp, 1) := by decide +kernel
theorem dX4_sameAs_20 : decode cX4_sameAs 20 = .ok (.ifCond .eq 5, 3) := by decide +kernel
theorem dX4_sameAs_23 : decode cX4_sameAs 23 = .ok (.iconst 0, 1) := by decide +kernel
theorem dX4_sameAs_24 : decode cX4_sameAs 24 = .ok (.ireturn, 1) := by decide +kernel
theorem dX4_sameAs_25 : decode cX4_sameAs 25 = .ok (.iinc 2 1, 3) := by decide +kernel
theorem dX4_sameAs_28 : decode cX4_sameAs 28 = .ok (.goto (-26), 3) := by decide +kernel
theorem dX4_sameAs_31 : decode cX4_sameAs 31 = .ok (.iconst 1, 1) := by decide +kernel
theorem dX4_sameAs_32 : decode cX4_sameAs 32 = .ok (.ireturn, 1) := by decide +kernel
def B_Row_sameAs_31 (mc ms : Nat) (Rt : Option zAV → zMp → Prop) (g : Nat → zKT) : zKT :=
  (i_ic 1 (i_zret mc ms Rt))
set_option maxRecDepth 20000 in
theorem s_Row_sameAs_31 {X : zMa} {mc ms : Nat} {Rt : Option zAV → zMp → Prop} (hC : zCx X RX4 cX4_sameAs 0 0 mc ms (some .boolean) false Rt) (hN : zNL X = 3) : zLe (B_Row_sameAs_31 mc ms Rt (zG X)) (zG X 31) :=
  (sd_iconst hC (by decide) dX4_sameAs_31 ((sd_zret hC dX4_sameAs_32)))
def B_Row_sameAs_25 (mc ms : Nat) (Rt : Option zAV → zMp → Prop) (g : Nat → zKT) : zKT :=
  (i_inc 2 1 (g 2))
set_option maxRecDepth 20000 in
theorem s_Row_sameAs_25 {X : zMa} {mc ms : Nat} {Rt : Option zAV → zMp → Prop} (hC : zCx X RX4 cX4_sameAs 0 0 mc ms (some .boolean) false Rt) (hN : zNL X = 3) : zLe (B_Row_sameAs_25 mc ms Rt (zG X)) (zG X 25) :=
  (sd_inc hC (by decide) (by rw [hN]; decide) dX4_sameAs_25 ((sd_goto hC (tgt := 2) (by decide) dX4_sameAs_28 (zLe_rfl))))
def B_Row_sameAs_2 (mc ms : Nat) (Rt : Option zAV → zMp → Prop) (g : Nat → zKT) : zKT :=
  (i_il 2 (i_ic 5 (i_icge (B_Row_sameAs_31 mc ms Rt g) (i_al 0 (i_gf 5 0 (i_il 2 (i_lal (i_al 1 (i_gf 5 0 (i_il 2 (i_lal (i_lcmp (i_ifeq (B_Row_sameAs_25 mc ms Rt g) (i_ic 0 (i_zret mc ms Rt)))))))))))))))
set_option maxRecDepth 20000 in
theorem s_Row_sameAs_2 {X : zMa} {mc ms : Nat} {Rt : Option zAV → zMp → Prop} (hC : zCx X RX4 cX4_sameAs 0 0 mc ms (some .boolean) false Rt) (hN : zNL X = 3) : zLe (B_Row_sameAs_2 mc ms Rt (zG X)) (zG X 2) :=
  (sd_il_n hC rfl dX4_sameAs_2 ((sd_iconst hC (by decide) dX4_sameAs_3 ((sd_icge hC (tgt := 31) (by decide) dX4_sameAs_4 (s_Row_sameAs_31 hC hN) ((sd_al_n hC rfl dX4_sameAs_7 ((sd_gf hC (ci := 5) (fk := 0) rfl wi_Row (by decide) fl_Row_9 (Or.inl rfl) dX4_sameAs_8 ((sd_il_n hC rfl dX4_sameAs_11 ((sd_lal hC dX4_sameAs_12 ((sd_al_n hC rfl dX4_sameAs_13 ((sd_gf hC (ci := 5) (fk := 0) rfl wi_Row (by decide) fl_Row_9 (Or.inl rfl) dX4_sameAs_14 ((sd_il_n hC rfl dX4_sameAs_17 ((sd_lal hC dX4_sameAs_18 ((sd_lcmp hC dX4_sameAs_19 ((sd_ifeq hC (tgt := 25) (by decide) dX4_sameAs_20 (s_Row_sameAs_25 hC hN) ((sd_iconst hC (by decide) dX4_sameAs_23 ((sd_zret hC dX4_sameAs_24)))))))))))))))))))))))))))))
def B_Row_sameAs_0 (mc ms : Nat) (Rt : Option zAV → zMp → Prop) (g : Nat → zKT) : zKT :=
  (i_ic 0 (i_is 2 (g 2)))
set_option maxRecDepth 20000 in
theorem s_Row_sameAs_0 {X : zMa} {mc ms : Nat} {Rt : Option zAV → zMp → Prop} (hC : zCx X RX4 cX4_sameAs 0 0 mc ms (some .boolean) false Rt) (hN : zNL X = 3) : zLe (B_Row_sameAs_0 mc ms Rt (zG X)) (zG X 0) :=
  (sd_iconst hC (by decide) dX4_sameAs_0 ((sd_is_n hC rfl (by rw [hN]; decide) dX4_sameAs_1 (zLe_rfl))))
theorem c_Row_sameAs (l : Launch) : zCT l yX4_sameAs cX4_sameAs 3 (some .boolean) 0 0 T_Row_sameAs co_Row_sameAs := by
  intro As M Rt hT
  obtain ⟨r, q, f, o, p, g, rfl, ⟨h1, h2⟩, ⟨h3, h4⟩, hR⟩ := hT
  refine zMet_of false (by decide +kernel) (fun h => by first | rfl | cases h) (Nat.le_of_ble_eq_true rfl) (fun X hN hC => ?_)
  show zG X 0 [some (.inr r), some (.inr o), none] [] M 0 0
  have loop : (∀ j, j < 0 → f j = g j) → zG X 2 [some (.inr r), some (.inr o), some (.inl (.int (nI 0)))] [] M 0 0 := by
    refine five (P := fun i => (∀ j, j < i → f j = g j) → zG X 2 [some (.inr r), some (.inr o), some (.inl (.int (nI i)))] [] M 0 0) (fun i hi ih hp => ?_) (fun hp => ?_)
    · refine s_Row_sameAs_2 hC hN _ _ _ _ _ ?_
      simp only [B_Row_sameAs_0, B_Row_sameAs_2, B_Row_sameAs_25, B_Row_sameAs_31, co_Row_sameAs, i_ic, i_lc, i_nul, i_il, i_ll, i_al, i_is, i_as, i_ls, i_inc, i_iadd, i_isub, i_imul, i_iand, i_ior, i_ixor, i_idiv, i_irem, i_ishl, i_ishr, i_ladd, i_lsub, i_land, i_lor, i_i2l, i_lushr, i_lshl, i_lshr, i_lcmp, i_dup, i_pop, i_dx1, i_dup2, i_ifeq, i_ifne, i_iflt, i_ifge, i_ifgt, i_ifle, i_iceq, i_icne, i_iclt, i_icge, i_icgt, i_icle, i_ifn, i_gf, i_pf, i_ial, i_bal, i_lal, i_aal, i_ias, i_las, i_bas, i_aas, i_alen, i_newa, i_new, i_anew, i_cast, i_oi, i_call, i_callV, i_callV2, i_callI, i_iret, i_zret, i_lret, i_vret, i_aret, i_mmx, i_mmn, i_gsE, i_aceq, i_no, i_acq, i_sw, zsw, zlg, zls, znl, zfg, zcs, zsp, zrc, zisn, zft, zc1, zto, Value.category, List.set_cons_zero, List.set_cons_succ, List.length_cons, List.length_nil, Option.toList, List.nil_append, List.cons_append, true_and, and_true, Nat.add_zero, Nat.zero_le, Nat.zero_add, Nat.le_refl, Nat.reduceAdd, Nat.reduceLeDiff, co0, z0, zn_0, zn_1, zn_2, zn_3, zn_4, zn_5, zn_8, zn_12, zn_24, zn_121, zn_144, zn_256, zn_300, zn_600, zn_720, zn_1204, zn_1280, zn_2400, zn_4816, zn_14400, zn_90000, h1, h2, h3, h4]
      have hin : vp_in (nI i) 5 := vp_in_nI hi (by decide)
      rw [nI_clamp (by omega), nI_1, lg_cmp_eq]
      refine ⟨fun h => absurd ((zK (K := 5) (by decide) (n := i) (by omega)).2.1.mp h) (by omega), fun _ => ⟨hin, hin, fun hz => ih (lt_s hp hz), fun hz => ⟨Or.inl trivial, ?_⟩⟩⟩
      have : rw_same f g = false := zd_f (fun h => hz (h i hi))
      rw [this] at hR
      exact hR
    · refine s_Row_sameAs_2 hC hN _ _ _ _ _ ?_
      simp only [B_Row_sameAs_0, B_Row_sameAs_2, B_Row_sameAs_25, B_Row_sameAs_31, co_Row_sameAs, i_ic, i_lc, i_nul, i_il, i_ll, i_al, i_is, i_as, i_ls, i_inc, i_iadd, i_isub, i_imul, i_iand, i_ior, i_ixor, i_idiv, i_irem, i_ishl, i_ishr, i_ladd, i_lsub, i_land, i_lor, i_i2l, i_lushr, i_lshl, i_lshr, i_lcmp, i_dup, i_pop, i_dx1, i_dup2, i_ifeq, i_ifne, i_iflt, i_ifge, i_ifgt, i_ifle, i_iceq, i_icne, i_iclt, i_icge, i_icgt, i_icle, i_ifn, i_gf, i_pf, i_ial, i_bal, i_lal, i_aal, i_ias, i_las, i_bas, i_aas, i_alen, i_newa, i_new, i_anew, i_cast, i_oi, i_call, i_callV, i_callV2, i_callI, i_iret, i_zret, i_lret, i_vret, i_aret, i_mmx, i_mmn, i_gsE, i_aceq, i_no, i_acq, i_sw, zsw, zlg, zls, znl, zfg, zcs, zsp, zrc, zisn, zft, zc1, zto, Value.category, List.set_cons_zero, List.set_cons_succ, List.length_cons, List.length_nil, Option.toList, List.nil_append, List.cons_append, true_and, and_true, Nat.add_zero, Nat.zero_le, Nat.zero_add, Nat.le_refl, Nat.reduceAdd, Nat.reduceLeDiff, co0, z0, zn_0, zn_1, zn_2, zn_3, zn_4, zn_5, zn_8, zn_12, zn_24, zn_121, zn_144, zn_256, zn_300, zn_600, zn_720, zn_1204, zn_1280, zn_2400, zn_4816, zn_14400, zn_90000, h1, h2, h3, h4]
      refine ⟨fun _ => ⟨Or.inr trivial, ?_⟩, fun h => absurd (by decide) h⟩
      have : rw_same f g = true := zd_t hp
      rw [this] at hR
      exact hR
  refine s_Row_sameAs_0 hC hN _ _ _ _ _ ?_
  simp only [B_Row_sameAs_0, B_Row_sameAs_2, B_Row_sameAs_25, B_Row_sameAs_31, co_Row_sameAs, i_ic, i_lc, i_nul, i_il, i_ll, i_al, i_is, i_as, i_ls, i_inc, i_iadd, i_isub, i_imul, i_iand, i_ior, i_ixor, i_idiv, i_irem, i_ishl, i_ishr, i_ladd, i_lsub, i_land, i_lor, i_i2l, i_lushr, i_lshl, i_lshr, i_lcmp, i_dup, i_pop, i_dx1, i_dup2, i_ifeq, i_ifne, i_iflt, i_ifge, i_ifgt, i_ifle, i_iceq, i_icne, i_iclt, i_icge, i_icgt, i_icle, i_ifn, i_gf, i_pf, i_ial, i_bal, i_lal, i_aal, i_ias, i_las, i_bas, i_aas, i_alen, i_newa, i_new, i_anew, i_cast, i_oi, i_call, i_callV, i_callV2, i_callI, i_iret, i_zret, i_lret, i_vret, i_aret, i_mmx, i_mmn, i_gsE, i_aceq, i_no, i_acq, i_sw, zsw, zlg, zls, znl, zfg, zcs, zsp, zrc, zisn, zft, zc1, zto, Value.category, List.set_cons_zero, List.set_cons_succ, List.length_cons, List.length_nil, Option.toList, List.nil_append, List.cons_append, true_and, and_true, Nat.add_zero, Nat.zero_le, Nat.zero_add, Nat.le_refl, Nat.reduceAdd, Nat.reduceLeDiff, co0, z0, zn_0, zn_1, zn_2, zn_3, zn_4, zn_5, zn_8, zn_12, zn_24, zn_121, zn_144, zn_256, zn_300, zn_600, zn_720, zn_1204, zn_1280, zn_2400, zn_4816, zn_14400, zn_90000]
  exact loop (fun j hj => absurd hj (Nat.not_lt_zero j))
/-- the i-th number of a row, looked for from w on, b numbers seen -/
def rw_nthA (f : Nat → Int64) (i : Int32) : Nat → Nat → Int32 → Int32
  | 0, _, _ => -1
  | n + 1, w, b => if zbit f w = true then (if b = i then nI w else rw_nthA f i n (w + 1) (b + 1)) else rw_nthA f i n (w + 1) b
def T_Row_nth (As : List zAV) (M : zMp) (Rt : Option zAV → zMp → Prop) : Prop := ∃ r q f i, As = [.inr r, .inl (.int i)] ∧ zrow M r q f ∧ Rt (some (.inl (.int (rw_nthA f i 300 0 0)))) M
abbrev co_Row_nth := co0
theorem dX4_nth_0 : decode cX4_nth 0 = .ok (.iconst 0, 1) := by decide +kernel
theorem dX4_nth_1 : decode cX4_nth 1 = .ok (.istore_n 2, 1) := by decide +kernel
theorem dX4_nth_2 : decode cX4_nth 2 = .ok (.iconst 0, 1) := by decide +kernel
theorem dX4_nth_3 : decode cX4_nth 3 = .ok (.istore_n 3, 1) := by decide +kernel
theorem dX4_nth_4 : decode cX4_nth 4 = .ok (.iload_n 3, 1) := by decide +kernel
theorem dX4_nth_5 : decode cX4_nth 5 = .ok (.sipush 300, 3) := by decide +kernel
theorem dX4_nth_8 : decode cX4_nth 8 = .ok (.if_icmp .ge 27, 3) := by decide +kernel
theorem dX4_nth_11 : decode cX4_nth 11 = .ok (.aload_n 0, 1) := by decide +kernel
theorem dX4_nth_12 : decode cX4_nth 12 = .ok (.iload_n 3, 1) := by decide +kernel
theorem dX4_nth_13 : decode cX4_nth 13 = .ok (.invokevirtual 15, 3) := by decide +kernel
theorem dX4_nth_16 : decode cX4_nth 16 = .ok (.ifCond .eq 13, 3) := by decide +kernel
theorem dX4_nth_19 : decode cX4_nth 19 = .ok (.iload_n 2, 1) := by decide +kernel
theorem dX4_nth_20 : decode cX4_nth 20 = .ok (.iload_n 1, 1) := by decide +kernel
theorem dX4_nth_21 : decode cX4_nth 21 = .ok (.if_icmp .ne 5, 3) := by decide +kernel
theorem dX4_nth_24 : decode cX4_nth 24 = .ok (.iload_n 3, 1) := by decide +kernel
theorem dX4_nth_25 : decode cX4_nth 25 = .ok (.ireturn, 1) := by decide +kernel
theorem dX4_nth_26 : decode cX4_nth 26 = .ok (.iinc 2 1, 3) := by decide +kernel
theorem dX4_nth_29 : decode cX4_nth 29 = .ok (.iinc 3 1, 3) := by decide +kernel
theorem dX4_nth_32 : decode cX4_nth 32 = .ok (.goto (-28), 3) := by decide +kernel
theorem dX4_nth_35 : decode cX4_nth 35 = .ok (.iconst (-1), 1) := by decide +kernel
theorem dX4_nth_36 : decode cX4_nth 36 = .ok (.ireturn, 1) := by decide +kernel
def B_Row_nth_35 (mc ms : Nat) (Rt : Option zAV → zMp → Prop) (g : Nat → zKT) : zKT :=
  (i_ic (-1) (i_iret mc ms Rt))
set_option maxRecDepth 20000 in
theorem s_Row_nth_35 {X : zMa} {mc ms : Nat} {Rt : Option zAV → zMp → Prop} (hC : zCx X RX4 cX4_nth 1 21 mc ms (some .int) false Rt) (hN : zNL X = 4) : zLe (B_Row_nth_35 mc ms Rt (zG X)) (zG X 35) :=
  (sd_iconst hC (by decide) dX4_nth_35 ((sd_iret hC dX4_nth_36)))
def B_Row_nth_29 (mc ms : Nat) (Rt : Option zAV → zMp → Prop) (g : Nat → zKT) : zKT :=
  (i_inc 3 1 (g 4))
set_option maxRecDepth 20000 in
theorem s_Row_nth_29 {X : zMa} {mc ms : Nat} {Rt : Option zAV → zMp → Prop} (hC : zCx X RX4 cX4_nth 1 21 mc ms (some .int) false Rt) (hN : zNL X = 4) : zLe (B_Row_nth_29 mc ms Rt (zG X)) (zG X 29) :=
  (sd_inc hC (by decide) (by rw [hN]; decide) dX4_nth_29 ((sd_goto hC (tgt := 4) (by decide) dX4_nth_32 (zLe_rfl))))
def B_Row_nth_26 (mc ms : Nat) (Rt : Option zAV → zMp → Prop) (g : Nat → zKT) : zKT :=
  (i_inc 2 1 (B_Row_nth_29 mc ms Rt g))
set_option maxRecDepth 20000 in
theorem s_Row_nth_26 {X : zMa} {mc ms : Nat} {Rt : Option zAV → zMp → Prop} (hC : zCx X RX4 cX4_nth 1 21 mc ms (some .int) false Rt) (hN : zNL X = 4) : zLe (B_Row_nth_26 mc ms Rt (zG X)) (zG X 26) :=
  (sd_inc hC (by decide) (by rw [hN]; decide) dX4_nth_26 (s_Row_nth_29 hC hN))
def B_Row_nth_4 (mc ms : Nat) (Rt : Option zAV → zMp → Prop) (g : Nat → zKT) : zKT :=
  (i_il 3 (i_ic 300 (i_icge (B_Row_nth_35 mc ms Rt g) (i_al 0 (i_il 3 (i_callV mc ms 5 2 T_Row_has co_Row_has (i_ifeq (B_Row_nth_29 mc ms Rt g) (i_il 2 (i_il 1 (i_icne (B_Row_nth_26 mc ms Rt g) (i_il 3 (i_iret mc ms Rt))))))))))))
set_option maxRecDepth 20000 in
theorem s_Row_nth_4 {X : zMa} {mc ms : Nat} {Rt : Option zAV → zMp → Prop} (hC : zCx X RX4 cX4_nth 1 21 mc ms (some .int) false Rt) (hN : zNL X = 4) : zLe (B_Row_nth_4 mc ms Rt (zG X)) (zG X 4) :=
  (sd_il_n hC rfl dX4_nth_4 ((sd_sipush hC (by decide) dX4_nth_5 ((sd_icge hC (tgt := 35) (by decide) dX4_nth_8 (s_Row_nth_35 hC hN) ((sd_al_n hC rfl dX4_nth_11 ((sd_il_n hC rfl dX4_nth_12 ((sd_cV hC c_Row_has yv_Row_has (ci := 5) rfl rfl ml_Row_15 (by decide) (by decide) dX4_nth_13 ((sd_ifeq hC (tgt := 29) (by decide) dX4_nth_16 (s_Row_nth_29 hC hN) ((sd_il_n hC rfl dX4_nth_19 ((sd_il_n hC rfl dX4_nth_20 ((sd_icne hC (tgt := 26) (by decide) dX4_nth_21 (s_Row_nth_26 hC hN) ((sd_il_n hC rfl dX4_nth_24 ((sd_iret hC dX4_nth_25)))))))))))))))))))))))
def B_Row_nth_0 (mc ms : Nat) (Rt : Option zAV → zMp → Prop) (g : Nat → zKT) : zKT :=
  (i_ic 0 (i_is 2 (i_ic 0 (i_is 3 (g 4)))))
set_option maxRecDepth 20000 in
theorem s_Row_nth_0 {X : zMa} {mc ms : Nat} {Rt : Option zAV → zMp → Prop} (hC : zCx X RX4 cX4_nth 1 21 mc ms (some .int) false Rt) (hN : zNL X = 4) : zLe (B_Row_nth_0 mc ms Rt (zG X)) (zG X 0) :=
  (sd_iconst hC (by decide) dX4_nth_0 ((sd_is_n hC rfl (by rw [hN]; decide) dX4_nth_1 ((sd_iconst hC (by decide) dX4_nth_2 ((sd_is_n hC rfl (by rw [hN]; decide) dX4_nth_3 (zLe_rfl))))))))
theorem c_Row_nth (l : Launch) : zCT l yX4_nth cX4_nth 4 (some .int) 1 21 T_Row_nth co_Row_nth := by
  intro As M Rt hT
  obtain ⟨r, q, f, i, rfl, ⟨h1, h2⟩, hR⟩ := hT
  refine zMet_of false (by decide +kernel) (fun h => by first | rfl | cases h) (Nat.le_of_ble_eq_true rfl) (fun X hN hC => ?_)
  show zG X 0 [some (.inr r), some (.inl (.int i)), none, none] [] M 0 0
  have loop : ∀ n w b, w + n = 300 → Rt (some (.inl (.int (rw_nthA f i n w b)))) M → zG X 4 [some (.inr r), some (.inl (.int i)), some (.inl (.int b)), some (.inl (.int (nI w)))] [] M 0 0 := by
    intro n
    induction n with
    | zero =>
      intro w b hw hr
      refine s_Row_nth_4 hC hN _ _ _ _ _ ?_
      simp only [B_Row_nth_0, B_Row_nth_4, B_Row_nth_26, B_Row_nth_29, B_Row_nth_35, co_Row_has, co_Row_nth, i_ic, i_lc, i_nul, i_il, i_ll, i_al, i_is, i_as, i_ls, i_inc, i_iadd, i_isub, i_imul, i_iand, i_ior, i_ixor, i_idiv, i_irem, i_ishl, i_ishr, i_ladd, i_lsub, i_land, i_lor, i_i2l, i_lushr, i_lshl, i_lshr, i_lcmp, i_dup, i_pop, i_dx1, i_dup2, i_ifeq, i_ifne, i_iflt, i_ifge, i_ifgt, i_ifle, i_iceq, i_icne, i_iclt, i_icge, i_icgt, i_icle, i_ifn, i_gf, i_pf, i_ial, i_bal, i_lal, i_aal, i_ias, i_las, i_bas, i_aas, i_alen, i_newa, i_new, i_anew, i_cast, i_oi, i_call, i_callV, i_callV2, i_callI, i_iret, i_zret, i_lret, i_vret, i_aret, i_mmx, i_mmn, i_gsE, i_aceq, i_no, i_acq, i_sw, zsw, zlg, zls, znl, zfg, zcs, zsp, zrc, zisn, zft, zc1, zto, Value.category, List.set_cons_zero, List.set_cons_succ, List.length_cons, List.length_nil, Option.toList, List.nil_append, List.cons_append, true_and, and_true, Nat.add_zero, Nat.zero_le, Nat.zero_add, Nat.le_refl, Nat.reduceAdd, Nat.reduceLeDiff, co0, z0, zn_0, zn_1, zn_2, zn_3, zn_4, zn_5, zn_8, zn_12, zn_24, zn_121, zn_144, zn_256, zn_300, zn_600, zn_720, zn_1204, zn_1280, zn_2400, zn_4816, zn_14400, zn_90000, h1]
      exact ⟨fun _ => hr, fun h => absurd ((zK (K := 300) (by decide) (n := w) (by omega)).2.1.mpr (by omega)) h⟩
    | succ n ih =>
      intro w b hw hr
      refine s_Row_nth_4 hC hN _ _ _ _ _ ?_
      simp only [B_Row_nth_0, B_Row_nth_4, B_Row_nth_26, B_Row_nth_29, B_Row_nth_35, co_Row_has, co_Row_nth, i_ic, i_lc, i_nul, i_il, i_ll, i_al, i_is, i_as, i_ls, i_inc, i_iadd, i_isub, i_imul, i_iand, i_ior, i_ixor, i_idiv, i_irem, i_ishl, i_ishr, i_ladd, i_lsub, i_land, i_lor, i_i2l, i_lushr, i_lshl, i_lshr, i_lcmp, i_dup, i_pop, i_dx1, i_dup2, i_ifeq, i_ifne, i_iflt, i_ifge, i_ifgt, i_ifle, i_iceq, i_icne, i_iclt, i_icge, i_icgt, i_icle, i_ifn, i_gf, i_pf, i_ial, i_bal, i_lal, i_aal, i_ias, i_las, i_bas, i_aas, i_alen, i_newa, i_new, i_anew, i_cast, i_oi, i_call, i_callV, i_callV2, i_callI, i_iret, i_zret, i_lret, i_vret, i_aret, i_mmx, i_mmn, i_gsE, i_aceq, i_no, i_acq, i_sw, zsw, zlg, zls, znl, zfg, zcs, zsp, zrc, zisn, zft, zc1, zto, Value.category, List.set_cons_zero, List.set_cons_succ, List.length_cons, List.length_nil, Option.toList, List.nil_append, List.cons_append, true_and, and_true, Nat.add_zero, Nat.zero_le, Nat.zero_add, Nat.le_refl, Nat.reduceAdd, Nat.reduceLeDiff, co0, z0, zn_0, zn_1, zn_2, zn_3, zn_4, zn_5, zn_8, zn_12, zn_24, zn_121, zn_144, zn_256, zn_300, zn_600, zn_720, zn_1204, zn_1280, zn_2400, zn_4816, zn_14400, zn_90000, h1]
      refine ⟨fun h => absurd ((zK (K := 300) (by decide) (n := w) (by omega)).2.1.mp h) (by omega), fun _ => ⟨r, q, f, w, rfl, by omega, ⟨h1, h2⟩, ?_⟩⟩
      rw [nI_1]
      cases hb : zbit f w with
      | false =>
        simp only [rw_nthA, hb, if_false, Bool.false_eq_true] at hr
        exact ⟨fun _ => ih (w + 1) b (by omega) hr, fun h => absurd rfl h⟩
      | true =>
        simp only [rw_nthA, hb, if_true] at hr
        refine ⟨fun h => absurd h (by decide), fun _ => ⟨fun hne => ?_, fun he => ?_⟩⟩
        · rw [if_neg hne] at hr
          exact ih (w + 1) (b + 1) (by omega) hr
        · rw [if_pos he] at hr
          exact hr
  refine s_Row_nth_0 hC hN _ _ _ _ _ ?_
  simp only [B_Row_nth_0, B_Row_nth_4, B_Row_nth_26, B_Row_nth_29, B_Row_nth_35, co_Row_has, co_Row_nth, i_ic, i_lc, i_nul, i_il, i_ll, i_al, i_is, i_as, i_ls, i_inc, i_iadd, i_isub, i_imul, i_iand, i_ior, i_ixor, i_idiv, i_irem, i_ishl, i_ishr, i_ladd, i_lsub, i_land, i_lor, i_i2l, i_lushr, i_lshl, i_lshr, i_lcmp, i_dup, i_pop, i_dx1, i_dup2, i_ifeq, i_ifne, i_iflt, i_ifge, i_ifgt, i_ifle, i_iceq, i_icne, i_iclt, i_icge, i_icgt, i_icle, i_ifn, i_gf, i_pf, i_ial, i_bal, i_lal, i_aal, i_ias, i_las, i_bas, i_aas, i_alen, i_newa, i_new, i_anew, i_cast, i_oi, i_call, i_callV, i_callV2, i_callI, i_iret, i_zret, i_lret, i_vret, i_aret, i_mmx, i_mmn, i_gsE, i_aceq, i_no, i_acq, i_sw, zsw, zlg, zls, znl, zfg, zcs, zsp, zrc, zisn, zft, zc1, zto, Value.category, List.set_cons_zero, List.set_cons_succ, List.length_cons, List.length_nil, Option.toList, List.nil_append, List.cons_append, true_and, and_true, Nat.add_zero, Nat.zero_le, Nat.zero_add, Nat.le_refl, Nat.reduceAdd, Nat.reduceLeDiff, co0, z0, zn_0, zn_1, zn_2, zn_3, zn_4, zn_5, zn_8, zn_12, zn_24, zn_121, zn_144, zn_256, zn_300, zn_600, zn_720, zn_1204, zn_1280, zn_2400, zn_4816, zn_14400, zn_90000]
  exact loop 300 0 0 rfl hR
end
section
/-! WishRoutes.Row's constructor; WishRoutes.FieldTest -/
def T_Row_init (As : List zAV) (M : zMp) (Rt : Option zAV → zMp → Prop) : Prop := ∃ r q, As = [.inr r] ∧ M r = some (.inr (5, [.inl .null])) ∧ zmo r ∧ M q = none ∧ zmo q ∧ Rt none (zup (zup M q (zlo (fun _ => 0))) r (.inr (5, [.inr q])))
def co_Row_init : List zAV → zMp → Nat × Nat := fun _ _ => (1, 5)
theorem dX4_init_0 : decode cX4_init 0 = .ok (.aload_n 0, 1) := by decide +kernel
theorem dX4_init_1 : decode cX4_init 1 = .ok (.invokespecial 3, 3) := by decide +kernel
theorem dX4_init_4 : decode cX4_init 4 = .ok (.aload_n 0, 1) := by decide +kernel
theorem dX4_init_5 : decode cX4_init 5 = .ok (.iconst 5, 1) := by decide +kernel
theorem dX4_init_6 : decode cX4_init 6 = .ok (.newarray .long, 2) := by decide +kernel
theorem dX4_init_8 : decode cX4_init 8 = .ok (.putfield 9, 3) := by decide +kernel
theorem dX4_init_11 : decode cX4_init 11 = .ok (.return_, 1) := by decide +kernel
def B_Row_init_0 (mc ms : Nat) (Rt : Option zAV → zMp → Prop) (g : Nat → zKT) : zKT :=
  (i_al 0 (i_oi (i_al 0 (i_ic 5 (i_newa mc ms .long (i_pf 5 0 (.array .long) (i_vret mc ms Rt)))))))
set_option maxRecDepth 20000 in
theorem s_Row_init_0 {X : zMa} {mc ms : Nat} {Rt : Option zAV → zMp → Prop} (hC : zCx X RX4 cX4_init 1 20 mc ms (none) true Rt) : zLe (B_Row_init_0 mc ms Rt (zG X)) (zG X 0) :=
  (sd_al_n hC rfl dX4_init_0 ((sd_oi hC ml_Row_3 oi_2 oi_3 (by decide) (by decide) dX4_init_1 ((sd_al_n hC rfl dX4_init_4 ((sd_iconst hC (by decide) dX4_init_5 ((sd_newa hC (at0 := .long) rfl (by decide) ac_long dX4_init_6 ((sd_pf hC (ci := 5) (fk := 0) rfl wi_Row tyX4 tyX4_ok nmX4 (by decide) fl_Row_9 (Or.inl rfl) (Or.inr ⟨rfl, rfl⟩) dX4_init_8 ((sd_vret hC dX4_init_11)))))))))))))
theorem c_Row_init (l : Launch) : zCT l yX4_init cX4_init 1 (none) 1 20 T_Row_init co_Row_init := by
  intro As M Rt hT
  obtain ⟨r, q, rfl, h1, hm, h2, hq, hR⟩ := hT
  have hne : r ≠ q := fun e => by rw [e, h2] at h1; cases h1
  refine zMet_of true (by decide +kernel) (fun h => by first | rfl | cases h) (Nat.le_of_ble_eq_true rfl) (fun X hN hC => ?_)
  show zG X 0 [some (.inr r)] [] M 0 0
  refine s_Row_init_0 hC _ _ _ _ _ ?_
  simp only [B_Row_init_0, co_Row_init, i_ic, i_lc, i_nul, i_il, i_ll, i_al, i_is, i_as, i_ls, i_inc, i_iadd, i_isub, i_imul, i_iand, i_ior, i_ixor, i_idiv, i_irem, i_ishl, i_ishr, i_ladd, i_lsub, i_land, i_lor, i_i2l, i_lushr, i_lshl, i_lshr, i_lcmp, i_dup, i_pop, i_dx1, i_dup2, i_ifeq, i_ifne, i_iflt, i_ifge, i_ifgt, i_ifle, i_iceq, i_icne, i_iclt, i_icge, i_icgt, i_icle, i_ifn, i_gf, i_pf, i_ial, i_bal, i_lal, i_aal, i_ias, i_las, i_bas, i_aas, i_alen, i_newa, i_new, i_anew, i_cast, i_oi, i_call, i_callV, i_callV2, i_callI, i_iret, i_zret, i_lret, i_vret, i_aret, i_mmx, i_mmn, i_gsE, i_aceq, i_no, i_acq, i_sw, zsw, zlg, zls, znl, zfg, zcs, zsp, zrc, zisn, zft, zc1, zto, Value.category, List.set_cons_zero, List.set_cons_succ, List.length_cons, List.length_nil, Option.toList, List.nil_append, List.cons_append, true_and, and_true, Nat.add_zero, Nat.zero_le, Nat.zero_add, Nat.le_refl, Nat.reduceAdd, Nat.reduceLeDiff, co0, z0, zn_0, zn_1, zn_2, zn_3, zn_4, zn_5, zn_8, zn_12, zn_24, zn_121, zn_144, zn_256, zn_300, zn_600, zn_720, zn_1204, zn_1280, zn_2400, zn_4816, zn_14400, zn_90000, h1]
  refine ⟨q, h2, hq, by decide, ?_⟩
  simp only [zup_o hne, h1, i_ic, i_lc, i_nul, i_il, i_ll, i_al, i_is, i_as, i_ls, i_inc, i_iadd, i_isub, i_imul, i_iand, i_ior, i_ixor, i_idiv, i_irem, i_ishl, i_ishr, i_ladd, i_lsub, i_land, i_lor, i_i2l, i_lushr, i_lshl, i_lshr, i_lcmp, i_dup, i_pop, i_dx1, i_dup2, i_ifeq, i_ifne, i_iflt, i_ifge, i_ifgt, i_ifle, i_iceq, i_icne, i_iclt, i_icge, i_icgt, i_icle, i_ifn, i_gf, i_pf, i_ial, i_bal, i_lal, i_aal, i_ias, i_las, i_bas, i_aas, i_alen, i_newa, i_new, i_anew, i_cast, i_oi, i_call, i_callV, i_callV2, i_callI, i_iret, i_zret, i_lret, i_vret, i_aret, i_mmx, i_mmn, i_gsE, i_aceq, i_no, i_acq, i_sw, zsw, zlg, zls, znl, zfg, zcs, zsp, zrc, zisn, zft, zc1, zto, Value.category, List.set_cons_zero, List.set_cons_succ, List.length_cons, List.length_nil, Option.toList, List.nil_append, List.cons_append, true_and, and_true, Nat.add_zero, Nat.zero_le, Nat.zero_add, Nat.le_refl, Nat.reduceAdd, Nat.reduceLeDiff, co0, z0, zn_0, zn_1, zn_2, zn_3, zn_4, zn_5, zn_8, zn_12, zn_24, zn_121, zn_144, zn_256, zn_300, zn_600, zn_720, zn_1204, zn_1280, zn_2400, zn_4816, zn_14400, zn_90000]
  exact ⟨hm, by decide, hR⟩
def zfte (M : zMp) (t q : zNm) (kd : Int32) (sz : Nat) (g : Nat → Int32) : Prop := M t = some (.inr (1, [.inl (.int kd), .inr q, .inl (.int (nI sz))])) ∧ M q = some (.inl (.int, 4, .inl g)) ∧ sz ≤ 4
abbrev zin (n : Nat) (g : Nat → Int32) : zAE := .inl (.int, n, .inl g)
abbrev zfo (kd : Int32) (q : zNm) (sz : Nat) : zAE := .inr (1, [.inl (.int kd), .inr q, .inl (.int (nI sz))])
def T_FT_init (As : List zAV) (M : zMp) (Rt : Option zAV → zMp → Prop) : Prop := ∃ t q, As = [.inr t] ∧ M t = some (.inr (1, [.inl (.int 0), .inl .null, .inl (.int 0)])) ∧ zmo t ∧ M q = none ∧ zmo q ∧ Rt none (zup (zup M q (zin 4 (fun _ => 0))) t (zfo 0 q 0))
def co_FT_init : List zAV → zMp → Nat × Nat := fun _ _ => (1, 4)
theorem dX0_init_0 : decode cX0_init 0 = .ok (.aload_n 0, 1) := by decide +kernel
theorem dX0_init_1 : decode cX0_init 1 = .ok (.invokespecial 3, 3) := by decide +kernel
theorem dX0_init_4 : decode cX0_init 4 = .ok (.aload_n 0, 1) := by decide +kernel
theorem dX0_init_5 : decode cX0_init 5 = .ok (.iconst 0, 1) := by decide +kernel
theorem dX0_init_6 : decode cX0_init 6 = .ok (.putfield 9, 3) := by decide +kernel
theorem dX0_init_9 : decode cX0_init 9 = .ok (.aload_n 0, 1) := by decide +kernel
theorem dX0_init_10 : decode cX0_init 10 = .ok (.iconst 4, 1) := by decide +kernel
theorem dX0_init_11 : decode cX0_init 11 = .ok (.newarray .int, 2) := by decide +kernel
theorem dX0_init_13 : decode cX0_init 13 = .ok (.putfield 15, 3) := by decide +kernel
theorem dX0_init_16 : decode cX0_init 16 = .ok (.aload_n 0, 1) := by decide +kernel
theorem dX0_init_17 : decode cX0_init 17 = .ok (.iconst 0, 1) := by decide +kernel
theorem dX0_init_18 : decode cX0_init 18 = .ok (.putfield 19, 3) := by decide +kernel
theorem dX0_init_21 : decode cX0_init 21 = .ok (.return_, 1) := by decide +kernel
def B_FT_init_0 (mc ms : Nat) (Rt : Option zAV → zMp → Prop) (g : Nat → zKT) : zKT :=
  (i_al 0 (i_oi (i_al 0 (i_ic 0 (i_pf 1 0 .int (i_al 0 (i_ic 4 (i_newa mc ms .int (i_pf 1 1 (.array .int) (i_al 0 (i_ic 0 (i_pf 1 2 .int (i_vret mc ms Rt)))))))))))))
set_option maxRecDepth 20000 in
theorem s_FT_init_0 {X : zMa} {mc ms : Nat} {Rt : Option zAV → zMp → Prop} (hC : zCx X RX0 cX0_init 1 20 mc ms (none) true Rt) : zLe (B_FT_init_0 mc ms Rt (zG X)) (zG X 0) :=
  (sd_al_n hC rfl dX0_init_0 ((sd_oi hC ml_FT_3 oi_2 oi_3 (by decide) (by decide) dX0_init_1 ((sd_al_n hC rfl dX0_init_4 ((sd_iconst hC (by decide) dX0_init_5 ((sd_pf hC (ci := 1) (fk := 0) rfl wi_FT tyX0 tyX0_ok nmX0 (by decide) fl_FT_9 (Or.inl rfl) (Or.inl rfl) dX0_init_6 ((sd_al_n hC rfl dX0_init_9 ((sd_iconst hC (by decide) dX0_init_10 ((sd_newa hC (at0 := .int) rfl (by decide) ac_int dX0_init_11 ((sd_pf hC (ci := 1) (fk := 1) rfl wi_FT tyX0 tyX0_ok nmX0 (by decide) fl_FT_15 (Or.inl rfl) (Or.inr ⟨rfl, rfl⟩) dX0_init_13 ((sd_al_n hC rfl dX0_init_16 ((sd_iconst hC (by decide) dX0_init_17 ((sd_pf hC (ci := 1) (fk := 2) rfl wi_FT tyX0 tyX0_ok nmX0 (by decide) fl_FT_19 (Or.inl rfl) (Or.inl rfl) dX0_init_18 ((sd_vret hC dX0_init_21)))))))))))))))))))))))))
theorem c_FT_init (l : Launch) : zCT l yX0_init cX0_init 1 (none) 1 20 T_FT_init co_FT_init := by
  intro As M Rt hT
  obtain ⟨t, q, rfl, h1, hm, h2, hq, hR⟩ := hT
  have hne : t ≠ q := fun e => by rw [e, h2] at h1; cases h1
  refine zMet_of true (by decide +kernel) (fun h => by first | rfl | cases h) (Nat.le_of_ble_eq_true rfl) (fun X hN hC => ?_)
  show zG X 0 [some (.inr t)] [] M 0 0
  refine s_FT_init_0 hC _ _ _ _ _ ?_
  simp only [B_FT_init_0, co_FT_init, i_ic, i_lc, i_nul, i_il, i_ll, i_al, i_is, i_as, i_ls, i_inc, i_iadd, i_isub, i_imul, i_iand, i_ior, i_ixor, i_idiv, i_irem, i_ishl, i_ishr, i_ladd, i_lsub, i_land, i_lor, i_i2l, i_lushr, i_lshl, i_lshr, i_lcmp, i_dup, i_pop, i_dx1, i_dup2, i_ifeq, i_ifne, i_iflt, i_ifge, i_ifgt, i_ifle, i_iceq, i_icne, i_iclt, i_icge, i_icgt, i_icle, i_ifn, i_gf, i_pf, i_ial, i_bal, i_lal, i_aal, i_ias, i_las, i_bas, i_aas, i_alen, i_newa, i_new, i_anew, i_cast, i_oi, i_call, i_callV, i_callV2, i_callI, i_iret, i_zret, i_lret, i_vret, i_aret, i_mmx, i_mmn, i_gsE, i_aceq, i_no, i_acq, i_sw, zsw, zlg, zls, znl, zfg, zcs, zsp, zrc, zisn, zft, zc1, zto, Value.category, List.set_cons_zero, List.set_cons_succ, List.length_cons, List.length_nil, Option.toList, List.nil_append, List.cons_append, true_and, and_true, Nat.add_zero, Nat.zero_le, Nat.zero_add, Nat.le_refl, Nat.reduceAdd, Nat.reduceLeDiff, co0, z0, zn_0, zn_1, zn_2, zn_3, zn_4, zn_5, zn_8, zn_12, zn_24, zn_121, zn_144, zn_256, zn_300, zn_600, zn_720, zn_1204, zn_1280, zn_2400, zn_4816, zn_14400, zn_90000, h1]
  rw [zup_self h1]
  refine ⟨hm, by decide, q, h2, hq, by decide, ?_⟩
  simp only [zup_o hne, h1, zup_s, zup_zup, i_ic, i_lc, i_nul, i_il, i_ll, i_al, i_is, i_as, i_ls, i_inc, i_iadd, i_isub, i_imul, i_iand, i_ior, i_ixor, i_idiv, i_irem, i_ishl, i_ishr, i_ladd, i_lsub, i_land, i_lor, i_i2l, i_lushr, i_lshl, i_lshr, i_lcmp, i_dup, i_pop, i_dx1, i_dup2, i_ifeq, i_ifne, i_iflt, i_ifge, i_ifgt, i_ifle, i_iceq, i_icne, i_iclt, i_icge, i_icgt, i_icle, i_ifn, i_gf, i_pf, i_ial, i_bal, i_lal, i_aal, i_ias, i_las, i_bas, i_aas, i_alen, i_newa, i_new, i_anew, i_cast, i_oi, i_call, i_callV, i_callV2, i_callI, i_iret, i_zret, i_lret, i_vret, i_aret, i_mmx, i_mmn, i_gsE, i_aceq, i_no, i_acq, i_sw, zsw, zlg, zls, znl, zfg, zcs, zsp, zrc, zisn, zft, zc1, zto, Value.category, List.set_cons_zero, List.set_cons_succ, List.length_cons, List.length_nil, Option.toList, List.nil_append, List.cons_append, true_and, and_true, Nat.add_zero, Nat.zero_le, Nat.zero_add, Nat.le_refl, Nat.reduceAdd, Nat.reduceLeDiff, co0, z0, zn_0, zn_1, zn_2, zn_3, zn_4, zn_5, zn_8, zn_12, zn_24, zn_121, zn_144, zn_256, zn_300, zn_600, zn_720, zn_1204, zn_1280, zn_2400, zn_4816, zn_14400, zn_90000]
  exact ⟨hm, by decide, hm, by decide, hR⟩
def T_FT_setKind (As : List zAV) (M : zMp) (Rt : Option zAV → zMp → Prop) : Prop := ∃ t q kd sz g kd' a b, As = [.inr t, .inl (.int kd'), .inl (.int a), .inl (.int b)] ∧ zmo t ∧ zmo q ∧ zfte M t q kd sz g ∧ Rt none (zup (zup M t (zfo kd' q (if kd' = 0 then 0 else 2))) q (zin 4 (upd (upd g 0 a) 1 b)))
abbrev co_FT_setKind := co0
theorem dX0_setKind_0 : decode cX0_setKind 0 = .ok (.aload_n 0, 1) := by decide +kernel
theorem dX0_setKind_1 : decode cX0_setKind 1 = .ok (.iload_n 1, 1) := by decide +kernel
theorem dX0_setKind_2 : decode cX0_setKind 2 = .ok (.putfield 9, 3) := by decide +kernel
theorem dX0_setKind_5 : decode cX0_setKind 5 = .ok (.aload_n 0, 1) := by decide +kernel
theorem dX0_setKind_6 : decode cX0_setKind 6 = .ok (.iload_n 1, 1) := by decide +kernel
theorem dX0_setKind_7 : decode cX0_setKind 7 = .ok (.ifCond .ne 7, 3) := by decide +kernel
theorem dX0_setKind_10 : decode cX0_setKind 10 = .ok (.iconst 0, 1) := by decide +kernel
theorem dX0_setKind_11 : decode cX0_setKind 11 = .ok (.goto 4, 3) := by decide +kernel
theorem dX0_setKind_14 : decode cX0_setKind 14 = .ok (.iconst 2, 1) := by decide +kernel
theorem dX0_setKind_15 : decode cX0_setKind 15 = .ok (.putfield 19, 3) := by decide +kernel
theorem dX0_setKind_18 : decode cX0_setKind 18 = .ok (.aload_n 0, 1) := by decide +kernel
theorem dX0_setKind_19 : decode cX0_setKind 19 = .ok (.getfield 15, 3) := by decide +kernel
theorem dX0_setKind_22 : decode cX0_setKind 22 = .ok (.iconst 0, 1) := by decide +kernel
theorem dX0_setKind_23 : decode cX0_setKind 23 = .ok (.iload_n 2, 1) := by decide +kernel
theorem dX0_setKind_24 : decode cX0_setKind 24 = .ok (.iastore, 1) := by decide +kernel
theorem dX0_setKind_25 : decode cX0_setKind 25 = .ok (.aload_n 0, 1) := by decide +kernel
theorem dX0_setKind_26 : decode cX0_setKind 26 = .ok (.getfield 15, 3) := by decide +kernel
theorem dX0_setKind_29 : decode cX0_setKind 29 = .ok (.iconst 1, 1) := by decide +kernel
theorem dX0_setKind_30 : decode cX0_setKind 30 = .ok (.iload_n 3, 1) := by decide +kernel
theorem dX0_setKind_31 : decode cX0_setKind 31 = .ok (.iastore, 1) := by decide +kernel
theorem dX0_setKind_32 : decode cX0_setKind 32 = .ok (.return_, 1) := by decide +kernel
def B_FT_setKind_15 (mc ms : Nat) (Rt : Option zAV → zMp → Prop) (g : Nat → zKT) : zKT :=
  (i_pf 1 2 .int (i_al 0 (i_gf 1 1 (i_ic 0 (i_il 2 (i_ias (i_al 0 (i_gf 1 1 (i_ic 1 (i_il 3 (i_ias (i_vret mc ms Rt))))))))))))
set_option maxRecDepth 20000 in
theorem s_FT_setKind_15 {X : zMa} {mc ms : Nat} {Rt : Option zAV → zMp → Prop} (hC : zCx X RX0 cX0_setKind 0 0 mc ms (none) false Rt) : zLe (B_FT_setKind_15 mc ms Rt (zG X)) (zG X 15) :=
  (sd_pf hC (ci := 1) (fk := 2) rfl wi_FT tyX0 tyX0_ok nmX0 (by decide) fl_FT_19 (Or.inl rfl) (Or.inl rfl) dX0_setKind_15 ((sd_al_n hC rfl dX0_setKind_18 ((sd_gf hC (ci := 1) (fk := 1) rfl wi_FT (by decide) fl_FT_15 (Or.inl rfl) dX0_setKind_19 ((sd_iconst hC (by decide) dX0_setKind_22 ((sd_il_n hC rfl dX0_setKind_23 ((sd_ias hC dX0_setKind_24 ((sd_al_n hC rfl dX0_setKind_25 ((sd_gf hC (ci := 1) (fk := 1) rfl wi_FT (by decide) fl_FT_15 (Or.inl rfl) dX0_setKind_26 ((sd_iconst hC (by decide) dX0_setKind_29 ((sd_il_n hC rfl dX0_setKind_30 ((sd_ias hC dX0_setKind_31 ((sd_vret hC dX0_setKind_32)))))))))))))))))))))))
def B_FT_setKind_14 (mc ms : Nat) (Rt : Option zAV → zMp → Prop) (g : Nat → zKT) : zKT :=
  (i_ic 2 (B_FT_setKind_15 mc ms Rt g))
set_option maxRecDepth 20000 in
theorem s_FT_setKind_14 {X : zMa} {mc ms : Nat} {Rt : Option zAV → zMp → Prop} (hC : zCx X RX0 cX0_setKind 0 0 mc ms (none) false Rt) : zLe (B_FT_setKind_14 mc ms Rt (zG X)) (zG X 14) :=
  (sd_iconst hC (by decide) dX0_setKind_14 (s_FT_setKind_15 hC))
def B_FT_setKind_0 (mc ms : Nat) (Rt : Option zAV → zMp → Prop) (g : Nat → zKT) : zKT :=
  (i_al 0 (i_il 1 (i_pf 1 0 .int (i_al 0 (i_il 1 (i_ifne (B_FT_setKind_14 mc ms Rt g) (i_ic 0 (B_FT_setKind_15 mc ms Rt g))))))))
set_option maxRecDepth 20000 in
theorem s_FT_setKind_0 {X : zMa} {mc ms : Nat} {Rt : Option zAV → zMp → Prop} (hC : zCx X RX0 cX0_setKind 0 0 mc ms (none) false Rt) : zLe (B_FT_setKind_0 mc ms Rt (zG X)) (zG X 0) :=
  (sd_al_n hC rfl dX0_setKind_0 ((sd_il_n hC rfl dX0_setKind_1 ((sd_pf hC (ci := 1) (fk := 0) rfl wi_FT tyX0 tyX0_ok nmX0 (by decide) fl_FT_9 (Or.inl rfl) (Or.inl rfl) dX0_setKind_2 ((sd_al_n hC rfl dX0_setKind_5 ((sd_il_n hC rfl dX0_setKind_6 ((sd_ifne hC (tgt := 14) (by decide) dX0_setKind_7 (s_FT_setKind_14 hC) ((sd_iconst hC (by decide) dX0_setKind_10 ((sd_goto hC (tgt := 15) (by decide) dX0_setKind_11 (s_FT_setKind_15 hC))))))))))))))))
theorem c_FT_setKind (l : Launch) : zCT l yX0_setKind cX0_setKind 4 (none) 0 0 T_FT_setKind co_FT_setKind := by
  intro As M Rt hT
  obtain ⟨t, q, kd, sz, g, kd', a, b, rfl, hm, hq, ⟨h1, h2, h3⟩, hR⟩ := hT
  have hne : t ≠ q := zdf h1 h2 (by simp)
  refine zMet_of false (by decide +kernel) (fun h => by first | rfl | cases h) (Nat.le_of_ble_eq_true rfl) (fun X hN hC => ?_)
  show zG X 0 [some (.inr t), some (.inl (.int kd')), some (.inl (.int a)), some (.inl (.int b))] [] M 0 0
  refine s_FT_setKind_0 hC _ _ _ _ _ ?_
  have i0 : vp_in 0 4 := by unfold vp_in; decide
  have i1 : vp_in 1 4 := by unfold vp_in; decide
  simp only [B_FT_setKind_0, B_FT_setKind_14, B_FT_setKind_15, co_FT_setKind, i_ic, i_lc, i_nul, i_il, i_ll, i_al, i_is, i_as, i_ls, i_inc, i_iadd, i_isub, i_imul, i_iand, i_ior, i_ixor, i_idiv, i_irem, i_ishl, i_ishr, i_ladd, i_lsub, i_land, i_lor, i_i2l, i_lushr, i_lshl, i_lshr, i_lcmp, i_dup, i_pop, i_dx1, i_dup2, i_ifeq, i_ifne, i_iflt, i_ifge, i_ifgt, i_ifle, i_iceq, i_icne, i_iclt, i_icge, i_icgt, i_icle, i_ifn, i_gf, i_pf, i_ial, i_bal, i_lal, i_aal, i_ias, i_las, i_bas, i_aas, i_alen, i_newa, i_new, i_anew, i_cast, i_oi, i_call, i_callV, i_callV2, i_callI, i_iret, i_zret, i_lret, i_vret, i_aret, i_mmx, i_mmn, i_gsE, i_aceq, i_no, i_acq, i_sw, zsw, zlg, zls, znl, zfg, zcs, zsp, zrc, zisn, zft, zc1, zto, Value.category, List.set_cons_zero, List.set_cons_succ, List.length_cons, List.length_nil, Option.toList, List.nil_append, List.cons_append, true_and, and_true, Nat.add_zero, Nat.zero_le, Nat.zero_add, Nat.le_refl, Nat.reduceAdd, Nat.reduceLeDiff, co0, z0, zn_0, zn_1, zn_2, zn_3, zn_4, zn_5, zn_8, zn_12, zn_24, zn_121, zn_144, zn_256, zn_300, zn_600, zn_720, zn_1204, zn_1280, zn_2400, zn_4816, zn_14400, zn_90000, h1, h2, zup_s, zup_zup, zup_o (Ne.symm hne), zup_o hne]
  refine ⟨hm, by decide, fun hk => ⟨hm, by decide, hq, i0, hq, i1, ?_⟩, fun hk => ⟨hm, by decide, hq, i0, hq, i1, ?_⟩⟩
  · rw [if_neg hk] at hR; exact hR
  · rw [if_pos hk] at hR; exact hR
noncomputable def ft_has (sz : Nat) (g : Nat → Int32) (v : Int32) : Bool := zd (∃ i, i < sz ∧ g i = v)
def T_FT_hasNumber (As : List zAV) (M : zMp) (Rt : Option zAV → zMp → Prop) : Prop := ∃ t q kd sz g v, As = [.inr t, .inl (.int v)] ∧ zfte M t q kd sz g ∧ Rt (some (.inl (.int (zb (ft_has sz g v))))) M
abbrev co_FT_hasNumber := co0
theorem dX0_hasNumber_0 : decode cX0_hasNumber 0 = .ok (.iconst 0, 1) := by decide +kernel
theorem dX0_hasNumber_1 : decode cX0_hasNumber 1 = .ok (.istore_n 2, 1) := by decide +kernel
theorem dX0_hasNumber_2 : decode cX0_hasNumber 2 = .ok (.iload_n 2, 1) := by decide +kernel
theorem dX0_hasNumber_3 : decode cX0_hasNumber 3 = .ok (.aload_n 0, 1) := by decide +kernel
theorem dX0_hasNumber_4 : decode cX0_hasNumber 4 = .ok (.getfield 19, 3) := by decide +kernel
theorem dX0_hasNumber_7 : decode cX0_hasNumber 7 = .ok (.if_icmp .ge 21, 3) := by decide +kernel
theorem dX0_hasNumber_10 : decode cX0_hasNumber 10 = .ok (.aload_n 0, 1) := by decide +kernel
theorem dX0_hasNumber_11 : decode cX0_hasNumber 11 = .ok (.getfield 15, 3) := by decide +kernel
theorem dX0_hasNumber_14 : decode cX0_hasNumber 14 = .ok (.iload_n 2, 1) := by decide +kernel
theorem dX0_hasNumber_15 : decode cX0_hasNumber 15 = .ok (.iaload, 1) := by decide +kernel
theorem dX0_hasNumber_16 : decode cX0_hasNumber 16 = .ok (.iload_n 1, 1) := by decide +kernel
theorem dX0_hasNumber_17 : decode cX0_hasNumber 17 = .ok (.if_icmp .ne 5, 3) := by decide +kernel
theorem dX0_hasNumber_20 : decode cX0_hasNumber 20 = .ok (.iconst 1, 1) := by decide +kernel
theorem dX0_hasNumber_21 : decode cX0_hasNumber 21 = .ok (.ireturn, 1) := by decide +kernel
theorem dX0_hasNumber_22 : decode cX0_hasNumber 22 = .ok (.iinc 2 1, 3) := by decide +kernel
theorem dX0_hasNumber_25 : decode cX0_hasNumber 25 = .ok (.goto (-23), 3) := by decide +kernel
theorem dX0_hasNumber_28 : decode cX0_hasNumber 28 = .ok (.iconst 0, 1) := by decide +kernel
theorem dX0_hasNumber_29 : decode cX0_hasNumber 29 = .ok (.ireturn, 1) := by decide +kernel
def B_FT_hasNumber_28 (mc ms : Nat) (Rt : Option zAV → zMp → Prop) (g : Nat → zKT) : zKT :=
  (i_ic 0 (i_zret mc ms Rt))
set_option maxRecDepth 20000 in
theorem s_FT_hasNumber_28 {X : zMa} {mc ms : Nat} {Rt : Option zAV → zMp → Prop} (hC : zCx X RX0 cX0_hasNumber 0 0 mc ms (some .boolean) false Rt) (hN : zNL X = 3) : zLe (B_FT_hasNumber_28 mc ms Rt (zG X)) (zG X 28) :=
  (sd_iconst hC (by decide) dX0_hasNumber_28 ((sd_zret hC dX0_hasNumber_29)))
def B_FT_hasNumber_22 (mc ms : Nat) (Rt : Option zAV → zMp → Prop) (g : Nat → zKT) : zKT :=
  (i_inc 2 1 (g 2))
set_option maxRecDepth 20000 in
theorem s_FT_hasNumber_22 {X : zMa} {mc ms : Nat} {Rt : Option zAV → zMp → Prop} (hC : zCx X RX0 cX0_hasNumber 0 0 mc ms (some .boolean) false Rt) (hN : zNL X = 3) : zLe (B_FT_hasNumber_22 mc ms Rt (zG X)) (zG X 22) :=
  (sd_inc hC (by decide) (by rw [hN]; decide) dX0_hasNumber_22 ((sd_goto hC (tgt := 2) (by decide) dX0_hasNumber_25 (zLe_rfl))))
def B_FT_hasNumber_2 (mc ms : Nat) (Rt : Option zAV → zMp → Prop) (g : Nat → zKT) : zKT :=
  (i_il 2 (i_al 0 (i_gf 1 2 (i_icge (B_FT_hasNumber_28 mc ms Rt g) (i_al 0 (i_gf 1 1 (i_il 2 (i_ial (i_il 1 (i_icne (B_FT_hasNumber_22 mc ms Rt g) (i_ic 1 (i_zret mc ms Rt))))))))))))
set_option maxRecDepth 20000 in
theorem s_FT_hasNumber_2 {X : zMa} {mc ms : Nat} {Rt : Option zAV → zMp → Prop} (hC : zCx X RX0 cX0_hasNumber 0 0 mc ms (some .boolean) false Rt) (hN : zNL X = 3) : zLe (B_FT_hasNumber_2 mc ms Rt (zG X)) (zG X 2) :=
  (sd_il_n hC rfl dX0_hasNumber_2 ((sd_al_n hC rfl dX0_hasNumber_3 ((sd_gf hC (ci := 1) (fk := 2) rfl wi_FT (by decide) fl_FT_19 (Or.inl rfl) dX0_hasNumber_4 ((sd_icge hC (tgt := 28) (by decide) dX0_hasNumber_7 (s_FT_hasNumber_28 hC hN) ((sd_al_n hC rfl dX0_hasNumber_10 ((sd_gf hC (ci := 1) (fk := 1) rfl wi_FT (by decide) fl_FT_15 (Or.inl rfl) dX0_hasNumber_11 ((sd_il_n hC rfl dX0_hasNumber_14 ((sd_ial hC dX0_hasNumber_15 ((sd_il_n hC rfl dX0_hasNumber_16 ((sd_icne hC (tgt := 22) (by decide) dX0_hasNumber_17 (s_FT_hasNumber_22 hC hN) ((sd_iconst hC (by decide) dX0_hasNumber_20 ((sd_zret hC dX0_hasNumber_21)))))))))))))))))))))))
def B_FT_hasNumber_0 (mc ms : Nat) (Rt : Option zAV → zMp → Prop) (g : Nat → zKT) : zKT :=
  (i_ic 0 (i_is 2 (g 2)))
set_option maxRecDepth 20000 in
theorem s_FT_hasNumber_0 {X : zMa} {mc ms : Nat} {Rt : Option zAV → zMp → Prop} (hC : zCx X RX0 cX0_hasNumber 0 0 mc ms (some .boolean) false Rt) (hN : zNL X = 3) : zLe (B_FT_hasNumber_0 mc ms Rt (zG X)) (zG X 0) :=
  (sd_iconst hC (by decide) dX0_hasNumber_0 ((sd_is_n hC rfl (by rw [hN]; decide) dX0_hasNumber_1 (zLe_rfl))))
theorem c_FT_hasNumber (l : Launch) : zCT l yX0_hasNumber cX0_hasNumber 3 (some .boolean) 0 0 T_FT_hasNumber co_FT_hasNumber := by
  intro As M Rt hT
  obtain ⟨t, q, kd, sz, g, v, rfl, ⟨h1, h2, h3⟩, hR⟩ := hT
  refine zMet_of false (by decide +kernel) (fun h => by first | rfl | cases h) (Nat.le_of_ble_eq_true rfl) (fun X hN hC => ?_)
  show zG X 0 [some (.inr t), some (.inl (.int v)), none] [] M 0 0
  have loop := upto (N := sz) (P := fun i => (∀ j, j < i → ¬ g j = v) → zG X 2 [some (.inr t), some (.inl (.int v)), some (.inl (.int (nI i)))] [] M 0 0) (fun i hi ih hp => by
    refine s_FT_hasNumber_2 hC hN _ _ _ _ _ ?_
    simp only [B_FT_hasNumber_0, B_FT_hasNumber_2, B_FT_hasNumber_22, B_FT_hasNumber_28, co_FT_hasNumber, i_ic, i_lc, i_nul, i_il, i_ll, i_al, i_is, i_as, i_ls, i_inc, i_iadd, i_isub, i_imul, i_iand, i_ior, i_ixor, i_idiv, i_irem, i_ishl, i_ishr, i_ladd, i_lsub, i_land, i_lor, i_i2l, i_lushr, i_lshl, i_lshr, i_lcmp, i_dup, i_pop, i_dx1, i_dup2, i_ifeq, i_ifne, i_iflt, i_ifge, i_ifgt, i_ifle, i_iceq, i_icne, i_iclt, i_icge, i_icgt, i_icle, i_ifn, i_gf, i_pf, i_ial, i_bal, i_lal, i_aal, i_ias, i_las, i_bas, i_aas, i_alen, i_newa, i_new, i_anew, i_cast, i_oi, i_call, i_callV, i_callV2, i_callI, i_iret, i_zret, i_lret, i_vret, i_aret, i_mmx, i_mmn, i_gsE, i_aceq, i_no, i_acq, i_sw, zsw, zlg, zls, znl, zfg, zcs, zsp, zrc, zisn, zft, zc1, zto, Value.category, List.set_cons_zero, List.set_cons_succ, List.length_cons, List.length_nil, Option.toList, List.nil_append, List.cons_append, true_and, and_true, Nat.add_zero, Nat.zero_le, Nat.zero_add, Nat.le_refl, Nat.reduceAdd, Nat.reduceLeDiff, co0, z0, zn_0, zn_1, zn_2, zn_3, zn_4, zn_5, zn_8, zn_12, zn_24, zn_121, zn_144, zn_256, zn_300, zn_600, zn_720, zn_1204, zn_1280, zn_2400, zn_4816, zn_14400, zn_90000, h1, h2]
    rw [nI_clamp (by omega), nI_1]
    refine ⟨fun h => absurd ((zK (K := sz) (by omega) (n := i) (by omega)).2.1.mp h) (by omega), fun _ => ⟨vp_in_nI (by omega) (by decide), fun hn => ih (lt_s hp hn), fun he => ⟨by decide, ?_⟩⟩⟩
    have : ft_has sz g v = true := zd_t ⟨i, hi, he⟩
    rw [this] at hR
    exact hR) (fun hp => by
    refine s_FT_hasNumber_2 hC hN _ _ _ _ _ ?_
    simp only [B_FT_hasNumber_0, B_FT_hasNumber_2, B_FT_hasNumber_22, B_FT_hasNumber_28, co_FT_hasNumber, i_ic, i_lc, i_nul, i_il, i_ll, i_al, i_is, i_as, i_ls, i_inc, i_iadd, i_isub, i_imul, i_iand, i_ior, i_ixor, i_idiv, i_irem, i_ishl, i_ishr, i_ladd, i_lsub, i_land, i_lor, i_i2l, i_lushr, i_lshl, i_lshr, i_lcmp, i_dup, i_pop, i_dx1, i_dup2, i_ifeq, i_ifne, i_iflt, i_ifge, i_ifgt, i_ifle, i_iceq, i_icne, i_iclt, i_icge, i_icgt, i_icle, i_ifn, i_gf, i_pf, i_ial, i_bal, i_lal, i_aal, i_ias, i_las, i_bas, i_aas, i_alen, i_newa, i_new, i_anew, i_cast, i_oi, i_call, i_callV, i_callV2, i_callI, i_iret, i_zret, i_lret, i_vret, i_aret, i_mmx, i_mmn, i_gsE, i_aceq, i_no, i_acq, i_sw, zsw, zlg, zls, znl, zfg, zcs, zsp, zrc, zisn, zft, zc1, zto, Value.category, List.set_cons_zero, List.set_cons_succ, List.length_cons, List.length_nil, Option.toList, List.nil_append, List.cons_append, true_and, and_true, Nat.add_zero, Nat.zero_le, Nat.zero_add, Nat.le_refl, Nat.reduceAdd, Nat.reduceLeDiff, co0, z0, zn_0, zn_1, zn_2, zn_3, zn_4, zn_5, zn_8, zn_12, zn_24, zn_121, zn_144, zn_256, zn_300, zn_600, zn_720, zn_1204, zn_1280, zn_2400, zn_4816, zn_14400, zn_90000, h1, h2]
    refine ⟨fun _ => ⟨by decide, ?_⟩, fun h => absurd ((zK (K := sz) (by omega) (n := sz) (by omega)).2.1.mpr (Nat.le_refl _)) h⟩
    have : ft_has sz g v = false := zd_f (fun ⟨i, hi, he⟩ => hp i hi he)
    rw [this] at hR
    exact hR) 0 (Nat.zero_le _)
  refine s_FT_hasNumber_0 hC hN _ _ _ _ _ ?_
  simp only [B_FT_hasNumber_0, B_FT_hasNumber_2, B_FT_hasNumber_22, B_FT_hasNumber_28, co_FT_hasNumber, i_ic, i_lc, i_nul, i_il, i_ll, i_al, i_is, i_as, i_ls, i_inc, i_iadd, i_isub, i_imul, i_iand, i_ior, i_ixor, i_idiv, i_irem, i_ishl, i_ishr, i_ladd, i_lsub, i_land, i_lor, i_i2l, i_lushr, i_lshl, i_lshr, i_lcmp, i_dup, i_pop, i_dx1, i_dup2, i_ifeq, i_ifne, i_iflt, i_ifge, i_ifgt, i_ifle, i_iceq, i_icne, i_iclt, i_icge, i_icgt, i_icle, i_ifn, i_gf, i_pf, i_ial, i_bal, i_lal, i_aal, i_ias, i_las, i_bas, i_aas, i_alen, i_newa, i_new, i_anew, i_cast, i_oi, i_call, i_callV, i_callV2, i_callI, i_iret, i_zret, i_lret, i_vret, i_aret, i_mmx, i_mmn, i_gsE, i_aceq, i_no, i_acq, i_sw, zsw, zlg, zls, znl, zfg, zcs, zsp, zrc, zisn, zft, zc1, zto, Value.category, List.set_cons_zero, List.set_cons_succ, List.length_cons, List.length_nil, Option.toList, List.nil_append, List.cons_append, true_and, and_true, Nat.add_zero, Nat.zero_le, Nat.zero_add, Nat.le_refl, Nat.reduceAdd, Nat.reduceLeDiff, co0, z0, zn_0, zn_1, zn_2, zn_3, zn_4, zn_5, zn_8, zn_12, zn_24, zn_121, zn_144, zn_256, zn_300, zn_600, zn_720, zn_1204, zn_1280, zn_2400, zn_4816, zn_14400, zn_90000]
  exact loop (fun j hj => absurd hj (Nat.not_lt_zero j))
/-- the place from at on, downwards -/
def ft_ins (v : Int32) : Nat → (Nat → Int32) → (Nat → Int32)
  | 0, g => upd g 0 v
  | at0 + 1, g => if v < g at0 then ft_ins v at0 (upd g (at0 + 1) (g at0)) else upd g (at0 + 1) v
/-- what addNumber makes of kind, size, numbers; and whether it does -/
noncomputable def ft_can (kd : Int32) (sz : Nat) (g : Nat → Int32) (v : Int32) : Bool := zd (¬ kd = 3 ∨ (sz < 4 ∧ ft_has sz g v = false))
def T_FT_addNumber (As : List zAV) (M : zMp) (Rt : Option zAV → zMp → Prop) : Prop := ∃ t q kd sz g v, As = [.inr t, .inl (.int v)] ∧ zmo t ∧ zmo q ∧ zfte M t q kd sz g ∧ (ft_can kd sz g v = false → Rt (some (.inl (.int 0))) M) ∧ (ft_can kd sz g v = true → Rt (some (.inl (.int 1))) (zup (zup M q (zin 4 (ft_ins v (if kd = 3 then sz else 0) g))) t (zfo 3 q ((if kd = 3 then sz else 0) + 1))))
abbrev co_FT_addNumber := co0
theorem dX0_addNumber_0 : decode cX0_addNumber 0 = .ok (.aload_n 0, 1) := by decide +kernel
theorem dX0_addNumber_1 : decode cX0_addNumber 1 = .ok (.getfield 9, 3) := by decide +kernel
theorem dX0_addNumber_4 : decode cX0_addNumber 4 = .ok (.iconst 3, 1) := by decide +kernel
theorem dX0_addNumber_5 : decode cX0_addNumber 5 = .ok (.if_icmp .eq 13, 3) := by decide +kernel
theorem dX0_addNumber_8 : decode cX0_addNumber 8 = .ok (.aload_n 0, 1) := by decide +kernel
theorem dX0_addNumber_9 : decode cX0_addNumber 9 = .ok (.iconst 3, 1) := by decide +kernel
theorem dX0_addNumber_10 : decode cX0_addNumber 10 = .ok (.putfield 9, 3) := by decide +kernel
theorem dX0_addNumber_13 : decode cX0_addNumber 13 = .ok (.aload_n 0, 1) := by decide +kernel
theorem dX0_addNumber_14 : decode cX0_addNumber 14 = .ok (.iconst 0, 1) := by decide +kernel
theorem dX0_addNumber_15 : decode cX0_addNumber 15 = .ok (.putfield 19, 3) := by decide +kernel
theorem dX0_addNumber_18 : decode cX0_addNumber 18 = .ok (.aload_n 0, 1) := by decide +kernel
theorem dX0_addNumber_19 : decode cX0_addNumber 19 = .ok (.getfield 19, 3) := by decide +kernel
theorem dX0_addNumber_22 : decode cX0_addNumber 22 = .ok (.iconst 4, 1) := by decide +kernel
theorem dX0_addNumber_23 : decode cX0_addNumber 23 = .ok (.if_icmp .ge 11, 3) := by decide +kernel
theorem dX0_addNumber_26 : decode cX0_addNumber 26 = .ok (.aload_n 0, 1) := by decide +kernel
theorem dX0_addNumber_27 : decode cX0_addNumber 27 = .ok (.iload_n 1, 1) := by decide +kernel
theorem dX0_addNumber_28 : decode cX0_addNumber 28 = .ok (.invokevirtual 22, 3) := by decide +kernel
theorem dX0_addNumber_31 : decode cX0_addNumber 31 = .ok (.ifCond .eq 5, 3) := by decide +kernel
theorem dX0_addNumber_34 : decode cX0_addNumber 34 = .ok (.iconst 0, 1) := by decide +kernel
theorem dX0_addNumber_35 : decode cX0_addNumber 35 = .ok (.ireturn, 1) := by decide +kernel
theorem dX0_addNumber_36 : decode cX0_addNumber 36 = .ok (.aload_n 0, 1) := by decide +kernel
theorem dX0_addNumber_37 : decode cX0_addNumber 37 = .ok (.getfield 19, 3) := by decide +kernel
theorem dX0_addNumber_40 : decode cX0_addNumber 40 = .ok (.istore_n 2, 1) := by decide +kernel
theorem dX0_addNumber_41 : decode cX0_addNumber 41 = .ok (.iload_n 2, 1) := by decide +kernel
theorem dX0_addNumber_42 : decode cX0_addNumber 42 = .ok (.ifCond .le 35, 3) := by decide +kernel
theorem dX0_addNumber_45 : decode cX0_addNumber 45 = .ok (.aload_n 0, 1) := by decide +kernel
theorem dX0_addNumber_46 : decode cX0_addNumber 46 = .ok (.getfield 15, 3) := by decide +kernel
theorem dX0_addNumber_49 : decode cX0_addNumber 49 = .ok (.iload_n 2, 1) := by decide +kernel
theorem dX0_addNumber_50 : decode cX0_addNumber 50 = .ok (.iconst 1, 1) := by decide +kernel
theorem dX0_addNumber_51 : decode cX0_addNumber 51 = .ok (.isub, 1) := by decide +kernel
theorem dX0_addNumber_52 : decode cX0_addNumber 52 = .ok (.iaload, 1) := by decide +kernel
theorem dX0_addNumber_53 : decode cX0_addNumber 53 = .ok (.iload_n 1, 1) := by decide +kernel
theorem dX0_addNumber_54 : decode cX0_addNumber 54 = .ok (.if_icmp .le 23, 3) := by decide +kernel
theorem dX0_addNumber_57 : decode cX0_addNumber 57 = .ok (.aload_n 0, 1) := by decide +kernel
theorem dX0_addNumber_58 : decode cX0_addNumber 58 = .ok (.getfield 15, 3) := by decide +kernel
theorem dX0_addNumber_61 : decode cX0_addNumber 61 = .ok (.iload_n 2, 1) := by decide +kernel
theorem dX0_addNumber_62 : decode cX0_addNumber 62 = .ok (.aload_n 0, 1) := by decide +kernel
theorem dX0_addNumber_63 : decode cX0_addNumber 63 = .ok (.getfield 15, 3) := by decide +kernel
theorem dX0_addNumber_66 : decode cX0_addNumber 66 = .ok (.iload_n 2, 1) := by decide +kernel
theorem dX0_addNumber_67 : decode cX0_addNumber 67 = .ok (.iconst 1, 1) := by decide +kernel
theorem dX0_addNumber_68 : decode cX0_addNumber 68 = .ok (.isub, 1) := by decide +kernel
theorem dX0_addNumber_69 : decode cX0_addNumber 69 = .ok (.iaload, 1) := by decide +kernel
theorem dX0_addNumber_70 : decode cX0_addNumber 70 = .ok (.iastore, 1) := by decide +kernel
theorem dX0_addNumber_71 : decode cX0_addNumber 71 = .ok (.iinc 2 (-1), 3) := by decide +kernel
theorem dX0_addNumber_74 : decode cX0_addNumber 74 = .ok (.goto (-33), 3) := by decide +kernel
theorem dX0_addNumber_77 : decode cX0_addNumber 77 = .ok (.aload_n 0, 1) := by decide +kernel
theorem dX0_addNumber_78 : decode cX0_addNumber 78 = .ok (.getfield 15, 3) := by decide +kernel
theorem dX0_addNumber_81 : decode cX0_addNumber 81 = .ok (.iload_n 2, 1) := by decide +kernel
theorem dX0_addNumber_82 : decode cX0_addNumber 82 = .ok (.iload_n 1, 1) := by decide +kernel
theorem dX0_addNumber_83 : decode cX0_addNumber 83 = .ok (.iastore, 1) := by decide +kernel
theorem dX0_addNumber_84 : decode cX0_addNumber 84 = .ok (.aload_n 0, 1) := by decide +kernel
theorem dX0_addNumber_85 : decode cX0_addNumber 85 = .ok (.dup, 1) := by decide +kernel
theorem dX0_addNumber_86 : decode cX0_addNumber 86 = .ok (.getfield 19, 3) := by decide +kernel
theorem dX0_addNumber_89 : decode cX0_addNumber 89 = .ok (.iconst 1, 1) := by decide +kernel
theorem dX0_addNumber_90 : decode cX0_addNumber 90 = .ok (.iadd, 1) := by decide +kernel
theorem dX0_addNumber_91 : decode cX0_addNumber 91 = .ok (.putfield 19, 3) := by decide +kernel
theorem dX0_addNumber_94 : decode cX0_addNumber 94 = .ok (.iconst 1, 1) := by decide +kernel
theorem dX0_addNumber_95 : decode cX0_addNumber 95 = .ok (.ireturn, 1) := by decide +kernel
def B_FT_addNumber_77 (mc ms : Nat) (Rt : Option zAV → zMp → Prop) (g : Nat → zKT) : zKT :=
  (i_al 0 (i_gf 1 1 (i_il 2 (i_il 1 (i_ias (i_al 0 (i_dup (i_gf 1 2 (i_ic 1 (i_iadd (i_pf 1 2 .int (i_ic 1 (i_zret mc ms Rt)))))))))))))
set_option maxRecDepth 20000 in
theorem s_FT_addNumber_77 {X : zMa} {mc ms : Nat} {Rt : Option zAV → zMp → Prop} (hC : zCx X RX0 cX0_addNumber 1 22 mc ms (some .boolean) false Rt) (hN : zNL X = 3) : zLe (B_FT_addNumber_77 mc ms Rt (zG X)) (zG X 77) :=
  (sd_al_n hC rfl dX0_addNumber_77 ((sd_gf hC (ci := 1) (fk := 1) rfl wi_FT (by decide) fl_FT_15 (Or.inl rfl) dX0_addNumber_78 ((sd_il_n hC rfl dX0_addNumber_81 ((sd_il_n hC rfl dX0_addNumber_82 ((sd_ias hC dX0_addNumber_83 ((sd_al_n hC rfl dX0_addNumber_84 ((sd_dup hC dX0_addNumber_85 ((sd_gf hC (ci := 1) (fk := 2) rfl wi_FT (by decide) fl_FT_19 (Or.inl rfl) dX0_addNumber_86 ((sd_iconst hC (by decide) dX0_addNumber_89 ((sd_iadd hC dX0_addNumber_90 ((sd_pf hC (ci := 1) (fk := 2) rfl wi_FT tyX0 tyX0_ok nmX0 (by decide) fl_FT_19 (Or.inl rfl) (Or.inl rfl) dX0_addNumber_91 ((sd_iconst hC (by decide) dX0_addNumber_94 ((sd_zret hC dX0_addNumber_95)))))))))))))))))))))))))
def B_FT_addNumber_41 (mc ms : Nat) (Rt : Option zAV → zMp → Prop) (g : Nat → zKT) : zKT :=
  (i_il 2 (i_ifle (B_FT_addNumber_77 mc ms Rt g) (i_al 0 (i_gf 1 1 (i_il 2 (i_ic 1 (i_isub (i_ial (i_il 1 (i_icle (B_FT_addNumber_77 mc ms Rt g) (i_al 0 (i_gf 1 1 (i_il 2 (i_al 0 (i_gf 1 1 (i_il 2 (i_ic 1 (i_isub (i_ial (i_ias (i_inc 2 (-1) (g 41))))))))))))))))))))))
set_option maxRecDepth 20000 in
theorem s_FT_addNumber_41 {X : zMa} {mc ms : Nat} {Rt : Option zAV → zMp → Prop} (hC : zCx X RX0 cX0_addNumber 1 22 mc ms (some .boolean) false Rt) (hN : zNL X = 3) : zLe (B_FT_addNumber_41 mc ms Rt (zG X)) (zG X 41) :=
  (sd_il_n hC rfl dX0_addNumber_41 ((sd_ifle hC (tgt := 77) (by decide) dX0_addNumber_42 (s_FT_addNumber_77 hC hN) ((sd_al_n hC rfl dX0_addNumber_45 ((sd_gf hC (ci := 1) (fk := 1) rfl wi_FT (by decide) fl_FT_15 (Or.inl rfl) dX0_addNumber_46 ((sd_il_n hC rfl dX0_addNumber_49 ((sd_iconst hC (by decide) dX0_addNumber_50 ((sd_isub hC dX0_addNumber_51 ((sd_ial hC dX0_addNumber_52 ((sd_il_n hC rfl dX0_addNumber_53 ((sd_icle hC (tgt := 77) (by decide) dX0_addNumber_54 (s_FT_addNumber_77 hC hN) ((sd_al_n hC rfl dX0_addNumber_57 ((sd_gf hC (ci := 1) (fk := 1) rfl wi_FT (by decide) fl_FT_15 (Or.inl rfl) dX0_addNumber_58 ((sd_il_n hC rfl dX0_addNumber_61 ((sd_al_n hC rfl dX0_addNumber_62 ((sd_gf hC (ci := 1) (fk := 1) rfl wi_FT (by decide) fl_FT_15 (Or.inl rfl) dX0_addNumber_63 ((sd_il_n hC rfl dX0_addNumber_66 ((sd_iconst hC (by decide) dX0_addNumber_67 ((sd_isub hC dX0_addNumber_68 ((sd_ial hC dX0_addNumber_69 ((sd_ias hC dX0_addNumber_70 ((sd_inc hC (by decide) (by rw [hN]; decide) dX0_addNumber_71 ((sd_goto hC (tgt := 41) (by decide) dX0_addNumber_74 (zLe_rfl))))))))))))))))))))))))))))))))))))))))))))
def B_FT_addNumber_36 (mc ms : Nat) (Rt : Option zAV → zMp → Prop) (g : Nat → zKT) : zKT :=
  (i_al 0 (i_gf 1 2 (i_is 2 (g 41))))
set_option maxRecDepth 20000 in
theorem s_FT_addNumber_36 {X : zMa} {mc ms : Nat} {Rt : Option zAV → zMp → Prop} (hC : zCx X RX0 cX0_addNumber 1 22 mc ms (some .boolean) false Rt) (hN : zNL X = 3) : zLe (B_FT_addNumber_36 mc ms Rt (zG X)) (zG X 36) :=
  (sd_al_n hC rfl dX0_addNumber_36 ((sd_gf hC (ci := 1) (fk := 2) rfl wi_FT (by decide) fl_FT_19 (Or.inl rfl) dX0_addNumber_37 ((sd_is_n hC rfl (by rw [hN]; decide) dX0_addNumber_40 (zLe_rfl))))))
def B_FT_addNumber_34 (mc ms : Nat) (Rt : Option zAV → zMp → Prop) (g : Nat → zKT) : zKT :=
  (i_ic 0 (i_zret mc ms Rt))
set_option maxRecDepth 20000 in
theorem s_FT_addNumber_34 {X : zMa} {mc ms : Nat} {Rt : Option zAV → zMp → Prop} (hC : zCx X RX0 cX0_addNumber 1 22 mc ms (some .boolean) false Rt) (hN : zNL X = 3) : zLe (B_FT_addNumber_34 mc ms Rt (zG X)) (zG X 34) :=
  (sd_iconst hC (by decide) dX0_addNumber_34 ((sd_zret hC dX0_addNumber_35)))
def B_FT_addNumber_18 (mc ms : Nat) (Rt : Option zAV → zMp → Prop) (g : Nat → zKT) : zKT :=
  (i_al 0 (i_gf 1 2 (i_ic 4 (i_icge (B_FT_addNumber_34 mc ms Rt g) (i_al 0 (i_il 1 (i_callV mc ms 1 2 T_FT_hasNumber co_FT_hasNumber (i_ifeq (B_FT_addNumber_36 mc ms Rt g) (B_FT_addNumber_34 mc ms Rt g)))))))))
set_option maxRecDepth 20000 in
theorem s_FT_addNumber_18 {X : zMa} {mc ms : Nat} {Rt : Option zAV → zMp → Prop} (hC : zCx X RX0 cX0_addNumber 1 22 mc ms (some .boolean) false Rt) (hN : zNL X = 3) : zLe (B_FT_addNumber_18 mc ms Rt (zG X)) (zG X 18) :=
  (sd_al_n hC rfl dX0_addNumber_18 ((sd_gf hC (ci := 1) (fk := 2) rfl wi_FT (by decide) fl_FT_19 (Or.inl rfl) dX0_addNumber_19 ((sd_iconst hC (by decide) dX0_addNumber_22 ((sd_icge hC (tgt := 34) (by decide) dX0_addNumber_23 (s_FT_addNumber_34 hC hN) ((sd_al_n hC rfl dX0_addNumber_26 ((sd_il_n hC rfl dX0_addNumber_27 ((sd_cV hC c_FT_hasNumber yv_FT_hasNumber (ci := 1) rfl rfl ml_FT_22 (by decide) (by decide) dX0_addNumber_28 ((sd_ifeq hC (tgt := 36) (by decide) dX0_addNumber_31 (s_FT_addNumber_36 hC hN) (s_FT_addNumber_34 hC hN))))))))))))))))
def B_FT_addNumber_0 (mc ms : Nat) (Rt : Option zAV → zMp → Prop) (g : Nat → zKT) : zKT :=
  (i_al 0 (i_gf 1 0 (i_ic 3 (i_iceq (B_FT_addNumber_18 mc ms Rt g) (i_al 0 (i_ic 3 (i_pf 1 0 .int (i_al 0 (i_ic 0 (i_pf 1 2 .int (B_FT_addNumber_18 mc ms Rt g)))))))))))
set_option maxRecDepth 20000 in
theorem s_FT_addNumber_0 {X : zMa} {mc ms : Nat} {Rt : Option zAV → zMp → Prop} (hC : zCx X RX0 cX0_addNumber 1 22 mc ms (some .boolean) false Rt) (hN : zNL X = 3) : zLe (B_FT_addNumber_0 mc ms Rt (zG X)) (zG X 0) :=
  (sd_al_n hC rfl dX0_addNumber_0 ((sd_gf hC (ci := 1) (fk := 0) rfl wi_FT (by decide) fl_FT_9 (Or.inl rfl) dX0_addNumber_1 ((sd_iconst hC (by decide) dX0_addNumber_4 ((sd_iceq hC (tgt := 18) (by decide) dX0_addNumber_5 (s_FT_addNumber_18 hC hN) ((sd_al_n hC rfl dX0_addNumber_8 ((sd_iconst hC (by decide) dX0_addNumber_9 ((sd_pf hC (ci := 1) (fk := 0) rfl wi_FT tyX0 tyX0_ok nmX0 (by decide) fl_FT_9 (Or.inl rfl) (Or.inl rfl) dX0_addNumber_10 ((sd_al_n hC rfl dX0_addNumber_13 ((sd_iconst hC (by decide) dX0_addNumber_14 ((sd_pf hC (ci := 1) (fk := 2) rfl wi_FT tyX0 tyX0_ok nmX0 (by decide) fl_FT_19 (Or.inl rfl) (Or.inl rfl) dX0_addNumber_15 (s_FT_addNumber_18 hC hN))))))))))))))))))))
theorem c_FT_addNumber (l : Launch) : zCT l yX0_addNumber cX0_addNumber 3 (some .boolean) 1 22 T_FT_addNumber co_FT_addNumber := by
  intro As M Rt hT
  obtain ⟨t, q, kd, sz, g, v, rfl, hm, hq, ⟨h1, h2, h3⟩, hR0, hR1⟩ := hT
  have hne : t ≠ q := zdf h1 h2 (by simp)
  refine zMet_of false (by decide +kernel) (fun h => by first | rfl | cases h) (Nat.le_of_ble_eq_true rfl) (fun X hN hC => ?_)
  show zG X 0 [some (.inr t), some (.inl (.int v)), none] [] M 0 0
  -- the loop, for a size n below 4
  have loop : ∀ (n : Nat), n < 4 → ∀ (M1 : zMp), M1 t = some (zfo 3 q n) → ∀ (a : Nat) (g' : Nat → Int32), a ≤ n → Rt (some (.inl (.int 1))) (zup (zup M1 q (zin 4 (ft_ins v a g'))) t (zfo 3 q (n + 1))) → zG X 41 [some (.inr t), some (.inl (.int v)), some (.inl (.int (nI a)))] [] (zup M1 q (zin 4 g')) 0 0 := by
    intro n hn M1 ht a
    induction a with
    | zero =>
      intro g' _ hr
      refine s_FT_addNumber_41 hC hN _ _ _ _ _ ?_
      simp only [B_FT_addNumber_0, B_FT_addNumber_18, B_FT_addNumber_34, B_FT_addNumber_36, B_FT_addNumber_41, B_FT_addNumber_77, co_FT_addNumber, co_FT_hasNumber, i_ic, i_lc, i_nul, i_il, i_ll, i_al, i_is, i_as, i_ls, i_inc, i_iadd, i_isub, i_imul, i_iand, i_ior, i_ixor, i_idiv, i_irem, i_ishl, i_ishr, i_ladd, i_lsub, i_land, i_lor, i_i2l, i_lushr, i_lshl, i_lshr, i_lcmp, i_dup, i_pop, i_dx1, i_dup2, i_ifeq, i_ifne, i_iflt, i_ifge, i_ifgt, i_ifle, i_iceq, i_icne, i_iclt, i_icge, i_icgt, i_icle, i_ifn, i_gf, i_pf, i_ial, i_bal, i_lal, i_aal, i_ias, i_las, i_bas, i_aas, i_alen, i_newa, i_new, i_anew, i_cast, i_oi, i_call, i_callV, i_callV2, i_callI, i_iret, i_zret, i_lret, i_vret, i_aret, i_mmx, i_mmn, i_gsE, i_aceq, i_no, i_acq, i_sw, zsw, zlg, zls, znl, zfg, zcs, zsp, zrc, zisn, zft, zc1, zto, Value.category, List.set_cons_zero, List.set_cons_succ, List.length_cons, List.length_nil, Option.toList, List.nil_append, List.cons_append, true_and, and_true, Nat.add_zero, Nat.zero_le, Nat.zero_add, Nat.le_refl, Nat.reduceAdd, Nat.reduceLeDiff, co0, z0, zn_0, zn_1, zn_2, zn_3, zn_4, zn_5, zn_8, zn_12, zn_24, zn_121, zn_144, zn_256, zn_300, zn_600, zn_720, zn_1204, zn_1280, zn_2400, zn_4816, zn_14400, zn_90000, ht, zup_s, zup_zup, zup_o hne]
      refine ⟨fun _ => ⟨hq, vp_in_nI (by omega) (by decide), hm, by decide, ?_⟩, fun h => absurd (by decide) h⟩
      rw [nI_clamp (by omega), nI_1]
      exact ⟨by decide, hr⟩
    | succ a ih =>
      intro g' ha hr
      refine s_FT_addNumber_41 hC hN _ _ _ _ _ ?_
      simp only [B_FT_addNumber_0, B_FT_addNumber_18, B_FT_addNumber_34, B_FT_addNumber_36, B_FT_addNumber_41, B_FT_addNumber_77, co_FT_addNumber, co_FT_hasNumber, i_ic, i_lc, i_nul, i_il, i_ll, i_al, i_is, i_as, i_ls, i_inc, i_iadd, i_isub, i_imul, i_iand, i_ior, i_ixor, i_idiv, i_irem, i_ishl, i_ishr, i_ladd, i_lsub, i_land, i_lor, i_i2l, i_lushr, i_lshl, i_lshr, i_lcmp, i_dup, i_pop, i_dx1, i_dup2, i_ifeq, i_ifne, i_iflt, i_ifge, i_ifgt, i_ifle, i_iceq, i_icne, i_iclt, i_icge, i_icgt, i_icle, i_ifn, i_gf, i_pf, i_ial, i_bal, i_lal, i_aal, i_ias, i_las, i_bas, i_aas, i_alen, i_newa, i_new, i_anew, i_cast, i_oi, i_call, i_callV, i_callV2, i_callI, i_iret, i_zret, i_lret, i_vret, i_aret, i_mmx, i_mmn, i_gsE, i_aceq, i_no, i_acq, i_sw, zsw, zlg, zls, znl, zfg, zcs, zsp, zrc, zisn, zft, zc1, zto, Value.category, List.set_cons_zero, List.set_cons_succ, List.length_cons, List.length_nil, Option.toList, List.nil_append, List.cons_append, true_and, and_true, Nat.add_zero, Nat.zero_le, Nat.zero_add, Nat.le_refl, Nat.reduceAdd, Nat.reduceLeDiff, co0, z0, zn_0, zn_1, zn_2, zn_3, zn_4, zn_5, zn_8, zn_12, zn_24, zn_121, zn_144, zn_256, zn_300, zn_600, zn_720, zn_1204, zn_1280, zn_2400, zn_4816, zn_14400, zn_90000, ht, zup_s, zup_zup, zup_o hne]
      rw [nI_pred, nI_clamp (by omega), nI_clamp (by omega), nI_1, pk_m1]
      refine ⟨fun h => absurd h (nI_nle (by omega) (by omega)), fun _ => ⟨vp_in_nI (by omega) (by decide), fun hle => ⟨hq, vp_in_nI (by omega) (by decide), hm, by decide, by decide, ?_⟩, fun hgt => ⟨vp_in_nI (by omega) (by decide), hq, vp_in_nI (by omega) (by decide), ?_⟩⟩⟩
      · have : ¬ v < g' a := Int32.not_lt.mpr hle
        simp only [ft_ins, this, if_false] at hr
        exact hr
      · have : v < g' a := Int32.not_le.mp hgt
        simp only [ft_ins, this, if_true] at hr
        exact ih _ (by omega) hr
  refine s_FT_addNumber_0 hC hN _ _ _ _ _ ?_
  simp only [B_FT_addNumber_0, B_FT_addNumber_18, B_FT_addNumber_34, B_FT_addNumber_36, B_FT_addNumber_41, B_FT_addNumber_77, co_FT_addNumber, co_FT_hasNumber, i_ic, i_lc, i_nul, i_il, i_ll, i_al, i_is, i_as, i_ls, i_inc, i_iadd, i_isub, i_imul, i_iand, i_ior, i_ixor, i_idiv, i_irem, i_ishl, i_ishr, i_ladd, i_lsub, i_land, i_lor, i_i2l, i_lushr, i_lshl, i_lshr, i_lcmp, i_dup, i_pop, i_dx1, i_dup2, i_ifeq, i_ifne, i_iflt, i_ifge, i_ifgt, i_ifle, i_iceq, i_icne, i_iclt, i_icge, i_icgt, i_icle, i_ifn, i_gf, i_pf, i_ial, i_bal, i_lal, i_aal, i_ias, i_las, i_bas, i_aas, i_alen, i_newa, i_new, i_anew, i_cast, i_oi, i_call, i_callV, i_callV2, i_callI, i_iret, i_zret, i_lret, i_vret, i_aret, i_mmx, i_mmn, i_gsE, i_aceq, i_no, i_acq, i_sw, zsw, zlg, zls, znl, zfg, zcs, zsp, zrc, zisn, zft, zc1, zto, Value.category, List.set_cons_zero, List.set_cons_succ, List.length_cons, List.length_nil, Option.toList, List.nil_append, List.cons_append, true_and, and_true, Nat.add_zero, Nat.zero_le, Nat.zero_add, Nat.le_refl, Nat.reduceAdd, Nat.reduceLeDiff, co0, z0, zn_0, zn_1, zn_2, zn_3, zn_4, zn_5, zn_8, zn_12, zn_24, zn_121, zn_144, zn_256, zn_300, zn_600, zn_720, zn_1204, zn_1280, zn_2400, zn_4816, zn_14400, zn_90000, h1, h2, zup_s, zup_zup, zup_o (Ne.symm hne)]
  refine ⟨fun hk => ?_, fun hk => ?_⟩
  · subst hk
    simp only [if_true] at hR1
    refine ⟨fun hge => ⟨by decide, hR0 (zd_f ?_)⟩, fun hlt => ⟨t, q, 3, sz, g, v, rfl, ⟨h1, h2, h3⟩, fun hz => ?_, fun hz => ⟨by decide, hR0 (zd_f ?_)⟩⟩⟩
    · have := (zK (K := 4) (by decide) (n := sz) (by omega)).2.1.mp hge
      rintro (h | h)
      · exact h rfl
      · omega
    · have h4 : sz < 4 := by
        have : ¬ 4 ≤ sz := fun z => hlt ((zK (K := 4) (by decide) (n := sz) (by omega)).2.1.mpr z)
        omega
      have hr := hR1 (zd_t (Or.inr ⟨h4, zb_0.mp hz⟩))
      have hl := loop sz h4 M h1 sz g (Nat.le_refl _) hr
      rw [zup_self h2] at hl
      simp only [i_ic, i_lc, i_nul, i_il, i_ll, i_al, i_is, i_as, i_ls, i_inc, i_iadd, i_isub, i_imul, i_iand, i_ior, i_ixor, i_idiv, i_irem, i_ishl, i_ishr, i_ladd, i_lsub, i_land, i_lor, i_i2l, i_lushr, i_lshl, i_lshr, i_lcmp, i_dup, i_pop, i_dx1, i_dup2, i_ifeq, i_ifne, i_iflt, i_ifge, i_ifgt, i_ifle, i_iceq, i_icne, i_iclt, i_icge, i_icgt, i_icle, i_ifn, i_gf, i_pf, i_ial, i_bal, i_lal, i_aal, i_ias, i_las, i_bas, i_aas, i_alen, i_newa, i_new, i_anew, i_cast, i_oi, i_call, i_callV, i_callV2, i_callI, i_iret, i_zret, i_lret, i_vret, i_aret, i_mmx, i_mmn, i_gsE, i_aceq, i_no, i_acq, i_sw, zsw, zlg, zls, znl, zfg, zcs, zsp, zrc, zisn, zft, zc1, zto, Value.category, List.set_cons_zero, List.set_cons_succ, List.length_cons, List.length_nil, Option.toList, List.nil_append, List.cons_append, true_and, and_true, Nat.add_zero, Nat.zero_le, Nat.zero_add, Nat.le_refl, Nat.reduceAdd, Nat.reduceLeDiff, co0, z0, zn_0, zn_1, zn_2, zn_3, zn_4, zn_5, zn_8, zn_12, zn_24, zn_121, zn_144, zn_256, zn_300, zn_600, zn_720, zn_1204, zn_1280, zn_2400, zn_4816, zn_14400, zn_90000, h1]
      exact hl
    · rintro (h | h)
      · exact h rfl
      · exact hz (zb_0.mpr h.2)
  · have hr := hR1 (zd_t (Or.inl hk))
    simp only [if_neg hk] at hr
    have hfte : zfte (zup M t (zfo 3 q 0)) t q 3 0 g := ⟨zup_s, by rw [zup_o (Ne.symm hne)]; exact h2, by decide⟩
    have hh : ft_has 0 g v = false := zd_f (fun ⟨i, hi, _⟩ => absurd hi (Nat.not_lt_zero i))
    refine ⟨hm, by decide, hm, by decide, fun h => absurd h (by decide), fun _ => ⟨t, q, 3, 0, g, v, rfl, hfte, fun hz => ?_, fun hz => absurd (zb_0.mpr hh) hz⟩⟩
    have hl := loop 0 (by decide) (zup M t (zfo 3 q 0)) zup_s 0 g (Nat.le_refl _) (by rw [zup_comm hne, zup_zup]; exact hr)
    rw [zup_self (by rw [zup_o (Ne.symm hne)]; exact h2)] at hl
    simp only [i_ic, i_lc, i_nul, i_il, i_ll, i_al, i_is, i_as, i_ls, i_inc, i_iadd, i_isub, i_imul, i_iand, i_ior, i_ixor, i_idiv, i_irem, i_ishl, i_ishr, i_ladd, i_lsub, i_land, i_lor, i_i2l, i_lushr, i_lshl, i_lshr, i_lcmp, i_dup, i_pop, i_dx1, i_dup2, i_ifeq, i_ifne, i_iflt, i_ifge, i_ifgt, i_ifle, i_iceq, i_icne, i_iclt, i_icge, i_icgt, i_icle, i_ifn, i_gf, i_pf, i_ial, i_bal, i_lal, i_aal, i_ias, i_las, i_bas, i_aas, i_alen, i_newa, i_new, i_anew, i_cast, i_oi, i_call, i_callV, i_callV2, i_callI, i_iret, i_zret, i_lret, i_vret, i_aret, i_mmx, i_mmn, i_gsE, i_aceq, i_no, i_acq, i_sw, zsw, zlg, zls, znl, zfg, zcs, zsp, zrc, zisn, zft, zc1, zto, Value.category, List.set_cons_zero, List.set_cons_succ, List.length_cons, List.length_nil, Option.toList, List.nil_append, List.cons_append, true_and, and_true, Nat.add_zero, Nat.zero_le, Nat.zero_add, Nat.le_refl, Nat.reduceAdd, Nat.reduceLeDiff, co0, z0, zn_0, zn_1, zn_2, zn_3, zn_4, zn_5, zn_8, zn_12, zn_24, zn_121, zn_144, zn_256, zn_300, zn_600, zn_720, zn_1204, zn_1280, zn_2400, zn_4816, zn_14400, zn_90000, zup_s]
    exact hl
def ft_at (sz : Nat) (g : Nat → Int32) (j : Nat) : Int32 := if j < sz then g j else 0
def T_FT_numberAt (As : List zAV) (M : zMp) (Rt : Option zAV → zMp → Prop) : Prop := ∃ t q kd sz g j, As = [.inr t, .inl (.int (nI j))] ∧ j < 2 ^ 31 ∧ zfte M t q kd sz g ∧ Rt (some (.inl (.int (ft_at sz g j)))) M
abbrev co_FT_numberAt := co0
theorem dX0_numberAt_0 : decode cX0_numberAt 0 = .ok (.iload_n 1, 1) := by decide +kernel
theorem dX0_numberAt_1 : decode cX0_numberAt 1 = .ok (.ifCond .lt 20, 3) := by decide +kernel
theorem dX0_numberAt_4 : decode cX0_numberAt 4 = .ok (.iload_n 1, 1) := by decide +kernel
theorem dX0_numberAt_5 : decode cX0_numberAt 5 = .ok (.aload_n 0, 1) := by decide +kernel
theorem dX0_numberAt_6 : decode cX0_numberAt 6 = .ok (.getfield 19, 3) := by decide +kernel
theorem dX0_numberAt_9 : decode cX0_numberAt 9 = .ok (.if_icmp .ge 12, 3) := by decide +kernel
theorem dX0_numberAt_12 : decode cX0_numberAt 12 = .ok (.aload_n 0, 1) := by decide +kernel
theorem dX0_numberAt_13 : decode cX0_numberAt 13 = .ok (.getfield 15, 3) := by decide +kernel
theorem dX0_numberAt_16 : decode cX0_numberAt 16 = .ok (.iload_n 1, 1) := by decide +kernel
theorem dX0_numberAt_17 : decode cX0_numberAt 17 = .ok (.iaload, 1) := by decide +kernel
theorem dX0_numberAt_18 : decode cX0_numberAt 18 = .ok (.goto 4, 3) := by decide +kernel
theorem dX0_numberAt_21 : decode cX0_numberAt 21 = .ok (.iconst 0, 1) := by decide +kernel
theorem dX0_numberAt_22 : decode cX0_numberAt 22 = .ok (.ireturn, 1) := by decide +kernel
def B_FT_numberAt_22 (mc ms : Nat) (Rt : Option zAV → zMp → Prop) (g : Nat → zKT) : zKT :=
  (i_iret mc ms Rt)
set_option maxRecDepth 20000 in
theorem s_FT_numberAt_22 {X : zMa} {mc ms : Nat} {Rt : Option zAV → zMp → Prop} (hC : zCx X RX0 cX0_numberAt 0 0 mc ms (some .int) false Rt) : zLe (B_FT_numberAt_22 mc ms Rt (zG X)) (zG X 22) :=
  (sd_iret hC dX0_numberAt_22)
def B_FT_numberAt_21 (mc ms : Nat) (Rt : Option zAV → zMp → Prop) (g : Nat → zKT) : zKT :=
  (i_ic 0 (B_FT_numberAt_22 mc ms Rt g))
set_option maxRecDepth 20000 in
theorem s_FT_numberAt_21 {X : zMa} {mc ms : Nat} {Rt : Option zAV → zMp → Prop} (hC : zCx X RX0 cX0_numberAt 0 0 mc ms (some .int) false Rt) : zLe (B_FT_numberAt_21 mc ms Rt (zG X)) (zG X 21) :=
  (sd_iconst hC (by decide) dX0_numberAt_21 (s_FT_numberAt_22 hC))
def B_FT_numberAt_0 (mc ms : Nat) (Rt : Option zAV → zMp → Prop) (g : Nat → zKT) : zKT :=
  (i_il 1 (i_iflt (B_FT_numberAt_21 mc ms Rt g) (i_il 1 (i_al 0 (i_gf 1 2 (i_icge (B_FT_numberAt_21 mc ms Rt g) (i_al 0 (i_gf 1 1 (i_il 1 (i_ial (B_FT_numberAt_22 mc ms Rt g)))))))))))
set_option maxRecDepth 20000 in
theorem s_FT_numberAt_0 {X : zMa} {mc ms : Nat} {Rt : Option zAV → zMp → Prop} (hC : zCx X RX0 cX0_numberAt 0 0 mc ms (some .int) false Rt) : zLe (B_FT_numberAt_0 mc ms Rt (zG X)) (zG X 0) :=
  (sd_il_n hC rfl dX0_numberAt_0 ((sd_iflt hC (tgt := 21) (by decide) dX0_numberAt_1 (s_FT_numberAt_21 hC) ((sd_il_n hC rfl dX0_numberAt_4 ((sd_al_n hC rfl dX0_numberAt_5 ((sd_gf hC (ci := 1) (fk := 2) rfl wi_FT (by decide) fl_FT_19 (Or.inl rfl) dX0_numberAt_6 ((sd_icge hC (tgt := 21) (by decide) dX0_numberAt_9 (s_FT_numberAt_21 hC) ((sd_al_n hC rfl dX0_numberAt_12 ((sd_gf hC (ci := 1) (fk := 1) rfl wi_FT (by decide) fl_FT_15 (Or.inl rfl) dX0_numberAt_13 ((sd_il_n hC rfl dX0_numberAt_16 ((sd_ial hC dX0_numberAt_17 ((sd_goto hC (tgt := 22) (by decide) dX0_numberAt_18 (s_FT_numberAt_22 hC))))))))))))))))))))))
theorem c_FT_numberAt (l : Launch) : zCT l yX0_numberAt cX0_numberAt 2 (some .int) 0 0 T_FT_numberAt co_FT_numberAt := by
  intro As M Rt hT
  obtain ⟨t, q, kd, sz, g, j, rfl, hj, ⟨h1, h2, h3⟩, hR⟩ := hT
  refine zMet_of false (by decide +kernel) (fun h => by first | rfl | cases h) (Nat.le_of_ble_eq_true rfl) (fun X hN hC => ?_)
  show zG X 0 [some (.inr t), some (.inl (.int (nI j)))] [] M 0 0
  refine s_FT_numberAt_0 hC _ _ _ _ _ ?_
  simp only [B_FT_numberAt_0, B_FT_numberAt_21, B_FT_numberAt_22, co_FT_numberAt, i_ic, i_lc, i_nul, i_il, i_ll, i_al, i_is, i_as, i_ls, i_inc, i_iadd, i_isub, i_imul, i_iand, i_ior, i_ixor, i_idiv, i_irem, i_ishl, i_ishr, i_ladd, i_lsub, i_land, i_lor, i_i2l, i_lushr, i_lshl, i_lshr, i_lcmp, i_dup, i_pop, i_dx1, i_dup2, i_ifeq, i_ifne, i_iflt, i_ifge, i_ifgt, i_ifle, i_iceq, i_icne, i_iclt, i_icge, i_icgt, i_icle, i_ifn, i_gf, i_pf, i_ial, i_bal, i_lal, i_aal, i_ias, i_las, i_bas, i_aas, i_alen, i_newa, i_new, i_anew, i_cast, i_oi, i_call, i_callV, i_callV2, i_callI, i_iret, i_zret, i_lret, i_vret, i_aret, i_mmx, i_mmn, i_gsE, i_aceq, i_no, i_acq, i_sw, zsw, zlg, zls, znl, zfg, zcs, zsp, zrc, zisn, zft, zc1, zto, Value.category, List.set_cons_zero, List.set_cons_succ, List.length_cons, List.length_nil, Option.toList, List.nil_append, List.cons_append, true_and, and_true, Nat.add_zero, Nat.zero_le, Nat.zero_add, Nat.le_refl, Nat.reduceAdd, Nat.reduceLeDiff, co0, z0, zn_0, zn_1, zn_2, zn_3, zn_4, zn_5, zn_8, zn_12, zn_24, zn_121, zn_144, zn_256, zn_300, zn_600, zn_720, zn_1204, zn_1280, zn_2400, zn_4816, zn_14400, zn_90000, h1, h2]
  rw [nI_clamp hj, (zK (K := sz) (by omega) (n := j) hj).2.1]
  unfold ft_at at hR
  refine ⟨fun h => absurd h (nI_pos hj), fun _ => ⟨fun h => ?_, fun h => ⟨vp_in_nI (by omega) (by decide), ?_⟩⟩⟩
  · rw [if_neg (by omega)] at hR; exact hR
  · rw [if_pos (by omega)] at hR; exact hR
noncomputable def ft_pass (kd : Int32) (sz : Nat) (g : Nat → Int32) (v : Int32) : Bool := if kd = 1 then zd (g 0 ≤ v ∧ v ≤ g 1) else if kd = 2 then zd (v < g 0 ∨ g 1 < v) else if kd = 3 then ft_has sz g v else true
def T_FT_passes (As : List zAV) (M : zMp) (Rt : Option zAV → zMp → Prop) : Prop := ∃ t q kd sz g v, As = [.inr t, .inl (.int v)] ∧ zfte M t q kd sz g ∧ Rt (some (.inl (.int (zb (ft_pass kd sz g v))))) M
abbrev co_FT_passes := co0
theorem dX0_passes_0 : decode cX0_passes 0 = .ok (.aload_n 0, 1) := by decide +kernel
theorem dX0_passes_1 : decode cX0_passes 1 = .ok (.getfield 9, 3) := by decide +kernel
theorem dX0_passes_4 : decode cX0_passes 4 = .ok (.tableswitch 86 1 3 #[28, 54, 80], 28) := by decide +kernel
theorem dX0_passes_32 : decode cX0_passes 32 = .ok (.aload_n 0, 1) := by decide +kernel
theorem dX0_passes_33 : decode cX0_passes 33 = .ok (.getfield 15, 3) := by decide +kernel
theorem dX0_passes_36 : decode cX0_passes 36 = .ok (.iconst 0, 1) := by decide +kernel
theorem dX0_passes_37 : decode cX0_passes 37 = .ok (.iaload, 1) := by decide +kernel
theorem dX0_passes_38 : decode cX0_passes 38 = .ok (.iload_n 1, 1) := by decide +kernel
theorem dX0_passes_39 : decode cX0_passes 39 = .ok (.if_icmp .gt 17, 3) := by decide +kernel
theorem dX0_passes_42 : decode cX0_passes 42 = .ok (.iload_n 1, 1) := by decide +kernel
theorem dX0_passes_43 : decode cX0_passes 43 = .ok (.aload_n 0, 1) := by decide +kernel
theorem dX0_passes_44 : decode cX0_passes 44 = .ok (.getfield 15, 3) := by decide +kernel
theorem dX0_passes_47 : decode cX0_passes 47 = .ok (.iconst 1, 1) := by decide +kernel
theorem dX0_passes_48 : decode cX0_passes 48 = .ok (.iaload, 1) := by decide +kernel
theorem dX0_passes_49 : decode cX0_passes 49 = .ok (.if_icmp .gt 7, 3) := by decide +kernel
theorem dX0_passes_52 : decode cX0_passes 52 = .ok (.iconst 1, 1) := by decide +kernel
theorem dX0_passes_53 : decode cX0_passes 53 = .ok (.goto 4, 3) := by decide +kernel
theorem dX0_passes_56 : decode cX0_passes 56 = .ok (.iconst 0, 1) := by decide +kernel
theorem dX0_passes_57 : decode cX0_passes 57 = .ok (.ireturn, 1) := by decide +kernel
theorem dX0_passes_58 : decode cX0_passes 58 = .ok (.iload_n 1, 1) := by decide +kernel
theorem dX0_passes_59 : decode cX0_passes 59 = .ok (.aload_n 0, 1) := by decide +kernel
theorem dX0_passes_60 : decode cX0_passes 60 = .ok (.getfield 15, 3) := by decide +kernel
theorem dX0_passes_63 : decode cX0_passes 63 = .ok (.iconst 0, 1) := by decide +kernel
theorem dX0_passes_64 : decode cX0_passes 64 = .ok (.iaload, 1) := by decide +kernel
theorem dX0_passes_65 : decode cX0_passes 65 = .ok (.if_icmp .lt 13, 3) := by decide +kernel
theorem dX0_passes_68 : decode cX0_passes 68 = .ok (.aload_n 0, 1) := by decide +kernel
theorem dX0_passes_69 : decode cX0_passes 69 = .ok (.getfield 15, 3) := by decide +kernel
theorem dX0_passes_72 : decode cX0_passes 72 = .ok (.iconst 1, 1) := by decide +kernel
theorem dX0_passes_73 : decode cX0_passes 73 = .ok (.iaload, 1) := by decide +kernel
theorem dX0_passes_74 : decode cX0_passes 74 = .ok (.iload_n 1, 1) := by decide +kernel
theorem dX0_passes_75 : decode cX0_passes 75 = .ok (.if_icmp .ge 7, 3) := by decide +kernel
theorem dX0_passes_78 : decode cX0_passes 78 = .ok (.iconst 1, 1) := by decide +kernel
theorem dX0_passes_79 : decode cX0_passes 79 = .ok (.goto 4, 3) := by decide +kernel
theorem dX0_passes_82 : decode cX0_passes 82 = .ok (.iconst 0, 1) := by decide +kernel
theorem dX0_passes_83 : decode cX0_passes 83 = .ok (.ireturn, 1) := by decide +kernel
theorem dX0_passes_84 : decode cX0_passes 84 = .ok (.aload_n 0, 1) := by decide +kernel
theorem dX0_passes_85 : decode cX0_passes 85 = .ok (.iload_n 1, 1) := by decide +kernel
theorem dX0_passes_86 : decode cX0_passes 86 = .ok (.invokevirtual 22, 3) := by decide +kernel
theorem dX0_passes_89 : decode cX0_passes 89 = .ok (.ireturn, 1) := by decide +kernel
theorem dX0_passes_90 : decode cX0_passes 90 = .ok (.iconst 1, 1) := by decide +kernel
theorem dX0_passes_91 : decode cX0_passes 91 = .ok (.ireturn, 1) := by decide +kernel
def B_FT_passes_90 (mc ms : Nat) (Rt : Option zAV → zMp → Prop) (g : Nat → zKT) : zKT :=
  (i_ic 1 (i_zret mc ms Rt))
set_option maxRecDepth 20000 in
theorem s_FT_passes_90 {X : zMa} {mc ms : Nat} {Rt : Option zAV → zMp → Prop} (hC : zCx X RX0 cX0_passes 1 22 mc ms (some .boolean) false Rt) : zLe (B_FT_passes_90 mc ms Rt (zG X)) (zG X 90) :=
  (sd_iconst hC (by decide) dX0_passes_90 ((sd_zret hC dX0_passes_91)))
def B_FT_passes_84 (mc ms : Nat) (Rt : Option zAV → zMp → Prop) (g : Nat → zKT) : zKT :=
  (i_al 0 (i_il 1 (i_callV mc ms 1 2 T_FT_hasNumber co_FT_hasNumber (i_zret mc ms Rt))))
set_option maxRecDepth 20000 in
theorem s_FT_passes_84 {X : zMa} {mc ms : Nat} {Rt : Option zAV → zMp → Prop} (hC : zCx X RX0 cX0_passes 1 22 mc ms (some .boolean) false Rt) : zLe (B_FT_passes_84 mc ms Rt (zG X)) (zG X 84) :=
  (sd_al_n hC rfl dX0_passes_84 ((sd_il_n hC rfl dX0_passes_85 ((sd_cV hC c_FT_hasNumber yv_FT_hasNumber (ci := 1) rfl rfl ml_FT_22 (by decide) (by decide) dX0_passes_86 ((sd_zret hC dX0_passes_89)))))))
def B_FT_passes_83 (mc ms : Nat) (Rt : Option zAV → zMp → Prop) (g : Nat → zKT) : zKT :=
  (i_zret mc ms Rt)
set_option maxRecDepth 20000 in
theorem s_FT_passes_83 {X : zMa} {mc ms : Nat} {Rt : Option zAV → zMp → Prop} (hC : zCx X RX0 cX0_passes 1 22 mc ms (some .boolean) false Rt) : zLe (B_FT_passes_83 mc ms Rt (zG X)) (zG X 83) :=
  (sd_zret hC dX0_passes_83)
def B_FT_passes_82 (mc ms : Nat) (Rt : Option zAV → zMp → Prop) (g : Nat → zKT) : zKT :=
  (i_ic 0 (B_FT_passes_83 mc ms Rt g))
set_option maxRecDepth 20000 in
theorem s_FT_passes_82 {X : zMa} {mc ms : Nat} {Rt : Option zAV → zMp → Prop} (hC : zCx X RX0 cX0_passes 1 22 mc ms (some .boolean) false Rt) : zLe (B_FT_passes_82 mc ms Rt (zG X)) (zG X 82) :=
  (sd_iconst hC (by decide) dX0_passes_82 (s_FT_passes_83 hC))
def B_FT_passes_78 (mc ms : Nat) (Rt : Option zAV → zMp → Prop) (g : Nat → zKT) : zKT :=
  (i_ic 1 (B_FT_passes_83 mc ms Rt g))
set_option maxRecDepth 20000 in
theorem s_FT_passes_78 {X : zMa} {mc ms : Nat} {Rt : Option zAV → zMp → Prop} (hC : zCx X RX0 cX0_passes 1 22 mc ms (some .boolean) false Rt) : zLe (B_FT_passes_78 mc ms Rt (zG X)) (zG X 78) :=
  (sd_iconst hC (by decide) dX0_passes_78 ((sd_goto hC (tgt := 83) (by decide) dX0_passes_79 (s_FT_passes_83 hC))))
def B_FT_passes_58 (mc ms : Nat) (Rt : Option zAV → zMp → Prop) (g : Nat → zKT) : zKT :=
  (i_il 1 (i_al 0 (i_gf 1 1 (i_ic 0 (i_ial (i_iclt (B_FT_passes_78 mc ms Rt g) (i_al 0 (i_gf 1 1 (i_ic 1 (i_ial (i_il 1 (i_icge (B_FT_passes_82 mc ms Rt g) (B_FT_passes_78 mc ms Rt g)))))))))))))
set_option maxRecDepth 20000 in
theorem s_FT_passes_58 {X : zMa} {mc ms : Nat} {Rt : Option zAV → zMp → Prop} (hC : zCx X RX0 cX0_passes 1 22 mc ms (some .boolean) false Rt) : zLe (B_FT_passes_58 mc ms Rt (zG X)) (zG X 58) :=
  (sd_il_n hC rfl dX0_passes_58 ((sd_al_n hC rfl dX0_passes_59 ((sd_gf hC (ci := 1) (fk := 1) rfl wi_FT (by decide) fl_FT_15 (Or.inl rfl) dX0_passes_60 ((sd_iconst hC (by decide) dX0_passes_63 ((sd_ial hC dX0_passes_64 ((sd_iclt hC (tgt := 78) (by decide) dX0_passes_65 (s_FT_passes_78 hC) ((sd_al_n hC rfl dX0_passes_68 ((sd_gf hC (ci := 1) (fk := 1) rfl wi_FT (by decide) fl_FT_15 (Or.inl rfl) dX0_passes_69 ((sd_iconst hC (by decide) dX0_passes_72 ((sd_ial hC dX0_passes_73 ((sd_il_n hC rfl dX0_passes_74 ((sd_icge hC (tgt := 82) (by decide) dX0_passes_75 (s_FT_passes_82 hC) (s_FT_passes_78 hC))))))))))))))))))))))))
def B_FT_passes_57 (mc ms : Nat) (Rt : Option zAV → zMp → Prop) (g : Nat → zKT) : zKT :=
  (i_zret mc ms Rt)
set_option maxRecDepth 20000 in
theorem s_FT_passes_57 {X : zMa} {mc ms : Nat} {Rt : Option zAV → zMp → Prop} (hC : zCx X RX0 cX0_passes 1 22 mc ms (some .boolean) false Rt) : zLe (B_FT_passes_57 mc ms Rt (zG X)) (zG X 57) :=
  (sd_zret hC dX0_passes_57)
def B_FT_passes_56 (mc ms : Nat) (Rt : Option zAV → zMp → Prop) (g : Nat → zKT) : zKT :=
  (i_ic 0 (B_FT_passes_57 mc ms Rt g))
set_option maxRecDepth 20000 in
theorem s_FT_passes_56 {X : zMa} {mc ms : Nat} {Rt : Option zAV → zMp → Prop} (hC : zCx X RX0 cX0_passes 1 22 mc ms (some .boolean) false Rt) : zLe (B_FT_passes_56 mc ms Rt (zG X)) (zG X 56) :=
  (sd_iconst hC (by decide) dX0_passes_56 (s_FT_passes_57 hC))
def B_FT_passes_32 (mc ms : Nat) (Rt : Option zAV → zMp → Prop) (g : Nat → zKT) : zKT :=
  (i_al 0 (i_gf 1 1 (i_ic 0 (i_ial (i_il 1 (i_icgt (B_FT_passes_56 mc ms Rt g) (i_il 1 (i_al 0 (i_gf 1 1 (i_ic 1 (i_ial (i_icgt (B_FT_passes_56 mc ms Rt g) (i_ic 1 (B_FT_passes_57 mc ms Rt g))))))))))))))
set_option maxRecDepth 20000 in
theorem s_FT_passes_32 {X : zMa} {mc ms : Nat} {Rt : Option zAV → zMp → Prop} (hC : zCx X RX0 cX0_passes 1 22 mc ms (some .boolean) false Rt) : zLe (B_FT_passes_32 mc ms Rt (zG X)) (zG X 32) :=
  (sd_al_n hC rfl dX0_passes_32 ((sd_gf hC (ci := 1) (fk := 1) rfl wi_FT (by decide) fl_FT_15 (Or.inl rfl) dX0_passes_33 ((sd_iconst hC (by decide) dX0_passes_36 ((sd_ial hC dX0_passes_37 ((sd_il_n hC rfl dX0_passes_38 ((sd_icgt hC (tgt := 56) (by decide) dX0_passes_39 (s_FT_passes_56 hC) ((sd_il_n hC rfl dX0_passes_42 ((sd_al_n hC rfl dX0_passes_43 ((sd_gf hC (ci := 1) (fk := 1) rfl wi_FT (by decide) fl_FT_15 (Or.inl rfl) dX0_passes_44 ((sd_iconst hC (by decide) dX0_passes_47 ((sd_ial hC dX0_passes_48 ((sd_icgt hC (tgt := 56) (by decide) dX0_passes_49 (s_FT_passes_56 hC) ((sd_iconst hC (by decide) dX0_passes_52 ((sd_goto hC (tgt := 57) (by decide) dX0_passes_53 (s_FT_passes_57 hC))))))))))))))))))))))))))))
def B_FT_passes_0 (mc ms : Nat) (Rt : Option zAV → zMp → Prop) (g : Nat → zKT) : zKT :=
  (i_al 0 (i_gf 1 0 (i_sw [(1, (B_FT_passes_32 mc ms Rt g)), (2, (B_FT_passes_58 mc ms Rt g)), (3, (B_FT_passes_84 mc ms Rt g))] (B_FT_passes_90 mc ms Rt g))))
set_option maxRecDepth 20000 in
theorem s_FT_passes_0 {X : zMa} {mc ms : Nat} {Rt : Option zAV → zMp → Prop} (hC : zCx X RX0 cX0_passes 1 22 mc ms (some .boolean) false Rt) : zLe (B_FT_passes_0 mc ms Rt (zG X)) (zG X 0) :=
  (sd_al_n hC rfl dX0_passes_0 ((sd_gf hC (ci := 1) (fk := 0) rfl wi_FT (by decide) fl_FT_9 (Or.inl rfl) dX0_passes_1 ((sd_tsw hC dX0_passes_4 (s_FT_passes_90 hC) [32, 58, 84] rfl (by intro q hq; simp only [List.zip_cons_cons, List.zip_nil_right, List.mem_cons, List.not_mem_nil, or_false] at hq; rcases hq with rfl | rfl | rfl; exact ⟨(show zjT 4 86 1 3 #[28, 54, 80] 1 32 from Or.inr ⟨by decide, by decide, _, rfl, by decide⟩), s_FT_passes_32 hC⟩; exact ⟨(show zjT 4 86 1 3 #[28, 54, 80] 2 58 from Or.inr ⟨by decide, by decide, _, rfl, by decide⟩), s_FT_passes_58 hC⟩; exact ⟨(show zjT 4 86 1 3 #[28, 54, 80] 3 84 from Or.inr ⟨by decide, by decide, _, rfl, by decide⟩), s_FT_passes_84 hC⟩) (by intro x hx; simp only [List.forall_mem_cons, List.not_mem_nil, false_imp_iff, implies_true, and_true] at hx; refine Or.inl ⟨?_, by decide⟩; obtain ⟨n0, n1, n2⟩ := hx; have n0 := zne_i (z := 1) n0 (by decide); have n1 := zne_i (z := 2) n1 (by decide); have n2 := zne_i (z := 3) n2 (by decide); omega))))))
theorem c_FT_passes (l : Launch) : zCT l yX0_passes cX0_passes 2 (some .boolean) 1 22 T_FT_passes co_FT_passes := by
  intro As M Rt hT
  obtain ⟨t, q, kd, sz, g, v, rfl, ⟨h1, h2, h3⟩, hR⟩ := hT
  refine zMet_of false (by decide +kernel) (fun h => by first | rfl | cases h) (Nat.le_of_ble_eq_true rfl) (fun X hN hC => ?_)
  show zG X 0 [some (.inr t), some (.inl (.int v))] [] M 0 0
  refine s_FT_passes_0 hC _ _ _ _ _ ?_
  have i0 : vp_in 0 4 := by unfold vp_in; decide
  have i1 : vp_in 1 4 := by unfold vp_in; decide
  simp only [B_FT_passes_0, B_FT_passes_32, B_FT_passes_56, B_FT_passes_57, B_FT_passes_58, B_FT_passes_78, B_FT_passes_82, B_FT_passes_83, B_FT_passes_84, B_FT_passes_90, co_FT_hasNumber, co_FT_passes, i_ic, i_lc, i_nul, i_il, i_ll, i_al, i_is, i_as, i_ls, i_inc, i_iadd, i_isub, i_imul, i_iand, i_ior, i_ixor, i_idiv, i_irem, i_ishl, i_ishr, i_ladd, i_lsub, i_land, i_lor, i_i2l, i_lushr, i_lshl, i_lshr, i_lcmp, i_dup, i_pop, i_dx1, i_dup2, i_ifeq, i_ifne, i_iflt, i_ifge, i_ifgt, i_ifle, i_iceq, i_icne, i_iclt, i_icge, i_icgt, i_icle, i_ifn, i_gf, i_pf, i_ial, i_bal, i_lal, i_aal, i_ias, i_las, i_bas, i_aas, i_alen, i_newa, i_new, i_anew, i_cast, i_oi, i_call, i_callV, i_callV2, i_callI, i_iret, i_zret, i_lret, i_vret, i_aret, i_mmx, i_mmn, i_gsE, i_aceq, i_no, i_acq, i_sw, zsw, zlg, zls, znl, zfg, zcs, zsp, zrc, zisn, zft, zc1, zto, Value.category, List.set_cons_zero, List.set_cons_succ, List.length_cons, List.length_nil, Option.toList, List.nil_append, List.cons_append, true_and, and_true, Nat.add_zero, Nat.zero_le, Nat.zero_add, Nat.le_refl, Nat.reduceAdd, Nat.reduceLeDiff, co0, z0, zn_0, zn_1, zn_2, zn_3, zn_4, zn_5, zn_8, zn_12, zn_24, zn_121, zn_144, zn_256, zn_300, zn_600, zn_720, zn_1204, zn_1280, zn_2400, zn_4816, zn_14400, zn_90000, h1, h2]
  have yes : ft_pass kd sz g v = true → Rt (some (.inl (.int 1))) M := fun h => by rw [h] at hR; exact hR
  have no : ft_pass kd sz g v = false → Rt (some (.inl (.int 0))) M := fun h => by rw [h] at hR; exact hR
  refine ⟨fun hk => ⟨i0, fun h => ⟨by decide, no ?_⟩, fun h => ⟨i1, fun h' => ⟨by decide, no ?_⟩, fun h' => ⟨by decide, yes ?_⟩⟩⟩, fun hk1 => ⟨fun hk => ⟨i0, fun h => ⟨by decide, yes ?_⟩, fun h => ⟨i1, fun h' => ⟨by decide, no ?_⟩, fun h' => ⟨by decide, yes ?_⟩⟩⟩, fun hk2 => ⟨fun hk => ?_, fun hk3 => ⟨by decide, yes ?_⟩⟩⟩⟩
  · simp only [ft_pass, hk, if_true]; exact zd_f (fun q => absurd h (Int32.not_lt.mpr q.1))
  · simp only [ft_pass, hk, if_true]; exact zd_f (fun q => absurd h' (Int32.not_lt.mpr q.2))
  · simp only [ft_pass, hk, if_true]; exact zd_t ⟨Int32.not_lt.mp h, Int32.not_lt.mp h'⟩
  · simp only [ft_pass, hk1, hk, if_true, if_false]; exact zd_t (Or.inl h)
  · simp only [ft_pass, hk1, hk, if_true, if_false]; exact zd_f (fun q => q.elim h (fun q => absurd q (Int32.not_lt.mpr h')))
  · simp only [ft_pass, hk1, hk, if_true, if_false]; exact zd_t (Or.inr (Int32.not_le.mp h'))
  · refine ⟨t, q, kd, sz, g, v, rfl, ⟨h1, h2, h3⟩, zb_01 _, ?_⟩
    simp only [ft_pass, hk1, hk2, hk, if_true, if_false] at hR
    exact hR
  · simp only [ft_pass, hk1, hk2, hk3, if_false]
noncomputable def ft_none (kd : Int32) (g : Nat → Int32) : Bool := zd (kd = 2 ∧ g 0 = -2147483648 ∧ g 1 = 2147483647)
def T_FT_passesNone (As : List zAV) (M : zMp) (Rt : Option zAV → zMp → Prop) : Prop := ∃ t q kd sz g, As = [.inr t] ∧ zfte M t q kd sz g ∧ Rt (some (.inl (.int (zb (ft_none kd g))))) M
abbrev co_FT_passesNone := co0
theorem dX0_passesNone_0 : decode cX0_passesNone 0 = .ok (.aload_n 0, 1) := by decide +kernel
theorem dX0_passesNone_1 : decode cX0_passesNone 1 = .ok (.getfield 9, 3) := by decide +kernel
theorem dX0_passesNone_4 : decode cX0_passesNone 4 = .ok (.iconst 2, 1) := by decide +kernel
theorem dX0_passesNone_5 : decode cX0_passesNone 5 = .ok (.if_icmp .ne 29, 3) := by decide +kernel
theorem dX0_passesNone_8 : decode cX0_passesNone 8 = .ok (.aload_n 0, 1) := by decide +kernel
theorem dX0_passesNone_9 : decode cX0_passesNone 9 = .ok (.getfield 15, 3) := by decide +kernel
theorem dX0_passesNone_12 : decode cX0_passesNone 12 = .ok (.iconst 0, 1) := by decide +kernel
theorem dX0_passesNone_13 : decode cX0_passesNone 13 = .ok (.iaload, 1) := by decide +kernel
theorem dX0_passesNone_14 : decode cX0_passesNone 14 = .ok (.ldc 28, 2) := by decide +kernel
theorem dX0_passesNone_16 : decode cX0_passesNone 16 = .ok (.if_icmp .ne 18, 3) := by decide +kernel
theorem dX0_passesNone_19 : decode cX0_passesNone 19 = .ok (.aload_n 0, 1) := by decide +kernel
theorem dX0_passesNone_20 : decode cX0_passesNone 20 = .ok (.getfield 15, 3) := by decide +kernel
theorem dX0_passesNone_23 : decode cX0_passesNone 23 = .ok (.iconst 1, 1) := by decide +kernel
theorem dX0_passesNone_24 : decode cX0_passesNone 24 = .ok (.iaload, 1) := by decide +kernel
theorem dX0_passesNone_25 : decode cX0_passesNone 25 = .ok (.ldc 29, 2) := by decide +kernel
theorem dX0_passesNone_27 : decode cX0_passesNone 27 = .ok (.if_icmp .ne 7, 3) := by decide +kernel
theorem dX0_passesNone_30 : decode cX0_passesNone 30 = .ok (.iconst 1, 1) := by decide +kernel
theorem dX0_passesNone_31 : decode cX0_passesNone 31 = .ok (.goto 4, 3) := by decide +kernel
theorem dX0_passesNone_34 : decode cX0_passesNone 34 = .ok (.iconst 0, 1) := by decide +kernel
theorem dX0_passesNone_35 : decode cX0_passesNone 35 = .ok (.ireturn, 1) := by decide +kernel
def B_FT_passesNone_35 (mc ms : Nat) (Rt : Option zAV → zMp → Prop) (g : Nat → zKT) : zKT :=
  (i_zret mc ms Rt)
set_option maxRecDepth 20000 in
theorem s_FT_passesNone_35 {X : zMa} {mc ms : Nat} {Rt : Option zAV → zMp → Prop} (hC : zCx X RX0 cX0_passesNone 0 0 mc ms (some .boolean) false Rt) : zLe (B_FT_passesNone_35 mc ms Rt (zG X)) (zG X 35) :=
  (sd_zret hC dX0_passesNone_35)
def B_FT_passesNone_34 (mc ms : Nat) (Rt : Option zAV → zMp → Prop) (g : Nat → zKT) : zKT :=
  (i_ic 0 (B_FT_passesNone_35 mc ms Rt g))
set_option maxRecDepth 20000 in
theorem s_FT_passesNone_34 {X : zMa} {mc ms : Nat} {Rt : Option zAV → zMp → Prop} (hC : zCx X RX0 cX0_passesNone 0 0 mc ms (some .boolean) false Rt) : zLe (B_FT_passesNone_34 mc ms Rt (zG X)) (zG X 34) :=
  (sd_iconst hC (by decide) dX0_passesNone_34 (s_FT_passesNone_35 hC))
def B_FT_passesNone_0 (mc ms : Nat) (Rt : Option zAV → zMp → Prop) (g : Nat → zKT) : zKT :=
  (i_al 0 (i_gf 1 0 (i_ic 2 (i_icne (B_FT_passesNone_34 mc ms Rt g) (i_al 0 (i_gf 1 1 (i_ic 0 (i_ial (i_ic (-2147483648) (i_icne (B_FT_passesNone_34 mc ms Rt g) (i_al 0 (i_gf 1 1 (i_ic 1 (i_ial (i_ic 2147483647 (i_icne (B_FT_passesNone_34 mc ms Rt g) (i_ic 1 (B_FT_passesNone_35 mc ms Rt g))))))))))))))))))
set_option maxRecDepth 20000 in
theorem s_FT_passesNone_0 {X : zMa} {mc ms : Nat} {Rt : Option zAV → zMp → Prop} (hC : zCx X RX0 cX0_passesNone 0 0 mc ms (some .boolean) false Rt) : zLe (B_FT_passesNone_0 mc ms Rt (zG X)) (zG X 0) :=
  (sd_al_n hC rfl dX0_passesNone_0 ((sd_gf hC (ci := 1) (fk := 0) rfl wi_FT (by decide) fl_FT_9 (Or.inl rfl) dX0_passesNone_1 ((sd_iconst hC (by decide) dX0_passesNone_4 ((sd_icne hC (tgt := 34) (by decide) dX0_passesNone_5 (s_FT_passesNone_34 hC) ((sd_al_n hC rfl dX0_passesNone_8 ((sd_gf hC (ci := 1) (fk := 1) rfl wi_FT (by decide) fl_FT_15 (Or.inl rfl) dX0_passesNone_9 ((sd_iconst hC (by decide) dX0_passesNone_12 ((sd_ial hC dX0_passesNone_13 ((sd_ldc hC kc_FT_28 dX0_passesNone_14 ((sd_icne hC (tgt := 34) (by decide) dX0_passesNone_16 (s_FT_passesNone_34 hC) ((sd_al_n hC rfl dX0_passesNone_19 ((sd_gf hC (ci := 1) (fk := 1) rfl wi_FT (by decide) fl_FT_15 (Or.inl rfl) dX0_passesNone_20 ((sd_iconst hC (by decide) dX0_passesNone_23 ((sd_ial hC dX0_passesNone_24 ((sd_ldc hC kc_FT_29 dX0_passesNone_25 ((sd_icne hC (tgt := 34) (by decide) dX0_passesNone_27 (s_FT_passesNone_34 hC) ((sd_iconst hC (by decide) dX0_passesNone_30 ((sd_goto hC (tgt := 35) (by decide) dX0_passesNone_31 (s_FT_passesNone_35 hC))))))))))))))))))))))))))))))))))))
theorem c_FT_passesNone (l : Launch) : zCT l yX0_passesNone cX0_passesNone 1 (some .boolean) 0 0 T_FT_passesNone co_FT_passesNone := by
  intro As M Rt hT
  obtain ⟨t, q, kd, sz, g, rfl, ⟨h1, h2, h3⟩, hR⟩ := hT
  refine zMet_of false (by decide +kernel) (fun h => by first | rfl | cases h) (Nat.le_of_ble_eq_true rfl) (fun X hN hC => ?_)
  show zG X 0 [some (.inr t)] [] M 0 0
  refine s_FT_passesNone_0 hC _ _ _ _ _ ?_
  have i0 : vp_in 0 4 := by unfold vp_in; decide
  have i1 : vp_in 1 4 := by unfold vp_in; decide
  simp only [B_FT_passesNone_0, B_FT_passesNone_34, B_FT_passesNone_35, co_FT_passesNone, i_ic, i_lc, i_nul, i_il, i_ll, i_al, i_is, i_as, i_ls, i_inc, i_iadd, i_isub, i_imul, i_iand, i_ior, i_ixor, i_idiv, i_irem, i_ishl, i_ishr, i_ladd, i_lsub, i_land, i_lor, i_i2l, i_lushr, i_lshl, i_lshr, i_lcmp, i_dup, i_pop, i_dx1, i_dup2, i_ifeq, i_ifne, i_iflt, i_ifge, i_ifgt, i_ifle, i_iceq, i_icne, i_iclt, i_icge, i_icgt, i_icle, i_ifn, i_gf, i_pf, i_ial, i_bal, i_lal, i_aal, i_ias, i_las, i_bas, i_aas, i_alen, i_newa, i_new, i_anew, i_cast, i_oi, i_call, i_callV, i_callV2, i_callI, i_iret, i_zret, i_lret, i_vret, i_aret, i_mmx, i_mmn, i_gsE, i_aceq, i_no, i_acq, i_sw, zsw, zlg, zls, znl, zfg, zcs, zsp, zrc, zisn, zft, zc1, zto, Value.category, List.set_cons_zero, List.set_cons_succ, List.length_cons, List.length_nil, Option.toList, List.nil_append, List.cons_append, true_and, and_true, Nat.add_zero, Nat.zero_le, Nat.zero_add, Nat.le_refl, Nat.reduceAdd, Nat.reduceLeDiff, co0, z0, zn_0, zn_1, zn_2, zn_3, zn_4, zn_5, zn_8, zn_12, zn_24, zn_121, zn_144, zn_256, zn_300, zn_600, zn_720, zn_1204, zn_1280, zn_2400, zn_4816, zn_14400, zn_90000, h1, h2]
  have yes : ft_none kd g = true → Rt (some (.inl (.int 1))) M := fun h => by rw [h] at hR; exact hR
  have no : ft_none kd g = false → Rt (some (.inl (.int 0))) M := fun h => by rw [h] at hR; exact hR
  exact ⟨fun h => ⟨by decide, no (zd_f (fun q => h q.1))⟩, fun ha => ⟨i0, fun h => ⟨by decide, no (zd_f (fun q => h q.2.1))⟩, fun hb => ⟨i1, fun h => ⟨by decide, no (zd_f (fun q => h q.2.2))⟩, fun hc => ⟨by decide, yes (zd_t ⟨ha, hb, hc⟩)⟩⟩⟩⟩
def ft_spans (kd : Int32) (sz : Nat) : Nat := if kd = 2 then 2 else if kd = 3 then sz else 1
theorem ft_spans_le {kd : Int32} {sz : Nat} (h : sz ≤ 4) : ft_spans kd sz ≤ 4 := by
  unfold ft_spans
  split
  · decide
  · split
    · exact h
    · decide
def T_FT_spans (As : List zAV) (M : zMp) (Rt : Option zAV → zMp → Prop) : Prop := ∃ t q kd sz g, As = [.inr t] ∧ zfte M t q kd sz g ∧ Rt (some (.inl (.int (nI (ft_spans kd sz))))) M
abbrev co_FT_spans := co0
theorem dX0_spans_0 : decode cX0_spans 0 = .ok (.aload_n 0, 1) := by decide +kernel
theorem dX0_spans_1 : decode cX0_spans 1 = .ok (.getfield 9, 3) := by decide +kernel
theorem dX0_spans_4 : decode cX0_spans 4 = .ok (.lookupswitch 35 #[(2, 28), (3, 30)], 28) := by decide +kernel
theorem dX0_spans_32 : decode cX0_spans 32 = .ok (.iconst 2, 1) := by decide +kernel
theorem dX0_spans_33 : decode cX0_spans 33 = .ok (.ireturn, 1) := by decide +kernel
theorem dX0_spans_34 : decode cX0_spans 34 = .ok (.aload_n 0, 1) := by decide +kernel
theorem dX0_spans_35 : decode cX0_spans 35 = .ok (.getfield 19, 3) := by decide +kernel
theorem dX0_spans_38 : decode cX0_spans 38 = .ok (.ireturn, 1) := by decide +kernel
theorem dX0_spans_39 : decode cX0_spans 39 = .ok (.iconst 1, 1) := by decide +kernel
theorem dX0_spans_40 : decode cX0_spans 40 = .ok (.ireturn, 1) := by decide +kernel
def B_FT_spans_39 (mc ms : Nat) (Rt : Option zAV → zMp → Prop) (g : Nat → zKT) : zKT :=
  (i_ic 1 (i_iret mc ms Rt))
set_option maxRecDepth 20000 in
theorem s_FT_spans_39 {X : zMa} {mc ms : Nat} {Rt : Option zAV → zMp → Prop} (hC : zCx X RX0 cX0_spans 0 0 mc ms (some .int) false Rt) : zLe (B_FT_spans_39 mc ms Rt (zG X)) (zG X 39) :=
  (sd_iconst hC (by decide) dX0_spans_39 ((sd_iret hC dX0_spans_40)))
def B_FT_spans_34 (mc ms : Nat) (Rt : Option zAV → zMp → Prop) (g : Nat → zKT) : zKT :=
  (i_al 0 (i_gf 1 2 (i_iret mc ms Rt)))
set_option maxRecDepth 20000 in
theorem s_FT_spans_34 {X : zMa} {mc ms : Nat} {Rt : Option zAV → zMp → Prop} (hC : zCx X RX0 cX0_spans 0 0 mc ms (some .int) false Rt) : zLe (B_FT_spans_34 mc ms Rt (zG X)) (zG X 34) :=
  (sd_al_n hC rfl dX0_spans_34 ((sd_gf hC (ci := 1) (fk := 2) rfl wi_FT (by decide) fl_FT_19 (Or.inl rfl) dX0_spans_35 ((sd_iret hC dX0_spans_38)))))
def B_FT_spans_32 (mc ms : Nat) (Rt : Option zAV → zMp → Prop) (g : Nat → zKT) : zKT :=
  (i_ic 2 (i_iret mc ms Rt))
set_option maxRecDepth 20000 in
theorem s_FT_spans_32 {X : zMa} {mc ms : Nat} {Rt : Option zAV → zMp → Prop} (hC : zCx X RX0 cX0_spans 0 0 mc ms (some .int) false Rt) : zLe (B_FT_spans_32 mc ms Rt (zG X)) (zG X 32) :=
  (sd_iconst hC (by decide) dX0_spans_32 ((sd_iret hC dX0_spans_33)))
def B_FT_spans_0 (mc ms : Nat) (Rt : Option zAV → zMp → Prop) (g : Nat → zKT) : zKT :=
  (i_al 0 (i_gf 1 0 (i_sw [(2, (B_FT_spans_32 mc ms Rt g)), (3, (B_FT_spans_34 mc ms Rt g))] (B_FT_spans_39 mc ms Rt g))))
set_option maxRecDepth 20000 in
theorem s_FT_spans_0 {X : zMa} {mc ms : Nat} {Rt : Option zAV → zMp → Prop} (hC : zCx X RX0 cX0_spans 0 0 mc ms (some .int) false Rt) : zLe (B_FT_spans_0 mc ms Rt (zG X)) (zG X 0) :=
  (sd_al_n hC rfl dX0_spans_0 ((sd_gf hC (ci := 1) (fk := 0) rfl wi_FT (by decide) fl_FT_9 (Or.inl rfl) dX0_spans_1 ((sd_lsw hC dX0_spans_4 (by decide) (s_FT_spans_39 hC) [32, 34] rfl (by intro q hq; simp only [List.zip_cons_cons, List.zip_nil_right, List.mem_cons, List.not_mem_nil, or_false] at hq; rcases hq with rfl | rfl; exact ⟨(show zjL 4 35 #[(2, 28), (3, 30)] 2 32 from by unfold zjL; decide), s_FT_spans_32 hC⟩; exact ⟨(show zjL 4 35 #[(2, 28), (3, 30)] 3 34 from by unfold zjL; decide), s_FT_spans_34 hC⟩) (by intro x hx; simp only [List.forall_mem_cons, List.not_mem_nil, false_imp_iff, implies_true, and_true] at hx; obtain ⟨n0, n1⟩ := hx; unfold zjL; rw [lv_osw n0 (by decide), lv_osw n1 (by decide)]; show ((4 : Nat) : Int) + 35 = (39 : Nat); decide))))))
theorem c_FT_spans (l : Launch) : zCT l yX0_spans cX0_spans 1 (some .int) 0 0 T_FT_spans co_FT_spans := by
  intro As M Rt hT
  obtain ⟨t, q, kd, sz, g, rfl, ⟨h1, h2, h3⟩, hR⟩ := hT
  refine zMet_of false (by decide +kernel) (fun h => by first | rfl | cases h) (Nat.le_of_ble_eq_true rfl) (fun X hN hC => ?_)
  show zG X 0 [some (.inr t)] [] M 0 0
  refine s_FT_spans_0 hC _ _ _ _ _ ?_
  simp only [B_FT_spans_0, B_FT_spans_32, B_FT_spans_34, B_FT_spans_39, co_FT_spans, i_ic, i_lc, i_nul, i_il, i_ll, i_al, i_is, i_as, i_ls, i_inc, i_iadd, i_isub, i_imul, i_iand, i_ior, i_ixor, i_idiv, i_irem, i_ishl, i_ishr, i_ladd, i_lsub, i_land, i_lor, i_i2l, i_lushr, i_lshl, i_lshr, i_lcmp, i_dup, i_pop, i_dx1, i_dup2, i_ifeq, i_ifne, i_iflt, i_ifge, i_ifgt, i_ifle, i_iceq, i_icne, i_iclt, i_icge, i_icgt, i_icle, i_ifn, i_gf, i_pf, i_ial, i_bal, i_lal, i_aal, i_ias, i_las, i_bas, i_aas, i_alen, i_newa, i_new, i_anew, i_cast, i_oi, i_call, i_callV, i_callV2, i_callI, i_iret, i_zret, i_lret, i_vret, i_aret, i_mmx, i_mmn, i_gsE, i_aceq, i_no, i_acq, i_sw, zsw, zlg, zls, znl, zfg, zcs, zsp, zrc, zisn, zft, zc1, zto, Value.category, List.set_cons_zero, List.set_cons_succ, List.length_cons, List.length_nil, Option.toList, List.nil_append, List.cons_append, true_and, and_true, Nat.add_zero, Nat.zero_le, Nat.zero_add, Nat.le_refl, Nat.reduceAdd, Nat.reduceLeDiff, co0, z0, zn_0, zn_1, zn_2, zn_3, zn_4, zn_5, zn_8, zn_12, zn_24, zn_121, zn_144, zn_256, zn_300, zn_600, zn_720, zn_1204, zn_1280, zn_2400, zn_4816, zn_14400, zn_90000, h1, h2]
  unfold ft_spans at hR
  refine ⟨fun hk => ?_, fun hk => ⟨fun hk' => ?_, fun hk' => ?_⟩⟩
  · rw [if_pos hk] at hR; exact hR
  · rw [if_neg hk, if_pos hk'] at hR; exact hR
  · rw [if_neg hk, if_neg hk'] at hR; exact hR
def ft_lo (kd : Int32) (sz : Nat) (g : Nat → Int32) (i : Nat) : Int64 := if kd = 1 then (g 0).toInt64 else if kd = 2 then (if i = 0 then -2147483648 else (g 1).toInt64 + 1) else if kd = 3 then (ft_at sz g i).toInt64 else -2147483648
def ft_hi (kd : Int32) (sz : Nat) (g : Nat → Int32) (i : Nat) : Int64 := if kd = 1 then (g 1).toInt64 else if kd = 2 then (if i = 0 then (g 0).toInt64 - 1 else 2147483647) else if kd = 3 then (ft_at sz g i).toInt64 else 2147483647
theorem nI_z {j : Nat} (h : j < 2 ^ 31) : nI j = 0 ↔ j = 0 := nI_eq h (by decide)
def T_FT_spanStart (As : List zAV) (M : zMp) (Rt : Option zAV → zMp → Prop) : Prop := ∃ t q kd sz g j, As = [.inr t, .inl (.int (nI j))] ∧ j < 2 ^ 31 ∧ zfte M t q kd sz g ∧ Rt (some (.inl (.long (ft_lo kd sz g j)))) M
abbrev co_FT_spanStart := co0
theorem dX0_spanStart_0 : decode cX0_spanStart 0 = .ok (.aload_n 0, 1) := by decide +kernel
theorem dX0_spanStart_1 : decode cX0_spanStart 1 = .ok (.getfield 9, 3) := by decide +kernel
theorem dX0_spanStart_4 : decode cX0_spanStart 4 = .ok (.tableswitch 63 1 3 #[28, 36, 56], 28) := by decide +kernel
theorem dX0_spanStart_32 : decode cX0_spanStart 32 = .ok (.aload_n 0, 1) := by decide +kernel
theorem dX0_spanStart_33 : decode cX0_spanStart 33 = .ok (.getfield 15, 3) := by decide +kernel
theorem dX0_spanStart_36 : decode cX0_spanStart 36 = .ok (.iconst 0, 1) := by decide +kernel
theorem dX0_spanStart_37 : decode cX0_spanStart 37 = .ok (.iaload, 1) := by decide +kernel
theorem dX0_spanStart_38 : decode cX0_spanStart 38 = .ok (.i2l, 1) := by decide +kernel
theorem dX0_spanStart_39 : decode cX0_spanStart 39 = .ok (.lreturn, 1) := by decide +kernel
theorem dX0_spanStart_40 : decode cX0_spanStart 40 = .ok (.iload_n 1, 1) := by decide +kernel
theorem dX0_spanStart_41 : decode cX0_spanStart 41 = .ok (.ifCond .ne 9, 3) := by decide +kernel
theorem dX0_spanStart_44 : decode cX0_spanStart 44 = .ok (.ldc2_w 45, 3) := by decide +kernel
theorem dX0_spanStart_47 : decode cX0_spanStart 47 = .ok (.goto 12, 3) := by decide +kernel
theorem dX0_spanStart_50 : decode cX0_spanStart 50 = .ok (.aload_n 0, 1) := by decide +kernel
theorem dX0_spanStart_51 : decode cX0_spanStart 51 = .ok (.getfield 15, 3) := by decide +kernel
theorem dX0_spanStart_54 : decode cX0_spanStart 54 = .ok (.iconst 1, 1) := by decide +kernel
theorem dX0_spanStart_55 : decode cX0_spanStart 55 = .ok (.iaload, 1) := by decide +kernel
theorem dX0_spanStart_56 : decode cX0_spanStart 56 = .ok (.i2l, 1) := by decide +kernel
theorem dX0_spanStart_57 : decode cX0_spanStart 57 = .ok (.lconst 1, 1) := by decide +kernel
theorem dX0_spanStart_58 : decode cX0_spanStart 58 = .ok (.ladd, 1) := by decide +kernel
theorem dX0_spanStart_59 : decode cX0_spanStart 59 = .ok (.lreturn, 1) := by decide +kernel
theorem dX0_spanStart_60 : decode cX0_spanStart 60 = .ok (.aload_n 0, 1) := by decide +kernel
theorem dX0_spanStart_61 : decode cX0_spanStart 61 = .ok (.iload_n 1, 1) := by decide +kernel
theorem dX0_spanStart_62 : decode cX0_spanStart 62 = .ok (.invokevirtual 47, 3) := by decide +kernel
theorem dX0_spanStart_65 : decode cX0_spanStart 65 = .ok (.i2l, 1) := by decide +kernel
theorem dX0_spanStart_66 : decode cX0_spanStart 66 = .ok (.lreturn, 1) := by decide +kernel
theorem dX0_spanStart_67 : decode cX0_spanStart 67 = .ok (.ldc2_w 45, 3) := by decide +kernel
theorem dX0_spanStart_70 : decode cX0_spanStart 70 = .ok (.lreturn, 1) := by decide +kernel
def B_FT_spanStart_67 (mc ms : Nat) (Rt : Option zAV → zMp → Prop) (g : Nat → zKT) : zKT :=
  (i_lc (-2147483648) (i_lret mc ms Rt))
set_option maxRecDepth 20000 in
theorem s_FT_spanStart_67 {X : zMa} {mc ms : Nat} {Rt : Option zAV → zMp → Prop} (hC : zCx X RX0 cX0_spanStart 1 21 mc ms (some .long) false Rt) : zLe (B_FT_spanStart_67 mc ms Rt (zG X)) (zG X 67) :=
  (sd_ldc2 hC kl_FT_45 dX0_spanStart_67 ((sd_lret hC dX0_spanStart_70)))
def B_FT_spanStart_60 (mc ms : Nat) (Rt : Option zAV → zMp → Prop) (g : Nat → zKT) : zKT :=
  (i_al 0 (i_il 1 (i_callV mc ms 1 2 T_FT_numberAt co_FT_numberAt (i_i2l (i_lret mc ms Rt)))))
set_option maxRecDepth 20000 in
theorem s_FT_spanStart_60 {X : zMa} {mc ms : Nat} {Rt : Option zAV → zMp → Prop} (hC : zCx X RX0 cX0_spanStart 1 21 mc ms (some .long) false Rt) : zLe (B_FT_spanStart_60 mc ms Rt (zG X)) (zG X 60) :=
  (sd_al_n hC rfl dX0_spanStart_60 ((sd_il_n hC rfl dX0_spanStart_61 ((sd_cV hC c_FT_numberAt yv_FT_numberAt (ci := 1) rfl rfl ml_FT_47 (by decide) (by decide) dX0_spanStart_62 ((sd_i2l hC dX0_spanStart_65 ((sd_lret hC dX0_spanStart_66)))))))))
def B_FT_spanStart_59 (mc ms : Nat) (Rt : Option zAV → zMp → Prop) (g : Nat → zKT) : zKT :=
  (i_lret mc ms Rt)
set_option maxRecDepth 20000 in
theorem s_FT_spanStart_59 {X : zMa} {mc ms : Nat} {Rt : Option zAV → zMp → Prop} (hC : zCx X RX0 cX0_spanStart 1 21 mc ms (some .long) false Rt) : zLe (B_FT_spanStart_59 mc ms Rt (zG X)) (zG X 59) :=
  (sd_lret hC dX0_spanStart_59)
def B_FT_spanStart_50 (mc ms : Nat) (Rt : Option zAV → zMp → Prop) (g : Nat → zKT) : zKT :=
  (i_al 0 (i_gf 1 1 (i_ic 1 (i_ial (i_i2l (i_lc 1 (i_ladd (B_FT_spanStart_59 mc ms Rt g))))))))
set_option maxRecDepth 20000 in
theorem s_FT_spanStart_50 {X : zMa} {mc ms : Nat} {Rt : Option zAV → zMp → Prop} (hC : zCx X RX0 cX0_spanStart 1 21 mc ms (some .long) false Rt) : zLe (B_FT_spanStart_50 mc ms Rt (zG X)) (zG X 50) :=
  (sd_al_n hC rfl dX0_spanStart_50 ((sd_gf hC (ci := 1) (fk := 1) rfl wi_FT (by decide) fl_FT_15 (Or.inl rfl) dX0_spanStart_51 ((sd_iconst hC (by decide) dX0_spanStart_54 ((sd_ial hC dX0_spanStart_55 ((sd_i2l hC dX0_spanStart_56 ((sd_lconst hC (by decide) dX0_spanStart_57 ((sd_ladd hC dX0_spanStart_58 (s_FT_spanStart_59 hC))))))))))))))
def B_FT_spanStart_40 (mc ms : Nat) (Rt : Option zAV → zMp → Prop) (g : Nat → zKT) : zKT :=
  (i_il 1 (i_ifne (B_FT_spanStart_50 mc ms Rt g) (i_lc (-2147483648) (B_FT_spanStart_59 mc ms Rt g))))
set_option maxRecDepth 20000 in
theorem s_FT_spanStart_40 {X : zMa} {mc ms : Nat} {Rt : Option zAV → zMp → Prop} (hC : zCx X RX0 cX0_spanStart 1 21 mc ms (some .long) false Rt) : zLe (B_FT_spanStart_40 mc ms Rt (zG X)) (zG X 40) :=
  (sd_il_n hC rfl dX0_spanStart_40 ((sd_ifne hC (tgt := 50) (by decide) dX0_spanStart_41 (s_FT_spanStart_50 hC) ((sd_ldc2 hC kl_FT_45 dX0_spanStart_44 ((sd_goto hC (tgt := 59) (by decide) dX0_spanStart_47 (s_FT_spanStart_59 hC))))))))
def B_FT_spanStart_32 (mc ms : Nat) (Rt : Option zAV → zMp → Prop) (g : Nat → zKT) : zKT :=
  (i_al 0 (i_gf 1 1 (i_ic 0 (i_ial (i_i2l (i_lret mc ms Rt))))))
set_option maxRecDepth 20000 in
theorem s_FT_spanStart_32 {X : zMa} {mc ms : Nat} {Rt : Option zAV → zMp → Prop} (hC : zCx X RX0 cX0_spanStart 1 21 mc ms (some .long) false Rt) : zLe (B_FT_spanStart_32 mc ms Rt (zG X)) (zG X 32) :=
  (sd_al_n hC rfl dX0_spanStart_32 ((sd_gf hC (ci := 1) (fk := 1) rfl wi_FT (by decide) fl_FT_15 (Or.inl rfl) dX0_spanStart_33 ((sd_iconst hC (by decide) dX0_spanStart_36 ((sd_ial hC dX0_spanStart_37 ((sd_i2l hC dX0_spanStart_38 ((sd_lret hC dX0_spanStart_39)))))))))))
def B_FT_spanStart_0 (mc ms : Nat) (Rt : Option zAV → zMp → Prop) (g : Nat → zKT) : zKT :=
  (i_al 0 (i_gf 1 0 (i_sw [(1, (B_FT_spanStart_32 mc ms Rt g)), (2, (B_FT_spanStart_40 mc ms Rt g)), (3, (B_FT_spanStart_60 mc ms Rt g))] (B_FT_spanStart_67 mc ms Rt g))))
set_option maxRecDepth 20000 in
theorem s_FT_spanStart_0 {X : zMa} {mc ms : Nat} {Rt : Option zAV → zMp → Prop} (hC : zCx X RX0 cX0_spanStart 1 21 mc ms (some .long) false Rt) : zLe (B_FT_spanStart_0 mc ms Rt (zG X)) (zG X 0) :=
  (sd_al_n hC rfl dX0_spanStart_0 ((sd_gf hC (ci := 1) (fk := 0) rfl wi_FT (by decide) fl_FT_9 (Or.inl rfl) dX0_spanStart_1 ((sd_tsw hC dX0_spanStart_4 (s_FT_spanStart_67 hC) [32, 40, 60] rfl (by intro q hq; simp only [List.zip_cons_cons, List.zip_nil_right, List.mem_cons, List.not_mem_nil, or_false] at hq; rcases hq with rfl | rfl | rfl; exact ⟨(show zjT 4 63 1 3 #[28, 36, 56] 1 32 from Or.inr ⟨by decide, by decide, _, rfl, by decide⟩), s_FT_spanStart_32 hC⟩; exact ⟨(show zjT 4 63 1 3 #[28, 36, 56] 2 40 from Or.inr ⟨by decide, by decide, _, rfl, by decide⟩), s_FT_spanStart_40 hC⟩; exact ⟨(show zjT 4 63 1 3 #[28, 36, 56] 3 60 from Or.inr ⟨by decide, by decide, _, rfl, by decide⟩), s_FT_spanStart_60 hC⟩) (by intro x hx; simp only [List.forall_mem_cons, List.not_mem_nil, false_imp_iff, implies_true, and_true] at hx; refine Or.inl ⟨?_, by decide⟩; obtain ⟨n0, n1, n2⟩ := hx; have n0 := zne_i (z := 1) n0 (by decide); have n1 := zne_i (z := 2) n1 (by decide); have n2 := zne_i (z := 3) n2 (by decide); omega))))))
theorem c_FT_spanStart (l : Launch) : zCT l yX0_spanStart cX0_spanStart 2 (some .long) 1 21 T_FT_spanStart co_FT_spanStart := by
  intro As M Rt hT
  obtain ⟨t, q, kd, sz, g, j, rfl, hj, ⟨h1, h2, h3⟩, hR⟩ := hT
  refine zMet_of false (by decide +kernel) (fun h => by first | rfl | cases h) (Nat.le_of_ble_eq_true rfl) (fun X hN hC => ?_)
  show zG X 0 [some (.inr t), some (.inl (.int (nI j)))] [] M 0 0
  refine s_FT_spanStart_0 hC _ _ _ _ _ ?_
  have i0 : vp_in 0 4 := by unfold vp_in; decide
  have i1 : vp_in 1 4 := by unfold vp_in; decide
  simp only [B_FT_spanStart_0, B_FT_spanStart_32, B_FT_spanStart_40, B_FT_spanStart_50, B_FT_spanStart_59, B_FT_spanStart_60, B_FT_spanStart_67, co_FT_numberAt, co_FT_spanStart, i_ic, i_lc, i_nul, i_il, i_ll, i_al, i_is, i_as, i_ls, i_inc, i_iadd, i_isub, i_imul, i_iand, i_ior, i_ixor, i_idiv, i_irem, i_ishl, i_ishr, i_ladd, i_lsub, i_land, i_lor, i_i2l, i_lushr, i_lshl, i_lshr, i_lcmp, i_dup, i_pop, i_dx1, i_dup2, i_ifeq, i_ifne, i_iflt, i_ifge, i_ifgt, i_ifle, i_iceq, i_icne, i_iclt, i_icge, i_icgt, i_icle, i_ifn, i_gf, i_pf, i_ial, i_bal, i_lal, i_aal, i_ias, i_las, i_bas, i_aas, i_alen, i_newa, i_new, i_anew, i_cast, i_oi, i_call, i_callV, i_callV2, i_callI, i_iret, i_zret, i_lret, i_vret, i_aret, i_mmx, i_mmn, i_gsE, i_aceq, i_no, i_acq, i_sw, zsw, zlg, zls, znl, zfg, zcs, zsp, zrc, zisn, zft, zc1, zto, Value.category, List.set_cons_zero, List.set_cons_succ, List.length_cons, List.length_nil, Option.toList, List.nil_append, List.cons_append, true_and, and_true, Nat.add_zero, Nat.zero_le, Nat.zero_add, Nat.le_refl, Nat.reduceAdd, Nat.reduceLeDiff, co0, z0, zn_0, zn_1, zn_2, zn_3, zn_4, zn_5, zn_8, zn_12, zn_24, zn_121, zn_144, zn_256, zn_300, zn_600, zn_720, zn_1204, zn_1280, zn_2400, zn_4816, zn_14400, zn_90000, h1, h2, nI_z hj]
  unfold ft_lo at hR
  refine ⟨fun hk => ⟨i0, ?_⟩, fun hk1 => ⟨fun hk => ⟨fun h => ⟨i1, ?_⟩, fun h => ?_⟩, fun hk2 => ⟨fun hk => ⟨t, q, kd, sz, g, j, rfl, hj, ⟨h1, h2, h3⟩, ?_⟩, fun hk3 => ?_⟩⟩⟩
  · rw [if_pos hk] at hR; exact hR
  · rw [if_neg hk1, if_pos hk, if_neg h] at hR; exact hR
  · rw [if_neg hk1, if_pos hk, if_pos h] at hR; exact hR
  · rw [if_neg hk1, if_neg hk2, if_pos hk] at hR; exact hR
  · rw [if_neg hk1, if_neg hk2, if_neg hk3] at hR; exact hR
def T_FT_spanEnd (As : List zAV) (M : zMp) (Rt : Option zAV → zMp → Prop) : Prop := ∃ t q kd sz g j, As = [.inr t, .inl (.int (nI j))] ∧ j < 2 ^ 31 ∧ zfte M t q kd sz g ∧ Rt (some (.inl (.long (ft_hi kd sz g j)))) M
abbrev co_FT_spanEnd := co0
theorem dX0_spanEnd_0 : decode cX0_spanEnd 0 = .ok (.aload_n 0, 1) := by decide +kernel
theorem dX0_spanEnd_1 : decode cX0_spanEnd 1 = .ok (.getfield 9, 3) := by decide +kernel
theorem dX0_spanEnd_4 : decode cX0_spanEnd 4 = .ok (.tableswitch 63 1 3 #[28, 36, 56], 28) := by decide +kernel
theorem dX0_spanEnd_32 : decode cX0_spanEnd 32 = .ok (.aload_n 0, 1) := by decide +kernel
theorem dX0_spanEnd_33 : decode cX0_spanEnd 33 = .ok (.getfield 15, 3) := by decide +kernel
theorem dX0_spanEnd_36 : decode cX0_spanEnd 36 = .ok (.iconst 1, 1) := by decide +kernel
theorem dX0_spanEnd_37 : decode cX0_spanEnd 37 = .ok (.iaload, 1) := by decide +kernel
theorem dX0_spanEnd_38 : decode cX0_spanEnd 38 = .ok (.i2l, 1) := by decide +kernel
theorem dX0_spanEnd_39 : decode cX0_spanEnd 39 = .ok (.lreturn, 1) := by decide +kernel
theorem dX0_spanEnd_40 : decode cX0_spanEnd 40 = .ok (.iload_n 1, 1) := by decide +kernel
theorem dX0_spanEnd_41 : decode cX0_spanEnd 41 = .ok (.ifCond .ne 15, 3) := by decide +kernel
theorem dX0_spanEnd_44 : decode cX0_spanEnd 44 = .ok (.aload_n 0, 1) := by decide +kernel
theorem dX0_spanEnd_45 : decode cX0_spanEnd 45 = .ok (.getfield 15, 3) := by decide +kernel
theorem dX0_spanEnd_48 : decode cX0_spanEnd 48 = .ok (.iconst 0, 1) := by decide +kernel
theorem dX0_spanEnd_49 : decode cX0_spanEnd 49 = .ok (.iaload, 1) := by decide +kernel
theorem dX0_spanEnd_50 : decode cX0_spanEnd 50 = .ok (.i2l, 1) := by decide +kernel
theorem dX0_spanEnd_51 : decode cX0_spanEnd 51 = .ok (.lconst 1, 1) := by decide +kernel
theorem dX0_spanEnd_52 : decode cX0_spanEnd 52 = .ok (.lsub, 1) := by decide +kernel
theorem dX0_spanEnd_53 : decode cX0_spanEnd 53 = .ok (.goto 6, 3) := by decide +kernel
theorem dX0_spanEnd_56 : decode cX0_spanEnd 56 = .ok (.ldc2_w 51, 3) := by decide +kernel
theorem dX0_spanEnd_59 : decode cX0_spanEnd 59 = .ok (.lreturn, 1) := by decide +kernel
theorem dX0_spanEnd_60 : decode cX0_spanEnd 60 = .ok (.aload_n 0, 1) := by decide +kernel
theorem dX0_spanEnd_61 : decode cX0_spanEnd 61 = .ok (.iload_n 1, 1) := by decide +kernel
theorem dX0_spanEnd_62 : decode cX0_spanEnd 62 = .ok (.invokevirtual 47, 3) := by decide +kernel
theorem dX0_spanEnd_65 : decode cX0_spanEnd 65 = .ok (.i2l, 1) := by decide +kernel
theorem dX0_spanEnd_66 : decode cX0_spanEnd 66 = .ok (.lreturn, 1) := by decide +kernel
theorem dX0_spanEnd_67 : decode cX0_spanEnd 67 = .ok (.ldc2_w 51, 3) := by decide +kernel
theorem dX0_spanEnd_70 : decode cX0_spanEnd 70 = .ok (.lreturn, 1) := by decide +kernel
def B_FT_spanEnd_67 (mc ms : Nat) (Rt : Option zAV → zMp → Prop) (g : Nat → zKT) : zKT :=
  (i_lc 2147483647 (i_lret mc ms Rt))
set_option maxRecDepth 20000 in
theorem s_FT_spanEnd_67 {X : zMa} {mc ms : Nat} {Rt : Option zAV → zMp → Prop} (hC : zCx X RX0 cX0_spanEnd 1 21 mc ms (some .long) false Rt) : zLe (B_FT_spanEnd_67 mc ms Rt (zG X)) (zG X 67) :=
  (sd_ldc2 hC kl_FT_51 dX0_spanEnd_67 ((sd_lret hC dX0_spanEnd_70)))
def B_FT_spanEnd_60 (mc ms : Nat) (Rt : Option zAV → zMp → Prop) (g : Nat → zKT) : zKT :=
  (i_al 0 (i_il 1 (i_callV mc ms 1 2 T_FT_numberAt co_FT_numberAt (i_i2l (i_lret mc ms Rt)))))
set_option maxRecDepth 20000 in
theorem s_FT_spanEnd_60 {X : zMa} {mc ms : Nat} {Rt : Option zAV → zMp → Prop} (hC : zCx X RX0 cX0_spanEnd 1 21 mc ms (some .long) false Rt) : zLe (B_FT_spanEnd_60 mc ms Rt (zG X)) (zG X 60) :=
  (sd_al_n hC rfl dX0_spanEnd_60 ((sd_il_n hC rfl dX0_spanEnd_61 ((sd_cV hC c_FT_numberAt yv_FT_numberAt (ci := 1) rfl rfl ml_FT_47 (by decide) (by decide) dX0_spanEnd_62 ((sd_i2l hC dX0_spanEnd_65 ((sd_lret hC dX0_spanEnd_66)))))))))
def B_FT_spanEnd_59 (mc ms : Nat) (Rt : Option zAV → zMp → Prop) (g : Nat → zKT) : zKT :=
  (i_lret mc ms Rt)
set_option maxRecDepth 20000 in
theorem s_FT_spanEnd_59 {X : zMa} {mc ms : Nat} {Rt : Option zAV → zMp → Prop} (hC : zCx X RX0 cX0_spanEnd 1 21 mc ms (some .long) false Rt) : zLe (B_FT_spanEnd_59 mc ms Rt (zG X)) (zG X 59) :=
  (sd_lret hC dX0_spanEnd_59)
def B_FT_spanEnd_56 (mc ms : Nat) (Rt : Option zAV → zMp → Prop) (g : Nat → zKT) : zKT :=
  (i_lc 2147483647 (B_FT_spanEnd_59 mc ms Rt g))
set_option maxRecDepth 20000 in
theorem s_FT_spanEnd_56 {X : zMa} {mc ms : Nat} {Rt : Option zAV → zMp → Prop} (hC : zCx X RX0 cX0_spanEnd 1 21 mc ms (some .long) false Rt) : zLe (B_FT_spanEnd_56 mc ms Rt (zG X)) (zG X 56) :=
  (sd_ldc2 hC kl_FT_51 dX0_spanEnd_56 (s_FT_spanEnd_59 hC))
def B_FT_spanEnd_40 (mc ms : Nat) (Rt : Option zAV → zMp → Prop) (g : Nat → zKT) : zKT :=
  (i_il 1 (i_ifne (B_FT_spanEnd_56 mc ms Rt g) (i_al 0 (i_gf 1 1 (i_ic 0 (i_ial (i_i2l (i_lc 1 (i_lsub (B_FT_spanEnd_59 mc ms Rt g))))))))))
set_option maxRecDepth 20000 in
theorem s_FT_spanEnd_40 {X : zMa} {mc ms : Nat} {Rt : Option zAV → zMp → Prop} (hC : zCx X RX0 cX0_spanEnd 1 21 mc ms (some .long) false Rt) : zLe (B_FT_spanEnd_40 mc ms Rt (zG X)) (zG X 40) :=
  (sd_il_n hC rfl dX0_spanEnd_40 ((sd_ifne hC (tgt := 56) (by decide) dX0_spanEnd_41 (s_FT_spanEnd_56 hC) ((sd_al_n hC rfl dX0_spanEnd_44 ((sd_gf hC (ci := 1) (fk := 1) rfl wi_FT (by decide) fl_FT_15 (Or.inl rfl) dX0_spanEnd_45 ((sd_iconst hC (by decide) dX0_spanEnd_48 ((sd_ial hC dX0_spanEnd_49 ((sd_i2l hC dX0_spanEnd_50 ((sd_lconst hC (by decide) dX0_spanEnd_51 ((sd_lsub hC dX0_spanEnd_52 ((sd_goto hC (tgt := 59) (by decide) dX0_spanEnd_53 (s_FT_spanEnd_59 hC))))))))))))))))))))
def B_FT_spanEnd_32 (mc ms : Nat) (Rt : Option zAV → zMp → Prop) (g : Nat → zKT) : zKT :=
  (i_al 0 (i_gf 1 1 (i_ic 1 (i_ial (i_i2l (i_lret mc ms Rt))))))
set_option maxRecDepth 20000 in
theorem s_FT_spanEnd_32 {X : zMa} {mc ms : Nat} {Rt : Option zAV → zMp → Prop} (hC : zCx X RX0 cX0_spanEnd 1 21 mc ms (some .long) false Rt) : zLe (B_FT_spanEnd_32 mc ms Rt (zG X)) (zG X 32) :=
  (sd_al_n hC rfl dX0_spanEnd_32 ((sd_gf hC (ci := 1) (fk := 1) rfl wi_FT (by decide) fl_FT_15 (Or.inl rfl) dX0_spanEnd_33 ((sd_iconst hC (by decide) dX0_spanEnd_36 ((sd_ial hC dX0_spanEnd_37 ((sd_i2l hC dX0_spanEnd_38 ((sd_lret hC dX0_spanEnd_39)))))))))))
def B_FT_spanEnd_0 (mc ms : Nat) (Rt : Option zAV → zMp → Prop) (g : Nat → zKT) : zKT :=
  (i_al 0 (i_gf 1 0 (i_sw [(1, (B_FT_spanEnd_32 mc ms Rt g)), (2, (B_FT_spanEnd_40 mc ms Rt g)), (3, (B_FT_spanEnd_60 mc ms Rt g))] (B_FT_spanEnd_67 mc ms Rt g))))
set_option maxRecDepth 20000 in
theorem s_FT_spanEnd_0 {X : zMa} {mc ms : Nat} {Rt : Option zAV → zMp → Prop} (hC : zCx X RX0 cX0_spanEnd 1 21 mc ms (some .long) false Rt) : zLe (B_FT_spanEnd_0 mc ms Rt (zG X)) (zG X 0) :=
  (sd_al_n hC rfl dX0_spanEnd_0 ((sd_gf hC (ci := 1) (fk := 0) rfl wi_FT (by decide) fl_FT_9 (Or.inl rfl) dX0_spanEnd_1 ((sd_tsw hC dX0_spanEnd_4 (s_FT_spanEnd_67 hC) [32, 40, 60] rfl (by intro q hq; simp only [List.zip_cons_cons, List.zip_nil_right, List.mem_cons, List.not_mem_nil, or_false] at hq; rcases hq with rfl | rfl | rfl; exact ⟨(show zjT 4 63 1 3 #[28, 36, 56] 1 32 from Or.inr ⟨by decide, by decide, _, rfl, by decide⟩), s_FT_spanEnd_32 hC⟩; exact ⟨(show zjT 4 63 1 3 #[28, 36, 56] 2 40 from Or.inr ⟨by decide, by decide, _, rfl, by decide⟩), s_FT_spanEnd_40 hC⟩; exact ⟨(show zjT 4 63 1 3 #[28, 36, 56] 3 60 from Or.inr ⟨by decide, by decide, _, rfl, by decide⟩), s_FT_spanEnd_60 hC⟩) (by intro x hx; simp only [List.forall_mem_cons, List.not_mem_nil, false_imp_iff, implies_true, and_true] at hx; refine Or.inl ⟨?_, by decide⟩; obtain ⟨n0, n1, n2⟩ := hx; have n0 := zne_i (z := 1) n0 (by decide); have n1 := zne_i (z := 2) n1 (by decide); have n2 := zne_i (z := 3) n2 (by decide); omega))))))
theorem c_FT_spanEnd (l : Launch) : zCT l yX0_spanEnd cX0_spanEnd 2 (some .long) 1 21 T_FT_spanEnd co_FT_spanEnd := by
  intro As M Rt hT
  obtain ⟨t, q, kd, sz, g, j, rfl, hj, ⟨h1, h2, h3⟩, hR⟩ := hT
  refine zMet_of false (by decide +kernel) (fun h => by first | rfl | cases h) (Nat.le_of_ble_eq_true rfl) (fun X hN hC => ?_)
  show zG X 0 [some (.inr t), some (.inl (.int (nI j)))] [] M 0 0
  refine s_FT_spanEnd_0 hC _ _ _ _ _ ?_
  have i0 : vp_in 0 4 := by unfold vp_in; decide
  have i1 : vp_in 1 4 := by unfold vp_in; decide
  simp only [B_FT_spanEnd_0, B_FT_spanEnd_32, B_FT_spanEnd_40, B_FT_spanEnd_56, B_FT_spanEnd_59, B_FT_spanEnd_60, B_FT_spanEnd_67, co_FT_numberAt, co_FT_spanEnd, i_ic, i_lc, i_nul, i_il, i_ll, i_al, i_is, i_as, i_ls, i_inc, i_iadd, i_isub, i_imul, i_iand, i_ior, i_ixor, i_idiv, i_irem, i_ishl, i_ishr, i_ladd, i_lsub, i_land, i_lor, i_i2l, i_lushr, i_lshl, i_lshr, i_lcmp, i_dup, i_pop, i_dx1, i_dup2, i_ifeq, i_ifne, i_iflt, i_ifge, i_ifgt, i_ifle, i_iceq, i_icne, i_iclt, i_icge, i_icgt, i_icle, i_ifn, i_gf, i_pf, i_ial, i_bal, i_lal, i_aal, i_ias, i_las, i_bas, i_aas, i_alen, i_newa, i_new, i_anew, i_cast, i_oi, i_call, i_callV, i_callV2, i_callI, i_iret, i_zret, i_lret, i_vret, i_aret, i_mmx, i_mmn, i_gsE, i_aceq, i_no, i_acq, i_sw, zsw, zlg, zls, znl, zfg, zcs, zsp, zrc, zisn, zft, zc1, zto, Value.category, List.set_cons_zero, List.set_cons_succ, List.length_cons, List.length_nil, Option.toList, List.nil_append, List.cons_append, true_and, and_true, Nat.add_zero, Nat.zero_le, Nat.zero_add, Nat.le_refl, Nat.reduceAdd, Nat.reduceLeDiff, co0, z0, zn_0, zn_1, zn_2, zn_3, zn_4, zn_5, zn_8, zn_12, zn_24, zn_121, zn_144, zn_256, zn_300, zn_600, zn_720, zn_1204, zn_1280, zn_2400, zn_4816, zn_14400, zn_90000, h1, h2, nI_z hj]
  unfold ft_hi at hR
  refine ⟨fun hk => ⟨i1, ?_⟩, fun hk1 => ⟨fun hk => ⟨fun h => ?_, fun h => ⟨i0, ?_⟩⟩, fun hk2 => ⟨fun hk => ⟨t, q, kd, sz, g, j, rfl, hj, ⟨h1, h2, h3⟩, ?_⟩, fun hk3 => ?_⟩⟩⟩
  · rw [if_pos hk] at hR; exact hR
  · rw [if_neg hk1, if_pos hk, if_neg h] at hR; exact hR
  · rw [if_neg hk1, if_pos hk, if_pos h] at hR; exact hR
  · rw [if_neg hk1, if_neg hk2, if_pos hk] at hR; exact hR
  · rw [if_neg hk1, if_neg hk2, if_neg hk3] at hR; exact hR
/-- the first number at or behind next that no span from the i-th on takes away, going over the spans once -/
noncomputable def ft_next (kd : Int32) (sz : Nat) (g : Nat → Int32) : Nat → Nat → Int64 → Int64
  | 0, _, x => x
  | n + 1, i, x => ft_next kd sz g n (i + 1) (if ft_lo kd sz g i ≤ x ∧ x ≤ ft_hi kd sz g i then ft_hi kd sz g i + 1 else x)
noncomputable def ft_all (kd : Int32) (sz : Nat) (g : Nat → Int32) (a b : Int64) : Bool := zd (b < ft_next kd sz g (ft_spans kd sz) 0 a)
def T_FT_passesAll (As : List zAV) (M : zMp) (Rt : Option zAV → zMp → Prop) : Prop := ∃ t q kd sz g a b, As = [.inr t, .inl (.long a), .inl (.long b)] ∧ zfte M t q kd sz g ∧ Rt (some (.inl (.int (zb (ft_all kd sz g a b))))) M
abbrev co_FT_passesAll := co0
theorem dX0_passesAll_0 : decode cX0_passesAll 0 = .ok (.lload_n 1, 1) := by decide +kernel
theorem dX0_passesAll_1 : decode cX0_passesAll 1 = .ok (.lstore 5, 2) := by decide +kernel
theorem dX0_passesAll_3 : decode cX0_passesAll 3 = .ok (.iconst 0, 1) := by decide +kernel
theorem dX0_passesAll_4 : decode cX0_passesAll 4 = .ok (.istore 7, 2) := by decide +kernel
theorem dX0_passesAll_6 : decode cX0_passesAll 6 = .ok (.iload 7, 2) := by decide +kernel
theorem dX0_passesAll_8 : decode cX0_passesAll 8 = .ok (.aload_n 0, 1) := by decide +kernel
theorem dX0_passesAll_9 : decode cX0_passesAll 9 = .ok (.invokevirtual 30, 3) := by decide +kernel
theorem dX0_passesAll_12 : decode cX0_passesAll 12 = .ok (.if_icmp .ge 43, 3) := by decide +kernel
theorem dX0_passesAll_15 : decode cX0_passesAll 15 = .ok (.aload_n 0, 1) := by decide +kernel
theorem dX0_passesAll_16 : decode cX0_passesAll 16 = .ok (.iload 7, 2) := by decide +kernel
theorem dX0_passesAll_18 : decode cX0_passesAll 18 = .ok (.invokevirtual 34, 3) := by decide +kernel
theorem dX0_passesAll_21 : decode cX0_passesAll 21 = .ok (.lload 5, 2) := by decide +kernel
theorem dX0_passesAll_23 : decode cX0_passesAll 23 = .ok (.lcmp, 1) := by decide +kernel
theorem dX0_passesAll_24 : decode cX0_passesAll 24 = .ok (.ifCond .gt 25, 3) := by decide +kernel
theorem dX0_passesAll_27 : decode cX0_passesAll 27 = .ok (.lload 5, 2) := by decide +kernel
theorem dX0_passesAll_29 : decode cX0_passesAll 29 = .ok (.aload_n 0, 1) := by decide +kernel
theorem dX0_passesAll_30 : decode cX0_passesAll 30 = .ok (.iload 7, 2) := by decide +kernel
theorem dX0_passesAll_32 : decode cX0_passesAll 32 = .ok (.invokevirtual 38, 3) := by decide +kernel
theorem dX0_passesAll_35 : decode cX0_passesAll 35 = .ok (.lcmp, 1) := by decide +kernel
theorem dX0_passesAll_36 : decode cX0_passesAll 36 = .ok (.ifCond .gt 13, 3) := by decide +kernel
theorem dX0_passesAll_39 : decode cX0_passesAll 39 = .ok (.aload_n 0, 1) := by decide +kernel
theorem dX0_passesAll_40 : decode cX0_passesAll 40 = .ok (.iload 7, 2) := by decide +kernel
theorem dX0_passesAll_42 : decode cX0_passesAll 42 = .ok (.invokevirtual 38, 3) := by decide +kernel
theorem dX0_passesAll_45 : decode cX0_passesAll 45 = .ok (.lconst 1, 1) := by decide +kernel
theorem dX0_passesAll_46 : decode cX0_passesAll 46 = .ok (.ladd, 1) := by decide +kernel
theorem dX0_passesAll_47 : decode cX0_passesAll 47 = .ok (.lstore 5, 2) := by decide +kernel
theorem dX0_passesAll_49 : decode cX0_passesAll 49 = .ok (.iinc 7 1, 3) := by decide +kernel
theorem dX0_passesAll_52 : decode cX0_passesAll 52 = .ok (.goto (-46), 3) := by decide +kernel
theorem dX0_passesAll_55 : decode cX0_passesAll 55 = .ok (.lload 5, 2) := by decide +kernel
theorem dX0_passesAll_57 : decode cX0_passesAll 57 = .ok (.lload_n 3, 1) := by decide +kernel
theorem dX0_passesAll_58 : decode cX0_passesAll 58 = .ok (.lcmp, 1) := by decide +kernel
theorem dX0_passesAll_59 : decode cX0_passesAll 59 = .ok (.ifCond .le 7, 3) := by decide +kernel
theorem dX0_passesAll_62 : decode cX0_passesAll 62 = .ok (.iconst 1, 1) := by decide +kernel
theorem dX0_passesAll_63 : decode cX0_passesAll 63 = .ok (.goto 4, 3) := by decide +kernel
theorem dX0_passesAll_66 : decode cX0_passesAll 66 = .ok (.iconst 0, 1) := by decide +kernel
theorem dX0_passesAll_67 : decode cX0_passesAll 67 = .ok (.ireturn, 1) := by decide +kernel
def B_FT_passesAll_67 (mc ms : Nat) (Rt : Option zAV → zMp → Prop) (g : Nat → zKT) : zKT :=
  (i_zret mc ms Rt)
set_option maxRecDepth 20000 in
theorem s_FT_passesAll_67 {X : zMa} {mc ms : Nat} {Rt : Option zAV → zMp → Prop} (hC : zCx X RX0 cX0_passesAll 2 42 mc ms (some .boolean) false Rt) (hN : zNL X = 8) : zLe (B_FT_passesAll_67 mc ms Rt (zG X)) (zG X 67) :=
  (sd_zret hC dX0_passesAll_67)
def B_FT_passesAll_66 (mc ms : Nat) (Rt : Option zAV → zMp → Prop) (g : Nat → zKT) : zKT :=
  (i_ic 0 (B_FT_passesAll_67 mc ms Rt g))
set_option maxRecDepth 20000 in
theorem s_FT_passesAll_66 {X : zMa} {mc ms : Nat} {Rt : Option zAV → zMp → Prop} (hC : zCx X RX0 cX0_passesAll 2 42 mc ms (some .boolean) false Rt) (hN : zNL X = 8) : zLe (B_FT_passesAll_66 mc ms Rt (zG X)) (zG X 66) :=
  (sd_iconst hC (by decide) dX0_passesAll_66 (s_FT_passesAll_67 hC hN))
def B_FT_passesAll_55 (mc ms : Nat) (Rt : Option zAV → zMp → Prop) (g : Nat → zKT) : zKT :=
  (i_ll 5 (i_ll 3 (i_lcmp (i_ifle (B_FT_passesAll_66 mc ms Rt g) (i_ic 1 (B_FT_passesAll_67 mc ms Rt g))))))
set_option maxRecDepth 20000 in
theorem s_FT_passesAll_55 {X : zMa} {mc ms : Nat} {Rt : Option zAV → zMp → Prop} (hC : zCx X RX0 cX0_passesAll 2 42 mc ms (some .boolean) false Rt) (hN : zNL X = 8) : zLe (B_FT_passesAll_55 mc ms Rt (zG X)) (zG X 55) :=
  (sd_ll hC dX0_passesAll_55 ((sd_ll_n hC rfl dX0_passesAll_57 ((sd_lcmp hC dX0_passesAll_58 ((sd_ifle hC (tgt := 66) (by decide) dX0_passesAll_59 (s_FT_passesAll_66 hC hN) ((sd_iconst hC (by decide) dX0_passesAll_62 ((sd_goto hC (tgt := 67) (by decide) dX0_passesAll_63 (s_FT_passesAll_67 hC hN))))))))))))
def B_FT_passesAll_49 (mc ms : Nat) (Rt : Option zAV → zMp → Prop) (g : Nat → zKT) : zKT :=
  (i_inc 7 1 (g 6))
set_option maxRecDepth 20000 in
theorem s_FT_passesAll_49 {X : zMa} {mc ms : Nat} {Rt : Option zAV → zMp → Prop} (hC : zCx X RX0 cX0_passesAll 2 42 mc ms (some .boolean) false Rt) (hN : zNL X = 8) : zLe (B_FT_passesAll_49 mc ms Rt (zG X)) (zG X 49) :=
  (sd_inc hC (by decide) (by rw [hN]; decide) dX0_passesAll_49 ((sd_goto hC (tgt := 6) (by decide) dX0_passesAll_52 (zLe_rfl))))
def B_FT_passesAll_6 (mc ms : Nat) (Rt : Option zAV → zMp → Prop) (g : Nat → zKT) : zKT :=
  (i_il 7 (i_al 0 (i_callV mc ms 1 1 T_FT_spans co_FT_spans (i_icge (B_FT_passesAll_55 mc ms Rt g) (i_al 0 (i_il 7 (i_callV mc ms 1 2 T_FT_spanStart co_FT_spanStart (i_ll 5 (i_lcmp (i_ifgt (B_FT_passesAll_49 mc ms Rt g) (i_ll 5 (i_al 0 (i_il 7 (i_callV mc ms 1 2 T_FT_spanEnd co_FT_spanEnd (i_lcmp (i_ifgt (B_FT_passesAll_49 mc ms Rt g) (i_al 0 (i_il 7 (i_callV mc ms 1 2 T_FT_spanEnd co_FT_spanEnd (i_lc 1 (i_ladd (i_ls 5 (B_FT_passesAll_49 mc ms Rt g)))))))))))))))))))))))
set_option maxRecDepth 20000 in
theorem s_FT_passesAll_6 {X : zMa} {mc ms : Nat} {Rt : Option zAV → zMp → Prop} (hC : zCx X RX0 cX0_passesAll 2 42 mc ms (some .boolean) false Rt) (hN : zNL X = 8) : zLe (B_FT_passesAll_6 mc ms Rt (zG X)) (zG X 6) :=
  (sd_il hC dX0_passesAll_6 ((sd_al_n hC rfl dX0_passesAll_8 ((sd_cV hC c_FT_spans yv_FT_spans (ci := 1) rfl rfl ml_FT_30 (by decide) (by decide) dX0_passesAll_9 ((sd_icge hC (tgt := 55) (by decide) dX0_passesAll_12 (s_FT_passesAll_55 hC hN) ((sd_al_n hC rfl dX0_passesAll_15 ((sd_il hC dX0_passesAll_16 ((sd_cV hC c_FT_spanStart yv_FT_spanStart (ci := 1) rfl rfl ml_FT_34 (by decide) (by decide) dX0_passesAll_18 ((sd_ll hC dX0_passesAll_21 ((sd_lcmp hC dX0_passesAll_23 ((sd_ifgt hC (tgt := 49) (by decide) dX0_passesAll_24 (s_FT_passesAll_49 hC hN) ((sd_ll hC dX0_passesAll_27 ((sd_al_n hC rfl dX0_passesAll_29 ((sd_il hC dX0_passesAll_30 ((sd_cV hC c_FT_spanEnd yv_FT_spanEnd (ci := 1) rfl rfl ml_FT_38 (by decide) (by decide) dX0_passesAll_32 ((sd_lcmp hC dX0_passesAll_35 ((sd_ifgt hC (tgt := 49) (by decide) dX0_passesAll_36 (s_FT_passesAll_49 hC hN) ((sd_al_n hC rfl dX0_passesAll_39 ((sd_il hC dX0_passesAll_40 ((sd_cV hC c_FT_spanEnd yv_FT_spanEnd (ci := 1) rfl rfl ml_FT_38 (by decide) (by decide) dX0_passesAll_42 ((sd_lconst hC (by decide) dX0_passesAll_45 ((sd_ladd hC dX0_passesAll_46 ((sd_ls hC (by rw [hN]; decide) dX0_passesAll_47 (s_FT_passesAll_49 hC hN))))))))))))))))))))))))))))))))))))))))))))
def B_FT_passesAll_0 (mc ms : Nat) (Rt : Option zAV → zMp → Prop) (g : Nat → zKT) : zKT :=
  (i_ll 1 (i_ls 5 (i_ic 0 (i_is 7 (g 6)))))
set_option maxRecDepth 20000 in
theorem s_FT_passesAll_0 {X : zMa} {mc ms : Nat} {Rt : Option zAV → zMp → Prop} (hC : zCx X RX0 cX0_passesAll 2 42 mc ms (some .boolean) false Rt) (hN : zNL X = 8) : zLe (B_FT_passesAll_0 mc ms Rt (zG X)) (zG X 0) :=
  (sd_ll_n hC rfl dX0_passesAll_0 ((sd_ls hC (by rw [hN]; decide) dX0_passesAll_1 ((sd_iconst hC (by decide) dX0_passesAll_3 ((sd_is hC (by rw [hN]; decide) dX0_passesAll_4 (zLe_rfl))))))))
theorem c_FT_passesAll (l : Launch) : zCT l yX0_passesAll cX0_passesAll 8 (some .boolean) 2 42 T_FT_passesAll co_FT_passesAll := by
  intro As M Rt hT
  obtain ⟨t, q, kd, sz, g, a, b, rfl, ⟨h1, h2, h3⟩, hR⟩ := hT
  refine zMet_of false (by decide +kernel) (fun h => by first | rfl | cases h) (Nat.le_of_ble_eq_true rfl) (fun X hN hC => ?_)
  show zG X 0 [some (.inr t), some (.inl (.long a)), none, some (.inl (.long b)), none, none, none, none] [] M 0 0
  have hs := ft_spans_le (kd := kd) h3
  have loop : ∀ n i x, i + n = ft_spans kd sz → ft_next kd sz g (ft_spans kd sz) 0 a = ft_next kd sz g n i x → zG X 6 [some (.inr t), some (.inl (.long a)), none, some (.inl (.long b)), none, some (.inl (.long x)), none, some (.inl (.int (nI i)))] [] M 0 0 := by
    intro n
    induction n with
    | zero =>
      intro i x hi he
      refine s_FT_passesAll_6 hC hN _ _ _ _ _ ?_
      simp only [B_FT_passesAll_0, B_FT_passesAll_6, B_FT_passesAll_49, B_FT_passesAll_55, B_FT_passesAll_66, B_FT_passesAll_67, co_FT_passesAll, co_FT_spanEnd, co_FT_spanStart, co_FT_spans, i_ic, i_lc, i_nul, i_il, i_ll, i_al, i_is, i_as, i_ls, i_inc, i_iadd, i_isub, i_imul, i_iand, i_ior, i_ixor, i_idiv, i_irem, i_ishl, i_ishr, i_ladd, i_lsub, i_land, i_lor, i_i2l, i_lushr, i_lshl, i_lshr, i_lcmp, i_dup, i_pop, i_dx1, i_dup2, i_ifeq, i_ifne, i_iflt, i_ifge, i_ifgt, i_ifle, i_iceq, i_icne, i_iclt, i_icge, i_icgt, i_icle, i_ifn, i_gf, i_pf, i_ial, i_bal, i_lal, i_aal, i_ias, i_las, i_bas, i_aas, i_alen, i_newa, i_new, i_anew, i_cast, i_oi, i_call, i_callV, i_callV2, i_callI, i_iret, i_zret, i_lret, i_vret, i_aret, i_mmx, i_mmn, i_gsE, i_aceq, i_no, i_acq, i_sw, zsw, zlg, zls, znl, zfg, zcs, zsp, zrc, zisn, zft, zc1, zto, Value.category, List.set_cons_zero, List.set_cons_succ, List.length_cons, List.length_nil, Option.toList, List.nil_append, List.cons_append, true_and, and_true, Nat.add_zero, Nat.zero_le, Nat.zero_add, Nat.le_refl, Nat.reduceAdd, Nat.reduceLeDiff, co0, z0, zn_0, zn_1, zn_2, zn_3, zn_4, zn_5, zn_8, zn_12, zn_24, zn_121, zn_144, zn_256, zn_300, zn_600, zn_720, zn_1204, zn_1280, zn_2400, zn_4816, zn_14400, zn_90000, h1]
      refine ⟨t, q, kd, sz, g, rfl, ⟨h1, h2, h3⟩, fun _ => ?_, fun h => absurd ((zK (K := ft_spans kd sz) (by omega) (n := i) (by omega)).2.1.mpr (by omega)) h⟩
      rw [lg_cmp_le]
      simp only [ft_next] at he
      unfold ft_all at hR
      rw [he] at hR
      refine ⟨fun h => ⟨by decide, ?_⟩, fun h => ⟨by decide, ?_⟩⟩
      · rw [zd_f (Int64.not_lt.mpr h)] at hR; exact hR
      · rw [zd_t (Int64.not_le.mp h)] at hR; exact hR
    | succ n ih =>
      intro i x hi he
      simp only [ft_next] at he
      have hf : zfte M t q kd sz g := ⟨h1, h2, h3⟩
      have hi31 : i < 2 ^ 31 := by omega
      refine s_FT_passesAll_6 hC hN _ _ _ _ _ ?_
      simp only [B_FT_passesAll_0, B_FT_passesAll_6, B_FT_passesAll_49, B_FT_passesAll_55, B_FT_passesAll_66, B_FT_passesAll_67, co_FT_passesAll, co_FT_spanEnd, co_FT_spanStart, co_FT_spans, i_ic, i_lc, i_nul, i_il, i_ll, i_al, i_is, i_as, i_ls, i_inc, i_iadd, i_isub, i_imul, i_iand, i_ior, i_ixor, i_idiv, i_irem, i_ishl, i_ishr, i_ladd, i_lsub, i_land, i_lor, i_i2l, i_lushr, i_lshl, i_lshr, i_lcmp, i_dup, i_pop, i_dx1, i_dup2, i_ifeq, i_ifne, i_iflt, i_ifge, i_ifgt, i_ifle, i_iceq, i_icne, i_iclt, i_icge, i_icgt, i_icle, i_ifn, i_gf, i_pf, i_ial, i_bal, i_lal, i_aal, i_ias, i_las, i_bas, i_aas, i_alen, i_newa, i_new, i_anew, i_cast, i_oi, i_call, i_callV, i_callV2, i_callI, i_iret, i_zret, i_lret, i_vret, i_aret, i_mmx, i_mmn, i_gsE, i_aceq, i_no, i_acq, i_sw, zsw, zlg, zls, znl, zfg, zcs, zsp, zrc, zisn, zft, zc1, zto, Value.category, List.set_cons_zero, List.set_cons_succ, List.length_cons, List.length_nil, Option.toList, List.nil_append, List.cons_append, true_and, and_true, Nat.add_zero, Nat.zero_le, Nat.zero_add, Nat.le_refl, Nat.reduceAdd, Nat.reduceLeDiff, co0, z0, zn_0, zn_1, zn_2, zn_3, zn_4, zn_5, zn_8, zn_12, zn_24, zn_121, zn_144, zn_256, zn_300, zn_600, zn_720, zn_1204, zn_1280, zn_2400, zn_4816, zn_14400, zn_90000, h1]
      refine ⟨t, q, kd, sz, g, rfl, hf, ?_⟩
      simp only [i_ic, i_lc, i_nul, i_il, i_ll, i_al, i_is, i_as, i_ls, i_inc, i_iadd, i_isub, i_imul, i_iand, i_ior, i_ixor, i_idiv, i_irem, i_ishl, i_ishr, i_ladd, i_lsub, i_land, i_lor, i_i2l, i_lushr, i_lshl, i_lshr, i_lcmp, i_dup, i_pop, i_dx1, i_dup2, i_ifeq, i_ifne, i_iflt, i_ifge, i_ifgt, i_ifle, i_iceq, i_icne, i_iclt, i_icge, i_icgt, i_icle, i_ifn, i_gf, i_pf, i_ial, i_bal, i_lal, i_aal, i_ias, i_las, i_bas, i_aas, i_alen, i_newa, i_new, i_anew, i_cast, i_oi, i_call, i_callV, i_callV2, i_callI, i_iret, i_zret, i_lret, i_vret, i_aret, i_mmx, i_mmn, i_gsE, i_aceq, i_no, i_acq, i_sw, zsw, zlg, zls, znl, zfg, zcs, zsp, zrc, zisn, zft, zc1, zto, Value.category, List.set_cons_zero, List.set_cons_succ, List.length_cons, List.length_nil, Option.toList, List.nil_append, List.cons_append, true_and, and_true, Nat.add_zero, Nat.zero_le, Nat.zero_add, Nat.le_refl, Nat.reduceAdd, Nat.reduceLeDiff, co0, z0, zn_0, zn_1, zn_2, zn_3, zn_4, zn_5, zn_8, zn_12, zn_24, zn_121, zn_144, zn_256, zn_300, zn_600, zn_720, zn_1204, zn_1280, zn_2400, zn_4816, zn_14400, zn_90000, h1]
      refine ⟨fun h => absurd ((zK (K := ft_spans kd sz) (by omega) (n := i) (by omega)).2.1.mp h) (by omega), fun _ => ⟨t, q, kd, sz, g, i, rfl, hi31, hf, ?_⟩⟩
      simp only [i_ic, i_lc, i_nul, i_il, i_ll, i_al, i_is, i_as, i_ls, i_inc, i_iadd, i_isub, i_imul, i_iand, i_ior, i_ixor, i_idiv, i_irem, i_ishl, i_ishr, i_ladd, i_lsub, i_land, i_lor, i_i2l, i_lushr, i_lshl, i_lshr, i_lcmp, i_dup, i_pop, i_dx1, i_dup2, i_ifeq, i_ifne, i_iflt, i_ifge, i_ifgt, i_ifle, i_iceq, i_icne, i_iclt, i_icge, i_icgt, i_icle, i_ifn, i_gf, i_pf, i_ial, i_bal, i_lal, i_aal, i_ias, i_las, i_bas, i_aas, i_alen, i_newa, i_new, i_anew, i_cast, i_oi, i_call, i_callV, i_callV2, i_callI, i_iret, i_zret, i_lret, i_vret, i_aret, i_mmx, i_mmn, i_gsE, i_aceq, i_no, i_acq, i_sw, zsw, zlg, zls, znl, zfg, zcs, zsp, zrc, zisn, zft, zc1, zto, Value.category, List.set_cons_zero, List.set_cons_succ, List.length_cons, List.length_nil, Option.toList, List.nil_append, List.cons_append, true_and, and_true, Nat.add_zero, Nat.zero_le, Nat.zero_add, Nat.le_refl, Nat.reduceAdd, Nat.reduceLeDiff, co0, z0, zn_0, zn_1, zn_2, zn_3, zn_4, zn_5, zn_8, zn_12, zn_24, zn_121, zn_144, zn_256, zn_300, zn_600, zn_720, zn_1204, zn_1280, zn_2400, zn_4816, zn_14400, zn_90000, h1]
      rw [lg_cmp_gt, nI_1]
      refine ⟨fun h => ?_, fun h => ⟨t, q, kd, sz, g, i, rfl, hi31, hf, ?_⟩⟩
      · rw [if_neg (fun z => absurd h (Int64.not_lt.mpr z.1))] at he
        exact ih (i + 1) x (by omega) he
      · simp only [i_ic, i_lc, i_nul, i_il, i_ll, i_al, i_is, i_as, i_ls, i_inc, i_iadd, i_isub, i_imul, i_iand, i_ior, i_ixor, i_idiv, i_irem, i_ishl, i_ishr, i_ladd, i_lsub, i_land, i_lor, i_i2l, i_lushr, i_lshl, i_lshr, i_lcmp, i_dup, i_pop, i_dx1, i_dup2, i_ifeq, i_ifne, i_iflt, i_ifge, i_ifgt, i_ifle, i_iceq, i_icne, i_iclt, i_icge, i_icgt, i_icle, i_ifn, i_gf, i_pf, i_ial, i_bal, i_lal, i_aal, i_ias, i_las, i_bas, i_aas, i_alen, i_newa, i_new, i_anew, i_cast, i_oi, i_call, i_callV, i_callV2, i_callI, i_iret, i_zret, i_lret, i_vret, i_aret, i_mmx, i_mmn, i_gsE, i_aceq, i_no, i_acq, i_sw, zsw, zlg, zls, znl, zfg, zcs, zsp, zrc, zisn, zft, zc1, zto, Value.category, List.set_cons_zero, List.set_cons_succ, List.length_cons, List.length_nil, Option.toList, List.nil_append, List.cons_append, true_and, and_true, Nat.add_zero, Nat.zero_le, Nat.zero_add, Nat.le_refl, Nat.reduceAdd, Nat.reduceLeDiff, co0, z0, zn_0, zn_1, zn_2, zn_3, zn_4, zn_5, zn_8, zn_12, zn_24, zn_121, zn_144, zn_256, zn_300, zn_600, zn_720, zn_1204, zn_1280, zn_2400, zn_4816, zn_14400, zn_90000, h1]
        rw [lg_cmp_gt]
        refine ⟨fun h' => ?_, fun h' => ⟨t, q, kd, sz, g, i, rfl, hi31, hf, ?_⟩⟩
        · rw [if_neg (fun z => absurd h' (Int64.not_lt.mpr z.2))] at he
          exact ih (i + 1) x (by omega) he
        · rw [if_pos ⟨Int64.not_lt.mp h, Int64.not_lt.mp h'⟩] at he
          exact ih (i + 1) _ (by omega) he
  refine s_FT_passesAll_0 hC hN _ _ _ _ _ ?_
  simp only [B_FT_passesAll_0, B_FT_passesAll_6, B_FT_passesAll_49, B_FT_passesAll_55, B_FT_passesAll_66, B_FT_passesAll_67, co_FT_passesAll, co_FT_spanEnd, co_FT_spanStart, co_FT_spans, i_ic, i_lc, i_nul, i_il, i_ll, i_al, i_is, i_as, i_ls, i_inc, i_iadd, i_isub, i_imul, i_iand, i_ior, i_ixor, i_idiv, i_irem, i_ishl, i_ishr, i_ladd, i_lsub, i_land, i_lor, i_i2l, i_lushr, i_lshl, i_lshr, i_lcmp, i_dup, i_pop, i_dx1, i_dup2, i_ifeq, i_ifne, i_iflt, i_ifge, i_ifgt, i_ifle, i_iceq, i_icne, i_iclt, i_icge, i_icgt, i_icle, i_ifn, i_gf, i_pf, i_ial, i_bal, i_lal, i_aal, i_ias, i_las, i_bas, i_aas, i_alen, i_newa, i_new, i_anew, i_cast, i_oi, i_call, i_callV, i_callV2, i_callI, i_iret, i_zret, i_lret, i_vret, i_aret, i_mmx, i_mmn, i_gsE, i_aceq, i_no, i_acq, i_sw, zsw, zlg, zls, znl, zfg, zcs, zsp, zrc, zisn, zft, zc1, zto, Value.category, List.set_cons_zero, List.set_cons_succ, List.length_cons, List.length_nil, Option.toList, List.nil_append, List.cons_append, true_and, and_true, Nat.add_zero, Nat.zero_le, Nat.zero_add, Nat.le_refl, Nat.reduceAdd, Nat.reduceLeDiff, co0, z0, zn_0, zn_1, zn_2, zn_3, zn_4, zn_5, zn_8, zn_12, zn_24, zn_121, zn_144, zn_256, zn_300, zn_600, zn_720, zn_1204, zn_1280, zn_2400, zn_4816, zn_14400, zn_90000]
  exact loop _ 0 a (Nat.zero_add _) rfl
noncomputable def ft_wide (kd : Int32) (sz : Nat) (g : Nat → Int32) (kd' : Int32) (sz' : Nat) (g' : Nat → Int32) : Bool := zd (∀ i, i < ft_spans kd' sz' → ft_all kd sz g (ft_lo kd' sz' g' i) (ft_hi kd' sz' g' i) = true)
def T_FT_isAsWideAs (As : List zAV) (M : zMp) (Rt : Option zAV → zMp → Prop) : Prop := ∃ t q kd sz g t' q' kd' sz' g', As = [.inr t, .inr t'] ∧ zfte M t q kd sz g ∧ zfte M t' q' kd' sz' g' ∧ Rt (some (.inl (.int (zb (ft_wide kd sz g kd' sz' g'))))) M
abbrev co_FT_isAsWideAs := co0
theorem dX0_isAsWideAs_0 : decode cX0_isAsWideAs 0 = .ok (.iconst 0, 1) := by decide +kernel
theorem dX0_isAsWideAs_1 : decode cX0_isAsWideAs 1 = .ok (.istore_n 2, 1) := by decide +kernel
theorem dX0_isAsWideAs_2 : decode cX0_isAsWideAs 2 = .ok (.iload_n 2, 1) := by decide +kernel
theorem dX0_isAsWideAs_3 : decode cX0_isAsWideAs 3 = .ok (.aload_n 1, 1) := by decide +kernel
theorem dX0_isAsWideAs_4 : decode cX0_isAsWideAs 4 = .ok (.invokevirtual 30, 3) := by decide +kernel
theorem dX0_isAsWideAs_7 : decode cX0_isAsWideAs 7 = .ok (.if_icmp .ge 28, 3) := by decide +kernel
theorem dX0_isAsWideAs_10 : decode cX0_isAsWideAs 10 = .ok (.aload_n 0, 1) := by decide +kernel
theorem dX0_isAsWideAs_11 : decode cX0_isAsWideAs 11 = .ok (.aload_n 1, 1) := by decide +kernel
theorem dX0_isAsWideAs_12 : decode cX0_isAsWideAs 12 = .ok (.iload_n 2, 1) := by decide +kernel
theorem dX0_isAsWideAs_13 : decode cX0_isAsWideAs 13 = .ok (.invokevirtual 34, 3) := by decide +kernel
theorem dX0_isAsWideAs_16 : decode cX0_isAsWideAs 16 = .ok (.aload_n 1, 1) := by decide +kernel
theorem dX0_isAsWideAs_17 : decode cX0_isAsWideAs 17 = .ok (.iload_n 2, 1) := by decide +kernel
theorem dX0_isAsWideAs_18 : decode cX0_isAsWideAs 18 = .ok (.invokevirtual 38, 3) := by decide +kernel
theorem dX0_isAsWideAs_21 : decode cX0_isAsWideAs 21 = .ok (.invokevirtual 41, 3) := by decide +kernel
theorem dX0_isAsWideAs_24 : decode cX0_isAsWideAs 24 = .ok (.ifCond .ne 5, 3) := by decide +kernel
theorem dX0_isAsWideAs_27 : decode cX0_isAsWideAs 27 = .ok (.iconst 0, 1) := by decide +kernel
theorem dX0_isAsWideAs_28 : decode cX0_isAsWideAs 28 = .ok (.ireturn, 1) := by decide +kernel
theorem dX0_isAsWideAs_29 : decode cX0_isAsWideAs 29 = .ok (.iinc 2 1, 3) := by decide +kernel
theorem dX0_isAsWideAs_32 : decode cX0_isAsWideAs 32 = .ok (.goto (-30), 3) := by decide +kernel
theorem dX0_isAsWideAs_35 : decode cX0_isAsWideAs 35 = .ok (.iconst 1, 1) := by decide +kernel
theorem dX0_isAsWideAs_36 : decode cX0_isAsWideAs 36 = .ok (.ireturn, 1) := by decide +kernel
def B_FT_isAsWideAs_35 (mc ms : Nat) (Rt : Option zAV → zMp → Prop) (g : Nat → zKT) : zKT :=
  (i_ic 1 (i_zret mc ms Rt))
set_option maxRecDepth 20000 in
theorem s_FT_isAsWideAs_35 {X : zMa} {mc ms : Nat} {Rt : Option zAV → zMp → Prop} (hC : zCx X RX0 cX0_isAsWideAs 3 69 mc ms (some .boolean) false Rt) (hN : zNL X = 3) : zLe (B_FT_isAsWideAs_35 mc ms Rt (zG X)) (zG X 35) :=
  (sd_iconst hC (by decide) dX0_isAsWideAs_35 ((sd_zret hC dX0_isAsWideAs_36)))
def B_FT_isAsWideAs_29 (mc ms : Nat) (Rt : Option zAV → zMp → Prop) (g : Nat → zKT) : zKT :=
  (i_inc 2 1 (g 2))
set_option maxRecDepth 20000 in
theorem s_FT_isAsWideAs_29 {X : zMa} {mc ms : Nat} {Rt : Option zAV → zMp → Prop} (hC : zCx X RX0 cX0_isAsWideAs 3 69 mc ms (some .boolean) false Rt) (hN : zNL X = 3) : zLe (B_FT_isAsWideAs_29 mc ms Rt (zG X)) (zG X 29) :=
  (sd_inc hC (by decide) (by rw [hN]; decide) dX0_isAsWideAs_29 ((sd_goto hC (tgt := 2) (by decide) dX0_isAsWideAs_32 (zLe_rfl))))
def B_FT_isAsWideAs_2 (mc ms : Nat) (Rt : Option zAV → zMp → Prop) (g : Nat → zKT) : zKT :=
  (i_il 2 (i_al 1 (i_callV mc ms 1 1 T_FT_spans co_FT_spans (i_icge (B_FT_isAsWideAs_35 mc ms Rt g) (i_al 0 (i_al 1 (i_il 2 (i_callV mc ms 1 2 T_FT_spanStart co_FT_spanStart (i_al 1 (i_il 2 (i_callV mc ms 1 2 T_FT_spanEnd co_FT_spanEnd (i_callV mc ms 1 3 T_FT_passesAll co_FT_passesAll (i_ifne (B_FT_isAsWideAs_29 mc ms Rt g) (i_ic 0 (i_zret mc ms Rt)))))))))))))))
set_option maxRecDepth 20000 in
theorem s_FT_isAsWideAs_2 {X : zMa} {mc ms : Nat} {Rt : Option zAV → zMp → Prop} (hC : zCx X RX0 cX0_isAsWideAs 3 69 mc ms (some .boolean) false Rt) (hN : zNL X = 3) : zLe (B_FT_isAsWideAs_2 mc ms Rt (zG X)) (zG X 2) :=
  (sd_il_n hC rfl dX0_isAsWideAs_2 ((sd_al_n hC rfl dX0_isAsWideAs_3 ((sd_cV hC c_FT_spans yv_FT_spans (ci := 1) rfl rfl ml_FT_30 (by decide) (by decide) dX0_isAsWideAs_4 ((sd_icge hC (tgt := 35) (by decide) dX0_isAsWideAs_7 (s_FT_isAsWideAs_35 hC hN) ((sd_al_n hC rfl dX0_isAsWideAs_10 ((sd_al_n hC rfl dX0_isAsWideAs_11 ((sd_il_n hC rfl dX0_isAsWideAs_12 ((sd_cV hC c_FT_spanStart yv_FT_spanStart (ci := 1) rfl rfl ml_FT_34 (by decide) (by decide) dX0_isAsWideAs_13 ((sd_al_n hC rfl dX0_isAsWideAs_16 ((sd_il_n hC rfl dX0_isAsWideAs_17 ((sd_cV hC c_FT_spanEnd yv_FT_spanEnd (ci := 1) rfl rfl ml_FT_38 (by decide) (by decide) dX0_isAsWideAs_18 ((sd_cV hC c_FT_passesAll yv_FT_passesAll (ci := 1) rfl rfl ml_FT_41 (by decide) (by decide) dX0_isAsWideAs_21 ((sd_ifne hC (tgt := 29) (by decide) dX0_isAsWideAs_24 (s_FT_isAsWideAs_29 hC hN) ((sd_iconst hC (by decide) dX0_isAsWideAs_27 ((sd_zret hC dX0_isAsWideAs_28)))))))))))))))))))))))))))))
def B_FT_isAsWideAs_0 (mc ms : Nat) (Rt : Option zAV → zMp → Prop) (g : Nat → zKT) : zKT :=
  (i_ic 0 (i_is 2 (g 2)))
set_option maxRecDepth 20000 in
theorem s_FT_isAsWideAs_0 {X : zMa} {mc ms : Nat} {Rt : Option zAV → zMp → Prop} (hC : zCx X RX0 cX0_isAsWideAs 3 69 mc ms (some .boolean) false Rt) (hN : zNL X = 3) : zLe (B_FT_isAsWideAs_0 mc ms Rt (zG X)) (zG X 0) :=
  (sd_iconst hC (by decide) dX0_isAsWideAs_0 ((sd_is_n hC rfl (by rw [hN]; decide) dX0_isAsWideAs_1 (zLe_rfl))))
theorem c_FT_isAsWideAs (l : Launch) : zCT l yX0_isAsWideAs cX0_isAsWideAs 3 (some .boolean) 3 69 T_FT_isAsWideAs co_FT_isAsWideAs := by
  intro As M Rt hT
  obtain ⟨t, q, kd, sz, g, t', q', kd', sz', g', rfl, hf, hf', hR⟩ := hT
  refine zMet_of false (by decide +kernel) (fun h => by first | rfl | cases h) (Nat.le_of_ble_eq_true rfl) (fun X hN hC => ?_)
  show zG X 0 [some (.inr t), some (.inr t'), none] [] M 0 0
  have hs := ft_spans_le (kd := kd') hf'.2.2
  have loop := upto (N := ft_spans kd' sz') (P := fun i => (∀ j, j < i → ft_all kd sz g (ft_lo kd' sz' g' j) (ft_hi kd' sz' g' j) = true) → zG X 2 [some (.inr t), some (.inr t'), some (.inl (.int (nI i)))] [] M 0 0) (fun i hi ih hp => by
    have hi31 : i < 2 ^ 31 := by omega
    refine s_FT_isAsWideAs_2 hC hN _ _ _ _ _ ?_
    simp only [B_FT_isAsWideAs_0, B_FT_isAsWideAs_2, B_FT_isAsWideAs_29, B_FT_isAsWideAs_35, co_FT_isAsWideAs, co_FT_passesAll, co_FT_spanEnd, co_FT_spanStart, co_FT_spans, i_ic, i_lc, i_nul, i_il, i_ll, i_al, i_is, i_as, i_ls, i_inc, i_iadd, i_isub, i_imul, i_iand, i_ior, i_ixor, i_idiv, i_irem, i_ishl, i_ishr, i_ladd, i_lsub, i_land, i_lor, i_i2l, i_lushr, i_lshl, i_lshr, i_lcmp, i_dup, i_pop, i_dx1, i_dup2, i_ifeq, i_ifne, i_iflt, i_ifge, i_ifgt, i_ifle, i_iceq, i_icne, i_iclt, i_icge, i_icgt, i_icle, i_ifn, i_gf, i_pf, i_ial, i_bal, i_lal, i_aal, i_ias, i_las, i_bas, i_aas, i_alen, i_newa, i_new, i_anew, i_cast, i_oi, i_call, i_callV, i_callV2, i_callI, i_iret, i_zret, i_lret, i_vret, i_aret, i_mmx, i_mmn, i_gsE, i_aceq, i_no, i_acq, i_sw, zsw, zlg, zls, znl, zfg, zcs, zsp, zrc, zisn, zft, zc1, zto, Value.category, List.set_cons_zero, List.set_cons_succ, List.length_cons, List.length_nil, Option.toList, List.nil_append, List.cons_append, true_and, and_true, Nat.add_zero, Nat.zero_le, Nat.zero_add, Nat.le_refl, Nat.reduceAdd, Nat.reduceLeDiff, co0, z0, zn_0, zn_1, zn_2, zn_3, zn_4, zn_5, zn_8, zn_12, zn_24, zn_121, zn_144, zn_256, zn_300, zn_600, zn_720, zn_1204, zn_1280, zn_2400, zn_4816, zn_14400, zn_90000, hf.1, hf'.1]
    refine ⟨t', q', kd', sz', g', rfl, hf', ?_⟩
    simp only [i_ic, i_lc, i_nul, i_il, i_ll, i_al, i_is, i_as, i_ls, i_inc, i_iadd, i_isub, i_imul, i_iand, i_ior, i_ixor, i_idiv, i_irem, i_ishl, i_ishr, i_ladd, i_lsub, i_land, i_lor, i_i2l, i_lushr, i_lshl, i_lshr, i_lcmp, i_dup, i_pop, i_dx1, i_dup2, i_ifeq, i_ifne, i_iflt, i_ifge, i_ifgt, i_ifle, i_iceq, i_icne, i_iclt, i_icge, i_icgt, i_icle, i_ifn, i_gf, i_pf, i_ial, i_bal, i_lal, i_aal, i_ias, i_las, i_bas, i_aas, i_alen, i_newa, i_new, i_anew, i_cast, i_oi, i_call, i_callV, i_callV2, i_callI, i_iret, i_zret, i_lret, i_vret, i_aret, i_mmx, i_mmn, i_gsE, i_aceq, i_no, i_acq, i_sw, zsw, zlg, zls, znl, zfg, zcs, zsp, zrc, zisn, zft, zc1, zto, Value.category, List.set_cons_zero, List.set_cons_succ, List.length_cons, List.length_nil, Option.toList, List.nil_append, List.cons_append, true_and, and_true, Nat.add_zero, Nat.zero_le, Nat.zero_add, Nat.le_refl, Nat.reduceAdd, Nat.reduceLeDiff, co0, z0, zn_0, zn_1, zn_2, zn_3, zn_4, zn_5, zn_8, zn_12, zn_24, zn_121, zn_144, zn_256, zn_300, zn_600, zn_720, zn_1204, zn_1280, zn_2400, zn_4816, zn_14400, zn_90000, hf.1, hf'.1]
    refine ⟨fun h => absurd ((zK (K := ft_spans kd' sz') (by omega) (n := i) (by omega)).2.1.mp h) (by omega), fun _ => ⟨t', q', kd', sz', g', i, rfl, hi31, hf', ?_⟩⟩
    simp only [i_ic, i_lc, i_nul, i_il, i_ll, i_al, i_is, i_as, i_ls, i_inc, i_iadd, i_isub, i_imul, i_iand, i_ior, i_ixor, i_idiv, i_irem, i_ishl, i_ishr, i_ladd, i_lsub, i_land, i_lor, i_i2l, i_lushr, i_lshl, i_lshr, i_lcmp, i_dup, i_pop, i_dx1, i_dup2, i_ifeq, i_ifne, i_iflt, i_ifge, i_ifgt, i_ifle, i_iceq, i_icne, i_iclt, i_icge, i_icgt, i_icle, i_ifn, i_gf, i_pf, i_ial, i_bal, i_lal, i_aal, i_ias, i_las, i_bas, i_aas, i_alen, i_newa, i_new, i_anew, i_cast, i_oi, i_call, i_callV, i_callV2, i_callI, i_iret, i_zret, i_lret, i_vret, i_aret, i_mmx, i_mmn, i_gsE, i_aceq, i_no, i_acq, i_sw, zsw, zlg, zls, znl, zfg, zcs, zsp, zrc, zisn, zft, zc1, zto, Value.category, List.set_cons_zero, List.set_cons_succ, List.length_cons, List.length_nil, Option.toList, List.nil_append, List.cons_append, true_and, and_true, Nat.add_zero, Nat.zero_le, Nat.zero_add, Nat.le_refl, Nat.reduceAdd, Nat.reduceLeDiff, co0, z0, zn_0, zn_1, zn_2, zn_3, zn_4, zn_5, zn_8, zn_12, zn_24, zn_121, zn_144, zn_256, zn_300, zn_600, zn_720, zn_1204, zn_1280, zn_2400, zn_4816, zn_14400, zn_90000, hf.1, hf'.1]
    refine ⟨t', q', kd', sz', g', i, rfl, hi31, hf', ?_⟩
    simp only [i_ic, i_lc, i_nul, i_il, i_ll, i_al, i_is, i_as, i_ls, i_inc, i_iadd, i_isub, i_imul, i_iand, i_ior, i_ixor, i_idiv, i_irem, i_ishl, i_ishr, i_ladd, i_lsub, i_land, i_lor, i_i2l, i_lushr, i_lshl, i_lshr, i_lcmp, i_dup, i_pop, i_dx1, i_dup2, i_ifeq, i_ifne, i_iflt, i_ifge, i_ifgt, i_ifle, i_iceq, i_icne, i_iclt, i_icge, i_icgt, i_icle, i_ifn, i_gf, i_pf, i_ial, i_bal, i_lal, i_aal, i_ias, i_las, i_bas, i_aas, i_alen, i_newa, i_new, i_anew, i_cast, i_oi, i_call, i_callV, i_callV2, i_callI, i_iret, i_zret, i_lret, i_vret, i_aret, i_mmx, i_mmn, i_gsE, i_aceq, i_no, i_acq, i_sw, zsw, zlg, zls, znl, zfg, zcs, zsp, zrc, zisn, zft, zc1, zto, Value.category, List.set_cons_zero, List.set_cons_succ, List.length_cons, List.length_nil, Option.toList, List.nil_append, List.cons_append, true_and, and_true, Nat.add_zero, Nat.zero_le, Nat.zero_add, Nat.le_refl, Nat.reduceAdd, Nat.reduceLeDiff, co0, z0, zn_0, zn_1, zn_2, zn_3, zn_4, zn_5, zn_8, zn_12, zn_24, zn_121, zn_144, zn_256, zn_300, zn_600, zn_720, zn_1204, zn_1280, zn_2400, zn_4816, zn_14400, zn_90000, hf.1, hf'.1]
    refine ⟨t, q, kd, sz, g, _, _, rfl, hf, fun h => ?_, fun h => ⟨by decide, ?_⟩⟩
    · rw [nI_1]
      exact ih (lt_s hp (by cases hb : ft_all kd sz g (ft_lo kd' sz' g' i) (ft_hi kd' sz' g' i) with
        | true => rfl
        | false => exact absurd (zb_0.mpr hb) h))
    · have : ft_wide kd sz g kd' sz' g' = false := zd_f (fun z => by rw [z i hi] at h; exact absurd h (by decide))
      rw [this] at hR
      exact hR) (fun hp => by
    refine s_FT_isAsWideAs_2 hC hN _ _ _ _ _ ?_
    simp only [B_FT_isAsWideAs_0, B_FT_isAsWideAs_2, B_FT_isAsWideAs_29, B_FT_isAsWideAs_35, co_FT_isAsWideAs, co_FT_passesAll, co_FT_spanEnd, co_FT_spanStart, co_FT_spans, i_ic, i_lc, i_nul, i_il, i_ll, i_al, i_is, i_as, i_ls, i_inc, i_iadd, i_isub, i_imul, i_iand, i_ior, i_ixor, i_idiv, i_irem, i_ishl, i_ishr, i_ladd, i_lsub, i_land, i_lor, i_i2l, i_lushr, i_lshl, i_lshr, i_lcmp, i_dup, i_pop, i_dx1, i_dup2, i_ifeq, i_ifne, i_iflt, i_ifge, i_ifgt, i_ifle, i_iceq, i_icne, i_iclt, i_icge, i_icgt, i_icle, i_ifn, i_gf, i_pf, i_ial, i_bal, i_lal, i_aal, i_ias, i_las, i_bas, i_aas, i_alen, i_newa, i_new, i_anew, i_cast, i_oi, i_call, i_callV, i_callV2, i_callI, i_iret, i_zret, i_lret, i_vret, i_aret, i_mmx, i_mmn, i_gsE, i_aceq, i_no, i_acq, i_sw, zsw, zlg, zls, znl, zfg, zcs, zsp, zrc, zisn, zft, zc1, zto, Value.category, List.set_cons_zero, List.set_cons_succ, List.length_cons, List.length_nil, Option.toList, List.nil_append, List.cons_append, true_and, and_true, Nat.add_zero, Nat.zero_le, Nat.zero_add, Nat.le_refl, Nat.reduceAdd, Nat.reduceLeDiff, co0, z0, zn_0, zn_1, zn_2, zn_3, zn_4, zn_5, zn_8, zn_12, zn_24, zn_121, zn_144, zn_256, zn_300, zn_600, zn_720, zn_1204, zn_1280, zn_2400, zn_4816, zn_14400, zn_90000, hf.1, hf'.1]
    refine ⟨t', q', kd', sz', g', rfl, hf', fun _ => ⟨by decide, ?_⟩, fun h => absurd ((zK (K := ft_spans kd' sz') (by omega) (n := ft_spans kd' sz') (by omega)).2.1.mpr (Nat.le_refl _)) h⟩
    have : ft_wide kd sz g kd' sz' g' = true := zd_t hp
    rw [this] at hR
    exact hR) 0 (Nat.zero_le _)
  refine s_FT_isAsWideAs_0 hC hN _ _ _ _ _ ?_
  simp only [B_FT_isAsWideAs_0, B_FT_isAsWideAs_2, B_FT_isAsWideAs_29, B_FT_isAsWideAs_35, co_FT_isAsWideAs, co_FT_passesAll, co_FT_spanEnd, co_FT_spanStart, co_FT_spans, i_ic, i_lc, i_nul, i_il, i_ll, i_al, i_is, i_as, i_ls, i_inc, i_iadd, i_isub, i_imul, i_iand, i_ior, i_ixor, i_idiv, i_irem, i_ishl, i_ishr, i_ladd, i_lsub, i_land, i_lor, i_i2l, i_lushr, i_lshl, i_lshr, i_lcmp, i_dup, i_pop, i_dx1, i_dup2, i_ifeq, i_ifne, i_iflt, i_ifge, i_ifgt, i_ifle, i_iceq, i_icne, i_iclt, i_icge, i_icgt, i_icle, i_ifn, i_gf, i_pf, i_ial, i_bal, i_lal, i_aal, i_ias, i_las, i_bas, i_aas, i_alen, i_newa, i_new, i_anew, i_cast, i_oi, i_call, i_callV, i_callV2, i_callI, i_iret, i_zret, i_lret, i_vret, i_aret, i_mmx, i_mmn, i_gsE, i_aceq, i_no, i_acq, i_sw, zsw, zlg, zls, znl, zfg, zcs, zsp, zrc, zisn, zft, zc1, zto, Value.category, List.set_cons_zero, List.set_cons_succ, List.length_cons, List.length_nil, Option.toList, List.nil_append, List.cons_append, true_and, and_true, Nat.add_zero, Nat.zero_le, Nat.zero_add, Nat.le_refl, Nat.reduceAdd, Nat.reduceLeDiff, co0, z0, zn_0, zn_1, zn_2, zn_3, zn_4, zn_5, zn_8, zn_12, zn_24, zn_121, zn_144, zn_256, zn_300, zn_600, zn_720, zn_1204, zn_1280, zn_2400, zn_4816, zn_14400, zn_90000]
  exact loop (fun j hj => absurd hj (Nat.not_lt_zero j))
end
section
/-! java.util.ArrayList and what it calls -/
abbrev sOb : String := "java/lang/Object"
abbrev zoa (cap : Nat) (f : Nat → Option zNm) : zAE := .inl (.object "java/lang/Object", cap, .inr (.inr f))
abbrev zal (c : Int32) (d : zNm) (n : Nat) : zAE := .inr (0, [.inl (.int c), .inr d, .inl (.int (nI n))])
def T_Prec_checkIndex (As : List zAV) (M : zMp) (Rt : Option zAV → zMp → Prop) : Prop := ∃ i n, As = [.inl (.int (nI i)), .inl (.int (nI n)), .inl .null] ∧ i < n ∧ n < 2 ^ 31 ∧ Rt (some (.inl (.int (nI i)))) M
abbrev co_Prec_checkIndex := co0
theorem dJ3_checkIndex_8e157_0 : decode cJ3_checkIndex_8e157 0 = .ok (.iload_n 0, 1) := by decide +kernel
theorem dJ3_checkIndex_8e157_1 : decode cJ3_checkIndex_8e157 1 = .ok (.ifCond .lt 8, 3) := by decide +kernel
theorem dJ3_checkIndex_8e157_4 : decode cJ3_checkIndex_8e157 4 = .ok (.iload_n 0, 1) := by decide +kernel
theorem dJ3_checkIndex_8e157_5 : decode cJ3_checkIndex_8e157 5 = .ok (.iload_n 1, 1) := by decide +kernel
theorem dJ3_checkIndex_8e157_6 : decode cJ3_checkIndex_8e157 6 = .ok (.if_icmp .lt 10, 3) := by decide +kernel
theorem dJ3_checkIndex_8e157_9 : decode cJ3_checkIndex_8e157 9 = .ok (.aload_n 2, 1) := by decide +kernel
theorem dJ3_checkIndex_8e157_10 : decode cJ3_checkIndex_8e157 10 = .ok (.iload_n 0, 1) := by decide +kernel
theorem dJ3_checkIndex_8e157_11 : decode cJ3_checkIndex_8e157 11 = .ok (.iload_n 1, 1) := by decide +kernel
theorem dJ3_checkIndex_8e157_12 : decode cJ3_checkIndex_8e157 12 = .ok (.invokestatic 95, 3) := by decide +kernel
theorem dJ3_checkIndex_8e157_15 : decode cJ3_checkIndex_8e157 15 = .ok (.athrow, 1) := by decide +kernel
theorem dJ3_checkIndex_8e157_16 : decode cJ3_checkIndex_8e157 16 = .ok (.iload_n 0, 1) := by decide +kernel
theorem dJ3_checkIndex_8e157_17 : decode cJ3_checkIndex_8e157 17 = .ok (.ireturn, 1) := by decide +kernel
def B_Prec_checkIndex_16 (mc ms : Nat) (Rt : Option zAV → zMp → Prop) (g : Nat → zKT) : zKT :=
  (i_il 0 (i_iret mc ms Rt))
set_option maxRecDepth 20000 in
theorem s_Prec_checkIndex_16 {X : zMa} {mc ms : Nat} {Rt : Option zAV → zMp → Prop} (hC : zCx X RJ3 cJ3_checkIndex_8e157 0 0 mc ms (some .int) false Rt) : zLe (B_Prec_checkIndex_16 mc ms Rt (zG X)) (zG X 16) :=
  (sd_il_n hC rfl dJ3_checkIndex_8e157_16 ((sd_iret hC dJ3_checkIndex_8e157_17)))
def B_Prec_checkIndex_9 (mc ms : Nat) (Rt : Option zAV → zMp → Prop) (g : Nat → zKT) : zKT :=
  (i_al 2 (i_il 0 (i_il 1 i_no)))
set_option maxRecDepth 20000 in
theorem s_Prec_checkIndex_9 {X : zMa} {mc ms : Nat} {Rt : Option zAV → zMp → Prop} (hC : zCx X RJ3 cJ3_checkIndex_8e157 0 0 mc ms (some .int) false Rt) : zLe (B_Prec_checkIndex_9 mc ms Rt (zG X)) (zG X 9) :=
  (sd_al_n hC rfl dJ3_checkIndex_8e157_9 ((sd_il_n hC rfl dJ3_checkIndex_8e157_10 ((sd_il_n hC rfl dJ3_checkIndex_8e157_11 (zNo))))))
def B_Prec_checkIndex_0 (mc ms : Nat) (Rt : Option zAV → zMp → Prop) (g : Nat → zKT) : zKT :=
  (i_il 0 (i_iflt (B_Prec_checkIndex_9 mc ms Rt g) (i_il 0 (i_il 1 (i_iclt (B_Prec_checkIndex_16 mc ms Rt g) (B_Prec_checkIndex_9 mc ms Rt g))))))
set_option maxRecDepth 20000 in
theorem s_Prec_checkIndex_0 {X : zMa} {mc ms : Nat} {Rt : Option zAV → zMp → Prop} (hC : zCx X RJ3 cJ3_checkIndex_8e157 0 0 mc ms (some .int) false Rt) : zLe (B_Prec_checkIndex_0 mc ms Rt (zG X)) (zG X 0) :=
  (sd_il_n hC rfl dJ3_checkIndex_8e157_0 ((sd_iflt hC (tgt := 9) (by decide) dJ3_checkIndex_8e157_1 (s_Prec_checkIndex_9 hC) ((sd_il_n hC rfl dJ3_checkIndex_8e157_4 ((sd_il_n hC rfl dJ3_checkIndex_8e157_5 ((sd_iclt hC (tgt := 16) (by decide) dJ3_checkIndex_8e157_6 (s_Prec_checkIndex_16 hC) (s_Prec_checkIndex_9 hC))))))))))
theorem c_Prec_checkIndex (l : Launch) : zCT l yJ3_checkIndex_8e157 cJ3_checkIndex_8e157 3 (some .int) 0 0 T_Prec_checkIndex co_Prec_checkIndex := by
  intro As M Rt hT
  obtain ⟨i, n, rfl, h1, h2, hR⟩ := hT
  refine zMet_of false (by decide +kernel) (fun h => by first | rfl | cases h) (Nat.le_of_ble_eq_true rfl) (fun X hN hC => ?_)
  show zG X 0 [some (.inl (.int (nI i))), some (.inl (.int (nI n))), some (.inl .null)] [] M 0 0
  refine s_Prec_checkIndex_0 hC _ _ _ _ _ ?_
  simp only [B_Prec_checkIndex_0, B_Prec_checkIndex_9, B_Prec_checkIndex_16, co_Prec_checkIndex, i_ic, i_lc, i_nul, i_il, i_ll, i_al, i_is, i_as, i_ls, i_inc, i_iadd, i_isub, i_imul, i_iand, i_ior, i_ixor, i_idiv, i_irem, i_ishl, i_ishr, i_ladd, i_lsub, i_land, i_lor, i_i2l, i_lushr, i_lshl, i_lshr, i_lcmp, i_dup, i_pop, i_dx1, i_dup2, i_ifeq, i_ifne, i_iflt, i_ifge, i_ifgt, i_ifle, i_iceq, i_icne, i_iclt, i_icge, i_icgt, i_icle, i_ifn, i_gf, i_pf, i_ial, i_bal, i_lal, i_aal, i_ias, i_las, i_bas, i_aas, i_alen, i_newa, i_new, i_anew, i_cast, i_oi, i_call, i_callV, i_callV2, i_callI, i_iret, i_zret, i_lret, i_vret, i_aret, i_mmx, i_mmn, i_gsE, i_aceq, i_no, i_acq, i_sw, zsw, zlg, zls, znl, zfg, zcs, zsp, zrc, zisn, zft, zc1, zto, Value.category, List.set_cons_zero, List.set_cons_succ, List.length_cons, List.length_nil, Option.toList, List.nil_append, List.cons_append, true_and, and_true, Nat.add_zero, Nat.zero_le, Nat.zero_add, Nat.le_refl, Nat.reduceAdd, Nat.reduceLeDiff, co0, z0, zn_0, zn_1, zn_2, zn_3, zn_4, zn_5, zn_8, zn_12, zn_24, zn_121, zn_144, zn_256, zn_300, zn_600, zn_720, zn_1204, zn_1280, zn_2400, zn_4816, zn_14400, zn_90000]
  exact ⟨fun h => absurd h (nI_pos (by omega)), fun _ => ⟨fun _ => hR, fun h => absurd (nI_lt h1 h2) h⟩⟩
def T_Objs_checkIndex (As : List zAV) (M : zMp) (Rt : Option zAV → zMp → Prop) : Prop := ∃ i n, As = [.inl (.int (nI i)), .inl (.int (nI n))] ∧ i < n ∧ n < 2 ^ 31 ∧ Rt (some (.inl (.int (nI i)))) M
abbrev co_Objs_checkIndex := co0
theorem dJ15_checkIndex_7cf53_0 : decode cJ15_checkIndex_7cf53 0 = .ok (.iload_n 0, 1) := by decide +kernel
theorem dJ15_checkIndex_7cf53_1 : decode cJ15_checkIndex_7cf53 1 = .ok (.iload_n 1, 1) := by decide +kernel
theorem dJ15_checkIndex_7cf53_2 : decode cJ15_checkIndex_7cf53 2 = .ok (.aconst_null, 1) := by decide +kernel
theorem dJ15_checkIndex_7cf53_3 : decode cJ15_checkIndex_7cf53 3 = .ok (.invokestatic 105, 3) := by decide +kernel
theorem dJ15_checkIndex_7cf53_6 : decode cJ15_checkIndex_7cf53 6 = .ok (.ireturn, 1) := by decide +kernel
def B_Objs_checkIndex_0 (mc ms : Nat) (Rt : Option zAV → zMp → Prop) (g : Nat → zKT) : zKT :=
  (i_il 0 (i_il 1 (i_nul (i_call mc ms 3 T_Prec_checkIndex co_Prec_checkIndex (i_iret mc ms Rt)))))
set_option maxRecDepth 20000 in
theorem s_Objs_checkIndex_0 {X : zMa} {mc ms : Nat} {Rt : Option zAV → zMp → Prop} (hC : zCx X RJ15 cJ15_checkIndex_7cf53 1 22 mc ms (some .int) false Rt) : zLe (B_Objs_checkIndex_0 mc ms Rt (zG X)) (zG X 0) :=
  (sd_il_n hC rfl dJ15_checkIndex_7cf53_0 ((sd_il_n hC rfl dJ15_checkIndex_7cf53_1 ((sd_nul hC dJ15_checkIndex_7cf53_2 ((sd_cS hC c_Prec_checkIndex ys_Prec_checkIndex ml_Objs_105 (by decide) (by decide) dJ15_checkIndex_7cf53_3 ((sd_iret hC dJ15_checkIndex_7cf53_6)))))))))
theorem c_Objs_checkIndex (l : Launch) : zCT l yJ15_checkIndex_7cf53 cJ15_checkIndex_7cf53 2 (some .int) 1 22 T_Objs_checkIndex co_Objs_checkIndex := by
  intro As M Rt hT
  obtain ⟨i, n, rfl, h1, h2, hR⟩ := hT
  refine zMet_of false (by decide +kernel) (fun h => by first | rfl | cases h) (Nat.le_of_ble_eq_true rfl) (fun X hN hC => ?_)
  show zG X 0 [some (.inl (.int (nI i))), some (.inl (.int (nI n)))] [] M 0 0
  refine s_Objs_checkIndex_0 hC _ _ _ _ _ ?_
  simp only [B_Objs_checkIndex_0, co_Objs_checkIndex, co_Prec_checkIndex, i_ic, i_lc, i_nul, i_il, i_ll, i_al, i_is, i_as, i_ls, i_inc, i_iadd, i_isub, i_imul, i_iand, i_ior, i_ixor, i_idiv, i_irem, i_ishl, i_ishr, i_ladd, i_lsub, i_land, i_lor, i_i2l, i_lushr, i_lshl, i_lshr, i_lcmp, i_dup, i_pop, i_dx1, i_dup2, i_ifeq, i_ifne, i_iflt, i_ifge, i_ifgt, i_ifle, i_iceq, i_icne, i_iclt, i_icge, i_icgt, i_icle, i_ifn, i_gf, i_pf, i_ial, i_bal, i_lal, i_aal, i_ias, i_las, i_bas, i_aas, i_alen, i_newa, i_new, i_anew, i_cast, i_oi, i_call, i_callV, i_callV2, i_callI, i_iret, i_zret, i_lret, i_vret, i_aret, i_mmx, i_mmn, i_gsE, i_aceq, i_no, i_acq, i_sw, zsw, zlg, zls, znl, zfg, zcs, zsp, zrc, zisn, zft, zc1, zto, Value.category, List.set_cons_zero, List.set_cons_succ, List.length_cons, List.length_nil, Option.toList, List.nil_append, List.cons_append, true_and, and_true, Nat.add_zero, Nat.zero_le, Nat.zero_add, Nat.le_refl, Nat.reduceAdd, Nat.reduceLeDiff, co0, z0, zn_0, zn_1, zn_2, zn_3, zn_4, zn_5, zn_8, zn_12, zn_24, zn_121, zn_144, zn_256, zn_300, zn_600, zn_720, zn_1204, zn_1280, zn_2400, zn_4816, zn_14400, zn_90000]
  exact ⟨i, n, rfl, h1, h2, hR⟩
theorem nI_max {a b : Nat} (ha : a < 2 ^ 31) (hb : b < 2 ^ 31) : (if nI a < nI b then nI b else nI a) = nI (max a b) := by
  by_cases h : a < b
  · rw [if_pos (nI_lt h hb), Nat.max_eq_right (by omega)]
  · rw [if_neg (fun z => h ((nI_ltI ha hb).mp z)), Nat.max_eq_left (by omega)]
theorem nI_min {a b : Nat} (ha : a < 2 ^ 31) (hb : b < 2 ^ 31) : (if nI b < nI a then nI b else nI a) = nI (min a b) := by
  by_cases h : b < a
  · rw [if_pos (nI_lt h ha), Nat.min_eq_right (by omega)]
  · rw [if_neg (fun z => h ((nI_ltI hb ha).mp z)), Nat.min_eq_left (by omega)]
def T_ASup_newLength (As : List zAV) (M : zMp) (Rt : Option zAV → zMp → Prop) : Prop := ∃ o a b, As = [.inl (.int (nI o)), .inl (.int (nI a)), .inl (.int (nI b))] ∧ o ≤ 100000 ∧ a ≤ 100000 ∧ b ≤ 100000 ∧ 1 ≤ a ∧ Rt (some (.inl (.int (nI (o + max a b))))) M
abbrev co_ASup_newLength := co0
theorem dJ8_newLength_cabcc_0 : decode cJ8_newLength_cabcc 0 = .ok (.iload_n 0, 1) := by decide +kernel
theorem dJ8_newLength_cabcc_1 : decode cJ8_newLength_cabcc 1 = .ok (.iload_n 1, 1) := by decide +kernel
theorem dJ8_newLength_cabcc_2 : decode cJ8_newLength_cabcc 2 = .ok (.iload_n 2, 1) := by decide +kernel
theorem dJ8_newLength_cabcc_3 : decode cJ8_newLength_cabcc 3 = .ok (.invokestatic 194, 3) := by decide +kernel
theorem dJ8_newLength_cabcc_6 : decode cJ8_newLength_cabcc 6 = .ok (.iadd, 1) := by decide +kernel
theorem dJ8_newLength_cabcc_7 : decode cJ8_newLength_cabcc 7 = .ok (.istore_n 3, 1) := by decide +kernel
theorem dJ8_newLength_cabcc_8 : decode cJ8_newLength_cabcc 8 = .ok (.iconst 0, 1) := by decide +kernel
theorem dJ8_newLength_cabcc_9 : decode cJ8_newLength_cabcc 9 = .ok (.iload_n 3, 1) := by decide +kernel
theorem dJ8_newLength_cabcc_10 : decode cJ8_newLength_cabcc 10 = .ok (.if_icmp .ge 11, 3) := by decide +kernel
theorem dJ8_newLength_cabcc_13 : decode cJ8_newLength_cabcc 13 = .ok (.iload_n 3, 1) := by decide +kernel
theorem dJ8_newLength_cabcc_14 : decode cJ8_newLength_cabcc 14 = .ok (.ldc 200, 2) := by decide +kernel
theorem dJ8_newLength_cabcc_16 : decode cJ8_newLength_cabcc 16 = .ok (.if_icmp .gt 5, 3) := by decide +kernel
theorem dJ8_newLength_cabcc_19 : decode cJ8_newLength_cabcc 19 = .ok (.iload_n 3, 1) := by decide +kernel
theorem dJ8_newLength_cabcc_20 : decode cJ8_newLength_cabcc 20 = .ok (.ireturn, 1) := by decide +kernel
theorem dJ8_newLength_cabcc_21 : decode cJ8_newLength_cabcc 21 = .ok (.iload_n 0, 1) := by decide +kernel
theorem dJ8_newLength_cabcc_22 : decode cJ8_newLength_cabcc 22 = .ok (.iload_n 1, 1) := by decide +kernel
theorem dJ8_newLength_cabcc_23 : decode cJ8_newLength_cabcc 23 = .ok (.invokestatic 201, 3) := by decide +kernel
theorem dJ8_newLength_cabcc_26 : decode cJ8_newLength_cabcc 26 = .ok (.ireturn, 1) := by decide +kernel
def B_ASup_newLength_21 (mc ms : Nat) (Rt : Option zAV → zMp → Prop) (g : Nat → zKT) : zKT :=
  i_no
set_option maxRecDepth 20000 in
theorem s_ASup_newLength_21 {X : zMa} {mc ms : Nat} {Rt : Option zAV → zMp → Prop} (hC : zCx X RJ8 cJ8_newLength_cabcc 1 22 mc ms (some .int) false Rt) (hN : zNL X = 4) : zLe (B_ASup_newLength_21 mc ms Rt (zG X)) (zG X 21) :=
  zNo
def B_ASup_newLength_0 (mc ms : Nat) (Rt : Option zAV → zMp → Prop) (g : Nat → zKT) : zKT :=
  (i_il 0 (i_il 1 (i_il 2 (i_mmx mc ms (i_iadd (i_is 3 (i_ic 0 (i_il 3 (i_icge (B_ASup_newLength_21 mc ms Rt g) (i_il 3 (i_ic 2147483639 (i_icgt (B_ASup_newLength_21 mc ms Rt g) (i_il 3 (i_iret mc ms Rt))))))))))))))
set_option maxRecDepth 20000 in
theorem s_ASup_newLength_0 {X : zMa} {mc ms : Nat} {Rt : Option zAV → zMp → Prop} (hC : zCx X RJ8 cJ8_newLength_cabcc 1 22 mc ms (some .int) false Rt) (hN : zNL X = 4) : zLe (B_ASup_newLength_0 mc ms Rt (zG X)) (zG X 0) :=
  (sd_il_n hC rfl dJ8_newLength_cabcc_0 ((sd_il_n hC rfl dJ8_newLength_cabcc_1 ((sd_il_n hC rfl dJ8_newLength_cabcc_2 ((sd_mmx hC ml_ASup_194 (by decide) (by decide) dJ8_newLength_cabcc_3 ((sd_iadd hC dJ8_newLength_cabcc_6 ((sd_is_n hC rfl (by rw [hN]; decide) dJ8_newLength_cabcc_7 ((sd_iconst hC (by decide) dJ8_newLength_cabcc_8 ((sd_il_n hC rfl dJ8_newLength_cabcc_9 ((sd_icge hC (tgt := 21) (by decide) dJ8_newLength_cabcc_10 (s_ASup_newLength_21 hC hN) ((sd_il_n hC rfl dJ8_newLength_cabcc_13 ((sd_ldc hC kc_ASup_200 dJ8_newLength_cabcc_14 ((sd_icgt hC (tgt := 21) (by decide) dJ8_newLength_cabcc_16 (s_ASup_newLength_21 hC hN) ((sd_il_n hC rfl dJ8_newLength_cabcc_19 ((sd_iret hC dJ8_newLength_cabcc_20)))))))))))))))))))))))))))
theorem c_ASup_newLength (l : Launch) : zCT l yJ8_newLength_cabcc cJ8_newLength_cabcc 4 (some .int) 1 22 T_ASup_newLength co_ASup_newLength := by
  intro As M Rt hT
  obtain ⟨o, a, b, rfl, h1, h2, h3, h4, hR⟩ := hT
  refine zMet_of false (by decide +kernel) (fun h => by first | rfl | cases h) (Nat.le_of_ble_eq_true rfl) (fun X hN hC => ?_)
  show zG X 0 [some (.inl (.int (nI o))), some (.inl (.int (nI a))), some (.inl (.int (nI b))), none] [] M 0 0
  refine s_ASup_newLength_0 hC hN _ _ _ _ _ ?_
  simp only [B_ASup_newLength_0, B_ASup_newLength_21, co_ASup_newLength, i_ic, i_lc, i_nul, i_il, i_ll, i_al, i_is, i_as, i_ls, i_inc, i_iadd, i_isub, i_imul, i_iand, i_ior, i_ixor, i_idiv, i_irem, i_ishl, i_ishr, i_ladd, i_lsub, i_land, i_lor, i_i2l, i_lushr, i_lshl, i_lshr, i_lcmp, i_dup, i_pop, i_dx1, i_dup2, i_ifeq, i_ifne, i_iflt, i_ifge, i_ifgt, i_ifle, i_iceq, i_icne, i_iclt, i_icge, i_icgt, i_icle, i_ifn, i_gf, i_pf, i_ial, i_bal, i_lal, i_aal, i_ias, i_las, i_bas, i_aas, i_alen, i_newa, i_new, i_anew, i_cast, i_oi, i_call, i_callV, i_callV2, i_callI, i_iret, i_zret, i_lret, i_vret, i_aret, i_mmx, i_mmn, i_gsE, i_aceq, i_no, i_acq, i_sw, zsw, zlg, zls, znl, zfg, zcs, zsp, zrc, zisn, zft, zc1, zto, Value.category, List.set_cons_zero, List.set_cons_succ, List.length_cons, List.length_nil, Option.toList, List.nil_append, List.cons_append, true_and, and_true, Nat.add_zero, Nat.zero_le, Nat.zero_add, Nat.le_refl, Nat.reduceAdd, Nat.reduceLeDiff, co0, z0, zn_0, zn_1, zn_2, zn_3, zn_4, zn_5, zn_8, zn_12, zn_24, zn_121, zn_144, zn_256, zn_300, zn_600, zn_720, zn_1204, zn_1280, zn_2400, zn_4816, zn_14400, zn_90000]
  rw [nI_max (by omega) (by omega), nI_add]
  have hm : max a b ≤ 100000 := Nat.max_le.mpr ⟨h2, h3⟩
  have hm1 : 1 ≤ max a b := Nat.le_trans h4 (Nat.le_max_left _ _)
  refine ⟨fun h => absurd h ?_, fun _ => ⟨fun h => absurd h ?_, fun _ => hR⟩⟩
  · exact nI_nle (by omega) (by omega)
  · exact Int32.not_lt.mpr (nI_le (b := 2147483639) (by omega) (by decide))
/-! Arrays.copyOf -/
def T_Arrs_copyOf2 (As : List zAV) (M : zMp) (Rt : Option zAV → zMp → Prop) : Prop := ∃ d c' mi cap f d', As = [.inr d, .inl (.int (nI c')), .inl (.ref mi)] ∧ M d = some (zoa cap f) ∧ cap ≤ c' ∧ c' ≤ 1000 ∧ M d' = none ∧ zmo d' ∧ (∀ i, i < cap → ∀ y, f i = some y → zok M sOb (.inr y)) ∧ Rt (some (.inr d')) (zup M d' (zoa c' (va_cpy f (fun _ => none) 0 0 cap)))
def co_Arrs_copyOf2 : List zAV → zMp → Nat × Nat := fun _ _ => (1, 1000)
theorem dJ7_copyOf_6403c_0 : decode cJ7_copyOf_6403c 0 = .ok (.aload_n 2, 1) := by decide +kernel
theorem dJ7_copyOf_6403c_1 : decode cJ7_copyOf_6403c 1 = .ok (.ldc 110, 2) := by decide +kernel
theorem dJ7_copyOf_6403c_3 : decode cJ7_copyOf_6403c 3 = .ok (.if_acmp .ne 10, 3) := by decide +kernel
theorem dJ7_copyOf_6403c_6 : decode cJ7_copyOf_6403c 6 = .ok (.iload_n 1, 1) := by decide +kernel
theorem dJ7_copyOf_6403c_7 : decode cJ7_copyOf_6403c 7 = .ok (.anewarray 2, 3) := by decide +kernel
theorem dJ7_copyOf_6403c_10 : decode cJ7_copyOf_6403c 10 = .ok (.goto 14, 3) := by decide +kernel
theorem dJ7_copyOf_6403c_13 : decode cJ7_copyOf_6403c 13 = .ok (.aload_n 2, 1) := by decide +kernel
theorem dJ7_copyOf_6403c_14 : decode cJ7_copyOf_6403c 14 = .ok (.invokevirtual 90, 3) := by decide +kernel
theorem dJ7_copyOf_6403c_17 : decode cJ7_copyOf_6403c 17 = .ok (.iload_n 1, 1) := by decide +kernel
theorem dJ7_copyOf_6403c_18 : decode cJ7_copyOf_6403c 18 = .ok (.invokestatic 95, 3) := by decide +kernel
theorem dJ7_copyOf_6403c_21 : decode cJ7_copyOf_6403c 21 = .ok (.checkcast 110, 3) := by decide +kernel
theorem dJ7_copyOf_6403c_24 : decode cJ7_copyOf_6403c 24 = .ok (.astore_n 3, 1) := by decide +kernel
theorem dJ7_copyOf_6403c_25 : decode cJ7_copyOf_6403c 25 = .ok (.aload_n 0, 1) := by decide +kernel
theorem dJ7_copyOf_6403c_26 : decode cJ7_copyOf_6403c 26 = .ok (.iconst 0, 1) := by decide +kernel
theorem dJ7_copyOf_6403c_27 : decode cJ7_copyOf_6403c 27 = .ok (.aload_n 3, 1) := by decide +kernel
theorem dJ7_copyOf_6403c_28 : decode cJ7_copyOf_6403c 28 = .ok (.iconst 0, 1) := by decide +kernel
theorem dJ7_copyOf_6403c_29 : decode cJ7_copyOf_6403c 29 = .ok (.aload_n 0, 1) := by decide +kernel
theorem dJ7_copyOf_6403c_30 : decode cJ7_copyOf_6403c 30 = .ok (.arraylength, 1) := by decide +kernel
theorem dJ7_copyOf_6403c_31 : decode cJ7_copyOf_6403c 31 = .ok (.iload_n 1, 1) := by decide +kernel
theorem dJ7_copyOf_6403c_32 : decode cJ7_copyOf_6403c 32 = .ok (.invokestatic 304, 3) := by decide +kernel
theorem dJ7_copyOf_6403c_35 : decode cJ7_copyOf_6403c 35 = .ok (.invokestatic 150, 3) := by decide +kernel
theorem dJ7_copyOf_6403c_38 : decode cJ7_copyOf_6403c 38 = .ok (.aload_n 3, 1) := by decide +kernel
theorem dJ7_copyOf_6403c_39 : decode cJ7_copyOf_6403c 39 = .ok (.areturn, 1) := by decide +kernel
def B_Arrs_copyOf2_24 (mi mc ms : Nat) (Rt : Option zAV → zMp → Prop) (g : Nat → zKT) : zKT :=
  (i_as 3 (i_al 0 (i_ic 0 (i_al 3 (i_ic 0 (i_al 0 (i_alen (i_il 1 (i_mmn mc ms (i_acq (i_al 3 (i_aret mc ms Rt))))))))))))
set_option maxRecDepth 20000 in
theorem s_Arrs_copyOf2_24 {X : zMa} {mi mc ms : Nat} {Rt : Option zAV → zMp → Prop} (hC : zCx X RJ7 cJ7_copyOf_6403c 1 40 mc ms (some (.array (.object "java/lang/Object"))) false Rt) (hN : zNL X = 4) (hM : va_Mi "[Ljava/lang/Object;" mi (zS X)) : zLe (B_Arrs_copyOf2_24 mi mc ms Rt (zG X)) (zG X 24) :=
  (sd_as_n hC rfl (by rw [hN]; decide) dJ7_copyOf_6403c_24 ((sd_al_n hC rfl dJ7_copyOf_6403c_25 ((sd_iconst hC (by decide) dJ7_copyOf_6403c_26 ((sd_al_n hC rfl dJ7_copyOf_6403c_27 ((sd_iconst hC (by decide) dJ7_copyOf_6403c_28 ((sd_al_n hC rfl dJ7_copyOf_6403c_29 ((sd_alen hC dJ7_copyOf_6403c_30 ((sd_il_n hC rfl dJ7_copyOf_6403c_31 ((sd_mmn hC ml_Arrs_304 (by decide) (by decide) dJ7_copyOf_6403c_32 ((sd_acq hC ml_Arrs_150 (by decide) (by decide) dJ7_copyOf_6403c_35 ((sd_al_n hC rfl dJ7_copyOf_6403c_38 ((sd_aret hC (Or.inr ⟨_, rfl⟩) dJ7_copyOf_6403c_39)))))))))))))))))))))))
def B_Arrs_copyOf2_13 (mi mc ms : Nat) (Rt : Option zAV → zMp → Prop) (g : Nat → zKT) : zKT :=
  i_no
set_option maxRecDepth 20000 in
theorem s_Arrs_copyOf2_13 {X : zMa} {mi mc ms : Nat} {Rt : Option zAV → zMp → Prop} (hC : zCx X RJ7 cJ7_copyOf_6403c 1 40 mc ms (some (.array (.object "java/lang/Object"))) false Rt) (hN : zNL X = 4) (hM : va_Mi "[Ljava/lang/Object;" mi (zS X)) : zLe (B_Arrs_copyOf2_13 mi mc ms Rt (zG X)) (zG X 13) :=
  zNo
def B_Arrs_copyOf2_0 (mi mc ms : Nat) (Rt : Option zAV → zMp → Prop) (g : Nat → zKT) : zKT :=
  (i_alr 2 (i_mir mi (i_acnR (B_Arrs_copyOf2_13 mi mc ms Rt g) (i_il 1 (i_anew mc ms "java/lang/Object" (B_Arrs_copyOf2_24 mi mc ms Rt g))))))
set_option maxRecDepth 20000 in
theorem s_Arrs_copyOf2_0 {X : zMa} {mi mc ms : Nat} {Rt : Option zAV → zMp → Prop} (hC : zCx X RJ7 cJ7_copyOf_6403c 1 40 mc ms (some (.array (.object "java/lang/Object"))) false Rt) (hN : zNL X = 4) (hM : va_Mi "[Ljava/lang/Object;" mi (zS X)) : zLe (B_Arrs_copyOf2_0 mi mc ms Rt (zG X)) (zG X 0) :=
  (sd_alr_n hC rfl dJ7_copyOf_6403c_0 ((sd_mir hC hM cl_Arrs_110 dJ7_copyOf_6403c_1 ((sd_acnR hC (tgt := 13) (by decide) dJ7_copyOf_6403c_3 (s_Arrs_copyOf2_13 hC hN hM) ((sd_il_n hC rfl dJ7_copyOf_6403c_6 ((sd_anew hC cl_Arrs_2 ao_Obj_0 dJ7_copyOf_6403c_7 ((sd_goto hC (tgt := 24) (by decide) dJ7_copyOf_6403c_10 (s_Arrs_copyOf2_24 hC hN hM))))))))))))
theorem zok_up {M : zMp} {a : zNm} {e : zAE} {C : String} {y : zNm} (ha : M a = none) (h : zok M C (.inr y)) : zok (zup M a e) C (.inr y) := by
  have hy : y ≠ a := fun q => by rw [q] at h; simp only [zok, ha] at h
  simp only [zok, zup_o hy] at h ⊢
  exact h
theorem c_Arrs_copyOf2 (l : Launch) (d0 : zNm) (x : Int32) (mi : Nat) (M : zMp) (Rt : Option zAV → zMp → Prop) (hT : T_Arrs_copyOf2 [.inr d0, .inl (.int x), .inl (.ref mi)] M Rt) : zMetM l yJ7_copyOf_6403c cJ7_copyOf_6403c 4 (some (.array (.object "java/lang/Object"))) 1 40 [.inr d0, .inl (.int x), .inl (.ref mi)] M (co_Arrs_copyOf2 [.inr d0, .inl (.int x), .inl (.ref mi)] M).1 (co_Arrs_copyOf2 [.inr d0, .inl (.int x), .inl (.ref mi)] M).2 Rt mi := by
  obtain ⟨d, c', mi', cap, f, d', he, h1, h2, h3, h4, h5, h6, hR⟩ := hT
  simp only [List.cons.injEq, Sum.inr.injEq, Sum.inl.injEq, Value.int.injEq, Value.ref.injEq, and_true] at he
  obtain ⟨rfl, rfl, rfl⟩ := he
  have hne : d0 ≠ d' := fun q => by rw [q, h4] at h1; cases h1
  refine zMetM_of (by decide +kernel) (Nat.le_of_ble_eq_true rfl) (fun X hN hC hM => ?_)
  show zG X 0 [some (.inr d0), some (.inl (.int (nI c'))), some (.inl (.ref mi)), none] [] M 0 0
  refine s_Arrs_copyOf2_0 hC hN hM _ _ _ _ _ ?_
  simp only [B_Arrs_copyOf2_0, B_Arrs_copyOf2_13, B_Arrs_copyOf2_24, co_Arrs_copyOf2, i_ic, i_lc, i_nul, i_il, i_ll, i_al, i_is, i_as, i_ls, i_inc, i_iadd, i_isub, i_imul, i_iand, i_ior, i_ixor, i_idiv, i_irem, i_ishl, i_ishr, i_ladd, i_lsub, i_land, i_lor, i_i2l, i_lushr, i_lshl, i_lshr, i_lcmp, i_dup, i_pop, i_dx1, i_dup2, i_ifeq, i_ifne, i_iflt, i_ifge, i_ifgt, i_ifle, i_iceq, i_icne, i_iclt, i_icge, i_icgt, i_icle, i_ifn, i_gf, i_pf, i_ial, i_bal, i_lal, i_aal, i_ias, i_las, i_bas, i_aas, i_alen, i_newa, i_new, i_anew, i_cast, i_oi, i_call, i_callV, i_callV2, i_callI, i_iret, i_zret, i_lret, i_vret, i_aret, i_mmx, i_mmn, i_gsE, i_aceq, i_no, i_acq, i_sw, zsw, zlg, zls, znl, zfg, zcs, zsp, zrc, zisn, zft, zc1, zto, Value.category, List.set_cons_zero, List.set_cons_succ, List.length_cons, List.length_nil, Option.toList, List.nil_append, List.cons_append, true_and, and_true, Nat.add_zero, Nat.zero_le, Nat.zero_add, Nat.le_refl, Nat.reduceAdd, Nat.reduceLeDiff, co0, z0, zn_0, zn_1, zn_2, zn_3, zn_4, zn_5, zn_8, zn_12, zn_24, zn_121, zn_144, zn_256, zn_300, zn_600, zn_720, zn_1204, zn_1280, zn_2400, zn_4816, zn_14400, zn_90000, i_alr, i_mir, i_acnR]
  refine ⟨fun h => absurd trivial h, fun _ => ⟨d', h4, h5, nI_pos (by omega), ?_⟩⟩
  rw [nI_clamp (by omega)]
  simp only [h1, zup_o hne, i_ic, i_lc, i_nul, i_il, i_ll, i_al, i_is, i_as, i_ls, i_inc, i_iadd, i_isub, i_imul, i_iand, i_ior, i_ixor, i_idiv, i_irem, i_ishl, i_ishr, i_ladd, i_lsub, i_land, i_lor, i_i2l, i_lushr, i_lshl, i_lshr, i_lcmp, i_dup, i_pop, i_dx1, i_dup2, i_ifeq, i_ifne, i_iflt, i_ifge, i_ifgt, i_ifle, i_iceq, i_icne, i_iclt, i_icge, i_icgt, i_icle, i_ifn, i_gf, i_pf, i_ial, i_bal, i_lal, i_aal, i_ias, i_las, i_bas, i_aas, i_alen, i_newa, i_new, i_anew, i_cast, i_oi, i_call, i_callV, i_callV2, i_callI, i_iret, i_zret, i_lret, i_vret, i_aret, i_mmx, i_mmn, i_gsE, i_aceq, i_no, i_acq, i_sw, zsw, zlg, zls, znl, zfg, zcs, zsp, zrc, zisn, zft, zc1, zto, Value.category, List.set_cons_zero, List.set_cons_succ, List.length_cons, List.length_nil, Option.toList, List.nil_append, List.cons_append, true_and, and_true, Nat.add_zero, Nat.zero_le, Nat.zero_add, Nat.le_refl, Nat.reduceAdd, Nat.reduceLeDiff, co0, z0, zn_0, zn_1, zn_2, zn_3, zn_4, zn_5, zn_8, zn_12, zn_24, zn_121, zn_144, zn_256, zn_300, zn_600, zn_720, zn_1204, zn_1280, zn_2400, zn_4816, zn_14400, zn_90000]
  rw [nI_min (by omega) (by omega), Nat.min_eq_left h2]
  refine ⟨by omega, by omega, by omega, ?_⟩
  simp only [i_acq, h1, zup_o hne, zup_s, zup_zup, i_ic, i_lc, i_nul, i_il, i_ll, i_al, i_is, i_as, i_ls, i_inc, i_iadd, i_isub, i_imul, i_iand, i_ior, i_ixor, i_idiv, i_irem, i_ishl, i_ishr, i_ladd, i_lsub, i_land, i_lor, i_i2l, i_lushr, i_lshl, i_lshr, i_lcmp, i_dup, i_pop, i_dx1, i_dup2, i_ifeq, i_ifne, i_iflt, i_ifge, i_ifgt, i_ifle, i_iceq, i_icne, i_iclt, i_icge, i_icgt, i_icle, i_ifn, i_gf, i_pf, i_ial, i_bal, i_lal, i_aal, i_ias, i_las, i_bas, i_aas, i_alen, i_newa, i_new, i_anew, i_cast, i_oi, i_call, i_callV, i_callV2, i_callI, i_iret, i_zret, i_lret, i_vret, i_aret, i_mmx, i_mmn, i_gsE, i_aceq, i_no, i_acq, i_sw, zsw, zlg, zls, znl, zfg, zcs, zsp, zrc, zisn, zft, zc1, zto, Value.category, List.set_cons_zero, List.set_cons_succ, List.length_cons, List.length_nil, Option.toList, List.nil_append, List.cons_append, true_and, and_true, Nat.add_zero, Nat.zero_le, Nat.zero_add, Nat.le_refl, Nat.reduceAdd, Nat.reduceLeDiff, co0, z0, zn_0, zn_1, zn_2, zn_3, zn_4, zn_5, zn_8, zn_12, zn_24, zn_121, zn_144, zn_256, zn_300, zn_600, zn_720, zn_1204, zn_1280, zn_2400, zn_4816, zn_14400, zn_90000]
  rw [nI_clamp (by omega)]
  refine ⟨h5, by decide, by decide, nI_pos (by omega), by omega, by omega, fun i hi y hy => zok_up h4 (h6 i hi y hy), by omega, hR⟩
def T_Arrs_copyOf (As : List zAV) (M : zMp) (Rt : Option zAV → zMp → Prop) : Prop := ∃ d c' cap f d', As = [.inr d, .inl (.int (nI c'))] ∧ M d = some (zoa cap f) ∧ cap ≤ c' ∧ c' ≤ 1000 ∧ M d' = none ∧ zmo d' ∧ (∀ i, i < cap → ∀ y, f i = some y → zok M sOb (.inr y)) ∧ Rt (some (.inr d')) (zup M d' (zoa c' (va_cpy f (fun _ => none) 0 0 cap)))
def co_Arrs_copyOf : List zAV → zMp → Nat × Nat := fun _ _ => (1, 1000)
theorem dJ7_copyOf_1904c_0 : decode cJ7_copyOf_1904c 0 = .ok (.aload_n 0, 1) := by decide +kernel
theorem dJ7_copyOf_1904c_1 : decode cJ7_copyOf_1904c 1 = .ok (.iload_n 1, 1) := by decide +kernel
theorem dJ7_copyOf_1904c_2 : decode cJ7_copyOf_1904c 2 = .ok (.aload_n 0, 1) := by decide +kernel
theorem dJ7_copyOf_1904c_3 : decode cJ7_copyOf_1904c 3 = .ok (.invokevirtual 86, 3) := by decide +kernel
theorem dJ7_copyOf_1904c_6 : decode cJ7_copyOf_1904c 6 = .ok (.invokestatic 300, 3) := by decide +kernel
theorem dJ7_copyOf_1904c_9 : decode cJ7_copyOf_1904c 9 = .ok (.areturn, 1) := by decide +kernel
def B_Arrs_copyOf_0 (mc ms : Nat) (Rt : Option zAV → zMp → Prop) (g : Nat → zKT) : zKT :=
  (i_al 0 (i_il 1 (i_al 0 (i_gcp mc ms T_Arrs_copyOf2 co_Arrs_copyOf2 (i_aret mc ms Rt)))))
set_option maxRecDepth 20000 in
theorem s_Arrs_copyOf_0 {X : zMa} {mc ms : Nat} {Rt : Option zAV → zMp → Prop} (hC : zCx X RJ7 cJ7_copyOf_1904c 2 63 mc ms (some (.array (.object "java/lang/Object"))) false Rt) : zLe (B_Arrs_copyOf_0 mc ms Rt (zG X)) (zG X 0) :=
  (sd_al_n hC rfl dJ7_copyOf_1904c_0 ((sd_il_n hC rfl dJ7_copyOf_1904c_1 ((sd_al_n hC rfl dJ7_copyOf_1904c_2 ((sd_gcp hC c_Arrs_copyOf2 ys_Arrs_copyOf2 ml_Arrs_86 ml_Arrs_300 (by decide) (by decide) (by decide) dJ7_copyOf_1904c_3 dJ7_copyOf_1904c_6 ((sd_aret hC (Or.inr ⟨_, rfl⟩) dJ7_copyOf_1904c_9)))))))))
theorem c_Arrs_copyOf (l : Launch) : zCT l yJ7_copyOf_1904c cJ7_copyOf_1904c 2 (some (.array (.object "java/lang/Object"))) 2 63 T_Arrs_copyOf co_Arrs_copyOf := by
  intro As M Rt hT
  obtain ⟨d, c', cap, f, d', rfl, h1, h2, h3, h4, h5, h6, hR⟩ := hT
  refine zMet_of false (by decide +kernel) (fun h => by first | rfl | cases h) (Nat.le_of_ble_eq_true rfl) (fun X hN hC => ?_)
  show zG X 0 [some (.inr d), some (.inl (.int (nI c')))] [] M 0 0
  refine s_Arrs_copyOf_0 hC _ _ _ _ _ ?_
  simp only [B_Arrs_copyOf_0, co_Arrs_copyOf, co_Arrs_copyOf2, i_ic, i_lc, i_nul, i_il, i_ll, i_al, i_is, i_as, i_ls, i_inc, i_iadd, i_isub, i_imul, i_iand, i_ior, i_ixor, i_idiv, i_irem, i_ishl, i_ishr, i_ladd, i_lsub, i_land, i_lor, i_i2l, i_lushr, i_lshl, i_lshr, i_lcmp, i_dup, i_pop, i_dx1, i_dup2, i_ifeq, i_ifne, i_iflt, i_ifge, i_ifgt, i_ifle, i_iceq, i_icne, i_iclt, i_icge, i_icgt, i_icle, i_ifn, i_gf, i_pf, i_ial, i_bal, i_lal, i_aal, i_ias, i_las, i_bas, i_aas, i_alen, i_newa, i_new, i_anew, i_cast, i_oi, i_call, i_callV, i_callV2, i_callI, i_iret, i_zret, i_lret, i_vret, i_aret, i_mmx, i_mmn, i_gsE, i_aceq, i_no, i_acq, i_sw, zsw, zlg, zls, znl, zfg, zcs, zsp, zrc, zisn, zft, zc1, zto, Value.category, List.set_cons_zero, List.set_cons_succ, List.length_cons, List.length_nil, Option.toList, List.nil_append, List.cons_append, true_and, and_true, Nat.add_zero, Nat.zero_le, Nat.zero_add, Nat.le_refl, Nat.reduceAdd, Nat.reduceLeDiff, co0, z0, zn_0, zn_1, zn_2, zn_3, zn_4, zn_5, zn_8, zn_12, zn_24, zn_121, zn_144, zn_256, zn_300, zn_600, zn_720, zn_1204, zn_1280, zn_2400, zn_4816, zn_14400, zn_90000, i_gcp, h1]
  intro mi
  refine ⟨d, c', mi, cap, f, d', rfl, h1, h2, h3, h4, h5, h6, ?_⟩
  simp only [i_ic, i_lc, i_nul, i_il, i_ll, i_al, i_is, i_as, i_ls, i_inc, i_iadd, i_isub, i_imul, i_iand, i_ior, i_ixor, i_idiv, i_irem, i_ishl, i_ishr, i_ladd, i_lsub, i_land, i_lor, i_i2l, i_lushr, i_lshl, i_lshr, i_lcmp, i_dup, i_pop, i_dx1, i_dup2, i_ifeq, i_ifne, i_iflt, i_ifge, i_ifgt, i_ifle, i_iceq, i_icne, i_iclt, i_icge, i_icgt, i_icle, i_ifn, i_gf, i_pf, i_ial, i_bal, i_lal, i_aal, i_ias, i_las, i_bas, i_aas, i_alen, i_newa, i_new, i_anew, i_cast, i_oi, i_call, i_callV, i_callV2, i_callI, i_iret, i_zret, i_lret, i_vret, i_aret, i_mmx, i_mmn, i_gsE, i_aceq, i_no, i_acq, i_sw, zsw, zlg, zls, znl, zfg, zcs, zsp, zrc, zisn, zft, zc1, zto, Value.category, List.set_cons_zero, List.set_cons_succ, List.length_cons, List.length_nil, Option.toList, List.nil_append, List.cons_append, true_and, and_true, Nat.add_zero, Nat.zero_le, Nat.zero_add, Nat.le_refl, Nat.reduceAdd, Nat.reduceLeDiff, co0, z0, zn_0, zn_1, zn_2, zn_3, zn_4, zn_5, zn_8, zn_12, zn_24, zn_121, zn_144, zn_256, zn_300, zn_600, zn_720, zn_1204, zn_1280, zn_2400, zn_4816, zn_14400, zn_90000]
  exact hR
/-! ArrayList -/
def T_AL_size (As : List zAV) (M : zMp) (Rt : Option zAV → zMp → Prop) : Prop := ∃ a c d n, As = [.inr a] ∧ M a = some (zal c d n) ∧ Rt (some (.inl (.int (nI n)))) M
abbrev co_AL_size := co0
theorem dJx4a65c_size_8abf5_0 : decode cJx4a65c_size_8abf5 0 = .ok (.aload_n 0, 1) := by decide +kernel
theorem dJx4a65c_size_8abf5_1 : decode cJx4a65c_size_8abf5 1 = .ok (.getfield 48, 3) := by decide +kernel
theorem dJx4a65c_size_8abf5_4 : decode cJx4a65c_size_8abf5 4 = .ok (.ireturn, 1) := by decide +kernel
def B_AL_size_0 (mc ms : Nat) (Rt : Option zAV → zMp → Prop) (g : Nat → zKT) : zKT :=
  (i_al 0 (i_gf 0 2 (i_iret mc ms Rt)))
set_option maxRecDepth 20000 in
theorem s_AL_size_0 {X : zMa} {mc ms : Nat} {Rt : Option zAV → zMp → Prop} (hC : zCx X RJx4a65c cJx4a65c_size_8abf5 0 0 mc ms (some .int) false Rt) : zLe (B_AL_size_0 mc ms Rt (zG X)) (zG X 0) :=
  (sd_al_n hC rfl dJx4a65c_size_8abf5_0 ((sd_gf hC (ci := 0) (fk := 2) rfl wi_AL (by decide) fl_AL_48 (Or.inl rfl) dJx4a65c_size_8abf5_1 ((sd_iret hC dJx4a65c_size_8abf5_4)))))
theorem c_AL_size (l : Launch) : zCT l yJx4a65c_size_8abf5 cJx4a65c_size_8abf5 1 (some .int) 0 0 T_AL_size co_AL_size := by
  intro As M Rt hT
  obtain ⟨a, c, d, n, rfl, h1, hR⟩ := hT
  refine zMet_of false (by decide +kernel) (fun h => by first | rfl | cases h) (Nat.le_of_ble_eq_true rfl) (fun X hN hC => ?_)
  show zG X 0 [some (.inr a)] [] M 0 0
  refine s_AL_size_0 hC _ _ _ _ _ ?_
  simp only [B_AL_size_0, co_AL_size, i_ic, i_lc, i_nul, i_il, i_ll, i_al, i_is, i_as, i_ls, i_inc, i_iadd, i_isub, i_imul, i_iand, i_ior, i_ixor, i_idiv, i_irem, i_ishl, i_ishr, i_ladd, i_lsub, i_land, i_lor, i_i2l, i_lushr, i_lshl, i_lshr, i_lcmp, i_dup, i_pop, i_dx1, i_dup2, i_ifeq, i_ifne, i_iflt, i_ifge, i_ifgt, i_ifle, i_iceq, i_icne, i_iclt, i_icge, i_icgt, i_icle, i_ifn, i_gf, i_pf, i_ial, i_bal, i_lal, i_aal, i_ias, i_las, i_bas, i_aas, i_alen, i_newa, i_new, i_anew, i_cast, i_oi, i_call, i_callV, i_callV2, i_callI, i_iret, i_zret, i_lret, i_vret, i_aret, i_mmx, i_mmn, i_gsE, i_aceq, i_no, i_acq, i_sw, zsw, zlg, zls, znl, zfg, zcs, zsp, zrc, zisn, zft, zc1, zto, Value.category, List.set_cons_zero, List.set_cons_succ, List.length_cons, List.length_nil, Option.toList, List.nil_append, List.cons_append, true_and, and_true, Nat.add_zero, Nat.zero_le, Nat.zero_add, Nat.le_refl, Nat.reduceAdd, Nat.reduceLeDiff, co0, z0, zn_0, zn_1, zn_2, zn_3, zn_4, zn_5, zn_8, zn_12, zn_24, zn_121, zn_144, zn_256, zn_300, zn_600, zn_720, zn_1204, zn_1280, zn_2400, zn_4816, zn_14400, zn_90000, h1]
  exact hR
def T_AL_elementData (As : List zAV) (M : zMp) (Rt : Option zAV → zMp → Prop) : Prop := ∃ a c d n cap f i, As = [.inr a, .inl (.int (nI i))] ∧ M a = some (zal c d n) ∧ M d = some (zoa cap f) ∧ i < cap ∧ cap < 2 ^ 31 ∧ Rt (some (zov (f i))) M
abbrev co_AL_elementData := co0
theorem dJx4a65c_elementData_915e3_0 : decode cJx4a65c_elementData_915e3 0 = .ok (.aload_n 0, 1) := by decide +kernel
theorem dJx4a65c_elementData_915e3_1 : decode cJx4a65c_elementData_915e3 1 = .ok (.getfield 9, 3) := by decide +kernel
theorem dJx4a65c_elementData_915e3_4 : decode cJx4a65c_elementData_915e3 4 = .ok (.iload_n 1, 1) := by decide +kernel
theorem dJx4a65c_elementData_915e3_5 : decode cJx4a65c_elementData_915e3 5 = .ok (.aaload, 1) := by decide +kernel
theorem dJx4a65c_elementData_915e3_6 : decode cJx4a65c_elementData_915e3 6 = .ok (.areturn, 1) := by decide +kernel
def B_AL_elementData_0 (mc ms : Nat) (Rt : Option zAV → zMp → Prop) (g : Nat → zKT) : zKT :=
  (i_al 0 (i_gf 0 1 (i_il 1 (i_aal "java/lang/Object" (i_aret mc ms Rt)))))
set_option maxRecDepth 20000 in
theorem s_AL_elementData_0 {X : zMa} {mc ms : Nat} {Rt : Option zAV → zMp → Prop} (hC : zCx X RJx4a65c cJx4a65c_elementData_915e3 0 0 mc ms (some (.object "java/lang/Object")) false Rt) : zLe (B_AL_elementData_0 mc ms Rt (zG X)) (zG X 0) :=
  (sd_al_n hC rfl dJx4a65c_elementData_915e3_0 ((sd_gf hC (ci := 0) (fk := 1) rfl wi_AL (by decide) fl_AL_9 (Or.inl rfl) dJx4a65c_elementData_915e3_1 ((sd_il_n hC rfl dJx4a65c_elementData_915e3_4 ((sd_aal hC dJx4a65c_elementData_915e3_5 ((sd_aret hC (Or.inl ⟨_, rfl⟩) dJx4a65c_elementData_915e3_6)))))))))
theorem c_AL_elementData (l : Launch) : zCT l yJx4a65c_elementData_915e3 cJx4a65c_elementData_915e3 2 (some (.object "java/lang/Object")) 0 0 T_AL_elementData co_AL_elementData := by
  intro As M Rt hT
  obtain ⟨a, c, d, n, cap, f, i, rfl, h1, h2, h3, h4, hR⟩ := hT
  refine zMet_of false (by decide +kernel) (fun h => by first | rfl | cases h) (Nat.le_of_ble_eq_true rfl) (fun X hN hC => ?_)
  show zG X 0 [some (.inr a), some (.inl (.int (nI i)))] [] M 0 0
  refine s_AL_elementData_0 hC _ _ _ _ _ ?_
  simp only [B_AL_elementData_0, co_AL_elementData, i_ic, i_lc, i_nul, i_il, i_ll, i_al, i_is, i_as, i_ls, i_inc, i_iadd, i_isub, i_imul, i_iand, i_ior, i_ixor, i_idiv, i_irem, i_ishl, i_ishr, i_ladd, i_lsub, i_land, i_lor, i_i2l, i_lushr, i_lshl, i_lshr, i_lcmp, i_dup, i_pop, i_dx1, i_dup2, i_ifeq, i_ifne, i_iflt, i_ifge, i_ifgt, i_ifle, i_iceq, i_icne, i_iclt, i_icge, i_icgt, i_icle, i_ifn, i_gf, i_pf, i_ial, i_bal, i_lal, i_aal, i_ias, i_las, i_bas, i_aas, i_alen, i_newa, i_new, i_anew, i_cast, i_oi, i_call, i_callV, i_callV2, i_callI, i_iret, i_zret, i_lret, i_vret, i_aret, i_mmx, i_mmn, i_gsE, i_aceq, i_no, i_acq, i_sw, zsw, zlg, zls, znl, zfg, zcs, zsp, zrc, zisn, zft, zc1, zto, Value.category, List.set_cons_zero, List.set_cons_succ, List.length_cons, List.length_nil, Option.toList, List.nil_append, List.cons_append, true_and, and_true, Nat.add_zero, Nat.zero_le, Nat.zero_add, Nat.le_refl, Nat.reduceAdd, Nat.reduceLeDiff, co0, z0, zn_0, zn_1, zn_2, zn_3, zn_4, zn_5, zn_8, zn_12, zn_24, zn_121, zn_144, zn_256, zn_300, zn_600, zn_720, zn_1204, zn_1280, zn_2400, zn_4816, zn_14400, zn_90000, h1, h2]
  refine ⟨vp_in_nI h3 h4, ?_⟩
  rw [nI_clamp (by omega)]
  cases hf : f i with
  | none => rw [hf] at hR; simp only [zov] at hR ⊢; exact hR
  | some y => rw [hf] at hR; simp only [zov] at hR ⊢; exact hR
def T_AL_get (As : List zAV) (M : zMp) (Rt : Option zAV → zMp → Prop) : Prop := ∃ a c d n cap f i, As = [.inr a, .inl (.int (nI i))] ∧ M a = some (zal c d n) ∧ M d = some (zoa cap f) ∧ i < n ∧ n ≤ cap ∧ cap < 2 ^ 31 ∧ Rt (some (zov (f i))) M
abbrev co_AL_get := co0
theorem dJx4a65c_get_915e3_0 : decode cJx4a65c_get_915e3 0 = .ok (.iload_n 1, 1) := by decide +kernel
theorem dJx4a65c_get_915e3_1 : decode cJx4a65c_get_915e3 1 = .ok (.aload_n 0, 1) := by decide +kernel
theorem dJx4a65c_get_915e3_2 : decode cJx4a65c_get_915e3 2 = .ok (.getfield 48, 3) := by decide +kernel
theorem dJx4a65c_get_915e3_5 : decode cJx4a65c_get_915e3 5 = .ok (.invokestatic 118, 3) := by decide +kernel
theorem dJx4a65c_get_915e3_8 : decode cJx4a65c_get_915e3 8 = .ok (.pop, 1) := by decide +kernel
theorem dJx4a65c_get_915e3_9 : decode cJx4a65c_get_915e3 9 = .ok (.aload_n 0, 1) := by decide +kernel
theorem dJx4a65c_get_915e3_10 : decode cJx4a65c_get_915e3 10 = .ok (.iload_n 1, 1) := by decide +kernel
theorem dJx4a65c_get_915e3_11 : decode cJx4a65c_get_915e3 11 = .ok (.invokevirtual 123, 3) := by decide +kernel
theorem dJx4a65c_get_915e3_14 : decode cJx4a65c_get_915e3 14 = .ok (.areturn, 1) := by decide +kernel
def B_AL_get_0 (mc ms : Nat) (Rt : Option zAV → zMp → Prop) (g : Nat → zKT) : zKT :=
  (i_il 1 (i_al 0 (i_gf 0 2 (i_call mc ms 2 T_Objs_checkIndex co_Objs_checkIndex (i_pop (i_al 0 (i_il 1 (i_callV mc ms 0 2 T_AL_elementData co_AL_elementData (i_aret mc ms Rt)))))))))
set_option maxRecDepth 20000 in
theorem s_AL_get_0 {X : zMa} {mc ms : Nat} {Rt : Option zAV → zMp → Prop} (hC : zCx X RJx4a65c cJx4a65c_get_915e3 2 43 mc ms (some (.object "java/lang/Object")) false Rt) : zLe (B_AL_get_0 mc ms Rt (zG X)) (zG X 0) :=
  (sd_il_n hC rfl dJx4a65c_get_915e3_0 ((sd_al_n hC rfl dJx4a65c_get_915e3_1 ((sd_gf hC (ci := 0) (fk := 2) rfl wi_AL (by decide) fl_AL_48 (Or.inl rfl) dJx4a65c_get_915e3_2 ((sd_cS hC c_Objs_checkIndex ys_Objs_checkIndex ml_AL_118 (by decide) (by decide) dJx4a65c_get_915e3_5 ((sd_pop hC dJx4a65c_get_915e3_8 ((sd_al_n hC rfl dJx4a65c_get_915e3_9 ((sd_il_n hC rfl dJx4a65c_get_915e3_10 ((sd_cV hC c_AL_elementData yv_AL_elementData (ci := 0) rfl rfl ml_AL_123 (by decide) (by decide) dJx4a65c_get_915e3_11 ((sd_aret hC (Or.inl ⟨_, rfl⟩) dJx4a65c_get_915e3_14)))))))))))))))))
theorem c_AL_get (l : Launch) : zCT l yJx4a65c_get_915e3 cJx4a65c_get_915e3 2 (some (.object "java/lang/Object")) 2 43 T_AL_get co_AL_get := by
  intro As M Rt hT
  obtain ⟨a, c, d, n, cap, f, i, rfl, h1, h2, h3, h4, h5, hR⟩ := hT
  refine zMet_of false (by decide +kernel) (fun h => by first | rfl | cases h) (Nat.le_of_ble_eq_true rfl) (fun X hN hC => ?_)
  show zG X 0 [some (.inr a), some (.inl (.int (nI i)))] [] M 0 0
  refine s_AL_get_0 hC _ _ _ _ _ ?_
  simp only [B_AL_get_0, co_AL_elementData, co_AL_get, co_Objs_checkIndex, i_ic, i_lc, i_nul, i_il, i_ll, i_al, i_is, i_as, i_ls, i_inc, i_iadd, i_isub, i_imul, i_iand, i_ior, i_ixor, i_idiv, i_irem, i_ishl, i_ishr, i_ladd, i_lsub, i_land, i_lor, i_i2l, i_lushr, i_lshl, i_lshr, i_lcmp, i_dup, i_pop, i_dx1, i_dup2, i_ifeq, i_ifne, i_iflt, i_ifge, i_ifgt, i_ifle, i_iceq, i_icne, i_iclt, i_icge, i_icgt, i_icle, i_ifn, i_gf, i_pf, i_ial, i_bal, i_lal, i_aal, i_ias, i_las, i_bas, i_aas, i_alen, i_newa, i_new, i_anew, i_cast, i_oi, i_call, i_callV, i_callV2, i_callI, i_iret, i_zret, i_lret, i_vret, i_aret, i_mmx, i_mmn, i_gsE, i_aceq, i_no, i_acq, i_sw, zsw, zlg, zls, znl, zfg, zcs, zsp, zrc, zisn, zft, zc1, zto, Value.category, List.set_cons_zero, List.set_cons_succ, List.length_cons, List.length_nil, Option.toList, List.nil_append, List.cons_append, true_and, and_true, Nat.add_zero, Nat.zero_le, Nat.zero_add, Nat.le_refl, Nat.reduceAdd, Nat.reduceLeDiff, co0, z0, zn_0, zn_1, zn_2, zn_3, zn_4, zn_5, zn_8, zn_12, zn_24, zn_121, zn_144, zn_256, zn_300, zn_600, zn_720, zn_1204, zn_1280, zn_2400, zn_4816, zn_14400, zn_90000, h1]
  refine ⟨i, n, rfl, h3, by omega, ?_⟩
  simp only [h1, i_ic, i_lc, i_nul, i_il, i_ll, i_al, i_is, i_as, i_ls, i_inc, i_iadd, i_isub, i_imul, i_iand, i_ior, i_ixor, i_idiv, i_irem, i_ishl, i_ishr, i_ladd, i_lsub, i_land, i_lor, i_i2l, i_lushr, i_lshl, i_lshr, i_lcmp, i_dup, i_pop, i_dx1, i_dup2, i_ifeq, i_ifne, i_iflt, i_ifge, i_ifgt, i_ifle, i_iceq, i_icne, i_iclt, i_icge, i_icgt, i_icle, i_ifn, i_gf, i_pf, i_ial, i_bal, i_lal, i_aal, i_ias, i_las, i_bas, i_aas, i_alen, i_newa, i_new, i_anew, i_cast, i_oi, i_call, i_callV, i_callV2, i_callI, i_iret, i_zret, i_lret, i_vret, i_aret, i_mmx, i_mmn, i_gsE, i_aceq, i_no, i_acq, i_sw, zsw, zlg, zls, znl, zfg, zcs, zsp, zrc, zisn, zft, zc1, zto, Value.category, List.set_cons_zero, List.set_cons_succ, List.length_cons, List.length_nil, Option.toList, List.nil_append, List.cons_append, true_and, and_true, Nat.add_zero, Nat.zero_le, Nat.zero_add, Nat.le_refl, Nat.reduceAdd, Nat.reduceLeDiff, co0, z0, zn_0, zn_1, zn_2, zn_3, zn_4, zn_5, zn_8, zn_12, zn_24, zn_121, zn_144, zn_256, zn_300, zn_600, zn_720, zn_1204, zn_1280, zn_2400, zn_4816, zn_14400, zn_90000]
  refine ⟨a, c, d, n, cap, f, i, rfl, h1, h2, by omega, h5, ?_⟩
  cases hf : f i with
  | none => rw [hf] at hR; simp only [zov, i_ic, i_lc, i_nul, i_il, i_ll, i_al, i_is, i_as, i_ls, i_inc, i_iadd, i_isub, i_imul, i_iand, i_ior, i_ixor, i_idiv, i_irem, i_ishl, i_ishr, i_ladd, i_lsub, i_land, i_lor, i_i2l, i_lushr, i_lshl, i_lshr, i_lcmp, i_dup, i_pop, i_dx1, i_dup2, i_ifeq, i_ifne, i_iflt, i_ifge, i_ifgt, i_ifle, i_iceq, i_icne, i_iclt, i_icge, i_icgt, i_icle, i_ifn, i_gf, i_pf, i_ial, i_bal, i_lal, i_aal, i_ias, i_las, i_bas, i_aas, i_alen, i_newa, i_new, i_anew, i_cast, i_oi, i_call, i_callV, i_callV2, i_callI, i_iret, i_zret, i_lret, i_vret, i_aret, i_mmx, i_mmn, i_gsE, i_aceq, i_no, i_acq, i_sw, zsw, zlg, zls, znl, zfg, zcs, zsp, zrc, zisn, zft, zc1, zto, Value.category, List.set_cons_zero, List.set_cons_succ, List.length_cons, List.length_nil, Option.toList, List.nil_append, List.cons_append, true_and, and_true, Nat.add_zero, Nat.zero_le, Nat.zero_add, Nat.le_refl, Nat.reduceAdd, Nat.reduceLeDiff, co0, z0, zn_0, zn_1, zn_2, zn_3, zn_4, zn_5, zn_8, zn_12, zn_24, zn_121, zn_144, zn_256, zn_300, zn_600, zn_720, zn_1204, zn_1280, zn_2400, zn_4816, zn_14400, zn_90000] at hR ⊢; exact hR
  | some y => rw [hf] at hR; simp only [zov, i_ic, i_lc, i_nul, i_il, i_ll, i_al, i_is, i_as, i_ls, i_inc, i_iadd, i_isub, i_imul, i_iand, i_ior, i_ixor, i_idiv, i_irem, i_ishl, i_ishr, i_ladd, i_lsub, i_land, i_lor, i_i2l, i_lushr, i_lshl, i_lshr, i_lcmp, i_dup, i_pop, i_dx1, i_dup2, i_ifeq, i_ifne, i_iflt, i_ifge, i_ifgt, i_ifle, i_iceq, i_icne, i_iclt, i_icge, i_icgt, i_icle, i_ifn, i_gf, i_pf, i_ial, i_bal, i_lal, i_aal, i_ias, i_las, i_bas, i_aas, i_alen, i_newa, i_new, i_anew, i_cast, i_oi, i_call, i_callV, i_callV2, i_callI, i_iret, i_zret, i_lret, i_vret, i_aret, i_mmx, i_mmn, i_gsE, i_aceq, i_no, i_acq, i_sw, zsw, zlg, zls, znl, zfg, zcs, zsp, zrc, zisn, zft, zc1, zto, Value.category, List.set_cons_zero, List.set_cons_succ, List.length_cons, List.length_nil, Option.toList, List.nil_append, List.cons_append, true_and, and_true, Nat.add_zero, Nat.zero_le, Nat.zero_add, Nat.le_refl, Nat.reduceAdd, Nat.reduceLeDiff, co0, z0, zn_0, zn_1, zn_2, zn_3, zn_4, zn_5, zn_8, zn_12, zn_24, zn_121, zn_144, zn_256, zn_300, zn_600, zn_720, zn_1204, zn_1280, zn_2400, zn_4816, zn_14400, zn_90000] at hR ⊢; exact hR
/-- how long the new row is -/
def al_cap (n : Nat) : Nat := if n = 0 then 10 else n + max 1 (n / 2)
theorem al_cap_b {n : Nat} (h : n ≤ 600) : n < al_cap n ∧ al_cap n ≤ 1000 := by
  unfold al_cap
  split
  · omega
  · have : max 1 (n / 2) ≤ 300 := Nat.max_le.mpr ⟨by omega, by omega⟩
    have : 1 ≤ max 1 (n / 2) := Nat.le_max_left _ _
    omega
def T_AL_grow (As : List zAV) (M : zMp) (Rt : Option zAV → zMp → Prop) : Prop := ∃ a c d n f d', As = [.inr a, .inl (.int (nI (n + 1)))] ∧ zmo a ∧ M a = some (zal c d n) ∧ M d = some (zoa n f) ∧ n ≤ 600 ∧ (n = 0 → d = znE) ∧ M znE ≠ none ∧ M d' = none ∧ zmo d' ∧ (∀ i, i < n → ∀ y, f i = some y → zok M sOb (.inr y)) ∧ Rt (some (.inr d')) (zup (zup M d' (zoa (al_cap n) (va_cpy f (fun _ => none) 0 0 n))) a (zal c d' n))
def co_AL_grow : List zAV → zMp → Nat × Nat := fun _ _ => (1, 1000)
theorem dJx4a65c_grow_92f84_0 : decode cJx4a65c_grow_92f84 0 = .ok (.aload_n 0, 1) := by decide +kernel
theorem dJx4a65c_grow_92f84_1 : decode cJx4a65c_grow_92f84 1 = .ok (.getfield 9, 3) := by decide +kernel
theorem dJx4a65c_grow_92f84_4 : decode cJx4a65c_grow_92f84 4 = .ok (.arraylength, 1) := by decide +kernel
theorem dJx4a65c_grow_92f84_5 : decode cJx4a65c_grow_92f84 5 = .ok (.istore_n 2, 1) := by decide +kernel
theorem dJx4a65c_grow_92f84_6 : decode cJx4a65c_grow_92f84 6 = .ok (.iload_n 2, 1) := by decide +kernel
theorem dJx4a65c_grow_92f84_7 : decode cJx4a65c_grow_92f84 7 = .ok (.ifCond .gt 13, 3) := by decide +kernel
theorem dJx4a65c_grow_92f84_10 : decode cJx4a65c_grow_92f84 10 = .ok (.aload_n 0, 1) := by decide +kernel
theorem dJx4a65c_grow_92f84_11 : decode cJx4a65c_grow_92f84 11 = .ok (.getfield 9, 3) := by decide +kernel
theorem dJx4a65c_grow_92f84_14 : decode cJx4a65c_grow_92f84 14 = .ok (.getstatic 39, 3) := by decide +kernel
theorem dJx4a65c_grow_92f84_17 : decode cJx4a65c_grow_92f84 17 = .ok (.if_acmp .eq 28, 3) := by decide +kernel
theorem dJx4a65c_grow_92f84_20 : decode cJx4a65c_grow_92f84 20 = .ok (.iload_n 2, 1) := by decide +kernel
theorem dJx4a65c_grow_92f84_21 : decode cJx4a65c_grow_92f84 21 = .ok (.iload_n 1, 1) := by decide +kernel
theorem dJx4a65c_grow_92f84_22 : decode cJx4a65c_grow_92f84 22 = .ok (.iload_n 2, 1) := by decide +kernel
theorem dJx4a65c_grow_92f84_23 : decode cJx4a65c_grow_92f84 23 = .ok (.isub, 1) := by decide +kernel
theorem dJx4a65c_grow_92f84_24 : decode cJx4a65c_grow_92f84 24 = .ok (.iload_n 2, 1) := by decide +kernel
theorem dJx4a65c_grow_92f84_25 : decode cJx4a65c_grow_92f84 25 = .ok (.iconst 1, 1) := by decide +kernel
theorem dJx4a65c_grow_92f84_26 : decode cJx4a65c_grow_92f84 26 = .ok (.ishr, 1) := by decide +kernel
theorem dJx4a65c_grow_92f84_27 : decode cJx4a65c_grow_92f84 27 = .ok (.invokestatic 73, 3) := by decide +kernel
theorem dJx4a65c_grow_92f84_30 : decode cJx4a65c_grow_92f84 30 = .ok (.istore_n 3, 1) := by decide +kernel
theorem dJx4a65c_grow_92f84_31 : decode cJx4a65c_grow_92f84 31 = .ok (.aload_n 0, 1) := by decide +kernel
theorem dJx4a65c_grow_92f84_32 : decode cJx4a65c_grow_92f84 32 = .ok (.aload_n 0, 1) := by decide +kernel
theorem dJx4a65c_grow_92f84_33 : decode cJx4a65c_grow_92f84 33 = .ok (.getfield 9, 3) := by decide +kernel
theorem dJx4a65c_grow_92f84_36 : decode cJx4a65c_grow_92f84 36 = .ok (.iload_n 3, 1) := by decide +kernel
theorem dJx4a65c_grow_92f84_37 : decode cJx4a65c_grow_92f84 37 = .ok (.invokestatic 66, 3) := by decide +kernel
theorem dJx4a65c_grow_92f84_40 : decode cJx4a65c_grow_92f84 40 = .ok (.dup_x1, 1) := by decide +kernel
theorem dJx4a65c_grow_92f84_41 : decode cJx4a65c_grow_92f84 41 = .ok (.putfield 9, 3) := by decide +kernel
theorem dJx4a65c_grow_92f84_44 : decode cJx4a65c_grow_92f84 44 = .ok (.areturn, 1) := by decide +kernel
theorem dJx4a65c_grow_92f84_45 : decode cJx4a65c_grow_92f84 45 = .ok (.aload_n 0, 1) := by decide +kernel
theorem dJx4a65c_grow_92f84_46 : decode cJx4a65c_grow_92f84 46 = .ok (.bipush 10, 2) := by decide +kernel
theorem dJx4a65c_grow_92f84_48 : decode cJx4a65c_grow_92f84 48 = .ok (.iload_n 1, 1) := by decide +kernel
theorem dJx4a65c_grow_92f84_49 : decode cJx4a65c_grow_92f84 49 = .ok (.invokestatic 79, 3) := by decide +kernel
theorem dJx4a65c_grow_92f84_52 : decode cJx4a65c_grow_92f84 52 = .ok (.anewarray 7, 3) := by decide +kernel
theorem dJx4a65c_grow_92f84_55 : decode cJx4a65c_grow_92f84 55 = .ok (.dup_x1, 1) := by decide +kernel
theorem dJx4a65c_grow_92f84_56 : decode cJx4a65c_grow_92f84 56 = .ok (.putfield 9, 3) := by decide +kernel
theorem dJx4a65c_grow_92f84_59 : decode cJx4a65c_grow_92f84 59 = .ok (.areturn, 1) := by decide +kernel
def B_AL_grow_45 (mc ms : Nat) (Rt : Option zAV → zMp → Prop) (g : Nat → zKT) : zKT :=
  (i_al 0 (i_ic 10 (i_il 1 (i_mmx mc ms (i_anew mc ms "java/lang/Object" (i_dx1 (i_pf 0 1 (.array (.object "java/lang/Object")) (i_aret mc ms Rt))))))))
set_option maxRecDepth 20000 in
theorem s_AL_grow_45 {X : zMa} {mc ms : Nat} {Rt : Option zAV → zMp → Prop} (hC : zCx X RJx4a65c cJx4a65c_grow_92f84 3 84 mc ms (some (.array (.object "java/lang/Object"))) false Rt) (hN : zNL X = 4) : zLe (B_AL_grow_45 mc ms Rt (zG X)) (zG X 45) :=
  (sd_al_n hC rfl dJx4a65c_grow_92f84_45 ((sd_bipush hC (by decide) dJx4a65c_grow_92f84_46 ((sd_il_n hC rfl dJx4a65c_grow_92f84_48 ((sd_mmx hC ml_AL_79 (by decide) (by decide) dJx4a65c_grow_92f84_49 ((sd_anew hC cl_AL_7 ao_Obj_0 dJx4a65c_grow_92f84_52 ((sd_dx1 hC dJx4a65c_grow_92f84_55 ((sd_pf hC (ci := 0) (fk := 1) rfl wi_AL tyJx4a65c tyJx4a65c_ok nmJx4a65c (by decide) fl_AL_9 (Or.inl rfl) (Or.inl rfl) dJx4a65c_grow_92f84_56 ((sd_aret hC (Or.inr ⟨_, rfl⟩) dJx4a65c_grow_92f84_59)))))))))))))))
def B_AL_grow_20 (mc ms : Nat) (Rt : Option zAV → zMp → Prop) (g : Nat → zKT) : zKT :=
  (i_il 2 (i_il 1 (i_il 2 (i_isub (i_il 2 (i_ic 1 (i_ishr (i_call mc ms 3 T_ASup_newLength co_ASup_newLength (i_is 3 (i_al 0 (i_al 0 (i_gf 0 1 (i_il 3 (i_call mc ms 2 T_Arrs_copyOf co_Arrs_copyOf (i_dx1 (i_pf 0 1 (.array (.object "java/lang/Object")) (i_aret mc ms Rt)))))))))))))))))
set_option maxRecDepth 20000 in
theorem s_AL_grow_20 {X : zMa} {mc ms : Nat} {Rt : Option zAV → zMp → Prop} (hC : zCx X RJx4a65c cJx4a65c_grow_92f84 3 84 mc ms (some (.array (.object "java/lang/Object"))) false Rt) (hN : zNL X = 4) : zLe (B_AL_grow_20 mc ms Rt (zG X)) (zG X 20) :=
  (sd_il_n hC rfl dJx4a65c_grow_92f84_20 ((sd_il_n hC rfl dJx4a65c_grow_92f84_21 ((sd_il_n hC rfl dJx4a65c_grow_92f84_22 ((sd_isub hC dJx4a65c_grow_92f84_23 ((sd_il_n hC rfl dJx4a65c_grow_92f84_24 ((sd_iconst hC (by decide) dJx4a65c_grow_92f84_25 ((sd_ishr hC dJx4a65c_grow_92f84_26 ((sd_cS hC c_ASup_newLength ys_ASup_newLength ml_AL_73 (by decide) (by decide) dJx4a65c_grow_92f84_27 ((sd_is_n hC rfl (by rw [hN]; decide) dJx4a65c_grow_92f84_30 ((sd_al_n hC rfl dJx4a65c_grow_92f84_31 ((sd_al_n hC rfl dJx4a65c_grow_92f84_32 ((sd_gf hC (ci := 0) (fk := 1) rfl wi_AL (by decide) fl_AL_9 (Or.inl rfl) dJx4a65c_grow_92f84_33 ((sd_il_n hC rfl dJx4a65c_grow_92f84_36 ((sd_cS hC c_Arrs_copyOf ys_Arrs_copyOf ml_AL_66 (by decide) (by decide) dJx4a65c_grow_92f84_37 ((sd_dx1 hC dJx4a65c_grow_92f84_40 ((sd_pf hC (ci := 0) (fk := 1) rfl wi_AL tyJx4a65c tyJx4a65c_ok nmJx4a65c (by decide) fl_AL_9 (Or.inl rfl) (Or.inl rfl) dJx4a65c_grow_92f84_41 ((sd_aret hC (Or.inr ⟨_, rfl⟩) dJx4a65c_grow_92f84_44)))))))))))))))))))))))))))))))))
def B_AL_grow_0 (mc ms : Nat) (Rt : Option zAV → zMp → Prop) (g : Nat → zKT) : zKT :=
  (i_al 0 (i_gf 0 1 (i_alen (i_is 2 (i_il 2 (i_ifgt (B_AL_grow_20 mc ms Rt g) (i_al 0 (i_gf 0 1 (i_gsE (i_aceq (B_AL_grow_45 mc ms Rt g) (B_AL_grow_20 mc ms Rt g)))))))))))
set_option maxRecDepth 20000 in
theorem s_AL_grow_0 {X : zMa} {mc ms : Nat} {Rt : Option zAV → zMp → Prop} (hC : zCx X RJx4a65c cJx4a65c_grow_92f84 3 84 mc ms (some (.array (.object "java/lang/Object"))) false Rt) (hN : zNL X = 4) : zLe (B_AL_grow_0 mc ms Rt (zG X)) (zG X 0) :=
  (sd_al_n hC rfl dJx4a65c_grow_92f84_0 ((sd_gf hC (ci := 0) (fk := 1) rfl wi_AL (by decide) fl_AL_9 (Or.inl rfl) dJx4a65c_grow_92f84_1 ((sd_alen hC dJx4a65c_grow_92f84_4 ((sd_is_n hC rfl (by rw [hN]; decide) dJx4a65c_grow_92f84_5 ((sd_il_n hC rfl dJx4a65c_grow_92f84_6 ((sd_ifgt hC (tgt := 20) (by decide) dJx4a65c_grow_92f84_7 (s_AL_grow_20 hC hN) ((sd_al_n hC rfl dJx4a65c_grow_92f84_10 ((sd_gf hC (ci := 0) (fk := 1) rfl wi_AL (by decide) fl_AL_9 (Or.inl rfl) dJx4a65c_grow_92f84_11 ((sd_gsE hC rfl fl_AL_39 dJx4a65c_grow_92f84_14 ((sd_aceq hC (tgt := 45) (by decide) dJx4a65c_grow_92f84_17 (s_AL_grow_45 hC hN) (s_AL_grow_20 hC hN))))))))))))))))))))
theorem c_AL_grow (l : Launch) : zCT l yJx4a65c_grow_92f84 cJx4a65c_grow_92f84 4 (some (.array (.object "java/lang/Object"))) 3 84 T_AL_grow co_AL_grow := by
  intro As M Rt hT
  obtain ⟨a, c, d, n, f, d', rfl, ha, h1, h2, h3, h4, hE, h5, h6, h7, hR⟩ := hT
  have hda : a ≠ d' := fun q => by rw [q, h5] at h1; cases h1
  obtain ⟨hc1, hc2⟩ := al_cap_b h3
  refine zMet_of false (by decide +kernel) (fun h => by first | rfl | cases h) (Nat.le_of_ble_eq_true rfl) (fun X hN hC => ?_)
  show zG X 0 [some (.inr a), some (.inl (.int (nI (n + 1)))), none, none] [] M 0 0
  refine s_AL_grow_0 hC hN _ _ _ _ _ ?_
  have big : n ≠ 0 → B_AL_grow_20 1 1000 Rt (zG X) [some (.inr a), some (.inl (.int (nI (n + 1)))), some (.inl (.int (nI n))), none] [] M 0 0 := by
    intro hn
    simp only [B_AL_grow_0, B_AL_grow_20, B_AL_grow_45, co_AL_grow, co_ASup_newLength, co_Arrs_copyOf, i_ic, i_lc, i_nul, i_il, i_ll, i_al, i_is, i_as, i_ls, i_inc, i_iadd, i_isub, i_imul, i_iand, i_ior, i_ixor, i_idiv, i_irem, i_ishl, i_ishr, i_ladd, i_lsub, i_land, i_lor, i_i2l, i_lushr, i_lshl, i_lshr, i_lcmp, i_dup, i_pop, i_dx1, i_dup2, i_ifeq, i_ifne, i_iflt, i_ifge, i_ifgt, i_ifle, i_iceq, i_icne, i_iclt, i_icge, i_icgt, i_icle, i_ifn, i_gf, i_pf, i_ial, i_bal, i_lal, i_aal, i_ias, i_las, i_bas, i_aas, i_alen, i_newa, i_new, i_anew, i_cast, i_oi, i_call, i_callV, i_callV2, i_callI, i_iret, i_zret, i_lret, i_vret, i_aret, i_mmx, i_mmn, i_gsE, i_aceq, i_no, i_acq, i_sw, zsw, zlg, zls, znl, zfg, zcs, zsp, zrc, zisn, zft, zc1, zto, Value.category, List.set_cons_zero, List.set_cons_succ, List.length_cons, List.length_nil, Option.toList, List.nil_append, List.cons_append, true_and, and_true, Nat.add_zero, Nat.zero_le, Nat.zero_add, Nat.le_refl, Nat.reduceAdd, Nat.reduceLeDiff, co0, z0, zn_0, zn_1, zn_2, zn_3, zn_4, zn_5, zn_8, zn_12, zn_24, zn_121, zn_144, zn_256, zn_300, zn_600, zn_720, zn_1204, zn_1280, zn_2400, zn_4816, zn_14400, zn_90000, h1]
    have e1 : nI (n + 1) - nI n = nI 1 := by rw [pk_sub (by omega)]; congr 1; omega
    have e2 : nI n >>> ((1 : Int32) &&& 31) = nI (n / 2) := by
      have k := pk_shrN (n := n) (by omega) ((1 : Int32) &&& 31) 1 (by decide)
      rw [Nat.pow_one] at k
      exact k
    rw [e1, e2]
    refine ⟨n, 1, n / 2, rfl, by omega, by omega, by omega, by omega, ?_⟩
    have e3 : n + max 1 (n / 2) = al_cap n := by unfold al_cap; rw [if_neg hn]
    rw [e3]
    simp only [h1, i_ic, i_lc, i_nul, i_il, i_ll, i_al, i_is, i_as, i_ls, i_inc, i_iadd, i_isub, i_imul, i_iand, i_ior, i_ixor, i_idiv, i_irem, i_ishl, i_ishr, i_ladd, i_lsub, i_land, i_lor, i_i2l, i_lushr, i_lshl, i_lshr, i_lcmp, i_dup, i_pop, i_dx1, i_dup2, i_ifeq, i_ifne, i_iflt, i_ifge, i_ifgt, i_ifle, i_iceq, i_icne, i_iclt, i_icge, i_icgt, i_icle, i_ifn, i_gf, i_pf, i_ial, i_bal, i_lal, i_aal, i_ias, i_las, i_bas, i_aas, i_alen, i_newa, i_new, i_anew, i_cast, i_oi, i_call, i_callV, i_callV2, i_callI, i_iret, i_zret, i_lret, i_vret, i_aret, i_mmx, i_mmn, i_gsE, i_aceq, i_no, i_acq, i_sw, zsw, zlg, zls, znl, zfg, zcs, zsp, zrc, zisn, zft, zc1, zto, Value.category, List.set_cons_zero, List.set_cons_succ, List.length_cons, List.length_nil, Option.toList, List.nil_append, List.cons_append, true_and, and_true, Nat.add_zero, Nat.zero_le, Nat.zero_add, Nat.le_refl, Nat.reduceAdd, Nat.reduceLeDiff, co0, z0, zn_0, zn_1, zn_2, zn_3, zn_4, zn_5, zn_8, zn_12, zn_24, zn_121, zn_144, zn_256, zn_300, zn_600, zn_720, zn_1204, zn_1280, zn_2400, zn_4816, zn_14400, zn_90000]
    refine ⟨d, al_cap n, n, f, d', rfl, h2, by omega, hc2, h5, h6, h7, ?_⟩
    simp only [zup_o hda, h1, i_ic, i_lc, i_nul, i_il, i_ll, i_al, i_is, i_as, i_ls, i_inc, i_iadd, i_isub, i_imul, i_iand, i_ior, i_ixor, i_idiv, i_irem, i_ishl, i_ishr, i_ladd, i_lsub, i_land, i_lor, i_i2l, i_lushr, i_lshl, i_lshr, i_lcmp, i_dup, i_pop, i_dx1, i_dup2, i_ifeq, i_ifne, i_iflt, i_ifge, i_ifgt, i_ifle, i_iceq, i_icne, i_iclt, i_icge, i_icgt, i_icle, i_ifn, i_gf, i_pf, i_ial, i_bal, i_lal, i_aal, i_ias, i_las, i_bas, i_aas, i_alen, i_newa, i_new, i_anew, i_cast, i_oi, i_call, i_callV, i_callV2, i_callI, i_iret, i_zret, i_lret, i_vret, i_aret, i_mmx, i_mmn, i_gsE, i_aceq, i_no, i_acq, i_sw, zsw, zlg, zls, znl, zfg, zcs, zsp, zrc, zisn, zft, zc1, zto, Value.category, List.set_cons_zero, List.set_cons_succ, List.length_cons, List.length_nil, Option.toList, List.nil_append, List.cons_append, true_and, and_true, Nat.add_zero, Nat.zero_le, Nat.zero_add, Nat.le_refl, Nat.reduceAdd, Nat.reduceLeDiff, co0, z0, zn_0, zn_1, zn_2, zn_3, zn_4, zn_5, zn_8, zn_12, zn_24, zn_121, zn_144, zn_256, zn_300, zn_600, zn_720, zn_1204, zn_1280, zn_2400, zn_4816, zn_14400, zn_90000]
    exact ⟨ha, by decide, hR⟩
  simp only [B_AL_grow_0, B_AL_grow_20, B_AL_grow_45, co_AL_grow, co_ASup_newLength, co_Arrs_copyOf, i_ic, i_lc, i_nul, i_il, i_ll, i_al, i_is, i_as, i_ls, i_inc, i_iadd, i_isub, i_imul, i_iand, i_ior, i_ixor, i_idiv, i_irem, i_ishl, i_ishr, i_ladd, i_lsub, i_land, i_lor, i_i2l, i_lushr, i_lshl, i_lshr, i_lcmp, i_dup, i_pop, i_dx1, i_dup2, i_ifeq, i_ifne, i_iflt, i_ifge, i_ifgt, i_ifle, i_iceq, i_icne, i_iclt, i_icge, i_icgt, i_icle, i_ifn, i_gf, i_pf, i_ial, i_bal, i_lal, i_aal, i_ias, i_las, i_bas, i_aas, i_alen, i_newa, i_new, i_anew, i_cast, i_oi, i_call, i_callV, i_callV2, i_callI, i_iret, i_zret, i_lret, i_vret, i_aret, i_mmx, i_mmn, i_gsE, i_aceq, i_no, i_acq, i_sw, zsw, zlg, zls, znl, zfg, zcs, zsp, zrc, zisn, zft, zc1, zto, Value.category, List.set_cons_zero, List.set_cons_succ, List.length_cons, List.length_nil, Option.toList, List.nil_append, List.cons_append, true_and, and_true, Nat.add_zero, Nat.zero_le, Nat.zero_add, Nat.le_refl, Nat.reduceAdd, Nat.reduceLeDiff, co0, z0, zn_0, zn_1, zn_2, zn_3, zn_4, zn_5, zn_8, zn_12, zn_24, zn_121, zn_144, zn_256, zn_300, zn_600, zn_720, zn_1204, zn_1280, zn_2400, zn_4816, zn_14400, zn_90000, h1, h2]
  refine ⟨fun h => ?_, fun h => ?_⟩
  · have hn : n ≠ 0 := fun q => by subst q; exact absurd h (by decide)
    have := big hn
    simp only [B_AL_grow_0, B_AL_grow_20, B_AL_grow_45, co_AL_grow, co_ASup_newLength, co_Arrs_copyOf, i_ic, i_lc, i_nul, i_il, i_ll, i_al, i_is, i_as, i_ls, i_inc, i_iadd, i_isub, i_imul, i_iand, i_ior, i_ixor, i_idiv, i_irem, i_ishl, i_ishr, i_ladd, i_lsub, i_land, i_lor, i_i2l, i_lushr, i_lshl, i_lshr, i_lcmp, i_dup, i_pop, i_dx1, i_dup2, i_ifeq, i_ifne, i_iflt, i_ifge, i_ifgt, i_ifle, i_iceq, i_icne, i_iclt, i_icge, i_icgt, i_icle, i_ifn, i_gf, i_pf, i_ial, i_bal, i_lal, i_aal, i_ias, i_las, i_bas, i_aas, i_alen, i_newa, i_new, i_anew, i_cast, i_oi, i_call, i_callV, i_callV2, i_callI, i_iret, i_zret, i_lret, i_vret, i_aret, i_mmx, i_mmn, i_gsE, i_aceq, i_no, i_acq, i_sw, zsw, zlg, zls, znl, zfg, zcs, zsp, zrc, zisn, zft, zc1, zto, Value.category, List.set_cons_zero, List.set_cons_succ, List.length_cons, List.length_nil, Option.toList, List.nil_append, List.cons_append, true_and, and_true, Nat.add_zero, Nat.zero_le, Nat.zero_add, Nat.le_refl, Nat.reduceAdd, Nat.reduceLeDiff, co0, z0, zn_0, zn_1, zn_2, zn_3, zn_4, zn_5, zn_8, zn_12, zn_24, zn_121, zn_144, zn_256, zn_300, zn_600, zn_720, zn_1204, zn_1280, zn_2400, zn_4816, zn_14400, zn_90000, h1] at this
    exact this
  · have hn : n = 0 := Classical.byContradiction fun q => h (nI_lt (a := 0) (by omega) (by omega))
    refine ⟨hE, fun _ => ?_, fun h => absurd (h4 hn) h⟩
    subst hn
    rw [show (10 : Int32) = nI 10 from rfl, nI_max (by decide) (by decide)]
    refine ⟨d', h5, h6, by decide, by decide, by decide, ?_⟩
    simp only [zup_o hda, h1, i_ic, i_lc, i_nul, i_il, i_ll, i_al, i_is, i_as, i_ls, i_inc, i_iadd, i_isub, i_imul, i_iand, i_ior, i_ixor, i_idiv, i_irem, i_ishl, i_ishr, i_ladd, i_lsub, i_land, i_lor, i_i2l, i_lushr, i_lshl, i_lshr, i_lcmp, i_dup, i_pop, i_dx1, i_dup2, i_ifeq, i_ifne, i_iflt, i_ifge, i_ifgt, i_ifle, i_iceq, i_icne, i_iclt, i_icge, i_icgt, i_icle, i_ifn, i_gf, i_pf, i_ial, i_bal, i_lal, i_aal, i_ias, i_las, i_bas, i_aas, i_alen, i_newa, i_new, i_anew, i_cast, i_oi, i_call, i_callV, i_callV2, i_callI, i_iret, i_zret, i_lret, i_vret, i_aret, i_mmx, i_mmn, i_gsE, i_aceq, i_no, i_acq, i_sw, zsw, zlg, zls, znl, zfg, zcs, zsp, zrc, zisn, zft, zc1, zto, Value.category, List.set_cons_zero, List.set_cons_succ, List.length_cons, List.length_nil, Option.toList, List.nil_append, List.cons_append, true_and, and_true, Nat.add_zero, Nat.zero_le, Nat.zero_add, Nat.le_refl, Nat.reduceAdd, Nat.reduceLeDiff, co0, z0, zn_0, zn_1, zn_2, zn_3, zn_4, zn_5, zn_8, zn_12, zn_24, zn_121, zn_144, zn_256, zn_300, zn_600, zn_720, zn_1204, zn_1280, zn_2400, zn_4816, zn_14400, zn_90000]
    have e0 : va_cpy f (fun _ => (none : Option zNm)) 0 0 0 = fun _ => none := by
      funext k
      unfold va_cpy
      rw [if_neg (by omega)]
    rw [e0] at hR
    exact ⟨ha, by decide, by decide, hR⟩
def T_AL_grow2 (As : List zAV) (M : zMp) (Rt : Option zAV → zMp → Prop) : Prop := ∃ a c d n f d', As = [.inr a] ∧ zmo a ∧ M a = some (zal c d n) ∧ M d = some (zoa n f) ∧ n ≤ 600 ∧ (n = 0 → d = znE) ∧ M znE ≠ none ∧ M d' = none ∧ zmo d' ∧ (∀ i, i < n → ∀ y, f i = some y → zok M sOb (.inr y)) ∧ Rt (some (.inr d')) (zup (zup M d' (zoa (al_cap n) (va_cpy f (fun _ => none) 0 0 n))) a (zal c d' n))
def co_AL_grow2 : List zAV → zMp → Nat × Nat := fun _ _ => (1, 1000)
theorem dJx4a65c_grow_d5877_0 : decode cJx4a65c_grow_d5877 0 = .ok (.aload_n 0, 1) := by decide +kernel
theorem dJx4a65c_grow_d5877_1 : decode cJx4a65c_grow_d5877 1 = .ok (.aload_n 0, 1) := by decide +kernel
theorem dJx4a65c_grow_d5877_2 : decode cJx4a65c_grow_d5877 2 = .ok (.getfield 48, 3) := by decide +kernel
theorem dJx4a65c_grow_d5877_5 : decode cJx4a65c_grow_d5877 5 = .ok (.iconst 1, 1) := by decide +kernel
theorem dJx4a65c_grow_d5877_6 : decode cJx4a65c_grow_d5877 6 = .ok (.iadd, 1) := by decide +kernel
theorem dJx4a65c_grow_d5877_7 : decode cJx4a65c_grow_d5877 7 = .ok (.invokevirtual 69, 3) := by decide +kernel
theorem dJx4a65c_grow_d5877_10 : decode cJx4a65c_grow_d5877 10 = .ok (.areturn, 1) := by decide +kernel
def B_AL_grow2_0 (mc ms : Nat) (Rt : Option zAV → zMp → Prop) (g : Nat → zKT) : zKT :=
  (i_al 0 (i_al 0 (i_gf 0 2 (i_ic 1 (i_iadd (i_callV mc ms 0 2 T_AL_grow co_AL_grow (i_aret mc ms Rt)))))))
set_option maxRecDepth 20000 in
theorem s_AL_grow2_0 {X : zMa} {mc ms : Nat} {Rt : Option zAV → zMp → Prop} (hC : zCx X RJx4a65c cJx4a65c_grow_d5877 4 107 mc ms (some (.array (.object "java/lang/Object"))) false Rt) : zLe (B_AL_grow2_0 mc ms Rt (zG X)) (zG X 0) :=
  (sd_al_n hC rfl dJx4a65c_grow_d5877_0 ((sd_al_n hC rfl dJx4a65c_grow_d5877_1 ((sd_gf hC (ci := 0) (fk := 2) rfl wi_AL (by decide) fl_AL_48 (Or.inl rfl) dJx4a65c_grow_d5877_2 ((sd_iconst hC (by decide) dJx4a65c_grow_d5877_5 ((sd_iadd hC dJx4a65c_grow_d5877_6 ((sd_cV hC c_AL_grow yv_AL_grow (ci := 0) rfl rfl ml_AL_69 (by decide) (by decide) dJx4a65c_grow_d5877_7 ((sd_aret hC (Or.inr ⟨_, rfl⟩) dJx4a65c_grow_d5877_10)))))))))))))
theorem c_AL_grow2 (l : Launch) : zCT l yJx4a65c_grow_d5877 cJx4a65c_grow_d5877 1 (some (.array (.object "java/lang/Object"))) 4 107 T_AL_grow2 co_AL_grow2 := by
  intro As M Rt hT
  obtain ⟨a, c, d, n, f, d', rfl, ha, h1, h2, h3, h4, hE, h5, h6, h7, hR⟩ := hT
  refine zMet_of false (by decide +kernel) (fun h => by first | rfl | cases h) (Nat.le_of_ble_eq_true rfl) (fun X hN hC => ?_)
  show zG X 0 [some (.inr a)] [] M 0 0
  refine s_AL_grow2_0 hC _ _ _ _ _ ?_
  simp only [B_AL_grow2_0, co_AL_grow, co_AL_grow2, i_ic, i_lc, i_nul, i_il, i_ll, i_al, i_is, i_as, i_ls, i_inc, i_iadd, i_isub, i_imul, i_iand, i_ior, i_ixor, i_idiv, i_irem, i_ishl, i_ishr, i_ladd, i_lsub, i_land, i_lor, i_i2l, i_lushr, i_lshl, i_lshr, i_lcmp, i_dup, i_pop, i_dx1, i_dup2, i_ifeq, i_ifne, i_iflt, i_ifge, i_ifgt, i_ifle, i_iceq, i_icne, i_iclt, i_icge, i_icgt, i_icle, i_ifn, i_gf, i_pf, i_ial, i_bal, i_lal, i_aal, i_ias, i_las, i_bas, i_aas, i_alen, i_newa, i_new, i_anew, i_cast, i_oi, i_call, i_callV, i_callV2, i_callI, i_iret, i_zret, i_lret, i_vret, i_aret, i_mmx, i_mmn, i_gsE, i_aceq, i_no, i_acq, i_sw, zsw, zlg, zls, znl, zfg, zcs, zsp, zrc, zisn, zft, zc1, zto, Value.category, List.set_cons_zero, List.set_cons_succ, List.length_cons, List.length_nil, Option.toList, List.nil_append, List.cons_append, true_and, and_true, Nat.add_zero, Nat.zero_le, Nat.zero_add, Nat.le_refl, Nat.reduceAdd, Nat.reduceLeDiff, co0, z0, zn_0, zn_1, zn_2, zn_3, zn_4, zn_5, zn_8, zn_12, zn_24, zn_121, zn_144, zn_256, zn_300, zn_600, zn_720, zn_1204, zn_1280, zn_2400, zn_4816, zn_14400, zn_90000, h1]
  rw [nI_1]
  refine ⟨a, c, d, n, f, d', rfl, ha, h1, h2, h3, h4, hE, h5, h6, h7, ?_⟩
  simp only [i_ic, i_lc, i_nul, i_il, i_ll, i_al, i_is, i_as, i_ls, i_inc, i_iadd, i_isub, i_imul, i_iand, i_ior, i_ixor, i_idiv, i_irem, i_ishl, i_ishr, i_ladd, i_lsub, i_land, i_lor, i_i2l, i_lushr, i_lshl, i_lshr, i_lcmp, i_dup, i_pop, i_dx1, i_dup2, i_ifeq, i_ifne, i_iflt, i_ifge, i_ifgt, i_ifle, i_iceq, i_icne, i_iclt, i_icge, i_icgt, i_icle, i_ifn, i_gf, i_pf, i_ial, i_bal, i_lal, i_aal, i_ias, i_las, i_bas, i_aas, i_alen, i_newa, i_new, i_anew, i_cast, i_oi, i_call, i_callV, i_callV2, i_callI, i_iret, i_zret, i_lret, i_vret, i_aret, i_mmx, i_mmn, i_gsE, i_aceq, i_no, i_acq, i_sw, zsw, zlg, zls, znl, zfg, zcs, zsp, zrc, zisn, zft, zc1, zto, Value.category, List.set_cons_zero, List.set_cons_succ, List.length_cons, List.length_nil, Option.toList, List.nil_append, List.cons_append, true_and, and_true, Nat.add_zero, Nat.zero_le, Nat.zero_add, Nat.le_refl, Nat.reduceAdd, Nat.reduceLeDiff, co0, z0, zn_0, zn_1, zn_2, zn_3, zn_4, zn_5, zn_8, zn_12, zn_24, zn_121, zn_144, zn_256, zn_300, zn_600, zn_720, zn_1204, zn_1280, zn_2400, zn_4816, zn_14400, zn_90000]
  exact hR
/-- add(E, Object[], int) -/
def al_put (M : zMp) (a d e : zNm) (c : Int32) (n cap : Nat) (f : Nat → Option zNm) (Rt : Option zAV → zMp → Prop) (v : Option zAV) : Prop :=
  (n < cap ∧ zmo d ∧ Rt v (zup (zup M d (zoa cap (va_up f n (some e)))) a (zal c d (n + 1)))) ∨
  (n = cap ∧ (n = 0 → d = znE) ∧ ∃ d', M d' = none ∧ zmo d' ∧ (∀ i, i < n → ∀ y, f i = some y → zok M sOb (.inr y)) ∧ Rt v (zup (zup M d' (zoa (al_cap n) (va_up (va_cpy f (fun _ => none) 0 0 n) n (some e)))) a (zal c d' (n + 1))))
def T_AL_add (As : List zAV) (M : zMp) (Rt : Option zAV → zMp → Prop) : Prop := ∃ a e c d n cap f, As = [.inr a, .inr e, .inr d, .inl (.int (nI n))] ∧ zmo a ∧ M a = some (zal c d n) ∧ M d = some (zoa cap f) ∧ cap ≤ 1000 ∧ n ≤ 600 ∧ M znE ≠ none ∧ zok M sOb (.inr e) ∧ al_put M a d e c n cap f Rt none
def co_AL_add : List zAV → zMp → Nat × Nat := fun _ _ => (1, 1000)
theorem dJx4a65c_add_72be8_0 : decode cJx4a65c_add_72be8 0 = .ok (.iload_n 3, 1) := by decide +kernel
theorem dJx4a65c_add_72be8_1 : decode cJx4a65c_add_72be8 1 = .ok (.aload_n 2, 1) := by decide +kernel
theorem dJx4a65c_add_72be8_2 : decode cJx4a65c_add_72be8 2 = .ok (.arraylength, 1) := by decide +kernel
theorem dJx4a65c_add_72be8_3 : decode cJx4a65c_add_72be8 3 = .ok (.if_icmp .ne 8, 3) := by decide +kernel
theorem dJx4a65c_add_72be8_6 : decode cJx4a65c_add_72be8 6 = .ok (.aload_n 0, 1) := by decide +kernel
theorem dJx4a65c_add_72be8_7 : decode cJx4a65c_add_72be8 7 = .ok (.invokevirtual 129, 3) := by decide +kernel
theorem dJx4a65c_add_72be8_10 : decode cJx4a65c_add_72be8 10 = .ok (.astore_n 2, 1) := by decide +kernel
theorem dJx4a65c_add_72be8_11 : decode cJx4a65c_add_72be8 11 = .ok (.aload_n 2, 1) := by decide +kernel
theorem dJx4a65c_add_72be8_12 : decode cJx4a65c_add_72be8 12 = .ok (.iload_n 3, 1) := by decide +kernel
theorem dJx4a65c_add_72be8_13 : decode cJx4a65c_add_72be8 13 = .ok (.aload_n 1, 1) := by decide +kernel
theorem dJx4a65c_add_72be8_14 : decode cJx4a65c_add_72be8 14 = .ok (.aastore, 1) := by decide +kernel
theorem dJx4a65c_add_72be8_15 : decode cJx4a65c_add_72be8 15 = .ok (.aload_n 0, 1) := by decide +kernel
theorem dJx4a65c_add_72be8_16 : decode cJx4a65c_add_72be8 16 = .ok (.iload_n 3, 1) := by decide +kernel
theorem dJx4a65c_add_72be8_17 : decode cJx4a65c_add_72be8 17 = .ok (.iconst 1, 1) := by decide +kernel
theorem dJx4a65c_add_72be8_18 : decode cJx4a65c_add_72be8 18 = .ok (.iadd, 1) := by decide +kernel
theorem dJx4a65c_add_72be8_19 : decode cJx4a65c_add_72be8 19 = .ok (.putfield 48, 3) := by decide +kernel
theorem dJx4a65c_add_72be8_22 : decode cJx4a65c_add_72be8 22 = .ok (.return_, 1) := by decide +kernel
def B_AL_add_11 (mc ms : Nat) (Rt : Option zAV → zMp → Prop) (g : Nat → zKT) : zKT :=
  (i_al 2 (i_il 3 (i_al 1 (i_aas "java/lang/Object" (i_al 0 (i_il 3 (i_ic 1 (i_iadd (i_pf 0 2 .int (i_vret mc ms Rt))))))))))
set_option maxRecDepth 20000 in
theorem s_AL_add_11 {X : zMa} {mc ms : Nat} {Rt : Option zAV → zMp → Prop} (hC : zCx X RJx4a65c cJx4a65c_add_72be8 5 127 mc ms (none) false Rt) (hN : zNL X = 4) : zLe (B_AL_add_11 mc ms Rt (zG X)) (zG X 11) :=
  (sd_al_n hC rfl dJx4a65c_add_72be8_11 ((sd_il_n hC rfl dJx4a65c_add_72be8_12 ((sd_al_n hC rfl dJx4a65c_add_72be8_13 ((sd_aas hC dJx4a65c_add_72be8_14 ((sd_al_n hC rfl dJx4a65c_add_72be8_15 ((sd_il_n hC rfl dJx4a65c_add_72be8_16 ((sd_iconst hC (by decide) dJx4a65c_add_72be8_17 ((sd_iadd hC dJx4a65c_add_72be8_18 ((sd_pf hC (ci := 0) (fk := 2) rfl wi_AL tyJx4a65c tyJx4a65c_ok nmJx4a65c (by decide) fl_AL_48 (Or.inl rfl) (Or.inl rfl) dJx4a65c_add_72be8_19 ((sd_vret hC dJx4a65c_add_72be8_22)))))))))))))))))))
def B_AL_add_0 (mc ms : Nat) (Rt : Option zAV → zMp → Prop) (g : Nat → zKT) : zKT :=
  (i_il 3 (i_al 2 (i_alen (i_icne (B_AL_add_11 mc ms Rt g) (i_al 0 (i_callV mc ms 0 1 T_AL_grow2 co_AL_grow2 (i_as 2 (B_AL_add_11 mc ms Rt g))))))))
set_option maxRecDepth 20000 in
theorem s_AL_add_0 {X : zMa} {mc ms : Nat} {Rt : Option zAV → zMp → Prop} (hC : zCx X RJx4a65c cJx4a65c_add_72be8 5 127 mc ms (none) false Rt) (hN : zNL X = 4) : zLe (B_AL_add_0 mc ms Rt (zG X)) (zG X 0) :=
  (sd_il_n hC rfl dJx4a65c_add_72be8_0 ((sd_al_n hC rfl dJx4a65c_add_72be8_1 ((sd_alen hC dJx4a65c_add_72be8_2 ((sd_icne hC (tgt := 11) (by decide) dJx4a65c_add_72be8_3 (s_AL_add_11 hC hN) ((sd_al_n hC rfl dJx4a65c_add_72be8_6 ((sd_cV hC c_AL_grow2 yv_AL_grow2 (ci := 0) rfl rfl ml_AL_129 (by decide) (by decide) dJx4a65c_add_72be8_7 ((sd_as_n hC rfl (by rw [hN]; decide) dJx4a65c_add_72be8_10 (s_AL_add_11 hC hN))))))))))))))
theorem c_AL_add (l : Launch) : zCT l yJx4a65c_add_72be8 cJx4a65c_add_72be8 4 (none) 5 127 T_AL_add co_AL_add := by
  intro As M Rt hT
  obtain ⟨a, e, c, d, n, cap, f, rfl, ha, h1, h2, h3, h3', hE, h4, hp⟩ := hT
  refine zMet_of false (by decide +kernel) (fun h => by first | rfl | cases h) (Nat.le_of_ble_eq_true rfl) (fun X hN hC => ?_)
  show zG X 0 [some (.inr a), some (.inr e), some (.inr d), some (.inl (.int (nI n)))] [] M 0 0
  refine s_AL_add_0 hC hN _ _ _ _ _ ?_
  simp only [B_AL_add_0, B_AL_add_11, co_AL_add, co_AL_grow2, i_ic, i_lc, i_nul, i_il, i_ll, i_al, i_is, i_as, i_ls, i_inc, i_iadd, i_isub, i_imul, i_iand, i_ior, i_ixor, i_idiv, i_irem, i_ishl, i_ishr, i_ladd, i_lsub, i_land, i_lor, i_i2l, i_lushr, i_lshl, i_lshr, i_lcmp, i_dup, i_pop, i_dx1, i_dup2, i_ifeq, i_ifne, i_iflt, i_ifge, i_ifgt, i_ifle, i_iceq, i_icne, i_iclt, i_icge, i_icgt, i_icle, i_ifn, i_gf, i_pf, i_ial, i_bal, i_lal, i_aal, i_ias, i_las, i_bas, i_aas, i_alen, i_newa, i_new, i_anew, i_cast, i_oi, i_call, i_callV, i_callV2, i_callI, i_iret, i_zret, i_lret, i_vret, i_aret, i_mmx, i_mmn, i_gsE, i_aceq, i_no, i_acq, i_sw, zsw, zlg, zls, znl, zfg, zcs, zsp, zrc, zisn, zft, zc1, zto, Value.category, List.set_cons_zero, List.set_cons_succ, List.length_cons, List.length_nil, Option.toList, List.nil_append, List.cons_append, true_and, and_true, Nat.add_zero, Nat.zero_le, Nat.zero_add, Nat.le_refl, Nat.reduceAdd, Nat.reduceLeDiff, co0, z0, zn_0, zn_1, zn_2, zn_3, zn_4, zn_5, zn_8, zn_12, zn_24, zn_121, zn_144, zn_256, zn_300, zn_600, zn_720, zn_1204, zn_1280, zn_2400, zn_4816, zn_14400, zn_90000, h2]
  rw [nI_eq (by omega) (by omega)]
  rcases hp with ⟨hlt, hd, hR⟩ | ⟨heq, h0, d', h5, h6, h7, hR⟩
  · have hda : a ≠ d := zdf h1 h2 (by simp)
    refine ⟨fun _ => ⟨hd, vp_in_nI hlt (by omega), h4, ?_⟩, fun h => absurd h (by omega)⟩
    rw [nI_clamp (by omega), nI_1]
    simp only [zup_o hda, h1, i_ic, i_lc, i_nul, i_il, i_ll, i_al, i_is, i_as, i_ls, i_inc, i_iadd, i_isub, i_imul, i_iand, i_ior, i_ixor, i_idiv, i_irem, i_ishl, i_ishr, i_ladd, i_lsub, i_land, i_lor, i_i2l, i_lushr, i_lshl, i_lshr, i_lcmp, i_dup, i_pop, i_dx1, i_dup2, i_ifeq, i_ifne, i_iflt, i_ifge, i_ifgt, i_ifle, i_iceq, i_icne, i_iclt, i_icge, i_icgt, i_icle, i_ifn, i_gf, i_pf, i_ial, i_bal, i_lal, i_aal, i_ias, i_las, i_bas, i_aas, i_alen, i_newa, i_new, i_anew, i_cast, i_oi, i_call, i_callV, i_callV2, i_callI, i_iret, i_zret, i_lret, i_vret, i_aret, i_mmx, i_mmn, i_gsE, i_aceq, i_no, i_acq, i_sw, zsw, zlg, zls, znl, zfg, zcs, zsp, zrc, zisn, zft, zc1, zto, Value.category, List.set_cons_zero, List.set_cons_succ, List.length_cons, List.length_nil, Option.toList, List.nil_append, List.cons_append, true_and, and_true, Nat.add_zero, Nat.zero_le, Nat.zero_add, Nat.le_refl, Nat.reduceAdd, Nat.reduceLeDiff, co0, z0, zn_0, zn_1, zn_2, zn_3, zn_4, zn_5, zn_8, zn_12, zn_24, zn_121, zn_144, zn_256, zn_300, zn_600, zn_720, zn_1204, zn_1280, zn_2400, zn_4816, zn_14400, zn_90000]
    exact ⟨ha, by decide, hR⟩
  · subst heq
    obtain ⟨hc1, hc2⟩ := al_cap_b h3'
    have hda : a ≠ d' := fun q => by rw [q, h5] at h1; cases h1
    refine ⟨fun h => absurd rfl h, fun _ => ?_⟩
    simp only [h1, i_ic, i_lc, i_nul, i_il, i_ll, i_al, i_is, i_as, i_ls, i_inc, i_iadd, i_isub, i_imul, i_iand, i_ior, i_ixor, i_idiv, i_irem, i_ishl, i_ishr, i_ladd, i_lsub, i_land, i_lor, i_i2l, i_lushr, i_lshl, i_lshr, i_lcmp, i_dup, i_pop, i_dx1, i_dup2, i_ifeq, i_ifne, i_iflt, i_ifge, i_ifgt, i_ifle, i_iceq, i_icne, i_iclt, i_icge, i_icgt, i_icle, i_ifn, i_gf, i_pf, i_ial, i_bal, i_lal, i_aal, i_ias, i_las, i_bas, i_aas, i_alen, i_newa, i_new, i_anew, i_cast, i_oi, i_call, i_callV, i_callV2, i_callI, i_iret, i_zret, i_lret, i_vret, i_aret, i_mmx, i_mmn, i_gsE, i_aceq, i_no, i_acq, i_sw, zsw, zlg, zls, znl, zfg, zcs, zsp, zrc, zisn, zft, zc1, zto, Value.category, List.set_cons_zero, List.set_cons_succ, List.length_cons, List.length_nil, Option.toList, List.nil_append, List.cons_append, true_and, and_true, Nat.add_zero, Nat.zero_le, Nat.zero_add, Nat.le_refl, Nat.reduceAdd, Nat.reduceLeDiff, co0, z0, zn_0, zn_1, zn_2, zn_3, zn_4, zn_5, zn_8, zn_12, zn_24, zn_121, zn_144, zn_256, zn_300, zn_600, zn_720, zn_1204, zn_1280, zn_2400, zn_4816, zn_14400, zn_90000]
    refine ⟨a, c, d, n, f, d', rfl, ha, h1, h2, h3', h0, hE, h5, h6, h7, ?_⟩
    simp only [zup_s, zup_o (Ne.symm hda), zup_o hda, i_ic, i_lc, i_nul, i_il, i_ll, i_al, i_is, i_as, i_ls, i_inc, i_iadd, i_isub, i_imul, i_iand, i_ior, i_ixor, i_idiv, i_irem, i_ishl, i_ishr, i_ladd, i_lsub, i_land, i_lor, i_i2l, i_lushr, i_lshl, i_lshr, i_lcmp, i_dup, i_pop, i_dx1, i_dup2, i_ifeq, i_ifne, i_iflt, i_ifge, i_ifgt, i_ifle, i_iceq, i_icne, i_iclt, i_icge, i_icgt, i_icle, i_ifn, i_gf, i_pf, i_ial, i_bal, i_lal, i_aal, i_ias, i_las, i_bas, i_aas, i_alen, i_newa, i_new, i_anew, i_cast, i_oi, i_call, i_callV, i_callV2, i_callI, i_iret, i_zret, i_lret, i_vret, i_aret, i_mmx, i_mmn, i_gsE, i_aceq, i_no, i_acq, i_sw, zsw, zlg, zls, znl, zfg, zcs, zsp, zrc, zisn, zft, zc1, zto, Value.category, List.set_cons_zero, List.set_cons_succ, List.length_cons, List.length_nil, Option.toList, List.nil_append, List.cons_append, true_and, and_true, Nat.add_zero, Nat.zero_le, Nat.zero_add, Nat.le_refl, Nat.reduceAdd, Nat.reduceLeDiff, co0, z0, zn_0, zn_1, zn_2, zn_3, zn_4, zn_5, zn_8, zn_12, zn_24, zn_121, zn_144, zn_256, zn_300, zn_600, zn_720, zn_1204, zn_1280, zn_2400, zn_4816, zn_14400, zn_90000]
    have hok : zok (zup (zup M d' (zoa (al_cap n) (va_cpy f (fun _ => none) 0 0 n))) a (zal c d' n)) sOb (.inr e) := by
      have hy : e ≠ d' := fun q => by rw [q] at h4; simp only [zok, h5] at h4
      by_cases hea : e = a
      · subst hea
        simp only [zok, h1] at h4
        simp only [zok, zup_s]
        exact h4
      · simp only [zok, zup_o hea, zup_o hy] at h4 ⊢
        exact h4
    refine ⟨h6, vp_in_nI hc1 (by omega), hok, ?_⟩
    rw [nI_clamp (by omega), nI_1]
    refine ⟨ha, by decide, ?_⟩
    rw [zup_comm (a := a) (b := d') hda, zup_zup, zup_zup]
    exact hR
def T_AL_add2 (As : List zAV) (M : zMp) (Rt : Option zAV → zMp → Prop) : Prop := ∃ a e c d n cap f, As = [.inr a, .inr e] ∧ zmo a ∧ M a = some (zal c d n) ∧ M d = some (zoa cap f) ∧ cap ≤ 1000 ∧ n ≤ 600 ∧ M znE ≠ none ∧ zok M sOb (.inr e) ∧ a ≠ e ∧ al_put M a d e (c + 1) n cap f Rt (some (.inl (.int 1)))
def co_AL_add2 : List zAV → zMp → Nat × Nat := fun _ _ => (1, 1000)
theorem dJx4a65c_add_9ea2d_0 : decode cJx4a65c_add_9ea2d 0 = .ok (.aload_n 0, 1) := by decide +kernel
theorem dJx4a65c_add_9ea2d_1 : decode cJx4a65c_add_9ea2d 1 = .ok (.dup, 1) := by decide +kernel
theorem dJx4a65c_add_9ea2d_2 : decode cJx4a65c_add_9ea2d 2 = .ok (.getfield 63, 3) := by decide +kernel
theorem dJx4a65c_add_9ea2d_5 : decode cJx4a65c_add_9ea2d 5 = .ok (.iconst 1, 1) := by decide +kernel
theorem dJx4a65c_add_9ea2d_6 : decode cJx4a65c_add_9ea2d 6 = .ok (.iadd, 1) := by decide +kernel
theorem dJx4a65c_add_9ea2d_7 : decode cJx4a65c_add_9ea2d 7 = .ok (.putfield 63, 3) := by decide +kernel
theorem dJx4a65c_add_9ea2d_10 : decode cJx4a65c_add_9ea2d 10 = .ok (.aload_n 0, 1) := by decide +kernel
theorem dJx4a65c_add_9ea2d_11 : decode cJx4a65c_add_9ea2d 11 = .ok (.aload_n 1, 1) := by decide +kernel
theorem dJx4a65c_add_9ea2d_12 : decode cJx4a65c_add_9ea2d 12 = .ok (.aload_n 0, 1) := by decide +kernel
theorem dJx4a65c_add_9ea2d_13 : decode cJx4a65c_add_9ea2d 13 = .ok (.getfield 9, 3) := by decide +kernel
theorem dJx4a65c_add_9ea2d_16 : decode cJx4a65c_add_9ea2d 16 = .ok (.aload_n 0, 1) := by decide +kernel
theorem dJx4a65c_add_9ea2d_17 : decode cJx4a65c_add_9ea2d 17 = .ok (.getfield 48, 3) := by decide +kernel
theorem dJx4a65c_add_9ea2d_20 : decode cJx4a65c_add_9ea2d 20 = .ok (.invokevirtual 131, 3) := by decide +kernel
theorem dJx4a65c_add_9ea2d_23 : decode cJx4a65c_add_9ea2d 23 = .ok (.iconst 1, 1) := by decide +kernel
theorem dJx4a65c_add_9ea2d_24 : decode cJx4a65c_add_9ea2d 24 = .ok (.ireturn, 1) := by decide +kernel
def B_AL_add2_0 (mc ms : Nat) (Rt : Option zAV → zMp → Prop) (g : Nat → zKT) : zKT :=
  (i_al 0 (i_dup (i_gf 0 0 (i_ic 1 (i_iadd (i_pf 0 0 .int (i_al 0 (i_al 1 (i_al 0 (i_gf 0 1 (i_al 0 (i_gf 0 2 (i_callV mc ms 0 4 T_AL_add co_AL_add (i_ic 1 (i_zret mc ms Rt)))))))))))))))
set_option maxRecDepth 20000 in
theorem s_AL_add2_0 {X : zMa} {mc ms : Nat} {Rt : Option zAV → zMp → Prop} (hC : zCx X RJx4a65c cJx4a65c_add_9ea2d 6 150 mc ms (some .boolean) false Rt) : zLe (B_AL_add2_0 mc ms Rt (zG X)) (zG X 0) :=
  (sd_al_n hC rfl dJx4a65c_add_9ea2d_0 ((sd_dup hC dJx4a65c_add_9ea2d_1 ((sd_gf hC (ci := 0) (fk := 0) rfl wi_AL (by decide) fl_AL_63 (Or.inr sf_AL_0) dJx4a65c_add_9ea2d_2 ((sd_iconst hC (by decide) dJx4a65c_add_9ea2d_5 ((sd_iadd hC dJx4a65c_add_9ea2d_6 ((sd_pf hC (ci := 0) (fk := 0) rfl wi_AL tyJx4a65c tyJx4a65c_ok nmJx4a65c (by decide) fl_AL_63 (Or.inr sf_AL_0) (Or.inl rfl) dJx4a65c_add_9ea2d_7 ((sd_al_n hC rfl dJx4a65c_add_9ea2d_10 ((sd_al_n hC rfl dJx4a65c_add_9ea2d_11 ((sd_al_n hC rfl dJx4a65c_add_9ea2d_12 ((sd_gf hC (ci := 0) (fk := 1) rfl wi_AL (by decide) fl_AL_9 (Or.inl rfl) dJx4a65c_add_9ea2d_13 ((sd_al_n hC rfl dJx4a65c_add_9ea2d_16 ((sd_gf hC (ci := 0) (fk := 2) rfl wi_AL (by decide) fl_AL_48 (Or.inl rfl) dJx4a65c_add_9ea2d_17 ((sd_cV hC c_AL_add yv_AL_add (ci := 0) rfl rfl ml_AL_131 (by decide) (by decide) dJx4a65c_add_9ea2d_20 ((sd_iconst hC (by decide) dJx4a65c_add_9ea2d_23 ((sd_zret hC dJx4a65c_add_9ea2d_24)))))))))))))))))))))))))))))
theorem zok_put {M : zMp} {a y : zNm} {ci : Nat} {fs fs' : List zAV} {C : String} (ha : M a = some (.inr (ci, fs))) (h : zok M C (.inr y)) : zok (zup M a (.inr (ci, fs'))) C (.inr y) := by
  by_cases hy : y = a
  · subst hy
    simp only [zok, ha] at h
    simp only [zok, zup_s]
    exact h
  · simp only [zok, zup_o hy] at h ⊢
    exact h
theorem c_AL_add2 (l : Launch) : zCT l yJx4a65c_add_9ea2d cJx4a65c_add_9ea2d 2 (some .boolean) 6 150 T_AL_add2 co_AL_add2 := by
  intro As M Rt hT
  obtain ⟨a, e, c, d, n, cap, f, rfl, ha, h1, h2, h3, h3', hE, h4, hae, hp⟩ := hT
  have hda : a ≠ d := zdf h1 h2 (by simp)
  refine zMet_of false (by decide +kernel) (fun h => by first | rfl | cases h) (Nat.le_of_ble_eq_true rfl) (fun X hN hC => ?_)
  show zG X 0 [some (.inr a), some (.inr e)] [] M 0 0
  refine s_AL_add2_0 hC _ _ _ _ _ ?_
  simp only [B_AL_add2_0, co_AL_add, co_AL_add2, i_ic, i_lc, i_nul, i_il, i_ll, i_al, i_is, i_as, i_ls, i_inc, i_iadd, i_isub, i_imul, i_iand, i_ior, i_ixor, i_idiv, i_irem, i_ishl, i_ishr, i_ladd, i_lsub, i_land, i_lor, i_i2l, i_lushr, i_lshl, i_lshr, i_lcmp, i_dup, i_pop, i_dx1, i_dup2, i_ifeq, i_ifne, i_iflt, i_ifge, i_ifgt, i_ifle, i_iceq, i_icne, i_iclt, i_icge, i_icgt, i_icle, i_ifn, i_gf, i_pf, i_ial, i_bal, i_lal, i_aal, i_ias, i_las, i_bas, i_aas, i_alen, i_newa, i_new, i_anew, i_cast, i_oi, i_call, i_callV, i_callV2, i_callI, i_iret, i_zret, i_lret, i_vret, i_aret, i_mmx, i_mmn, i_gsE, i_aceq, i_no, i_acq, i_sw, zsw, zlg, zls, znl, zfg, zcs, zsp, zrc, zisn, zft, zc1, zto, Value.category, List.set_cons_zero, List.set_cons_succ, List.length_cons, List.length_nil, Option.toList, List.nil_append, List.cons_append, true_and, and_true, Nat.add_zero, Nat.zero_le, Nat.zero_add, Nat.le_refl, Nat.reduceAdd, Nat.reduceLeDiff, co0, z0, zn_0, zn_1, zn_2, zn_3, zn_4, zn_5, zn_8, zn_12, zn_24, zn_121, zn_144, zn_256, zn_300, zn_600, zn_720, zn_1204, zn_1280, zn_2400, zn_4816, zn_14400, zn_90000, h1, zup_s]
  refine ⟨ha, by decide, a, e, c + 1, d, n, cap, f, rfl, ha, zup_s, by rw [zup_o (Ne.symm hda)]; exact h2, h3, h3', ?_, zok_put h1 h4, ?_⟩
  · exact zup_ne hE
  · rcases hp with ⟨hlt, hd, hR⟩ | ⟨heq, h0, d', h5, h6, h7, hR⟩
    · refine Or.inl ⟨hlt, hd, ?_⟩
      simp only [i_ic, i_lc, i_nul, i_il, i_ll, i_al, i_is, i_as, i_ls, i_inc, i_iadd, i_isub, i_imul, i_iand, i_ior, i_ixor, i_idiv, i_irem, i_ishl, i_ishr, i_ladd, i_lsub, i_land, i_lor, i_i2l, i_lushr, i_lshl, i_lshr, i_lcmp, i_dup, i_pop, i_dx1, i_dup2, i_ifeq, i_ifne, i_iflt, i_ifge, i_ifgt, i_ifle, i_iceq, i_icne, i_iclt, i_icge, i_icgt, i_icle, i_ifn, i_gf, i_pf, i_ial, i_bal, i_lal, i_aal, i_ias, i_las, i_bas, i_aas, i_alen, i_newa, i_new, i_anew, i_cast, i_oi, i_call, i_callV, i_callV2, i_callI, i_iret, i_zret, i_lret, i_vret, i_aret, i_mmx, i_mmn, i_gsE, i_aceq, i_no, i_acq, i_sw, zsw, zlg, zls, znl, zfg, zcs, zsp, zrc, zisn, zft, zc1, zto, Value.category, List.set_cons_zero, List.set_cons_succ, List.length_cons, List.length_nil, Option.toList, List.nil_append, List.cons_append, true_and, and_true, Nat.add_zero, Nat.zero_le, Nat.zero_add, Nat.le_refl, Nat.reduceAdd, Nat.reduceLeDiff, co0, z0, zn_0, zn_1, zn_2, zn_3, zn_4, zn_5, zn_8, zn_12, zn_24, zn_121, zn_144, zn_256, zn_300, zn_600, zn_720, zn_1204, zn_1280, zn_2400, zn_4816, zn_14400, zn_90000]
      rw [zup_comm (a := a) (b := d) hda, zup_zup]
      exact ⟨by decide, hR⟩
    · have hda' : a ≠ d' := fun q => by rw [q, h5] at h1; cases h1
      refine Or.inr ⟨heq, h0, d', by rw [zup_o (Ne.symm hda')]; exact h5, h6, fun i hi y hy => zok_put h1 (h7 i hi y hy), ?_⟩
      simp only [i_ic, i_lc, i_nul, i_il, i_ll, i_al, i_is, i_as, i_ls, i_inc, i_iadd, i_isub, i_imul, i_iand, i_ior, i_ixor, i_idiv, i_irem, i_ishl, i_ishr, i_ladd, i_lsub, i_land, i_lor, i_i2l, i_lushr, i_lshl, i_lshr, i_lcmp, i_dup, i_pop, i_dx1, i_dup2, i_ifeq, i_ifne, i_iflt, i_ifge, i_ifgt, i_ifle, i_iceq, i_icne, i_iclt, i_icge, i_icgt, i_icle, i_ifn, i_gf, i_pf, i_ial, i_bal, i_lal, i_aal, i_ias, i_las, i_bas, i_aas, i_alen, i_newa, i_new, i_anew, i_cast, i_oi, i_call, i_callV, i_callV2, i_callI, i_iret, i_zret, i_lret, i_vret, i_aret, i_mmx, i_mmn, i_gsE, i_aceq, i_no, i_acq, i_sw, zsw, zlg, zls, znl, zfg, zcs, zsp, zrc, zisn, zft, zc1, zto, Value.category, List.set_cons_zero, List.set_cons_succ, List.length_cons, List.length_nil, Option.toList, List.nil_append, List.cons_append, true_and, and_true, Nat.add_zero, Nat.zero_le, Nat.zero_add, Nat.le_refl, Nat.reduceAdd, Nat.reduceLeDiff, co0, z0, zn_0, zn_1, zn_2, zn_3, zn_4, zn_5, zn_8, zn_12, zn_24, zn_121, zn_144, zn_256, zn_300, zn_600, zn_720, zn_1204, zn_1280, zn_2400, zn_4816, zn_14400, zn_90000]
      rw [zup_comm (a := a) (b := d') hda', zup_zup]
      exact ⟨by decide, hR⟩
/-- the last one is taken away -/
def T_AL_fastRemove (As : List zAV) (M : zMp) (Rt : Option zAV → zMp → Prop) : Prop := ∃ a c d n cap f, As = [.inr a, .inr d, .inl (.int (nI n))] ∧ zmo a ∧ zmo d ∧ M a = some (zal c d (n + 1)) ∧ M d = some (zoa cap f) ∧ n < cap ∧ cap ≤ 1000 ∧ Rt none (zup (zup M a (zal (c + 1) d n)) d (zoa cap (va_up f n none)))
abbrev co_AL_fastRemove := co0
theorem dJx4a65c_fastRemove_b59b0_0 : decode cJx4a65c_fastRemove_b59b0 0 = .ok (.aload_n 0, 1) := by decide +kernel
theorem dJx4a65c_fastRemove_b59b0_1 : decode cJx4a65c_fastRemove_b59b0 1 = .ok (.dup, 1) := by decide +kernel
theorem dJx4a65c_fastRemove_b59b0_2 : decode cJx4a65c_fastRemove_b59b0 2 = .ok (.getfield 63, 3) := by decide +kernel
theorem dJx4a65c_fastRemove_b59b0_5 : decode cJx4a65c_fastRemove_b59b0 5 = .ok (.iconst 1, 1) := by decide +kernel
theorem dJx4a65c_fastRemove_b59b0_6 : decode cJx4a65c_fastRemove_b59b0 6 = .ok (.iadd, 1) := by decide +kernel
theorem dJx4a65c_fastRemove_b59b0_7 : decode cJx4a65c_fastRemove_b59b0 7 = .ok (.putfield 63, 3) := by decide +kernel
theorem dJx4a65c_fastRemove_b59b0_10 : decode cJx4a65c_fastRemove_b59b0 10 = .ok (.aload_n 0, 1) := by decide +kernel
theorem dJx4a65c_fastRemove_b59b0_11 : decode cJx4a65c_fastRemove_b59b0 11 = .ok (.getfield 48, 3) := by decide +kernel
theorem dJx4a65c_fastRemove_b59b0_14 : decode cJx4a65c_fastRemove_b59b0 14 = .ok (.iconst 1, 1) := by decide +kernel
theorem dJx4a65c_fastRemove_b59b0_15 : decode cJx4a65c_fastRemove_b59b0 15 = .ok (.isub, 1) := by decide +kernel
theorem dJx4a65c_fastRemove_b59b0_16 : decode cJx4a65c_fastRemove_b59b0 16 = .ok (.dup, 1) := by decide +kernel
theorem dJx4a65c_fastRemove_b59b0_17 : decode cJx4a65c_fastRemove_b59b0 17 = .ok (.istore_n 3, 1) := by decide +kernel
theorem dJx4a65c_fastRemove_b59b0_18 : decode cJx4a65c_fastRemove_b59b0 18 = .ok (.iload_n 2, 1) := by decide +kernel
theorem dJx4a65c_fastRemove_b59b0_19 : decode cJx4a65c_fastRemove_b59b0 19 = .ok (.if_icmp .le 15, 3) := by decide +kernel
theorem dJx4a65c_fastRemove_b59b0_22 : decode cJx4a65c_fastRemove_b59b0 22 = .ok (.aload_n 1, 1) := by decide +kernel
theorem dJx4a65c_fastRemove_b59b0_23 : decode cJx4a65c_fastRemove_b59b0 23 = .ok (.iload_n 2, 1) := by decide +kernel
theorem dJx4a65c_fastRemove_b59b0_24 : decode cJx4a65c_fastRemove_b59b0 24 = .ok (.iconst 1, 1) := by decide +kernel
theorem dJx4a65c_fastRemove_b59b0_25 : decode cJx4a65c_fastRemove_b59b0 25 = .ok (.iadd, 1) := by decide +kernel
theorem dJx4a65c_fastRemove_b59b0_26 : decode cJx4a65c_fastRemove_b59b0 26 = .ok (.aload_n 1, 1) := by decide +kernel
theorem dJx4a65c_fastRemove_b59b0_27 : decode cJx4a65c_fastRemove_b59b0 27 = .ok (.iload_n 2, 1) := by decide +kernel
theorem dJx4a65c_fastRemove_b59b0_28 : decode cJx4a65c_fastRemove_b59b0 28 = .ok (.iload_n 3, 1) := by decide +kernel
theorem dJx4a65c_fastRemove_b59b0_29 : decode cJx4a65c_fastRemove_b59b0 29 = .ok (.iload_n 2, 1) := by decide +kernel
theorem dJx4a65c_fastRemove_b59b0_30 : decode cJx4a65c_fastRemove_b59b0 30 = .ok (.isub, 1) := by decide +kernel
theorem dJx4a65c_fastRemove_b59b0_31 : decode cJx4a65c_fastRemove_b59b0 31 = .ok (.invokestatic 112, 3) := by decide +kernel
theorem dJx4a65c_fastRemove_b59b0_34 : decode cJx4a65c_fastRemove_b59b0 34 = .ok (.aload_n 1, 1) := by decide +kernel
theorem dJx4a65c_fastRemove_b59b0_35 : decode cJx4a65c_fastRemove_b59b0 35 = .ok (.aload_n 0, 1) := by decide +kernel
theorem dJx4a65c_fastRemove_b59b0_36 : decode cJx4a65c_fastRemove_b59b0 36 = .ok (.iload_n 3, 1) := by decide +kernel
theorem dJx4a65c_fastRemove_b59b0_37 : decode cJx4a65c_fastRemove_b59b0 37 = .ok (.dup_x1, 1) := by decide +kernel
theorem dJx4a65c_fastRemove_b59b0_38 : decode cJx4a65c_fastRemove_b59b0 38 = .ok (.putfield 48, 3) := by decide +kernel
theorem dJx4a65c_fastRemove_b59b0_41 : decode cJx4a65c_fastRemove_b59b0 41 = .ok (.aconst_null, 1) := by decide +kernel
theorem dJx4a65c_fastRemove_b59b0_42 : decode cJx4a65c_fastRemove_b59b0 42 = .ok (.aastore, 1) := by decide +kernel
theorem dJx4a65c_fastRemove_b59b0_43 : decode cJx4a65c_fastRemove_b59b0 43 = .ok (.return_, 1) := by decide +kernel
def B_AL_fastRemove_34 (mc ms : Nat) (Rt : Option zAV → zMp → Prop) (g : Nat → zKT) : zKT :=
  (i_al 1 (i_al 0 (i_il 3 (i_dx1 (i_pf 0 2 .int (i_nul (i_aas "java/lang/Object" (i_vret mc ms Rt))))))))
set_option maxRecDepth 20000 in
theorem s_AL_fastRemove_34 {X : zMa} {mc ms : Nat} {Rt : Option zAV → zMp → Prop} (hC : zCx X RJx4a65c cJx4a65c_fastRemove_b59b0 1 40 mc ms (none) false Rt) (hN : zNL X = 4) : zLe (B_AL_fastRemove_34 mc ms Rt (zG X)) (zG X 34) :=
  (sd_al_n hC rfl dJx4a65c_fastRemove_b59b0_34 ((sd_al_n hC rfl dJx4a65c_fastRemove_b59b0_35 ((sd_il_n hC rfl dJx4a65c_fastRemove_b59b0_36 ((sd_dx1 hC dJx4a65c_fastRemove_b59b0_37 ((sd_pf hC (ci := 0) (fk := 2) rfl wi_AL tyJx4a65c tyJx4a65c_ok nmJx4a65c (by decide) fl_AL_48 (Or.inl rfl) (Or.inl rfl) dJx4a65c_fastRemove_b59b0_38 ((sd_nul hC dJx4a65c_fastRemove_b59b0_41 ((sd_aas hC dJx4a65c_fastRemove_b59b0_42 ((sd_vret hC dJx4a65c_fastRemove_b59b0_43)))))))))))))))
def B_AL_fastRemove_0 (mc ms : Nat) (Rt : Option zAV → zMp → Prop) (g : Nat → zKT) : zKT :=
  (i_al 0 (i_dup (i_gf 0 0 (i_ic 1 (i_iadd (i_pf 0 0 .int (i_al 0 (i_gf 0 2 (i_ic 1 (i_isub (i_dup (i_is 3 (i_il 2 (i_icle (B_AL_fastRemove_34 mc ms Rt g) (i_al 1 (i_il 2 (i_ic 1 (i_iadd (i_al 1 (i_il 2 (i_il 3 (i_il 2 (i_isub (i_acq (B_AL_fastRemove_34 mc ms Rt g)))))))))))))))))))))))))
set_option maxRecDepth 20000 in
theorem s_AL_fastRemove_0 {X : zMa} {mc ms : Nat} {Rt : Option zAV → zMp → Prop} (hC : zCx X RJx4a65c cJx4a65c_fastRemove_b59b0 1 40 mc ms (none) false Rt) (hN : zNL X = 4) : zLe (B_AL_fastRemove_0 mc ms Rt (zG X)) (zG X 0) :=
  (sd_al_n hC rfl dJx4a65c_fastRemove_b59b0_0 ((sd_dup hC dJx4a65c_fastRemove_b59b0_1 ((sd_gf hC (ci := 0) (fk := 0) rfl wi_AL (by decide) fl_AL_63 (Or.inr sf_AL_0) dJx4a65c_fastRemove_b59b0_2 ((sd_iconst hC (by decide) dJx4a65c_fastRemove_b59b0_5 ((sd_iadd hC dJx4a65c_fastRemove_b59b0_6 ((sd_pf hC (ci := 0) (fk := 0) rfl wi_AL tyJx4a65c tyJx4a65c_ok nmJx4a65c (by decide) fl_AL_63 (Or.inr sf_AL_0) (Or.inl rfl) dJx4a65c_fastRemove_b59b0_7 ((sd_al_n hC rfl dJx4a65c_fastRemove_b59b0_10 ((sd_gf hC (ci := 0) (fk := 2) rfl wi_AL (by decide) fl_AL_48 (Or.inl rfl) dJx4a65c_fastRemove_b59b0_11 ((sd_iconst hC (by decide) dJx4a65c_fastRemove_b59b0_14 ((sd_isub hC dJx4a65c_fastRemove_b59b0_15 ((sd_dup hC dJx4a65c_fastRemove_b59b0_16 ((sd_is_n hC rfl (by rw [hN]; decide) dJx4a65c_fastRemove_b59b0_17 ((sd_il_n hC rfl dJx4a65c_fastRemove_b59b0_18 ((sd_icle hC (tgt := 34) (by decide) dJx4a65c_fastRemove_b59b0_19 (s_AL_fastRemove_34 hC hN) ((sd_al_n hC rfl dJx4a65c_fastRemove_b59b0_22 ((sd_il_n hC rfl dJx4a65c_fastRemove_b59b0_23 ((sd_iconst hC (by decide) dJx4a65c_fastRemove_b59b0_24 ((sd_iadd hC dJx4a65c_fastRemove_b59b0_25 ((sd_al_n hC rfl dJx4a65c_fastRemove_b59b0_26 ((sd_il_n hC rfl dJx4a65c_fastRemove_b59b0_27 ((sd_il_n hC rfl dJx4a65c_fastRemove_b59b0_28 ((sd_il_n hC rfl dJx4a65c_fastRemove_b59b0_29 ((sd_isub hC dJx4a65c_fastRemove_b59b0_30 ((sd_acq hC ml_AL_112 (by decide) (by decide) dJx4a65c_fastRemove_b59b0_31 (s_AL_fastRemove_34 hC hN))))))))))))))))))))))))))))))))))))))))))))))))
theorem c_AL_fastRemove (l : Launch) : zCT l yJx4a65c_fastRemove_b59b0 cJx4a65c_fastRemove_b59b0 4 (none) 1 40 T_AL_fastRemove co_AL_fastRemove := by
  intro As M Rt hT
  obtain ⟨a, c, d, n, cap, f, rfl, ha, hd, h1, h2, h3, h4, hR⟩ := hT
  have hda : a ≠ d := zdf h1 h2 (by simp)
  refine zMet_of false (by decide +kernel) (fun h => by first | rfl | cases h) (Nat.le_of_ble_eq_true rfl) (fun X hN hC => ?_)
  show zG X 0 [some (.inr a), some (.inr d), some (.inl (.int (nI n))), none] [] M 0 0
  refine s_AL_fastRemove_0 hC hN _ _ _ _ _ ?_
  simp only [B_AL_fastRemove_0, B_AL_fastRemove_34, co_AL_fastRemove, i_ic, i_lc, i_nul, i_il, i_ll, i_al, i_is, i_as, i_ls, i_inc, i_iadd, i_isub, i_imul, i_iand, i_ior, i_ixor, i_idiv, i_irem, i_ishl, i_ishr, i_ladd, i_lsub, i_land, i_lor, i_i2l, i_lushr, i_lshl, i_lshr, i_lcmp, i_dup, i_pop, i_dx1, i_dup2, i_ifeq, i_ifne, i_iflt, i_ifge, i_ifgt, i_ifle, i_iceq, i_icne, i_iclt, i_icge, i_icgt, i_icle, i_ifn, i_gf, i_pf, i_ial, i_bal, i_lal, i_aal, i_ias, i_las, i_bas, i_aas, i_alen, i_newa, i_new, i_anew, i_cast, i_oi, i_call, i_callV, i_callV2, i_callI, i_iret, i_zret, i_lret, i_vret, i_aret, i_mmx, i_mmn, i_gsE, i_aceq, i_no, i_acq, i_sw, zsw, zlg, zls, znl, zfg, zcs, zsp, zrc, zisn, zft, zc1, zto, Value.category, List.set_cons_zero, List.set_cons_succ, List.length_cons, List.length_nil, Option.toList, List.nil_append, List.cons_append, true_and, and_true, Nat.add_zero, Nat.zero_le, Nat.zero_add, Nat.le_refl, Nat.reduceAdd, Nat.reduceLeDiff, co0, z0, zn_0, zn_1, zn_2, zn_3, zn_4, zn_5, zn_8, zn_12, zn_24, zn_121, zn_144, zn_256, zn_300, zn_600, zn_720, zn_1204, zn_1280, zn_2400, zn_4816, zn_14400, zn_90000, h1, h2, zup_s, zup_zup, zup_o (Ne.symm hda), zok]
  rw [nI_pred]
  refine ⟨ha, by decide, fun _ => ⟨ha, by decide, hd, vp_in_nI h3 (by omega), ?_⟩, fun h => absurd (nI_le (Nat.le_refl n) (by omega)) h⟩
  rw [nI_clamp (by omega)]
  exact hR
def T_AL_remove (As : List zAV) (M : zMp) (Rt : Option zAV → zMp → Prop) : Prop := ∃ a c d n cap f y, As = [.inr a, .inl (.int (nI n))] ∧ zmo a ∧ zmo d ∧ M a = some (zal c d (n + 1)) ∧ M d = some (zoa cap f) ∧ n < cap ∧ cap ≤ 1000 ∧ f n = some y ∧ Rt (some (.inr y)) (zup (zup M a (zal (c + 1) d n)) d (zoa cap (va_up f n none)))
abbrev co_AL_remove := co0
theorem dJx4a65c_remove_915e3_0 : decode cJx4a65c_remove_915e3 0 = .ok (.iload_n 1, 1) := by decide +kernel
theorem dJx4a65c_remove_915e3_1 : decode cJx4a65c_remove_915e3 1 = .ok (.aload_n 0, 1) := by decide +kernel
theorem dJx4a65c_remove_915e3_2 : decode cJx4a65c_remove_915e3 2 = .ok (.getfield 48, 3) := by decide +kernel
theorem dJx4a65c_remove_915e3_5 : decode cJx4a65c_remove_915e3 5 = .ok (.invokestatic 118, 3) := by decide +kernel
theorem dJx4a65c_remove_915e3_8 : decode cJx4a65c_remove_915e3 8 = .ok (.pop, 1) := by decide +kernel
theorem dJx4a65c_remove_915e3_9 : decode cJx4a65c_remove_915e3 9 = .ok (.aload_n 0, 1) := by decide +kernel
theorem dJx4a65c_remove_915e3_10 : decode cJx4a65c_remove_915e3 10 = .ok (.getfield 9, 3) := by decide +kernel
theorem dJx4a65c_remove_915e3_13 : decode cJx4a65c_remove_915e3 13 = .ok (.astore_n 2, 1) := by decide +kernel
theorem dJx4a65c_remove_915e3_14 : decode cJx4a65c_remove_915e3 14 = .ok (.aload_n 2, 1) := by decide +kernel
theorem dJx4a65c_remove_915e3_15 : decode cJx4a65c_remove_915e3 15 = .ok (.iload_n 1, 1) := by decide +kernel
theorem dJx4a65c_remove_915e3_16 : decode cJx4a65c_remove_915e3 16 = .ok (.aaload, 1) := by decide +kernel
theorem dJx4a65c_remove_915e3_17 : decode cJx4a65c_remove_915e3 17 = .ok (.astore_n 3, 1) := by decide +kernel
theorem dJx4a65c_remove_915e3_18 : decode cJx4a65c_remove_915e3 18 = .ok (.aload_n 0, 1) := by decide +kernel
theorem dJx4a65c_remove_915e3_19 : decode cJx4a65c_remove_915e3 19 = .ok (.aload_n 2, 1) := by decide +kernel
theorem dJx4a65c_remove_915e3_20 : decode cJx4a65c_remove_915e3 20 = .ok (.iload_n 1, 1) := by decide +kernel
theorem dJx4a65c_remove_915e3_21 : decode cJx4a65c_remove_915e3 21 = .ok (.invokevirtual 144, 3) := by decide +kernel
theorem dJx4a65c_remove_915e3_24 : decode cJx4a65c_remove_915e3 24 = .ok (.aload_n 3, 1) := by decide +kernel
theorem dJx4a65c_remove_915e3_25 : decode cJx4a65c_remove_915e3 25 = .ok (.areturn, 1) := by decide +kernel
def B_AL_remove_0 (mc ms : Nat) (Rt : Option zAV → zMp → Prop) (g : Nat → zKT) : zKT :=
  (i_il 1 (i_al 0 (i_gf 0 2 (i_call mc ms 2 T_Objs_checkIndex co_Objs_checkIndex (i_pop (i_al 0 (i_gf 0 1 (i_as 2 (i_al 2 (i_il 1 (i_aal "java/lang/Object" (i_as 3 (i_al 0 (i_al 2 (i_il 1 (i_callV mc ms 0 3 T_AL_fastRemove co_AL_fastRemove (i_al 3 (i_aret mc ms Rt))))))))))))))))))
set_option maxRecDepth 20000 in
theorem s_AL_remove_0 {X : zMa} {mc ms : Nat} {Rt : Option zAV → zMp → Prop} (hC : zCx X RJx4a65c cJx4a65c_remove_915e3 2 63 mc ms (some (.object "java/lang/Object")) false Rt) (hN : zNL X = 4) : zLe (B_AL_remove_0 mc ms Rt (zG X)) (zG X 0) :=
  (sd_il_n hC rfl dJx4a65c_remove_915e3_0 ((sd_al_n hC rfl dJx4a65c_remove_915e3_1 ((sd_gf hC (ci := 0) (fk := 2) rfl wi_AL (by decide) fl_AL_48 (Or.inl rfl) dJx4a65c_remove_915e3_2 ((sd_cS hC c_Objs_checkIndex ys_Objs_checkIndex ml_AL_118 (by decide) (by decide) dJx4a65c_remove_915e3_5 ((sd_pop hC dJx4a65c_remove_915e3_8 ((sd_al_n hC rfl dJx4a65c_remove_915e3_9 ((sd_gf hC (ci := 0) (fk := 1) rfl wi_AL (by decide) fl_AL_9 (Or.inl rfl) dJx4a65c_remove_915e3_10 ((sd_as_n hC rfl (by rw [hN]; decide) dJx4a65c_remove_915e3_13 ((sd_al_n hC rfl dJx4a65c_remove_915e3_14 ((sd_il_n hC rfl dJx4a65c_remove_915e3_15 ((sd_aal hC dJx4a65c_remove_915e3_16 ((sd_as_n hC rfl (by rw [hN]; decide) dJx4a65c_remove_915e3_17 ((sd_al_n hC rfl dJx4a65c_remove_915e3_18 ((sd_al_n hC rfl dJx4a65c_remove_915e3_19 ((sd_il_n hC rfl dJx4a65c_remove_915e3_20 ((sd_cV hC c_AL_fastRemove yv_AL_fastRemove (ci := 0) rfl rfl ml_AL_144 (by decide) (by decide) dJx4a65c_remove_915e3_21 ((sd_al_n hC rfl dJx4a65c_remove_915e3_24 ((sd_aret hC (Or.inl ⟨_, rfl⟩) dJx4a65c_remove_915e3_25)))))))))))))))))))))))))))))))))))
theorem c_AL_remove (l : Launch) : zCT l yJx4a65c_remove_915e3 cJx4a65c_remove_915e3 4 (some (.object "java/lang/Object")) 2 63 T_AL_remove co_AL_remove := by
  intro As M Rt hT
  obtain ⟨a, c, d, n, cap, f, y, rfl, ha, hd, h1, h2, h3, h4, hy, hR⟩ := hT
  refine zMet_of false (by decide +kernel) (fun h => by first | rfl | cases h) (Nat.le_of_ble_eq_true rfl) (fun X hN hC => ?_)
  show zG X 0 [some (.inr a), some (.inl (.int (nI n))), none, none] [] M 0 0
  refine s_AL_remove_0 hC hN _ _ _ _ _ ?_
  simp only [B_AL_remove_0, co_AL_fastRemove, co_AL_remove, co_Objs_checkIndex, i_ic, i_lc, i_nul, i_il, i_ll, i_al, i_is, i_as, i_ls, i_inc, i_iadd, i_isub, i_imul, i_iand, i_ior, i_ixor, i_idiv, i_irem, i_ishl, i_ishr, i_ladd, i_lsub, i_land, i_lor, i_i2l, i_lushr, i_lshl, i_lshr, i_lcmp, i_dup, i_pop, i_dx1, i_dup2, i_ifeq, i_ifne, i_iflt, i_ifge, i_ifgt, i_ifle, i_iceq, i_icne, i_iclt, i_icge, i_icgt, i_icle, i_ifn, i_gf, i_pf, i_ial, i_bal, i_lal, i_aal, i_ias, i_las, i_bas, i_aas, i_alen, i_newa, i_new, i_anew, i_cast, i_oi, i_call, i_callV, i_callV2, i_callI, i_iret, i_zret, i_lret, i_vret, i_aret, i_mmx, i_mmn, i_gsE, i_aceq, i_no, i_acq, i_sw, zsw, zlg, zls, znl, zfg, zcs, zsp, zrc, zisn, zft, zc1, zto, Value.category, List.set_cons_zero, List.set_cons_succ, List.length_cons, List.length_nil, Option.toList, List.nil_append, List.cons_append, true_and, and_true, Nat.add_zero, Nat.zero_le, Nat.zero_add, Nat.le_refl, Nat.reduceAdd, Nat.reduceLeDiff, co0, z0, zn_0, zn_1, zn_2, zn_3, zn_4, zn_5, zn_8, zn_12, zn_24, zn_121, zn_144, zn_256, zn_300, zn_600, zn_720, zn_1204, zn_1280, zn_2400, zn_4816, zn_14400, zn_90000, h1]
  refine ⟨n, n + 1, rfl, by omega, by omega, ?_⟩
  simp only [h1, h2, i_ic, i_lc, i_nul, i_il, i_ll, i_al, i_is, i_as, i_ls, i_inc, i_iadd, i_isub, i_imul, i_iand, i_ior, i_ixor, i_idiv, i_irem, i_ishl, i_ishr, i_ladd, i_lsub, i_land, i_lor, i_i2l, i_lushr, i_lshl, i_lshr, i_lcmp, i_dup, i_pop, i_dx1, i_dup2, i_ifeq, i_ifne, i_iflt, i_ifge, i_ifgt, i_ifle, i_iceq, i_icne, i_iclt, i_icge, i_icgt, i_icle, i_ifn, i_gf, i_pf, i_ial, i_bal, i_lal, i_aal, i_ias, i_las, i_bas, i_aas, i_alen, i_newa, i_new, i_anew, i_cast, i_oi, i_call, i_callV, i_callV2, i_callI, i_iret, i_zret, i_lret, i_vret, i_aret, i_mmx, i_mmn, i_gsE, i_aceq, i_no, i_acq, i_sw, zsw, zlg, zls, znl, zfg, zcs, zsp, zrc, zisn, zft, zc1, zto, Value.category, List.set_cons_zero, List.set_cons_succ, List.length_cons, List.length_nil, Option.toList, List.nil_append, List.cons_append, true_and, and_true, Nat.add_zero, Nat.zero_le, Nat.zero_add, Nat.le_refl, Nat.reduceAdd, Nat.reduceLeDiff, co0, z0, zn_0, zn_1, zn_2, zn_3, zn_4, zn_5, zn_8, zn_12, zn_24, zn_121, zn_144, zn_256, zn_300, zn_600, zn_720, zn_1204, zn_1280, zn_2400, zn_4816, zn_14400, zn_90000]
  refine ⟨vp_in_nI h3 (by omega), ?_⟩
  rw [nI_clamp (by omega), hy]
  simp only [zov, h1, i_ic, i_lc, i_nul, i_il, i_ll, i_al, i_is, i_as, i_ls, i_inc, i_iadd, i_isub, i_imul, i_iand, i_ior, i_ixor, i_idiv, i_irem, i_ishl, i_ishr, i_ladd, i_lsub, i_land, i_lor, i_i2l, i_lushr, i_lshl, i_lshr, i_lcmp, i_dup, i_pop, i_dx1, i_dup2, i_ifeq, i_ifne, i_iflt, i_ifge, i_ifgt, i_ifle, i_iceq, i_icne, i_iclt, i_icge, i_icgt, i_icle, i_ifn, i_gf, i_pf, i_ial, i_bal, i_lal, i_aal, i_ias, i_las, i_bas, i_aas, i_alen, i_newa, i_new, i_anew, i_cast, i_oi, i_call, i_callV, i_callV2, i_callI, i_iret, i_zret, i_lret, i_vret, i_aret, i_mmx, i_mmn, i_gsE, i_aceq, i_no, i_acq, i_sw, zsw, zlg, zls, znl, zfg, zcs, zsp, zrc, zisn, zft, zc1, zto, Value.category, List.set_cons_zero, List.set_cons_succ, List.length_cons, List.length_nil, Option.toList, List.nil_append, List.cons_append, true_and, and_true, Nat.add_zero, Nat.zero_le, Nat.zero_add, Nat.le_refl, Nat.reduceAdd, Nat.reduceLeDiff, co0, z0, zn_0, zn_1, zn_2, zn_3, zn_4, zn_5, zn_8, zn_12, zn_24, zn_121, zn_144, zn_256, zn_300, zn_600, zn_720, zn_1204, zn_1280, zn_2400, zn_4816, zn_14400, zn_90000]
  refine ⟨a, c, d, n, cap, f, rfl, ha, hd, h1, h2, h3, h4, ?_⟩
  simp only [i_ic, i_lc, i_nul, i_il, i_ll, i_al, i_is, i_as, i_ls, i_inc, i_iadd, i_isub, i_imul, i_iand, i_ior, i_ixor, i_idiv, i_irem, i_ishl, i_ishr, i_ladd, i_lsub, i_land, i_lor, i_i2l, i_lushr, i_lshl, i_lshr, i_lcmp, i_dup, i_pop, i_dx1, i_dup2, i_ifeq, i_ifne, i_iflt, i_ifge, i_ifgt, i_ifle, i_iceq, i_icne, i_iclt, i_icge, i_icgt, i_icle, i_ifn, i_gf, i_pf, i_ial, i_bal, i_lal, i_aal, i_ias, i_las, i_bas, i_aas, i_alen, i_newa, i_new, i_anew, i_cast, i_oi, i_call, i_callV, i_callV2, i_callI, i_iret, i_zret, i_lret, i_vret, i_aret, i_mmx, i_mmn, i_gsE, i_aceq, i_no, i_acq, i_sw, zsw, zlg, zls, znl, zfg, zcs, zsp, zrc, zisn, zft, zc1, zto, Value.category, List.set_cons_zero, List.set_cons_succ, List.length_cons, List.length_nil, Option.toList, List.nil_append, List.cons_append, true_and, and_true, Nat.add_zero, Nat.zero_le, Nat.zero_add, Nat.le_refl, Nat.reduceAdd, Nat.reduceLeDiff, co0, z0, zn_0, zn_1, zn_2, zn_3, zn_4, zn_5, zn_8, zn_12, zn_24, zn_121, zn_144, zn_256, zn_300, zn_600, zn_720, zn_1204, zn_1280, zn_2400, zn_4816, zn_14400, zn_90000]
  exact hR
/-! constructors -/
def T_AC_init (As : List zAV) (M : zMp) (Rt : Option zAV → zMp → Prop) : Prop := ∃ a, As = [.inr a] ∧ Rt none M
abbrev co_AC_init := co0
theorem dJxa1e45_init_da8c8_0 : decode cJxa1e45_init_da8c8 0 = .ok (.aload_n 0, 1) := by decide +kernel
theorem dJxa1e45_init_da8c8_1 : decode cJxa1e45_init_da8c8 1 = .ok (.invokespecial 1, 3) := by decide +kernel
theorem dJxa1e45_init_da8c8_4 : decode cJxa1e45_init_da8c8 4 = .ok (.return_, 1) := by decide +kernel
def B_AC_init_0 (mc ms : Nat) (Rt : Option zAV → zMp → Prop) (g : Nat → zKT) : zKT :=
  (i_al 0 (i_oi (i_vret mc ms Rt)))
set_option maxRecDepth 20000 in
theorem s_AC_init_0 {X : zMa} {mc ms : Nat} {Rt : Option zAV → zMp → Prop} (hC : zCx X RJxa1e45 cJxa1e45_init_da8c8 1 20 mc ms (none) true Rt) : zLe (B_AC_init_0 mc ms Rt (zG X)) (zG X 0) :=
  (sd_al_n hC rfl dJxa1e45_init_da8c8_0 ((sd_oi hC ml_AC_1 oi_2 oi_3 (by decide) (by decide) dJxa1e45_init_da8c8_1 ((sd_vret hC dJxa1e45_init_da8c8_4)))))
theorem c_AC_init (l : Launch) : zCT l yJxa1e45_init_da8c8 cJxa1e45_init_da8c8 1 (none) 1 20 T_AC_init co_AC_init := by
  intro As M Rt hT
  obtain ⟨a, rfl, hR⟩ := hT
  refine zMet_of true (by decide +kernel) (fun h => by first | rfl | cases h) (Nat.le_of_ble_eq_true rfl) (fun X hN hC => ?_)
  show zG X 0 [some (.inr a)] [] M 0 0
  refine s_AC_init_0 hC _ _ _ _ _ ?_
  simp only [B_AC_init_0, co_AC_init, i_ic, i_lc, i_nul, i_il, i_ll, i_al, i_is, i_as, i_ls, i_inc, i_iadd, i_isub, i_imul, i_iand, i_ior, i_ixor, i_idiv, i_irem, i_ishl, i_ishr, i_ladd, i_lsub, i_land, i_lor, i_i2l, i_lushr, i_lshl, i_lshr, i_lcmp, i_dup, i_pop, i_dx1, i_dup2, i_ifeq, i_ifne, i_iflt, i_ifge, i_ifgt, i_ifle, i_iceq, i_icne, i_iclt, i_icge, i_icgt, i_icle, i_ifn, i_gf, i_pf, i_ial, i_bal, i_lal, i_aal, i_ias, i_las, i_bas, i_aas, i_alen, i_newa, i_new, i_anew, i_cast, i_oi, i_call, i_callV, i_callV2, i_callI, i_iret, i_zret, i_lret, i_vret, i_aret, i_mmx, i_mmn, i_gsE, i_aceq, i_no, i_acq, i_sw, zsw, zlg, zls, znl, zfg, zcs, zsp, zrc, zisn, zft, zc1, zto, Value.category, List.set_cons_zero, List.set_cons_succ, List.length_cons, List.length_nil, Option.toList, List.nil_append, List.cons_append, true_and, and_true, Nat.add_zero, Nat.zero_le, Nat.zero_add, Nat.le_refl, Nat.reduceAdd, Nat.reduceLeDiff, co0, z0, zn_0, zn_1, zn_2, zn_3, zn_4, zn_5, zn_8, zn_12, zn_24, zn_121, zn_144, zn_256, zn_300, zn_600, zn_720, zn_1204, zn_1280, zn_2400, zn_4816, zn_14400, zn_90000]
  exact hR
def T_ALi_init (As : List zAV) (M : zMp) (Rt : Option zAV → zMp → Prop) : Prop := ∃ a x y z, As = [.inr a] ∧ zmo a ∧ M a = some (.inr (0, [x, y, z])) ∧ Rt none (zup M a (.inr (0, [.inl (.int 0), y, z])))
abbrev co_ALi_init := co0
theorem dJxc12de_init_da8c8_0 : decode cJxc12de_init_da8c8 0 = .ok (.aload_n 0, 1) := by decide +kernel
theorem dJxc12de_init_da8c8_1 : decode cJxc12de_init_da8c8 1 = .ok (.invokespecial 1, 3) := by decide +kernel
theorem dJxc12de_init_da8c8_4 : decode cJxc12de_init_da8c8 4 = .ok (.aload_n 0, 1) := by decide +kernel
theorem dJxc12de_init_da8c8_5 : decode cJxc12de_init_da8c8 5 = .ok (.iconst 0, 1) := by decide +kernel
theorem dJxc12de_init_da8c8_6 : decode cJxc12de_init_da8c8 6 = .ok (.putfield 7, 3) := by decide +kernel
theorem dJxc12de_init_da8c8_9 : decode cJxc12de_init_da8c8 9 = .ok (.return_, 1) := by decide +kernel
def B_ALi_init_0 (mc ms : Nat) (Rt : Option zAV → zMp → Prop) (g : Nat → zKT) : zKT :=
  (i_al 0 (i_callI mc ms 1 T_AC_init co_AC_init (i_al 0 (i_ic 0 (i_pf 0 0 .int (i_vret mc ms Rt))))))
set_option maxRecDepth 20000 in
theorem s_ALi_init_0 {X : zMa} {mc ms : Nat} {Rt : Option zAV → zMp → Prop} (hC : zCx X RJxc12de cJxc12de_init_da8c8 2 40 mc ms (none) true Rt) : zLe (B_ALi_init_0 mc ms Rt (zG X)) (zG X 0) :=
  (sd_al_n hC rfl dJxc12de_init_da8c8_0 ((sd_cI hC c_AC_init yi_AC_init ml_ALi_1 (by decide) (by decide) dJxc12de_init_da8c8_1 ((sd_al_n hC rfl dJxc12de_init_da8c8_4 ((sd_iconst hC (by decide) dJxc12de_init_da8c8_5 ((sd_pf hC (ci := 0) (fk := 0) rfl wi_AL tyJx4a65c tyJx4a65c_ok nmJx4a65c (by decide) fl_ALi_7 (Or.inl rfl) (Or.inl rfl) dJxc12de_init_da8c8_6 ((sd_vret hC dJxc12de_init_da8c8_9)))))))))))
theorem c_ALi_init (l : Launch) : zCT l yJxc12de_init_da8c8 cJxc12de_init_da8c8 1 (none) 2 40 T_ALi_init co_ALi_init := by
  intro As M Rt hT
  obtain ⟨a, x, y, z, rfl, ha, h1, hR⟩ := hT
  refine zMet_of true (by decide +kernel) (fun h => by first | rfl | cases h) (Nat.le_of_ble_eq_true rfl) (fun X hN hC => ?_)
  show zG X 0 [some (.inr a)] [] M 0 0
  refine s_ALi_init_0 hC _ _ _ _ _ ?_
  simp only [B_ALi_init_0, co_AC_init, co_ALi_init, i_ic, i_lc, i_nul, i_il, i_ll, i_al, i_is, i_as, i_ls, i_inc, i_iadd, i_isub, i_imul, i_iand, i_ior, i_ixor, i_idiv, i_irem, i_ishl, i_ishr, i_ladd, i_lsub, i_land, i_lor, i_i2l, i_lushr, i_lshl, i_lshr, i_lcmp, i_dup, i_pop, i_dx1, i_dup2, i_ifeq, i_ifne, i_iflt, i_ifge, i_ifgt, i_ifle, i_iceq, i_icne, i_iclt, i_icge, i_icgt, i_icle, i_ifn, i_gf, i_pf, i_ial, i_bal, i_lal, i_aal, i_ias, i_las, i_bas, i_aas, i_alen, i_newa, i_new, i_anew, i_cast, i_oi, i_call, i_callV, i_callV2, i_callI, i_iret, i_zret, i_lret, i_vret, i_aret, i_mmx, i_mmn, i_gsE, i_aceq, i_no, i_acq, i_sw, zsw, zlg, zls, znl, zfg, zcs, zsp, zrc, zisn, zft, zc1, zto, Value.category, List.set_cons_zero, List.set_cons_succ, List.length_cons, List.length_nil, Option.toList, List.nil_append, List.cons_append, true_and, and_true, Nat.add_zero, Nat.zero_le, Nat.zero_add, Nat.le_refl, Nat.reduceAdd, Nat.reduceLeDiff, co0, z0, zn_0, zn_1, zn_2, zn_3, zn_4, zn_5, zn_8, zn_12, zn_24, zn_121, zn_144, zn_256, zn_300, zn_600, zn_720, zn_1204, zn_1280, zn_2400, zn_4816, zn_14400, zn_90000]
  refine ⟨a, rfl, ?_⟩
  simp only [h1, i_ic, i_lc, i_nul, i_il, i_ll, i_al, i_is, i_as, i_ls, i_inc, i_iadd, i_isub, i_imul, i_iand, i_ior, i_ixor, i_idiv, i_irem, i_ishl, i_ishr, i_ladd, i_lsub, i_land, i_lor, i_i2l, i_lushr, i_lshl, i_lshr, i_lcmp, i_dup, i_pop, i_dx1, i_dup2, i_ifeq, i_ifne, i_iflt, i_ifge, i_ifgt, i_ifle, i_iceq, i_icne, i_iclt, i_icge, i_icgt, i_icle, i_ifn, i_gf, i_pf, i_ial, i_bal, i_lal, i_aal, i_ias, i_las, i_bas, i_aas, i_alen, i_newa, i_new, i_anew, i_cast, i_oi, i_call, i_callV, i_callV2, i_callI, i_iret, i_zret, i_lret, i_vret, i_aret, i_mmx, i_mmn, i_gsE, i_aceq, i_no, i_acq, i_sw, zsw, zlg, zls, znl, zfg, zcs, zsp, zrc, zisn, zft, zc1, zto, Value.category, List.set_cons_zero, List.set_cons_succ, List.length_cons, List.length_nil, Option.toList, List.nil_append, List.cons_append, true_and, and_true, Nat.add_zero, Nat.zero_le, Nat.zero_add, Nat.le_refl, Nat.reduceAdd, Nat.reduceLeDiff, co0, z0, zn_0, zn_1, zn_2, zn_3, zn_4, zn_5, zn_8, zn_12, zn_24, zn_121, zn_144, zn_256, zn_300, zn_600, zn_720, zn_1204, zn_1280, zn_2400, zn_4816, zn_14400, zn_90000]
  exact ⟨ha, by decide, hR⟩
def T_AL_init (As : List zAV) (M : zMp) (Rt : Option zAV → zMp → Prop) : Prop := ∃ a, As = [.inr a] ∧ zmo a ∧ M a = some (.inr (0, [.inl (.int 0), .inl .null, .inl (.int 0)])) ∧ M znE ≠ none ∧ Rt none (zup M a (zal 0 znE 0))
abbrev co_AL_init := co0
theorem dJx4a65c_init_da8c8_0 : decode cJx4a65c_init_da8c8 0 = .ok (.aload_n 0, 1) := by decide +kernel
theorem dJx4a65c_init_da8c8_1 : decode cJx4a65c_init_da8c8 1 = .ok (.invokespecial 1, 3) := by decide +kernel
theorem dJx4a65c_init_da8c8_4 : decode cJx4a65c_init_da8c8 4 = .ok (.aload_n 0, 1) := by decide +kernel
theorem dJx4a65c_init_da8c8_5 : decode cJx4a65c_init_da8c8 5 = .ok (.getstatic 39, 3) := by decide +kernel
theorem dJx4a65c_init_da8c8_8 : decode cJx4a65c_init_da8c8 8 = .ok (.putfield 9, 3) := by decide +kernel
theorem dJx4a65c_init_da8c8_11 : decode cJx4a65c_init_da8c8 11 = .ok (.return_, 1) := by decide +kernel
def B_AL_init_0 (mc ms : Nat) (Rt : Option zAV → zMp → Prop) (g : Nat → zKT) : zKT :=
  (i_al 0 (i_callI mc ms 1 T_ALi_init co_ALi_init (i_al 0 (i_gsE (i_pf 0 1 (.array (.object "java/lang/Object")) (i_vret mc ms Rt))))))
set_option maxRecDepth 20000 in
theorem s_AL_init_0 {X : zMa} {mc ms : Nat} {Rt : Option zAV → zMp → Prop} (hC : zCx X RJx4a65c cJx4a65c_init_da8c8 3 60 mc ms (none) true Rt) : zLe (B_AL_init_0 mc ms Rt (zG X)) (zG X 0) :=
  (sd_al_n hC rfl dJx4a65c_init_da8c8_0 ((sd_cI hC c_ALi_init yi_ALi_init ml_AL_1 (by decide) (by decide) dJx4a65c_init_da8c8_1 ((sd_al_n hC rfl dJx4a65c_init_da8c8_4 ((sd_gsE hC rfl fl_AL_39 dJx4a65c_init_da8c8_5 ((sd_pf hC (ci := 0) (fk := 1) rfl wi_AL tyJx4a65c tyJx4a65c_ok nmJx4a65c (by decide) fl_AL_9 (Or.inl rfl) (Or.inl rfl) dJx4a65c_init_da8c8_8 ((sd_vret hC dJx4a65c_init_da8c8_11)))))))))))
theorem c_AL_init (l : Launch) : zCT l yJx4a65c_init_da8c8 cJx4a65c_init_da8c8 1 (none) 3 60 T_AL_init co_AL_init := by
  intro As M Rt hT
  obtain ⟨a, rfl, ha, h1, hE, hR⟩ := hT
  refine zMet_of true (by decide +kernel) (fun h => by first | rfl | cases h) (Nat.le_of_ble_eq_true rfl) (fun X hN hC => ?_)
  show zG X 0 [some (.inr a)] [] M 0 0
  refine s_AL_init_0 hC _ _ _ _ _ ?_
  simp only [B_AL_init_0, co_AL_init, co_ALi_init, i_ic, i_lc, i_nul, i_il, i_ll, i_al, i_is, i_as, i_ls, i_inc, i_iadd, i_isub, i_imul, i_iand, i_ior, i_ixor, i_idiv, i_irem, i_ishl, i_ishr, i_ladd, i_lsub, i_land, i_lor, i_i2l, i_lushr, i_lshl, i_lshr, i_lcmp, i_dup, i_pop, i_dx1, i_dup2, i_ifeq, i_ifne, i_iflt, i_ifge, i_ifgt, i_ifle, i_iceq, i_icne, i_iclt, i_icge, i_icgt, i_icle, i_ifn, i_gf, i_pf, i_ial, i_bal, i_lal, i_aal, i_ias, i_las, i_bas, i_aas, i_alen, i_newa, i_new, i_anew, i_cast, i_oi, i_call, i_callV, i_callV2, i_callI, i_iret, i_zret, i_lret, i_vret, i_aret, i_mmx, i_mmn, i_gsE, i_aceq, i_no, i_acq, i_sw, zsw, zlg, zls, znl, zfg, zcs, zsp, zrc, zisn, zft, zc1, zto, Value.category, List.set_cons_zero, List.set_cons_succ, List.length_cons, List.length_nil, Option.toList, List.nil_append, List.cons_append, true_and, and_true, Nat.add_zero, Nat.zero_le, Nat.zero_add, Nat.le_refl, Nat.reduceAdd, Nat.reduceLeDiff, co0, z0, zn_0, zn_1, zn_2, zn_3, zn_4, zn_5, zn_8, zn_12, zn_24, zn_121, zn_144, zn_256, zn_300, zn_600, zn_720, zn_1204, zn_1280, zn_2400, zn_4816, zn_14400, zn_90000]
  refine ⟨a, _, _, _, rfl, ha, h1, ?_⟩
  rw [zup_self h1]
  simp only [i_gsE, h1, i_ic, i_lc, i_nul, i_il, i_ll, i_al, i_is, i_as, i_ls, i_inc, i_iadd, i_isub, i_imul, i_iand, i_ior, i_ixor, i_idiv, i_irem, i_ishl, i_ishr, i_ladd, i_lsub, i_land, i_lor, i_i2l, i_lushr, i_lshl, i_lshr, i_lcmp, i_dup, i_pop, i_dx1, i_dup2, i_ifeq, i_ifne, i_iflt, i_ifge, i_ifgt, i_ifle, i_iceq, i_icne, i_iclt, i_icge, i_icgt, i_icle, i_ifn, i_gf, i_pf, i_ial, i_bal, i_lal, i_aal, i_ias, i_las, i_bas, i_aas, i_alen, i_newa, i_new, i_anew, i_cast, i_oi, i_call, i_callV, i_callV2, i_callI, i_iret, i_zret, i_lret, i_vret, i_aret, i_mmx, i_mmn, i_gsE, i_aceq, i_no, i_acq, i_sw, zsw, zlg, zls, znl, zfg, zcs, zsp, zrc, zisn, zft, zc1, zto, Value.category, List.set_cons_zero, List.set_cons_succ, List.length_cons, List.length_nil, Option.toList, List.nil_append, List.cons_append, true_and, and_true, Nat.add_zero, Nat.zero_le, Nat.zero_add, Nat.le_refl, Nat.reduceAdd, Nat.reduceLeDiff, co0, z0, zn_0, zn_1, zn_2, zn_3, zn_4, zn_5, zn_8, zn_12, zn_24, zn_121, zn_144, zn_256, zn_300, zn_600, zn_720, zn_1204, zn_1280, zn_2400, zn_4816, zn_14400, zn_90000]
  exact ⟨hE, ha, by decide, hR⟩
end
section
/-! the class's state (printed by a program of ours), and the world that it stands for -/
abbrev zSt : Type := (((((Nat) × (Int32)) × ((Int32) × ((Int32) × (Int32)))) × (((Nat → Int32) × ((Nat → Option Nat) × (Nat))) × ((Nat) × ((Nat) × (Nat))))) × ((((Nat) × (Nat)) × ((Nat) × ((Nat) × (Nat)))) × (((Nat) × ((Nat → Int32) × (Nat → Nat))) × ((Nat → Nat → Option zAE) × ((Nat → Nat) × (Nat → Int64)))))) × (((((Nat → Int64) × (Nat → Nat → Int64)) × ((Nat → Nat → Int32) × ((Nat → Nat → Nat) × (Nat → Nat → Nat → Int32)))) × (((Nat → Int32) × ((Nat → Nat) × (Nat → Nat → Int32))) × ((Nat → Int32) × ((Nat → Int32) × (Nat → Int32))))) × ((((Nat → Int32) × ((Nat → Nat → Int32) × (Nat → Nat))) × ((Nat → Bool) × ((Nat → Nat) × (Nat → Nat)))) × (((Nat → Nat → Int32) × ((Nat → Nat → Int64) × (Nat → Nat → Int64))) × ((Nat → Nat → Option (Nat → Int64)) × ((Nat) × (Nat → Nat → Int32))))))
def x_dk (x : zSt) : Nat := x.1.1.1.1.1
def x_lk (x : zSt) : Int32 := x.1.1.1.1.2
def x_po (x : zSt) : Int32 := x.1.1.1.2.1
def x_ne (x : zSt) : Int32 := x.1.1.1.2.2.1
def x_td (x : zSt) : Int32 := x.1.1.1.2.2.2
def x_nb (x : zSt) : Nat → Int32 := x.1.1.2.1.1
def x_ln (x : zSt) : Nat → Option Nat := x.1.1.2.1.2.1
def x_nr (x : zSt) : Nat := x.1.1.2.1.2.2
def x_nw (x : zSt) : Nat := x.1.1.2.2.1
def x_nn (x : zSt) : Nat := x.1.1.2.2.2.1
def x_ns (x : zSt) : Nat := x.1.1.2.2.2.2
def x_or (x : zSt) : Nat := x.1.2.1.1.1
def x_ow (x : zSt) : Nat := x.1.2.1.1.2
def x_on (x : zSt) : Nat := x.1.2.1.2.1
def x_nl (x : zSt) : Nat := x.1.2.1.2.2.1
def x_ng (x : zSt) : Nat := x.1.2.1.2.2.2
def x_rg (x : zSt) : Nat := x.1.2.2.1.1
def x_lc (x : zSt) : Nat → Int32 := x.1.2.2.1.2.1
def x_cp (x : zSt) : Nat → Nat := x.1.2.2.1.2.2
def x_gb (x : zSt) : Nat → Nat → Option zAE := x.1.2.2.2.1
def x_sp (x : zSt) : Nat → Nat := x.1.2.2.2.2.1
def x_kn (x : zSt) : Nat → Int64 := x.1.2.2.2.2.2
def x_me (x : zSt) : Nat → Int64 := x.2.1.1.1.1
def x_ob (x : zSt) : Nat → Nat → Int64 := x.2.1.1.1.2
def x_fk (x : zSt) : Nat → Nat → Int32 := x.2.1.1.2.1
def x_fz (x : zSt) : Nat → Nat → Nat := x.2.1.1.2.2.1
def x_fg (x : zSt) : Nat → Nat → Nat → Int32 := x.2.1.1.2.2.2
def x_rd (x : zSt) : Nat → Int32 := x.2.1.2.1.1
def x_rz (x : zSt) : Nat → Nat := x.2.1.2.1.2.1
def x_rh (x : zSt) : Nat → Nat → Int32 := x.2.1.2.1.2.2
def x_nd (x : zSt) : Nat → Int32 := x.2.1.2.2.1
def x_nm (x : zSt) : Nat → Int32 := x.2.1.2.2.2.1
def x_nv (x : zSt) : Nat → Int32 := x.2.1.2.2.2.2
def x_nh (x : zSt) : Nat → Int32 := x.2.2.1.1.1
def x_nf (x : zSt) : Nat → Nat → Int32 := x.2.2.1.1.2.1
def x_wr (x : zSt) : Nat → Nat := x.2.2.1.1.2.2
def x_wa (x : zSt) : Nat → Bool := x.2.2.1.2.1
def x_lz (x : zSt) : Nat → Nat := x.2.2.1.2.2.1
def x_lf (x : zSt) : Nat → Nat := x.2.2.1.2.2.2
def x_li (x : zSt) : Nat → Nat → Int32 := x.2.2.2.1.1
def x_lt (x : zSt) : Nat → Nat → Int64 := x.2.2.2.1.2.1
def x_lb (x : zSt) : Nat → Nat → Int64 := x.2.2.2.1.2.2
def x_lr (x : zSt) : Nat → Nat → Option (Nat → Int64) := x.2.2.2.2.1
def x_tn (x : zSt) : Nat := x.2.2.2.2.2.1
def x_tf (x : zSt) : Nat → Nat → Int32 := x.2.2.2.2.2.2
def u_dk (x : zSt) (v : Nat) : zSt := (((((v, x.1.1.1.1.2), x.1.1.1.2), x.1.1.2), x.1.2), x.2)
def u_lk (x : zSt) (v : Int32) : zSt := (((((x.1.1.1.1.1, v), x.1.1.1.2), x.1.1.2), x.1.2), x.2)
def u_po (x : zSt) (v : Int32) : zSt := ((((x.1.1.1.1, (v, x.1.1.1.2.2)), x.1.1.2), x.1.2), x.2)
def u_ne (x : zSt) (v : Int32) : zSt := ((((x.1.1.1.1, (x.1.1.1.2.1, (v, x.1.1.1.2.2.2))), x.1.1.2), x.1.2), x.2)
def u_td (x : zSt) (v : Int32) : zSt := ((((x.1.1.1.1, (x.1.1.1.2.1, (x.1.1.1.2.2.1, v))), x.1.1.2), x.1.2), x.2)
def u_nb (x : zSt) (v : Nat → Int32) : zSt := (((x.1.1.1, ((v, x.1.1.2.1.2), x.1.1.2.2)), x.1.2), x.2)
def u_ln (x : zSt) (v : Nat → Option Nat) : zSt := (((x.1.1.1, ((x.1.1.2.1.1, (v, x.1.1.2.1.2.2)), x.1.1.2.2)), x.1.2), x.2)
def u_nr (x : zSt) (v : Nat) : zSt := (((x.1.1.1, ((x.1.1.2.1.1, (x.1.1.2.1.2.1, v)), x.1.1.2.2)), x.1.2), x.2)
def u_nw (x : zSt) (v : Nat) : zSt := (((x.1.1.1, (x.1.1.2.1, (v, x.1.1.2.2.2))), x.1.2), x.2)
def u_nn (x : zSt) (v : Nat) : zSt := (((x.1.1.1, (x.1.1.2.1, (x.1.1.2.2.1, (v, x.1.1.2.2.2.2)))), x.1.2), x.2)
def u_ns (x : zSt) (v : Nat) : zSt := (((x.1.1.1, (x.1.1.2.1, (x.1.1.2.2.1, (x.1.1.2.2.2.1, v)))), x.1.2), x.2)
def u_or (x : zSt) (v : Nat) : zSt := ((x.1.1, (((v, x.1.2.1.1.2), x.1.2.1.2), x.1.2.2)), x.2)
def u_ow (x : zSt) (v : Nat) : zSt := ((x.1.1, (((x.1.2.1.1.1, v), x.1.2.1.2), x.1.2.2)), x.2)
def u_on (x : zSt) (v : Nat) : zSt := ((x.1.1, ((x.1.2.1.1, (v, x.1.2.1.2.2)), x.1.2.2)), x.2)
def u_nl (x : zSt) (v : Nat) : zSt := ((x.1.1, ((x.1.2.1.1, (x.1.2.1.2.1, (v, x.1.2.1.2.2.2))), x.1.2.2)), x.2)
def u_ng (x : zSt) (v : Nat) : zSt := ((x.1.1, ((x.1.2.1.1, (x.1.2.1.2.1, (x.1.2.1.2.2.1, v))), x.1.2.2)), x.2)
def u_rg (x : zSt) (v : Nat) : zSt := ((x.1.1, (x.1.2.1, ((v, x.1.2.2.1.2), x.1.2.2.2))), x.2)
def u_lc (x : zSt) (v : Nat → Int32) : zSt := ((x.1.1, (x.1.2.1, ((x.1.2.2.1.1, (v, x.1.2.2.1.2.2)), x.1.2.2.2))), x.2)
def u_cp (x : zSt) (v : Nat → Nat) : zSt := ((x.1.1, (x.1.2.1, ((x.1.2.2.1.1, (x.1.2.2.1.2.1, v)), x.1.2.2.2))), x.2)
def u_gb (x : zSt) (v : Nat → Nat → Option zAE) : zSt := ((x.1.1, (x.1.2.1, (x.1.2.2.1, (v, x.1.2.2.2.2)))), x.2)
def u_sp (x : zSt) (v : Nat → Nat) : zSt := ((x.1.1, (x.1.2.1, (x.1.2.2.1, (x.1.2.2.2.1, (v, x.1.2.2.2.2.2))))), x.2)
def u_kn (x : zSt) (v : Nat → Int64) : zSt := ((x.1.1, (x.1.2.1, (x.1.2.2.1, (x.1.2.2.2.1, (x.1.2.2.2.2.1, v))))), x.2)
def u_me (x : zSt) (v : Nat → Int64) : zSt := (x.1, ((((v, x.2.1.1.1.2), x.2.1.1.2), x.2.1.2), x.2.2))
def u_ob (x : zSt) (v : Nat → Nat → Int64) : zSt := (x.1, ((((x.2.1.1.1.1, v), x.2.1.1.2), x.2.1.2), x.2.2))
def u_fk (x : zSt) (v : Nat → Nat → Int32) : zSt := (x.1, (((x.2.1.1.1, (v, x.2.1.1.2.2)), x.2.1.2), x.2.2))
def u_fz (x : zSt) (v : Nat → Nat → Nat) : zSt := (x.1, (((x.2.1.1.1, (x.2.1.1.2.1, (v, x.2.1.1.2.2.2))), x.2.1.2), x.2.2))
def u_fg (x : zSt) (v : Nat → Nat → Nat → Int32) : zSt := (x.1, (((x.2.1.1.1, (x.2.1.1.2.1, (x.2.1.1.2.2.1, v))), x.2.1.2), x.2.2))
def u_rd (x : zSt) (v : Nat → Int32) : zSt := (x.1, ((x.2.1.1, ((v, x.2.1.2.1.2), x.2.1.2.2)), x.2.2))
def u_rz (x : zSt) (v : Nat → Nat) : zSt := (x.1, ((x.2.1.1, ((x.2.1.2.1.1, (v, x.2.1.2.1.2.2)), x.2.1.2.2)), x.2.2))
def u_rh (x : zSt) (v : Nat → Nat → Int32) : zSt := (x.1, ((x.2.1.1, ((x.2.1.2.1.1, (x.2.1.2.1.2.1, v)), x.2.1.2.2)), x.2.2))
def u_nd (x : zSt) (v : Nat → Int32) : zSt := (x.1, ((x.2.1.1, (x.2.1.2.1, (v, x.2.1.2.2.2))), x.2.2))
def u_nm (x : zSt) (v : Nat → Int32) : zSt := (x.1, ((x.2.1.1, (x.2.1.2.1, (x.2.1.2.2.1, (v, x.2.1.2.2.2.2)))), x.2.2))
def u_nv (x : zSt) (v : Nat → Int32) : zSt := (x.1, ((x.2.1.1, (x.2.1.2.1, (x.2.1.2.2.1, (x.2.1.2.2.2.1, v)))), x.2.2))
def u_nh (x : zSt) (v : Nat → Int32) : zSt := (x.1, (x.2.1, (((v, x.2.2.1.1.2), x.2.2.1.2), x.2.2.2)))
def u_nf (x : zSt) (v : Nat → Nat → Int32) : zSt := (x.1, (x.2.1, (((x.2.2.1.1.1, (v, x.2.2.1.1.2.2)), x.2.2.1.2), x.2.2.2)))
def u_wr (x : zSt) (v : Nat → Nat) : zSt := (x.1, (x.2.1, (((x.2.2.1.1.1, (x.2.2.1.1.2.1, v)), x.2.2.1.2), x.2.2.2)))
def u_wa (x : zSt) (v : Nat → Bool) : zSt := (x.1, (x.2.1, ((x.2.2.1.1, (v, x.2.2.1.2.2)), x.2.2.2)))
def u_lz (x : zSt) (v : Nat → Nat) : zSt := (x.1, (x.2.1, ((x.2.2.1.1, (x.2.2.1.2.1, (v, x.2.2.1.2.2.2))), x.2.2.2)))
def u_lf (x : zSt) (v : Nat → Nat) : zSt := (x.1, (x.2.1, ((x.2.2.1.1, (x.2.2.1.2.1, (x.2.2.1.2.2.1, v))), x.2.2.2)))
def u_li (x : zSt) (v : Nat → Nat → Int32) : zSt := (x.1, (x.2.1, (x.2.2.1, ((v, x.2.2.2.1.2), x.2.2.2.2))))
def u_lt (x : zSt) (v : Nat → Nat → Int64) : zSt := (x.1, (x.2.1, (x.2.2.1, ((x.2.2.2.1.1, (v, x.2.2.2.1.2.2)), x.2.2.2.2))))
def u_lb (x : zSt) (v : Nat → Nat → Int64) : zSt := (x.1, (x.2.1, (x.2.2.1, ((x.2.2.2.1.1, (x.2.2.2.1.2.1, v)), x.2.2.2.2))))
def u_lr (x : zSt) (v : Nat → Nat → Option (Nat → Int64)) : zSt := (x.1, (x.2.1, (x.2.2.1, (x.2.2.2.1, (v, x.2.2.2.2.2)))))
def u_tn (x : zSt) (v : Nat) : zSt := (x.1, (x.2.1, (x.2.2.1, (x.2.2.2.1, (x.2.2.2.2.1, (v, x.2.2.2.2.2.2))))))
def u_tf (x : zSt) (v : Nat → Nat → Int32) : zSt := (x.1, (x.2.1, (x.2.2.1, (x.2.2.2.1, (x.2.2.2.2.1, (x.2.2.2.2.2.1, v))))))
/-- the name of a list's row -/
def x_dn (x : zSt) (i : Nat) : zNm := if x_cp x i = 0 then znE else (2, i, x_cp x i)
/-- what the four lists hold: readers, wishes, notices, spare lanes -/
def x_el (x : zSt) (i : Nat) : Nat → Option zNm := fun k => if i = 0 then (if k < x_nr x then some (10, k, 0) else none) else if i = 1 then (if k < x_nw x then some (15, k, 0) else none) else if i = 2 then (if k < x_nn x then some (12, k, 0) else none) else (if k < x_ns x then some (16, x_sp x k, 0) else none)
def x_sz (x : zSt) (i : Nat) : Nat := if i = 0 then x_nr x else if i = 1 then x_nw x else if i = 2 then x_nn x else x_ns x
/-- the words of the row (i, j) -/
def x_rw (x : zSt) (i j : Nat) : Option (Nat → Int64) := if i = 0 then (if j = 0 then some (x_kn x) else if j = 1 then some (x_me x) else none) else if i = 1 then (if j < x_ow x then some (x_ob x j) else none) else if i = 2 then (if j < x_nl x then some (x_lt x j) else none) else if i = 3 then (if j < x_nl x then some (x_lb x j) else none) else (if i - 4 < x_nl x ∧ j < 121 then x_lr x (i - 4) j else none)
def x_main (x : zSt) : zAE := .inr (7, [.inr (1, 0, 0), .inr (1, 1, 0), .inr (1, 2, 0), .inr (3, 0, 0), .inr (4, 0, 0), .inr (1, 3, 0), .inr (5, 0, 0), .inr (5, 0, 1), .inr (9, x_rg x, 0), .inl (.int (nI (x_dk x))), .inl (.int (x_lk x)), .inl (.int (x_po x)), .inl (.int (x_ne x)), .inl (.int (x_td x))])
abbrev zra (C : String) (n : Nat) (f : Nat → Option zNm) : zAE := .inl (.object C, n, .inr (.inr f))
def x_lane (x : zSt) (j : Nat) : zAE := .inr (2, [.inr (5, 2, j), .inr (5, 3, j), .inl (.int (nI (x_lz x j))), .inr (17, j, 0), .inr (18, j, 0), .inl (.int (nI (x_lf x j)))])
def x_lrs (x : zSt) (j : Nat) : Nat → Option zNm := fun s => if s < 121 then (x_lr x j s).map (fun _ => (5, 4 + j, s)) else none
def x_rdr (x : zSt) (i : Nat) : zAE := .inr (4, [.inl (.int (x_rd x i)), .inr (11, i, 0), .inl (.int (nI (x_rz x i)))])
def x_ntc (x : zSt) (i : Nat) : zAE := .inr (3, [.inl (.int (nI i)), .inl (.int (x_nd x i)), .inr (13, i, 0), .inl (.int (x_nm x i)), .inl (.int (x_nv x i)), .inl (.int (x_nh x i))])
def x_wsh (x : zSt) (i : Nat) : zAE := .inr (6, [.inl (.int (nI (x_wr x i))), .inr (10, x_wr x i, 0), .inr (9, i, 0), .inr (5, 1, i), .inl (.int (zb (x_wa x i)))])
def x_fts (i : Nat) : Nat → Option zNm := fun f => if f < 4 then some (7, i, f) else none
def pic (x : zSt) : zMp := fun n => match n with
  | (k, i, j) => match k with
    | 0 => if i = 0 ∧ j = 0 then some (x_main x) else none
    | 1 => if i < 4 ∧ j = 0 then some (zal (x_lc x i) (x_dn x i) (x_sz x i)) else none
    | 2 => if i < 4 ∧ 0 < j ∧ j = x_cp x i then some (zoa (x_cp x i) (x_el x i)) else x_gb x i j
    | 3 => if i = 0 ∧ j = 0 then some (zin 12 (x_nb x)) else none
    | 4 => if i = 0 ∧ j = 0 then some (zra "WishRoutes$Lane" 144 (fun p => (x_ln x p).map (fun l => (16, l, 0)))) else none
    | 5 => (x_rw x i j).map (fun _ => .inr (5, [.inr (6, i, j)]))
    | 6 => (x_rw x i j).map zlo
    | 7 => if i < x_ng x ∧ j < 4 then some (zfo (x_fk x i j) (8, i, j) (x_fz x i j)) else none
    | 8 => if i < x_ng x ∧ j < 4 then some (zin 4 (x_fg x i j)) else none
    | 9 => if i < x_ng x ∧ j = 0 then some (zra "WishRoutes$FieldTest" 4 (x_fts i)) else none
    | 10 => if i < x_or x ∧ j = 0 then some (x_rdr x i) else none
    | 11 => if i < x_or x ∧ j = 0 then some (zin 600 (x_rh x i)) else none
    | 12 => if i < x_on x ∧ j = 0 then some (x_ntc x i) else none
    | 13 => if i < x_on x ∧ j = 0 then some (zin 4 (x_nf x i)) else none
    | 14 => if i < x_tn x ∧ j = 0 then some (zin 4 (x_tf x i)) else none
    | 15 => if i < x_ow x ∧ j = 0 then some (x_wsh x i) else none
    | 16 => if i < x_nl x ∧ j = 0 then some (x_lane x i) else none
    | 17 => if i < x_nl x ∧ j = 0 then some (zin 121 (x_li x i)) else none
    | 18 => if i < x_nl x ∧ j = 0 then some (zra "WishRoutes$Row" 121 (x_lrs x i)) else none
    | k + 19 => if k = 71 ∧ i = 0 ∧ j = 0 then some (zoa 0 (fun _ => none)) else none
/-- a world is a picture's after one write -/
theorem pic_up {x x' : zSt} {a : zNm} {e : zAE} (h1 : pic x' a = some e) (h2 : ∀ n, n ≠ a → pic x n = pic x' n) : zup (pic x) a e = pic x' := by
  funext n
  by_cases h : n = a
  · subst h; rw [zup_s, h1]
  · rw [zup_o h, h2 n h]

theorem pic_E (x : zSt) : pic x znE = some (zoa 0 (fun _ => none)) := rfl
def va_u2 {α : Type} (f : Nat → Nat → α) (a b : Nat) (v : α) : Nat → Nat → α := fun i j => if i = a ∧ j = b then v else f i j

theorem pu_lk (x : zSt) (v : Int32) : zup (pic x) (0, 0, 0) (x_main (u_lk x v)) = pic (u_lk x v) := by
  refine pic_up rfl (fun n hn => ?_)
  obtain ⟨k, i, j⟩ := n
  rcases k with _ | _ | _ | _ | _ | _ | _ | _ | _ | _ | _ | _ | _ | _ | _ | _ | _ | _ | _ | k
  all_goals first | rfl | skip
  simp only [pic]
  have hn : ¬ (i = 0 ∧ j = 0) := fun h => hn (by rw [h.1, h.2])
  rw [if_neg hn, if_neg hn]
theorem pu_po (x : zSt) (v : Int32) : zup (pic x) (0, 0, 0) (x_main (u_po x v)) = pic (u_po x v) := by
  refine pic_up rfl (fun n hn => ?_)
  obtain ⟨k, i, j⟩ := n
  rcases k with _ | _ | _ | _ | _ | _ | _ | _ | _ | _ | _ | _ | _ | _ | _ | _ | _ | _ | _ | k
  all_goals first | rfl | skip
  simp only [pic]
  have hn : ¬ (i = 0 ∧ j = 0) := fun h => hn (by rw [h.1, h.2])
  rw [if_neg hn, if_neg hn]
theorem pu_ne (x : zSt) (v : Int32) : zup (pic x) (0, 0, 0) (x_main (u_ne x v)) = pic (u_ne x v) := by
  refine pic_up rfl (fun n hn => ?_)
  obtain ⟨k, i, j⟩ := n
  rcases k with _ | _ | _ | _ | _ | _ | _ | _ | _ | _ | _ | _ | _ | _ | _ | _ | _ | _ | _ | k
  all_goals first | rfl | skip
  simp only [pic]
  have hn : ¬ (i = 0 ∧ j = 0) := fun h => hn (by rw [h.1, h.2])
  rw [if_neg hn, if_neg hn]
theorem pu_td (x : zSt) (v : Int32) : zup (pic x) (0, 0, 0) (x_main (u_td x v)) = pic (u_td x v) := by
  refine pic_up rfl (fun n hn => ?_)
  obtain ⟨k, i, j⟩ := n
  rcases k with _ | _ | _ | _ | _ | _ | _ | _ | _ | _ | _ | _ | _ | _ | _ | _ | _ | _ | _ | k
  all_goals first | rfl | skip
  simp only [pic]
  have hn : ¬ (i = 0 ∧ j = 0) := fun h => hn (by rw [h.1, h.2])
  rw [if_neg hn, if_neg hn]
theorem pu_dk (x : zSt) (v : Nat) : zup (pic x) (0, 0, 0) (x_main (u_dk x v)) = pic (u_dk x v) := by
  refine pic_up rfl (fun n hn => ?_)
  obtain ⟨k, i, j⟩ := n
  rcases k with _ | _ | _ | _ | _ | _ | _ | _ | _ | _ | _ | _ | _ | _ | _ | _ | _ | _ | _ | k
  all_goals first | rfl | skip
  simp only [pic]
  have hn : ¬ (i = 0 ∧ j = 0) := fun h => hn (by rw [h.1, h.2])
  rw [if_neg hn, if_neg hn]
theorem pu_rg (x : zSt) (v : Nat) : zup (pic x) (0, 0, 0) (x_main (u_rg x v)) = pic (u_rg x v) := by
  refine pic_up rfl (fun n hn => ?_)
  obtain ⟨k, i, j⟩ := n
  rcases k with _ | _ | _ | _ | _ | _ | _ | _ | _ | _ | _ | _ | _ | _ | _ | _ | _ | _ | _ | k
  all_goals first | rfl | skip
  simp only [pic]
  have hn : ¬ (i = 0 ∧ j = 0) := fun h => hn (by rw [h.1, h.2])
  rw [if_neg hn, if_neg hn]
theorem pu_rd (x : zSt) (a : Nat) (v : Int32) (h : a < x_or x) : zup (pic x) (10, a, 0) (x_rdr (u_rd x (va_up (x_rd x) a v)) a) = pic (u_rd x (va_up (x_rd x) a v)) := by
  refine pic_up (if_pos ⟨h, rfl⟩) (fun n hn => ?_)
  obtain ⟨k, i, j⟩ := n
  rcases k with _ | _ | _ | _ | _ | _ | _ | _ | _ | _ | _ | _ | _ | _ | _ | _ | _ | _ | _ | k
  all_goals first | rfl | skip
  simp only [pic]
  by_cases hi : i = a
  · subst hi
    have hj : ¬ j = 0 := fun q => hn (by rw [q])
    rw [if_neg (fun q => hj q.2), if_neg (fun q => hj q.2)]
  · have e : x_rdr (u_rd x (va_up (x_rd x) a v)) i = x_rdr x i := by
      simp only [x_rdr, x_rd, u_rd, va_up, hi, if_false]
      try rfl
    rw [e]
    rfl
theorem pu_rz (x : zSt) (a : Nat) (v : Nat) (h : a < x_or x) : zup (pic x) (10, a, 0) (x_rdr (u_rz x (va_up (x_rz x) a v)) a) = pic (u_rz x (va_up (x_rz x) a v)) := by
  refine pic_up (if_pos ⟨h, rfl⟩) (fun n hn => ?_)
  obtain ⟨k, i, j⟩ := n
  rcases k with _ | _ | _ | _ | _ | _ | _ | _ | _ | _ | _ | _ | _ | _ | _ | _ | _ | _ | _ | k
  all_goals first | rfl | skip
  simp only [pic]
  by_cases hi : i = a
  · subst hi
    have hj : ¬ j = 0 := fun q => hn (by rw [q])
    rw [if_neg (fun q => hj q.2), if_neg (fun q => hj q.2)]
  · have e : x_rdr (u_rz x (va_up (x_rz x) a v)) i = x_rdr x i := by
      simp only [x_rdr, x_rz, u_rz, va_up, hi, if_false]
      try rfl
    rw [e]
    rfl
theorem pu_nm (x : zSt) (a : Nat) (v : Int32) (h : a < x_on x) : zup (pic x) (12, a, 0) (x_ntc (u_nm x (va_up (x_nm x) a v)) a) = pic (u_nm x (va_up (x_nm x) a v)) := by
  refine pic_up (if_pos ⟨h, rfl⟩) (fun n hn => ?_)
  obtain ⟨k, i, j⟩ := n
  rcases k with _ | _ | _ | _ | _ | _ | _ | _ | _ | _ | _ | _ | _ | _ | _ | _ | _ | _ | _ | k
  all_goals first | rfl | skip
  simp only [pic]
  by_cases hi : i = a
  · subst hi
    have hj : ¬ j = 0 := fun q => hn (by rw [q])
    rw [if_neg (fun q => hj q.2), if_neg (fun q => hj q.2)]
  · have e : x_ntc (u_nm x (va_up (x_nm x) a v)) i = x_ntc x i := by
      simp only [x_ntc, x_nm, u_nm, va_up, hi, if_false]
      try rfl
    rw [e]
    rfl
theorem pu_nv (x : zSt) (a : Nat) (v : Int32) (h : a < x_on x) : zup (pic x) (12, a, 0) (x_ntc (u_nv x (va_up (x_nv x) a v)) a) = pic (u_nv x (va_up (x_nv x) a v)) := by
  refine pic_up (if_pos ⟨h, rfl⟩) (fun n hn => ?_)
  obtain ⟨k, i, j⟩ := n
  rcases k with _ | _ | _ | _ | _ | _ | _ | _ | _ | _ | _ | _ | _ | _ | _ | _ | _ | _ | _ | k
  all_goals first | rfl | skip
  simp only [pic]
  by_cases hi : i = a
  · subst hi
    have hj : ¬ j = 0 := fun q => hn (by rw [q])
    rw [if_neg (fun q => hj q.2), if_neg (fun q => hj q.2)]
  · have e : x_ntc (u_nv x (va_up (x_nv x) a v)) i = x_ntc x i := by
      simp only [x_ntc, x_nv, u_nv, va_up, hi, if_false]
      try rfl
    rw [e]
    rfl
theorem pu_nh (x : zSt) (a : Nat) (v : Int32) (h : a < x_on x) : zup (pic x) (12, a, 0) (x_ntc (u_nh x (va_up (x_nh x) a v)) a) = pic (u_nh x (va_up (x_nh x) a v)) := by
  refine pic_up (if_pos ⟨h, rfl⟩) (fun n hn => ?_)
  obtain ⟨k, i, j⟩ := n
  rcases k with _ | _ | _ | _ | _ | _ | _ | _ | _ | _ | _ | _ | _ | _ | _ | _ | _ | _ | _ | k
  all_goals first | rfl | skip
  simp only [pic]
  by_cases hi : i = a
  · subst hi
    have hj : ¬ j = 0 := fun q => hn (by rw [q])
    rw [if_neg (fun q => hj q.2), if_neg (fun q => hj q.2)]
  · have e : x_ntc (u_nh x (va_up (x_nh x) a v)) i = x_ntc x i := by
      simp only [x_ntc, x_nh, u_nh, va_up, hi, if_false]
      try rfl
    rw [e]
    rfl
theorem pu_wa (x : zSt) (a : Nat) (v : Bool) (h : a < x_ow x) : zup (pic x) (15, a, 0) (x_wsh (u_wa x (va_up (x_wa x) a v)) a) = pic (u_wa x (va_up (x_wa x) a v)) := by
  refine pic_up (if_pos ⟨h, rfl⟩) (fun n hn => ?_)
  obtain ⟨k, i, j⟩ := n
  rcases k with _ | _ | _ | _ | _ | _ | _ | _ | _ | _ | _ | _ | _ | _ | _ | _ | _ | _ | _ | k
  all_goals first | rfl | skip
  simp only [pic]
  by_cases hi : i = a
  · subst hi
    have hj : ¬ j = 0 := fun q => hn (by rw [q])
    rw [if_neg (fun q => hj q.2), if_neg (fun q => hj q.2)]
  · have e : x_wsh (u_wa x (va_up (x_wa x) a v)) i = x_wsh x i := by
      simp only [x_wsh, x_wa, u_wa, va_up, hi, if_false]
      try rfl
    rw [e]
    rfl
theorem pu_lz (x : zSt) (a : Nat) (v : Nat) (h : a < x_nl x) : zup (pic x) (16, a, 0) (x_lane (u_lz x (va_up (x_lz x) a v)) a) = pic (u_lz x (va_up (x_lz x) a v)) := by
  refine pic_up (if_pos ⟨h, rfl⟩) (fun n hn => ?_)
  obtain ⟨k, i, j⟩ := n
  rcases k with _ | _ | _ | _ | _ | _ | _ | _ | _ | _ | _ | _ | _ | _ | _ | _ | _ | _ | _ | k
  all_goals first | rfl | skip
  simp only [pic]
  by_cases hi : i = a
  · subst hi
    have hj : ¬ j = 0 := fun q => hn (by rw [q])
    rw [if_neg (fun q => hj q.2), if_neg (fun q => hj q.2)]
  · have e : x_lane (u_lz x (va_up (x_lz x) a v)) i = x_lane x i := by
      simp only [x_lane, x_lz, u_lz, va_up, hi, if_false]
      try rfl
    rw [e]
    rfl
theorem pu_lf (x : zSt) (a : Nat) (v : Nat) (h : a < x_nl x) : zup (pic x) (16, a, 0) (x_lane (u_lf x (va_up (x_lf x) a v)) a) = pic (u_lf x (va_up (x_lf x) a v)) := by
  refine pic_up (if_pos ⟨h, rfl⟩) (fun n hn => ?_)
  obtain ⟨k, i, j⟩ := n
  rcases k with _ | _ | _ | _ | _ | _ | _ | _ | _ | _ | _ | _ | _ | _ | _ | _ | _ | _ | _ | k
  all_goals first | rfl | skip
  simp only [pic]
  by_cases hi : i = a
  · subst hi
    have hj : ¬ j = 0 := fun q => hn (by rw [q])
    rw [if_neg (fun q => hj q.2), if_neg (fun q => hj q.2)]
  · have e : x_lane (u_lf x (va_up (x_lf x) a v)) i = x_lane x i := by
      simp only [x_lane, x_lf, u_lf, va_up, hi, if_false]
      try rfl
    rw [e]
    rfl
theorem pu_rh (x : zSt) (a : Nat) (v : Nat → Int32) (h : a < x_or x) : zup (pic x) (11, a, 0) (zin 600 v) = pic (u_rh x (va_up (x_rh x) a v)) := by
  refine pic_up ((if_pos ⟨h, rfl⟩).trans (by simp only [x_rh, u_rh, va_up, if_true])) (fun n hn => ?_)
  obtain ⟨k, i, j⟩ := n
  rcases k with _ | _ | _ | _ | _ | _ | _ | _ | _ | _ | _ | _ | _ | _ | _ | _ | _ | _ | _ | k
  all_goals first | rfl | skip
  simp only [pic]
  by_cases hi : i = a
  · subst hi
    have hj : ¬ j = 0 := fun q => hn (by rw [q])
    rw [if_neg (fun q => hj q.2), if_neg (fun q => hj q.2)]
  · have e : x_rh (u_rh x (va_up (x_rh x) a v)) i = x_rh x i := by
      simp only [x_rh, u_rh, va_up, hi, if_false]
    rw [e]
    rfl
theorem pu_nf (x : zSt) (a : Nat) (v : Nat → Int32) (h : a < x_on x) : zup (pic x) (13, a, 0) (zin 4 v) = pic (u_nf x (va_up (x_nf x) a v)) := by
  refine pic_up ((if_pos ⟨h, rfl⟩).trans (by simp only [x_nf, u_nf, va_up, if_true])) (fun n hn => ?_)
  obtain ⟨k, i, j⟩ := n
  rcases k with _ | _ | _ | _ | _ | _ | _ | _ | _ | _ | _ | _ | _ | _ | _ | _ | _ | _ | _ | k
  all_goals first | rfl | skip
  simp only [pic]
  by_cases hi : i = a
  · subst hi
    have hj : ¬ j = 0 := fun q => hn (by rw [q])
    rw [if_neg (fun q => hj q.2), if_neg (fun q => hj q.2)]
  · have e : x_nf (u_nf x (va_up (x_nf x) a v)) i = x_nf x i := by
      simp only [x_nf, u_nf, va_up, hi, if_false]
    rw [e]
    rfl
theorem pu_li (x : zSt) (a : Nat) (v : Nat → Int32) (h : a < x_nl x) : zup (pic x) (17, a, 0) (zin 121 v) = pic (u_li x (va_up (x_li x) a v)) := by
  refine pic_up ((if_pos ⟨h, rfl⟩).trans (by simp only [x_li, u_li, va_up, if_true])) (fun n hn => ?_)
  obtain ⟨k, i, j⟩ := n
  rcases k with _ | _ | _ | _ | _ | _ | _ | _ | _ | _ | _ | _ | _ | _ | _ | _ | _ | _ | _ | k
  all_goals first | rfl | skip
  simp only [pic]
  by_cases hi : i = a
  · subst hi
    have hj : ¬ j = 0 := fun q => hn (by rw [q])
    rw [if_neg (fun q => hj q.2), if_neg (fun q => hj q.2)]
  · have e : x_li (u_li x (va_up (x_li x) a v)) i = x_li x i := by
      simp only [x_li, u_li, va_up, hi, if_false]
    rw [e]
    rfl
theorem pu_ft (x : zSt) (a b : Nat) (kd : Int32) (sz : Nat) (h : a < x_ng x) (h2 : b < 4) : zup (pic x) (7, a, b) (zfo kd (8, a, b) sz) = pic (u_fk (u_fz x (va_u2 (x_fz x) a b sz)) (va_u2 (x_fk x) a b kd)) := by
  refine pic_up ((if_pos ⟨h, h2⟩).trans (by simp only [x_fk, u_fk, x_fz, u_fz, va_u2, and_self, if_true])) (fun n hn => ?_)
  obtain ⟨k, i, j⟩ := n
  rcases k with _ | _ | _ | _ | _ | _ | _ | _ | _ | _ | _ | _ | _ | _ | _ | _ | _ | _ | _ | k
  all_goals first | rfl | skip
  simp only [pic]
  have hn : ¬ (i = a ∧ j = b) := fun h => hn (by rw [h.1, h.2])
  have e1 : x_fk (u_fk (u_fz x (va_u2 (x_fz x) a b sz)) (va_u2 (x_fk x) a b kd)) i j = x_fk x i j := by
    simp only [x_fk, u_fk, va_u2, hn, if_false]
  have e2 : x_fz (u_fk (u_fz x (va_u2 (x_fz x) a b sz)) (va_u2 (x_fk x) a b kd)) i j = x_fz x i j := by
    simp only [x_fz, u_fk, u_fz, va_u2, hn, if_false]
  rw [e1, e2]
  rfl
theorem pu_fg (x : zSt) (a b : Nat) (v : Nat → Int32) (h : a < x_ng x) (h2 : b < 4) : zup (pic x) (8, a, b) (zin 4 v) = pic (u_fg x (va_u2 (x_fg x) a b v)) := by
  refine pic_up ((if_pos ⟨h, h2⟩).trans (by simp only [x_fg, u_fg, va_u2, and_self, if_true])) (fun n hn => ?_)
  obtain ⟨k, i, j⟩ := n
  rcases k with _ | _ | _ | _ | _ | _ | _ | _ | _ | _ | _ | _ | _ | _ | _ | _ | _ | _ | _ | k
  all_goals first | rfl | skip
  simp only [pic]
  have hn : ¬ (i = a ∧ j = b) := fun h => hn (by rw [h.1, h.2])
  have e1 : x_fg (u_fg x (va_u2 (x_fg x) a b v)) i j = x_fg x i j := by
    simp only [x_fg, u_fg, va_u2, hn, if_false]
  rw [e1]
  rfl
theorem pu_nb (x : zSt) (v : Nat → Int32) : zup (pic x) (3, 0, 0) (zin 12 v) = pic (u_nb x v) := by
  refine pic_up rfl (fun n hn => ?_)
  obtain ⟨k, i, j⟩ := n
  rcases k with _ | _ | _ | _ | _ | _ | _ | _ | _ | _ | _ | _ | _ | _ | _ | _ | _ | _ | _ | k
  all_goals first | rfl | skip
  simp only [pic]
  have hn : ¬ (i = 0 ∧ j = 0) := fun h => hn (by rw [h.1, h.2])
  rw [if_neg hn, if_neg hn]
theorem pu_ln (x : zSt) (v : Nat → Option Nat) : zup (pic x) (4, 0, 0) (zra "WishRoutes$Lane" 144 (fun p => (v p).map (fun l => (16, l, 0)))) = pic (u_ln x v) := by
  refine pic_up rfl (fun n hn => ?_)
  obtain ⟨k, i, j⟩ := n
  rcases k with _ | _ | _ | _ | _ | _ | _ | _ | _ | _ | _ | _ | _ | _ | _ | _ | _ | _ | _ | k
  all_goals first | rfl | skip
  simp only [pic]
  have hn : ¬ (i = 0 ∧ j = 0) := fun h => hn (by rw [h.1, h.2])
  rw [if_neg hn, if_neg hn]
/-- words of rows -/
theorem pu_rw (x x' : zSt) (a b : Nat) (f : Nat → Int64) (hr : ∀ i j, x_rw x' i j = if i = a ∧ j = b then some f else x_rw x i j) (hs : x_rw x a b ≠ none) (ho : ∀ k i j, k ≠ 5 → k ≠ 6 → pic x (k, i, j) = pic x' (k, i, j)) : zup (pic x) (6, a, b) (zlo f) = pic x' := by
  refine pic_up ?_ (fun n hn => ?_)
  · show (x_rw x' a b).map zlo = _
    rw [hr, if_pos ⟨rfl, rfl⟩]
    rfl
  · obtain ⟨k, i, j⟩ := n
    by_cases h5 : k = 5
    · subst h5
      show (x_rw x i j).map _ = (x_rw x' i j).map _
      rw [hr]
      split
      · next h =>
        obtain ⟨rfl, rfl⟩ := h
        cases hq : x_rw x i j with
        | none => exact absurd hq hs
        | some g => rfl
      · rfl
    · by_cases h6 : k = 6
      · subst h6
        show (x_rw x i j).map _ = (x_rw x' i j).map _
        rw [hr, if_neg (fun h => hn (by rw [h.1, h.2]))]
      · exact ho k i j h5 h6
theorem pu_kn (x : zSt) (f : Nat → Int64) : zup (pic x) (6, 0, 0) (zlo f) = pic (u_kn x f) := by
  refine pu_rw x _ 0 0 f (fun i j => ?_) (by simp [x_rw]) (fun k i j h5 h6 => ?_)
  · by_cases hi : i = 0
    · subst hi
      by_cases hj : j = 0
      · subst hj; rfl
      · have : ¬ (0 = 0 ∧ j = 0) := fun h => hj h.2
        rw [if_neg this]; rw [x_rw, x_rw, if_pos rfl, if_pos rfl, if_neg hj, if_neg hj]; rfl
    · have : ¬ (i = 0 ∧ j = 0) := fun h => hi h.1
      rw [if_neg this]; rw [x_rw, x_rw, if_neg hi, if_neg hi]; rfl
  · rcases k with _ | _ | _ | _ | _ | _ | _ | _ | _ | _ | _ | _ | _ | _ | _ | _ | _ | _ | _ | k
    all_goals first | rfl | exact absurd rfl h5 | exact absurd rfl h6
theorem pu_me (x : zSt) (f : Nat → Int64) : zup (pic x) (6, 0, 1) (zlo f) = pic (u_me x f) := by
  refine pu_rw x _ 0 1 f (fun i j => ?_) (by simp [x_rw]) (fun k i j h5 h6 => ?_)
  · by_cases hi : i = 0
    · subst hi
      by_cases hj : j = 1
      · subst hj; rfl
      · have : ¬ (0 = 0 ∧ j = 1) := fun h => hj h.2
        rw [if_neg this]; rw [x_rw, x_rw, if_pos rfl, if_pos rfl, if_neg hj, if_neg hj]; rfl
    · have : ¬ (i = 0 ∧ j = 1) := fun h => hi h.1
      rw [if_neg this]; rw [x_rw, x_rw, if_neg hi, if_neg hi]; rfl
  · rcases k with _ | _ | _ | _ | _ | _ | _ | _ | _ | _ | _ | _ | _ | _ | _ | _ | _ | _ | _ | k
    all_goals first | rfl | exact absurd rfl h5 | exact absurd rfl h6
theorem pu_ob (x : zSt) (w : Nat) (f : Nat → Int64) (hw : w < x_ow x) : zup (pic x) (6, 1, w) (zlo f) = pic (u_ob x (va_up (x_ob x) w f)) := by
  refine pu_rw x _ 1 w f (fun i j => ?_) (by simp [x_rw, hw]) (fun k i j h5 h6 => ?_)
  · by_cases hi : i = 1
    · subst hi
      have e : x_ob (u_ob x (va_up (x_ob x) w f)) j = if j = w then f else x_ob x j := by simp only [x_ob, u_ob, va_up]
      have e2 : x_ow (u_ob x (va_up (x_ob x) w f)) = x_ow x := rfl
      simp only [x_rw, e, e2]
      by_cases hj : j = w
      · subst hj; simp [hw]
      · simp [hj]
    · have : ¬ (i = 1 ∧ j = w) := fun h => hi h.1
      rw [if_neg this]
      simp only [x_rw, hi, if_false]
      rfl
  · rcases k with _ | _ | _ | _ | _ | _ | _ | _ | _ | _ | _ | _ | _ | _ | _ | _ | _ | _ | _ | k
    all_goals first | rfl | exact absurd rfl h5 | exact absurd rfl h6
theorem pu_lt (x : zSt) (w : Nat) (f : Nat → Int64) (hw : w < x_nl x) : zup (pic x) (6, 2, w) (zlo f) = pic (u_lt x (va_up (x_lt x) w f)) := by
  refine pu_rw x _ 2 w f (fun i j => ?_) (by simp [x_rw, hw]) (fun k i j h5 h6 => ?_)
  · by_cases hi : i = 2
    · subst hi
      have e : x_lt (u_lt x (va_up (x_lt x) w f)) j = if j = w then f else x_lt x j := by simp only [x_lt, u_lt, va_up]
      have e2 : x_nl (u_lt x (va_up (x_lt x) w f)) = x_nl x := rfl
      simp only [x_rw, e, e2]
      by_cases hj : j = w
      · subst hj; simp [hw]
      · simp [hj]
    · have : ¬ (i = 2 ∧ j = w) := fun h => hi h.1
      rw [if_neg this]
      simp only [x_rw, hi, if_false]
      rfl
  · rcases k with _ | _ | _ | _ | _ | _ | _ | _ | _ | _ | _ | _ | _ | _ | _ | _ | _ | _ | _ | k
    all_goals first | rfl | exact absurd rfl h5 | exact absurd rfl h6
theorem pu_lb (x : zSt) (w : Nat) (f : Nat → Int64) (hw : w < x_nl x) : zup (pic x) (6, 3, w) (zlo f) = pic (u_lb x (va_up (x_lb x) w f)) := by
  refine pu_rw x _ 3 w f (fun i j => ?_) (by simp [x_rw, hw]) (fun k i j h5 h6 => ?_)
  · by_cases hi : i = 3
    · subst hi
      have e : x_lb (u_lb x (va_up (x_lb x) w f)) j = if j = w then f else x_lb x j := by simp only [x_lb, u_lb, va_up]
      have e2 : x_nl (u_lb x (va_up (x_lb x) w f)) = x_nl x := rfl
      simp only [x_rw, e, e2]
      by_cases hj : j = w
      · subst hj; simp [hw]
      · simp [hj]
    · have : ¬ (i = 3 ∧ j = w) := fun h => hi h.1
      rw [if_neg this]
      simp only [x_rw, hi, if_false]
      rfl
  · rcases k with _ | _ | _ | _ | _ | _ | _ | _ | _ | _ | _ | _ | _ | _ | _ | _ | _ | _ | _ | k
    all_goals first | rfl | exact absurd rfl h5 | exact absurd rfl h6
theorem pu_lr (x : zSt) (l s : Nat) (f : Nat → Int64) (hl : l < x_nl x) (hs : s < 121) (hm : x_lr x l s ≠ none) : zup (pic x) (6, 4 + l, s) (zlo f) = pic (u_lr x (va_u2 (x_lr x) l s (some f))) := by
  refine pu_rw x _ (4 + l) s f (fun i j => ?_) ?_ (fun k i j h5 h6 => ?_)
  · have e : ∀ a b, x_lr (u_lr x (va_u2 (x_lr x) l s (some f))) a b = if a = l ∧ b = s then some f else x_lr x a b := fun a b => by simp only [x_lr, u_lr, va_u2]
    have e2 : x_nl (u_lr x (va_u2 (x_lr x) l s (some f))) = x_nl x := rfl
    by_cases h0 : i = 0
    · subst h0; rw [if_neg (fun h => absurd h.1 (by omega))]; rfl
    by_cases h1 : i = 1
    · subst h1; rw [if_neg (fun h => absurd h.1 (by omega))]; rfl
    by_cases h2 : i = 2
    · subst h2; rw [if_neg (fun h => absurd h.1 (by omega))]; rfl
    by_cases h3 : i = 3
    · subst h3; rw [if_neg (fun h => absurd h.1 (by omega))]; rfl
    simp only [x_rw, h0, h1, h2, h3, if_false, e, e2]
    by_cases hi : i = 4 + l
    · subst hi
      have : 4 + l - 4 = l := by omega
      simp only [this, true_and]
      by_cases hj : j = s
      · subst hj; simp [hl, hs]
      · simp [hj]
    · have h4 : ¬ i - 4 = l := by omega
      simp only [h4, hi, false_and, if_false]
  · have : 4 + l - 4 = l := by omega
    have h0 : ¬ 4 + l = 0 := by omega
    have h1 : ¬ 4 + l = 1 := by omega
    have h2 : ¬ 4 + l = 2 := by omega
    have h3 : ¬ 4 + l = 3 := by omega
    simp only [x_rw, h0, h1, h2, h3, if_false, this, hl, hs, and_self, if_true]
    exact hm
  · rcases k with _ | _ | _ | _ | _ | _ | _ | _ | _ | _ | _ | _ | _ | _ | _ | _ | _ | _ | _ | k
    all_goals first | rfl | exact absurd rfl h5 | exact absurd rfl h6 | skip
    have e : x_lrs x i = x_lrs (u_lr x (va_u2 (x_lr x) l s (some f))) i := by
      funext t
      have ee : x_lr (u_lr x (va_u2 (x_lr x) l s (some f))) i t = if i = l ∧ t = s then some f else x_lr x i t := by simp only [x_lr, u_lr, va_u2]
      simp only [x_lrs, ee]
      by_cases hit : i = l ∧ t = s
      · obtain ⟨rfl, rfl⟩ := hit
        cases hq : x_lr x i t with
        | none => exact absurd hq hm
        | some g => simp
      · simp only [hit, if_false]
    simp only [pic, e]
    rfl
end
section
/-! reading what was set -/
theorem zM {P : zMp → Prop} {M M' : zMp} (e : M = M') (h : P M') : P M := e ▸ h
theorem g_dk_dk (x : zSt) (v : Nat) : x_dk (u_dk x v) = v := rfl
theorem g_dk_lk (x : zSt) (v : Int32) : x_dk (u_lk x v) = x_dk x := rfl
theorem g_dk_po (x : zSt) (v : Int32) : x_dk (u_po x v) = x_dk x := rfl
theorem g_dk_ne (x : zSt) (v : Int32) : x_dk (u_ne x v) = x_dk x := rfl
theorem g_dk_td (x : zSt) (v : Int32) : x_dk (u_td x v) = x_dk x := rfl
theorem g_dk_nb (x : zSt) (v : Nat → Int32) : x_dk (u_nb x v) = x_dk x := rfl
theorem g_dk_ln (x : zSt) (v : Nat → Option Nat) : x_dk (u_ln x v) = x_dk x := rfl
theorem g_dk_nr (x : zSt) (v : Nat) : x_dk (u_nr x v) = x_dk x := rfl
theorem g_dk_nw (x : zSt) (v : Nat) : x_dk (u_nw x v) = x_dk x := rfl
theorem g_dk_nn (x : zSt) (v : Nat) : x_dk (u_nn x v) = x_dk x := rfl
theorem g_dk_ns (x : zSt) (v : Nat) : x_dk (u_ns x v) = x_dk x := rfl
theorem g_dk_or (x : zSt) (v : Nat) : x_dk (u_or x v) = x_dk x := rfl
theorem g_dk_ow (x : zSt) (v : Nat) : x_dk (u_ow x v) = x_dk x := rfl
theorem g_dk_on (x : zSt) (v : Nat) : x_dk (u_on x v) = x_dk x := rfl
theorem g_dk_nl (x : zSt) (v : Nat) : x_dk (u_nl x v) = x_dk x := rfl
theorem g_dk_ng (x : zSt) (v : Nat) : x_dk (u_ng x v) = x_dk x := rfl
theorem g_dk_rg (x : zSt) (v : Nat) : x_dk (u_rg x v) = x_dk x := rfl
theorem g_dk_lc (x : zSt) (v : Nat → Int32) : x_dk (u_lc x v) = x_dk x := rfl
theorem g_dk_cp (x : zSt) (v : Nat → Nat) : x_dk (u_cp x v) = x_dk x := rfl
theorem g_dk_gb (x : zSt) (v : Nat → Nat → Option zAE) : x_dk (u_gb x v) = x_dk x := rfl
theorem g_dk_sp (x : zSt) (v : Nat → Nat) : x_dk (u_sp x v) = x_dk x := rfl
theorem g_dk_kn (x : zSt) (v : Nat → Int64) : x_dk (u_kn x v) = x_dk x := rfl
theorem g_dk_me (x : zSt) (v : Nat → Int64) : x_dk (u_me x v) = x_dk x := rfl
theorem g_dk_ob (x : zSt) (v : Nat → Nat → Int64) : x_dk (u_ob x v) = x_dk x := rfl
theorem g_dk_fk (x : zSt) (v : Nat → Nat → Int32) : x_dk (u_fk x v) = x_dk x := rfl
theorem g_dk_fz (x : zSt) (v : Nat → Nat → Nat) : x_dk (u_fz x v) = x_dk x := rfl
theorem g_dk_fg (x : zSt) (v : Nat → Nat → Nat → Int32) : x_dk (u_fg x v) = x_dk x := rfl
theorem g_dk_rd (x : zSt) (v : Nat → Int32) : x_dk (u_rd x v) = x_dk x := rfl
theorem g_dk_rz (x : zSt) (v : Nat → Nat) : x_dk (u_rz x v) = x_dk x := rfl
theorem g_dk_rh (x : zSt) (v : Nat → Nat → Int32) : x_dk (u_rh x v) = x_dk x := rfl
theorem g_dk_nd (x : zSt) (v : Nat → Int32) : x_dk (u_nd x v) = x_dk x := rfl
theorem g_dk_nm (x : zSt) (v : Nat → Int32) : x_dk (u_nm x v) = x_dk x := rfl
theorem g_dk_nv (x : zSt) (v : Nat → Int32) : x_dk (u_nv x v) = x_dk x := rfl
theorem g_dk_nh (x : zSt) (v : Nat → Int32) : x_dk (u_nh x v) = x_dk x := rfl
theorem g_dk_nf (x : zSt) (v : Nat → Nat → Int32) : x_dk (u_nf x v) = x_dk x := rfl
theorem g_dk_wr (x : zSt) (v : Nat → Nat) : x_dk (u_wr x v) = x_dk x := rfl
theorem g_dk_wa (x : zSt) (v : Nat → Bool) : x_dk (u_wa x v) = x_dk x := rfl
theorem g_dk_lz (x : zSt) (v : Nat → Nat) : x_dk (u_lz x v) = x_dk x := rfl
theorem g_dk_lf (x : zSt) (v : Nat → Nat) : x_dk (u_lf x v) = x_dk x := rfl
theorem g_dk_li (x : zSt) (v : Nat → Nat → Int32) : x_dk (u_li x v) = x_dk x := rfl
theorem g_dk_lt (x : zSt) (v : Nat → Nat → Int64) : x_dk (u_lt x v) = x_dk x := rfl
theorem g_dk_lb (x : zSt) (v : Nat → Nat → Int64) : x_dk (u_lb x v) = x_dk x := rfl
theorem g_dk_lr (x : zSt) (v : Nat → Nat → Option (Nat → Int64)) : x_dk (u_lr x v) = x_dk x := rfl
theorem g_dk_tn (x : zSt) (v : Nat) : x_dk (u_tn x v) = x_dk x := rfl
theorem g_dk_tf (x : zSt) (v : Nat → Nat → Int32) : x_dk (u_tf x v) = x_dk x := rfl
theorem g_lk_dk (x : zSt) (v : Nat) : x_lk (u_dk x v) = x_lk x := rfl
theorem g_lk_lk (x : zSt) (v : Int32) : x_lk (u_lk x v) = v := rfl
theorem g_lk_po (x : zSt) (v : Int32) : x_lk (u_po x v) = x_lk x := rfl
theorem g_lk_ne (x : zSt) (v : Int32) : x_lk (u_ne x v) = x_lk x := rfl
theorem g_lk_td (x : zSt) (v : Int32) : x_lk (u_td x v) = x_lk x := rfl
theorem g_lk_nb (x : zSt) (v : Nat → Int32) : x_lk (u_nb x v) = x_lk x := rfl
theorem g_lk_ln (x : zSt) (v : Nat → Option Nat) : x_lk (u_ln x v) = x_lk x := rfl
theorem g_lk_nr (x : zSt) (v : Nat) : x_lk (u_nr x v) = x_lk x := rfl
theorem g_lk_nw (x : zSt) (v : Nat) : x_lk (u_nw x v) = x_lk x := rfl
theorem g_lk_nn (x : zSt) (v : Nat) : x_lk (u_nn x v) = x_lk x := rfl
theorem g_lk_ns (x : zSt) (v : Nat) : x_lk (u_ns x v) = x_lk x := rfl
theorem g_lk_or (x : zSt) (v : Nat) : x_lk (u_or x v) = x_lk x := rfl
theorem g_lk_ow (x : zSt) (v : Nat) : x_lk (u_ow x v) = x_lk x := rfl
theorem g_lk_on (x : zSt) (v : Nat) : x_lk (u_on x v) = x_lk x := rfl
theorem g_lk_nl (x : zSt) (v : Nat) : x_lk (u_nl x v) = x_lk x := rfl
theorem g_lk_ng (x : zSt) (v : Nat) : x_lk (u_ng x v) = x_lk x := rfl
theorem g_lk_rg (x : zSt) (v : Nat) : x_lk (u_rg x v) = x_lk x := rfl
theorem g_lk_lc (x : zSt) (v : Nat → Int32) : x_lk (u_lc x v) = x_lk x := rfl
theorem g_lk_cp (x : zSt) (v : Nat → Nat) : x_lk (u_cp x v) = x_lk x := rfl
theorem g_lk_gb (x : zSt) (v : Nat → Nat → Option zAE) : x_lk (u_gb x v) = x_lk x := rfl
theorem g_lk_sp (x : zSt) (v : Nat → Nat) : x_lk (u_sp x v) = x_lk x := rfl
theorem g_lk_kn (x : zSt) (v : Nat → Int64) : x_lk (u_kn x v) = x_lk x := rfl
theorem g_lk_me (x : zSt) (v : Nat → Int64) : x_lk (u_me x v) = x_lk x := rfl
theorem g_lk_ob (x : zSt) (v : Nat → Nat → Int64) : x_lk (u_ob x v) = x_lk x := rfl
theorem g_lk_fk (x : zSt) (v : Nat → Nat → Int32) : x_lk (u_fk x v) = x_lk x := rfl
theorem g_lk_fz (x : zSt) (v : Nat → Nat → Nat) : x_lk (u_fz x v) = x_lk x := rfl
theorem g_lk_fg (x : zSt) (v : Nat → Nat → Nat → Int32) : x_lk (u_fg x v) = x_lk x := rfl
theorem g_lk_rd (x : zSt) (v : Nat → Int32) : x_lk (u_rd x v) = x_lk x := rfl
theorem g_lk_rz (x : zSt) (v : Nat → Nat) : x_lk (u_rz x v) = x_lk x := rfl
theorem g_lk_rh (x : zSt) (v : Nat → Nat → Int32) : x_lk (u_rh x v) = x_lk x := rfl
theorem g_lk_nd (x : zSt) (v : Nat → Int32) : x_lk (u_nd x v) = x_lk x := rfl
theorem g_lk_nm (x : zSt) (v : Nat → Int32) : x_lk (u_nm x v) = x_lk x := rfl
theorem g_lk_nv (x : zSt) (v : Nat → Int32) : x_lk (u_nv x v) = x_lk x := rfl
theorem g_lk_nh (x : zSt) (v : Nat → Int32) : x_lk (u_nh x v) = x_lk x := rfl
theorem g_lk_nf (x : zSt) (v : Nat → Nat → Int32) : x_lk (u_nf x v) = x_lk x := rfl
theorem g_lk_wr (x : zSt) (v : Nat → Nat) : x_lk (u_wr x v) = x_lk x := rfl
theorem g_lk_wa (x : zSt) (v : Nat → Bool) : x_lk (u_wa x v) = x_lk x := rfl
theorem g_lk_lz (x : zSt) (v : Nat → Nat) : x_lk (u_lz x v) = x_lk x := rfl
theorem g_lk_lf (x : zSt) (v : Nat → Nat) : x_lk (u_lf x v) = x_lk x := rfl
theorem g_lk_li (x : zSt) (v : Nat → Nat → Int32) : x_lk (u_li x v) = x_lk x := rfl
theorem g_lk_lt (x : zSt) (v : Nat → Nat → Int64) : x_lk (u_lt x v) = x_lk x := rfl
theorem g_lk_lb (x : zSt) (v : Nat → Nat → Int64) : x_lk (u_lb x v) = x_lk x := rfl
theorem g_lk_lr (x : zSt) (v : Nat → Nat → Option (Nat → Int64)) : x_lk (u_lr x v) = x_lk x := rfl
theorem g_lk_tn (x : zSt) (v : Nat) : x_lk (u_tn x v) = x_lk x := rfl
theorem g_lk_tf (x : zSt) (v : Nat → Nat → Int32) : x_lk (u_tf x v) = x_lk x := rfl
theorem g_po_dk (x : zSt) (v : Nat) : x_po (u_dk x v) = x_po x := rfl
theorem g_po_lk (x : zSt) (v : Int32) : x_po (u_lk x v) = x_po x := rfl
theorem g_po_po (x : zSt) (v : Int32) : x_po (u_po x v) = v := rfl
theorem g_po_ne (x : zSt) (v : Int32) : x_po (u_ne x v) = x_po x := rfl
theorem g_po_td (x : zSt) (v : Int32) : x_po (u_td x v) = x_po x := rfl
theorem g_po_nb (x : zSt) (v : Nat → Int32) : x_po (u_nb x v) = x_po x := rfl
theorem g_po_ln (x : zSt) (v : Nat → Option Nat) : x_po (u_ln x v) = x_po x := rfl
theorem g_po_nr (x : zSt) (v : Nat) : x_po (u_nr x v) = x_po x := rfl
theorem g_po_nw (x : zSt) (v : Nat) : x_po (u_nw x v) = x_po x := rfl
theorem g_po_nn (x : zSt) (v : Nat) : x_po (u_nn x v) = x_po x := rfl
theorem g_po_ns (x : zSt) (v : Nat) : x_po (u_ns x v) = x_po x := rfl
theorem g_po_or (x : zSt) (v : Nat) : x_po (u_or x v) = x_po x := rfl
theorem g_po_ow (x : zSt) (v : Nat) : x_po (u_ow x v) = x_po x := rfl
theorem g_po_on (x : zSt) (v : Nat) : x_po (u_on x v) = x_po x := rfl
theorem g_po_nl (x : zSt) (v : Nat) : x_po (u_nl x v) = x_po x := rfl
theorem g_po_ng (x : zSt) (v : Nat) : x_po (u_ng x v) = x_po x := rfl
theorem g_po_rg (x : zSt) (v : Nat) : x_po (u_rg x v) = x_po x := rfl
theorem g_po_lc (x : zSt) (v : Nat → Int32) : x_po (u_lc x v) = x_po x := rfl
theorem g_po_cp (x : zSt) (v : Nat → Nat) : x_po (u_cp x v) = x_po x := rfl
theorem g_po_gb (x : zSt) (v : Nat → Nat → Option zAE) : x_po (u_gb x v) = x_po x := rfl
theorem g_po_sp (x : zSt) (v : Nat → Nat) : x_po (u_sp x v) = x_po x := rfl
theorem g_po_kn (x : zSt) (v : Nat → Int64) : x_po (u_kn x v) = x_po x := rfl
theorem g_po_me (x : zSt) (v : Nat → Int64) : x_po (u_me x v) = x_po x := rfl
theorem g_po_ob (x : zSt) (v : Nat → Nat → Int64) : x_po (u_ob x v) = x_po x := rfl
theorem g_po_fk (x : zSt) (v : Nat → Nat → Int32) : x_po (u_fk x v) = x_po x := rfl
theorem g_po_fz (x : zSt) (v : Nat → Nat → Nat) : x_po (u_fz x v) = x_po x := rfl
theorem g_po_fg (x : zSt) (v : Nat → Nat → Nat → Int32) : x_po (u_fg x v) = x_po x := rfl
theorem g_po_rd (x : zSt) (v : Nat → Int32) : x_po (u_rd x v) = x_po x := rfl
theorem g_po_rz (x : zSt) (v : Nat → Nat) : x_po (u_rz x v) = x_po x := rfl
theorem g_po_rh (x : zSt) (v : Nat → Nat → Int32) : x_po (u_rh x v) = x_po x := rfl
theorem g_po_nd (x : zSt) (v : Nat → Int32) : x_po (u_nd x v) = x_po x := rfl
theorem g_po_nm (x : zSt) (v : Nat → Int32) : x_po (u_nm x v) = x_po x := rfl
theorem g_po_nv (x : zSt) (v : Nat → Int32) : x_po (u_nv x v) = x_po x := rfl
theorem g_po_nh (x : zSt) (v : Nat → Int32) : x_po (u_nh x v) = x_po x := rfl
theorem g_po_nf (x : zSt) (v : Nat → Nat → Int32) : x_po (u_nf x v) = x_po x := rfl
theorem g_po_wr (x : zSt) (v : Nat → Nat) : x_po (u_wr x v) = x_po x := rfl
theorem g_po_wa (x : zSt) (v : Nat → Bool) : x_po (u_wa x v) = x_po x := rfl
theorem g_po_lz (x : zSt) (v : Nat → Nat) : x_po (u_lz x v) = x_po x := rfl
theorem g_po_lf (x : zSt) (v : Nat → Nat) : x_po (u_lf x v) = x_po x := rfl
theorem g_po_li (x : zSt) (v : Nat → Nat → Int32) : x_po (u_li x v) = x_po x := rfl
theorem g_po_lt (x : zSt) (v : Nat → Nat → Int64) : x_po (u_lt x v) = x_po x := rfl
theorem g_po_lb (x : zSt) (v : Nat → Nat → Int64) : x_po (u_lb x v) = x_po x := rfl
theorem g_po_lr (x : zSt) (v : Nat → Nat → Option (Nat → Int64)) : x_po (u_lr x v) = x_po x := rfl
theorem g_po_tn (x : zSt) (v : Nat) : x_po (u_tn x v) = x_po x := rfl
theorem g_po_tf (x : zSt) (v : Nat → Nat → Int32) : x_po (u_tf x v) = x_po x := rfl
theorem g_ne_dk (x : zSt) (v : Nat) : x_ne (u_dk x v) = x_ne x := rfl
theorem g_ne_lk (x : zSt) (v : Int32) : x_ne (u_lk x v) = x_ne x := rfl
theorem g_ne_po (x : zSt) (v : Int32) : x_ne (u_po x v) = x_ne x := rfl
theorem g_ne_ne (x : zSt) (v : Int32) : x_ne (u_ne x v) = v := rfl
theorem g_ne_td (x : zSt) (v : Int32) : x_ne (u_td x v) = x_ne x := rfl
theorem g_ne_nb (x : zSt) (v : Nat → Int32) : x_ne (u_nb x v) = x_ne x := rfl
theorem g_ne_ln (x : zSt) (v : Nat → Option Nat) : x_ne (u_ln x v) = x_ne x := rfl
theorem g_ne_nr (x : zSt) (v : Nat) : x_ne (u_nr x v) = x_ne x := rfl
theorem g_ne_nw (x : zSt) (v : Nat) : x_ne (u_nw x v) = x_ne x := rfl
theorem g_ne_nn (x : zSt) (v : Nat) : x_ne (u_nn x v) = x_ne x := rfl
theorem g_ne_ns (x : zSt) (v : Nat) : x_ne (u_ns x v) = x_ne x := rfl
theorem g_ne_or (x : zSt) (v : Nat) : x_ne (u_or x v) = x_ne x := rfl
theorem g_ne_ow (x : zSt) (v : Nat) : x_ne (u_ow x v) = x_ne x := rfl
theorem g_ne_on (x : zSt) (v : Nat) : x_ne (u_on x v) = x_ne x := rfl
theorem g_ne_nl (x : zSt) (v : Nat) : x_ne (u_nl x v) = x_ne x := rfl
theorem g_ne_ng (x : zSt) (v : Nat) : x_ne (u_ng x v) = x_ne x := rfl
theorem g_ne_rg (x : zSt) (v : Nat) : x_ne (u_rg x v) = x_ne x := rfl
theorem g_ne_lc (x : zSt) (v : Nat → Int32) : x_ne (u_lc x v) = x_ne x := rfl
theorem g_ne_cp (x : zSt) (v : Nat → Nat) : x_ne (u_cp x v) = x_ne x := rfl
theorem g_ne_gb (x : zSt) (v : Nat → Nat → Option zAE) : x_ne (u_gb x v) = x_ne x := rfl
theorem g_ne_sp (x : zSt) (v : Nat → Nat) : x_ne (u_sp x v) = x_ne x := rfl
theorem g_ne_kn (x : zSt) (v : Nat → Int64) : x_ne (u_kn x v) = x_ne x := rfl
theorem g_ne_me (x : zSt) (v : Nat → Int64) : x_ne (u_me x v) = x_ne x := rfl
theorem g_ne_ob (x : zSt) (v : Nat → Nat → Int64) : x_ne (u_ob x v) = x_ne x := rfl
theorem g_ne_fk (x : zSt) (v : Nat → Nat → Int32) : x_ne (u_fk x v) = x_ne x := rfl
theorem g_ne_fz (x : zSt) (v : Nat → Nat → Nat) : x_ne (u_fz x v) = x_ne x := rfl
theorem g_ne_fg (x : zSt) (v : Nat → Nat → Nat → Int32) : x_ne (u_fg x v) = x_ne x := rfl
theorem g_ne_rd (x : zSt) (v : Nat → Int32) : x_ne (u_rd x v) = x_ne x := rfl
theorem g_ne_rz (x : zSt) (v : Nat → Nat) : x_ne (u_rz x v) = x_ne x := rfl
theorem g_ne_rh (x : zSt) (v : Nat → Nat → Int32) : x_ne (u_rh x v) = x_ne x := rfl
theorem g_ne_nd (x : zSt) (v : Nat → Int32) : x_ne (u_nd x v) = x_ne x := rfl
theorem g_ne_nm (x : zSt) (v : Nat → Int32) : x_ne (u_nm x v) = x_ne x := rfl
theorem g_ne_nv (x : zSt) (v : Nat → Int32) : x_ne (u_nv x v) = x_ne x := rfl
theorem g_ne_nh (x : zSt) (v : Nat → Int32) : x_ne (u_nh x v) = x_ne x := rfl
theorem g_ne_nf (x : zSt) (v : Nat → Nat → Int32) : x_ne (u_nf x v) = x_ne x := rfl
theorem g_ne_wr (x : zSt) (v : Nat → Nat) : x_ne (u_wr x v) = x_ne x := rfl
theorem g_ne_wa (x : zSt) (v : Nat → Bool) : x_ne (u_wa x v) = x_ne x := rfl
theorem g_ne_lz (x : zSt) (v : Nat → Nat) : x_ne (u_lz x v) = x_ne x := rfl
theorem g_ne_lf (x : zSt) (v : Nat → Nat) : x_ne (u_lf x v) = x_ne x := rfl
theorem g_ne_li (x : zSt) (v : Nat → Nat → Int32) : x_ne (u_li x v) = x_ne x := rfl
theorem g_ne_lt (x : zSt) (v : Nat → Nat → Int64) : x_ne (u_lt x v) = x_ne x := rfl
theorem g_ne_lb (x : zSt) (v : Nat → Nat → Int64) : x_ne (u_lb x v) = x_ne x := rfl
theorem g_ne_lr (x : zSt) (v : Nat → Nat → Option (Nat → Int64)) : x_ne (u_lr x v) = x_ne x := rfl
theorem g_ne_tn (x : zSt) (v : Nat) : x_ne (u_tn x v) = x_ne x := rfl
theorem g_ne_tf (x : zSt) (v : Nat → Nat → Int32) : x_ne (u_tf x v) = x_ne x := rfl
theorem g_td_dk (x : zSt) (v : Nat) : x_td (u_dk x v) = x_td x := rfl
theorem g_td_lk (x : zSt) (v : Int32) : x_td (u_lk x v) = x_td x := rfl
theorem g_td_po (x : zSt) (v : Int32) : x_td (u_po x v) = x_td x := rfl
theorem g_td_ne (x : zSt) (v : Int32) : x_td (u_ne x v) = x_td x := rfl
theorem g_td_td (x : zSt) (v : Int32) : x_td (u_td x v) = v := rfl
theorem g_td_nb (x : zSt) (v : Nat → Int32) : x_td (u_nb x v) = x_td x := rfl
theorem g_td_ln (x : zSt) (v : Nat → Option Nat) : x_td (u_ln x v) = x_td x := rfl
theorem g_td_nr (x : zSt) (v : Nat) : x_td (u_nr x v) = x_td x := rfl
theorem g_td_nw (x : zSt) (v : Nat) : x_td (u_nw x v) = x_td x := rfl
theorem g_td_nn (x : zSt) (v : Nat) : x_td (u_nn x v) = x_td x := rfl
theorem g_td_ns (x : zSt) (v : Nat) : x_td (u_ns x v) = x_td x := rfl
theorem g_td_or (x : zSt) (v : Nat) : x_td (u_or x v) = x_td x := rfl
theorem g_td_ow (x : zSt) (v : Nat) : x_td (u_ow x v) = x_td x := rfl
theorem g_td_on (x : zSt) (v : Nat) : x_td (u_on x v) = x_td x := rfl
theorem g_td_nl (x : zSt) (v : Nat) : x_td (u_nl x v) = x_td x := rfl
theorem g_td_ng (x : zSt) (v : Nat) : x_td (u_ng x v) = x_td x := rfl
theorem g_td_rg (x : zSt) (v : Nat) : x_td (u_rg x v) = x_td x := rfl
theorem g_td_lc (x : zSt) (v : Nat → Int32) : x_td (u_lc x v) = x_td x := rfl
theorem g_td_cp (x : zSt) (v : Nat → Nat) : x_td (u_cp x v) = x_td x := rfl
theorem g_td_gb (x : zSt) (v : Nat → Nat → Option zAE) : x_td (u_gb x v) = x_td x := rfl
theorem g_td_sp (x : zSt) (v : Nat → Nat) : x_td (u_sp x v) = x_td x := rfl
theorem g_td_kn (x : zSt) (v : Nat → Int64) : x_td (u_kn x v) = x_td x := rfl
theorem g_td_me (x : zSt) (v : Nat → Int64) : x_td (u_me x v) = x_td x := rfl
theorem g_td_ob (x : zSt) (v : Nat → Nat → Int64) : x_td (u_ob x v) = x_td x := rfl
theorem g_td_fk (x : zSt) (v : Nat → Nat → Int32) : x_td (u_fk x v) = x_td x := rfl
theorem g_td_fz (x : zSt) (v : Nat → Nat → Nat) : x_td (u_fz x v) = x_td x := rfl
theorem g_td_fg (x : zSt) (v : Nat → Nat → Nat → Int32) : x_td (u_fg x v) = x_td x := rfl
theorem g_td_rd (x : zSt) (v : Nat → Int32) : x_td (u_rd x v) = x_td x := rfl
theorem g_td_rz (x : zSt) (v : Nat → Nat) : x_td (u_rz x v) = x_td x := rfl
theorem g_td_rh (x : zSt) (v : Nat → Nat → Int32) : x_td (u_rh x v) = x_td x := rfl
theorem g_td_nd (x : zSt) (v : Nat → Int32) : x_td (u_nd x v) = x_td x := rfl
theorem g_td_nm (x : zSt) (v : Nat → Int32) : x_td (u_nm x v) = x_td x := rfl
theorem g_td_nv (x : zSt) (v : Nat → Int32) : x_td (u_nv x v) = x_td x := rfl
theorem g_td_nh (x : zSt) (v : Nat → Int32) : x_td (u_nh x v) = x_td x := rfl
theorem g_td_nf (x : zSt) (v : Nat → Nat → Int32) : x_td (u_nf x v) = x_td x := rfl
theorem g_td_wr (x : zSt) (v : Nat → Nat) : x_td (u_wr x v) = x_td x := rfl
theorem g_td_wa (x : zSt) (v : Nat → Bool) : x_td (u_wa x v) = x_td x := rfl
theorem g_td_lz (x : zSt) (v : Nat → Nat) : x_td (u_lz x v) = x_td x := rfl
theorem g_td_lf (x : zSt) (v : Nat → Nat) : x_td (u_lf x v) = x_td x := rfl
theorem g_td_li (x : zSt) (v : Nat → Nat → Int32) : x_td (u_li x v) = x_td x := rfl
theorem g_td_lt (x : zSt) (v : Nat → Nat → Int64) : x_td (u_lt x v) = x_td x := rfl
theorem g_td_lb (x : zSt) (v : Nat → Nat → Int64) : x_td (u_lb x v) = x_td x := rfl
theorem g_td_lr (x : zSt) (v : Nat → Nat → Option (Nat → Int64)) : x_td (u_lr x v) = x_td x := rfl
theorem g_td_tn (x : zSt) (v : Nat) : x_td (u_tn x v) = x_td x := rfl
theorem g_td_tf (x : zSt) (v : Nat → Nat → Int32) : x_td (u_tf x v) = x_td x := rfl
theorem g_nb_dk (x : zSt) (v : Nat) : x_nb (u_dk x v) = x_nb x := rfl
theorem g_nb_lk (x : zSt) (v : Int32) : x_nb (u_lk x v) = x_nb x := rfl
theorem g_nb_po (x : zSt) (v : Int32) : x_nb (u_po x v) = x_nb x := rfl
theorem g_nb_ne (x : zSt) (v : Int32) : x_nb (u_ne x v) = x_nb x := rfl
theorem g_nb_td (x : zSt) (v : Int32) : x_nb (u_td x v) = x_nb x := rfl
theorem g_nb_nb (x : zSt) (v : Nat → Int32) : x_nb (u_nb x v) = v := rfl
theorem g_nb_ln (x : zSt) (v : Nat → Option Nat) : x_nb (u_ln x v) = x_nb x := rfl
theorem g_nb_nr (x : zSt) (v : Nat) : x_nb (u_nr x v) = x_nb x := rfl
theorem g_nb_nw (x : zSt) (v : Nat) : x_nb (u_nw x v) = x_nb x := rfl
theorem g_nb_nn (x : zSt) (v : Nat) : x_nb (u_nn x v) = x_nb x := rfl
theorem g_nb_ns (x : zSt) (v : Nat) : x_nb (u_ns x v) = x_nb x := rfl
theorem g_nb_or (x : zSt) (v : Nat) : x_nb (u_or x v) = x_nb x := rfl
theorem g_nb_ow (x : zSt) (v : Nat) : x_nb (u_ow x v) = x_nb x := rfl
theorem g_nb_on (x : zSt) (v : Nat) : x_nb (u_on x v) = x_nb x := rfl
theorem g_nb_nl (x : zSt) (v : Nat) : x_nb (u_nl x v) = x_nb x := rfl
theorem g_nb_ng (x : zSt) (v : Nat) : x_nb (u_ng x v) = x_nb x := rfl
theorem g_nb_rg (x : zSt) (v : Nat) : x_nb (u_rg x v) = x_nb x := rfl
theorem g_nb_lc (x : zSt) (v : Nat → Int32) : x_nb (u_lc x v) = x_nb x := rfl
theorem g_nb_cp (x : zSt) (v : Nat → Nat) : x_nb (u_cp x v) = x_nb x := rfl
theorem g_nb_gb (x : zSt) (v : Nat → Nat → Option zAE) : x_nb (u_gb x v) = x_nb x := rfl
theorem g_nb_sp (x : zSt) (v : Nat → Nat) : x_nb (u_sp x v) = x_nb x := rfl
theorem g_nb_kn (x : zSt) (v : Nat → Int64) : x_nb (u_kn x v) = x_nb x := rfl
theorem g_nb_me (x : zSt) (v : Nat → Int64) : x_nb (u_me x v) = x_nb x := rfl
theorem g_nb_ob (x : zSt) (v : Nat → Nat → Int64) : x_nb (u_ob x v) = x_nb x := rfl
theorem g_nb_fk (x : zSt) (v : Nat → Nat → Int32) : x_nb (u_fk x v) = x_nb x := rfl
theorem g_nb_fz (x : zSt) (v : Nat → Nat → Nat) : x_nb (u_fz x v) = x_nb x := rfl
theorem g_nb_fg (x : zSt) (v : Nat → Nat → Nat → Int32) : x_nb (u_fg x v) = x_nb x := rfl
theorem g_nb_rd (x : zSt) (v : Nat → Int32) : x_nb (u_rd x v) = x_nb x := rfl
theorem g_nb_rz (x : zSt) (v : Nat → Nat) : x_nb (u_rz x v) = x_nb x := rfl
theorem g_nb_rh (x : zSt) (v : Nat → Nat → Int32) : x_nb (u_rh x v) = x_nb x := rfl
theorem g_nb_nd (x : zSt) (v : Nat → Int32) : x_nb (u_nd x v) = x_nb x := rfl
theorem g_nb_nm (x : zSt) (v : Nat → Int32) : x_nb (u_nm x v) = x_nb x := rfl
theorem g_nb_nv (x : zSt) (v : Nat → Int32) : x_nb (u_nv x v) = x_nb x := rfl
theorem g_nb_nh (x : zSt) (v : Nat → Int32) : x_nb (u_nh x v) = x_nb x := rfl
theorem g_nb_nf (x : zSt) (v : Nat → Nat → Int32) : x_nb (u_nf x v) = x_nb x := rfl
theorem g_nb_wr (x : zSt) (v : Nat → Nat) : x_nb (u_wr x v) = x_nb x := rfl
theorem g_nb_wa (x : zSt) (v : Nat → Bool) : x_nb (u_wa x v) = x_nb x := rfl
theorem g_nb_lz (x : zSt) (v : Nat → Nat) : x_nb (u_lz x v) = x_nb x := rfl
theorem g_nb_lf (x : zSt) (v : Nat → Nat) : x_nb (u_lf x v) = x_nb x := rfl
theorem g_nb_li (x : zSt) (v : Nat → Nat → Int32) : x_nb (u_li x v) = x_nb x := rfl
theorem g_nb_lt (x : zSt) (v : Nat → Nat → Int64) : x_nb (u_lt x v) = x_nb x := rfl
theorem g_nb_lb (x : zSt) (v : Nat → Nat → Int64) : x_nb (u_lb x v) = x_nb x := rfl
theorem g_nb_lr (x : zSt) (v : Nat → Nat → Option (Nat → Int64)) : x_nb (u_lr x v) = x_nb x := rfl
theorem g_nb_tn (x : zSt) (v : Nat) : x_nb (u_tn x v) = x_nb x := rfl
theorem g_nb_tf (x : zSt) (v : Nat → Nat → Int32) : x_nb (u_tf x v) = x_nb x := rfl
theorem g_ln_dk (x : zSt) (v : Nat) : x_ln (u_dk x v) = x_ln x := rfl
theorem g_ln_lk (x : zSt) (v : Int32) : x_ln (u_lk x v) = x_ln x := rfl
theorem g_ln_po (x : zSt) (v : Int32) : x_ln (u_po x v) = x_ln x := rfl
theorem g_ln_ne (x : zSt) (v : Int32) : x_ln (u_ne x v) = x_ln x := rfl
theorem g_ln_td (x : zSt) (v : Int32) : x_ln (u_td x v) = x_ln x := rfl
theorem g_ln_nb (x : zSt) (v : Nat → Int32) : x_ln (u_nb x v) = x_ln x := rfl
theorem g_ln_ln (x : zSt) (v : Nat → Option Nat) : x_ln (u_ln x v) = v := rfl
theorem g_ln_nr (x : zSt) (v : Nat) : x_ln (u_nr x v) = x_ln x := rfl
theorem g_ln_nw (x : zSt) (v : Nat) : x_ln (u_nw x v) = x_ln x := rfl
theorem g_ln_nn (x : zSt) (v : Nat) : x_ln (u_nn x v) = x_ln x := rfl
theorem g_ln_ns (x : zSt) (v : Nat) : x_ln (u_ns x v) = x_ln x := rfl
theorem g_ln_or (x : zSt) (v : Nat) : x_ln (u_or x v) = x_ln x := rfl
theorem g_ln_ow (x : zSt) (v : Nat) : x_ln (u_ow x v) = x_ln x := rfl
theorem g_ln_on (x : zSt) (v : Nat) : x_ln (u_on x v) = x_ln x := rfl
theorem g_ln_nl (x : zSt) (v : Nat) : x_ln (u_nl x v) = x_ln x := rfl
theorem g_ln_ng (x : zSt) (v : Nat) : x_ln (u_ng x v) = x_ln x := rfl
theorem g_ln_rg (x : zSt) (v : Nat) : x_ln (u_rg x v) = x_ln x := rfl
theorem g_ln_lc (x : zSt) (v : Nat → Int32) : x_ln (u_lc x v) = x_ln x := rfl
theorem g_ln_cp (x : zSt) (v : Nat → Nat) : x_ln (u_cp x v) = x_ln x := rfl
theorem g_ln_gb (x : zSt) (v : Nat → Nat → Option zAE) : x_ln (u_gb x v) = x_ln x := rfl
theorem g_ln_sp (x : zSt) (v : Nat → Nat) : x_ln (u_sp x v) = x_ln x := rfl
theorem g_ln_kn (x : zSt) (v : Nat → Int64) : x_ln (u_kn x v) = x_ln x := rfl
theorem g_ln_me (x : zSt) (v : Nat → Int64) : x_ln (u_me x v) = x_ln x := rfl
theorem g_ln_ob (x : zSt) (v : Nat → Nat → Int64) : x_ln (u_ob x v) = x_ln x := rfl
theorem g_ln_fk (x : zSt) (v : Nat → Nat → Int32) : x_ln (u_fk x v) = x_ln x := rfl
theorem g_ln_fz (x : zSt) (v : Nat → Nat → Nat) : x_ln (u_fz x v) = x_ln x := rfl
theorem g_ln_fg (x : zSt) (v : Nat → Nat → Nat → Int32) : x_ln (u_fg x v) = x_ln x := rfl
theorem g_ln_rd (x : zSt) (v : Nat → Int32) : x_ln (u_rd x v) = x_ln x := rfl
theorem g_ln_rz (x : zSt) (v : Nat → Nat) : x_ln (u_rz x v) = x_ln x := rfl
theorem g_ln_rh (x : zSt) (v : Nat → Nat → Int32) : x_ln (u_rh x v) = x_ln x := rfl
theorem g_ln_nd (x : zSt) (v : Nat → Int32) : x_ln (u_nd x v) = x_ln x := rfl
theorem g_ln_nm (x : zSt) (v : Nat → Int32) : x_ln (u_nm x v) = x_ln x := rfl
theorem g_ln_nv (x : zSt) (v : Nat → Int32) : x_ln (u_nv x v) = x_ln x := rfl
theorem g_ln_nh (x : zSt) (v : Nat → Int32) : x_ln (u_nh x v) = x_ln x := rfl
theorem g_ln_nf (x : zSt) (v : Nat → Nat → Int32) : x_ln (u_nf x v) = x_ln x := rfl
theorem g_ln_wr (x : zSt) (v : Nat → Nat) : x_ln (u_wr x v) = x_ln x := rfl
theorem g_ln_wa (x : zSt) (v : Nat → Bool) : x_ln (u_wa x v) = x_ln x := rfl
theorem g_ln_lz (x : zSt) (v : Nat → Nat) : x_ln (u_lz x v) = x_ln x := rfl
theorem g_ln_lf (x : zSt) (v : Nat → Nat) : x_ln (u_lf x v) = x_ln x := rfl
theorem g_ln_li (x : zSt) (v : Nat → Nat → Int32) : x_ln (u_li x v) = x_ln x := rfl
theorem g_ln_lt (x : zSt) (v : Nat → Nat → Int64) : x_ln (u_lt x v) = x_ln x := rfl
theorem g_ln_lb (x : zSt) (v : Nat → Nat → Int64) : x_ln (u_lb x v) = x_ln x := rfl
theorem g_ln_lr (x : zSt) (v : Nat → Nat → Option (Nat → Int64)) : x_ln (u_lr x v) = x_ln x := rfl
theorem g_ln_tn (x : zSt) (v : Nat) : x_ln (u_tn x v) = x_ln x := rfl
theorem g_ln_tf (x : zSt) (v : Nat → Nat → Int32) : x_ln (u_tf x v) = x_ln x := rfl
theorem g_nr_dk (x : zSt) (v : Nat) : x_nr (u_dk x v) = x_nr x := rfl
theorem g_nr_lk (x : zSt) (v : Int32) : x_nr (u_lk x v) = x_nr x := rfl
theorem g_nr_po (x : zSt) (v : Int32) : x_nr (u_po x v) = x_nr x := rfl
theorem g_nr_ne (x : zSt) (v : Int32) : x_nr (u_ne x v) = x_nr x := rfl
theorem g_nr_td (x : zSt) (v : Int32) : x_nr (u_td x v) = x_nr x := rfl
theorem g_nr_nb (x : zSt) (v : Nat → Int32) : x_nr (u_nb x v) = x_nr x := rfl
theorem g_nr_ln (x : zSt) (v : Nat → Option Nat) : x_nr (u_ln x v) = x_nr x := rfl
theorem g_nr_nr (x : zSt) (v : Nat) : x_nr (u_nr x v) = v := rfl
theorem g_nr_nw (x : zSt) (v : Nat) : x_nr (u_nw x v) = x_nr x := rfl
theorem g_nr_nn (x : zSt) (v : Nat) : x_nr (u_nn x v) = x_nr x := rfl
theorem g_nr_ns (x : zSt) (v : Nat) : x_nr (u_ns x v) = x_nr x := rfl
theorem g_nr_or (x : zSt) (v : Nat) : x_nr (u_or x v) = x_nr x := rfl
theorem g_nr_ow (x : zSt) (v : Nat) : x_nr (u_ow x v) = x_nr x := rfl
theorem g_nr_on (x : zSt) (v : Nat) : x_nr (u_on x v) = x_nr x := rfl
theorem g_nr_nl (x : zSt) (v : Nat) : x_nr (u_nl x v) = x_nr x := rfl
theorem g_nr_ng (x : zSt) (v : Nat) : x_nr (u_ng x v) = x_nr x := rfl
theorem g_nr_rg (x : zSt) (v : Nat) : x_nr (u_rg x v) = x_nr x := rfl
theorem g_nr_lc (x : zSt) (v : Nat → Int32) : x_nr (u_lc x v) = x_nr x := rfl
theorem g_nr_cp (x : zSt) (v : Nat → Nat) : x_nr (u_cp x v) = x_nr x := rfl
theorem g_nr_gb (x : zSt) (v : Nat → Nat → Option zAE) : x_nr (u_gb x v) = x_nr x := rfl
theorem g_nr_sp (x : zSt) (v : Nat → Nat) : x_nr (u_sp x v) = x_nr x := rfl
theorem g_nr_kn (x : zSt) (v : Nat → Int64) : x_nr (u_kn x v) = x_nr x := rfl
theorem g_nr_me (x : zSt) (v : Nat → Int64) : x_nr (u_me x v) = x_nr x := rfl
theorem g_nr_ob (x : zSt) (v : Nat → Nat → Int64) : x_nr (u_ob x v) = x_nr x := rfl
theorem g_nr_fk (x : zSt) (v : Nat → Nat → Int32) : x_nr (u_fk x v) = x_nr x := rfl
theorem g_nr_fz (x : zSt) (v : Nat → Nat → Nat) : x_nr (u_fz x v) = x_nr x := rfl
theorem g_nr_fg (x : zSt) (v : Nat → Nat → Nat → Int32) : x_nr (u_fg x v) = x_nr x := rfl
theorem g_nr_rd (x : zSt) (v : Nat → Int32) : x_nr (u_rd x v) = x_nr x := rfl
theorem g_nr_rz (x : zSt) (v : Nat → Nat) : x_nr (u_rz x v) = x_nr x := rfl
theorem g_nr_rh (x : zSt) (v : Nat → Nat → Int32) : x_nr (u_rh x v) = x_nr x := rfl
theorem g_nr_nd (x : zSt) (v : Nat → Int32) : x_nr (u_nd x v) = x_nr x := rfl
theorem g_nr_nm (x : zSt) (v : Nat → Int32) : x_nr (u_nm x v) = x_nr x := rfl
theorem g_nr_nv (x : zSt) (v : Nat → Int32) : x_nr (u_nv x v) = x_nr x := rfl
theorem g_nr_nh (x : zSt) (v : Nat → Int32) : x_nr (u_nh x v) = x_nr x := rfl
theorem g_nr_nf (x : zSt) (v : Nat → Nat → Int32) : x_nr (u_nf x v) = x_nr x := rfl
theorem g_nr_wr (x : zSt) (v : Nat → Nat) : x_nr (u_wr x v) = x_nr x := rfl
theorem g_nr_wa (x : zSt) (v : Nat → Bool) : x_nr (u_wa x v) = x_nr x := rfl
theorem g_nr_lz (x : zSt) (v : Nat → Nat) : x_nr (u_lz x v) = x_nr x := rfl
theorem g_nr_lf (x : zSt) (v : Nat → Nat) : x_nr (u_lf x v) = x_nr x := rfl
theorem g_nr_li (x : zSt) (v : Nat → Nat → Int32) : x_nr (u_li x v) = x_nr x := rfl
theorem g_nr_lt (x : zSt) (v : Nat → Nat → Int64) : x_nr (u_lt x v) = x_nr x := rfl
theorem g_nr_lb (x : zSt) (v : Nat → Nat → Int64) : x_nr (u_lb x v) = x_nr x := rfl
theorem g_nr_lr (x : zSt) (v : Nat → Nat → Option (Nat → Int64)) : x_nr (u_lr x v) = x_nr x := rfl
theorem g_nr_tn (x : zSt) (v : Nat) : x_nr (u_tn x v) = x_nr x := rfl
theorem g_nr_tf (x : zSt) (v : Nat → Nat → Int32) : x_nr (u_tf x v) = x_nr x := rfl
theorem g_nw_dk (x : zSt) (v : Nat) : x_nw (u_dk x v) = x_nw x := rfl
theorem g_nw_lk (x : zSt) (v : Int32) : x_nw (u_lk x v) = x_nw x := rfl
theorem g_nw_po (x : zSt) (v : Int32) : x_nw (u_po x v) = x_nw x := rfl
theorem g_nw_ne (x : zSt) (v : Int32) : x_nw (u_ne x v) = x_nw x := rfl
theorem g_nw_td (x : zSt) (v : Int32) : x_nw (u_td x v) = x_nw x := rfl
theorem g_nw_nb (x : zSt) (v : Nat → Int32) : x_nw (u_nb x v) = x_nw x := rfl
theorem g_nw_ln (x : zSt) (v : Nat → Option Nat) : x_nw (u_ln x v) = x_nw x := rfl
theorem g_nw_nr (x : zSt) (v : Nat) : x_nw (u_nr x v) = x_nw x := rfl
theorem g_nw_nw (x : zSt) (v : Nat) : x_nw (u_nw x v) = v := rfl
theorem g_nw_nn (x : zSt) (v : Nat) : x_nw (u_nn x v) = x_nw x := rfl
theorem g_nw_ns (x : zSt) (v : Nat) : x_nw (u_ns x v) = x_nw x := rfl
theorem g_nw_or (x : zSt) (v : Nat) : x_nw (u_or x v) = x_nw x := rfl
theorem g_nw_ow (x : zSt) (v : Nat) : x_nw (u_ow x v) = x_nw x := rfl
theorem g_nw_on (x : zSt) (v : Nat) : x_nw (u_on x v) = x_nw x := rfl
theorem g_nw_nl (x : zSt) (v : Nat) : x_nw (u_nl x v) = x_nw x := rfl
theorem g_nw_ng (x : zSt) (v : Nat) : x_nw (u_ng x v) = x_nw x := rfl
theorem g_nw_rg (x : zSt) (v : Nat) : x_nw (u_rg x v) = x_nw x := rfl
theorem g_nw_lc (x : zSt) (v : Nat → Int32) : x_nw (u_lc x v) = x_nw x := rfl
theorem g_nw_cp (x : zSt) (v : Nat → Nat) : x_nw (u_cp x v) = x_nw x := rfl
theorem g_nw_gb (x : zSt) (v : Nat → Nat → Option zAE) : x_nw (u_gb x v) = x_nw x := rfl
theorem g_nw_sp (x : zSt) (v : Nat → Nat) : x_nw (u_sp x v) = x_nw x := rfl
theorem g_nw_kn (x : zSt) (v : Nat → Int64) : x_nw (u_kn x v) = x_nw x := rfl
theorem g_nw_me (x : zSt) (v : Nat → Int64) : x_nw (u_me x v) = x_nw x := rfl
theorem g_nw_ob (x : zSt) (v : Nat → Nat → Int64) : x_nw (u_ob x v) = x_nw x := rfl
theorem g_nw_fk (x : zSt) (v : Nat → Nat → Int32) : x_nw (u_fk x v) = x_nw x := rfl
theorem g_nw_fz (x : zSt) (v : Nat → Nat → Nat) : x_nw (u_fz x v) = x_nw x := rfl
theorem g_nw_fg (x : zSt) (v : Nat → Nat → Nat → Int32) : x_nw (u_fg x v) = x_nw x := rfl
theorem g_nw_rd (x : zSt) (v : Nat → Int32) : x_nw (u_rd x v) = x_nw x := rfl
theorem g_nw_rz (x : zSt) (v : Nat → Nat) : x_nw (u_rz x v) = x_nw x := rfl
theorem g_nw_rh (x : zSt) (v : Nat → Nat → Int32) : x_nw (u_rh x v) = x_nw x := rfl
theorem g_nw_nd (x : zSt) (v : Nat → Int32) : x_nw (u_nd x v) = x_nw x := rfl
theorem g_nw_nm (x : zSt) (v : Nat → Int32) : x_nw (u_nm x v) = x_nw x := rfl
theorem g_nw_nv (x : zSt) (v : Nat → Int32) : x_nw (u_nv x v) = x_nw x := rfl
theorem g_nw_nh (x : zSt) (v : Nat → Int32) : x_nw (u_nh x v) = x_nw x := rfl
theorem g_nw_nf (x : zSt) (v : Nat → Nat → Int32) : x_nw (u_nf x v) = x_nw x := rfl
theorem g_nw_wr (x : zSt) (v : Nat → Nat) : x_nw (u_wr x v) = x_nw x := rfl
theorem g_nw_wa (x : zSt) (v : Nat → Bool) : x_nw (u_wa x v) = x_nw x := rfl
theorem g_nw_lz (x : zSt) (v : Nat → Nat) : x_nw (u_lz x v) = x_nw x := rfl
theorem g_nw_lf (x : zSt) (v : Nat → Nat) : x_nw (u_lf x v) = x_nw x := rfl
theorem g_nw_li (x : zSt) (v : Nat → Nat → Int32) : x_nw (u_li x v) = x_nw x := rfl
theorem g_nw_lt (x : zSt) (v : Nat → Nat → Int64) : x_nw (u_lt x v) = x_nw x := rfl
theorem g_nw_lb (x : zSt) (v : Nat → Nat → Int64) : x_nw (u_lb x v) = x_nw x := rfl
theorem g_nw_lr (x : zSt) (v : Nat → Nat → Option (Nat → Int64)) : x_nw (u_lr x v) = x_nw x := rfl
theorem g_nw_tn (x : zSt) (v : Nat) : x_nw (u_tn x v) = x_nw x := rfl
theorem g_nw_tf (x : zSt) (v : Nat → Nat → Int32) : x_nw (u_tf x v) = x_nw x := rfl
theorem g_nn_dk (x : zSt) (v : Nat) : x_nn (u_dk x v) = x_nn x := rfl
theorem g_nn_lk (x : zSt) (v : Int32) : x_nn (u_lk x v) = x_nn x := rfl
theorem g_nn_po (x : zSt) (v : Int32) : x_nn (u_po x v) = x_nn x := rfl
theorem g_nn_ne (x : zSt) (v : Int32) : x_nn (u_ne x v) = x_nn x := rfl
theorem g_nn_td (x : zSt) (v : Int32) : x_nn (u_td x v) = x_nn x := rfl
theorem g_nn_nb (x : zSt) (v : Nat → Int32) : x_nn (u_nb x v) = x_nn x := rfl
theorem g_nn_ln (x : zSt) (v : Nat → Option Nat) : x_nn (u_ln x v) = x_nn x := rfl
theorem g_nn_nr (x : zSt) (v : Nat) : x_nn (u_nr x v) = x_nn x := rfl
theorem g_nn_nw (x : zSt) (v : Nat) : x_nn (u_nw x v) = x_nn x := rfl
theorem g_nn_nn (x : zSt) (v : Nat) : x_nn (u_nn x v) = v := rfl
theorem g_nn_ns (x : zSt) (v : Nat) : x_nn (u_ns x v) = x_nn x := rfl
theorem g_nn_or (x : zSt) (v : Nat) : x_nn (u_or x v) = x_nn x := rfl
theorem g_nn_ow (x : zSt) (v : Nat) : x_nn (u_ow x v) = x_nn x := rfl
theorem g_nn_on (x : zSt) (v : Nat) : x_nn (u_on x v) = x_nn x := rfl
theorem g_nn_nl (x : zSt) (v : Nat) : x_nn (u_nl x v) = x_nn x := rfl
theorem g_nn_ng (x : zSt) (v : Nat) : x_nn (u_ng x v) = x_nn x := rfl
theorem g_nn_rg (x : zSt) (v : Nat) : x_nn (u_rg x v) = x_nn x := rfl
theorem g_nn_lc (x : zSt) (v : Nat → Int32) : x_nn (u_lc x v) = x_nn x := rfl
theorem g_nn_cp (x : zSt) (v : Nat → Nat) : x_nn (u_cp x v) = x_nn x := rfl
theorem g_nn_gb (x : zSt) (v : Nat → Nat → Option zAE) : x_nn (u_gb x v) = x_nn x := rfl
theorem g_nn_sp (x : zSt) (v : Nat → Nat) : x_nn (u_sp x v) = x_nn x := rfl
theorem g_nn_kn (x : zSt) (v : Nat → Int64) : x_nn (u_kn x v) = x_nn x := rfl
theorem g_nn_me (x : zSt) (v : Nat → Int64) : x_nn (u_me x v) = x_nn x := rfl
theorem g_nn_ob (x : zSt) (v : Nat → Nat → Int64) : x_nn (u_ob x v) = x_nn x := rfl
theorem g_nn_fk (x : zSt) (v : Nat → Nat → Int32) : x_nn (u_fk x v) = x_nn x := rfl
theorem g_nn_fz (x : zSt) (v : Nat → Nat → Nat) : x_nn (u_fz x v) = x_nn x := rfl
theorem g_nn_fg (x : zSt) (v : Nat → Nat → Nat → Int32) : x_nn (u_fg x v) = x_nn x := rfl
theorem g_nn_rd (x : zSt) (v : Nat → Int32) : x_nn (u_rd x v) = x_nn x := rfl
theorem g_nn_rz (x : zSt) (v : Nat → Nat) : x_nn (u_rz x v) = x_nn x := rfl
theorem g_nn_rh (x : zSt) (v : Nat → Nat → Int32) : x_nn (u_rh x v) = x_nn x := rfl
theorem g_nn_nd (x : zSt) (v : Nat → Int32) : x_nn (u_nd x v) = x_nn x := rfl
theorem g_nn_nm (x : zSt) (v : Nat → Int32) : x_nn (u_nm x v) = x_nn x := rfl
theorem g_nn_nv (x : zSt) (v : Nat → Int32) : x_nn (u_nv x v) = x_nn x := rfl
theorem g_nn_nh (x : zSt) (v : Nat → Int32) : x_nn (u_nh x v) = x_nn x := rfl
theorem g_nn_nf (x : zSt) (v : Nat → Nat → Int32) : x_nn (u_nf x v) = x_nn x := rfl
theorem g_nn_wr (x : zSt) (v : Nat → Nat) : x_nn (u_wr x v) = x_nn x := rfl
theorem g_nn_wa (x : zSt) (v : Nat → Bool) : x_nn (u_wa x v) = x_nn x := rfl
theorem g_nn_lz (x : zSt) (v : Nat → Nat) : x_nn (u_lz x v) = x_nn x := rfl
theorem g_nn_lf (x : zSt) (v : Nat → Nat) : x_nn (u_lf x v) = x_nn x := rfl
theorem g_nn_li (x : zSt) (v : Nat → Nat → Int32) : x_nn (u_li x v) = x_nn x := rfl
theorem g_nn_lt (x : zSt) (v : Nat → Nat → Int64) : x_nn (u_lt x v) = x_nn x := rfl
theorem g_nn_lb (x : zSt) (v : Nat → Nat → Int64) : x_nn (u_lb x v) = x_nn x := rfl
theorem g_nn_lr (x : zSt) (v : Nat → Nat → Option (Nat → Int64)) : x_nn (u_lr x v) = x_nn x := rfl
theorem g_nn_tn (x : zSt) (v : Nat) : x_nn (u_tn x v) = x_nn x := rfl
theorem g_nn_tf (x : zSt) (v : Nat → Nat → Int32) : x_nn (u_tf x v) = x_nn x := rfl
theorem g_ns_dk (x : zSt) (v : Nat) : x_ns (u_dk x v) = x_ns x := rfl
theorem g_ns_lk (x : zSt) (v : Int32) : x_ns (u_lk x v) = x_ns x := rfl
theorem g_ns_po (x : zSt) (v : Int32) : x_ns (u_po x v) = x_ns x := rfl
theorem g_ns_ne (x : zSt) (v : Int32) : x_ns (u_ne x v) = x_ns x := rfl
theorem g_ns_td (x : zSt) (v : Int32) : x_ns (u_td x v) = x_ns x := rfl
theorem g_ns_nb (x : zSt) (v : Nat → Int32) : x_ns (u_nb x v) = x_ns x := rfl
theorem g_ns_ln (x : zSt) (v : Nat → Option Nat) : x_ns (u_ln x v) = x_ns x := rfl
theorem g_ns_nr (x : zSt) (v : Nat) : x_ns (u_nr x v) = x_ns x := rfl
theorem g_ns_nw (x : zSt) (v : Nat) : x_ns (u_nw x v) = x_ns x := rfl
theorem g_ns_nn (x : zSt) (v : Nat) : x_ns (u_nn x v) = x_ns x := rfl
theorem g_ns_ns (x : zSt) (v : Nat) : x_ns (u_ns x v) = v := rfl
theorem g_ns_or (x : zSt) (v : Nat) : x_ns (u_or x v) = x_ns x := rfl
theorem g_ns_ow (x : zSt) (v : Nat) : x_ns (u_ow x v) = x_ns x := rfl
theorem g_ns_on (x : zSt) (v : Nat) : x_ns (u_on x v) = x_ns x := rfl
theorem g_ns_nl (x : zSt) (v : Nat) : x_ns (u_nl x v) = x_ns x := rfl
theorem g_ns_ng (x : zSt) (v : Nat) : x_ns (u_ng x v) = x_ns x := rfl
theorem g_ns_rg (x : zSt) (v : Nat) : x_ns (u_rg x v) = x_ns x := rfl
theorem g_ns_lc (x : zSt) (v : Nat → Int32) : x_ns (u_lc x v) = x_ns x := rfl
theorem g_ns_cp (x : zSt) (v : Nat → Nat) : x_ns (u_cp x v) = x_ns x := rfl
theorem g_ns_gb (x : zSt) (v : Nat → Nat → Option zAE) : x_ns (u_gb x v) = x_ns x := rfl
theorem g_ns_sp (x : zSt) (v : Nat → Nat) : x_ns (u_sp x v) = x_ns x := rfl
theorem g_ns_kn (x : zSt) (v : Nat → Int64) : x_ns (u_kn x v) = x_ns x := rfl
theorem g_ns_me (x : zSt) (v : Nat → Int64) : x_ns (u_me x v) = x_ns x := rfl
theorem g_ns_ob (x : zSt) (v : Nat → Nat → Int64) : x_ns (u_ob x v) = x_ns x := rfl
theorem g_ns_fk (x : zSt) (v : Nat → Nat → Int32) : x_ns (u_fk x v) = x_ns x := rfl
theorem g_ns_fz (x : zSt) (v : Nat → Nat → Nat) : x_ns (u_fz x v) = x_ns x := rfl
theorem g_ns_fg (x : zSt) (v : Nat → Nat → Nat → Int32) : x_ns (u_fg x v) = x_ns x := rfl
theorem g_ns_rd (x : zSt) (v : Nat → Int32) : x_ns (u_rd x v) = x_ns x := rfl
theorem g_ns_rz (x : zSt) (v : Nat → Nat) : x_ns (u_rz x v) = x_ns x := rfl
theorem g_ns_rh (x : zSt) (v : Nat → Nat → Int32) : x_ns (u_rh x v) = x_ns x := rfl
theorem g_ns_nd (x : zSt) (v : Nat → Int32) : x_ns (u_nd x v) = x_ns x := rfl
theorem g_ns_nm (x : zSt) (v : Nat → Int32) : x_ns (u_nm x v) = x_ns x := rfl
theorem g_ns_nv (x : zSt) (v : Nat → Int32) : x_ns (u_nv x v) = x_ns x := rfl
theorem g_ns_nh (x : zSt) (v : Nat → Int32) : x_ns (u_nh x v) = x_ns x := rfl
theorem g_ns_nf (x : zSt) (v : Nat → Nat → Int32) : x_ns (u_nf x v) = x_ns x := rfl
theorem g_ns_wr (x : zSt) (v : Nat → Nat) : x_ns (u_wr x v) = x_ns x := rfl
theorem g_ns_wa (x : zSt) (v : Nat → Bool) : x_ns (u_wa x v) = x_ns x := rfl
theorem g_ns_lz (x : zSt) (v : Nat → Nat) : x_ns (u_lz x v) = x_ns x := rfl
theorem g_ns_lf (x : zSt) (v : Nat → Nat) : x_ns (u_lf x v) = x_ns x := rfl
theorem g_ns_li (x : zSt) (v : Nat → Nat → Int32) : x_ns (u_li x v) = x_ns x := rfl
theorem g_ns_lt (x : zSt) (v : Nat → Nat → Int64) : x_ns (u_lt x v) = x_ns x := rfl
theorem g_ns_lb (x : zSt) (v : Nat → Nat → Int64) : x_ns (u_lb x v) = x_ns x := rfl
theorem g_ns_lr (x : zSt) (v : Nat → Nat → Option (Nat → Int64)) : x_ns (u_lr x v) = x_ns x := rfl
theorem g_ns_tn (x : zSt) (v : Nat) : x_ns (u_tn x v) = x_ns x := rfl
theorem g_ns_tf (x : zSt) (v : Nat → Nat → Int32) : x_ns (u_tf x v) = x_ns x := rfl
theorem g_or_dk (x : zSt) (v : Nat) : x_or (u_dk x v) = x_or x := rfl
theorem g_or_lk (x : zSt) (v : Int32) : x_or (u_lk x v) = x_or x := rfl
theorem g_or_po (x : zSt) (v : Int32) : x_or (u_po x v) = x_or x := rfl
theorem g_or_ne (x : zSt) (v : Int32) : x_or (u_ne x v) = x_or x := rfl
theorem g_or_td (x : zSt) (v : Int32) : x_or (u_td x v) = x_or x := rfl
theorem g_or_nb (x : zSt) (v : Nat → Int32) : x_or (u_nb x v) = x_or x := rfl
theorem g_or_ln (x : zSt) (v : Nat → Option Nat) : x_or (u_ln x v) = x_or x := rfl
theorem g_or_nr (x : zSt) (v : Nat) : x_or (u_nr x v) = x_or x := rfl
theorem g_or_nw (x : zSt) (v : Nat) : x_or (u_nw x v) = x_or x := rfl
theorem g_or_nn (x : zSt) (v : Nat) : x_or (u_nn x v) = x_or x := rfl
theorem g_or_ns (x : zSt) (v : Nat) : x_or (u_ns x v) = x_or x := rfl
theorem g_or_or (x : zSt) (v : Nat) : x_or (u_or x v) = v := rfl
theorem g_or_ow (x : zSt) (v : Nat) : x_or (u_ow x v) = x_or x := rfl
theorem g_or_on (x : zSt) (v : Nat) : x_or (u_on x v) = x_or x := rfl
theorem g_or_nl (x : zSt) (v : Nat) : x_or (u_nl x v) = x_or x := rfl
theorem g_or_ng (x : zSt) (v : Nat) : x_or (u_ng x v) = x_or x := rfl
theorem g_or_rg (x : zSt) (v : Nat) : x_or (u_rg x v) = x_or x := rfl
theorem g_or_lc (x : zSt) (v : Nat → Int32) : x_or (u_lc x v) = x_or x := rfl
theorem g_or_cp (x : zSt) (v : Nat → Nat) : x_or (u_cp x v) = x_or x := rfl
theorem g_or_gb (x : zSt) (v : Nat → Nat → Option zAE) : x_or (u_gb x v) = x_or x := rfl
theorem g_or_sp (x : zSt) (v : Nat → Nat) : x_or (u_sp x v) = x_or x := rfl
theorem g_or_kn (x : zSt) (v : Nat → Int64) : x_or (u_kn x v) = x_or x := rfl
theorem g_or_me (x : zSt) (v : Nat → Int64) : x_or (u_me x v) = x_or x := rfl
theorem g_or_ob (x : zSt) (v : Nat → Nat → Int64) : x_or (u_ob x v) = x_or x := rfl
theorem g_or_fk (x : zSt) (v : Nat → Nat → Int32) : x_or (u_fk x v) = x_or x := rfl
theorem g_or_fz (x : zSt) (v : Nat → Nat → Nat) : x_or (u_fz x v) = x_or x := rfl
theorem g_or_fg (x : zSt) (v : Nat → Nat → Nat → Int32) : x_or (u_fg x v) = x_or x := rfl
theorem g_or_rd (x : zSt) (v : Nat → Int32) : x_or (u_rd x v) = x_or x := rfl
theorem g_or_rz (x : zSt) (v : Nat → Nat) : x_or (u_rz x v) = x_or x := rfl
theorem g_or_rh (x : zSt) (v : Nat → Nat → Int32) : x_or (u_rh x v) = x_or x := rfl
theorem g_or_nd (x : zSt) (v : Nat → Int32) : x_or (u_nd x v) = x_or x := rfl
theorem g_or_nm (x : zSt) (v : Nat → Int32) : x_or (u_nm x v) = x_or x := rfl
theorem g_or_nv (x : zSt) (v : Nat → Int32) : x_or (u_nv x v) = x_or x := rfl
theorem g_or_nh (x : zSt) (v : Nat → Int32) : x_or (u_nh x v) = x_or x := rfl
theorem g_or_nf (x : zSt) (v : Nat → Nat → Int32) : x_or (u_nf x v) = x_or x := rfl
theorem g_or_wr (x : zSt) (v : Nat → Nat) : x_or (u_wr x v) = x_or x := rfl
theorem g_or_wa (x : zSt) (v : Nat → Bool) : x_or (u_wa x v) = x_or x := rfl
theorem g_or_lz (x : zSt) (v : Nat → Nat) : x_or (u_lz x v) = x_or x := rfl
theorem g_or_lf (x : zSt) (v : Nat → Nat) : x_or (u_lf x v) = x_or x := rfl
theorem g_or_li (x : zSt) (v : Nat → Nat → Int32) : x_or (u_li x v) = x_or x := rfl
theorem g_or_lt (x : zSt) (v : Nat → Nat → Int64) : x_or (u_lt x v) = x_or x := rfl
theorem g_or_lb (x : zSt) (v : Nat → Nat → Int64) : x_or (u_lb x v) = x_or x := rfl
theorem g_or_lr (x : zSt) (v : Nat → Nat → Option (Nat → Int64)) : x_or (u_lr x v) = x_or x := rfl
theorem g_or_tn (x : zSt) (v : Nat) : x_or (u_tn x v) = x_or x := rfl
theorem g_or_tf (x : zSt) (v : Nat → Nat → Int32) : x_or (u_tf x v) = x_or x := rfl
theorem g_ow_dk (x : zSt) (v : Nat) : x_ow (u_dk x v) = x_ow x := rfl
theorem g_ow_lk (x : zSt) (v : Int32) : x_ow (u_lk x v) = x_ow x := rfl
theorem g_ow_po (x : zSt) (v : Int32) : x_ow (u_po x v) = x_ow x := rfl
theorem g_ow_ne (x : zSt) (v : Int32) : x_ow (u_ne x v) = x_ow x := rfl
theorem g_ow_td (x : zSt) (v : Int32) : x_ow (u_td x v) = x_ow x := rfl
theorem g_ow_nb (x : zSt) (v : Nat → Int32) : x_ow (u_nb x v) = x_ow x := rfl
theorem g_ow_ln (x : zSt) (v : Nat → Option Nat) : x_ow (u_ln x v) = x_ow x := rfl
theorem g_ow_nr (x : zSt) (v : Nat) : x_ow (u_nr x v) = x_ow x := rfl
theorem g_ow_nw (x : zSt) (v : Nat) : x_ow (u_nw x v) = x_ow x := rfl
theorem g_ow_nn (x : zSt) (v : Nat) : x_ow (u_nn x v) = x_ow x := rfl
theorem g_ow_ns (x : zSt) (v : Nat) : x_ow (u_ns x v) = x_ow x := rfl
theorem g_ow_or (x : zSt) (v : Nat) : x_ow (u_or x v) = x_ow x := rfl
theorem g_ow_ow (x : zSt) (v : Nat) : x_ow (u_ow x v) = v := rfl
theorem g_ow_on (x : zSt) (v : Nat) : x_ow (u_on x v) = x_ow x := rfl
theorem g_ow_nl (x : zSt) (v : Nat) : x_ow (u_nl x v) = x_ow x := rfl
theorem g_ow_ng (x : zSt) (v : Nat) : x_ow (u_ng x v) = x_ow x := rfl
theorem g_ow_rg (x : zSt) (v : Nat) : x_ow (u_rg x v) = x_ow x := rfl
theorem g_ow_lc (x : zSt) (v : Nat → Int32) : x_ow (u_lc x v) = x_ow x := rfl
theorem g_ow_cp (x : zSt) (v : Nat → Nat) : x_ow (u_cp x v) = x_ow x := rfl
theorem g_ow_gb (x : zSt) (v : Nat → Nat → Option zAE) : x_ow (u_gb x v) = x_ow x := rfl
theorem g_ow_sp (x : zSt) (v : Nat → Nat) : x_ow (u_sp x v) = x_ow x := rfl
theorem g_ow_kn (x : zSt) (v : Nat → Int64) : x_ow (u_kn x v) = x_ow x := rfl
theorem g_ow_me (x : zSt) (v : Nat → Int64) : x_ow (u_me x v) = x_ow x := rfl
theorem g_ow_ob (x : zSt) (v : Nat → Nat → Int64) : x_ow (u_ob x v) = x_ow x := rfl
theorem g_ow_fk (x : zSt) (v : Nat → Nat → Int32) : x_ow (u_fk x v) = x_ow x := rfl
theorem g_ow_fz (x : zSt) (v : Nat → Nat → Nat) : x_ow (u_fz x v) = x_ow x := rfl
theorem g_ow_fg (x : zSt) (v : Nat → Nat → Nat → Int32) : x_ow (u_fg x v) = x_ow x := rfl
theorem g_ow_rd (x : zSt) (v : Nat → Int32) : x_ow (u_rd x v) = x_ow x := rfl
theorem g_ow_rz (x : zSt) (v : Nat → Nat) : x_ow (u_rz x v) = x_ow x := rfl
theorem g_ow_rh (x : zSt) (v : Nat → Nat → Int32) : x_ow (u_rh x v) = x_ow x := rfl
theorem g_ow_nd (x : zSt) (v : Nat → Int32) : x_ow (u_nd x v) = x_ow x := rfl
theorem g_ow_nm (x : zSt) (v : Nat → Int32) : x_ow (u_nm x v) = x_ow x := rfl
theorem g_ow_nv (x : zSt) (v : Nat → Int32) : x_ow (u_nv x v) = x_ow x := rfl
theorem g_ow_nh (x : zSt) (v : Nat → Int32) : x_ow (u_nh x v) = x_ow x := rfl
theorem g_ow_nf (x : zSt) (v : Nat → Nat → Int32) : x_ow (u_nf x v) = x_ow x := rfl
theorem g_ow_wr (x : zSt) (v : Nat → Nat) : x_ow (u_wr x v) = x_ow x := rfl
theorem g_ow_wa (x : zSt) (v : Nat → Bool) : x_ow (u_wa x v) = x_ow x := rfl
theorem g_ow_lz (x : zSt) (v : Nat → Nat) : x_ow (u_lz x v) = x_ow x := rfl
theorem g_ow_lf (x : zSt) (v : Nat → Nat) : x_ow (u_lf x v) = x_ow x := rfl
theorem g_ow_li (x : zSt) (v : Nat → Nat → Int32) : x_ow (u_li x v) = x_ow x := rfl
theorem g_ow_lt (x : zSt) (v : Nat → Nat → Int64) : x_ow (u_lt x v) = x_ow x := rfl
theorem g_ow_lb (x : zSt) (v : Nat → Nat → Int64) : x_ow (u_lb x v) = x_ow x := rfl
theorem g_ow_lr (x : zSt) (v : Nat → Nat → Option (Nat → Int64)) : x_ow (u_lr x v) = x_ow x := rfl
theorem g_ow_tn (x : zSt) (v : Nat) : x_ow (u_tn x v) = x_ow x := rfl
theorem g_ow_tf (x : zSt) (v : Nat → Nat → Int32) : x_ow (u_tf x v) = x_ow x := rfl
theorem g_on_dk (x : zSt) (v : Nat) : x_on (u_dk x v) = x_on x := rfl
theorem g_on_lk (x : zSt) (v : Int32) : x_on (u_lk x v) = x_on x := rfl
theorem g_on_po (x : zSt) (v : Int32) : x_on (u_po x v) = x_on x := rfl
theorem g_on_ne (x : zSt) (v : Int32) : x_on (u_ne x v) = x_on x := rfl
theorem g_on_td (x : zSt) (v : Int32) : x_on (u_td x v) = x_on x := rfl
theorem g_on_nb (x : zSt) (v : Nat → Int32) : x_on (u_nb x v) = x_on x := rfl
theorem g_on_ln (x : zSt) (v : Nat → Option Nat) : x_on (u_ln x v) = x_on x := rfl
theorem g_on_nr (x : zSt) (v : Nat) : x_on (u_nr x v) = x_on x := rfl
theorem g_on_nw (x : zSt) (v : Nat) : x_on (u_nw x v) = x_on x := rfl
theorem g_on_nn (x : zSt) (v : Nat) : x_on (u_nn x v) = x_on x := rfl
theorem g_on_ns (x : zSt) (v : Nat) : x_on (u_ns x v) = x_on x := rfl
theorem g_on_or (x : zSt) (v : Nat) : x_on (u_or x v) = x_on x := rfl
theorem g_on_ow (x : zSt) (v : Nat) : x_on (u_ow x v) = x_on x := rfl
theorem g_on_on (x : zSt) (v : Nat) : x_on (u_on x v) = v := rfl
theorem g_on_nl (x : zSt) (v : Nat) : x_on (u_nl x v) = x_on x := rfl
theorem g_on_ng (x : zSt) (v : Nat) : x_on (u_ng x v) = x_on x := rfl
theorem g_on_rg (x : zSt) (v : Nat) : x_on (u_rg x v) = x_on x := rfl
theorem g_on_lc (x : zSt) (v : Nat → Int32) : x_on (u_lc x v) = x_on x := rfl
theorem g_on_cp (x : zSt) (v : Nat → Nat) : x_on (u_cp x v) = x_on x := rfl
theorem g_on_gb (x : zSt) (v : Nat → Nat → Option zAE) : x_on (u_gb x v) = x_on x := rfl
theorem g_on_sp (x : zSt) (v : Nat → Nat) : x_on (u_sp x v) = x_on x := rfl
theorem g_on_kn (x : zSt) (v : Nat → Int64) : x_on (u_kn x v) = x_on x := rfl
theorem g_on_me (x : zSt) (v : Nat → Int64) : x_on (u_me x v) = x_on x := rfl
theorem g_on_ob (x : zSt) (v : Nat → Nat → Int64) : x_on (u_ob x v) = x_on x := rfl
theorem g_on_fk (x : zSt) (v : Nat → Nat → Int32) : x_on (u_fk x v) = x_on x := rfl
theorem g_on_fz (x : zSt) (v : Nat → Nat → Nat) : x_on (u_fz x v) = x_on x := rfl
theorem g_on_fg (x : zSt) (v : Nat → Nat → Nat → Int32) : x_on (u_fg x v) = x_on x := rfl
theorem g_on_rd (x : zSt) (v : Nat → Int32) : x_on (u_rd x v) = x_on x := rfl
theorem g_on_rz (x : zSt) (v : Nat → Nat) : x_on (u_rz x v) = x_on x := rfl
theorem g_on_rh (x : zSt) (v : Nat → Nat → Int32) : x_on (u_rh x v) = x_on x := rfl
theorem g_on_nd (x : zSt) (v : Nat → Int32) : x_on (u_nd x v) = x_on x := rfl
theorem g_on_nm (x : zSt) (v : Nat → Int32) : x_on (u_nm x v) = x_on x := rfl
theorem g_on_nv (x : zSt) (v : Nat → Int32) : x_on (u_nv x v) = x_on x := rfl
theorem g_on_nh (x : zSt) (v : Nat → Int32) : x_on (u_nh x v) = x_on x := rfl
theorem g_on_nf (x : zSt) (v : Nat → Nat → Int32) : x_on (u_nf x v) = x_on x := rfl
theorem g_on_wr (x : zSt) (v : Nat → Nat) : x_on (u_wr x v) = x_on x := rfl
theorem g_on_wa (x : zSt) (v : Nat → Bool) : x_on (u_wa x v) = x_on x := rfl
theorem g_on_lz (x : zSt) (v : Nat → Nat) : x_on (u_lz x v) = x_on x := rfl
theorem g_on_lf (x : zSt) (v : Nat → Nat) : x_on (u_lf x v) = x_on x := rfl
theorem g_on_li (x : zSt) (v : Nat → Nat → Int32) : x_on (u_li x v) = x_on x := rfl
theorem g_on_lt (x : zSt) (v : Nat → Nat → Int64) : x_on (u_lt x v) = x_on x := rfl
theorem g_on_lb (x : zSt) (v : Nat → Nat → Int64) : x_on (u_lb x v) = x_on x := rfl
theorem g_on_lr (x : zSt) (v : Nat → Nat → Option (Nat → Int64)) : x_on (u_lr x v) = x_on x := rfl
theorem g_on_tn (x : zSt) (v : Nat) : x_on (u_tn x v) = x_on x := rfl
theorem g_on_tf (x : zSt) (v : Nat → Nat → Int32) : x_on (u_tf x v) = x_on x := rfl
theorem g_nl_dk (x : zSt) (v : Nat) : x_nl (u_dk x v) = x_nl x := rfl
theorem g_nl_lk (x : zSt) (v : Int32) : x_nl (u_lk x v) = x_nl x := rfl
theorem g_nl_po (x : zSt) (v : Int32) : x_nl (u_po x v) = x_nl x := rfl
theorem g_nl_ne (x : zSt) (v : Int32) : x_nl (u_ne x v) = x_nl x := rfl
theorem g_nl_td (x : zSt) (v : Int32) : x_nl (u_td x v) = x_nl x := rfl
theorem g_nl_nb (x : zSt) (v : Nat → Int32) : x_nl (u_nb x v) = x_nl x := rfl
theorem g_nl_ln (x : zSt) (v : Nat → Option Nat) : x_nl (u_ln x v) = x_nl x := rfl
theorem g_nl_nr (x : zSt) (v : Nat) : x_nl (u_nr x v) = x_nl x := rfl
theorem g_nl_nw (x : zSt) (v : Nat) : x_nl (u_nw x v) = x_nl x := rfl
theorem g_nl_nn (x : zSt) (v : Nat) : x_nl (u_nn x v) = x_nl x := rfl
theorem g_nl_ns (x : zSt) (v : Nat) : x_nl (u_ns x v) = x_nl x := rfl
theorem g_nl_or (x : zSt) (v : Nat) : x_nl (u_or x v) = x_nl x := rfl
theorem g_nl_ow (x : zSt) (v : Nat) : x_nl (u_ow x v) = x_nl x := rfl
theorem g_nl_on (x : zSt) (v : Nat) : x_nl (u_on x v) = x_nl x := rfl
theorem g_nl_nl (x : zSt) (v : Nat) : x_nl (u_nl x v) = v := rfl
theorem g_nl_ng (x : zSt) (v : Nat) : x_nl (u_ng x v) = x_nl x := rfl
theorem g_nl_rg (x : zSt) (v : Nat) : x_nl (u_rg x v) = x_nl x := rfl
theorem g_nl_lc (x : zSt) (v : Nat → Int32) : x_nl (u_lc x v) = x_nl x := rfl
theorem g_nl_cp (x : zSt) (v : Nat → Nat) : x_nl (u_cp x v) = x_nl x := rfl
theorem g_nl_gb (x : zSt) (v : Nat → Nat → Option zAE) : x_nl (u_gb x v) = x_nl x := rfl
theorem g_nl_sp (x : zSt) (v : Nat → Nat) : x_nl (u_sp x v) = x_nl x := rfl
theorem g_nl_kn (x : zSt) (v : Nat → Int64) : x_nl (u_kn x v) = x_nl x := rfl
theorem g_nl_me (x : zSt) (v : Nat → Int64) : x_nl (u_me x v) = x_nl x := rfl
theorem g_nl_ob (x : zSt) (v : Nat → Nat → Int64) : x_nl (u_ob x v) = x_nl x := rfl
theorem g_nl_fk (x : zSt) (v : Nat → Nat → Int32) : x_nl (u_fk x v) = x_nl x := rfl
theorem g_nl_fz (x : zSt) (v : Nat → Nat → Nat) : x_nl (u_fz x v) = x_nl x := rfl
theorem g_nl_fg (x : zSt) (v : Nat → Nat → Nat → Int32) : x_nl (u_fg x v) = x_nl x := rfl
theorem g_nl_rd (x : zSt) (v : Nat → Int32) : x_nl (u_rd x v) = x_nl x := rfl
theorem g_nl_rz (x : zSt) (v : Nat → Nat) : x_nl (u_rz x v) = x_nl x := rfl
theorem g_nl_rh (x : zSt) (v : Nat → Nat → Int32) : x_nl (u_rh x v) = x_nl x := rfl
theorem g_nl_nd (x : zSt) (v : Nat → Int32) : x_nl (u_nd x v) = x_nl x := rfl
theorem g_nl_nm (x : zSt) (v : Nat → Int32) : x_nl (u_nm x v) = x_nl x := rfl
theorem g_nl_nv (x : zSt) (v : Nat → Int32) : x_nl (u_nv x v) = x_nl x := rfl
theorem g_nl_nh (x : zSt) (v : Nat → Int32) : x_nl (u_nh x v) = x_nl x := rfl
theorem g_nl_nf (x : zSt) (v : Nat → Nat → Int32) : x_nl (u_nf x v) = x_nl x := rfl
theorem g_nl_wr (x : zSt) (v : Nat → Nat) : x_nl (u_wr x v) = x_nl x := rfl
theorem g_nl_wa (x : zSt) (v : Nat → Bool) : x_nl (u_wa x v) = x_nl x := rfl
theorem g_nl_lz (x : zSt) (v : Nat → Nat) : x_nl (u_lz x v) = x_nl x := rfl
theorem g_nl_lf (x : zSt) (v : Nat → Nat) : x_nl (u_lf x v) = x_nl x := rfl
theorem g_nl_li (x : zSt) (v : Nat → Nat → Int32) : x_nl (u_li x v) = x_nl x := rfl
theorem g_nl_lt (x : zSt) (v : Nat → Nat → Int64) : x_nl (u_lt x v) = x_nl x := rfl
theorem g_nl_lb (x : zSt) (v : Nat → Nat → Int64) : x_nl (u_lb x v) = x_nl x := rfl
theorem g_nl_lr (x : zSt) (v : Nat → Nat → Option (Nat → Int64)) : x_nl (u_lr x v) = x_nl x := rfl
theorem g_nl_tn (x : zSt) (v : Nat) : x_nl (u_tn x v) = x_nl x := rfl
theorem g_nl_tf (x : zSt) (v : Nat → Nat → Int32) : x_nl (u_tf x v) = x_nl x := rfl
theorem g_ng_dk (x : zSt) (v : Nat) : x_ng (u_dk x v) = x_ng x := rfl
theorem g_ng_lk (x : zSt) (v : Int32) : x_ng (u_lk x v) = x_ng x := rfl
theorem g_ng_po (x : zSt) (v : Int32) : x_ng (u_po x v) = x_ng x := rfl
theorem g_ng_ne (x : zSt) (v : Int32) : x_ng (u_ne x v) = x_ng x := rfl
theorem g_ng_td (x : zSt) (v : Int32) : x_ng (u_td x v) = x_ng x := rfl
theorem g_ng_nb (x : zSt) (v : Nat → Int32) : x_ng (u_nb x v) = x_ng x := rfl
theorem g_ng_ln (x : zSt) (v : Nat → Option Nat) : x_ng (u_ln x v) = x_ng x := rfl
theorem g_ng_nr (x : zSt) (v : Nat) : x_ng (u_nr x v) = x_ng x := rfl
theorem g_ng_nw (x : zSt) (v : Nat) : x_ng (u_nw x v) = x_ng x := rfl
theorem g_ng_nn (x : zSt) (v : Nat) : x_ng (u_nn x v) = x_ng x := rfl
theorem g_ng_ns (x : zSt) (v : Nat) : x_ng (u_ns x v) = x_ng x := rfl
theorem g_ng_or (x : zSt) (v : Nat) : x_ng (u_or x v) = x_ng x := rfl
theorem g_ng_ow (x : zSt) (v : Nat) : x_ng (u_ow x v) = x_ng x := rfl
theorem g_ng_on (x : zSt) (v : Nat) : x_ng (u_on x v) = x_ng x := rfl
theorem g_ng_nl (x : zSt) (v : Nat) : x_ng (u_nl x v) = x_ng x := rfl
theorem g_ng_ng (x : zSt) (v : Nat) : x_ng (u_ng x v) = v := rfl
theorem g_ng_rg (x : zSt) (v : Nat) : x_ng (u_rg x v) = x_ng x := rfl
theorem g_ng_lc (x : zSt) (v : Nat → Int32) : x_ng (u_lc x v) = x_ng x := rfl
theorem g_ng_cp (x : zSt) (v : Nat → Nat) : x_ng (u_cp x v) = x_ng x := rfl
theorem g_ng_gb (x : zSt) (v : Nat → Nat → Option zAE) : x_ng (u_gb x v) = x_ng x := rfl
theorem g_ng_sp (x : zSt) (v : Nat → Nat) : x_ng (u_sp x v) = x_ng x := rfl
theorem g_ng_kn (x : zSt) (v : Nat → Int64) : x_ng (u_kn x v) = x_ng x := rfl
theorem g_ng_me (x : zSt) (v : Nat → Int64) : x_ng (u_me x v) = x_ng x := rfl
theorem g_ng_ob (x : zSt) (v : Nat → Nat → Int64) : x_ng (u_ob x v) = x_ng x := rfl
theorem g_ng_fk (x : zSt) (v : Nat → Nat → Int32) : x_ng (u_fk x v) = x_ng x := rfl
theorem g_ng_fz (x : zSt) (v : Nat → Nat → Nat) : x_ng (u_fz x v) = x_ng x := rfl
theorem g_ng_fg (x : zSt) (v : Nat → Nat → Nat → Int32) : x_ng (u_fg x v) = x_ng x := rfl
theorem g_ng_rd (x : zSt) (v : Nat → Int32) : x_ng (u_rd x v) = x_ng x := rfl
theorem g_ng_rz (x : zSt) (v : Nat → Nat) : x_ng (u_rz x v) = x_ng x := rfl
theorem g_ng_rh (x : zSt) (v : Nat → Nat → Int32) : x_ng (u_rh x v) = x_ng x := rfl
theorem g_ng_nd (x : zSt) (v : Nat → Int32) : x_ng (u_nd x v) = x_ng x := rfl
theorem g_ng_nm (x : zSt) (v : Nat → Int32) : x_ng (u_nm x v) = x_ng x := rfl
theorem g_ng_nv (x : zSt) (v : Nat → Int32) : x_ng (u_nv x v) = x_ng x := rfl
theorem g_ng_nh (x : zSt) (v : Nat → Int32) : x_ng (u_nh x v) = x_ng x := rfl
theorem g_ng_nf (x : zSt) (v : Nat → Nat → Int32) : x_ng (u_nf x v) = x_ng x := rfl
theorem g_ng_wr (x : zSt) (v : Nat → Nat) : x_ng (u_wr x v) = x_ng x := rfl
theorem g_ng_wa (x : zSt) (v : Nat → Bool) : x_ng (u_wa x v) = x_ng x := rfl
theorem g_ng_lz (x : zSt) (v : Nat → Nat) : x_ng (u_lz x v) = x_ng x := rfl
theorem g_ng_lf (x : zSt) (v : Nat → Nat) : x_ng (u_lf x v) = x_ng x := rfl
theorem g_ng_li (x : zSt) (v : Nat → Nat → Int32) : x_ng (u_li x v) = x_ng x := rfl
theorem g_ng_lt (x : zSt) (v : Nat → Nat → Int64) : x_ng (u_lt x v) = x_ng x := rfl
theorem g_ng_lb (x : zSt) (v : Nat → Nat → Int64) : x_ng (u_lb x v) = x_ng x := rfl
theorem g_ng_lr (x : zSt) (v : Nat → Nat → Option (Nat → Int64)) : x_ng (u_lr x v) = x_ng x := rfl
theorem g_ng_tn (x : zSt) (v : Nat) : x_ng (u_tn x v) = x_ng x := rfl
theorem g_ng_tf (x : zSt) (v : Nat → Nat → Int32) : x_ng (u_tf x v) = x_ng x := rfl
theorem g_rg_dk (x : zSt) (v : Nat) : x_rg (u_dk x v) = x_rg x := rfl
theorem g_rg_lk (x : zSt) (v : Int32) : x_rg (u_lk x v) = x_rg x := rfl
theorem g_rg_po (x : zSt) (v : Int32) : x_rg (u_po x v) = x_rg x := rfl
theorem g_rg_ne (x : zSt) (v : Int32) : x_rg (u_ne x v) = x_rg x := rfl
theorem g_rg_td (x : zSt) (v : Int32) : x_rg (u_td x v) = x_rg x := rfl
theorem g_rg_nb (x : zSt) (v : Nat → Int32) : x_rg (u_nb x v) = x_rg x := rfl
theorem g_rg_ln (x : zSt) (v : Nat → Option Nat) : x_rg (u_ln x v) = x_rg x := rfl
theorem g_rg_nr (x : zSt) (v : Nat) : x_rg (u_nr x v) = x_rg x := rfl
theorem g_rg_nw (x : zSt) (v : Nat) : x_rg (u_nw x v) = x_rg x := rfl
theorem g_rg_nn (x : zSt) (v : Nat) : x_rg (u_nn x v) = x_rg x := rfl
theorem g_rg_ns (x : zSt) (v : Nat) : x_rg (u_ns x v) = x_rg x := rfl
theorem g_rg_or (x : zSt) (v : Nat) : x_rg (u_or x v) = x_rg x := rfl
theorem g_rg_ow (x : zSt) (v : Nat) : x_rg (u_ow x v) = x_rg x := rfl
theorem g_rg_on (x : zSt) (v : Nat) : x_rg (u_on x v) = x_rg x := rfl
theorem g_rg_nl (x : zSt) (v : Nat) : x_rg (u_nl x v) = x_rg x := rfl
theorem g_rg_ng (x : zSt) (v : Nat) : x_rg (u_ng x v) = x_rg x := rfl
theorem g_rg_rg (x : zSt) (v : Nat) : x_rg (u_rg x v) = v := rfl
theorem g_rg_lc (x : zSt) (v : Nat → Int32) : x_rg (u_lc x v) = x_rg x := rfl
theorem g_rg_cp (x : zSt) (v : Nat → Nat) : x_rg (u_cp x v) = x_rg x := rfl
theorem g_rg_gb (x : zSt) (v : Nat → Nat → Option zAE) : x_rg (u_gb x v) = x_rg x := rfl
theorem g_rg_sp (x : zSt) (v : Nat → Nat) : x_rg (u_sp x v) = x_rg x := rfl
theorem g_rg_kn (x : zSt) (v : Nat → Int64) : x_rg (u_kn x v) = x_rg x := rfl
theorem g_rg_me (x : zSt) (v : Nat → Int64) : x_rg (u_me x v) = x_rg x := rfl
theorem g_rg_ob (x : zSt) (v : Nat → Nat → Int64) : x_rg (u_ob x v) = x_rg x := rfl
theorem g_rg_fk (x : zSt) (v : Nat → Nat → Int32) : x_rg (u_fk x v) = x_rg x := rfl
theorem g_rg_fz (x : zSt) (v : Nat → Nat → Nat) : x_rg (u_fz x v) = x_rg x := rfl
theorem g_rg_fg (x : zSt) (v : Nat → Nat → Nat → Int32) : x_rg (u_fg x v) = x_rg x := rfl
theorem g_rg_rd (x : zSt) (v : Nat → Int32) : x_rg (u_rd x v) = x_rg x := rfl
theorem g_rg_rz (x : zSt) (v : Nat → Nat) : x_rg (u_rz x v) = x_rg x := rfl
theorem g_rg_rh (x : zSt) (v : Nat → Nat → Int32) : x_rg (u_rh x v) = x_rg x := rfl
theorem g_rg_nd (x : zSt) (v : Nat → Int32) : x_rg (u_nd x v) = x_rg x := rfl
theorem g_rg_nm (x : zSt) (v : Nat → Int32) : x_rg (u_nm x v) = x_rg x := rfl
theorem g_rg_nv (x : zSt) (v : Nat → Int32) : x_rg (u_nv x v) = x_rg x := rfl
theorem g_rg_nh (x : zSt) (v : Nat → Int32) : x_rg (u_nh x v) = x_rg x := rfl
theorem g_rg_nf (x : zSt) (v : Nat → Nat → Int32) : x_rg (u_nf x v) = x_rg x := rfl
theorem g_rg_wr (x : zSt) (v : Nat → Nat) : x_rg (u_wr x v) = x_rg x := rfl
theorem g_rg_wa (x : zSt) (v : Nat → Bool) : x_rg (u_wa x v) = x_rg x := rfl
theorem g_rg_lz (x : zSt) (v : Nat → Nat) : x_rg (u_lz x v) = x_rg x := rfl
theorem g_rg_lf (x : zSt) (v : Nat → Nat) : x_rg (u_lf x v) = x_rg x := rfl
theorem g_rg_li (x : zSt) (v : Nat → Nat → Int32) : x_rg (u_li x v) = x_rg x := rfl
theorem g_rg_lt (x : zSt) (v : Nat → Nat → Int64) : x_rg (u_lt x v) = x_rg x := rfl
theorem g_rg_lb (x : zSt) (v : Nat → Nat → Int64) : x_rg (u_lb x v) = x_rg x := rfl
theorem g_rg_lr (x : zSt) (v : Nat → Nat → Option (Nat → Int64)) : x_rg (u_lr x v) = x_rg x := rfl
theorem g_rg_tn (x : zSt) (v : Nat) : x_rg (u_tn x v) = x_rg x := rfl
theorem g_rg_tf (x : zSt) (v : Nat → Nat → Int32) : x_rg (u_tf x v) = x_rg x := rfl
theorem g_lc_dk (x : zSt) (v : Nat) : x_lc (u_dk x v) = x_lc x := rfl
theorem g_lc_lk (x : zSt) (v : Int32) : x_lc (u_lk x v) = x_lc x := rfl
theorem g_lc_po (x : zSt) (v : Int32) : x_lc (u_po x v) = x_lc x := rfl
theorem g_lc_ne (x : zSt) (v : Int32) : x_lc (u_ne x v) = x_lc x := rfl
theorem g_lc_td (x : zSt) (v : Int32) : x_lc (u_td x v) = x_lc x := rfl
theorem g_lc_nb (x : zSt) (v : Nat → Int32) : x_lc (u_nb x v) = x_lc x := rfl
theorem g_lc_ln (x : zSt) (v : Nat → Option Nat) : x_lc (u_ln x v) = x_lc x := rfl
theorem g_lc_nr (x : zSt) (v : Nat) : x_lc (u_nr x v) = x_lc x := rfl
theorem g_lc_nw (x : zSt) (v : Nat) : x_lc (u_nw x v) = x_lc x := rfl
theorem g_lc_nn (x : zSt) (v : Nat) : x_lc (u_nn x v) = x_lc x := rfl
theorem g_lc_ns (x : zSt) (v : Nat) : x_lc (u_ns x v) = x_lc x := rfl
theorem g_lc_or (x : zSt) (v : Nat) : x_lc (u_or x v) = x_lc x := rfl
theorem g_lc_ow (x : zSt) (v : Nat) : x_lc (u_ow x v) = x_lc x := rfl
theorem g_lc_on (x : zSt) (v : Nat) : x_lc (u_on x v) = x_lc x := rfl
theorem g_lc_nl (x : zSt) (v : Nat) : x_lc (u_nl x v) = x_lc x := rfl
theorem g_lc_ng (x : zSt) (v : Nat) : x_lc (u_ng x v) = x_lc x := rfl
theorem g_lc_rg (x : zSt) (v : Nat) : x_lc (u_rg x v) = x_lc x := rfl
theorem g_lc_lc (x : zSt) (v : Nat → Int32) : x_lc (u_lc x v) = v := rfl
theorem g_lc_cp (x : zSt) (v : Nat → Nat) : x_lc (u_cp x v) = x_lc x := rfl
theorem g_lc_gb (x : zSt) (v : Nat → Nat → Option zAE) : x_lc (u_gb x v) = x_lc x := rfl
theorem g_lc_sp (x : zSt) (v : Nat → Nat) : x_lc (u_sp x v) = x_lc x := rfl
theorem g_lc_kn (x : zSt) (v : Nat → Int64) : x_lc (u_kn x v) = x_lc x := rfl
theorem g_lc_me (x : zSt) (v : Nat → Int64) : x_lc (u_me x v) = x_lc x := rfl
theorem g_lc_ob (x : zSt) (v : Nat → Nat → Int64) : x_lc (u_ob x v) = x_lc x := rfl
theorem g_lc_fk (x : zSt) (v : Nat → Nat → Int32) : x_lc (u_fk x v) = x_lc x := rfl
theorem g_lc_fz (x : zSt) (v : Nat → Nat → Nat) : x_lc (u_fz x v) = x_lc x := rfl
theorem g_lc_fg (x : zSt) (v : Nat → Nat → Nat → Int32) : x_lc (u_fg x v) = x_lc x := rfl
theorem g_lc_rd (x : zSt) (v : Nat → Int32) : x_lc (u_rd x v) = x_lc x := rfl
theorem g_lc_rz (x : zSt) (v : Nat → Nat) : x_lc (u_rz x v) = x_lc x := rfl
theorem g_lc_rh (x : zSt) (v : Nat → Nat → Int32) : x_lc (u_rh x v) = x_lc x := rfl
theorem g_lc_nd (x : zSt) (v : Nat → Int32) : x_lc (u_nd x v) = x_lc x := rfl
theorem g_lc_nm (x : zSt) (v : Nat → Int32) : x_lc (u_nm x v) = x_lc x := rfl
theorem g_lc_nv (x : zSt) (v : Nat → Int32) : x_lc (u_nv x v) = x_lc x := rfl
theorem g_lc_nh (x : zSt) (v : Nat → Int32) : x_lc (u_nh x v) = x_lc x := rfl
theorem g_lc_nf (x : zSt) (v : Nat → Nat → Int32) : x_lc (u_nf x v) = x_lc x := rfl
theorem g_lc_wr (x : zSt) (v : Nat → Nat) : x_lc (u_wr x v) = x_lc x := rfl
theorem g_lc_wa (x : zSt) (v : Nat → Bool) : x_lc (u_wa x v) = x_lc x := rfl
theorem g_lc_lz (x : zSt) (v : Nat → Nat) : x_lc (u_lz x v) = x_lc x := rfl
theorem g_lc_lf (x : zSt) (v : Nat → Nat) : x_lc (u_lf x v) = x_lc x := rfl
theorem g_lc_li (x : zSt) (v : Nat → Nat → Int32) : x_lc (u_li x v) = x_lc x := rfl
theorem g_lc_lt (x : zSt) (v : Nat → Nat → Int64) : x_lc (u_lt x v) = x_lc x := rfl
theorem g_lc_lb (x : zSt) (v : Nat → Nat → Int64) : x_lc (u_lb x v) = x_lc x := rfl
theorem g_lc_lr (x : zSt) (v : Nat → Nat → Option (Nat → Int64)) : x_lc (u_lr x v) = x_lc x := rfl
theorem g_lc_tn (x : zSt) (v : Nat) : x_lc (u_tn x v) = x_lc x := rfl
theorem g_lc_tf (x : zSt) (v : Nat → Nat → Int32) : x_lc (u_tf x v) = x_lc x := rfl
theorem g_cp_dk (x : zSt) (v : Nat) : x_cp (u_dk x v) = x_cp x := rfl
theorem g_cp_lk (x : zSt) (v : Int32) : x_cp (u_lk x v) = x_cp x := rfl
theorem g_cp_po (x : zSt) (v : Int32) : x_cp (u_po x v) = x_cp x := rfl
theorem g_cp_ne (x : zSt) (v : Int32) : x_cp (u_ne x v) = x_cp x := rfl
theorem g_cp_td (x : zSt) (v : Int32) : x_cp (u_td x v) = x_cp x := rfl
theorem g_cp_nb (x : zSt) (v : Nat → Int32) : x_cp (u_nb x v) = x_cp x := rfl
theorem g_cp_ln (x : zSt) (v : Nat → Option Nat) : x_cp (u_ln x v) = x_cp x := rfl
theorem g_cp_nr (x : zSt) (v : Nat) : x_cp (u_nr x v) = x_cp x := rfl
theorem g_cp_nw (x : zSt) (v : Nat) : x_cp (u_nw x v) = x_cp x := rfl
theorem g_cp_nn (x : zSt) (v : Nat) : x_cp (u_nn x v) = x_cp x := rfl
theorem g_cp_ns (x : zSt) (v : Nat) : x_cp (u_ns x v) = x_cp x := rfl
theorem g_cp_or (x : zSt) (v : Nat) : x_cp (u_or x v) = x_cp x := rfl
theorem g_cp_ow (x : zSt) (v : Nat) : x_cp (u_ow x v) = x_cp x := rfl
theorem g_cp_on (x : zSt) (v : Nat) : x_cp (u_on x v) = x_cp x := rfl
theorem g_cp_nl (x : zSt) (v : Nat) : x_cp (u_nl x v) = x_cp x := rfl
theorem g_cp_ng (x : zSt) (v : Nat) : x_cp (u_ng x v) = x_cp x := rfl
theorem g_cp_rg (x : zSt) (v : Nat) : x_cp (u_rg x v) = x_cp x := rfl
theorem g_cp_lc (x : zSt) (v : Nat → Int32) : x_cp (u_lc x v) = x_cp x := rfl
theorem g_cp_cp (x : zSt) (v : Nat → Nat) : x_cp (u_cp x v) = v := rfl
theorem g_cp_gb (x : zSt) (v : Nat → Nat → Option zAE) : x_cp (u_gb x v) = x_cp x := rfl
theorem g_cp_sp (x : zSt) (v : Nat → Nat) : x_cp (u_sp x v) = x_cp x := rfl
theorem g_cp_kn (x : zSt) (v : Nat → Int64) : x_cp (u_kn x v) = x_cp x := rfl
theorem g_cp_me (x : zSt) (v : Nat → Int64) : x_cp (u_me x v) = x_cp x := rfl
theorem g_cp_ob (x : zSt) (v : Nat → Nat → Int64) : x_cp (u_ob x v) = x_cp x := rfl
theorem g_cp_fk (x : zSt) (v : Nat → Nat → Int32) : x_cp (u_fk x v) = x_cp x := rfl
theorem g_cp_fz (x : zSt) (v : Nat → Nat → Nat) : x_cp (u_fz x v) = x_cp x := rfl
theorem g_cp_fg (x : zSt) (v : Nat → Nat → Nat → Int32) : x_cp (u_fg x v) = x_cp x := rfl
theorem g_cp_rd (x : zSt) (v : Nat → Int32) : x_cp (u_rd x v) = x_cp x := rfl
theorem g_cp_rz (x : zSt) (v : Nat → Nat) : x_cp (u_rz x v) = x_cp x := rfl
theorem g_cp_rh (x : zSt) (v : Nat → Nat → Int32) : x_cp (u_rh x v) = x_cp x := rfl
theorem g_cp_nd (x : zSt) (v : Nat → Int32) : x_cp (u_nd x v) = x_cp x := rfl
theorem g_cp_nm (x : zSt) (v : Nat → Int32) : x_cp (u_nm x v) = x_cp x := rfl
theorem g_cp_nv (x : zSt) (v : Nat → Int32) : x_cp (u_nv x v) = x_cp x := rfl
theorem g_cp_nh (x : zSt) (v : Nat → Int32) : x_cp (u_nh x v) = x_cp x := rfl
theorem g_cp_nf (x : zSt) (v : Nat → Nat → Int32) : x_cp (u_nf x v) = x_cp x := rfl
theorem g_cp_wr (x : zSt) (v : Nat → Nat) : x_cp (u_wr x v) = x_cp x := rfl
theorem g_cp_wa (x : zSt) (v : Nat → Bool) : x_cp (u_wa x v) = x_cp x := rfl
theorem g_cp_lz (x : zSt) (v : Nat → Nat) : x_cp (u_lz x v) = x_cp x := rfl
theorem g_cp_lf (x : zSt) (v : Nat → Nat) : x_cp (u_lf x v) = x_cp x := rfl
theorem g_cp_li (x : zSt) (v : Nat → Nat → Int32) : x_cp (u_li x v) = x_cp x := rfl
theorem g_cp_lt (x : zSt) (v : Nat → Nat → Int64) : x_cp (u_lt x v) = x_cp x := rfl
theorem g_cp_lb (x : zSt) (v : Nat → Nat → Int64) : x_cp (u_lb x v) = x_cp x := rfl
theorem g_cp_lr (x : zSt) (v : Nat → Nat → Option (Nat → Int64)) : x_cp (u_lr x v) = x_cp x := rfl
theorem g_cp_tn (x : zSt) (v : Nat) : x_cp (u_tn x v) = x_cp x := rfl
theorem g_cp_tf (x : zSt) (v : Nat → Nat → Int32) : x_cp (u_tf x v) = x_cp x := rfl
theorem g_gb_dk (x : zSt) (v : Nat) : x_gb (u_dk x v) = x_gb x := rfl
theorem g_gb_lk (x : zSt) (v : Int32) : x_gb (u_lk x v) = x_gb x := rfl
theorem g_gb_po (x : zSt) (v : Int32) : x_gb (u_po x v) = x_gb x := rfl
theorem g_gb_ne (x : zSt) (v : Int32) : x_gb (u_ne x v) = x_gb x := rfl
theorem g_gb_td (x : zSt) (v : Int32) : x_gb (u_td x v) = x_gb x := rfl
theorem g_gb_nb (x : zSt) (v : Nat → Int32) : x_gb (u_nb x v) = x_gb x := rfl
theorem g_gb_ln (x : zSt) (v : Nat → Option Nat) : x_gb (u_ln x v) = x_gb x := rfl
theorem g_gb_nr (x : zSt) (v : Nat) : x_gb (u_nr x v) = x_gb x := rfl
theorem g_gb_nw (x : zSt) (v : Nat) : x_gb (u_nw x v) = x_gb x := rfl
theorem g_gb_nn (x : zSt) (v : Nat) : x_gb (u_nn x v) = x_gb x := rfl
theorem g_gb_ns (x : zSt) (v : Nat) : x_gb (u_ns x v) = x_gb x := rfl
theorem g_gb_or (x : zSt) (v : Nat) : x_gb (u_or x v) = x_gb x := rfl
theorem g_gb_ow (x : zSt) (v : Nat) : x_gb (u_ow x v) = x_gb x := rfl
theorem g_gb_on (x : zSt) (v : Nat) : x_gb (u_on x v) = x_gb x := rfl
theorem g_gb_nl (x : zSt) (v : Nat) : x_gb (u_nl x v) = x_gb x := rfl
theorem g_gb_ng (x : zSt) (v : Nat) : x_gb (u_ng x v) = x_gb x := rfl
theorem g_gb_rg (x : zSt) (v : Nat) : x_gb (u_rg x v) = x_gb x := rfl
theorem g_gb_lc (x : zSt) (v : Nat → Int32) : x_gb (u_lc x v) = x_gb x := rfl
theorem g_gb_cp (x : zSt) (v : Nat → Nat) : x_gb (u_cp x v) = x_gb x := rfl
theorem g_gb_gb (x : zSt) (v : Nat → Nat → Option zAE) : x_gb (u_gb x v) = v := rfl
theorem g_gb_sp (x : zSt) (v : Nat → Nat) : x_gb (u_sp x v) = x_gb x := rfl
theorem g_gb_kn (x : zSt) (v : Nat → Int64) : x_gb (u_kn x v) = x_gb x := rfl
theorem g_gb_me (x : zSt) (v : Nat → Int64) : x_gb (u_me x v) = x_gb x := rfl
theorem g_gb_ob (x : zSt) (v : Nat → Nat → Int64) : x_gb (u_ob x v) = x_gb x := rfl
theorem g_gb_fk (x : zSt) (v : Nat → Nat → Int32) : x_gb (u_fk x v) = x_gb x := rfl
theorem g_gb_fz (x : zSt) (v : Nat → Nat → Nat) : x_gb (u_fz x v) = x_gb x := rfl
theorem g_gb_fg (x : zSt) (v : Nat → Nat → Nat → Int32) : x_gb (u_fg x v) = x_gb x := rfl
theorem g_gb_rd (x : zSt) (v : Nat → Int32) : x_gb (u_rd x v) = x_gb x := rfl
theorem g_gb_rz (x : zSt) (v : Nat → Nat) : x_gb (u_rz x v) = x_gb x := rfl
theorem g_gb_rh (x : zSt) (v : Nat → Nat → Int32) : x_gb (u_rh x v) = x_gb x := rfl
theorem g_gb_nd (x : zSt) (v : Nat → Int32) : x_gb (u_nd x v) = x_gb x := rfl
theorem g_gb_nm (x : zSt) (v : Nat → Int32) : x_gb (u_nm x v) = x_gb x := rfl
theorem g_gb_nv (x : zSt) (v : Nat → Int32) : x_gb (u_nv x v) = x_gb x := rfl
theorem g_gb_nh (x : zSt) (v : Nat → Int32) : x_gb (u_nh x v) = x_gb x := rfl
theorem g_gb_nf (x : zSt) (v : Nat → Nat → Int32) : x_gb (u_nf x v) = x_gb x := rfl
theorem g_gb_wr (x : zSt) (v : Nat → Nat) : x_gb (u_wr x v) = x_gb x := rfl
theorem g_gb_wa (x : zSt) (v : Nat → Bool) : x_gb (u_wa x v) = x_gb x := rfl
theorem g_gb_lz (x : zSt) (v : Nat → Nat) : x_gb (u_lz x v) = x_gb x := rfl
theorem g_gb_lf (x : zSt) (v : Nat → Nat) : x_gb (u_lf x v) = x_gb x := rfl
theorem g_gb_li (x : zSt) (v : Nat → Nat → Int32) : x_gb (u_li x v) = x_gb x := rfl
theorem g_gb_lt (x : zSt) (v : Nat → Nat → Int64) : x_gb (u_lt x v) = x_gb x := rfl
theorem g_gb_lb (x : zSt) (v : Nat → Nat → Int64) : x_gb (u_lb x v) = x_gb x := rfl
theorem g_gb_lr (x : zSt) (v : Nat → Nat → Option (Nat → Int64)) : x_gb (u_lr x v) = x_gb x := rfl
theorem g_gb_tn (x : zSt) (v : Nat) : x_gb (u_tn x v) = x_gb x := rfl
theorem g_gb_tf (x : zSt) (v : Nat → Nat → Int32) : x_gb (u_tf x v) = x_gb x := rfl
theorem g_sp_dk (x : zSt) (v : Nat) : x_sp (u_dk x v) = x_sp x := rfl
theorem g_sp_lk (x : zSt) (v : Int32) : x_sp (u_lk x v) = x_sp x := rfl
theorem g_sp_po (x : zSt) (v : Int32) : x_sp (u_po x v) = x_sp x := rfl
theorem g_sp_ne (x : zSt) (v : Int32) : x_sp (u_ne x v) = x_sp x := rfl
theorem g_sp_td (x : zSt) (v : Int32) : x_sp (u_td x v) = x_sp x := rfl
theorem g_sp_nb (x : zSt) (v : Nat → Int32) : x_sp (u_nb x v) = x_sp x := rfl
theorem g_sp_ln (x : zSt) (v : Nat → Option Nat) : x_sp (u_ln x v) = x_sp x := rfl
theorem g_sp_nr (x : zSt) (v : Nat) : x_sp (u_nr x v) = x_sp x := rfl
theorem g_sp_nw (x : zSt) (v : Nat) : x_sp (u_nw x v) = x_sp x := rfl
theorem g_sp_nn (x : zSt) (v : Nat) : x_sp (u_nn x v) = x_sp x := rfl
theorem g_sp_ns (x : zSt) (v : Nat) : x_sp (u_ns x v) = x_sp x := rfl
theorem g_sp_or (x : zSt) (v : Nat) : x_sp (u_or x v) = x_sp x := rfl
theorem g_sp_ow (x : zSt) (v : Nat) : x_sp (u_ow x v) = x_sp x := rfl
theorem g_sp_on (x : zSt) (v : Nat) : x_sp (u_on x v) = x_sp x := rfl
theorem g_sp_nl (x : zSt) (v : Nat) : x_sp (u_nl x v) = x_sp x := rfl
theorem g_sp_ng (x : zSt) (v : Nat) : x_sp (u_ng x v) = x_sp x := rfl
theorem g_sp_rg (x : zSt) (v : Nat) : x_sp (u_rg x v) = x_sp x := rfl
theorem g_sp_lc (x : zSt) (v : Nat → Int32) : x_sp (u_lc x v) = x_sp x := rfl
theorem g_sp_cp (x : zSt) (v : Nat → Nat) : x_sp (u_cp x v) = x_sp x := rfl
theorem g_sp_gb (x : zSt) (v : Nat → Nat → Option zAE) : x_sp (u_gb x v) = x_sp x := rfl
theorem g_sp_sp (x : zSt) (v : Nat → Nat) : x_sp (u_sp x v) = v := rfl
theorem g_sp_kn (x : zSt) (v : Nat → Int64) : x_sp (u_kn x v) = x_sp x := rfl
theorem g_sp_me (x : zSt) (v : Nat → Int64) : x_sp (u_me x v) = x_sp x := rfl
theorem g_sp_ob (x : zSt) (v : Nat → Nat → Int64) : x_sp (u_ob x v) = x_sp x := rfl
theorem g_sp_fk (x : zSt) (v : Nat → Nat → Int32) : x_sp (u_fk x v) = x_sp x := rfl
theorem g_sp_fz (x : zSt) (v : Nat → Nat → Nat) : x_sp (u_fz x v) = x_sp x := rfl
theorem g_sp_fg (x : zSt) (v : Nat → Nat → Nat → Int32) : x_sp (u_fg x v) = x_sp x := rfl
theorem g_sp_rd (x : zSt) (v : Nat → Int32) : x_sp (u_rd x v) = x_sp x := rfl
theorem g_sp_rz (x : zSt) (v : Nat → Nat) : x_sp (u_rz x v) = x_sp x := rfl
theorem g_sp_rh (x : zSt) (v : Nat → Nat → Int32) : x_sp (u_rh x v) = x_sp x := rfl
theorem g_sp_nd (x : zSt) (v : Nat → Int32) : x_sp (u_nd x v) = x_sp x := rfl
theorem g_sp_nm (x : zSt) (v : Nat → Int32) : x_sp (u_nm x v) = x_sp x := rfl
theorem g_sp_nv (x : zSt) (v : Nat → Int32) : x_sp (u_nv x v) = x_sp x := rfl
theorem g_sp_nh (x : zSt) (v : Nat → Int32) : x_sp (u_nh x v) = x_sp x := rfl
theorem g_sp_nf (x : zSt) (v : Nat → Nat → Int32) : x_sp (u_nf x v) = x_sp x := rfl
theorem g_sp_wr (x : zSt) (v : Nat → Nat) : x_sp (u_wr x v) = x_sp x := rfl
theorem g_sp_wa (x : zSt) (v : Nat → Bool) : x_sp (u_wa x v) = x_sp x := rfl
theorem g_sp_lz (x : zSt) (v : Nat → Nat) : x_sp (u_lz x v) = x_sp x := rfl
theorem g_sp_lf (x : zSt) (v : Nat → Nat) : x_sp (u_lf x v) = x_sp x := rfl
theorem g_sp_li (x : zSt) (v : Nat → Nat → Int32) : x_sp (u_li x v) = x_sp x := rfl
theorem g_sp_lt (x : zSt) (v : Nat → Nat → Int64) : x_sp (u_lt x v) = x_sp x := rfl
theorem g_sp_lb (x : zSt) (v : Nat → Nat → Int64) : x_sp (u_lb x v) = x_sp x := rfl
theorem g_sp_lr (x : zSt) (v : Nat → Nat → Option (Nat → Int64)) : x_sp (u_lr x v) = x_sp x := rfl
theorem g_sp_tn (x : zSt) (v : Nat) : x_sp (u_tn x v) = x_sp x := rfl
theorem g_sp_tf (x : zSt) (v : Nat → Nat → Int32) : x_sp (u_tf x v) = x_sp x := rfl
theorem g_kn_dk (x : zSt) (v : Nat) : x_kn (u_dk x v) = x_kn x := rfl
theorem g_kn_lk (x : zSt) (v : Int32) : x_kn (u_lk x v) = x_kn x := rfl
theorem g_kn_po (x : zSt) (v : Int32) : x_kn (u_po x v) = x_kn x := rfl
theorem g_kn_ne (x : zSt) (v : Int32) : x_kn (u_ne x v) = x_kn x := rfl
theorem g_kn_td (x : zSt) (v : Int32) : x_kn (u_td x v) = x_kn x := rfl
theorem g_kn_nb (x : zSt) (v : Nat → Int32) : x_kn (u_nb x v) = x_kn x := rfl
theorem g_kn_ln (x : zSt) (v : Nat → Option Nat) : x_kn (u_ln x v) = x_kn x := rfl
theorem g_kn_nr (x : zSt) (v : Nat) : x_kn (u_nr x v) = x_kn x := rfl
theorem g_kn_nw (x : zSt) (v : Nat) : x_kn (u_nw x v) = x_kn x := rfl
theorem g_kn_nn (x : zSt) (v : Nat) : x_kn (u_nn x v) = x_kn x := rfl
theorem g_kn_ns (x : zSt) (v : Nat) : x_kn (u_ns x v) = x_kn x := rfl
theorem g_kn_or (x : zSt) (v : Nat) : x_kn (u_or x v) = x_kn x := rfl
theorem g_kn_ow (x : zSt) (v : Nat) : x_kn (u_ow x v) = x_kn x := rfl
theorem g_kn_on (x : zSt) (v : Nat) : x_kn (u_on x v) = x_kn x := rfl
theorem g_kn_nl (x : zSt) (v : Nat) : x_kn (u_nl x v) = x_kn x := rfl
theorem g_kn_ng (x : zSt) (v : Nat) : x_kn (u_ng x v) = x_kn x := rfl
theorem g_kn_rg (x : zSt) (v : Nat) : x_kn (u_rg x v) = x_kn x := rfl
theorem g_kn_lc (x : zSt) (v : Nat → Int32) : x_kn (u_lc x v) = x_kn x := rfl
theorem g_kn_cp (x : zSt) (v : Nat → Nat) : x_kn (u_cp x v) = x_kn x := rfl
theorem g_kn_gb (x : zSt) (v : Nat → Nat → Option zAE) : x_kn (u_gb x v) = x_kn x := rfl
theorem g_kn_sp (x : zSt) (v : Nat → Nat) : x_kn (u_sp x v) = x_kn x := rfl
theorem g_kn_kn (x : zSt) (v : Nat → Int64) : x_kn (u_kn x v) = v := rfl
theorem g_kn_me (x : zSt) (v : Nat → Int64) : x_kn (u_me x v) = x_kn x := rfl
theorem g_kn_ob (x : zSt) (v : Nat → Nat → Int64) : x_kn (u_ob x v) = x_kn x := rfl
theorem g_kn_fk (x : zSt) (v : Nat → Nat → Int32) : x_kn (u_fk x v) = x_kn x := rfl
theorem g_kn_fz (x : zSt) (v : Nat → Nat → Nat) : x_kn (u_fz x v) = x_kn x := rfl
theorem g_kn_fg (x : zSt) (v : Nat → Nat → Nat → Int32) : x_kn (u_fg x v) = x_kn x := rfl
theorem g_kn_rd (x : zSt) (v : Nat → Int32) : x_kn (u_rd x v) = x_kn x := rfl
theorem g_kn_rz (x : zSt) (v : Nat → Nat) : x_kn (u_rz x v) = x_kn x := rfl
theorem g_kn_rh (x : zSt) (v : Nat → Nat → Int32) : x_kn (u_rh x v) = x_kn x := rfl
theorem g_kn_nd (x : zSt) (v : Nat → Int32) : x_kn (u_nd x v) = x_kn x := rfl
theorem g_kn_nm (x : zSt) (v : Nat → Int32) : x_kn (u_nm x v) = x_kn x := rfl
theorem g_kn_nv (x : zSt) (v : Nat → Int32) : x_kn (u_nv x v) = x_kn x := rfl
theorem g_kn_nh (x : zSt) (v : Nat → Int32) : x_kn (u_nh x v) = x_kn x := rfl
theorem g_kn_nf (x : zSt) (v : Nat → Nat → Int32) : x_kn (u_nf x v) = x_kn x := rfl
theorem g_kn_wr (x : zSt) (v : Nat → Nat) : x_kn (u_wr x v) = x_kn x := rfl
theorem g_kn_wa (x : zSt) (v : Nat → Bool) : x_kn (u_wa x v) = x_kn x := rfl
theorem g_kn_lz (x : zSt) (v : Nat → Nat) : x_kn (u_lz x v) = x_kn x := rfl
theorem g_kn_lf (x : zSt) (v : Nat → Nat) : x_kn (u_lf x v) = x_kn x := rfl
theorem g_kn_li (x : zSt) (v : Nat → Nat → Int32) : x_kn (u_li x v) = x_kn x := rfl
theorem g_kn_lt (x : zSt) (v : Nat → Nat → Int64) : x_kn (u_lt x v) = x_kn x := rfl
theorem g_kn_lb (x : zSt) (v : Nat → Nat → Int64) : x_kn (u_lb x v) = x_kn x := rfl
theorem g_kn_lr (x : zSt) (v : Nat → Nat → Option (Nat → Int64)) : x_kn (u_lr x v) = x_kn x := rfl
theorem g_kn_tn (x : zSt) (v : Nat) : x_kn (u_tn x v) = x_kn x := rfl
theorem g_kn_tf (x : zSt) (v : Nat → Nat → Int32) : x_kn (u_tf x v) = x_kn x := rfl
theorem g_me_dk (x : zSt) (v : Nat) : x_me (u_dk x v) = x_me x := rfl
theorem g_me_lk (x : zSt) (v : Int32) : x_me (u_lk x v) = x_me x := rfl
theorem g_me_po (x : zSt) (v : Int32) : x_me (u_po x v) = x_me x := rfl
theorem g_me_ne (x : zSt) (v : Int32) : x_me (u_ne x v) = x_me x := rfl
theorem g_me_td (x : zSt) (v : Int32) : x_me (u_td x v) = x_me x := rfl
theorem g_me_nb (x : zSt) (v : Nat → Int32) : x_me (u_nb x v) = x_me x := rfl
theorem g_me_ln (x : zSt) (v : Nat → Option Nat) : x_me (u_ln x v) = x_me x := rfl
theorem g_me_nr (x : zSt) (v : Nat) : x_me (u_nr x v) = x_me x := rfl
theorem g_me_nw (x : zSt) (v : Nat) : x_me (u_nw x v) = x_me x := rfl
theorem g_me_nn (x : zSt) (v : Nat) : x_me (u_nn x v) = x_me x := rfl
theorem g_me_ns (x : zSt) (v : Nat) : x_me (u_ns x v) = x_me x := rfl
theorem g_me_or (x : zSt) (v : Nat) : x_me (u_or x v) = x_me x := rfl
theorem g_me_ow (x : zSt) (v : Nat) : x_me (u_ow x v) = x_me x := rfl
theorem g_me_on (x : zSt) (v : Nat) : x_me (u_on x v) = x_me x := rfl
theorem g_me_nl (x : zSt) (v : Nat) : x_me (u_nl x v) = x_me x := rfl
theorem g_me_ng (x : zSt) (v : Nat) : x_me (u_ng x v) = x_me x := rfl
theorem g_me_rg (x : zSt) (v : Nat) : x_me (u_rg x v) = x_me x := rfl
theorem g_me_lc (x : zSt) (v : Nat → Int32) : x_me (u_lc x v) = x_me x := rfl
theorem g_me_cp (x : zSt) (v : Nat → Nat) : x_me (u_cp x v) = x_me x := rfl
theorem g_me_gb (x : zSt) (v : Nat → Nat → Option zAE) : x_me (u_gb x v) = x_me x := rfl
theorem g_me_sp (x : zSt) (v : Nat → Nat) : x_me (u_sp x v) = x_me x := rfl
theorem g_me_kn (x : zSt) (v : Nat → Int64) : x_me (u_kn x v) = x_me x := rfl
theorem g_me_me (x : zSt) (v : Nat → Int64) : x_me (u_me x v) = v := rfl
theorem g_me_ob (x : zSt) (v : Nat → Nat → Int64) : x_me (u_ob x v) = x_me x := rfl
theorem g_me_fk (x : zSt) (v : Nat → Nat → Int32) : x_me (u_fk x v) = x_me x := rfl
theorem g_me_fz (x : zSt) (v : Nat → Nat → Nat) : x_me (u_fz x v) = x_me x := rfl
theorem g_me_fg (x : zSt) (v : Nat → Nat → Nat → Int32) : x_me (u_fg x v) = x_me x := rfl
theorem g_me_rd (x : zSt) (v : Nat → Int32) : x_me (u_rd x v) = x_me x := rfl
theorem g_me_rz (x : zSt) (v : Nat → Nat) : x_me (u_rz x v) = x_me x := rfl
theorem g_me_rh (x : zSt) (v : Nat → Nat → Int32) : x_me (u_rh x v) = x_me x := rfl
theorem g_me_nd (x : zSt) (v : Nat → Int32) : x_me (u_nd x v) = x_me x := rfl
theorem g_me_nm (x : zSt) (v : Nat → Int32) : x_me (u_nm x v) = x_me x := rfl
theorem g_me_nv (x : zSt) (v : Nat → Int32) : x_me (u_nv x v) = x_me x := rfl
theorem g_me_nh (x : zSt) (v : Nat → Int32) : x_me (u_nh x v) = x_me x := rfl
theorem g_me_nf (x : zSt) (v : Nat → Nat → Int32) : x_me (u_nf x v) = x_me x := rfl
theorem g_me_wr (x : zSt) (v : Nat → Nat) : x_me (u_wr x v) = x_me x := rfl
theorem g_me_wa (x : zSt) (v : Nat → Bool) : x_me (u_wa x v) = x_me x := rfl
theorem g_me_lz (x : zSt) (v : Nat → Nat) : x_me (u_lz x v) = x_me x := rfl
theorem g_me_lf (x : zSt) (v : Nat → Nat) : x_me (u_lf x v) = x_me x := rfl
theorem g_me_li (x : zSt) (v : Nat → Nat → Int32) : x_me (u_li x v) = x_me x := rfl
theorem g_me_lt (x : zSt) (v : Nat → Nat → Int64) : x_me (u_lt x v) = x_me x := rfl
theorem g_me_lb (x : zSt) (v : Nat → Nat → Int64) : x_me (u_lb x v) = x_me x := rfl
theorem g_me_lr (x : zSt) (v : Nat → Nat → Option (Nat → Int64)) : x_me (u_lr x v) = x_me x := rfl
theorem g_me_tn (x : zSt) (v : Nat) : x_me (u_tn x v) = x_me x := rfl
theorem g_me_tf (x : zSt) (v : Nat → Nat → Int32) : x_me (u_tf x v) = x_me x := rfl
theorem g_ob_dk (x : zSt) (v : Nat) : x_ob (u_dk x v) = x_ob x := rfl
theorem g_ob_lk (x : zSt) (v : Int32) : x_ob (u_lk x v) = x_ob x := rfl
theorem g_ob_po (x : zSt) (v : Int32) : x_ob (u_po x v) = x_ob x := rfl
theorem g_ob_ne (x : zSt) (v : Int32) : x_ob (u_ne x v) = x_ob x := rfl
theorem g_ob_td (x : zSt) (v : Int32) : x_ob (u_td x v) = x_ob x := rfl
theorem g_ob_nb (x : zSt) (v : Nat → Int32) : x_ob (u_nb x v) = x_ob x := rfl
theorem g_ob_ln (x : zSt) (v : Nat → Option Nat) : x_ob (u_ln x v) = x_ob x := rfl
theorem g_ob_nr (x : zSt) (v : Nat) : x_ob (u_nr x v) = x_ob x := rfl
theorem g_ob_nw (x : zSt) (v : Nat) : x_ob (u_nw x v) = x_ob x := rfl
theorem g_ob_nn (x : zSt) (v : Nat) : x_ob (u_nn x v) = x_ob x := rfl
theorem g_ob_ns (x : zSt) (v : Nat) : x_ob (u_ns x v) = x_ob x := rfl
theorem g_ob_or (x : zSt) (v : Nat) : x_ob (u_or x v) = x_ob x := rfl
theorem g_ob_ow (x : zSt) (v : Nat) : x_ob (u_ow x v) = x_ob x := rfl
theorem g_ob_on (x : zSt) (v : Nat) : x_ob (u_on x v) = x_ob x := rfl
theorem g_ob_nl (x : zSt) (v : Nat) : x_ob (u_nl x v) = x_ob x := rfl
theorem g_ob_ng (x : zSt) (v : Nat) : x_ob (u_ng x v) = x_ob x := rfl
theorem g_ob_rg (x : zSt) (v : Nat) : x_ob (u_rg x v) = x_ob x := rfl
theorem g_ob_lc (x : zSt) (v : Nat → Int32) : x_ob (u_lc x v) = x_ob x := rfl
theorem g_ob_cp (x : zSt) (v : Nat → Nat) : x_ob (u_cp x v) = x_ob x := rfl
theorem g_ob_gb (x : zSt) (v : Nat → Nat → Option zAE) : x_ob (u_gb x v) = x_ob x := rfl
theorem g_ob_sp (x : zSt) (v : Nat → Nat) : x_ob (u_sp x v) = x_ob x := rfl
theorem g_ob_kn (x : zSt) (v : Nat → Int64) : x_ob (u_kn x v) = x_ob x := rfl
theorem g_ob_me (x : zSt) (v : Nat → Int64) : x_ob (u_me x v) = x_ob x := rfl
theorem g_ob_ob (x : zSt) (v : Nat → Nat → Int64) : x_ob (u_ob x v) = v := rfl
theorem g_ob_fk (x : zSt) (v : Nat → Nat → Int32) : x_ob (u_fk x v) = x_ob x := rfl
theorem g_ob_fz (x : zSt) (v : Nat → Nat → Nat) : x_ob (u_fz x v) = x_ob x := rfl
theorem g_ob_fg (x : zSt) (v : Nat → Nat → Nat → Int32) : x_ob (u_fg x v) = x_ob x := rfl
theorem g_ob_rd (x : zSt) (v : Nat → Int32) : x_ob (u_rd x v) = x_ob x := rfl
theorem g_ob_rz (x : zSt) (v : Nat → Nat) : x_ob (u_rz x v) = x_ob x := rfl
theorem g_ob_rh (x : zSt) (v : Nat → Nat → Int32) : x_ob (u_rh x v) = x_ob x := rfl
theorem g_ob_nd (x : zSt) (v : Nat → Int32) : x_ob (u_nd x v) = x_ob x := rfl
theorem g_ob_nm (x : zSt) (v : Nat → Int32) : x_ob (u_nm x v) = x_ob x := rfl
theorem g_ob_nv (x : zSt) (v : Nat → Int32) : x_ob (u_nv x v) = x_ob x := rfl
theorem g_ob_nh (x : zSt) (v : Nat → Int32) : x_ob (u_nh x v) = x_ob x := rfl
theorem g_ob_nf (x : zSt) (v : Nat → Nat → Int32) : x_ob (u_nf x v) = x_ob x := rfl
theorem g_ob_wr (x : zSt) (v : Nat → Nat) : x_ob (u_wr x v) = x_ob x := rfl
theorem g_ob_wa (x : zSt) (v : Nat → Bool) : x_ob (u_wa x v) = x_ob x := rfl
theorem g_ob_lz (x : zSt) (v : Nat → Nat) : x_ob (u_lz x v) = x_ob x := rfl
theorem g_ob_lf (x : zSt) (v : Nat → Nat) : x_ob (u_lf x v) = x_ob x := rfl
theorem g_ob_li (x : zSt) (v : Nat → Nat → Int32) : x_ob (u_li x v) = x_ob x := rfl
theorem g_ob_lt (x : zSt) (v : Nat → Nat → Int64) : x_ob (u_lt x v) = x_ob x := rfl
theorem g_ob_lb (x : zSt) (v : Nat → Nat → Int64) : x_ob (u_lb x v) = x_ob x := rfl
theorem g_ob_lr (x : zSt) (v : Nat → Nat → Option (Nat → Int64)) : x_ob (u_lr x v) = x_ob x := rfl
theorem g_ob_tn (x : zSt) (v : Nat) : x_ob (u_tn x v) = x_ob x := rfl
theorem g_ob_tf (x : zSt) (v : Nat → Nat → Int32) : x_ob (u_tf x v) = x_ob x := rfl
theorem g_fk_dk (x : zSt) (v : Nat) : x_fk (u_dk x v) = x_fk x := rfl
theorem g_fk_lk (x : zSt) (v : Int32) : x_fk (u_lk x v) = x_fk x := rfl
theorem g_fk_po (x : zSt) (v : Int32) : x_fk (u_po x v) = x_fk x := rfl
theorem g_fk_ne (x : zSt) (v : Int32) : x_fk (u_ne x v) = x_fk x := rfl
theorem g_fk_td (x : zSt) (v : Int32) : x_fk (u_td x v) = x_fk x := rfl
theorem g_fk_nb (x : zSt) (v : Nat → Int32) : x_fk (u_nb x v) = x_fk x := rfl
theorem g_fk_ln (x : zSt) (v : Nat → Option Nat) : x_fk (u_ln x v) = x_fk x := rfl
theorem g_fk_nr (x : zSt) (v : Nat) : x_fk (u_nr x v) = x_fk x := rfl
theorem g_fk_nw (x : zSt) (v : Nat) : x_fk (u_nw x v) = x_fk x := rfl
theorem g_fk_nn (x : zSt) (v : Nat) : x_fk (u_nn x v) = x_fk x := rfl
theorem g_fk_ns (x : zSt) (v : Nat) : x_fk (u_ns x v) = x_fk x := rfl
theorem g_fk_or (x : zSt) (v : Nat) : x_fk (u_or x v) = x_fk x := rfl
theorem g_fk_ow (x : zSt) (v : Nat) : x_fk (u_ow x v) = x_fk x := rfl
theorem g_fk_on (x : zSt) (v : Nat) : x_fk (u_on x v) = x_fk x := rfl
theorem g_fk_nl (x : zSt) (v : Nat) : x_fk (u_nl x v) = x_fk x := rfl
theorem g_fk_ng (x : zSt) (v : Nat) : x_fk (u_ng x v) = x_fk x := rfl
theorem g_fk_rg (x : zSt) (v : Nat) : x_fk (u_rg x v) = x_fk x := rfl
theorem g_fk_lc (x : zSt) (v : Nat → Int32) : x_fk (u_lc x v) = x_fk x := rfl
theorem g_fk_cp (x : zSt) (v : Nat → Nat) : x_fk (u_cp x v) = x_fk x := rfl
theorem g_fk_gb (x : zSt) (v : Nat → Nat → Option zAE) : x_fk (u_gb x v) = x_fk x := rfl
theorem g_fk_sp (x : zSt) (v : Nat → Nat) : x_fk (u_sp x v) = x_fk x := rfl
theorem g_fk_kn (x : zSt) (v : Nat → Int64) : x_fk (u_kn x v) = x_fk x := rfl
theorem g_fk_me (x : zSt) (v : Nat → Int64) : x_fk (u_me x v) = x_fk x := rfl
theorem g_fk_ob (x : zSt) (v : Nat → Nat → Int64) : x_fk (u_ob x v) = x_fk x := rfl
theorem g_fk_fk (x : zSt) (v : Nat → Nat → Int32) : x_fk (u_fk x v) = v := rfl
theorem g_fk_fz (x : zSt) (v : Nat → Nat → Nat) : x_fk (u_fz x v) = x_fk x := rfl
theorem g_fk_fg (x : zSt) (v : Nat → Nat → Nat → Int32) : x_fk (u_fg x v) = x_fk x := rfl
theorem g_fk_rd (x : zSt) (v : Nat → Int32) : x_fk (u_rd x v) = x_fk x := rfl
theorem g_fk_rz (x : zSt) (v : Nat → Nat) : x_fk (u_rz x v) = x_fk x := rfl
theorem g_fk_rh (x : zSt) (v : Nat → Nat → Int32) : x_fk (u_rh x v) = x_fk x := rfl
theorem g_fk_nd (x : zSt) (v : Nat → Int32) : x_fk (u_nd x v) = x_fk x := rfl
theorem g_fk_nm (x : zSt) (v : Nat → Int32) : x_fk (u_nm x v) = x_fk x := rfl
theorem g_fk_nv (x : zSt) (v : Nat → Int32) : x_fk (u_nv x v) = x_fk x := rfl
theorem g_fk_nh (x : zSt) (v : Nat → Int32) : x_fk (u_nh x v) = x_fk x := rfl
theorem g_fk_nf (x : zSt) (v : Nat → Nat → Int32) : x_fk (u_nf x v) = x_fk x := rfl
theorem g_fk_wr (x : zSt) (v : Nat → Nat) : x_fk (u_wr x v) = x_fk x := rfl
theorem g_fk_wa (x : zSt) (v : Nat → Bool) : x_fk (u_wa x v) = x_fk x := rfl
theorem g_fk_lz (x : zSt) (v : Nat → Nat) : x_fk (u_lz x v) = x_fk x := rfl
theorem g_fk_lf (x : zSt) (v : Nat → Nat) : x_fk (u_lf x v) = x_fk x := rfl
theorem g_fk_li (x : zSt) (v : Nat → Nat → Int32) : x_fk (u_li x v) = x_fk x := rfl
theorem g_fk_lt (x : zSt) (v : Nat → Nat → Int64) : x_fk (u_lt x v) = x_fk x := rfl
theorem g_fk_lb (x : zSt) (v : Nat → Nat → Int64) : x_fk (u_lb x v) = x_fk x := rfl
theorem g_fk_lr (x : zSt) (v : Nat → Nat → Option (Nat → Int64)) : x_fk (u_lr x v) = x_fk x := rfl
theorem g_fk_tn (x : zSt) (v : Nat) : x_fk (u_tn x v) = x_fk x := rfl
theorem g_fk_tf (x : zSt) (v : Nat → Nat → Int32) : x_fk (u_tf x v) = x_fk x := rfl
theorem g_fz_dk (x : zSt) (v : Nat) : x_fz (u_dk x v) = x_fz x := rfl
theorem g_fz_lk (x : zSt) (v : Int32) : x_fz (u_lk x v) = x_fz x := rfl
theorem g_fz_po (x : zSt) (v : Int32) : x_fz (u_po x v) = x_fz x := rfl
theorem g_fz_ne (x : zSt) (v : Int32) : x_fz (u_ne x v) = x_fz x := rfl
theorem g_fz_td (x : zSt) (v : Int32) : x_fz (u_td x v) = x_fz x := rfl
theorem g_fz_nb (x : zSt) (v : Nat → Int32) : x_fz (u_nb x v) = x_fz x := rfl
theorem g_fz_ln (x : zSt) (v : Nat → Option Nat) : x_fz (u_ln x v) = x_fz x := rfl
theorem g_fz_nr (x : zSt) (v : Nat) : x_fz (u_nr x v) = x_fz x := rfl
theorem g_fz_nw (x : zSt) (v : Nat) : x_fz (u_nw x v) = x_fz x := rfl
theorem g_fz_nn (x : zSt) (v : Nat) : x_fz (u_nn x v) = x_fz x := rfl
theorem g_fz_ns (x : zSt) (v : Nat) : x_fz (u_ns x v) = x_fz x := rfl
theorem g_fz_or (x : zSt) (v : Nat) : x_fz (u_or x v) = x_fz x := rfl
theorem g_fz_ow (x : zSt) (v : Nat) : x_fz (u_ow x v) = x_fz x := rfl
theorem g_fz_on (x : zSt) (v : Nat) : x_fz (u_on x v) = x_fz x := rfl
theorem g_fz_nl (x : zSt) (v : Nat) : x_fz (u_nl x v) = x_fz x := rfl
theorem g_fz_ng (x : zSt) (v : Nat) : x_fz (u_ng x v) = x_fz x := rfl
theorem g_fz_rg (x : zSt) (v : Nat) : x_fz (u_rg x v) = x_fz x := rfl
theorem g_fz_lc (x : zSt) (v : Nat → Int32) : x_fz (u_lc x v) = x_fz x := rfl
theorem g_fz_cp (x : zSt) (v : Nat → Nat) : x_fz (u_cp x v) = x_fz x := rfl
theorem g_fz_gb (x : zSt) (v : Nat → Nat → Option zAE) : x_fz (u_gb x v) = x_fz x := rfl
theorem g_fz_sp (x : zSt) (v : Nat → Nat) : x_fz (u_sp x v) = x_fz x := rfl
theorem g_fz_kn (x : zSt) (v : Nat → Int64) : x_fz (u_kn x v) = x_fz x := rfl
theorem g_fz_me (x : zSt) (v : Nat → Int64) : x_fz (u_me x v) = x_fz x := rfl
theorem g_fz_ob (x : zSt) (v : Nat → Nat → Int64) : x_fz (u_ob x v) = x_fz x := rfl
theorem g_fz_fk (x : zSt) (v : Nat → Nat → Int32) : x_fz (u_fk x v) = x_fz x := rfl
theorem g_fz_fz (x : zSt) (v : Nat → Nat → Nat) : x_fz (u_fz x v) = v := rfl
theorem g_fz_fg (x : zSt) (v : Nat → Nat → Nat → Int32) : x_fz (u_fg x v) = x_fz x := rfl
theorem g_fz_rd (x : zSt) (v : Nat → Int32) : x_fz (u_rd x v) = x_fz x := rfl
theorem g_fz_rz (x : zSt) (v : Nat → Nat) : x_fz (u_rz x v) = x_fz x := rfl
theorem g_fz_rh (x : zSt) (v : Nat → Nat → Int32) : x_fz (u_rh x v) = x_fz x := rfl
theorem g_fz_nd (x : zSt) (v : Nat → Int32) : x_fz (u_nd x v) = x_fz x := rfl
theorem g_fz_nm (x : zSt) (v : Nat → Int32) : x_fz (u_nm x v) = x_fz x := rfl
theorem g_fz_nv (x : zSt) (v : Nat → Int32) : x_fz (u_nv x v) = x_fz x := rfl
theorem g_fz_nh (x : zSt) (v : Nat → Int32) : x_fz (u_nh x v) = x_fz x := rfl
theorem g_fz_nf (x : zSt) (v : Nat → Nat → Int32) : x_fz (u_nf x v) = x_fz x := rfl
theorem g_fz_wr (x : zSt) (v : Nat → Nat) : x_fz (u_wr x v) = x_fz x := rfl
theorem g_fz_wa (x : zSt) (v : Nat → Bool) : x_fz (u_wa x v) = x_fz x := rfl
theorem g_fz_lz (x : zSt) (v : Nat → Nat) : x_fz (u_lz x v) = x_fz x := rfl
theorem g_fz_lf (x : zSt) (v : Nat → Nat) : x_fz (u_lf x v) = x_fz x := rfl
theorem g_fz_li (x : zSt) (v : Nat → Nat → Int32) : x_fz (u_li x v) = x_fz x := rfl
theorem g_fz_lt (x : zSt) (v : Nat → Nat → Int64) : x_fz (u_lt x v) = x_fz x := rfl
theorem g_fz_lb (x : zSt) (v : Nat → Nat → Int64) : x_fz (u_lb x v) = x_fz x := rfl
theorem g_fz_lr (x : zSt) (v : Nat → Nat → Option (Nat → Int64)) : x_fz (u_lr x v) = x_fz x := rfl
theorem g_fz_tn (x : zSt) (v : Nat) : x_fz (u_tn x v) = x_fz x := rfl
theorem g_fz_tf (x : zSt) (v : Nat → Nat → Int32) : x_fz (u_tf x v) = x_fz x := rfl
theorem g_fg_dk (x : zSt) (v : Nat) : x_fg (u_dk x v) = x_fg x := rfl
theorem g_fg_lk (x : zSt) (v : Int32) : x_fg (u_lk x v) = x_fg x := rfl
theorem g_fg_po (x : zSt) (v : Int32) : x_fg (u_po x v) = x_fg x := rfl
theorem g_fg_ne (x : zSt) (v : Int32) : x_fg (u_ne x v) = x_fg x := rfl
theorem g_fg_td (x : zSt) (v : Int32) : x_fg (u_td x v) = x_fg x := rfl
theorem g_fg_nb (x : zSt) (v : Nat → Int32) : x_fg (u_nb x v) = x_fg x := rfl
theorem g_fg_ln (x : zSt) (v : Nat → Option Nat) : x_fg (u_ln x v) = x_fg x := rfl
theorem g_fg_nr (x : zSt) (v : Nat) : x_fg (u_nr x v) = x_fg x := rfl
theorem g_fg_nw (x : zSt) (v : Nat) : x_fg (u_nw x v) = x_fg x := rfl
theorem g_fg_nn (x : zSt) (v : Nat) : x_fg (u_nn x v) = x_fg x := rfl
theorem g_fg_ns (x : zSt) (v : Nat) : x_fg (u_ns x v) = x_fg x := rfl
theorem g_fg_or (x : zSt) (v : Nat) : x_fg (u_or x v) = x_fg x := rfl
theorem g_fg_ow (x : zSt) (v : Nat) : x_fg (u_ow x v) = x_fg x := rfl
theorem g_fg_on (x : zSt) (v : Nat) : x_fg (u_on x v) = x_fg x := rfl
theorem g_fg_nl (x : zSt) (v : Nat) : x_fg (u_nl x v) = x_fg x := rfl
theorem g_fg_ng (x : zSt) (v : Nat) : x_fg (u_ng x v) = x_fg x := rfl
theorem g_fg_rg (x : zSt) (v : Nat) : x_fg (u_rg x v) = x_fg x := rfl
theorem g_fg_lc (x : zSt) (v : Nat → Int32) : x_fg (u_lc x v) = x_fg x := rfl
theorem g_fg_cp (x : zSt) (v : Nat → Nat) : x_fg (u_cp x v) = x_fg x := rfl
theorem g_fg_gb (x : zSt) (v : Nat → Nat → Option zAE) : x_fg (u_gb x v) = x_fg x := rfl
theorem g_fg_sp (x : zSt) (v : Nat → Nat) : x_fg (u_sp x v) = x_fg x := rfl
theorem g_fg_kn (x : zSt) (v : Nat → Int64) : x_fg (u_kn x v) = x_fg x := rfl
theorem g_fg_me (x : zSt) (v : Nat → Int64) : x_fg (u_me x v) = x_fg x := rfl
theorem g_fg_ob (x : zSt) (v : Nat → Nat → Int64) : x_fg (u_ob x v) = x_fg x := rfl
theorem g_fg_fk (x : zSt) (v : Nat → Nat → Int32) : x_fg (u_fk x v) = x_fg x := rfl
theorem g_fg_fz (x : zSt) (v : Nat → Nat → Nat) : x_fg (u_fz x v) = x_fg x := rfl
theorem g_fg_fg (x : zSt) (v : Nat → Nat → Nat → Int32) : x_fg (u_fg x v) = v := rfl
theorem g_fg_rd (x : zSt) (v : Nat → Int32) : x_fg (u_rd x v) = x_fg x := rfl
theorem g_fg_rz (x : zSt) (v : Nat → Nat) : x_fg (u_rz x v) = x_fg x := rfl
theorem g_fg_rh (x : zSt) (v : Nat → Nat → Int32) : x_fg (u_rh x v) = x_fg x := rfl
theorem g_fg_nd (x : zSt) (v : Nat → Int32) : x_fg (u_nd x v) = x_fg x := rfl
theorem g_fg_nm (x : zSt) (v : Nat → Int32) : x_fg (u_nm x v) = x_fg x := rfl
theorem g_fg_nv (x : zSt) (v : Nat → Int32) : x_fg (u_nv x v) = x_fg x := rfl
theorem g_fg_nh (x : zSt) (v : Nat → Int32) : x_fg (u_nh x v) = x_fg x := rfl
theorem g_fg_nf (x : zSt) (v : Nat → Nat → Int32) : x_fg (u_nf x v) = x_fg x := rfl
theorem g_fg_wr (x : zSt) (v : Nat → Nat) : x_fg (u_wr x v) = x_fg x := rfl
theorem g_fg_wa (x : zSt) (v : Nat → Bool) : x_fg (u_wa x v) = x_fg x := rfl
theorem g_fg_lz (x : zSt) (v : Nat → Nat) : x_fg (u_lz x v) = x_fg x := rfl
theorem g_fg_lf (x : zSt) (v : Nat → Nat) : x_fg (u_lf x v) = x_fg x := rfl
theorem g_fg_li (x : zSt) (v : Nat → Nat → Int32) : x_fg (u_li x v) = x_fg x := rfl
theorem g_fg_lt (x : zSt) (v : Nat → Nat → Int64) : x_fg (u_lt x v) = x_fg x := rfl
theorem g_fg_lb (x : zSt) (v : Nat → Nat → Int64) : x_fg (u_lb x v) = x_fg x := rfl
theorem g_fg_lr (x : zSt) (v : Nat → Nat → Option (Nat → Int64)) : x_fg (u_lr x v) = x_fg x := rfl
theorem g_fg_tn (x : zSt) (v : Nat) : x_fg (u_tn x v) = x_fg x := rfl
theorem g_fg_tf (x : zSt) (v : Nat → Nat → Int32) : x_fg (u_tf x v) = x_fg x := rfl
theorem g_rd_dk (x : zSt) (v : Nat) : x_rd (u_dk x v) = x_rd x := rfl
theorem g_rd_lk (x : zSt) (v : Int32) : x_rd (u_lk x v) = x_rd x := rfl
theorem g_rd_po (x : zSt) (v : Int32) : x_rd (u_po x v) = x_rd x := rfl
theorem g_rd_ne (x : zSt) (v : Int32) : x_rd (u_ne x v) = x_rd x := rfl
theorem g_rd_td (x : zSt) (v : Int32) : x_rd (u_td x v) = x_rd x := rfl
theorem g_rd_nb (x : zSt) (v : Nat → Int32) : x_rd (u_nb x v) = x_rd x := rfl
theorem g_rd_ln (x : zSt) (v : Nat → Option Nat) : x_rd (u_ln x v) = x_rd x := rfl
theorem g_rd_nr (x : zSt) (v : Nat) : x_rd (u_nr x v) = x_rd x := rfl
theorem g_rd_nw (x : zSt) (v : Nat) : x_rd (u_nw x v) = x_rd x := rfl
theorem g_rd_nn (x : zSt) (v : Nat) : x_rd (u_nn x v) = x_rd x := rfl
theorem g_rd_ns (x : zSt) (v : Nat) : x_rd (u_ns x v) = x_rd x := rfl
theorem g_rd_or (x : zSt) (v : Nat) : x_rd (u_or x v) = x_rd x := rfl
theorem g_rd_ow (x : zSt) (v : Nat) : x_rd (u_ow x v) = x_rd x := rfl
theorem g_rd_on (x : zSt) (v : Nat) : x_rd (u_on x v) = x_rd x := rfl
theorem g_rd_nl (x : zSt) (v : Nat) : x_rd (u_nl x v) = x_rd x := rfl
theorem g_rd_ng (x : zSt) (v : Nat) : x_rd (u_ng x v) = x_rd x := rfl
theorem g_rd_rg (x : zSt) (v : Nat) : x_rd (u_rg x v) = x_rd x := rfl
theorem g_rd_lc (x : zSt) (v : Nat → Int32) : x_rd (u_lc x v) = x_rd x := rfl
theorem g_rd_cp (x : zSt) (v : Nat → Nat) : x_rd (u_cp x v) = x_rd x := rfl
theorem g_rd_gb (x : zSt) (v : Nat → Nat → Option zAE) : x_rd (u_gb x v) = x_rd x := rfl
theorem g_rd_sp (x : zSt) (v : Nat → Nat) : x_rd (u_sp x v) = x_rd x := rfl
theorem g_rd_kn (x : zSt) (v : Nat → Int64) : x_rd (u_kn x v) = x_rd x := rfl
theorem g_rd_me (x : zSt) (v : Nat → Int64) : x_rd (u_me x v) = x_rd x := rfl
theorem g_rd_ob (x : zSt) (v : Nat → Nat → Int64) : x_rd (u_ob x v) = x_rd x := rfl
theorem g_rd_fk (x : zSt) (v : Nat → Nat → Int32) : x_rd (u_fk x v) = x_rd x := rfl
theorem g_rd_fz (x : zSt) (v : Nat → Nat → Nat) : x_rd (u_fz x v) = x_rd x := rfl
theorem g_rd_fg (x : zSt) (v : Nat → Nat → Nat → Int32) : x_rd (u_fg x v) = x_rd x := rfl
theorem g_rd_rd (x : zSt) (v : Nat → Int32) : x_rd (u_rd x v) = v := rfl
theorem g_rd_rz (x : zSt) (v : Nat → Nat) : x_rd (u_rz x v) = x_rd x := rfl
theorem g_rd_rh (x : zSt) (v : Nat → Nat → Int32) : x_rd (u_rh x v) = x_rd x := rfl
theorem g_rd_nd (x : zSt) (v : Nat → Int32) : x_rd (u_nd x v) = x_rd x := rfl
theorem g_rd_nm (x : zSt) (v : Nat → Int32) : x_rd (u_nm x v) = x_rd x := rfl
theorem g_rd_nv (x : zSt) (v : Nat → Int32) : x_rd (u_nv x v) = x_rd x := rfl
theorem g_rd_nh (x : zSt) (v : Nat → Int32) : x_rd (u_nh x v) = x_rd x := rfl
theorem g_rd_nf (x : zSt) (v : Nat → Nat → Int32) : x_rd (u_nf x v) = x_rd x := rfl
theorem g_rd_wr (x : zSt) (v : Nat → Nat) : x_rd (u_wr x v) = x_rd x := rfl
theorem g_rd_wa (x : zSt) (v : Nat → Bool) : x_rd (u_wa x v) = x_rd x := rfl
theorem g_rd_lz (x : zSt) (v : Nat → Nat) : x_rd (u_lz x v) = x_rd x := rfl
theorem g_rd_lf (x : zSt) (v : Nat → Nat) : x_rd (u_lf x v) = x_rd x := rfl
theorem g_rd_li (x : zSt) (v : Nat → Nat → Int32) : x_rd (u_li x v) = x_rd x := rfl
theorem g_rd_lt (x : zSt) (v : Nat → Nat → Int64) : x_rd (u_lt x v) = x_rd x := rfl
theorem g_rd_lb (x : zSt) (v : Nat → Nat → Int64) : x_rd (u_lb x v) = x_rd x := rfl
theorem g_rd_lr (x : zSt) (v : Nat → Nat → Option (Nat → Int64)) : x_rd (u_lr x v) = x_rd x := rfl
theorem g_rd_tn (x : zSt) (v : Nat) : x_rd (u_tn x v) = x_rd x := rfl
theorem g_rd_tf (x : zSt) (v : Nat → Nat → Int32) : x_rd (u_tf x v) = x_rd x := rfl
theorem g_rz_dk (x : zSt) (v : Nat) : x_rz (u_dk x v) = x_rz x := rfl
theorem g_rz_lk (x : zSt) (v : Int32) : x_rz (u_lk x v) = x_rz x := rfl
theorem g_rz_po (x : zSt) (v : Int32) : x_rz (u_po x v) = x_rz x := rfl
theorem g_rz_ne (x : zSt) (v : Int32) : x_rz (u_ne x v) = x_rz x := rfl
theorem g_rz_td (x : zSt) (v : Int32) : x_rz (u_td x v) = x_rz x := rfl
theorem g_rz_nb (x : zSt) (v : Nat → Int32) : x_rz (u_nb x v) = x_rz x := rfl
theorem g_rz_ln (x : zSt) (v : Nat → Option Nat) : x_rz (u_ln x v) = x_rz x := rfl
theorem g_rz_nr (x : zSt) (v : Nat) : x_rz (u_nr x v) = x_rz x := rfl
theorem g_rz_nw (x : zSt) (v : Nat) : x_rz (u_nw x v) = x_rz x := rfl
theorem g_rz_nn (x : zSt) (v : Nat) : x_rz (u_nn x v) = x_rz x := rfl
theorem g_rz_ns (x : zSt) (v : Nat) : x_rz (u_ns x v) = x_rz x := rfl
theorem g_rz_or (x : zSt) (v : Nat) : x_rz (u_or x v) = x_rz x := rfl
theorem g_rz_ow (x : zSt) (v : Nat) : x_rz (u_ow x v) = x_rz x := rfl
theorem g_rz_on (x : zSt) (v : Nat) : x_rz (u_on x v) = x_rz x := rfl
theorem g_rz_nl (x : zSt) (v : Nat) : x_rz (u_nl x v) = x_rz x := rfl
theorem g_rz_ng (x : zSt) (v : Nat) : x_rz (u_ng x v) = x_rz x := rfl
theorem g_rz_rg (x : zSt) (v : Nat) : x_rz (u_rg x v) = x_rz x := rfl
theorem g_rz_lc (x : zSt) (v : Nat → Int32) : x_rz (u_lc x v) = x_rz x := rfl
theorem g_rz_cp (x : zSt) (v : Nat → Nat) : x_rz (u_cp x v) = x_rz x := rfl
theorem g_rz_gb (x : zSt) (v : Nat → Nat → Option zAE) : x_rz (u_gb x v) = x_rz x := rfl
theorem g_rz_sp (x : zSt) (v : Nat → Nat) : x_rz (u_sp x v) = x_rz x := rfl
theorem g_rz_kn (x : zSt) (v : Nat → Int64) : x_rz (u_kn x v) = x_rz x := rfl
theorem g_rz_me (x : zSt) (v : Nat → Int64) : x_rz (u_me x v) = x_rz x := rfl
theorem g_rz_ob (x : zSt) (v : Nat → Nat → Int64) : x_rz (u_ob x v) = x_rz x := rfl
theorem g_rz_fk (x : zSt) (v : Nat → Nat → Int32) : x_rz (u_fk x v) = x_rz x := rfl
theorem g_rz_fz (x : zSt) (v : Nat → Nat → Nat) : x_rz (u_fz x v) = x_rz x := rfl
theorem g_rz_fg (x : zSt) (v : Nat → Nat → Nat → Int32) : x_rz (u_fg x v) = x_rz x := rfl
theorem g_rz_rd (x : zSt) (v : Nat → Int32) : x_rz (u_rd x v) = x_rz x := rfl
theorem g_rz_rz (x : zSt) (v : Nat → Nat) : x_rz (u_rz x v) = v := rfl
theorem g_rz_rh (x : zSt) (v : Nat → Nat → Int32) : x_rz (u_rh x v) = x_rz x := rfl
theorem g_rz_nd (x : zSt) (v : Nat → Int32) : x_rz (u_nd x v) = x_rz x := rfl
theorem g_rz_nm (x : zSt) (v : Nat → Int32) : x_rz (u_nm x v) = x_rz x := rfl
theorem g_rz_nv (x : zSt) (v : Nat → Int32) : x_rz (u_nv x v) = x_rz x := rfl
theorem g_rz_nh (x : zSt) (v : Nat → Int32) : x_rz (u_nh x v) = x_rz x := rfl
theorem g_rz_nf (x : zSt) (v : Nat → Nat → Int32) : x_rz (u_nf x v) = x_rz x := rfl
theorem g_rz_wr (x : zSt) (v : Nat → Nat) : x_rz (u_wr x v) = x_rz x := rfl
theorem g_rz_wa (x : zSt) (v : Nat → Bool) : x_rz (u_wa x v) = x_rz x := rfl
theorem g_rz_lz (x : zSt) (v : Nat → Nat) : x_rz (u_lz x v) = x_rz x := rfl
theorem g_rz_lf (x : zSt) (v : Nat → Nat) : x_rz (u_lf x v) = x_rz x := rfl
theorem g_rz_li (x : zSt) (v : Nat → Nat → Int32) : x_rz (u_li x v) = x_rz x := rfl
theorem g_rz_lt (x : zSt) (v : Nat → Nat → Int64) : x_rz (u_lt x v) = x_rz x := rfl
theorem g_rz_lb (x : zSt) (v : Nat → Nat → Int64) : x_rz (u_lb x v) = x_rz x := rfl
theorem g_rz_lr (x : zSt) (v : Nat → Nat → Option (Nat → Int64)) : x_rz (u_lr x v) = x_rz x := rfl
theorem g_rz_tn (x : zSt) (v : Nat) : x_rz (u_tn x v) = x_rz x := rfl
theorem g_rz_tf (x : zSt) (v : Nat → Nat → Int32) : x_rz (u_tf x v) = x_rz x := rfl
theorem g_rh_dk (x : zSt) (v : Nat) : x_rh (u_dk x v) = x_rh x := rfl
theorem g_rh_lk (x : zSt) (v : Int32) : x_rh (u_lk x v) = x_rh x := rfl
theorem g_rh_po (x : zSt) (v : Int32) : x_rh (u_po x v) = x_rh x := rfl
theorem g_rh_ne (x : zSt) (v : Int32) : x_rh (u_ne x v) = x_rh x := rfl
theorem g_rh_td (x : zSt) (v : Int32) : x_rh (u_td x v) = x_rh x := rfl
theorem g_rh_nb (x : zSt) (v : Nat → Int32) : x_rh (u_nb x v) = x_rh x := rfl
theorem g_rh_ln (x : zSt) (v : Nat → Option Nat) : x_rh (u_ln x v) = x_rh x := rfl
theorem g_rh_nr (x : zSt) (v : Nat) : x_rh (u_nr x v) = x_rh x := rfl
theorem g_rh_nw (x : zSt) (v : Nat) : x_rh (u_nw x v) = x_rh x := rfl
theorem g_rh_nn (x : zSt) (v : Nat) : x_rh (u_nn x v) = x_rh x := rfl
theorem g_rh_ns (x : zSt) (v : Nat) : x_rh (u_ns x v) = x_rh x := rfl
theorem g_rh_or (x : zSt) (v : Nat) : x_rh (u_or x v) = x_rh x := rfl
theorem g_rh_ow (x : zSt) (v : Nat) : x_rh (u_ow x v) = x_rh x := rfl
theorem g_rh_on (x : zSt) (v : Nat) : x_rh (u_on x v) = x_rh x := rfl
theorem g_rh_nl (x : zSt) (v : Nat) : x_rh (u_nl x v) = x_rh x := rfl
theorem g_rh_ng (x : zSt) (v : Nat) : x_rh (u_ng x v) = x_rh x := rfl
theorem g_rh_rg (x : zSt) (v : Nat) : x_rh (u_rg x v) = x_rh x := rfl
theorem g_rh_lc (x : zSt) (v : Nat → Int32) : x_rh (u_lc x v) = x_rh x := rfl
theorem g_rh_cp (x : zSt) (v : Nat → Nat) : x_rh (u_cp x v) = x_rh x := rfl
theorem g_rh_gb (x : zSt) (v : Nat → Nat → Option zAE) : x_rh (u_gb x v) = x_rh x := rfl
theorem g_rh_sp (x : zSt) (v : Nat → Nat) : x_rh (u_sp x v) = x_rh x := rfl
theorem g_rh_kn (x : zSt) (v : Nat → Int64) : x_rh (u_kn x v) = x_rh x := rfl
theorem g_rh_me (x : zSt) (v : Nat → Int64) : x_rh (u_me x v) = x_rh x := rfl
theorem g_rh_ob (x : zSt) (v : Nat → Nat → Int64) : x_rh (u_ob x v) = x_rh x := rfl
theorem g_rh_fk (x : zSt) (v : Nat → Nat → Int32) : x_rh (u_fk x v) = x_rh x := rfl
theorem g_rh_fz (x : zSt) (v : Nat → Nat → Nat) : x_rh (u_fz x v) = x_rh x := rfl
theorem g_rh_fg (x : zSt) (v : Nat → Nat → Nat → Int32) : x_rh (u_fg x v) = x_rh x := rfl
theorem g_rh_rd (x : zSt) (v : Nat → Int32) : x_rh (u_rd x v) = x_rh x := rfl
theorem g_rh_rz (x : zSt) (v : Nat → Nat) : x_rh (u_rz x v) = x_rh x := rfl
theorem g_rh_rh (x : zSt) (v : Nat → Nat → Int32) : x_rh (u_rh x v) = v := rfl
theorem g_rh_nd (x : zSt) (v : Nat → Int32) : x_rh (u_nd x v) = x_rh x := rfl
theorem g_rh_nm (x : zSt) (v : Nat → Int32) : x_rh (u_nm x v) = x_rh x := rfl
theorem g_rh_nv (x : zSt) (v : Nat → Int32) : x_rh (u_nv x v) = x_rh x := rfl
theorem g_rh_nh (x : zSt) (v : Nat → Int32) : x_rh (u_nh x v) = x_rh x := rfl
theorem g_rh_nf (x : zSt) (v : Nat → Nat → Int32) : x_rh (u_nf x v) = x_rh x := rfl
theorem g_rh_wr (x : zSt) (v : Nat → Nat) : x_rh (u_wr x v) = x_rh x := rfl
theorem g_rh_wa (x : zSt) (v : Nat → Bool) : x_rh (u_wa x v) = x_rh x := rfl
theorem g_rh_lz (x : zSt) (v : Nat → Nat) : x_rh (u_lz x v) = x_rh x := rfl
theorem g_rh_lf (x : zSt) (v : Nat → Nat) : x_rh (u_lf x v) = x_rh x := rfl
theorem g_rh_li (x : zSt) (v : Nat → Nat → Int32) : x_rh (u_li x v) = x_rh x := rfl
theorem g_rh_lt (x : zSt) (v : Nat → Nat → Int64) : x_rh (u_lt x v) = x_rh x := rfl
theorem g_rh_lb (x : zSt) (v : Nat → Nat → Int64) : x_rh (u_lb x v) = x_rh x := rfl
theorem g_rh_lr (x : zSt) (v : Nat → Nat → Option (Nat → Int64)) : x_rh (u_lr x v) = x_rh x := rfl
theorem g_rh_tn (x : zSt) (v : Nat) : x_rh (u_tn x v) = x_rh x := rfl
theorem g_rh_tf (x : zSt) (v : Nat → Nat → Int32) : x_rh (u_tf x v) = x_rh x := rfl
theorem g_nd_dk (x : zSt) (v : Nat) : x_nd (u_dk x v) = x_nd x := rfl
theorem g_nd_lk (x : zSt) (v : Int32) : x_nd (u_lk x v) = x_nd x := rfl
theorem g_nd_po (x : zSt) (v : Int32) : x_nd (u_po x v) = x_nd x := rfl
theorem g_nd_ne (x : zSt) (v : Int32) : x_nd (u_ne x v) = x_nd x := rfl
theorem g_nd_td (x : zSt) (v : Int32) : x_nd (u_td x v) = x_nd x := rfl
theorem g_nd_nb (x : zSt) (v : Nat → Int32) : x_nd (u_nb x v) = x_nd x := rfl
theorem g_nd_ln (x : zSt) (v : Nat → Option Nat) : x_nd (u_ln x v) = x_nd x := rfl
theorem g_nd_nr (x : zSt) (v : Nat) : x_nd (u_nr x v) = x_nd x := rfl
theorem g_nd_nw (x : zSt) (v : Nat) : x_nd (u_nw x v) = x_nd x := rfl
theorem g_nd_nn (x : zSt) (v : Nat) : x_nd (u_nn x v) = x_nd x := rfl
theorem g_nd_ns (x : zSt) (v : Nat) : x_nd (u_ns x v) = x_nd x := rfl
theorem g_nd_or (x : zSt) (v : Nat) : x_nd (u_or x v) = x_nd x := rfl
theorem g_nd_ow (x : zSt) (v : Nat) : x_nd (u_ow x v) = x_nd x := rfl
theorem g_nd_on (x : zSt) (v : Nat) : x_nd (u_on x v) = x_nd x := rfl
theorem g_nd_nl (x : zSt) (v : Nat) : x_nd (u_nl x v) = x_nd x := rfl
theorem g_nd_ng (x : zSt) (v : Nat) : x_nd (u_ng x v) = x_nd x := rfl
theorem g_nd_rg (x : zSt) (v : Nat) : x_nd (u_rg x v) = x_nd x := rfl
theorem g_nd_lc (x : zSt) (v : Nat → Int32) : x_nd (u_lc x v) = x_nd x := rfl
theorem g_nd_cp (x : zSt) (v : Nat → Nat) : x_nd (u_cp x v) = x_nd x := rfl
theorem g_nd_gb (x : zSt) (v : Nat → Nat → Option zAE) : x_nd (u_gb x v) = x_nd x := rfl
theorem g_nd_sp (x : zSt) (v : Nat → Nat) : x_nd (u_sp x v) = x_nd x := rfl
theorem g_nd_kn (x : zSt) (v : Nat → Int64) : x_nd (u_kn x v) = x_nd x := rfl
theorem g_nd_me (x : zSt) (v : Nat → Int64) : x_nd (u_me x v) = x_nd x := rfl
theorem g_nd_ob (x : zSt) (v : Nat → Nat → Int64) : x_nd (u_ob x v) = x_nd x := rfl
theorem g_nd_fk (x : zSt) (v : Nat → Nat → Int32) : x_nd (u_fk x v) = x_nd x := rfl
theorem g_nd_fz (x : zSt) (v : Nat → Nat → Nat) : x_nd (u_fz x v) = x_nd x := rfl
theorem g_nd_fg (x : zSt) (v : Nat → Nat → Nat → Int32) : x_nd (u_fg x v) = x_nd x := rfl
theorem g_nd_rd (x : zSt) (v : Nat → Int32) : x_nd (u_rd x v) = x_nd x := rfl
theorem g_nd_rz (x : zSt) (v : Nat → Nat) : x_nd (u_rz x v) = x_nd x := rfl
theorem g_nd_rh (x : zSt) (v : Nat → Nat → Int32) : x_nd (u_rh x v) = x_nd x := rfl
theorem g_nd_nd (x : zSt) (v : Nat → Int32) : x_nd (u_nd x v) = v := rfl
theorem g_nd_nm (x : zSt) (v : Nat → Int32) : x_nd (u_nm x v) = x_nd x := rfl
theorem g_nd_nv (x : zSt) (v : Nat → Int32) : x_nd (u_nv x v) = x_nd x := rfl
theorem g_nd_nh (x : zSt) (v : Nat → Int32) : x_nd (u_nh x v) = x_nd x := rfl
theorem g_nd_nf (x : zSt) (v : Nat → Nat → Int32) : x_nd (u_nf x v) = x_nd x := rfl
theorem g_nd_wr (x : zSt) (v : Nat → Nat) : x_nd (u_wr x v) = x_nd x := rfl
theorem g_nd_wa (x : zSt) (v : Nat → Bool) : x_nd (u_wa x v) = x_nd x := rfl
theorem g_nd_lz (x : zSt) (v : Nat → Nat) : x_nd (u_lz x v) = x_nd x := rfl
theorem g_nd_lf (x : zSt) (v : Nat → Nat) : x_nd (u_lf x v) = x_nd x := rfl
theorem g_nd_li (x : zSt) (v : Nat → Nat → Int32) : x_nd (u_li x v) = x_nd x := rfl
theorem g_nd_lt (x : zSt) (v : Nat → Nat → Int64) : x_nd (u_lt x v) = x_nd x := rfl
theorem g_nd_lb (x : zSt) (v : Nat → Nat → Int64) : x_nd (u_lb x v) = x_nd x := rfl
theorem g_nd_lr (x : zSt) (v : Nat → Nat → Option (Nat → Int64)) : x_nd (u_lr x v) = x_nd x := rfl
theorem g_nd_tn (x : zSt) (v : Nat) : x_nd (u_tn x v) = x_nd x := rfl
theorem g_nd_tf (x : zSt) (v : Nat → Nat → Int32) : x_nd (u_tf x v) = x_nd x := rfl
theorem g_nm_dk (x : zSt) (v : Nat) : x_nm (u_dk x v) = x_nm x := rfl
theorem g_nm_lk (x : zSt) (v : Int32) : x_nm (u_lk x v) = x_nm x := rfl
theorem g_nm_po (x : zSt) (v : Int32) : x_nm (u_po x v) = x_nm x := rfl
theorem g_nm_ne (x : zSt) (v : Int32) : x_nm (u_ne x v) = x_nm x := rfl
theorem g_nm_td (x : zSt) (v : Int32) : x_nm (u_td x v) = x_nm x := rfl
theorem g_nm_nb (x : zSt) (v : Nat → Int32) : x_nm (u_nb x v) = x_nm x := rfl
theorem g_nm_ln (x : zSt) (v : Nat → Option Nat) : x_nm (u_ln x v) = x_nm x := rfl
theorem g_nm_nr (x : zSt) (v : Nat) : x_nm (u_nr x v) = x_nm x := rfl
theorem g_nm_nw (x : zSt) (v : Nat) : x_nm (u_nw x v) = x_nm x := rfl
theorem g_nm_nn (x : zSt) (v : Nat) : x_nm (u_nn x v) = x_nm x := rfl
theorem g_nm_ns (x : zSt) (v : Nat) : x_nm (u_ns x v) = x_nm x := rfl
theorem g_nm_or (x : zSt) (v : Nat) : x_nm (u_or x v) = x_nm x := rfl
theorem g_nm_ow (x : zSt) (v : Nat) : x_nm (u_ow x v) = x_nm x := rfl
theorem g_nm_on (x : zSt) (v : Nat) : x_nm (u_on x v) = x_nm x := rfl
theorem g_nm_nl (x : zSt) (v : Nat) : x_nm (u_nl x v) = x_nm x := rfl
theorem g_nm_ng (x : zSt) (v : Nat) : x_nm (u_ng x v) = x_nm x := rfl
theorem g_nm_rg (x : zSt) (v : Nat) : x_nm (u_rg x v) = x_nm x := rfl
theorem g_nm_lc (x : zSt) (v : Nat → Int32) : x_nm (u_lc x v) = x_nm x := rfl
theorem g_nm_cp (x : zSt) (v : Nat → Nat) : x_nm (u_cp x v) = x_nm x := rfl
theorem g_nm_gb (x : zSt) (v : Nat → Nat → Option zAE) : x_nm (u_gb x v) = x_nm x := rfl
theorem g_nm_sp (x : zSt) (v : Nat → Nat) : x_nm (u_sp x v) = x_nm x := rfl
theorem g_nm_kn (x : zSt) (v : Nat → Int64) : x_nm (u_kn x v) = x_nm x := rfl
theorem g_nm_me (x : zSt) (v : Nat → Int64) : x_nm (u_me x v) = x_nm x := rfl
theorem g_nm_ob (x : zSt) (v : Nat → Nat → Int64) : x_nm (u_ob x v) = x_nm x := rfl
theorem g_nm_fk (x : zSt) (v : Nat → Nat → Int32) : x_nm (u_fk x v) = x_nm x := rfl
theorem g_nm_fz (x : zSt) (v : Nat → Nat → Nat) : x_nm (u_fz x v) = x_nm x := rfl
theorem g_nm_fg (x : zSt) (v : Nat → Nat → Nat → Int32) : x_nm (u_fg x v) = x_nm x := rfl
theorem g_nm_rd (x : zSt) (v : Nat → Int32) : x_nm (u_rd x v) = x_nm x := rfl
theorem g_nm_rz (x : zSt) (v : Nat → Nat) : x_nm (u_rz x v) = x_nm x := rfl
theorem g_nm_rh (x : zSt) (v : Nat → Nat → Int32) : x_nm (u_rh x v) = x_nm x := rfl
theorem g_nm_nd (x : zSt) (v : Nat → Int32) : x_nm (u_nd x v) = x_nm x := rfl
theorem g_nm_nm (x : zSt) (v : Nat → Int32) : x_nm (u_nm x v) = v := rfl
theorem g_nm_nv (x : zSt) (v : Nat → Int32) : x_nm (u_nv x v) = x_nm x := rfl
theorem g_nm_nh (x : zSt) (v : Nat → Int32) : x_nm (u_nh x v) = x_nm x := rfl
theorem g_nm_nf (x : zSt) (v : Nat → Nat → Int32) : x_nm (u_nf x v) = x_nm x := rfl
theorem g_nm_wr (x : zSt) (v : Nat → Nat) : x_nm (u_wr x v) = x_nm x := rfl
theorem g_nm_wa (x : zSt) (v : Nat → Bool) : x_nm (u_wa x v) = x_nm x := rfl
theorem g_nm_lz (x : zSt) (v : Nat → Nat) : x_nm (u_lz x v) = x_nm x := rfl
theorem g_nm_lf (x : zSt) (v : Nat → Nat) : x_nm (u_lf x v) = x_nm x := rfl
theorem g_nm_li (x : zSt) (v : Nat → Nat → Int32) : x_nm (u_li x v) = x_nm x := rfl
theorem g_nm_lt (x : zSt) (v : Nat → Nat → Int64) : x_nm (u_lt x v) = x_nm x := rfl
theorem g_nm_lb (x : zSt) (v : Nat → Nat → Int64) : x_nm (u_lb x v) = x_nm x := rfl
theorem g_nm_lr (x : zSt) (v : Nat → Nat → Option (Nat → Int64)) : x_nm (u_lr x v) = x_nm x := rfl
theorem g_nm_tn (x : zSt) (v : Nat) : x_nm (u_tn x v) = x_nm x := rfl
theorem g_nm_tf (x : zSt) (v : Nat → Nat → Int32) : x_nm (u_tf x v) = x_nm x := rfl
theorem g_nv_dk (x : zSt) (v : Nat) : x_nv (u_dk x v) = x_nv x := rfl
theorem g_nv_lk (x : zSt) (v : Int32) : x_nv (u_lk x v) = x_nv x := rfl
theorem g_nv_po (x : zSt) (v : Int32) : x_nv (u_po x v) = x_nv x := rfl
theorem g_nv_ne (x : zSt) (v : Int32) : x_nv (u_ne x v) = x_nv x := rfl
theorem g_nv_td (x : zSt) (v : Int32) : x_nv (u_td x v) = x_nv x := rfl
theorem g_nv_nb (x : zSt) (v : Nat → Int32) : x_nv (u_nb x v) = x_nv x := rfl
theorem g_nv_ln (x : zSt) (v : Nat → Option Nat) : x_nv (u_ln x v) = x_nv x := rfl
theorem g_nv_nr (x : zSt) (v : Nat) : x_nv (u_nr x v) = x_nv x := rfl
theorem g_nv_nw (x : zSt) (v : Nat) : x_nv (u_nw x v) = x_nv x := rfl
theorem g_nv_nn (x : zSt) (v : Nat) : x_nv (u_nn x v) = x_nv x := rfl
theorem g_nv_ns (x : zSt) (v : Nat) : x_nv (u_ns x v) = x_nv x := rfl
theorem g_nv_or (x : zSt) (v : Nat) : x_nv (u_or x v) = x_nv x := rfl
theorem g_nv_ow (x : zSt) (v : Nat) : x_nv (u_ow x v) = x_nv x := rfl
theorem g_nv_on (x : zSt) (v : Nat) : x_nv (u_on x v) = x_nv x := rfl
theorem g_nv_nl (x : zSt) (v : Nat) : x_nv (u_nl x v) = x_nv x := rfl
theorem g_nv_ng (x : zSt) (v : Nat) : x_nv (u_ng x v) = x_nv x := rfl
theorem g_nv_rg (x : zSt) (v : Nat) : x_nv (u_rg x v) = x_nv x := rfl
theorem g_nv_lc (x : zSt) (v : Nat → Int32) : x_nv (u_lc x v) = x_nv x := rfl
theorem g_nv_cp (x : zSt) (v : Nat → Nat) : x_nv (u_cp x v) = x_nv x := rfl
theorem g_nv_gb (x : zSt) (v : Nat → Nat → Option zAE) : x_nv (u_gb x v) = x_nv x := rfl
theorem g_nv_sp (x : zSt) (v : Nat → Nat) : x_nv (u_sp x v) = x_nv x := rfl
theorem g_nv_kn (x : zSt) (v : Nat → Int64) : x_nv (u_kn x v) = x_nv x := rfl
theorem g_nv_me (x : zSt) (v : Nat → Int64) : x_nv (u_me x v) = x_nv x := rfl
theorem g_nv_ob (x : zSt) (v : Nat → Nat → Int64) : x_nv (u_ob x v) = x_nv x := rfl
theorem g_nv_fk (x : zSt) (v : Nat → Nat → Int32) : x_nv (u_fk x v) = x_nv x := rfl
theorem g_nv_fz (x : zSt) (v : Nat → Nat → Nat) : x_nv (u_fz x v) = x_nv x := rfl
theorem g_nv_fg (x : zSt) (v : Nat → Nat → Nat → Int32) : x_nv (u_fg x v) = x_nv x := rfl
theorem g_nv_rd (x : zSt) (v : Nat → Int32) : x_nv (u_rd x v) = x_nv x := rfl
theorem g_nv_rz (x : zSt) (v : Nat → Nat) : x_nv (u_rz x v) = x_nv x := rfl
theorem g_nv_rh (x : zSt) (v : Nat → Nat → Int32) : x_nv (u_rh x v) = x_nv x := rfl
theorem g_nv_nd (x : zSt) (v : Nat → Int32) : x_nv (u_nd x v) = x_nv x := rfl
theorem g_nv_nm (x : zSt) (v : Nat → Int32) : x_nv (u_nm x v) = x_nv x := rfl
theorem g_nv_nv (x : zSt) (v : Nat → Int32) : x_nv (u_nv x v) = v := rfl
theorem g_nv_nh (x : zSt) (v : Nat → Int32) : x_nv (u_nh x v) = x_nv x := rfl
theorem g_nv_nf (x : zSt) (v : Nat → Nat → Int32) : x_nv (u_nf x v) = x_nv x := rfl
theorem g_nv_wr (x : zSt) (v : Nat → Nat) : x_nv (u_wr x v) = x_nv x := rfl
theorem g_nv_wa (x : zSt) (v : Nat → Bool) : x_nv (u_wa x v) = x_nv x := rfl
theorem g_nv_lz (x : zSt) (v : Nat → Nat) : x_nv (u_lz x v) = x_nv x := rfl
theorem g_nv_lf (x : zSt) (v : Nat → Nat) : x_nv (u_lf x v) = x_nv x := rfl
theorem g_nv_li (x : zSt) (v : Nat → Nat → Int32) : x_nv (u_li x v) = x_nv x := rfl
theorem g_nv_lt (x : zSt) (v : Nat → Nat → Int64) : x_nv (u_lt x v) = x_nv x := rfl
theorem g_nv_lb (x : zSt) (v : Nat → Nat → Int64) : x_nv (u_lb x v) = x_nv x := rfl
theorem g_nv_lr (x : zSt) (v : Nat → Nat → Option (Nat → Int64)) : x_nv (u_lr x v) = x_nv x := rfl
theorem g_nv_tn (x : zSt) (v : Nat) : x_nv (u_tn x v) = x_nv x := rfl
theorem g_nv_tf (x : zSt) (v : Nat → Nat → Int32) : x_nv (u_tf x v) = x_nv x := rfl
theorem g_nh_dk (x : zSt) (v : Nat) : x_nh (u_dk x v) = x_nh x := rfl
theorem g_nh_lk (x : zSt) (v : Int32) : x_nh (u_lk x v) = x_nh x := rfl
theorem g_nh_po (x : zSt) (v : Int32) : x_nh (u_po x v) = x_nh x := rfl
theorem g_nh_ne (x : zSt) (v : Int32) : x_nh (u_ne x v) = x_nh x := rfl
theorem g_nh_td (x : zSt) (v : Int32) : x_nh (u_td x v) = x_nh x := rfl
theorem g_nh_nb (x : zSt) (v : Nat → Int32) : x_nh (u_nb x v) = x_nh x := rfl
theorem g_nh_ln (x : zSt) (v : Nat → Option Nat) : x_nh (u_ln x v) = x_nh x := rfl
theorem g_nh_nr (x : zSt) (v : Nat) : x_nh (u_nr x v) = x_nh x := rfl
theorem g_nh_nw (x : zSt) (v : Nat) : x_nh (u_nw x v) = x_nh x := rfl
theorem g_nh_nn (x : zSt) (v : Nat) : x_nh (u_nn x v) = x_nh x := rfl
theorem g_nh_ns (x : zSt) (v : Nat) : x_nh (u_ns x v) = x_nh x := rfl
theorem g_nh_or (x : zSt) (v : Nat) : x_nh (u_or x v) = x_nh x := rfl
theorem g_nh_ow (x : zSt) (v : Nat) : x_nh (u_ow x v) = x_nh x := rfl
theorem g_nh_on (x : zSt) (v : Nat) : x_nh (u_on x v) = x_nh x := rfl
theorem g_nh_nl (x : zSt) (v : Nat) : x_nh (u_nl x v) = x_nh x := rfl
theorem g_nh_ng (x : zSt) (v : Nat) : x_nh (u_ng x v) = x_nh x := rfl
theorem g_nh_rg (x : zSt) (v : Nat) : x_nh (u_rg x v) = x_nh x := rfl
theorem g_nh_lc (x : zSt) (v : Nat → Int32) : x_nh (u_lc x v) = x_nh x := rfl
theorem g_nh_cp (x : zSt) (v : Nat → Nat) : x_nh (u_cp x v) = x_nh x := rfl
theorem g_nh_gb (x : zSt) (v : Nat → Nat → Option zAE) : x_nh (u_gb x v) = x_nh x := rfl
theorem g_nh_sp (x : zSt) (v : Nat → Nat) : x_nh (u_sp x v) = x_nh x := rfl
theorem g_nh_kn (x : zSt) (v : Nat → Int64) : x_nh (u_kn x v) = x_nh x := rfl
theorem g_nh_me (x : zSt) (v : Nat → Int64) : x_nh (u_me x v) = x_nh x := rfl
theorem g_nh_ob (x : zSt) (v : Nat → Nat → Int64) : x_nh (u_ob x v) = x_nh x := rfl
theorem g_nh_fk (x : zSt) (v : Nat → Nat → Int32) : x_nh (u_fk x v) = x_nh x := rfl
theorem g_nh_fz (x : zSt) (v : Nat → Nat → Nat) : x_nh (u_fz x v) = x_nh x := rfl
theorem g_nh_fg (x : zSt) (v : Nat → Nat → Nat → Int32) : x_nh (u_fg x v) = x_nh x := rfl
theorem g_nh_rd (x : zSt) (v : Nat → Int32) : x_nh (u_rd x v) = x_nh x := rfl
theorem g_nh_rz (x : zSt) (v : Nat → Nat) : x_nh (u_rz x v) = x_nh x := rfl
theorem g_nh_rh (x : zSt) (v : Nat → Nat → Int32) : x_nh (u_rh x v) = x_nh x := rfl
theorem g_nh_nd (x : zSt) (v : Nat → Int32) : x_nh (u_nd x v) = x_nh x := rfl
theorem g_nh_nm (x : zSt) (v : Nat → Int32) : x_nh (u_nm x v) = x_nh x := rfl
theorem g_nh_nv (x : zSt) (v : Nat → Int32) : x_nh (u_nv x v) = x_nh x := rfl
theorem g_nh_nh (x : zSt) (v : Nat → Int32) : x_nh (u_nh x v) = v := rfl
theorem g_nh_nf (x : zSt) (v : Nat → Nat → Int32) : x_nh (u_nf x v) = x_nh x := rfl
theorem g_nh_wr (x : zSt) (v : Nat → Nat) : x_nh (u_wr x v) = x_nh x := rfl
theorem g_nh_wa (x : zSt) (v : Nat → Bool) : x_nh (u_wa x v) = x_nh x := rfl
theorem g_nh_lz (x : zSt) (v : Nat → Nat) : x_nh (u_lz x v) = x_nh x := rfl
theorem g_nh_lf (x : zSt) (v : Nat → Nat) : x_nh (u_lf x v) = x_nh x := rfl
theorem g_nh_li (x : zSt) (v : Nat → Nat → Int32) : x_nh (u_li x v) = x_nh x := rfl
theorem g_nh_lt (x : zSt) (v : Nat → Nat → Int64) : x_nh (u_lt x v) = x_nh x := rfl
theorem g_nh_lb (x : zSt) (v : Nat → Nat → Int64) : x_nh (u_lb x v) = x_nh x := rfl
theorem g_nh_lr (x : zSt) (v : Nat → Nat → Option (Nat → Int64)) : x_nh (u_lr x v) = x_nh x := rfl
theorem g_nh_tn (x : zSt) (v : Nat) : x_nh (u_tn x v) = x_nh x := rfl
theorem g_nh_tf (x : zSt) (v : Nat → Nat → Int32) : x_nh (u_tf x v) = x_nh x := rfl
theorem g_nf_dk (x : zSt) (v : Nat) : x_nf (u_dk x v) = x_nf x := rfl
theorem g_nf_lk (x : zSt) (v : Int32) : x_nf (u_lk x v) = x_nf x := rfl
theorem g_nf_po (x : zSt) (v : Int32) : x_nf (u_po x v) = x_nf x := rfl
theorem g_nf_ne (x : zSt) (v : Int32) : x_nf (u_ne x v) = x_nf x := rfl
theorem g_nf_td (x : zSt) (v : Int32) : x_nf (u_td x v) = x_nf x := rfl
theorem g_nf_nb (x : zSt) (v : Nat → Int32) : x_nf (u_nb x v) = x_nf x := rfl
theorem g_nf_ln (x : zSt) (v : Nat → Option Nat) : x_nf (u_ln x v) = x_nf x := rfl
theorem g_nf_nr (x : zSt) (v : Nat) : x_nf (u_nr x v) = x_nf x := rfl
theorem g_nf_nw (x : zSt) (v : Nat) : x_nf (u_nw x v) = x_nf x := rfl
theorem g_nf_nn (x : zSt) (v : Nat) : x_nf (u_nn x v) = x_nf x := rfl
theorem g_nf_ns (x : zSt) (v : Nat) : x_nf (u_ns x v) = x_nf x := rfl
theorem g_nf_or (x : zSt) (v : Nat) : x_nf (u_or x v) = x_nf x := rfl
theorem g_nf_ow (x : zSt) (v : Nat) : x_nf (u_ow x v) = x_nf x := rfl
theorem g_nf_on (x : zSt) (v : Nat) : x_nf (u_on x v) = x_nf x := rfl
theorem g_nf_nl (x : zSt) (v : Nat) : x_nf (u_nl x v) = x_nf x := rfl
theorem g_nf_ng (x : zSt) (v : Nat) : x_nf (u_ng x v) = x_nf x := rfl
theorem g_nf_rg (x : zSt) (v : Nat) : x_nf (u_rg x v) = x_nf x := rfl
theorem g_nf_lc (x : zSt) (v : Nat → Int32) : x_nf (u_lc x v) = x_nf x := rfl
theorem g_nf_cp (x : zSt) (v : Nat → Nat) : x_nf (u_cp x v) = x_nf x := rfl
theorem g_nf_gb (x : zSt) (v : Nat → Nat → Option zAE) : x_nf (u_gb x v) = x_nf x := rfl
theorem g_nf_sp (x : zSt) (v : Nat → Nat) : x_nf (u_sp x v) = x_nf x := rfl
theorem g_nf_kn (x : zSt) (v : Nat → Int64) : x_nf (u_kn x v) = x_nf x := rfl
theorem g_nf_me (x : zSt) (v : Nat → Int64) : x_nf (u_me x v) = x_nf x := rfl
theorem g_nf_ob (x : zSt) (v : Nat → Nat → Int64) : x_nf (u_ob x v) = x_nf x := rfl
theorem g_nf_fk (x : zSt) (v : Nat → Nat → Int32) : x_nf (u_fk x v) = x_nf x := rfl
theorem g_nf_fz (x : zSt) (v : Nat → Nat → Nat) : x_nf (u_fz x v) = x_nf x := rfl
theorem g_nf_fg (x : zSt) (v : Nat → Nat → Nat → Int32) : x_nf (u_fg x v) = x_nf x := rfl
theorem g_nf_rd (x : zSt) (v : Nat → Int32) : x_nf (u_rd x v) = x_nf x := rfl
theorem g_nf_rz (x : zSt) (v : Nat → Nat) : x_nf (u_rz x v) = x_nf x := rfl
theorem g_nf_rh (x : zSt) (v : Nat → Nat → Int32) : x_nf (u_rh x v) = x_nf x := rfl
theorem g_nf_nd (x : zSt) (v : Nat → Int32) : x_nf (u_nd x v) = x_nf x := rfl
theorem g_nf_nm (x : zSt) (v : Nat → Int32) : x_nf (u_nm x v) = x_nf x := rfl
theorem g_nf_nv (x : zSt) (v : Nat → Int32) : x_nf (u_nv x v) = x_nf x := rfl
theorem g_nf_nh (x : zSt) (v : Nat → Int32) : x_nf (u_nh x v) = x_nf x := rfl
theorem g_nf_nf (x : zSt) (v : Nat → Nat → Int32) : x_nf (u_nf x v) = v := rfl
theorem g_nf_wr (x : zSt) (v : Nat → Nat) : x_nf (u_wr x v) = x_nf x := rfl
theorem g_nf_wa (x : zSt) (v : Nat → Bool) : x_nf (u_wa x v) = x_nf x := rfl
theorem g_nf_lz (x : zSt) (v : Nat → Nat) : x_nf (u_lz x v) = x_nf x := rfl
theorem g_nf_lf (x : zSt) (v : Nat → Nat) : x_nf (u_lf x v) = x_nf x := rfl
theorem g_nf_li (x : zSt) (v : Nat → Nat → Int32) : x_nf (u_li x v) = x_nf x := rfl
theorem g_nf_lt (x : zSt) (v : Nat → Nat → Int64) : x_nf (u_lt x v) = x_nf x := rfl
theorem g_nf_lb (x : zSt) (v : Nat → Nat → Int64) : x_nf (u_lb x v) = x_nf x := rfl
theorem g_nf_lr (x : zSt) (v : Nat → Nat → Option (Nat → Int64)) : x_nf (u_lr x v) = x_nf x := rfl
theorem g_nf_tn (x : zSt) (v : Nat) : x_nf (u_tn x v) = x_nf x := rfl
theorem g_nf_tf (x : zSt) (v : Nat → Nat → Int32) : x_nf (u_tf x v) = x_nf x := rfl
theorem g_wr_dk (x : zSt) (v : Nat) : x_wr (u_dk x v) = x_wr x := rfl
theorem g_wr_lk (x : zSt) (v : Int32) : x_wr (u_lk x v) = x_wr x := rfl
theorem g_wr_po (x : zSt) (v : Int32) : x_wr (u_po x v) = x_wr x := rfl
theorem g_wr_ne (x : zSt) (v : Int32) : x_wr (u_ne x v) = x_wr x := rfl
theorem g_wr_td (x : zSt) (v : Int32) : x_wr (u_td x v) = x_wr x := rfl
theorem g_wr_nb (x : zSt) (v : Nat → Int32) : x_wr (u_nb x v) = x_wr x := rfl
theorem g_wr_ln (x : zSt) (v : Nat → Option Nat) : x_wr (u_ln x v) = x_wr x := rfl
theorem g_wr_nr (x : zSt) (v : Nat) : x_wr (u_nr x v) = x_wr x := rfl
theorem g_wr_nw (x : zSt) (v : Nat) : x_wr (u_nw x v) = x_wr x := rfl
theorem g_wr_nn (x : zSt) (v : Nat) : x_wr (u_nn x v) = x_wr x := rfl
theorem g_wr_ns (x : zSt) (v : Nat) : x_wr (u_ns x v) = x_wr x := rfl
theorem g_wr_or (x : zSt) (v : Nat) : x_wr (u_or x v) = x_wr x := rfl
theorem g_wr_ow (x : zSt) (v : Nat) : x_wr (u_ow x v) = x_wr x := rfl
theorem g_wr_on (x : zSt) (v : Nat) : x_wr (u_on x v) = x_wr x := rfl
theorem g_wr_nl (x : zSt) (v : Nat) : x_wr (u_nl x v) = x_wr x := rfl
theorem g_wr_ng (x : zSt) (v : Nat) : x_wr (u_ng x v) = x_wr x := rfl
theorem g_wr_rg (x : zSt) (v : Nat) : x_wr (u_rg x v) = x_wr x := rfl
theorem g_wr_lc (x : zSt) (v : Nat → Int32) : x_wr (u_lc x v) = x_wr x := rfl
theorem g_wr_cp (x : zSt) (v : Nat → Nat) : x_wr (u_cp x v) = x_wr x := rfl
theorem g_wr_gb (x : zSt) (v : Nat → Nat → Option zAE) : x_wr (u_gb x v) = x_wr x := rfl
theorem g_wr_sp (x : zSt) (v : Nat → Nat) : x_wr (u_sp x v) = x_wr x := rfl
theorem g_wr_kn (x : zSt) (v : Nat → Int64) : x_wr (u_kn x v) = x_wr x := rfl
theorem g_wr_me (x : zSt) (v : Nat → Int64) : x_wr (u_me x v) = x_wr x := rfl
theorem g_wr_ob (x : zSt) (v : Nat → Nat → Int64) : x_wr (u_ob x v) = x_wr x := rfl
theorem g_wr_fk (x : zSt) (v : Nat → Nat → Int32) : x_wr (u_fk x v) = x_wr x := rfl
theorem g_wr_fz (x : zSt) (v : Nat → Nat → Nat) : x_wr (u_fz x v) = x_wr x := rfl
theorem g_wr_fg (x : zSt) (v : Nat → Nat → Nat → Int32) : x_wr (u_fg x v) = x_wr x := rfl
theorem g_wr_rd (x : zSt) (v : Nat → Int32) : x_wr (u_rd x v) = x_wr x := rfl
theorem g_wr_rz (x : zSt) (v : Nat → Nat) : x_wr (u_rz x v) = x_wr x := rfl
theorem g_wr_rh (x : zSt) (v : Nat → Nat → Int32) : x_wr (u_rh x v) = x_wr x := rfl
theorem g_wr_nd (x : zSt) (v : Nat → Int32) : x_wr (u_nd x v) = x_wr x := rfl
theorem g_wr_nm (x : zSt) (v : Nat → Int32) : x_wr (u_nm x v) = x_wr x := rfl
theorem g_wr_nv (x : zSt) (v : Nat → Int32) : x_wr (u_nv x v) = x_wr x := rfl
theorem g_wr_nh (x : zSt) (v : Nat → Int32) : x_wr (u_nh x v) = x_wr x := rfl
theorem g_wr_nf (x : zSt) (v : Nat → Nat → Int32) : x_wr (u_nf x v) = x_wr x := rfl
theorem g_wr_wr (x : zSt) (v : Nat → Nat) : x_wr (u_wr x v) = v := rfl
theorem g_wr_wa (x : zSt) (v : Nat → Bool) : x_wr (u_wa x v) = x_wr x := rfl
theorem g_wr_lz (x : zSt) (v : Nat → Nat) : x_wr (u_lz x v) = x_wr x := rfl
theorem g_wr_lf (x : zSt) (v : Nat → Nat) : x_wr (u_lf x v) = x_wr x := rfl
theorem g_wr_li (x : zSt) (v : Nat → Nat → Int32) : x_wr (u_li x v) = x_wr x := rfl
theorem g_wr_lt (x : zSt) (v : Nat → Nat → Int64) : x_wr (u_lt x v) = x_wr x := rfl
theorem g_wr_lb (x : zSt) (v : Nat → Nat → Int64) : x_wr (u_lb x v) = x_wr x := rfl
theorem g_wr_lr (x : zSt) (v : Nat → Nat → Option (Nat → Int64)) : x_wr (u_lr x v) = x_wr x := rfl
theorem g_wr_tn (x : zSt) (v : Nat) : x_wr (u_tn x v) = x_wr x := rfl
theorem g_wr_tf (x : zSt) (v : Nat → Nat → Int32) : x_wr (u_tf x v) = x_wr x := rfl
theorem g_wa_dk (x : zSt) (v : Nat) : x_wa (u_dk x v) = x_wa x := rfl
theorem g_wa_lk (x : zSt) (v : Int32) : x_wa (u_lk x v) = x_wa x := rfl
theorem g_wa_po (x : zSt) (v : Int32) : x_wa (u_po x v) = x_wa x := rfl
theorem g_wa_ne (x : zSt) (v : Int32) : x_wa (u_ne x v) = x_wa x := rfl
theorem g_wa_td (x : zSt) (v : Int32) : x_wa (u_td x v) = x_wa x := rfl
theorem g_wa_nb (x : zSt) (v : Nat → Int32) : x_wa (u_nb x v) = x_wa x := rfl
theorem g_wa_ln (x : zSt) (v : Nat → Option Nat) : x_wa (u_ln x v) = x_wa x := rfl
theorem g_wa_nr (x : zSt) (v : Nat) : x_wa (u_nr x v) = x_wa x := rfl
theorem g_wa_nw (x : zSt) (v : Nat) : x_wa (u_nw x v) = x_wa x := rfl
theorem g_wa_nn (x : zSt) (v : Nat) : x_wa (u_nn x v) = x_wa x := rfl
theorem g_wa_ns (x : zSt) (v : Nat) : x_wa (u_ns x v) = x_wa x := rfl
theorem g_wa_or (x : zSt) (v : Nat) : x_wa (u_or x v) = x_wa x := rfl
theorem g_wa_ow (x : zSt) (v : Nat) : x_wa (u_ow x v) = x_wa x := rfl
theorem g_wa_on (x : zSt) (v : Nat) : x_wa (u_on x v) = x_wa x := rfl
theorem g_wa_nl (x : zSt) (v : Nat) : x_wa (u_nl x v) = x_wa x := rfl
theorem g_wa_ng (x : zSt) (v : Nat) : x_wa (u_ng x v) = x_wa x := rfl
theorem g_wa_rg (x : zSt) (v : Nat) : x_wa (u_rg x v) = x_wa x := rfl
theorem g_wa_lc (x : zSt) (v : Nat → Int32) : x_wa (u_lc x v) = x_wa x := rfl
theorem g_wa_cp (x : zSt) (v : Nat → Nat) : x_wa (u_cp x v) = x_wa x := rfl
theorem g_wa_gb (x : zSt) (v : Nat → Nat → Option zAE) : x_wa (u_gb x v) = x_wa x := rfl
theorem g_wa_sp (x : zSt) (v : Nat → Nat) : x_wa (u_sp x v) = x_wa x := rfl
theorem g_wa_kn (x : zSt) (v : Nat → Int64) : x_wa (u_kn x v) = x_wa x := rfl
theorem g_wa_me (x : zSt) (v : Nat → Int64) : x_wa (u_me x v) = x_wa x := rfl
theorem g_wa_ob (x : zSt) (v : Nat → Nat → Int64) : x_wa (u_ob x v) = x_wa x := rfl
theorem g_wa_fk (x : zSt) (v : Nat → Nat → Int32) : x_wa (u_fk x v) = x_wa x := rfl
theorem g_wa_fz (x : zSt) (v : Nat → Nat → Nat) : x_wa (u_fz x v) = x_wa x := rfl
theorem g_wa_fg (x : zSt) (v : Nat → Nat → Nat → Int32) : x_wa (u_fg x v) = x_wa x := rfl
theorem g_wa_rd (x : zSt) (v : Nat → Int32) : x_wa (u_rd x v) = x_wa x := rfl
theorem g_wa_rz (x : zSt) (v : Nat → Nat) : x_wa (u_rz x v) = x_wa x := rfl
theorem g_wa_rh (x : zSt) (v : Nat → Nat → Int32) : x_wa (u_rh x v) = x_wa x := rfl
theorem g_wa_nd (x : zSt) (v : Nat → Int32) : x_wa (u_nd x v) = x_wa x := rfl
theorem g_wa_nm (x : zSt) (v : Nat → Int32) : x_wa (u_nm x v) = x_wa x := rfl
theorem g_wa_nv (x : zSt) (v : Nat → Int32) : x_wa (u_nv x v) = x_wa x := rfl
theorem g_wa_nh (x : zSt) (v : Nat → Int32) : x_wa (u_nh x v) = x_wa x := rfl
theorem g_wa_nf (x : zSt) (v : Nat → Nat → Int32) : x_wa (u_nf x v) = x_wa x := rfl
theorem g_wa_wr (x : zSt) (v : Nat → Nat) : x_wa (u_wr x v) = x_wa x := rfl
theorem g_wa_wa (x : zSt) (v : Nat → Bool) : x_wa (u_wa x v) = v := rfl
theorem g_wa_lz (x : zSt) (v : Nat → Nat) : x_wa (u_lz x v) = x_wa x := rfl
theorem g_wa_lf (x : zSt) (v : Nat → Nat) : x_wa (u_lf x v) = x_wa x := rfl
theorem g_wa_li (x : zSt) (v : Nat → Nat → Int32) : x_wa (u_li x v) = x_wa x := rfl
theorem g_wa_lt (x : zSt) (v : Nat → Nat → Int64) : x_wa (u_lt x v) = x_wa x := rfl
theorem g_wa_lb (x : zSt) (v : Nat → Nat → Int64) : x_wa (u_lb x v) = x_wa x := rfl
theorem g_wa_lr (x : zSt) (v : Nat → Nat → Option (Nat → Int64)) : x_wa (u_lr x v) = x_wa x := rfl
theorem g_wa_tn (x : zSt) (v : Nat) : x_wa (u_tn x v) = x_wa x := rfl
theorem g_wa_tf (x : zSt) (v : Nat → Nat → Int32) : x_wa (u_tf x v) = x_wa x := rfl
theorem g_lz_dk (x : zSt) (v : Nat) : x_lz (u_dk x v) = x_lz x := rfl
theorem g_lz_lk (x : zSt) (v : Int32) : x_lz (u_lk x v) = x_lz x := rfl
theorem g_lz_po (x : zSt) (v : Int32) : x_lz (u_po x v) = x_lz x := rfl
theorem g_lz_ne (x : zSt) (v : Int32) : x_lz (u_ne x v) = x_lz x := rfl
theorem g_lz_td (x : zSt) (v : Int32) : x_lz (u_td x v) = x_lz x := rfl
theorem g_lz_nb (x : zSt) (v : Nat → Int32) : x_lz (u_nb x v) = x_lz x := rfl
theorem g_lz_ln (x : zSt) (v : Nat → Option Nat) : x_lz (u_ln x v) = x_lz x := rfl
theorem g_lz_nr (x : zSt) (v : Nat) : x_lz (u_nr x v) = x_lz x := rfl
theorem g_lz_nw (x : zSt) (v : Nat) : x_lz (u_nw x v) = x_lz x := rfl
theorem g_lz_nn (x : zSt) (v : Nat) : x_lz (u_nn x v) = x_lz x := rfl
theorem g_lz_ns (x : zSt) (v : Nat) : x_lz (u_ns x v) = x_lz x := rfl
theorem g_lz_or (x : zSt) (v : Nat) : x_lz (u_or x v) = x_lz x := rfl
theorem g_lz_ow (x : zSt) (v : Nat) : x_lz (u_ow x v) = x_lz x := rfl
theorem g_lz_on (x : zSt) (v : Nat) : x_lz (u_on x v) = x_lz x := rfl
theorem g_lz_nl (x : zSt) (v : Nat) : x_lz (u_nl x v) = x_lz x := rfl
theorem g_lz_ng (x : zSt) (v : Nat) : x_lz (u_ng x v) = x_lz x := rfl
theorem g_lz_rg (x : zSt) (v : Nat) : x_lz (u_rg x v) = x_lz x := rfl
theorem g_lz_lc (x : zSt) (v : Nat → Int32) : x_lz (u_lc x v) = x_lz x := rfl
theorem g_lz_cp (x : zSt) (v : Nat → Nat) : x_lz (u_cp x v) = x_lz x := rfl
theorem g_lz_gb (x : zSt) (v : Nat → Nat → Option zAE) : x_lz (u_gb x v) = x_lz x := rfl
theorem g_lz_sp (x : zSt) (v : Nat → Nat) : x_lz (u_sp x v) = x_lz x := rfl
theorem g_lz_kn (x : zSt) (v : Nat → Int64) : x_lz (u_kn x v) = x_lz x := rfl
theorem g_lz_me (x : zSt) (v : Nat → Int64) : x_lz (u_me x v) = x_lz x := rfl
theorem g_lz_ob (x : zSt) (v : Nat → Nat → Int64) : x_lz (u_ob x v) = x_lz x := rfl
theorem g_lz_fk (x : zSt) (v : Nat → Nat → Int32) : x_lz (u_fk x v) = x_lz x := rfl
theorem g_lz_fz (x : zSt) (v : Nat → Nat → Nat) : x_lz (u_fz x v) = x_lz x := rfl
theorem g_lz_fg (x : zSt) (v : Nat → Nat → Nat → Int32) : x_lz (u_fg x v) = x_lz x := rfl
theorem g_lz_rd (x : zSt) (v : Nat → Int32) : x_lz (u_rd x v) = x_lz x := rfl
theorem g_lz_rz (x : zSt) (v : Nat → Nat) : x_lz (u_rz x v) = x_lz x := rfl
theorem g_lz_rh (x : zSt) (v : Nat → Nat → Int32) : x_lz (u_rh x v) = x_lz x := rfl
theorem g_lz_nd (x : zSt) (v : Nat → Int32) : x_lz (u_nd x v) = x_lz x := rfl
theorem g_lz_nm (x : zSt) (v : Nat → Int32) : x_lz (u_nm x v) = x_lz x := rfl
theorem g_lz_nv (x : zSt) (v : Nat → Int32) : x_lz (u_nv x v) = x_lz x := rfl
theorem g_lz_nh (x : zSt) (v : Nat → Int32) : x_lz (u_nh x v) = x_lz x := rfl
theorem g_lz_nf (x : zSt) (v : Nat → Nat → Int32) : x_lz (u_nf x v) = x_lz x := rfl
theorem g_lz_wr (x : zSt) (v : Nat → Nat) : x_lz (u_wr x v) = x_lz x := rfl
theorem g_lz_wa (x : zSt) (v : Nat → Bool) : x_lz (u_wa x v) = x_lz x := rfl
theorem g_lz_lz (x : zSt) (v : Nat → Nat) : x_lz (u_lz x v) = v := rfl
theorem g_lz_lf (x : zSt) (v : Nat → Nat) : x_lz (u_lf x v) = x_lz x := rfl
theorem g_lz_li (x : zSt) (v : Nat → Nat → Int32) : x_lz (u_li x v) = x_lz x := rfl
theorem g_lz_lt (x : zSt) (v : Nat → Nat → Int64) : x_lz (u_lt x v) = x_lz x := rfl
theorem g_lz_lb (x : zSt) (v : Nat → Nat → Int64) : x_lz (u_lb x v) = x_lz x := rfl
theorem g_lz_lr (x : zSt) (v : Nat → Nat → Option (Nat → Int64)) : x_lz (u_lr x v) = x_lz x := rfl
theorem g_lz_tn (x : zSt) (v : Nat) : x_lz (u_tn x v) = x_lz x := rfl
theorem g_lz_tf (x : zSt) (v : Nat → Nat → Int32) : x_lz (u_tf x v) = x_lz x := rfl
theorem g_lf_dk (x : zSt) (v : Nat) : x_lf (u_dk x v) = x_lf x := rfl
theorem g_lf_lk (x : zSt) (v : Int32) : x_lf (u_lk x v) = x_lf x := rfl
theorem g_lf_po (x : zSt) (v : Int32) : x_lf (u_po x v) = x_lf x := rfl
theorem g_lf_ne (x : zSt) (v : Int32) : x_lf (u_ne x v) = x_lf x := rfl
theorem g_lf_td (x : zSt) (v : Int32) : x_lf (u_td x v) = x_lf x := rfl
theorem g_lf_nb (x : zSt) (v : Nat → Int32) : x_lf (u_nb x v) = x_lf x := rfl
theorem g_lf_ln (x : zSt) (v : Nat → Option Nat) : x_lf (u_ln x v) = x_lf x := rfl
theorem g_lf_nr (x : zSt) (v : Nat) : x_lf (u_nr x v) = x_lf x := rfl
theorem g_lf_nw (x : zSt) (v : Nat) : x_lf (u_nw x v) = x_lf x := rfl
theorem g_lf_nn (x : zSt) (v : Nat) : x_lf (u_nn x v) = x_lf x := rfl
theorem g_lf_ns (x : zSt) (v : Nat) : x_lf (u_ns x v) = x_lf x := rfl
theorem g_lf_or (x : zSt) (v : Nat) : x_lf (u_or x v) = x_lf x := rfl
theorem g_lf_ow (x : zSt) (v : Nat) : x_lf (u_ow x v) = x_lf x := rfl
theorem g_lf_on (x : zSt) (v : Nat) : x_lf (u_on x v) = x_lf x := rfl
theorem g_lf_nl (x : zSt) (v : Nat) : x_lf (u_nl x v) = x_lf x := rfl
theorem g_lf_ng (x : zSt) (v : Nat) : x_lf (u_ng x v) = x_lf x := rfl
theorem g_lf_rg (x : zSt) (v : Nat) : x_lf (u_rg x v) = x_lf x := rfl
theorem g_lf_lc (x : zSt) (v : Nat → Int32) : x_lf (u_lc x v) = x_lf x := rfl
theorem g_lf_cp (x : zSt) (v : Nat → Nat) : x_lf (u_cp x v) = x_lf x := rfl
theorem g_lf_gb (x : zSt) (v : Nat → Nat → Option zAE) : x_lf (u_gb x v) = x_lf x := rfl
theorem g_lf_sp (x : zSt) (v : Nat → Nat) : x_lf (u_sp x v) = x_lf x := rfl
theorem g_lf_kn (x : zSt) (v : Nat → Int64) : x_lf (u_kn x v) = x_lf x := rfl
theorem g_lf_me (x : zSt) (v : Nat → Int64) : x_lf (u_me x v) = x_lf x := rfl
theorem g_lf_ob (x : zSt) (v : Nat → Nat → Int64) : x_lf (u_ob x v) = x_lf x := rfl
theorem g_lf_fk (x : zSt) (v : Nat → Nat → Int32) : x_lf (u_fk x v) = x_lf x := rfl
theorem g_lf_fz (x : zSt) (v : Nat → Nat → Nat) : x_lf (u_fz x v) = x_lf x := rfl
theorem g_lf_fg (x : zSt) (v : Nat → Nat → Nat → Int32) : x_lf (u_fg x v) = x_lf x := rfl
theorem g_lf_rd (x : zSt) (v : Nat → Int32) : x_lf (u_rd x v) = x_lf x := rfl
theorem g_lf_rz (x : zSt) (v : Nat → Nat) : x_lf (u_rz x v) = x_lf x := rfl
theorem g_lf_rh (x : zSt) (v : Nat → Nat → Int32) : x_lf (u_rh x v) = x_lf x := rfl
theorem g_lf_nd (x : zSt) (v : Nat → Int32) : x_lf (u_nd x v) = x_lf x := rfl
theorem g_lf_nm (x : zSt) (v : Nat → Int32) : x_lf (u_nm x v) = x_lf x := rfl
theorem g_lf_nv (x : zSt) (v : Nat → Int32) : x_lf (u_nv x v) = x_lf x := rfl
theorem g_lf_nh (x : zSt) (v : Nat → Int32) : x_lf (u_nh x v) = x_lf x := rfl
theorem g_lf_nf (x : zSt) (v : Nat → Nat → Int32) : x_lf (u_nf x v) = x_lf x := rfl
theorem g_lf_wr (x : zSt) (v : Nat → Nat) : x_lf (u_wr x v) = x_lf x := rfl
theorem g_lf_wa (x : zSt) (v : Nat → Bool) : x_lf (u_wa x v) = x_lf x := rfl
theorem g_lf_lz (x : zSt) (v : Nat → Nat) : x_lf (u_lz x v) = x_lf x := rfl
theorem g_lf_lf (x : zSt) (v : Nat → Nat) : x_lf (u_lf x v) = v := rfl
theorem g_lf_li (x : zSt) (v : Nat → Nat → Int32) : x_lf (u_li x v) = x_lf x := rfl
theorem g_lf_lt (x : zSt) (v : Nat → Nat → Int64) : x_lf (u_lt x v) = x_lf x := rfl
theorem g_lf_lb (x : zSt) (v : Nat → Nat → Int64) : x_lf (u_lb x v) = x_lf x := rfl
theorem g_lf_lr (x : zSt) (v : Nat → Nat → Option (Nat → Int64)) : x_lf (u_lr x v) = x_lf x := rfl
theorem g_lf_tn (x : zSt) (v : Nat) : x_lf (u_tn x v) = x_lf x := rfl
theorem g_lf_tf (x : zSt) (v : Nat → Nat → Int32) : x_lf (u_tf x v) = x_lf x := rfl
theorem g_li_dk (x : zSt) (v : Nat) : x_li (u_dk x v) = x_li x := rfl
theorem g_li_lk (x : zSt) (v : Int32) : x_li (u_lk x v) = x_li x := rfl
theorem g_li_po (x : zSt) (v : Int32) : x_li (u_po x v) = x_li x := rfl
theorem g_li_ne (x : zSt) (v : Int32) : x_li (u_ne x v) = x_li x := rfl
theorem g_li_td (x : zSt) (v : Int32) : x_li (u_td x v) = x_li x := rfl
theorem g_li_nb (x : zSt) (v : Nat → Int32) : x_li (u_nb x v) = x_li x := rfl
theorem g_li_ln (x : zSt) (v : Nat → Option Nat) : x_li (u_ln x v) = x_li x := rfl
theorem g_li_nr (x : zSt) (v : Nat) : x_li (u_nr x v) = x_li x := rfl
theorem g_li_nw (x : zSt) (v : Nat) : x_li (u_nw x v) = x_li x := rfl
theorem g_li_nn (x : zSt) (v : Nat) : x_li (u_nn x v) = x_li x := rfl
theorem g_li_ns (x : zSt) (v : Nat) : x_li (u_ns x v) = x_li x := rfl
theorem g_li_or (x : zSt) (v : Nat) : x_li (u_or x v) = x_li x := rfl
theorem g_li_ow (x : zSt) (v : Nat) : x_li (u_ow x v) = x_li x := rfl
theorem g_li_on (x : zSt) (v : Nat) : x_li (u_on x v) = x_li x := rfl
theorem g_li_nl (x : zSt) (v : Nat) : x_li (u_nl x v) = x_li x := rfl
theorem g_li_ng (x : zSt) (v : Nat) : x_li (u_ng x v) = x_li x := rfl
theorem g_li_rg (x : zSt) (v : Nat) : x_li (u_rg x v) = x_li x := rfl
theorem g_li_lc (x : zSt) (v : Nat → Int32) : x_li (u_lc x v) = x_li x := rfl
theorem g_li_cp (x : zSt) (v : Nat → Nat) : x_li (u_cp x v) = x_li x := rfl
theorem g_li_gb (x : zSt) (v : Nat → Nat → Option zAE) : x_li (u_gb x v) = x_li x := rfl
theorem g_li_sp (x : zSt) (v : Nat → Nat) : x_li (u_sp x v) = x_li x := rfl
theorem g_li_kn (x : zSt) (v : Nat → Int64) : x_li (u_kn x v) = x_li x := rfl
theorem g_li_me (x : zSt) (v : Nat → Int64) : x_li (u_me x v) = x_li x := rfl
theorem g_li_ob (x : zSt) (v : Nat → Nat → Int64) : x_li (u_ob x v) = x_li x := rfl
theorem g_li_fk (x : zSt) (v : Nat → Nat → Int32) : x_li (u_fk x v) = x_li x := rfl
theorem g_li_fz (x : zSt) (v : Nat → Nat → Nat) : x_li (u_fz x v) = x_li x := rfl
theorem g_li_fg (x : zSt) (v : Nat → Nat → Nat → Int32) : x_li (u_fg x v) = x_li x := rfl
theorem g_li_rd (x : zSt) (v : Nat → Int32) : x_li (u_rd x v) = x_li x := rfl
theorem g_li_rz (x : zSt) (v : Nat → Nat) : x_li (u_rz x v) = x_li x := rfl
theorem g_li_rh (x : zSt) (v : Nat → Nat → Int32) : x_li (u_rh x v) = x_li x := rfl
theorem g_li_nd (x : zSt) (v : Nat → Int32) : x_li (u_nd x v) = x_li x := rfl
theorem g_li_nm (x : zSt) (v : Nat → Int32) : x_li (u_nm x v) = x_li x := rfl
theorem g_li_nv (x : zSt) (v : Nat → Int32) : x_li (u_nv x v) = x_li x := rfl
theorem g_li_nh (x : zSt) (v : Nat → Int32) : x_li (u_nh x v) = x_li x := rfl
theorem g_li_nf (x : zSt) (v : Nat → Nat → Int32) : x_li (u_nf x v) = x_li x := rfl
theorem g_li_wr (x : zSt) (v : Nat → Nat) : x_li (u_wr x v) = x_li x := rfl
theorem g_li_wa (x : zSt) (v : Nat → Bool) : x_li (u_wa x v) = x_li x := rfl
theorem g_li_lz (x : zSt) (v : Nat → Nat) : x_li (u_lz x v) = x_li x := rfl
theorem g_li_lf (x : zSt) (v : Nat → Nat) : x_li (u_lf x v) = x_li x := rfl
theorem g_li_li (x : zSt) (v : Nat → Nat → Int32) : x_li (u_li x v) = v := rfl
theorem g_li_lt (x : zSt) (v : Nat → Nat → Int64) : x_li (u_lt x v) = x_li x := rfl
theorem g_li_lb (x : zSt) (v : Nat → Nat → Int64) : x_li (u_lb x v) = x_li x := rfl
theorem g_li_lr (x : zSt) (v : Nat → Nat → Option (Nat → Int64)) : x_li (u_lr x v) = x_li x := rfl
theorem g_li_tn (x : zSt) (v : Nat) : x_li (u_tn x v) = x_li x := rfl
theorem g_li_tf (x : zSt) (v : Nat → Nat → Int32) : x_li (u_tf x v) = x_li x := rfl
theorem g_lt_dk (x : zSt) (v : Nat) : x_lt (u_dk x v) = x_lt x := rfl
theorem g_lt_lk (x : zSt) (v : Int32) : x_lt (u_lk x v) = x_lt x := rfl
theorem g_lt_po (x : zSt) (v : Int32) : x_lt (u_po x v) = x_lt x := rfl
theorem g_lt_ne (x : zSt) (v : Int32) : x_lt (u_ne x v) = x_lt x := rfl
theorem g_lt_td (x : zSt) (v : Int32) : x_lt (u_td x v) = x_lt x := rfl
theorem g_lt_nb (x : zSt) (v : Nat → Int32) : x_lt (u_nb x v) = x_lt x := rfl
theorem g_lt_ln (x : zSt) (v : Nat → Option Nat) : x_lt (u_ln x v) = x_lt x := rfl
theorem g_lt_nr (x : zSt) (v : Nat) : x_lt (u_nr x v) = x_lt x := rfl
theorem g_lt_nw (x : zSt) (v : Nat) : x_lt (u_nw x v) = x_lt x := rfl
theorem g_lt_nn (x : zSt) (v : Nat) : x_lt (u_nn x v) = x_lt x := rfl
theorem g_lt_ns (x : zSt) (v : Nat) : x_lt (u_ns x v) = x_lt x := rfl
theorem g_lt_or (x : zSt) (v : Nat) : x_lt (u_or x v) = x_lt x := rfl
theorem g_lt_ow (x : zSt) (v : Nat) : x_lt (u_ow x v) = x_lt x := rfl
theorem g_lt_on (x : zSt) (v : Nat) : x_lt (u_on x v) = x_lt x := rfl
theorem g_lt_nl (x : zSt) (v : Nat) : x_lt (u_nl x v) = x_lt x := rfl
theorem g_lt_ng (x : zSt) (v : Nat) : x_lt (u_ng x v) = x_lt x := rfl
theorem g_lt_rg (x : zSt) (v : Nat) : x_lt (u_rg x v) = x_lt x := rfl
theorem g_lt_lc (x : zSt) (v : Nat → Int32) : x_lt (u_lc x v) = x_lt x := rfl
theorem g_lt_cp (x : zSt) (v : Nat → Nat) : x_lt (u_cp x v) = x_lt x := rfl
theorem g_lt_gb (x : zSt) (v : Nat → Nat → Option zAE) : x_lt (u_gb x v) = x_lt x := rfl
theorem g_lt_sp (x : zSt) (v : Nat → Nat) : x_lt (u_sp x v) = x_lt x := rfl
theorem g_lt_kn (x : zSt) (v : Nat → Int64) : x_lt (u_kn x v) = x_lt x := rfl
theorem g_lt_me (x : zSt) (v : Nat → Int64) : x_lt (u_me x v) = x_lt x := rfl
theorem g_lt_ob (x : zSt) (v : Nat → Nat → Int64) : x_lt (u_ob x v) = x_lt x := rfl
theorem g_lt_fk (x : zSt) (v : Nat → Nat → Int32) : x_lt (u_fk x v) = x_lt x := rfl
theorem g_lt_fz (x : zSt) (v : Nat → Nat → Nat) : x_lt (u_fz x v) = x_lt x := rfl
theorem g_lt_fg (x : zSt) (v : Nat → Nat → Nat → Int32) : x_lt (u_fg x v) = x_lt x := rfl
theorem g_lt_rd (x : zSt) (v : Nat → Int32) : x_lt (u_rd x v) = x_lt x := rfl
theorem g_lt_rz (x : zSt) (v : Nat → Nat) : x_lt (u_rz x v) = x_lt x := rfl
theorem g_lt_rh (x : zSt) (v : Nat → Nat → Int32) : x_lt (u_rh x v) = x_lt x := rfl
theorem g_lt_nd (x : zSt) (v : Nat → Int32) : x_lt (u_nd x v) = x_lt x := rfl
theorem g_lt_nm (x : zSt) (v : Nat → Int32) : x_lt (u_nm x v) = x_lt x := rfl
theorem g_lt_nv (x : zSt) (v : Nat → Int32) : x_lt (u_nv x v) = x_lt x := rfl
theorem g_lt_nh (x : zSt) (v : Nat → Int32) : x_lt (u_nh x v) = x_lt x := rfl
theorem g_lt_nf (x : zSt) (v : Nat → Nat → Int32) : x_lt (u_nf x v) = x_lt x := rfl
theorem g_lt_wr (x : zSt) (v : Nat → Nat) : x_lt (u_wr x v) = x_lt x := rfl
theorem g_lt_wa (x : zSt) (v : Nat → Bool) : x_lt (u_wa x v) = x_lt x := rfl
theorem g_lt_lz (x : zSt) (v : Nat → Nat) : x_lt (u_lz x v) = x_lt x := rfl
theorem g_lt_lf (x : zSt) (v : Nat → Nat) : x_lt (u_lf x v) = x_lt x := rfl
theorem g_lt_li (x : zSt) (v : Nat → Nat → Int32) : x_lt (u_li x v) = x_lt x := rfl
theorem g_lt_lt (x : zSt) (v : Nat → Nat → Int64) : x_lt (u_lt x v) = v := rfl
theorem g_lt_lb (x : zSt) (v : Nat → Nat → Int64) : x_lt (u_lb x v) = x_lt x := rfl
theorem g_lt_lr (x : zSt) (v : Nat → Nat → Option (Nat → Int64)) : x_lt (u_lr x v) = x_lt x := rfl
theorem g_lt_tn (x : zSt) (v : Nat) : x_lt (u_tn x v) = x_lt x := rfl
theorem g_lt_tf (x : zSt) (v : Nat → Nat → Int32) : x_lt (u_tf x v) = x_lt x := rfl
theorem g_lb_dk (x : zSt) (v : Nat) : x_lb (u_dk x v) = x_lb x := rfl
theorem g_lb_lk (x : zSt) (v : Int32) : x_lb (u_lk x v) = x_lb x := rfl
theorem g_lb_po (x : zSt) (v : Int32) : x_lb (u_po x v) = x_lb x := rfl
theorem g_lb_ne (x : zSt) (v : Int32) : x_lb (u_ne x v) = x_lb x := rfl
theorem g_lb_td (x : zSt) (v : Int32) : x_lb (u_td x v) = x_lb x := rfl
theorem g_lb_nb (x : zSt) (v : Nat → Int32) : x_lb (u_nb x v) = x_lb x := rfl
theorem g_lb_ln (x : zSt) (v : Nat → Option Nat) : x_lb (u_ln x v) = x_lb x := rfl
theorem g_lb_nr (x : zSt) (v : Nat) : x_lb (u_nr x v) = x_lb x := rfl
theorem g_lb_nw (x : zSt) (v : Nat) : x_lb (u_nw x v) = x_lb x := rfl
theorem g_lb_nn (x : zSt) (v : Nat) : x_lb (u_nn x v) = x_lb x := rfl
theorem g_lb_ns (x : zSt) (v : Nat) : x_lb (u_ns x v) = x_lb x := rfl
theorem g_lb_or (x : zSt) (v : Nat) : x_lb (u_or x v) = x_lb x := rfl
theorem g_lb_ow (x : zSt) (v : Nat) : x_lb (u_ow x v) = x_lb x := rfl
theorem g_lb_on (x : zSt) (v : Nat) : x_lb (u_on x v) = x_lb x := rfl
theorem g_lb_nl (x : zSt) (v : Nat) : x_lb (u_nl x v) = x_lb x := rfl
theorem g_lb_ng (x : zSt) (v : Nat) : x_lb (u_ng x v) = x_lb x := rfl
theorem g_lb_rg (x : zSt) (v : Nat) : x_lb (u_rg x v) = x_lb x := rfl
theorem g_lb_lc (x : zSt) (v : Nat → Int32) : x_lb (u_lc x v) = x_lb x := rfl
theorem g_lb_cp (x : zSt) (v : Nat → Nat) : x_lb (u_cp x v) = x_lb x := rfl
theorem g_lb_gb (x : zSt) (v : Nat → Nat → Option zAE) : x_lb (u_gb x v) = x_lb x := rfl
theorem g_lb_sp (x : zSt) (v : Nat → Nat) : x_lb (u_sp x v) = x_lb x := rfl
theorem g_lb_kn (x : zSt) (v : Nat → Int64) : x_lb (u_kn x v) = x_lb x := rfl
theorem g_lb_me (x : zSt) (v : Nat → Int64) : x_lb (u_me x v) = x_lb x := rfl
theorem g_lb_ob (x : zSt) (v : Nat → Nat → Int64) : x_lb (u_ob x v) = x_lb x := rfl
theorem g_lb_fk (x : zSt) (v : Nat → Nat → Int32) : x_lb (u_fk x v) = x_lb x := rfl
theorem g_lb_fz (x : zSt) (v : Nat → Nat → Nat) : x_lb (u_fz x v) = x_lb x := rfl
theorem g_lb_fg (x : zSt) (v : Nat → Nat → Nat → Int32) : x_lb (u_fg x v) = x_lb x := rfl
theorem g_lb_rd (x : zSt) (v : Nat → Int32) : x_lb (u_rd x v) = x_lb x := rfl
theorem g_lb_rz (x : zSt) (v : Nat → Nat) : x_lb (u_rz x v) = x_lb x := rfl
theorem g_lb_rh (x : zSt) (v : Nat → Nat → Int32) : x_lb (u_rh x v) = x_lb x := rfl
theorem g_lb_nd (x : zSt) (v : Nat → Int32) : x_lb (u_nd x v) = x_lb x := rfl
theorem g_lb_nm (x : zSt) (v : Nat → Int32) : x_lb (u_nm x v) = x_lb x := rfl
theorem g_lb_nv (x : zSt) (v : Nat → Int32) : x_lb (u_nv x v) = x_lb x := rfl
theorem g_lb_nh (x : zSt) (v : Nat → Int32) : x_lb (u_nh x v) = x_lb x := rfl
theorem g_lb_nf (x : zSt) (v : Nat → Nat → Int32) : x_lb (u_nf x v) = x_lb x := rfl
theorem g_lb_wr (x : zSt) (v : Nat → Nat) : x_lb (u_wr x v) = x_lb x := rfl
theorem g_lb_wa (x : zSt) (v : Nat → Bool) : x_lb (u_wa x v) = x_lb x := rfl
theorem g_lb_lz (x : zSt) (v : Nat → Nat) : x_lb (u_lz x v) = x_lb x := rfl
theorem g_lb_lf (x : zSt) (v : Nat → Nat) : x_lb (u_lf x v) = x_lb x := rfl
theorem g_lb_li (x : zSt) (v : Nat → Nat → Int32) : x_lb (u_li x v) = x_lb x := rfl
theorem g_lb_lt (x : zSt) (v : Nat → Nat → Int64) : x_lb (u_lt x v) = x_lb x := rfl
theorem g_lb_lb (x : zSt) (v : Nat → Nat → Int64) : x_lb (u_lb x v) = v := rfl
theorem g_lb_lr (x : zSt) (v : Nat → Nat → Option (Nat → Int64)) : x_lb (u_lr x v) = x_lb x := rfl
theorem g_lb_tn (x : zSt) (v : Nat) : x_lb (u_tn x v) = x_lb x := rfl
theorem g_lb_tf (x : zSt) (v : Nat → Nat → Int32) : x_lb (u_tf x v) = x_lb x := rfl
theorem g_lr_dk (x : zSt) (v : Nat) : x_lr (u_dk x v) = x_lr x := rfl
theorem g_lr_lk (x : zSt) (v : Int32) : x_lr (u_lk x v) = x_lr x := rfl
theorem g_lr_po (x : zSt) (v : Int32) : x_lr (u_po x v) = x_lr x := rfl
theorem g_lr_ne (x : zSt) (v : Int32) : x_lr (u_ne x v) = x_lr x := rfl
theorem g_lr_td (x : zSt) (v : Int32) : x_lr (u_td x v) = x_lr x := rfl
theorem g_lr_nb (x : zSt) (v : Nat → Int32) : x_lr (u_nb x v) = x_lr x := rfl
theorem g_lr_ln (x : zSt) (v : Nat → Option Nat) : x_lr (u_ln x v) = x_lr x := rfl
theorem g_lr_nr (x : zSt) (v : Nat) : x_lr (u_nr x v) = x_lr x := rfl
theorem g_lr_nw (x : zSt) (v : Nat) : x_lr (u_nw x v) = x_lr x := rfl
theorem g_lr_nn (x : zSt) (v : Nat) : x_lr (u_nn x v) = x_lr x := rfl
theorem g_lr_ns (x : zSt) (v : Nat) : x_lr (u_ns x v) = x_lr x := rfl
theorem g_lr_or (x : zSt) (v : Nat) : x_lr (u_or x v) = x_lr x := rfl
theorem g_lr_ow (x : zSt) (v : Nat) : x_lr (u_ow x v) = x_lr x := rfl
theorem g_lr_on (x : zSt) (v : Nat) : x_lr (u_on x v) = x_lr x := rfl
theorem g_lr_nl (x : zSt) (v : Nat) : x_lr (u_nl x v) = x_lr x := rfl
theorem g_lr_ng (x : zSt) (v : Nat) : x_lr (u_ng x v) = x_lr x := rfl
theorem g_lr_rg (x : zSt) (v : Nat) : x_lr (u_rg x v) = x_lr x := rfl
theorem g_lr_lc (x : zSt) (v : Nat → Int32) : x_lr (u_lc x v) = x_lr x := rfl
theorem g_lr_cp (x : zSt) (v : Nat → Nat) : x_lr (u_cp x v) = x_lr x := rfl
theorem g_lr_gb (x : zSt) (v : Nat → Nat → Option zAE) : x_lr (u_gb x v) = x_lr x := rfl
theorem g_lr_sp (x : zSt) (v : Nat → Nat) : x_lr (u_sp x v) = x_lr x := rfl
theorem g_lr_kn (x : zSt) (v : Nat → Int64) : x_lr (u_kn x v) = x_lr x := rfl
theorem g_lr_me (x : zSt) (v : Nat → Int64) : x_lr (u_me x v) = x_lr x := rfl
theorem g_lr_ob (x : zSt) (v : Nat → Nat → Int64) : x_lr (u_ob x v) = x_lr x := rfl
theorem g_lr_fk (x : zSt) (v : Nat → Nat → Int32) : x_lr (u_fk x v) = x_lr x := rfl
theorem g_lr_fz (x : zSt) (v : Nat → Nat → Nat) : x_lr (u_fz x v) = x_lr x := rfl
theorem g_lr_fg (x : zSt) (v : Nat → Nat → Nat → Int32) : x_lr (u_fg x v) = x_lr x := rfl
theorem g_lr_rd (x : zSt) (v : Nat → Int32) : x_lr (u_rd x v) = x_lr x := rfl
theorem g_lr_rz (x : zSt) (v : Nat → Nat) : x_lr (u_rz x v) = x_lr x := rfl
theorem g_lr_rh (x : zSt) (v : Nat → Nat → Int32) : x_lr (u_rh x v) = x_lr x := rfl
theorem g_lr_nd (x : zSt) (v : Nat → Int32) : x_lr (u_nd x v) = x_lr x := rfl
theorem g_lr_nm (x : zSt) (v : Nat → Int32) : x_lr (u_nm x v) = x_lr x := rfl
theorem g_lr_nv (x : zSt) (v : Nat → Int32) : x_lr (u_nv x v) = x_lr x := rfl
theorem g_lr_nh (x : zSt) (v : Nat → Int32) : x_lr (u_nh x v) = x_lr x := rfl
theorem g_lr_nf (x : zSt) (v : Nat → Nat → Int32) : x_lr (u_nf x v) = x_lr x := rfl
theorem g_lr_wr (x : zSt) (v : Nat → Nat) : x_lr (u_wr x v) = x_lr x := rfl
theorem g_lr_wa (x : zSt) (v : Nat → Bool) : x_lr (u_wa x v) = x_lr x := rfl
theorem g_lr_lz (x : zSt) (v : Nat → Nat) : x_lr (u_lz x v) = x_lr x := rfl
theorem g_lr_lf (x : zSt) (v : Nat → Nat) : x_lr (u_lf x v) = x_lr x := rfl
theorem g_lr_li (x : zSt) (v : Nat → Nat → Int32) : x_lr (u_li x v) = x_lr x := rfl
theorem g_lr_lt (x : zSt) (v : Nat → Nat → Int64) : x_lr (u_lt x v) = x_lr x := rfl
theorem g_lr_lb (x : zSt) (v : Nat → Nat → Int64) : x_lr (u_lb x v) = x_lr x := rfl
theorem g_lr_lr (x : zSt) (v : Nat → Nat → Option (Nat → Int64)) : x_lr (u_lr x v) = v := rfl
theorem g_lr_tn (x : zSt) (v : Nat) : x_lr (u_tn x v) = x_lr x := rfl
theorem g_lr_tf (x : zSt) (v : Nat → Nat → Int32) : x_lr (u_tf x v) = x_lr x := rfl
theorem g_tn_dk (x : zSt) (v : Nat) : x_tn (u_dk x v) = x_tn x := rfl
theorem g_tn_lk (x : zSt) (v : Int32) : x_tn (u_lk x v) = x_tn x := rfl
theorem g_tn_po (x : zSt) (v : Int32) : x_tn (u_po x v) = x_tn x := rfl
theorem g_tn_ne (x : zSt) (v : Int32) : x_tn (u_ne x v) = x_tn x := rfl
theorem g_tn_td (x : zSt) (v : Int32) : x_tn (u_td x v) = x_tn x := rfl
theorem g_tn_nb (x : zSt) (v : Nat → Int32) : x_tn (u_nb x v) = x_tn x := rfl
theorem g_tn_ln (x : zSt) (v : Nat → Option Nat) : x_tn (u_ln x v) = x_tn x := rfl
theorem g_tn_nr (x : zSt) (v : Nat) : x_tn (u_nr x v) = x_tn x := rfl
theorem g_tn_nw (x : zSt) (v : Nat) : x_tn (u_nw x v) = x_tn x := rfl
theorem g_tn_nn (x : zSt) (v : Nat) : x_tn (u_nn x v) = x_tn x := rfl
theorem g_tn_ns (x : zSt) (v : Nat) : x_tn (u_ns x v) = x_tn x := rfl
theorem g_tn_or (x : zSt) (v : Nat) : x_tn (u_or x v) = x_tn x := rfl
theorem g_tn_ow (x : zSt) (v : Nat) : x_tn (u_ow x v) = x_tn x := rfl
theorem g_tn_on (x : zSt) (v : Nat) : x_tn (u_on x v) = x_tn x := rfl
theorem g_tn_nl (x : zSt) (v : Nat) : x_tn (u_nl x v) = x_tn x := rfl
theorem g_tn_ng (x : zSt) (v : Nat) : x_tn (u_ng x v) = x_tn x := rfl
theorem g_tn_rg (x : zSt) (v : Nat) : x_tn (u_rg x v) = x_tn x := rfl
theorem g_tn_lc (x : zSt) (v : Nat → Int32) : x_tn (u_lc x v) = x_tn x := rfl
theorem g_tn_cp (x : zSt) (v : Nat → Nat) : x_tn (u_cp x v) = x_tn x := rfl
theorem g_tn_gb (x : zSt) (v : Nat → Nat → Option zAE) : x_tn (u_gb x v) = x_tn x := rfl
theorem g_tn_sp (x : zSt) (v : Nat → Nat) : x_tn (u_sp x v) = x_tn x := rfl
theorem g_tn_kn (x : zSt) (v : Nat → Int64) : x_tn (u_kn x v) = x_tn x := rfl
theorem g_tn_me (x : zSt) (v : Nat → Int64) : x_tn (u_me x v) = x_tn x := rfl
theorem g_tn_ob (x : zSt) (v : Nat → Nat → Int64) : x_tn (u_ob x v) = x_tn x := rfl
theorem g_tn_fk (x : zSt) (v : Nat → Nat → Int32) : x_tn (u_fk x v) = x_tn x := rfl
theorem g_tn_fz (x : zSt) (v : Nat → Nat → Nat) : x_tn (u_fz x v) = x_tn x := rfl
theorem g_tn_fg (x : zSt) (v : Nat → Nat → Nat → Int32) : x_tn (u_fg x v) = x_tn x := rfl
theorem g_tn_rd (x : zSt) (v : Nat → Int32) : x_tn (u_rd x v) = x_tn x := rfl
theorem g_tn_rz (x : zSt) (v : Nat → Nat) : x_tn (u_rz x v) = x_tn x := rfl
theorem g_tn_rh (x : zSt) (v : Nat → Nat → Int32) : x_tn (u_rh x v) = x_tn x := rfl
theorem g_tn_nd (x : zSt) (v : Nat → Int32) : x_tn (u_nd x v) = x_tn x := rfl
theorem g_tn_nm (x : zSt) (v : Nat → Int32) : x_tn (u_nm x v) = x_tn x := rfl
theorem g_tn_nv (x : zSt) (v : Nat → Int32) : x_tn (u_nv x v) = x_tn x := rfl
theorem g_tn_nh (x : zSt) (v : Nat → Int32) : x_tn (u_nh x v) = x_tn x := rfl
theorem g_tn_nf (x : zSt) (v : Nat → Nat → Int32) : x_tn (u_nf x v) = x_tn x := rfl
theorem g_tn_wr (x : zSt) (v : Nat → Nat) : x_tn (u_wr x v) = x_tn x := rfl
theorem g_tn_wa (x : zSt) (v : Nat → Bool) : x_tn (u_wa x v) = x_tn x := rfl
theorem g_tn_lz (x : zSt) (v : Nat → Nat) : x_tn (u_lz x v) = x_tn x := rfl
theorem g_tn_lf (x : zSt) (v : Nat → Nat) : x_tn (u_lf x v) = x_tn x := rfl
theorem g_tn_li (x : zSt) (v : Nat → Nat → Int32) : x_tn (u_li x v) = x_tn x := rfl
theorem g_tn_lt (x : zSt) (v : Nat → Nat → Int64) : x_tn (u_lt x v) = x_tn x := rfl
theorem g_tn_lb (x : zSt) (v : Nat → Nat → Int64) : x_tn (u_lb x v) = x_tn x := rfl
theorem g_tn_lr (x : zSt) (v : Nat → Nat → Option (Nat → Int64)) : x_tn (u_lr x v) = x_tn x := rfl
theorem g_tn_tn (x : zSt) (v : Nat) : x_tn (u_tn x v) = v := rfl
theorem g_tn_tf (x : zSt) (v : Nat → Nat → Int32) : x_tn (u_tf x v) = x_tn x := rfl
theorem g_tf_dk (x : zSt) (v : Nat) : x_tf (u_dk x v) = x_tf x := rfl
theorem g_tf_lk (x : zSt) (v : Int32) : x_tf (u_lk x v) = x_tf x := rfl
theorem g_tf_po (x : zSt) (v : Int32) : x_tf (u_po x v) = x_tf x := rfl
theorem g_tf_ne (x : zSt) (v : Int32) : x_tf (u_ne x v) = x_tf x := rfl
theorem g_tf_td (x : zSt) (v : Int32) : x_tf (u_td x v) = x_tf x := rfl
theorem g_tf_nb (x : zSt) (v : Nat → Int32) : x_tf (u_nb x v) = x_tf x := rfl
theorem g_tf_ln (x : zSt) (v : Nat → Option Nat) : x_tf (u_ln x v) = x_tf x := rfl
theorem g_tf_nr (x : zSt) (v : Nat) : x_tf (u_nr x v) = x_tf x := rfl
theorem g_tf_nw (x : zSt) (v : Nat) : x_tf (u_nw x v) = x_tf x := rfl
theorem g_tf_nn (x : zSt) (v : Nat) : x_tf (u_nn x v) = x_tf x := rfl
theorem g_tf_ns (x : zSt) (v : Nat) : x_tf (u_ns x v) = x_tf x := rfl
theorem g_tf_or (x : zSt) (v : Nat) : x_tf (u_or x v) = x_tf x := rfl
theorem g_tf_ow (x : zSt) (v : Nat) : x_tf (u_ow x v) = x_tf x := rfl
theorem g_tf_on (x : zSt) (v : Nat) : x_tf (u_on x v) = x_tf x := rfl
theorem g_tf_nl (x : zSt) (v : Nat) : x_tf (u_nl x v) = x_tf x := rfl
theorem g_tf_ng (x : zSt) (v : Nat) : x_tf (u_ng x v) = x_tf x := rfl
theorem g_tf_rg (x : zSt) (v : Nat) : x_tf (u_rg x v) = x_tf x := rfl
theorem g_tf_lc (x : zSt) (v : Nat → Int32) : x_tf (u_lc x v) = x_tf x := rfl
theorem g_tf_cp (x : zSt) (v : Nat → Nat) : x_tf (u_cp x v) = x_tf x := rfl
theorem g_tf_gb (x : zSt) (v : Nat → Nat → Option zAE) : x_tf (u_gb x v) = x_tf x := rfl
theorem g_tf_sp (x : zSt) (v : Nat → Nat) : x_tf (u_sp x v) = x_tf x := rfl
theorem g_tf_kn (x : zSt) (v : Nat → Int64) : x_tf (u_kn x v) = x_tf x := rfl
theorem g_tf_me (x : zSt) (v : Nat → Int64) : x_tf (u_me x v) = x_tf x := rfl
theorem g_tf_ob (x : zSt) (v : Nat → Nat → Int64) : x_tf (u_ob x v) = x_tf x := rfl
theorem g_tf_fk (x : zSt) (v : Nat → Nat → Int32) : x_tf (u_fk x v) = x_tf x := rfl
theorem g_tf_fz (x : zSt) (v : Nat → Nat → Nat) : x_tf (u_fz x v) = x_tf x := rfl
theorem g_tf_fg (x : zSt) (v : Nat → Nat → Nat → Int32) : x_tf (u_fg x v) = x_tf x := rfl
theorem g_tf_rd (x : zSt) (v : Nat → Int32) : x_tf (u_rd x v) = x_tf x := rfl
theorem g_tf_rz (x : zSt) (v : Nat → Nat) : x_tf (u_rz x v) = x_tf x := rfl
theorem g_tf_rh (x : zSt) (v : Nat → Nat → Int32) : x_tf (u_rh x v) = x_tf x := rfl
theorem g_tf_nd (x : zSt) (v : Nat → Int32) : x_tf (u_nd x v) = x_tf x := rfl
theorem g_tf_nm (x : zSt) (v : Nat → Int32) : x_tf (u_nm x v) = x_tf x := rfl
theorem g_tf_nv (x : zSt) (v : Nat → Int32) : x_tf (u_nv x v) = x_tf x := rfl
theorem g_tf_nh (x : zSt) (v : Nat → Int32) : x_tf (u_nh x v) = x_tf x := rfl
theorem g_tf_nf (x : zSt) (v : Nat → Nat → Int32) : x_tf (u_nf x v) = x_tf x := rfl
theorem g_tf_wr (x : zSt) (v : Nat → Nat) : x_tf (u_wr x v) = x_tf x := rfl
theorem g_tf_wa (x : zSt) (v : Nat → Bool) : x_tf (u_wa x v) = x_tf x := rfl
theorem g_tf_lz (x : zSt) (v : Nat → Nat) : x_tf (u_lz x v) = x_tf x := rfl
theorem g_tf_lf (x : zSt) (v : Nat → Nat) : x_tf (u_lf x v) = x_tf x := rfl
theorem g_tf_li (x : zSt) (v : Nat → Nat → Int32) : x_tf (u_li x v) = x_tf x := rfl
theorem g_tf_lt (x : zSt) (v : Nat → Nat → Int64) : x_tf (u_lt x v) = x_tf x := rfl
theorem g_tf_lb (x : zSt) (v : Nat → Nat → Int64) : x_tf (u_lb x v) = x_tf x := rfl
theorem g_tf_lr (x : zSt) (v : Nat → Nat → Option (Nat → Int64)) : x_tf (u_lr x v) = x_tf x := rfl
theorem g_tf_tn (x : zSt) (v : Nat) : x_tf (u_tn x v) = x_tf x := rfl
theorem g_tf_tf (x : zSt) (v : Nat → Nat → Int32) : x_tf (u_tf x v) = v := rfl
end
section
/-! what the picture holds -/
theorem p_main (x : zSt) : pic x (0, 0, 0) = some (x_main x) := rfl
theorem p_lane {x : zSt} {l : Nat} (h : l < x_nl x) : pic x (16, l, 0) = some (x_lane x l) := if_pos ⟨h, rfl⟩
theorem p_item {x : zSt} {l : Nat} (h : l < x_nl x) : pic x (17, l, 0) = some (zin 121 (x_li x l)) := if_pos ⟨h, rfl⟩
theorem p_lrs {x : zSt} {l : Nat} (h : l < x_nl x) : pic x (18, l, 0) = some (zra "WishRoutes$Row" 121 (x_lrs x l)) := if_pos ⟨h, rfl⟩
theorem p_rowO {x : zSt} {i j : Nat} {f : Nat → Int64} (h : x_rw x i j = some f) : pic x (5, i, j) = some (.inr (5, [.inr (6, i, j)])) := by
  show (x_rw x i j).map _ = _
  rw [h]; rfl
theorem p_rowW {x : zSt} {i j : Nat} {f : Nat → Int64} (h : x_rw x i j = some f) : pic x (6, i, j) = some (zlo f) := by
  show (x_rw x i j).map _ = _
  rw [h]; rfl
theorem p_row {x : zSt} {i j : Nat} {f : Nat → Int64} (h : x_rw x i j = some f) : zrow (pic x) (5, i, j) (6, i, j) f := ⟨p_rowO h, p_rowW h⟩
theorem r_kn (x : zSt) : x_rw x 0 0 = some (x_kn x) := rfl
theorem r_me (x : zSt) : x_rw x 0 1 = some (x_me x) := rfl
theorem r_lt {x : zSt} {l : Nat} (h : l < x_nl x) : x_rw x 2 l = some (x_lt x l) := if_pos h
theorem r_lb {x : zSt} {l : Nat} (h : l < x_nl x) : x_rw x 3 l = some (x_lb x l) := if_pos h
theorem r_ob {x : zSt} {w : Nat} (h : w < x_ow x) : x_rw x 1 w = some (x_ob x w) := if_pos h
theorem r_lr {x : zSt} {l s : Nat} (h : l < x_nl x) (hs : s < 121) : x_rw x (4 + l) s = x_lr x l s := by
  have : 4 + l - 4 = l := by omega
  have h0 : ¬ 4 + l = 0 := by omega
  have h1 : ¬ 4 + l = 1 := by omega
  have h2 : ¬ 4 + l = 2 := by omega
  have h3 : ¬ 4 + l = 3 := by omega
  simp only [x_rw, h0, h1, h2, h3, if_false, this, h, hs, and_self, if_true]
theorem m_k {k i j : Nat} (h : k < 90) : zmo (k, i, j) := h
/-! lanes -/
def ln_ok (x : zSt) (l : Nat) : Prop := l < x_nl x ∧ x_lz x l ≤ 121 ∧ x_lf x l < 121
def T_Lane_slot (As : List zAV) (M : zMp) (Rt : Option zAV → zMp → Prop) : Prop := ∃ x l i, As = [.inr (16, l, 0), .inl (.int (nI i))] ∧ M = pic x ∧ ln_ok x l ∧ i < 1000 ∧ Rt (some (.inl (.int (nI ((x_lf x l + i) % 121))))) M
abbrev co_Lane_slot := co0
theorem dX1_slot_0 : decode cX1_slot 0 = .ok (.aload_n 0, 1) := by decide +kernel
theorem dX1_slot_1 : decode cX1_slot 1 = .ok (.getfield 33, 3) := by decide +kernel
theorem dX1_slot_4 : decode cX1_slot 4 = .ok (.iload_n 1, 1) := by decide +kernel
theorem dX1_slot_5 : decode cX1_slot 5 = .ok (.iadd, 1) := by decide +kernel
theorem dX1_slot_6 : decode cX1_slot 6 = .ok (.bipush 121, 2) := by decide +kernel
theorem dX1_slot_8 : decode cX1_slot 8 = .ok (.irem, 1) := by decide +kernel
theorem dX1_slot_9 : decode cX1_slot 9 = .ok (.ireturn, 1) := by decide +kernel
def B_Lane_slot_0 (mc ms : Nat) (Rt : Option zAV → zMp → Prop) (g : Nat → zKT) : zKT :=
  (i_al 0 (i_gf 2 5 (i_il 1 (i_iadd (i_ic 121 (i_irem (i_iret mc ms Rt)))))))
set_option maxRecDepth 20000 in
theorem s_Lane_slot_0 {X : zMa} {mc ms : Nat} {Rt : Option zAV → zMp → Prop} (hC : zCx X RX1 cX1_slot 0 0 mc ms (some .int) false Rt) : zLe (B_Lane_slot_0 mc ms Rt (zG X)) (zG X 0) :=
  (sd_al_n hC rfl dX1_slot_0 ((sd_gf hC (ci := 2) (fk := 5) rfl wi_Lane (by decide) fl_Lane_33 (Or.inl rfl) dX1_slot_1 ((sd_il_n hC rfl dX1_slot_4 ((sd_iadd hC dX1_slot_5 ((sd_bipush hC (by decide) dX1_slot_6 ((sd_irem hC dX1_slot_8 ((sd_iret hC dX1_slot_9)))))))))))))
theorem c_Lane_slot (l : Launch) : zCT l yX1_slot cX1_slot 2 (some .int) 0 0 T_Lane_slot co_Lane_slot := by
  intro As M Rt hT
  obtain ⟨x, j, i, rfl, rfl, ⟨h1, h2, h3⟩, h4, hR⟩ := hT
  refine zMet_of false (by decide +kernel) (fun h => by first | rfl | cases h) (Nat.le_of_ble_eq_true rfl) (fun X hN hC => ?_)
  show zG X 0 [some (.inr (16, j, 0)), some (.inl (.int (nI i)))] [] (pic x) 0 0
  refine s_Lane_slot_0 hC _ _ _ _ _ ?_
  simp only [B_Lane_slot_0, co_Lane_slot, i_ic, i_lc, i_nul, i_il, i_ll, i_al, i_is, i_as, i_ls, i_inc, i_iadd, i_isub, i_imul, i_iand, i_ior, i_ixor, i_idiv, i_irem, i_ishl, i_ishr, i_ladd, i_lsub, i_land, i_lor, i_i2l, i_lushr, i_lshl, i_lshr, i_lcmp, i_dup, i_pop, i_dx1, i_dup2, i_ifeq, i_ifne, i_iflt, i_ifge, i_ifgt, i_ifle, i_iceq, i_icne, i_iclt, i_icge, i_icgt, i_icle, i_ifn, i_gf, i_pf, i_ial, i_bal, i_lal, i_aal, i_ias, i_las, i_bas, i_aas, i_alen, i_newa, i_new, i_anew, i_cast, i_oi, i_call, i_callV, i_callV2, i_callI, i_iret, i_zret, i_lret, i_vret, i_aret, i_mmx, i_mmn, i_gsE, i_aceq, i_no, i_acq, i_sw, zsw, zlg, zls, znl, zfg, zcs, zsp, zrc, zisn, zft, zc1, zto, Value.category, List.set_cons_zero, List.set_cons_succ, List.length_cons, List.length_nil, Option.toList, List.nil_append, List.cons_append, true_and, and_true, Nat.add_zero, Nat.zero_le, Nat.zero_add, Nat.le_refl, Nat.reduceAdd, Nat.reduceLeDiff, co0, z0, zn_0, zn_1, zn_2, zn_3, zn_4, zn_5, zn_8, zn_12, zn_24, zn_121, zn_144, zn_256, zn_300, zn_600, zn_720, zn_1204, zn_1280, zn_2400, zn_4816, zn_14400, zn_90000, p_lane h1, x_lane]
  rw [nI_add]
  refine ⟨by decide, ?_⟩
  have := pk_rem (a := x_lf x j + i) (d := 121) (by omega) (by decide) (by decide)
  rw [show nI 121 = 121 from rfl] at this
  rw [this]
  exact hR
def la_at (x : zSt) (l : Nat) (i : Nat) : Int32 := x_li x l ((x_lf x l + i) % 121)
def la_item (x : zSt) (l : Nat) (i : Int32) : Int32 := if ¬ i < 0 ∧ i < nI (x_lz x l) then la_at x l i.toNatClampNeg else -1
def T_Lane_itemAt (As : List zAV) (M : zMp) (Rt : Option zAV → zMp → Prop) : Prop := ∃ x l i, As = [.inr (16, l, 0), .inl (.int i)] ∧ M = pic x ∧ ln_ok x l ∧ Rt (some (.inl (.int (la_item x l i)))) M
abbrev co_Lane_itemAt := co0
theorem dX1_itemAt_0 : decode cX1_itemAt 0 = .ok (.iload_n 1, 1) := by decide +kernel
theorem dX1_itemAt_1 : decode cX1_itemAt 1 = .ok (.ifCond .lt 24, 3) := by decide +kernel
theorem dX1_itemAt_4 : decode cX1_itemAt 4 = .ok (.iload_n 1, 1) := by decide +kernel
theorem dX1_itemAt_5 : decode cX1_itemAt 5 = .ok (.aload_n 0, 1) := by decide +kernel
theorem dX1_itemAt_6 : decode cX1_itemAt 6 = .ok (.getfield 21, 3) := by decide +kernel
theorem dX1_itemAt_9 : decode cX1_itemAt 9 = .ok (.if_icmp .ge 16, 3) := by decide +kernel
theorem dX1_itemAt_12 : decode cX1_itemAt 12 = .ok (.aload_n 0, 1) := by decide +kernel
theorem dX1_itemAt_13 : decode cX1_itemAt 13 = .ok (.getfield 25, 3) := by decide +kernel
theorem dX1_itemAt_16 : decode cX1_itemAt 16 = .ok (.aload_n 0, 1) := by decide +kernel
theorem dX1_itemAt_17 : decode cX1_itemAt 17 = .ok (.iload_n 1, 1) := by decide +kernel
theorem dX1_itemAt_18 : decode cX1_itemAt 18 = .ok (.invokevirtual 36, 3) := by decide +kernel
theorem dX1_itemAt_21 : decode cX1_itemAt 21 = .ok (.iaload, 1) := by decide +kernel
theorem dX1_itemAt_22 : decode cX1_itemAt 22 = .ok (.goto 4, 3) := by decide +kernel
theorem dX1_itemAt_25 : decode cX1_itemAt 25 = .ok (.iconst (-1), 1) := by decide +kernel
theorem dX1_itemAt_26 : decode cX1_itemAt 26 = .ok (.ireturn, 1) := by decide +kernel
def B_Lane_itemAt_26 (mc ms : Nat) (Rt : Option zAV → zMp → Prop) (g : Nat → zKT) : zKT :=
  (i_iret mc ms Rt)
set_option maxRecDepth 20000 in
theorem s_Lane_itemAt_26 {X : zMa} {mc ms : Nat} {Rt : Option zAV → zMp → Prop} (hC : zCx X RX1 cX1_itemAt 1 21 mc ms (some .int) false Rt) : zLe (B_Lane_itemAt_26 mc ms Rt (zG X)) (zG X 26) :=
  (sd_iret hC dX1_itemAt_26)
def B_Lane_itemAt_25 (mc ms : Nat) (Rt : Option zAV → zMp → Prop) (g : Nat → zKT) : zKT :=
  (i_ic (-1) (B_Lane_itemAt_26 mc ms Rt g))
set_option maxRecDepth 20000 in
theorem s_Lane_itemAt_25 {X : zMa} {mc ms : Nat} {Rt : Option zAV → zMp → Prop} (hC : zCx X RX1 cX1_itemAt 1 21 mc ms (some .int) false Rt) : zLe (B_Lane_itemAt_25 mc ms Rt (zG X)) (zG X 25) :=
  (sd_iconst hC (by decide) dX1_itemAt_25 (s_Lane_itemAt_26 hC))
def B_Lane_itemAt_0 (mc ms : Nat) (Rt : Option zAV → zMp → Prop) (g : Nat → zKT) : zKT :=
  (i_il 1 (i_iflt (B_Lane_itemAt_25 mc ms Rt g) (i_il 1 (i_al 0 (i_gf 2 2 (i_icge (B_Lane_itemAt_25 mc ms Rt g) (i_al 0 (i_gf 2 3 (i_al 0 (i_il 1 (i_callV mc ms 2 2 T_Lane_slot co_Lane_slot (i_ial (B_Lane_itemAt_26 mc ms Rt g)))))))))))))
set_option maxRecDepth 20000 in
theorem s_Lane_itemAt_0 {X : zMa} {mc ms : Nat} {Rt : Option zAV → zMp → Prop} (hC : zCx X RX1 cX1_itemAt 1 21 mc ms (some .int) false Rt) : zLe (B_Lane_itemAt_0 mc ms Rt (zG X)) (zG X 0) :=
  (sd_il_n hC rfl dX1_itemAt_0 ((sd_iflt hC (tgt := 25) (by decide) dX1_itemAt_1 (s_Lane_itemAt_25 hC) ((sd_il_n hC rfl dX1_itemAt_4 ((sd_al_n hC rfl dX1_itemAt_5 ((sd_gf hC (ci := 2) (fk := 2) rfl wi_Lane (by decide) fl_Lane_21 (Or.inl rfl) dX1_itemAt_6 ((sd_icge hC (tgt := 25) (by decide) dX1_itemAt_9 (s_Lane_itemAt_25 hC) ((sd_al_n hC rfl dX1_itemAt_12 ((sd_gf hC (ci := 2) (fk := 3) rfl wi_Lane (by decide) fl_Lane_25 (Or.inl rfl) dX1_itemAt_13 ((sd_al_n hC rfl dX1_itemAt_16 ((sd_il_n hC rfl dX1_itemAt_17 ((sd_cV hC c_Lane_slot yv_Lane_slot (ci := 2) rfl rfl ml_Lane_36 (by decide) (by decide) dX1_itemAt_18 ((sd_ial hC dX1_itemAt_21 ((sd_goto hC (tgt := 26) (by decide) dX1_itemAt_22 (s_Lane_itemAt_26 hC))))))))))))))))))))))))))
theorem c_Lane_itemAt (l : Launch) : zCT l yX1_itemAt cX1_itemAt 2 (some .int) 1 21 T_Lane_itemAt co_Lane_itemAt := by
  intro As M Rt hT
  obtain ⟨x, j, i, rfl, rfl, ⟨h1, h2, h3⟩, hR⟩ := hT
  refine zMet_of false (by decide +kernel) (fun h => by first | rfl | cases h) (Nat.le_of_ble_eq_true rfl) (fun X hN hC => ?_)
  show zG X 0 [some (.inr (16, j, 0)), some (.inl (.int i))] [] (pic x) 0 0
  refine s_Lane_itemAt_0 hC _ _ _ _ _ ?_
  simp only [B_Lane_itemAt_0, B_Lane_itemAt_25, B_Lane_itemAt_26, co_Lane_itemAt, co_Lane_slot, i_ic, i_lc, i_nul, i_il, i_ll, i_al, i_is, i_as, i_ls, i_inc, i_iadd, i_isub, i_imul, i_iand, i_ior, i_ixor, i_idiv, i_irem, i_ishl, i_ishr, i_ladd, i_lsub, i_land, i_lor, i_i2l, i_lushr, i_lshl, i_lshr, i_lcmp, i_dup, i_pop, i_dx1, i_dup2, i_ifeq, i_ifne, i_iflt, i_ifge, i_ifgt, i_ifle, i_iceq, i_icne, i_iclt, i_icge, i_icgt, i_icle, i_ifn, i_gf, i_pf, i_ial, i_bal, i_lal, i_aal, i_ias, i_las, i_bas, i_aas, i_alen, i_newa, i_new, i_anew, i_cast, i_oi, i_call, i_callV, i_callV2, i_callI, i_iret, i_zret, i_lret, i_vret, i_aret, i_mmx, i_mmn, i_gsE, i_aceq, i_no, i_acq, i_sw, zsw, zlg, zls, znl, zfg, zcs, zsp, zrc, zisn, zft, zc1, zto, Value.category, List.set_cons_zero, List.set_cons_succ, List.length_cons, List.length_nil, Option.toList, List.nil_append, List.cons_append, true_and, and_true, Nat.add_zero, Nat.zero_le, Nat.zero_add, Nat.le_refl, Nat.reduceAdd, Nat.reduceLeDiff, co0, z0, zn_0, zn_1, zn_2, zn_3, zn_4, zn_5, zn_8, zn_12, zn_24, zn_121, zn_144, zn_256, zn_300, zn_600, zn_720, zn_1204, zn_1280, zn_2400, zn_4816, zn_14400, zn_90000, p_lane h1, x_lane]
  unfold la_item at hR
  refine ⟨fun h => ?_, fun h => ⟨fun h' => ?_, fun h' => ?_⟩⟩
  · rw [if_neg (fun q => q.1 h)] at hR; exact hR
  · rw [if_neg (fun q => absurd q.2 (Int32.not_lt.mpr h'))] at hR; exact hR
  · rw [if_pos ⟨h, Int32.not_le.mp h'⟩] at hR
    obtain ⟨a, ha, rfl⟩ : ∃ a : Nat, a < 121 ∧ i = nI a := by
      obtain ⟨a, ha, rfl⟩ := nI_of h
      refine ⟨a, ?_, rfl⟩
      have := (nI_ltI ha (by omega)).mp (Int32.not_le.mp h')
      omega
    refine ⟨x, j, a, rfl, rfl, ⟨h1, h2, h3⟩, by omega, ?_⟩
    simp only [p_item h1, i_ic, i_lc, i_nul, i_il, i_ll, i_al, i_is, i_as, i_ls, i_inc, i_iadd, i_isub, i_imul, i_iand, i_ior, i_ixor, i_idiv, i_irem, i_ishl, i_ishr, i_ladd, i_lsub, i_land, i_lor, i_i2l, i_lushr, i_lshl, i_lshr, i_lcmp, i_dup, i_pop, i_dx1, i_dup2, i_ifeq, i_ifne, i_iflt, i_ifge, i_ifgt, i_ifle, i_iceq, i_icne, i_iclt, i_icge, i_icgt, i_icle, i_ifn, i_gf, i_pf, i_ial, i_bal, i_lal, i_aal, i_ias, i_las, i_bas, i_aas, i_alen, i_newa, i_new, i_anew, i_cast, i_oi, i_call, i_callV, i_callV2, i_callI, i_iret, i_zret, i_lret, i_vret, i_aret, i_mmx, i_mmn, i_gsE, i_aceq, i_no, i_acq, i_sw, zsw, zlg, zls, znl, zfg, zcs, zsp, zrc, zisn, zft, zc1, zto, Value.category, List.set_cons_zero, List.set_cons_succ, List.length_cons, List.length_nil, Option.toList, List.nil_append, List.cons_append, true_and, and_true, Nat.add_zero, Nat.zero_le, Nat.zero_add, Nat.le_refl, Nat.reduceAdd, Nat.reduceLeDiff, co0, z0, zn_0, zn_1, zn_2, zn_3, zn_4, zn_5, zn_8, zn_12, zn_24, zn_121, zn_144, zn_256, zn_300, zn_600, zn_720, zn_1204, zn_1280, zn_2400, zn_4816, zn_14400, zn_90000]
    rw [nI_clamp (by omega)] at hR
    rw [nI_clamp (Nat.lt_trans (Nat.mod_lt _ (by decide)) (by decide))]
    exact ⟨vp_in_nI (Nat.mod_lt _ (by decide)) (by decide), hR⟩
/-- one item more -/
def la_push (x : zSt) (l : Nat) (v : Int32) : zSt := u_lz (u_li x (va_up (x_li x) l (upd (x_li x l) ((x_lf x l + x_lz x l) % 121) v))) (va_up (x_lz x) l (x_lz x l + 1))
def T_Lane_putNotice (As : List zAV) (M : zMp) (Rt : Option zAV → zMp → Prop) : Prop := ∃ x l v, As = [.inr (16, l, 0), .inl (.int v)] ∧ M = pic x ∧ ln_ok x l ∧ Rt none (pic (if x_lz x l < 121 then la_push x l v else x))
abbrev co_Lane_putNotice := co0
theorem dX1_putNotice_0 : decode cX1_putNotice 0 = .ok (.aload_n 0, 1) := by decide +kernel
theorem dX1_putNotice_1 : decode cX1_putNotice 1 = .ok (.getfield 21, 3) := by decide +kernel
theorem dX1_putNotice_4 : decode cX1_putNotice 4 = .ok (.bipush 121, 2) := by decide +kernel
theorem dX1_putNotice_6 : decode cX1_putNotice 6 = .ok (.if_icmp .ge 27, 3) := by decide +kernel
theorem dX1_putNotice_9 : decode cX1_putNotice 9 = .ok (.aload_n 0, 1) := by decide +kernel
theorem dX1_putNotice_10 : decode cX1_putNotice 10 = .ok (.getfield 25, 3) := by decide +kernel
theorem dX1_putNotice_13 : decode cX1_putNotice 13 = .ok (.aload_n 0, 1) := by decide +kernel
theorem dX1_putNotice_14 : decode cX1_putNotice 14 = .ok (.aload_n 0, 1) := by decide +kernel
theorem dX1_putNotice_15 : decode cX1_putNotice 15 = .ok (.getfield 21, 3) := by decide +kernel
theorem dX1_putNotice_18 : decode cX1_putNotice 18 = .ok (.invokevirtual 36, 3) := by decide +kernel
theorem dX1_putNotice_21 : decode cX1_putNotice 21 = .ok (.iload_n 1, 1) := by decide +kernel
theorem dX1_putNotice_22 : decode cX1_putNotice 22 = .ok (.iastore, 1) := by decide +kernel
theorem dX1_putNotice_23 : decode cX1_putNotice 23 = .ok (.aload_n 0, 1) := by decide +kernel
theorem dX1_putNotice_24 : decode cX1_putNotice 24 = .ok (.dup, 1) := by decide +kernel
theorem dX1_putNotice_25 : decode cX1_putNotice 25 = .ok (.getfield 21, 3) := by decide +kernel
theorem dX1_putNotice_28 : decode cX1_putNotice 28 = .ok (.iconst 1, 1) := by decide +kernel
theorem dX1_putNotice_29 : decode cX1_putNotice 29 = .ok (.iadd, 1) := by decide +kernel
theorem dX1_putNotice_30 : decode cX1_putNotice 30 = .ok (.putfield 21, 3) := by decide +kernel
theorem dX1_putNotice_33 : decode cX1_putNotice 33 = .ok (.return_, 1) := by decide +kernel
def B_Lane_putNotice_33 (mc ms : Nat) (Rt : Option zAV → zMp → Prop) (g : Nat → zKT) : zKT :=
  (i_vret mc ms Rt)
set_option maxRecDepth 20000 in
theorem s_Lane_putNotice_33 {X : zMa} {mc ms : Nat} {Rt : Option zAV → zMp → Prop} (hC : zCx X RX1 cX1_putNotice 1 21 mc ms (none) false Rt) : zLe (B_Lane_putNotice_33 mc ms Rt (zG X)) (zG X 33) :=
  (sd_vret hC dX1_putNotice_33)
def B_Lane_putNotice_0 (mc ms : Nat) (Rt : Option zAV → zMp → Prop) (g : Nat → zKT) : zKT :=
  (i_al 0 (i_gf 2 2 (i_ic 121 (i_icge (B_Lane_putNotice_33 mc ms Rt g) (i_al 0 (i_gf 2 3 (i_al 0 (i_al 0 (i_gf 2 2 (i_callV mc ms 2 2 T_Lane_slot co_Lane_slot (i_il 1 (i_ias (i_al 0 (i_dup (i_gf 2 2 (i_ic 1 (i_iadd (i_pf 2 2 .int (B_Lane_putNotice_33 mc ms Rt g)))))))))))))))))))
set_option maxRecDepth 20000 in
theorem s_Lane_putNotice_0 {X : zMa} {mc ms : Nat} {Rt : Option zAV → zMp → Prop} (hC : zCx X RX1 cX1_putNotice 1 21 mc ms (none) false Rt) : zLe (B_Lane_putNotice_0 mc ms Rt (zG X)) (zG X 0) :=
  (sd_al_n hC rfl dX1_putNotice_0 ((sd_gf hC (ci := 2) (fk := 2) rfl wi_Lane (by decide) fl_Lane_21 (Or.inl rfl) dX1_putNotice_1 ((sd_bipush hC (by decide) dX1_putNotice_4 ((sd_icge hC (tgt := 33) (by decide) dX1_putNotice_6 (s_Lane_putNotice_33 hC) ((sd_al_n hC rfl dX1_putNotice_9 ((sd_gf hC (ci := 2) (fk := 3) rfl wi_Lane (by decide) fl_Lane_25 (Or.inl rfl) dX1_putNotice_10 ((sd_al_n hC rfl dX1_putNotice_13 ((sd_al_n hC rfl dX1_putNotice_14 ((sd_gf hC (ci := 2) (fk := 2) rfl wi_Lane (by decide) fl_Lane_21 (Or.inl rfl) dX1_putNotice_15 ((sd_cV hC c_Lane_slot yv_Lane_slot (ci := 2) rfl rfl ml_Lane_36 (by decide) (by decide) dX1_putNotice_18 ((sd_il_n hC rfl dX1_putNotice_21 ((sd_ias hC dX1_putNotice_22 ((sd_al_n hC rfl dX1_putNotice_23 ((sd_dup hC dX1_putNotice_24 ((sd_gf hC (ci := 2) (fk := 2) rfl wi_Lane (by decide) fl_Lane_21 (Or.inl rfl) dX1_putNotice_25 ((sd_iconst hC (by decide) dX1_putNotice_28 ((sd_iadd hC dX1_putNotice_29 ((sd_pf hC (ci := 2) (fk := 2) rfl wi_Lane tyX1 tyX1_ok nmX1 (by decide) fl_Lane_21 (Or.inl rfl) (Or.inl rfl) dX1_putNotice_30 (s_Lane_putNotice_33 hC))))))))))))))))))))))))))))))))))))
theorem c_Lane_putNotice (l : Launch) : zCT l yX1_putNotice cX1_putNotice 2 (none) 1 21 T_Lane_putNotice co_Lane_putNotice := by
  intro As M Rt hT
  obtain ⟨x, j, v, rfl, rfl, ⟨h1, h2, h3⟩, hR⟩ := hT
  refine zMet_of false (by decide +kernel) (fun h => by first | rfl | cases h) (Nat.le_of_ble_eq_true rfl) (fun X hN hC => ?_)
  show zG X 0 [some (.inr (16, j, 0)), some (.inl (.int v))] [] (pic x) 0 0
  refine s_Lane_putNotice_0 hC _ _ _ _ _ ?_
  simp only [B_Lane_putNotice_0, B_Lane_putNotice_33, co_Lane_putNotice, co_Lane_slot, i_ic, i_lc, i_nul, i_il, i_ll, i_al, i_is, i_as, i_ls, i_inc, i_iadd, i_isub, i_imul, i_iand, i_ior, i_ixor, i_idiv, i_irem, i_ishl, i_ishr, i_ladd, i_lsub, i_land, i_lor, i_i2l, i_lushr, i_lshl, i_lshr, i_lcmp, i_dup, i_pop, i_dx1, i_dup2, i_ifeq, i_ifne, i_iflt, i_ifge, i_ifgt, i_ifle, i_iceq, i_icne, i_iclt, i_icge, i_icgt, i_icle, i_ifn, i_gf, i_pf, i_ial, i_bal, i_lal, i_aal, i_ias, i_las, i_bas, i_aas, i_alen, i_newa, i_new, i_anew, i_cast, i_oi, i_call, i_callV, i_callV2, i_callI, i_iret, i_zret, i_lret, i_vret, i_aret, i_mmx, i_mmn, i_gsE, i_aceq, i_no, i_acq, i_sw, zsw, zlg, zls, znl, zfg, zcs, zsp, zrc, zisn, zft, zc1, zto, Value.category, List.set_cons_zero, List.set_cons_succ, List.length_cons, List.length_nil, Option.toList, List.nil_append, List.cons_append, true_and, and_true, Nat.add_zero, Nat.zero_le, Nat.zero_add, Nat.le_refl, Nat.reduceAdd, Nat.reduceLeDiff, co0, z0, zn_0, zn_1, zn_2, zn_3, zn_4, zn_5, zn_8, zn_12, zn_24, zn_121, zn_144, zn_256, zn_300, zn_600, zn_720, zn_1204, zn_1280, zn_2400, zn_4816, zn_14400, zn_90000, p_lane h1, p_item h1, x_lane]
  have hK := (zK (K := 121) (by decide) (n := x_lz x j) (by omega)).2.1
  refine ⟨fun h => ?_, fun h => ⟨x, j, x_lz x j, rfl, rfl, ⟨h1, h2, h3⟩, by omega, ?_⟩⟩
  · rw [if_neg (by have := hK.mp h; omega)] at hR
    exact hR
  · have hlt : x_lz x j < 121 := by
      have : ¬ 121 ≤ x_lz x j := fun z => h (hK.mpr z)
      omega
    rw [if_pos hlt] at hR
    simp only [p_item h1, i_ic, i_lc, i_nul, i_il, i_ll, i_al, i_is, i_as, i_ls, i_inc, i_iadd, i_isub, i_imul, i_iand, i_ior, i_ixor, i_idiv, i_irem, i_ishl, i_ishr, i_ladd, i_lsub, i_land, i_lor, i_i2l, i_lushr, i_lshl, i_lshr, i_lcmp, i_dup, i_pop, i_dx1, i_dup2, i_ifeq, i_ifne, i_iflt, i_ifge, i_ifgt, i_ifle, i_iceq, i_icne, i_iclt, i_icge, i_icgt, i_icle, i_ifn, i_gf, i_pf, i_ial, i_bal, i_lal, i_aal, i_ias, i_las, i_bas, i_aas, i_alen, i_newa, i_new, i_anew, i_cast, i_oi, i_call, i_callV, i_callV2, i_callI, i_iret, i_zret, i_lret, i_vret, i_aret, i_mmx, i_mmn, i_gsE, i_aceq, i_no, i_acq, i_sw, zsw, zlg, zls, znl, zfg, zcs, zsp, zrc, zisn, zft, zc1, zto, Value.category, List.set_cons_zero, List.set_cons_succ, List.length_cons, List.length_nil, Option.toList, List.nil_append, List.cons_append, true_and, and_true, Nat.add_zero, Nat.zero_le, Nat.zero_add, Nat.le_refl, Nat.reduceAdd, Nat.reduceLeDiff, co0, z0, zn_0, zn_1, zn_2, zn_3, zn_4, zn_5, zn_8, zn_12, zn_24, zn_121, zn_144, zn_256, zn_300, zn_600, zn_720, zn_1204, zn_1280, zn_2400, zn_4816, zn_14400, zn_90000]
    refine ⟨m_k (by decide), vp_in_nI (Nat.mod_lt _ (by decide)) (by decide), ?_⟩
    rw [nI_clamp (Nat.lt_trans (Nat.mod_lt _ (by decide)) (by decide)), pu_li x j _ h1]
    have h1' : j < x_nl (u_li x (va_up (x_li x) j (upd (x_li x j) ((x_lf x j + x_lz x j) % 121) v))) := h1
    simp only [p_lane h1', x_lane, g_dk_li, g_lk_li, g_po_li, g_ne_li, g_td_li, g_nb_li, g_ln_li, g_nr_li, g_nw_li, g_nn_li, g_ns_li, g_or_li, g_ow_li, g_on_li, g_nl_li, g_ng_li, g_rg_li, g_lc_li, g_cp_li, g_gb_li, g_sp_li, g_kn_li, g_me_li, g_ob_li, g_fk_li, g_fz_li, g_fg_li, g_rd_li, g_rz_li, g_rh_li, g_nd_li, g_nm_li, g_nv_li, g_nh_li, g_nf_li, g_wr_li, g_wa_li, g_lz_li, g_lf_li, g_li_li, g_lt_li, g_lb_li, g_lr_li, g_tn_li, g_tf_li, i_ic, i_lc, i_nul, i_il, i_ll, i_al, i_is, i_as, i_ls, i_inc, i_iadd, i_isub, i_imul, i_iand, i_ior, i_ixor, i_idiv, i_irem, i_ishl, i_ishr, i_ladd, i_lsub, i_land, i_lor, i_i2l, i_lushr, i_lshl, i_lshr, i_lcmp, i_dup, i_pop, i_dx1, i_dup2, i_ifeq, i_ifne, i_iflt, i_ifge, i_ifgt, i_ifle, i_iceq, i_icne, i_iclt, i_icge, i_icgt, i_icle, i_ifn, i_gf, i_pf, i_ial, i_bal, i_lal, i_aal, i_ias, i_las, i_bas, i_aas, i_alen, i_newa, i_new, i_anew, i_cast, i_oi, i_call, i_callV, i_callV2, i_callI, i_iret, i_zret, i_lret, i_vret, i_aret, i_mmx, i_mmn, i_gsE, i_aceq, i_no, i_acq, i_sw, zsw, zlg, zls, znl, zfg, zcs, zsp, zrc, zisn, zft, zc1, zto, Value.category, List.set_cons_zero, List.set_cons_succ, List.length_cons, List.length_nil, Option.toList, List.nil_append, List.cons_append, true_and, and_true, Nat.add_zero, Nat.zero_le, Nat.zero_add, Nat.le_refl, Nat.reduceAdd, Nat.reduceLeDiff, co0, z0, zn_0, zn_1, zn_2, zn_3, zn_4, zn_5, zn_8, zn_12, zn_24, zn_121, zn_144, zn_256, zn_300, zn_600, zn_720, zn_1204, zn_1280, zn_2400, zn_4816, zn_14400, zn_90000]
    rw [nI_1]
    refine ⟨m_k (by decide), by decide, ?_⟩
    refine zM (P := Rt none) ?_ hR
    refine Eq.trans ?_ (pu_lz (u_li x (va_up (x_li x) j (upd (x_li x j) ((x_lf x j + x_lz x j) % 121) v))) j (x_lz x j + 1) h1')
    simp only [x_lane, g_dk_li, g_lk_li, g_po_li, g_ne_li, g_td_li, g_nb_li, g_ln_li, g_nr_li, g_nw_li, g_nn_li, g_ns_li, g_or_li, g_ow_li, g_on_li, g_nl_li, g_ng_li, g_rg_li, g_lc_li, g_cp_li, g_gb_li, g_sp_li, g_kn_li, g_me_li, g_ob_li, g_fk_li, g_fz_li, g_fg_li, g_rd_li, g_rz_li, g_rh_li, g_nd_li, g_nm_li, g_nv_li, g_nh_li, g_nf_li, g_wr_li, g_wa_li, g_lz_li, g_lf_li, g_li_li, g_lt_li, g_lb_li, g_lr_li, g_tn_li, g_tf_li, g_dk_lz, g_lk_lz, g_po_lz, g_ne_lz, g_td_lz, g_nb_lz, g_ln_lz, g_nr_lz, g_nw_lz, g_nn_lz, g_ns_lz, g_or_lz, g_ow_lz, g_on_lz, g_nl_lz, g_ng_lz, g_rg_lz, g_lc_lz, g_cp_lz, g_gb_lz, g_sp_lz, g_kn_lz, g_me_lz, g_ob_lz, g_fk_lz, g_fz_lz, g_fg_lz, g_rd_lz, g_rz_lz, g_rh_lz, g_nd_lz, g_nm_lz, g_nv_lz, g_nh_lz, g_nf_lz, g_wr_lz, g_wa_lz, g_lz_lz, g_lf_lz, g_li_lz, g_lt_lz, g_lb_lz, g_lr_lz, g_tn_lz, g_tf_lz, va_up, if_true]
/-- the row at a slot: made if there is none -/
def la_mk (x : zSt) (l s : Nat) : zSt := if x_lr x l s = none then u_lr x (va_u2 (x_lr x) l s (some (fun _ => 0))) else x
theorem la_mk_some (x : zSt) (l s : Nat) : ∃ f, x_lr (la_mk x l s) l s = some f := by
  unfold la_mk
  split
  · exact ⟨fun _ => 0, by rw [g_lr_lr]; simp [va_u2]⟩
  · next h => exact Option.ne_none_iff_exists'.mp h
theorem pu_mk (x : zSt) (l s : Nat) (hl : l < x_nl x) (hs : s < 121) (hm : x_lr x l s = none) (e0 : zAE) : zup (zup (zup (zup (pic x) (5, 4 + l, s) e0) (6, 4 + l, s) (zlo (fun _ => 0))) (5, 4 + l, s) (.inr (5, [.inr (6, 4 + l, s)]))) (18, l, 0) (zra "WishRoutes$Row" 121 (va_up (x_lrs x l) s (some (5, 4 + l, s)))) = pic (u_lr x (va_u2 (x_lr x) l s (some (fun _ => 0)))) := by
  have e : ∀ a b, x_lr (u_lr x (va_u2 (x_lr x) l s (some (fun _ => 0)))) a b = if a = l ∧ b = s then some (fun _ => 0) else x_lr x a b := fun a b => by rw [g_lr_lr]; rfl
  have h1 : l < x_nl (u_lr x (va_u2 (x_lr x) l s (some (fun _ => 0)))) := hl
  have er := r_lr h1 hs
  rw [e, if_pos ⟨rfl, rfl⟩] at er
  funext n
  by_cases h18 : n = (18, l, 0)
  · subst h18
    rw [zup_s, p_lrs h1]
    congr 5
    funext t
    simp only [x_lrs, va_up, e, true_and]
    by_cases ht : t = s
    · subst ht; simp [hs]
    · simp [ht]
  rw [zup_o h18]
  by_cases h5 : n = (5, 4 + l, s)
  · subst h5
    rw [zup_s, p_rowO er]
  rw [zup_o h5]
  by_cases h6 : n = (6, 4 + l, s)
  · subst h6
    rw [zup_s, p_rowW er]
  rw [zup_o h6, zup_o h5]
  obtain ⟨k, i, j⟩ := n
  have hrw : ¬ (i = 4 + l ∧ j = s) → x_rw x i j = x_rw (u_lr x (va_u2 (x_lr x) l s (some (fun _ => 0)))) i j := by
    intro hn
    simp only [x_rw, e, g_dk_lr, g_lk_lr, g_po_lr, g_ne_lr, g_td_lr, g_nb_lr, g_ln_lr, g_nr_lr, g_nw_lr, g_nn_lr, g_ns_lr, g_or_lr, g_ow_lr, g_on_lr, g_nl_lr, g_ng_lr, g_rg_lr, g_lc_lr, g_cp_lr, g_gb_lr, g_sp_lr, g_kn_lr, g_me_lr, g_ob_lr, g_fk_lr, g_fz_lr, g_fg_lr, g_rd_lr, g_rz_lr, g_rh_lr, g_nd_lr, g_nm_lr, g_nv_lr, g_nh_lr, g_nf_lr, g_wr_lr, g_wa_lr, g_lz_lr, g_lf_lr, g_li_lr, g_lt_lr, g_lb_lr, g_lr_lr, g_tn_lr, g_tf_lr]
    by_cases h4 : i - 4 = l ∧ j = s
    · by_cases h0 : i = 0
      · subst h0; rfl
      by_cases h1 : i = 1
      · subst h1; rfl
      by_cases h2 : i = 2
      · subst h2; rfl
      by_cases h3 : i = 3
      · subst h3; rfl
      exact absurd ⟨by omega, h4.2⟩ hn
    · simp only [h4, if_false]
      rfl
  rcases k with _ | _ | _ | _ | _ | _ | _ | _ | _ | _ | _ | _ | _ | _ | _ | _ | _ | _ | _ | k
  all_goals first | rfl | skip
  · show (x_rw x i j).map _ = (x_rw _ i j).map _
    rw [hrw (fun h => h5 (by rw [h.1, h.2]))]
  · show (x_rw x i j).map _ = (x_rw _ i j).map _
    rw [hrw (fun h => h6 (by rw [h.1, h.2]))]
  · by_cases hi : i < x_nl x ∧ j = 0
    · have hil : i ≠ l := fun q => h18 (by rw [q, hi.2])
      have el : x_lrs x i = x_lrs (u_lr x (va_u2 (x_lr x) l s (some (fun _ => 0)))) i := by
        funext t
        simp only [x_lrs, e, hil, false_and, if_false]
      refine (if_pos hi).trans (Eq.trans ?_ (if_pos hi).symm)
      rw [el]
    · exact (if_neg hi).trans (if_neg hi).symm
/-- a row costs two cells, six slots -/
def T_Lane_rowAt (As : List zAV) (M : zMp) (Rt : Option zAV → zMp → Prop) (c1 c2 : Nat) : Prop := ∃ x l s, As = [.inr (16, l, 0), .inl (.int (nI s))] ∧ M = pic x ∧ l < x_nl x ∧ s < 121 ∧ (x_lr x l s = none → 2 ≤ c1 ∧ 6 ≤ c2) ∧ Rt (some (.inr (5, 4 + l, s))) (pic (la_mk x l s))
theorem dX1_rowAt_0 : decode cX1_rowAt 0 = .ok (.aload_n 0, 1) := by decide +kernel
theorem dX1_rowAt_1 : decode cX1_rowAt 1 = .ok (.getfield 29, 3) := by decide +kernel
theorem dX1_rowAt_4 : decode cX1_rowAt 4 = .ok (.iload_n 1, 1) := by decide +kernel
theorem dX1_rowAt_5 : decode cX1_rowAt 5 = .ok (.aaload, 1) := by decide +kernel
theorem dX1_rowAt_6 : decode cX1_rowAt 6 = .ok (.ifnonnull 16, 3) := by decide +kernel
theorem dX1_rowAt_9 : decode cX1_rowAt 9 = .ok (.aload_n 0, 1) := by decide +kernel
theorem dX1_rowAt_10 : decode cX1_rowAt 10 = .ok (.getfield 29, 3) := by decide +kernel
theorem dX1_rowAt_13 : decode cX1_rowAt 13 = .ok (.iload_n 1, 1) := by decide +kernel
theorem dX1_rowAt_14 : decode cX1_rowAt 14 = .ok (.new 9, 3) := by decide +kernel
theorem dX1_rowAt_17 : decode cX1_rowAt 17 = .ok (.dup, 1) := by decide +kernel
theorem dX1_rowAt_18 : decode cX1_rowAt 18 = .ok (.invokespecial 11, 3) := by decide +kernel
theorem dX1_rowAt_21 : decode cX1_rowAt 21 = .ok (.aastore, 1) := by decide +kernel
theorem dX1_rowAt_22 : decode cX1_rowAt 22 = .ok (.aload_n 0, 1) := by decide +kernel
theorem dX1_rowAt_23 : decode cX1_rowAt 23 = .ok (.getfield 29, 3) := by decide +kernel
theorem dX1_rowAt_26 : decode cX1_rowAt 26 = .ok (.iload_n 1, 1) := by decide +kernel
theorem dX1_rowAt_27 : decode cX1_rowAt 27 = .ok (.aaload, 1) := by decide +kernel
theorem dX1_rowAt_28 : decode cX1_rowAt 28 = .ok (.areturn, 1) := by decide +kernel
def B_Lane_rowAt_22 (mc ms : Nat) (Rt : Option zAV → zMp → Prop) (g : Nat → zKT) : zKT :=
  (i_al 0 (i_gf 2 4 (i_il 1 (i_aal "WishRoutes$Row" (i_aret mc ms Rt)))))
set_option maxRecDepth 20000 in
theorem s_Lane_rowAt_22 {X : zMa} {mc ms : Nat} {Rt : Option zAV → zMp → Prop} (hC : zCx X RX1 cX1_rowAt 2 40 mc ms (some (.object "WishRoutes$Row")) false Rt) : zLe (B_Lane_rowAt_22 mc ms Rt (zG X)) (zG X 22) :=
  (sd_al_n hC rfl dX1_rowAt_22 ((sd_gf hC (ci := 2) (fk := 4) rfl wi_Lane (by decide) fl_Lane_29 (Or.inl rfl) dX1_rowAt_23 ((sd_il_n hC rfl dX1_rowAt_26 ((sd_aal hC dX1_rowAt_27 ((sd_aret hC (Or.inl ⟨_, rfl⟩) dX1_rowAt_28)))))))))
def B_Lane_rowAt_0 (mc ms : Nat) (Rt : Option zAV → zMp → Prop) (g : Nat → zKT) : zKT :=
  (i_al 0 (i_gf 2 4 (i_il 1 (i_aal "WishRoutes$Row" (i_ifn (i_al 0 (i_gf 2 4 (i_il 1 (i_new mc ms 5 1 [.inl .null] (i_dup (i_callI mc ms 1 T_Row_init co_Row_init (i_aas "WishRoutes$Row" (B_Lane_rowAt_22 mc ms Rt g)))))))) (B_Lane_rowAt_22 mc ms Rt g))))))
set_option maxRecDepth 20000 in
theorem s_Lane_rowAt_0 {X : zMa} {mc ms : Nat} {Rt : Option zAV → zMp → Prop} (hC : zCx X RX1 cX1_rowAt 2 40 mc ms (some (.object "WishRoutes$Row")) false Rt) : zLe (B_Lane_rowAt_0 mc ms Rt (zG X)) (zG X 0) :=
  (sd_al_n hC rfl dX1_rowAt_0 ((sd_gf hC (ci := 2) (fk := 4) rfl wi_Lane (by decide) fl_Lane_29 (Or.inl rfl) dX1_rowAt_1 ((sd_il_n hC rfl dX1_rowAt_4 ((sd_aal hC dX1_rowAt_5 ((sd_ifnonnull hC (tgt := 22) (by decide) dX1_rowAt_6 (s_Lane_rowAt_22 hC) ((sd_al_n hC rfl dX1_rowAt_9 ((sd_gf hC (ci := 2) (fk := 4) rfl wi_Lane (by decide) fl_Lane_29 (Or.inl rfl) dX1_rowAt_10 ((sd_il_n hC rfl dX1_rowAt_13 ((sd_new hC (ci := 5) rfl wi_Row tyX4 tyX4_ok cl_Lane_9 in_Row iz_Row (by decide) (by intro n h; simp at h) dX1_rowAt_14 ((sd_dup hC dX1_rowAt_17 ((sd_cIN hC c_Row_init yi_Row_init mn_Lane_11 (by decide) (by decide) dX1_rowAt_18 ((sd_aas hC dX1_rowAt_21 (s_Lane_rowAt_22 hC))))))))))))))))))))))))
theorem c_Lane_rowAt (l : Launch) : zCT2 l yX1_rowAt cX1_rowAt 2 (some (.object "WishRoutes$Row")) 2 40 T_Lane_rowAt := by
  intro As M Rt c1 c2 hT
  obtain ⟨x, j, s, rfl, rfl, h1, h2, h3, hR⟩ := hT
  refine zMet_of false (by decide +kernel) (fun h => by first | rfl | cases h) (Nat.le_of_ble_eq_true rfl) (fun X hN hC => ?_)
  show zG X 0 [some (.inr (16, j, 0)), some (.inl (.int (nI s)))] [] (pic x) 0 0
  refine s_Lane_rowAt_0 hC _ _ _ _ _ ?_
  simp only [B_Lane_rowAt_0, B_Lane_rowAt_22, co_Row_init, i_ic, i_lc, i_nul, i_il, i_ll, i_al, i_is, i_as, i_ls, i_inc, i_iadd, i_isub, i_imul, i_iand, i_ior, i_ixor, i_idiv, i_irem, i_ishl, i_ishr, i_ladd, i_lsub, i_land, i_lor, i_i2l, i_lushr, i_lshl, i_lshr, i_lcmp, i_dup, i_pop, i_dx1, i_dup2, i_ifeq, i_ifne, i_iflt, i_ifge, i_ifgt, i_ifle, i_iceq, i_icne, i_iclt, i_icge, i_icgt, i_icle, i_ifn, i_gf, i_pf, i_ial, i_bal, i_lal, i_aal, i_ias, i_las, i_bas, i_aas, i_alen, i_newa, i_new, i_anew, i_cast, i_oi, i_call, i_callV, i_callV2, i_callI, i_iret, i_zret, i_lret, i_vret, i_aret, i_mmx, i_mmn, i_gsE, i_aceq, i_no, i_acq, i_sw, zsw, zlg, zls, znl, zfg, zcs, zsp, zrc, zisn, zft, zc1, zto, Value.category, List.set_cons_zero, List.set_cons_succ, List.length_cons, List.length_nil, Option.toList, List.nil_append, List.cons_append, true_and, and_true, Nat.add_zero, Nat.zero_le, Nat.zero_add, Nat.le_refl, Nat.reduceAdd, Nat.reduceLeDiff, co0, z0, zn_0, zn_1, zn_2, zn_3, zn_4, zn_5, zn_8, zn_12, zn_24, zn_121, zn_144, zn_256, zn_300, zn_600, zn_720, zn_1204, zn_1280, zn_2400, zn_4816, zn_14400, zn_90000, p_lane h1, p_lrs h1, x_lane]
  have hin : vp_in (nI s) 121 := vp_in_nI h2 (by decide)
  rw [nI_clamp (by omega)]
  refine ⟨hin, ?_⟩
  unfold la_mk at hR
  cases hm : x_lr x j s with
  | some f =>
    rw [if_neg (by rw [hm]; simp)] at hR
    simp only [x_lrs, hm, h2, if_true, Option.map_some, zov, p_lane h1, p_lrs h1, x_lane, i_ic, i_lc, i_nul, i_il, i_ll, i_al, i_is, i_as, i_ls, i_inc, i_iadd, i_isub, i_imul, i_iand, i_ior, i_ixor, i_idiv, i_irem, i_ishl, i_ishr, i_ladd, i_lsub, i_land, i_lor, i_i2l, i_lushr, i_lshl, i_lshr, i_lcmp, i_dup, i_pop, i_dx1, i_dup2, i_ifeq, i_ifne, i_iflt, i_ifge, i_ifgt, i_ifle, i_iceq, i_icne, i_iclt, i_icge, i_icgt, i_icle, i_ifn, i_gf, i_pf, i_ial, i_bal, i_lal, i_aal, i_ias, i_las, i_bas, i_aas, i_alen, i_newa, i_new, i_anew, i_cast, i_oi, i_call, i_callV, i_callV2, i_callI, i_iret, i_zret, i_lret, i_vret, i_aret, i_mmx, i_mmn, i_gsE, i_aceq, i_no, i_acq, i_sw, zsw, zlg, zls, znl, zfg, zcs, zsp, zrc, zisn, zft, zc1, zto, Value.category, List.set_cons_zero, List.set_cons_succ, List.length_cons, List.length_nil, Option.toList, List.nil_append, List.cons_append, true_and, and_true, Nat.add_zero, Nat.zero_le, Nat.zero_add, Nat.le_refl, Nat.reduceAdd, Nat.reduceLeDiff, co0, z0, zn_0, zn_1, zn_2, zn_3, zn_4, zn_5, zn_8, zn_12, zn_24, zn_121, zn_144, zn_256, zn_300, zn_600, zn_720, zn_1204, zn_1280, zn_2400, zn_4816, zn_14400, zn_90000]
    exact ⟨hin, hR⟩
  | none =>
    rw [if_pos hm] at hR
    obtain ⟨hc1, hc2⟩ := h3 hm
    have e0 : x_lrs x j s = none := by simp [x_lrs, hm]
    have er := r_lr h1 h2
    rw [hm] at er
    have p5 : pic x (5, 4 + j, s) = none := by show (x_rw x (4 + j) s).map _ = _; rw [er]; rfl
    have p6 : pic x (6, 4 + j, s) = none := by show (x_rw x (4 + j) s).map _ = _; rw [er]; rfl
    rw [e0]
    simp only [zov, p_lane h1, p_lrs h1, x_lane, i_ic, i_lc, i_nul, i_il, i_ll, i_al, i_is, i_as, i_ls, i_inc, i_iadd, i_isub, i_imul, i_iand, i_ior, i_ixor, i_idiv, i_irem, i_ishl, i_ishr, i_ladd, i_lsub, i_land, i_lor, i_i2l, i_lushr, i_lshl, i_lshr, i_lcmp, i_dup, i_pop, i_dx1, i_dup2, i_ifeq, i_ifne, i_iflt, i_ifge, i_ifgt, i_ifle, i_iceq, i_icne, i_iclt, i_icge, i_icgt, i_icle, i_ifn, i_gf, i_pf, i_ial, i_bal, i_lal, i_aal, i_ias, i_las, i_bas, i_aas, i_alen, i_newa, i_new, i_anew, i_cast, i_oi, i_call, i_callV, i_callV2, i_callI, i_iret, i_zret, i_lret, i_vret, i_aret, i_mmx, i_mmn, i_gsE, i_aceq, i_no, i_acq, i_sw, zsw, zlg, zls, znl, zfg, zcs, zsp, zrc, zisn, zft, zc1, zto, Value.category, List.set_cons_zero, List.set_cons_succ, List.length_cons, List.length_nil, Option.toList, List.nil_append, List.cons_append, true_and, and_true, Nat.add_zero, Nat.zero_le, Nat.zero_add, Nat.le_refl, Nat.reduceAdd, Nat.reduceLeDiff, co0, z0, zn_0, zn_1, zn_2, zn_3, zn_4, zn_5, zn_8, zn_12, zn_24, zn_121, zn_144, zn_256, zn_300, zn_600, zn_720, zn_1204, zn_1280, zn_2400, zn_4816, zn_14400, zn_90000]
    refine ⟨(5, 4 + j, s), p5, m_k (by decide), by omega, by omega, hc1, hc2, (5, 4 + j, s), (6, 4 + j, s), rfl, zup_s, m_k (by decide), ?_, m_k (by decide), ?_⟩
    · rw [zup_o (by simp)]; exact p6
    have n18 : ((18, j, 0) : zNm) ≠ (5, 4 + j, s) := by simp
    have n18' : ((18, j, 0) : zNm) ≠ (6, 4 + j, s) := by simp
    have n16 : ((16, j, 0) : zNm) ≠ (5, 4 + j, s) := by simp
    have n16' : ((16, j, 0) : zNm) ≠ (6, 4 + j, s) := by simp
    have n16'' : ((16, j, 0) : zNm) ≠ (18, j, 0) := by simp
    simp only [zup_o n18, zup_o n18', zup_o n16, zup_o n16', zup_o n16'', p_lane h1, p_lrs h1, x_lane, zok, zup_s, i_ic, i_lc, i_nul, i_il, i_ll, i_al, i_is, i_as, i_ls, i_inc, i_iadd, i_isub, i_imul, i_iand, i_ior, i_ixor, i_idiv, i_irem, i_ishl, i_ishr, i_ladd, i_lsub, i_land, i_lor, i_i2l, i_lushr, i_lshl, i_lshr, i_lcmp, i_dup, i_pop, i_dx1, i_dup2, i_ifeq, i_ifne, i_iflt, i_ifge, i_ifgt, i_ifle, i_iceq, i_icne, i_iclt, i_icge, i_icgt, i_icle, i_ifn, i_gf, i_pf, i_ial, i_bal, i_lal, i_aal, i_ias, i_las, i_bas, i_aas, i_alen, i_newa, i_new, i_anew, i_cast, i_oi, i_call, i_callV, i_callV2, i_callI, i_iret, i_zret, i_lret, i_vret, i_aret, i_mmx, i_mmn, i_gsE, i_aceq, i_no, i_acq, i_sw, zsw, zlg, zls, znl, zfg, zcs, zsp, zrc, zisn, zft, zc1, zto, Value.category, List.set_cons_zero, List.set_cons_succ, List.length_cons, List.length_nil, Option.toList, List.nil_append, List.cons_append, true_and, and_true, Nat.add_zero, Nat.zero_le, Nat.zero_add, Nat.le_refl, Nat.reduceAdd, Nat.reduceLeDiff, co0, z0, zn_0, zn_1, zn_2, zn_3, zn_4, zn_5, zn_8, zn_12, zn_24, zn_121, zn_144, zn_256, zn_300, zn_600, zn_720, zn_1204, zn_1280, zn_2400, zn_4816, zn_14400, zn_90000]
    rw [nI_clamp (by omega)]
    refine ⟨m_k (by decide), hin, zk_Row_Row, hin, ?_⟩
    simp only [va_up, if_true, zov, i_ic, i_lc, i_nul, i_il, i_ll, i_al, i_is, i_as, i_ls, i_inc, i_iadd, i_isub, i_imul, i_iand, i_ior, i_ixor, i_idiv, i_irem, i_ishl, i_ishr, i_ladd, i_lsub, i_land, i_lor, i_i2l, i_lushr, i_lshl, i_lshr, i_lcmp, i_dup, i_pop, i_dx1, i_dup2, i_ifeq, i_ifne, i_iflt, i_ifge, i_ifgt, i_ifle, i_iceq, i_icne, i_iclt, i_icge, i_icgt, i_icle, i_ifn, i_gf, i_pf, i_ial, i_bal, i_lal, i_aal, i_ias, i_las, i_bas, i_aas, i_alen, i_newa, i_new, i_anew, i_cast, i_oi, i_call, i_callV, i_callV2, i_callI, i_iret, i_zret, i_lret, i_vret, i_aret, i_mmx, i_mmn, i_gsE, i_aceq, i_no, i_acq, i_sw, zsw, zlg, zls, znl, zfg, zcs, zsp, zrc, zisn, zft, zc1, zto, Value.category, List.set_cons_zero, List.set_cons_succ, List.length_cons, List.length_nil, Option.toList, List.nil_append, List.cons_append, true_and, and_true, Nat.add_zero, Nat.zero_le, Nat.zero_add, Nat.le_refl, Nat.reduceAdd, Nat.reduceLeDiff, co0, z0, zn_0, zn_1, zn_2, zn_3, zn_4, zn_5, zn_8, zn_12, zn_24, zn_121, zn_144, zn_256, zn_300, zn_600, zn_720, zn_1204, zn_1280, zn_2400, zn_4816, zn_14400, zn_90000]
    refine ⟨by omega, by omega, ?_⟩
    refine zM (P := Rt _) (pu_mk x j s h1 h2 hm _) hR
end
section
/-! lanes, second half -/
theorem ok_push {x : zSt} {l : Nat} {v : Int32} (h : ln_ok x l) (hz : x_lz x l < 121) : ln_ok (la_push x l v) l := by
  refine ⟨h.1, ?_, h.2.2⟩
  show va_up (x_lz x) l (x_lz x l + 1) l ≤ 121
  simp only [va_up, if_true]
  omega
theorem lz_push (x : zSt) (l : Nat) (v : Int32) : x_lz (la_push x l v) l = x_lz x l + 1 := by
  show va_up (x_lz x) l (x_lz x l + 1) l = _
  simp [va_up]
theorem lf_mk (x : zSt) (l s : Nat) : x_lf (la_mk x l s) = x_lf x := by unfold la_mk; split <;> rfl
theorem lz_mk (x : zSt) (l s : Nat) : x_lz (la_mk x l s) = x_lz x := by unfold la_mk; split <;> rfl
theorem nl_mk (x : zSt) (l s : Nat) : x_nl (la_mk x l s) = x_nl x := by unfold la_mk; split <;> rfl
theorem me_mk (x : zSt) (l s : Nat) : x_me (la_mk x l s) = x_me x := by unfold la_mk; split <;> rfl
theorem lt_mk (x : zSt) (l s : Nat) : x_lt (la_mk x l s) = x_lt x := by unfold la_mk; split <;> rfl
theorem lb_mk (x : zSt) (l s : Nat) : x_lb (la_mk x l s) = x_lb x := by unfold la_mk; split <;> rfl
theorem li_mk (x : zSt) (l s : Nat) : x_li (la_mk x l s) = x_li x := by unfold la_mk; split <;> rfl
/-- the words of the row at a slot (none: zeros) -/
def la_row (x : zSt) (l s : Nat) : Nat → Int64 := (x_lr (la_mk x l s) l s).getD (fun _ => 0)
theorem la_row_e (x : zSt) (l s : Nat) : x_lr (la_mk x l s) l s = some (la_row x l s) := by
  obtain ⟨f, hf⟩ := la_mk_some x l s
  unfold la_row
  rw [hf]; rfl
/-- the tell's row is written: into the slot, and told -/
def la_wr (x : zSt) (l s : Nat) : zSt := u_lt (u_lr (la_mk x l s) (va_u2 (x_lr (la_mk x l s)) l s (some (rw_set (la_row x l s) (x_me x))))) (va_up (x_lt x) l (rw_set (x_lt x l) (x_me x)))
def la_tell (x : zSt) (l : Nat) : zSt :=
  if la_item x l (nI (x_lz x l) - 1) = -2 then la_wr x l ((x_lf x l + (x_lz x l - 1)) % 121) else if x_lz x l < 121 then la_wr (la_push x l (-2)) l ((x_lf x l + x_lz x l) % 121) else x
def la_nw (x : zSt) (l : Nat) : Prop := (if la_item x l (nI (x_lz x l) - 1) = -2 then x_lr x l ((x_lf x l + (x_lz x l - 1)) % 121) else x_lr x l ((x_lf x l + x_lz x l) % 121)) = none
def T_Lane_putTell (As : List zAV) (M : zMp) (Rt : Option zAV → zMp → Prop) (c1 c2 : Nat) : Prop := ∃ x l, As = [.inr (16, l, 0), .inr (5, 0, 1)] ∧ M = pic x ∧ ln_ok x l ∧ (la_nw x l → 2 ≤ c1 ∧ 6 ≤ c2) ∧ Rt none (pic (la_tell x l))
theorem dX1_putTell_0 : decode cX1_putTell 0 = .ok (.aload_n 0, 1) := by decide +kernel
theorem dX1_putTell_1 : decode cX1_putTell 1 = .ok (.aload_n 0, 1) := by decide +kernel
theorem dX1_putTell_2 : decode cX1_putTell 2 = .ok (.getfield 21, 3) := by decide +kernel
theorem dX1_putTell_5 : decode cX1_putTell 5 = .ok (.iconst 1, 1) := by decide +kernel
theorem dX1_putTell_6 : decode cX1_putTell 6 = .ok (.isub, 1) := by decide +kernel
theorem dX1_putTell_7 : decode cX1_putTell 7 = .ok (.invokevirtual 40, 3) := by decide +kernel
theorem dX1_putTell_10 : decode cX1_putTell 10 = .ok (.bipush (-2), 2) := by decide +kernel
theorem dX1_putTell_12 : decode cX1_putTell 12 = .ok (.if_icmp .eq 38, 3) := by decide +kernel
theorem dX1_putTell_15 : decode cX1_putTell 15 = .ok (.aload_n 0, 1) := by decide +kernel
theorem dX1_putTell_16 : decode cX1_putTell 16 = .ok (.getfield 21, 3) := by decide +kernel
theorem dX1_putTell_19 : decode cX1_putTell 19 = .ok (.bipush 121, 2) := by decide +kernel
theorem dX1_putTell_21 : decode cX1_putTell 21 = .ok (.if_icmp .lt 4, 3) := by decide +kernel
theorem dX1_putTell_24 : decode cX1_putTell 24 = .ok (.return_, 1) := by decide +kernel
theorem dX1_putTell_25 : decode cX1_putTell 25 = .ok (.aload_n 0, 1) := by decide +kernel
theorem dX1_putTell_26 : decode cX1_putTell 26 = .ok (.getfield 25, 3) := by decide +kernel
theorem dX1_putTell_29 : decode cX1_putTell 29 = .ok (.aload_n 0, 1) := by decide +kernel
theorem dX1_putTell_30 : decode cX1_putTell 30 = .ok (.aload_n 0, 1) := by decide +kernel
theorem dX1_putTell_31 : decode cX1_putTell 31 = .ok (.getfield 21, 3) := by decide +kernel
theorem dX1_putTell_34 : decode cX1_putTell 34 = .ok (.invokevirtual 36, 3) := by decide +kernel
theorem dX1_putTell_37 : decode cX1_putTell 37 = .ok (.bipush (-2), 2) := by decide +kernel
theorem dX1_putTell_39 : decode cX1_putTell 39 = .ok (.iastore, 1) := by decide +kernel
theorem dX1_putTell_40 : decode cX1_putTell 40 = .ok (.aload_n 0, 1) := by decide +kernel
theorem dX1_putTell_41 : decode cX1_putTell 41 = .ok (.dup, 1) := by decide +kernel
theorem dX1_putTell_42 : decode cX1_putTell 42 = .ok (.getfield 21, 3) := by decide +kernel
theorem dX1_putTell_45 : decode cX1_putTell 45 = .ok (.iconst 1, 1) := by decide +kernel
theorem dX1_putTell_46 : decode cX1_putTell 46 = .ok (.iadd, 1) := by decide +kernel
theorem dX1_putTell_47 : decode cX1_putTell 47 = .ok (.putfield 21, 3) := by decide +kernel
theorem dX1_putTell_50 : decode cX1_putTell 50 = .ok (.aload_n 0, 1) := by decide +kernel
theorem dX1_putTell_51 : decode cX1_putTell 51 = .ok (.aload_n 0, 1) := by decide +kernel
theorem dX1_putTell_52 : decode cX1_putTell 52 = .ok (.aload_n 0, 1) := by decide +kernel
theorem dX1_putTell_53 : decode cX1_putTell 53 = .ok (.getfield 21, 3) := by decide +kernel
theorem dX1_putTell_56 : decode cX1_putTell 56 = .ok (.iconst 1, 1) := by decide +kernel
theorem dX1_putTell_57 : decode cX1_putTell 57 = .ok (.isub, 1) := by decide +kernel
theorem dX1_putTell_58 : decode cX1_putTell 58 = .ok (.invokevirtual 36, 3) := by decide +kernel
theorem dX1_putTell_61 : decode cX1_putTell 61 = .ok (.invokevirtual 43, 3) := by decide +kernel
theorem dX1_putTell_64 : decode cX1_putTell 64 = .ok (.aload_n 1, 1) := by decide +kernel
theorem dX1_putTell_65 : decode cX1_putTell 65 = .ok (.invokevirtual 47, 3) := by decide +kernel
theorem dX1_putTell_68 : decode cX1_putTell 68 = .ok (.aload_n 0, 1) := by decide +kernel
theorem dX1_putTell_69 : decode cX1_putTell 69 = .ok (.getfield 12, 3) := by decide +kernel
theorem dX1_putTell_72 : decode cX1_putTell 72 = .ok (.aload_n 1, 1) := by decide +kernel
theorem dX1_putTell_73 : decode cX1_putTell 73 = .ok (.invokevirtual 47, 3) := by decide +kernel
theorem dX1_putTell_76 : decode cX1_putTell 76 = .ok (.return_, 1) := by decide +kernel
def B_Lane_putTell_50 (mc ms : Nat) (Rt : Option zAV → zMp → Prop) (g : Nat → zKT) : zKT :=
  (i_al 0 (i_al 0 (i_al 0 (i_gf 2 2 (i_ic 1 (i_isub (i_callV mc ms 2 2 T_Lane_slot co_Lane_slot (i_callV2 mc ms 2 2 T_Lane_rowAt (i_al 1 (i_callV mc ms 5 2 T_Row_set co_Row_set (i_al 0 (i_gf 2 0 (i_al 1 (i_callV mc ms 5 2 T_Row_set co_Row_set (i_vret mc ms Rt)))))))))))))))
set_option maxRecDepth 20000 in
theorem s_Lane_putTell_50 {X : zMa} {mc ms : Nat} {Rt : Option zAV → zMp → Prop} (hC : zCx X RX1 cX1_putTell 3 61 mc ms (none) false Rt) : zLe (B_Lane_putTell_50 mc ms Rt (zG X)) (zG X 50) :=
  (sd_al_n hC rfl dX1_putTell_50 ((sd_al_n hC rfl dX1_putTell_51 ((sd_al_n hC rfl dX1_putTell_52 ((sd_gf hC (ci := 2) (fk := 2) rfl wi_Lane (by decide) fl_Lane_21 (Or.inl rfl) dX1_putTell_53 ((sd_iconst hC (by decide) dX1_putTell_56 ((sd_isub hC dX1_putTell_57 ((sd_cV hC c_Lane_slot yv_Lane_slot (ci := 2) rfl rfl ml_Lane_36 (by decide) (by decide) dX1_putTell_58 ((sd_cV2 hC c_Lane_rowAt yv_Lane_rowAt (ci := 2) rfl rfl ml_Lane_43 (by decide) (by decide) dX1_putTell_61 ((sd_al_n hC rfl dX1_putTell_64 ((sd_cV hC c_Row_set yv_Row_set (ci := 5) rfl rfl ml_Lane_47 (by decide) (by decide) dX1_putTell_65 ((sd_al_n hC rfl dX1_putTell_68 ((sd_gf hC (ci := 2) (fk := 0) rfl wi_Lane (by decide) fl_Lane_12 (Or.inl rfl) dX1_putTell_69 ((sd_al_n hC rfl dX1_putTell_72 ((sd_cV hC c_Row_set yv_Row_set (ci := 5) rfl rfl ml_Lane_47 (by decide) (by decide) dX1_putTell_73 ((sd_vret hC dX1_putTell_76)))))))))))))))))))))))))))))
def B_Lane_putTell_25 (mc ms : Nat) (Rt : Option zAV → zMp → Prop) (g : Nat → zKT) : zKT :=
  (i_al 0 (i_gf 2 3 (i_al 0 (i_al 0 (i_gf 2 2 (i_callV mc ms 2 2 T_Lane_slot co_Lane_slot (i_ic (-2) (i_ias (i_al 0 (i_dup (i_gf 2 2 (i_ic 1 (i_iadd (i_pf 2 2 .int (B_Lane_putTell_50 mc ms Rt g)))))))))))))))
set_option maxRecDepth 20000 in
theorem s_Lane_putTell_25 {X : zMa} {mc ms : Nat} {Rt : Option zAV → zMp → Prop} (hC : zCx X RX1 cX1_putTell 3 61 mc ms (none) false Rt) : zLe (B_Lane_putTell_25 mc ms Rt (zG X)) (zG X 25) :=
  (sd_al_n hC rfl dX1_putTell_25 ((sd_gf hC (ci := 2) (fk := 3) rfl wi_Lane (by decide) fl_Lane_25 (Or.inl rfl) dX1_putTell_26 ((sd_al_n hC rfl dX1_putTell_29 ((sd_al_n hC rfl dX1_putTell_30 ((sd_gf hC (ci := 2) (fk := 2) rfl wi_Lane (by decide) fl_Lane_21 (Or.inl rfl) dX1_putTell_31 ((sd_cV hC c_Lane_slot yv_Lane_slot (ci := 2) rfl rfl ml_Lane_36 (by decide) (by decide) dX1_putTell_34 ((sd_bipush hC (by decide) dX1_putTell_37 ((sd_ias hC dX1_putTell_39 ((sd_al_n hC rfl dX1_putTell_40 ((sd_dup hC dX1_putTell_41 ((sd_gf hC (ci := 2) (fk := 2) rfl wi_Lane (by decide) fl_Lane_21 (Or.inl rfl) dX1_putTell_42 ((sd_iconst hC (by decide) dX1_putTell_45 ((sd_iadd hC dX1_putTell_46 ((sd_pf hC (ci := 2) (fk := 2) rfl wi_Lane tyX1 tyX1_ok nmX1 (by decide) fl_Lane_21 (Or.inl rfl) (Or.inl rfl) dX1_putTell_47 (s_Lane_putTell_50 hC))))))))))))))))))))))))))))
def B_Lane_putTell_0 (mc ms : Nat) (Rt : Option zAV → zMp → Prop) (g : Nat → zKT) : zKT :=
  (i_al 0 (i_al 0 (i_gf 2 2 (i_ic 1 (i_isub (i_callV mc ms 2 2 T_Lane_itemAt co_Lane_itemAt (i_ic (-2) (i_iceq (B_Lane_putTell_50 mc ms Rt g) (i_al 0 (i_gf 2 2 (i_ic 121 (i_iclt (B_Lane_putTell_25 mc ms Rt g) (i_vret mc ms Rt)))))))))))))
set_option maxRecDepth 20000 in
theorem s_Lane_putTell_0 {X : zMa} {mc ms : Nat} {Rt : Option zAV → zMp → Prop} (hC : zCx X RX1 cX1_putTell 3 61 mc ms (none) false Rt) : zLe (B_Lane_putTell_0 mc ms Rt (zG X)) (zG X 0) :=
  (sd_al_n hC rfl dX1_putTell_0 ((sd_al_n hC rfl dX1_putTell_1 ((sd_gf hC (ci := 2) (fk := 2) rfl wi_Lane (by decide) fl_Lane_21 (Or.inl rfl) dX1_putTell_2 ((sd_iconst hC (by decide) dX1_putTell_5 ((sd_isub hC dX1_putTell_6 ((sd_cV hC c_Lane_itemAt yv_Lane_itemAt (ci := 2) rfl rfl ml_Lane_40 (by decide) (by decide) dX1_putTell_7 ((sd_bipush hC (by decide) dX1_putTell_10 ((sd_iceq hC (tgt := 50) (by decide) dX1_putTell_12 (s_Lane_putTell_50 hC) ((sd_al_n hC rfl dX1_putTell_15 ((sd_gf hC (ci := 2) (fk := 2) rfl wi_Lane (by decide) fl_Lane_21 (Or.inl rfl) dX1_putTell_16 ((sd_bipush hC (by decide) dX1_putTell_19 ((sd_iclt hC (tgt := 25) (by decide) dX1_putTell_21 (s_Lane_putTell_25 hC) ((sd_vret hC dX1_putTell_24)))))))))))))))))))))))))
theorem la_item_lt {x : zSt} {l : Nat} {i : Int32} (h : la_item x l i = -2) : 0 < x_lz x l := by
  unfold la_item at h
  split at h
  · next hc =>
    rcases Nat.eq_zero_or_pos (x_lz x l) with h0 | h0
    · rw [h0] at hc
      exact absurd hc.2 (fun z => hc.1 z)
    · exact h0
  · exact absurd h (by decide)
theorem c_Lane_putTell (l : Launch) : zCT2 l yX1_putTell cX1_putTell 2 (none) 3 61 T_Lane_putTell := by
  intro As M Rt c1 c2 hT
  obtain ⟨x, j, rfl, rfl, hok, hc, hR⟩ := hT
  refine zMet_of false (by decide +kernel) (fun h => by first | rfl | cases h) (Nat.le_of_ble_eq_true rfl) (fun X hN hC => ?_)
  show zG X 0 [some (.inr (16, j, 0)), some (.inr (5, 0, 1))] [] (pic x) 0 0
  -- from 50 on
  have fin : ∀ y : zSt, ln_ok y j → 0 < x_lz y j → (x_lr y j ((x_lf y j + (x_lz y j - 1)) % 121) = none → 2 ≤ c1 ∧ 6 ≤ c2) → Rt none (pic (la_wr y j ((x_lf y j + (x_lz y j - 1)) % 121))) → B_Lane_putTell_50 c1 c2 Rt (zG X) [some (.inr (16, j, 0)), some (.inr (5, 0, 1))] [] (pic y) 0 0 := by
    intro y hoky hpos hcy hr
    obtain ⟨h1, h2, h3⟩ := id hoky
    generalize hs : (x_lf y j + (x_lz y j - 1)) % 121 = s at hcy hr
    have hs121 : s < 121 := by rw [← hs]; exact Nat.mod_lt _ (by decide)
    simp only [B_Lane_putTell_0, B_Lane_putTell_25, B_Lane_putTell_50, co_Lane_itemAt, co_Lane_slot, co_Row_set, i_ic, i_lc, i_nul, i_il, i_ll, i_al, i_is, i_as, i_ls, i_inc, i_iadd, i_isub, i_imul, i_iand, i_ior, i_ixor, i_idiv, i_irem, i_ishl, i_ishr, i_ladd, i_lsub, i_land, i_lor, i_i2l, i_lushr, i_lshl, i_lshr, i_lcmp, i_dup, i_pop, i_dx1, i_dup2, i_ifeq, i_ifne, i_iflt, i_ifge, i_ifgt, i_ifle, i_iceq, i_icne, i_iclt, i_icge, i_icgt, i_icle, i_ifn, i_gf, i_pf, i_ial, i_bal, i_lal, i_aal, i_ias, i_las, i_bas, i_aas, i_alen, i_newa, i_new, i_anew, i_cast, i_oi, i_call, i_callV, i_callV2, i_callI, i_iret, i_zret, i_lret, i_vret, i_aret, i_mmx, i_mmn, i_gsE, i_aceq, i_no, i_acq, i_sw, zsw, zlg, zls, znl, zfg, zcs, zsp, zrc, zisn, zft, zc1, zto, Value.category, List.set_cons_zero, List.set_cons_succ, List.length_cons, List.length_nil, Option.toList, List.nil_append, List.cons_append, true_and, and_true, Nat.add_zero, Nat.zero_le, Nat.zero_add, Nat.le_refl, Nat.reduceAdd, Nat.reduceLeDiff, co0, z0, zn_0, zn_1, zn_2, zn_3, zn_4, zn_5, zn_8, zn_12, zn_24, zn_121, zn_144, zn_256, zn_300, zn_600, zn_720, zn_1204, zn_1280, zn_2400, zn_4816, zn_14400, zn_90000, p_lane h1, x_lane]
    have e1 : nI (x_lz y j) - 1 = nI (x_lz y j - 1) := by
      obtain ⟨m, hm⟩ : ∃ m, x_lz y j = m + 1 := ⟨x_lz y j - 1, by omega⟩
      rw [hm, nI_pred]; rfl
    rw [e1]
    refine ⟨y, j, x_lz y j - 1, rfl, rfl, hoky, by omega, ?_⟩
    rw [hs]
    simp only [p_lane h1, x_lane, i_ic, i_lc, i_nul, i_il, i_ll, i_al, i_is, i_as, i_ls, i_inc, i_iadd, i_isub, i_imul, i_iand, i_ior, i_ixor, i_idiv, i_irem, i_ishl, i_ishr, i_ladd, i_lsub, i_land, i_lor, i_i2l, i_lushr, i_lshl, i_lshr, i_lcmp, i_dup, i_pop, i_dx1, i_dup2, i_ifeq, i_ifne, i_iflt, i_ifge, i_ifgt, i_ifle, i_iceq, i_icne, i_iclt, i_icge, i_icgt, i_icle, i_ifn, i_gf, i_pf, i_ial, i_bal, i_lal, i_aal, i_ias, i_las, i_bas, i_aas, i_alen, i_newa, i_new, i_anew, i_cast, i_oi, i_call, i_callV, i_callV2, i_callI, i_iret, i_zret, i_lret, i_vret, i_aret, i_mmx, i_mmn, i_gsE, i_aceq, i_no, i_acq, i_sw, zsw, zlg, zls, znl, zfg, zcs, zsp, zrc, zisn, zft, zc1, zto, Value.category, List.set_cons_zero, List.set_cons_succ, List.length_cons, List.length_nil, Option.toList, List.nil_append, List.cons_append, true_and, and_true, Nat.add_zero, Nat.zero_le, Nat.zero_add, Nat.le_refl, Nat.reduceAdd, Nat.reduceLeDiff, co0, z0, zn_0, zn_1, zn_2, zn_3, zn_4, zn_5, zn_8, zn_12, zn_24, zn_121, zn_144, zn_256, zn_300, zn_600, zn_720, zn_1204, zn_1280, zn_2400, zn_4816, zn_14400, zn_90000]
    refine ⟨if x_lr y j s = none then 2 else 0, if x_lr y j s = none then 6 else 0, ?_, ?_, y, j, s, rfl, rfl, h1, hs121, ?_, ?_⟩
    · split
      · next q => exact (hcy q).1
      · exact Nat.zero_le _
    · split
      · next q => exact (hcy q).2
      · exact Nat.zero_le _
    · intro q; rw [if_pos q, if_pos q]; decide
    · generalize hk1 : (if x_lr y j s = none then 2 else 0) = k1
      generalize hk2 : (if x_lr y j s = none then 6 else 0) = k2
      have hk1c : k1 ≤ c1 := by
        rw [← hk1]; split
        · next q => exact (hcy q).1
        · exact Nat.zero_le _
      have hk2c : k2 ≤ c2 := by
        rw [← hk2]; split
        · next q => exact (hcy q).2
        · exact Nat.zero_le _
      have hnl : j < x_nl (la_mk y j s) := by rw [nl_mk]; exact h1
      have er : x_rw (la_mk y j s) (4 + j) s = some (la_row y j s) := by rw [r_lr hnl hs121]; exact la_row_e y j s
      simp only [p_rowO er, i_ic, i_lc, i_nul, i_il, i_ll, i_al, i_is, i_as, i_ls, i_inc, i_iadd, i_isub, i_imul, i_iand, i_ior, i_ixor, i_idiv, i_irem, i_ishl, i_ishr, i_ladd, i_lsub, i_land, i_lor, i_i2l, i_lushr, i_lshl, i_lshr, i_lcmp, i_dup, i_pop, i_dx1, i_dup2, i_ifeq, i_ifne, i_iflt, i_ifge, i_ifgt, i_ifle, i_iceq, i_icne, i_iclt, i_icge, i_icgt, i_icle, i_ifn, i_gf, i_pf, i_ial, i_bal, i_lal, i_aal, i_ias, i_las, i_bas, i_aas, i_alen, i_newa, i_new, i_anew, i_cast, i_oi, i_call, i_callV, i_callV2, i_callI, i_iret, i_zret, i_lret, i_vret, i_aret, i_mmx, i_mmn, i_gsE, i_aceq, i_no, i_acq, i_sw, zsw, zlg, zls, znl, zfg, zcs, zsp, zrc, zisn, zft, zc1, zto, Value.category, List.set_cons_zero, List.set_cons_succ, List.length_cons, List.length_nil, Option.toList, List.nil_append, List.cons_append, true_and, and_true, Nat.add_zero, Nat.zero_le, Nat.zero_add, Nat.le_refl, Nat.reduceAdd, Nat.reduceLeDiff, co0, z0, zn_0, zn_1, zn_2, zn_3, zn_4, zn_5, zn_8, zn_12, zn_24, zn_121, zn_144, zn_256, zn_300, zn_600, zn_720, zn_1204, zn_1280, zn_2400, zn_4816, zn_14400, zn_90000]
      refine ⟨hk1c, hk2c, (5, 4 + j, s), (6, 4 + j, s), la_row y j s, (5, 0, 1), (6, 0, 1), x_me (la_mk y j s), rfl, m_k (by decide), by simp, p_row er, p_row (r_me _), ?_⟩
      rw [me_mk, pu_lr _ j s _ hnl hs121 (by rw [la_row_e]; simp)]
      generalize hy2 : u_lr (la_mk y j s) (va_u2 (x_lr (la_mk y j s)) j s (some (rw_set (la_row y j s) (x_me y)))) = y2
      have h12 : j < x_nl y2 := by rw [← hy2]; exact hnl
      have eme : x_me y2 = x_me y := by rw [← hy2, g_me_lr, me_mk]
      have elt : x_lt y2 = x_lt y := by rw [← hy2, g_lt_lr, lt_mk]
      simp only [p_lane h12, x_lane, p_rowO (r_lt h12), i_ic, i_lc, i_nul, i_il, i_ll, i_al, i_is, i_as, i_ls, i_inc, i_iadd, i_isub, i_imul, i_iand, i_ior, i_ixor, i_idiv, i_irem, i_ishl, i_ishr, i_ladd, i_lsub, i_land, i_lor, i_i2l, i_lushr, i_lshl, i_lshr, i_lcmp, i_dup, i_pop, i_dx1, i_dup2, i_ifeq, i_ifne, i_iflt, i_ifge, i_ifgt, i_ifle, i_iceq, i_icne, i_iclt, i_icge, i_icgt, i_icle, i_ifn, i_gf, i_pf, i_ial, i_bal, i_lal, i_aal, i_ias, i_las, i_bas, i_aas, i_alen, i_newa, i_new, i_anew, i_cast, i_oi, i_call, i_callV, i_callV2, i_callI, i_iret, i_zret, i_lret, i_vret, i_aret, i_mmx, i_mmn, i_gsE, i_aceq, i_no, i_acq, i_sw, zsw, zlg, zls, znl, zfg, zcs, zsp, zrc, zisn, zft, zc1, zto, Value.category, List.set_cons_zero, List.set_cons_succ, List.length_cons, List.length_nil, Option.toList, List.nil_append, List.cons_append, true_and, and_true, Nat.add_zero, Nat.zero_le, Nat.zero_add, Nat.le_refl, Nat.reduceAdd, Nat.reduceLeDiff, co0, z0, zn_0, zn_1, zn_2, zn_3, zn_4, zn_5, zn_8, zn_12, zn_24, zn_121, zn_144, zn_256, zn_300, zn_600, zn_720, zn_1204, zn_1280, zn_2400, zn_4816, zn_14400, zn_90000]
      refine ⟨hk1c, hk2c, (5, 2, j), (6, 2, j), x_lt y2 j, (5, 0, 1), (6, 0, 1), x_me y2, rfl, m_k (by decide), by simp, p_row (r_lt h12), p_row (r_me _), ?_⟩
      simp only [i_ic, i_lc, i_nul, i_il, i_ll, i_al, i_is, i_as, i_ls, i_inc, i_iadd, i_isub, i_imul, i_iand, i_ior, i_ixor, i_idiv, i_irem, i_ishl, i_ishr, i_ladd, i_lsub, i_land, i_lor, i_i2l, i_lushr, i_lshl, i_lshr, i_lcmp, i_dup, i_pop, i_dx1, i_dup2, i_ifeq, i_ifne, i_iflt, i_ifge, i_ifgt, i_ifle, i_iceq, i_icne, i_iclt, i_icge, i_icgt, i_icle, i_ifn, i_gf, i_pf, i_ial, i_bal, i_lal, i_aal, i_ias, i_las, i_bas, i_aas, i_alen, i_newa, i_new, i_anew, i_cast, i_oi, i_call, i_callV, i_callV2, i_callI, i_iret, i_zret, i_lret, i_vret, i_aret, i_mmx, i_mmn, i_gsE, i_aceq, i_no, i_acq, i_sw, zsw, zlg, zls, znl, zfg, zcs, zsp, zrc, zisn, zft, zc1, zto, Value.category, List.set_cons_zero, List.set_cons_succ, List.length_cons, List.length_nil, Option.toList, List.nil_append, List.cons_append, true_and, and_true, Nat.add_zero, Nat.zero_le, Nat.zero_add, Nat.le_refl, Nat.reduceAdd, Nat.reduceLeDiff, co0, z0, zn_0, zn_1, zn_2, zn_3, zn_4, zn_5, zn_8, zn_12, zn_24, zn_121, zn_144, zn_256, zn_300, zn_600, zn_720, zn_1204, zn_1280, zn_2400, zn_4816, zn_14400, zn_90000]
      refine ⟨hk1c, hk2c, ?_⟩
      rw [pu_lt y2 j _ h12, eme, elt, ← hy2]
      exact hr
  obtain ⟨h1, h2, h3⟩ := id hok
  refine s_Lane_putTell_0 hC _ _ _ _ _ ?_
  have f50 := fin
  simp only [B_Lane_putTell_0, B_Lane_putTell_25, B_Lane_putTell_50, co_Lane_itemAt, co_Lane_slot, co_Row_set, i_ic, i_lc, i_nul, i_il, i_ll, i_al, i_is, i_as, i_ls, i_inc, i_iadd, i_isub, i_imul, i_iand, i_ior, i_ixor, i_idiv, i_irem, i_ishl, i_ishr, i_ladd, i_lsub, i_land, i_lor, i_i2l, i_lushr, i_lshl, i_lshr, i_lcmp, i_dup, i_pop, i_dx1, i_dup2, i_ifeq, i_ifne, i_iflt, i_ifge, i_ifgt, i_ifle, i_iceq, i_icne, i_iclt, i_icge, i_icgt, i_icle, i_ifn, i_gf, i_pf, i_ial, i_bal, i_lal, i_aal, i_ias, i_las, i_bas, i_aas, i_alen, i_newa, i_new, i_anew, i_cast, i_oi, i_call, i_callV, i_callV2, i_callI, i_iret, i_zret, i_lret, i_vret, i_aret, i_mmx, i_mmn, i_gsE, i_aceq, i_no, i_acq, i_sw, zsw, zlg, zls, znl, zfg, zcs, zsp, zrc, zisn, zft, zc1, zto, Value.category, List.set_cons_zero, List.set_cons_succ, List.length_cons, List.length_nil, Option.toList, List.nil_append, List.cons_append, true_and, and_true, Nat.add_zero, Nat.zero_le, Nat.zero_add, Nat.le_refl, Nat.reduceAdd, Nat.reduceLeDiff, co0, z0, zn_0, zn_1, zn_2, zn_3, zn_4, zn_5, zn_8, zn_12, zn_24, zn_121, zn_144, zn_256, zn_300, zn_600, zn_720, zn_1204, zn_1280, zn_2400, zn_4816, zn_14400, zn_90000, p_lane h1, x_lane]
  refine ⟨x, j, _, rfl, rfl, hok, ?_⟩
  simp only [p_lane h1, x_lane, i_ic, i_lc, i_nul, i_il, i_ll, i_al, i_is, i_as, i_ls, i_inc, i_iadd, i_isub, i_imul, i_iand, i_ior, i_ixor, i_idiv, i_irem, i_ishl, i_ishr, i_ladd, i_lsub, i_land, i_lor, i_i2l, i_lushr, i_lshl, i_lshr, i_lcmp, i_dup, i_pop, i_dx1, i_dup2, i_ifeq, i_ifne, i_iflt, i_ifge, i_ifgt, i_ifle, i_iceq, i_icne, i_iclt, i_icge, i_icgt, i_icle, i_ifn, i_gf, i_pf, i_ial, i_bal, i_lal, i_aal, i_ias, i_las, i_bas, i_aas, i_alen, i_newa, i_new, i_anew, i_cast, i_oi, i_call, i_callV, i_callV2, i_callI, i_iret, i_zret, i_lret, i_vret, i_aret, i_mmx, i_mmn, i_gsE, i_aceq, i_no, i_acq, i_sw, zsw, zlg, zls, znl, zfg, zcs, zsp, zrc, zisn, zft, zc1, zto, Value.category, List.set_cons_zero, List.set_cons_succ, List.length_cons, List.length_nil, Option.toList, List.nil_append, List.cons_append, true_and, and_true, Nat.add_zero, Nat.zero_le, Nat.zero_add, Nat.le_refl, Nat.reduceAdd, Nat.reduceLeDiff, co0, z0, zn_0, zn_1, zn_2, zn_3, zn_4, zn_5, zn_8, zn_12, zn_24, zn_121, zn_144, zn_256, zn_300, zn_600, zn_720, zn_1204, zn_1280, zn_2400, zn_4816, zn_14400, zn_90000]
  refine ⟨fun hi => ?_, fun hi => ⟨fun hlt => ?_, fun hge => ?_⟩⟩
  · have hpos := la_item_lt hi
    have := f50 x hok hpos (fun q => hc (by unfold la_nw; rw [if_pos hi]; exact q)) (by unfold la_tell at hR; rw [if_pos hi] at hR; exact hR)
    simp only [B_Lane_putTell_0, B_Lane_putTell_25, B_Lane_putTell_50, co_Lane_itemAt, co_Lane_slot, co_Row_set, i_ic, i_lc, i_nul, i_il, i_ll, i_al, i_is, i_as, i_ls, i_inc, i_iadd, i_isub, i_imul, i_iand, i_ior, i_ixor, i_idiv, i_irem, i_ishl, i_ishr, i_ladd, i_lsub, i_land, i_lor, i_i2l, i_lushr, i_lshl, i_lshr, i_lcmp, i_dup, i_pop, i_dx1, i_dup2, i_ifeq, i_ifne, i_iflt, i_ifge, i_ifgt, i_ifle, i_iceq, i_icne, i_iclt, i_icge, i_icgt, i_icle, i_ifn, i_gf, i_pf, i_ial, i_bal, i_lal, i_aal, i_ias, i_las, i_bas, i_aas, i_alen, i_newa, i_new, i_anew, i_cast, i_oi, i_call, i_callV, i_callV2, i_callI, i_iret, i_zret, i_lret, i_vret, i_aret, i_mmx, i_mmn, i_gsE, i_aceq, i_no, i_acq, i_sw, zsw, zlg, zls, znl, zfg, zcs, zsp, zrc, zisn, zft, zc1, zto, Value.category, List.set_cons_zero, List.set_cons_succ, List.length_cons, List.length_nil, Option.toList, List.nil_append, List.cons_append, true_and, and_true, Nat.add_zero, Nat.zero_le, Nat.zero_add, Nat.le_refl, Nat.reduceAdd, Nat.reduceLeDiff, co0, z0, zn_0, zn_1, zn_2, zn_3, zn_4, zn_5, zn_8, zn_12, zn_24, zn_121, zn_144, zn_256, zn_300, zn_600, zn_720, zn_1204, zn_1280, zn_2400, zn_4816, zn_14400, zn_90000, p_lane h1, x_lane] at this
    exact this
  · have hlt := (nI_ltI (a := x_lz x j) (b := 121) (by omega) (by decide)).mp hlt
    refine ⟨x, j, x_lz x j, rfl, rfl, hok, by omega, ?_⟩
    simp only [p_item h1, i_ic, i_lc, i_nul, i_il, i_ll, i_al, i_is, i_as, i_ls, i_inc, i_iadd, i_isub, i_imul, i_iand, i_ior, i_ixor, i_idiv, i_irem, i_ishl, i_ishr, i_ladd, i_lsub, i_land, i_lor, i_i2l, i_lushr, i_lshl, i_lshr, i_lcmp, i_dup, i_pop, i_dx1, i_dup2, i_ifeq, i_ifne, i_iflt, i_ifge, i_ifgt, i_ifle, i_iceq, i_icne, i_iclt, i_icge, i_icgt, i_icle, i_ifn, i_gf, i_pf, i_ial, i_bal, i_lal, i_aal, i_ias, i_las, i_bas, i_aas, i_alen, i_newa, i_new, i_anew, i_cast, i_oi, i_call, i_callV, i_callV2, i_callI, i_iret, i_zret, i_lret, i_vret, i_aret, i_mmx, i_mmn, i_gsE, i_aceq, i_no, i_acq, i_sw, zsw, zlg, zls, znl, zfg, zcs, zsp, zrc, zisn, zft, zc1, zto, Value.category, List.set_cons_zero, List.set_cons_succ, List.length_cons, List.length_nil, Option.toList, List.nil_append, List.cons_append, true_and, and_true, Nat.add_zero, Nat.zero_le, Nat.zero_add, Nat.le_refl, Nat.reduceAdd, Nat.reduceLeDiff, co0, z0, zn_0, zn_1, zn_2, zn_3, zn_4, zn_5, zn_8, zn_12, zn_24, zn_121, zn_144, zn_256, zn_300, zn_600, zn_720, zn_1204, zn_1280, zn_2400, zn_4816, zn_14400, zn_90000]
    refine ⟨m_k (by decide), vp_in_nI (Nat.mod_lt _ (by decide)) (by decide), ?_⟩
    rw [nI_clamp (Nat.lt_trans (Nat.mod_lt _ (by decide)) (by decide)), pu_li x j _ h1]
    have h1' : j < x_nl (u_li x (va_up (x_li x) j (upd (x_li x j) ((x_lf x j + x_lz x j) % 121) (-2)))) := h1
    simp only [p_lane h1', x_lane, g_dk_li, g_lk_li, g_po_li, g_ne_li, g_td_li, g_nb_li, g_ln_li, g_nr_li, g_nw_li, g_nn_li, g_ns_li, g_or_li, g_ow_li, g_on_li, g_nl_li, g_ng_li, g_rg_li, g_lc_li, g_cp_li, g_gb_li, g_sp_li, g_kn_li, g_me_li, g_ob_li, g_fk_li, g_fz_li, g_fg_li, g_rd_li, g_rz_li, g_rh_li, g_nd_li, g_nm_li, g_nv_li, g_nh_li, g_nf_li, g_wr_li, g_wa_li, g_lz_li, g_lf_li, g_li_li, g_lt_li, g_lb_li, g_lr_li, g_tn_li, g_tf_li, i_ic, i_lc, i_nul, i_il, i_ll, i_al, i_is, i_as, i_ls, i_inc, i_iadd, i_isub, i_imul, i_iand, i_ior, i_ixor, i_idiv, i_irem, i_ishl, i_ishr, i_ladd, i_lsub, i_land, i_lor, i_i2l, i_lushr, i_lshl, i_lshr, i_lcmp, i_dup, i_pop, i_dx1, i_dup2, i_ifeq, i_ifne, i_iflt, i_ifge, i_ifgt, i_ifle, i_iceq, i_icne, i_iclt, i_icge, i_icgt, i_icle, i_ifn, i_gf, i_pf, i_ial, i_bal, i_lal, i_aal, i_ias, i_las, i_bas, i_aas, i_alen, i_newa, i_new, i_anew, i_cast, i_oi, i_call, i_callV, i_callV2, i_callI, i_iret, i_zret, i_lret, i_vret, i_aret, i_mmx, i_mmn, i_gsE, i_aceq, i_no, i_acq, i_sw, zsw, zlg, zls, znl, zfg, zcs, zsp, zrc, zisn, zft, zc1, zto, Value.category, List.set_cons_zero, List.set_cons_succ, List.length_cons, List.length_nil, Option.toList, List.nil_append, List.cons_append, true_and, and_true, Nat.add_zero, Nat.zero_le, Nat.zero_add, Nat.le_refl, Nat.reduceAdd, Nat.reduceLeDiff, co0, z0, zn_0, zn_1, zn_2, zn_3, zn_4, zn_5, zn_8, zn_12, zn_24, zn_121, zn_144, zn_256, zn_300, zn_600, zn_720, zn_1204, zn_1280, zn_2400, zn_4816, zn_14400, zn_90000]
    rw [nI_1]
    refine ⟨m_k (by decide), by decide, ?_⟩
    have e : zup (pic (u_li x (va_up (x_li x) j (upd (x_li x j) ((x_lf x j + x_lz x j) % 121) (-2))))) (16, j, 0) (.inr (2, [.inr (5, 2, j), .inr (5, 3, j), .inl (.int (nI (x_lz x j + 1))), .inr (17, j, 0), .inr (18, j, 0), .inl (.int (nI (x_lf x j)))])) = pic (la_push x j (-2)) := by
      refine Eq.trans ?_ (pu_lz (u_li x (va_up (x_li x) j (upd (x_li x j) ((x_lf x j + x_lz x j) % 121) (-2)))) j (x_lz x j + 1) h1')
      simp only [x_lane, g_dk_li, g_lk_li, g_po_li, g_ne_li, g_td_li, g_nb_li, g_ln_li, g_nr_li, g_nw_li, g_nn_li, g_ns_li, g_or_li, g_ow_li, g_on_li, g_nl_li, g_ng_li, g_rg_li, g_lc_li, g_cp_li, g_gb_li, g_sp_li, g_kn_li, g_me_li, g_ob_li, g_fk_li, g_fz_li, g_fg_li, g_rd_li, g_rz_li, g_rh_li, g_nd_li, g_nm_li, g_nv_li, g_nh_li, g_nf_li, g_wr_li, g_wa_li, g_lz_li, g_lf_li, g_li_li, g_lt_li, g_lb_li, g_lr_li, g_tn_li, g_tf_li, g_dk_lz, g_lk_lz, g_po_lz, g_ne_lz, g_td_lz, g_nb_lz, g_ln_lz, g_nr_lz, g_nw_lz, g_nn_lz, g_ns_lz, g_or_lz, g_ow_lz, g_on_lz, g_nl_lz, g_ng_lz, g_rg_lz, g_lc_lz, g_cp_lz, g_gb_lz, g_sp_lz, g_kn_lz, g_me_lz, g_ob_lz, g_fk_lz, g_fz_lz, g_fg_lz, g_rd_lz, g_rz_lz, g_rh_lz, g_nd_lz, g_nm_lz, g_nv_lz, g_nh_lz, g_nf_lz, g_wr_lz, g_wa_lz, g_lz_lz, g_lf_lz, g_li_lz, g_lt_lz, g_lb_lz, g_lr_lz, g_tn_lz, g_tf_lz, va_up, if_true]
    rw [e]
    have el : x_lf (la_push x j (-2)) j = x_lf x j := rfl
    have e5 : x_lf (la_push x j (-2)) j + (x_lz (la_push x j (-2)) j - 1) = x_lf x j + x_lz x j := by rw [el, lz_push]; rfl
    have := f50 (la_push x j (-2)) (ok_push hok hlt) (by rw [lz_push]; omega) (fun q => hc (by
      unfold la_nw; rw [if_neg hi]; rw [e5] at q; exact q)) (by
      unfold la_tell at hR; rw [if_neg hi, if_pos hlt] at hR; rw [e5]; exact hR)
    simp only [B_Lane_putTell_0, B_Lane_putTell_25, B_Lane_putTell_50, co_Lane_itemAt, co_Lane_slot, co_Row_set, i_ic, i_lc, i_nul, i_il, i_ll, i_al, i_is, i_as, i_ls, i_inc, i_iadd, i_isub, i_imul, i_iand, i_ior, i_ixor, i_idiv, i_irem, i_ishl, i_ishr, i_ladd, i_lsub, i_land, i_lor, i_i2l, i_lushr, i_lshl, i_lshr, i_lcmp, i_dup, i_pop, i_dx1, i_dup2, i_ifeq, i_ifne, i_iflt, i_ifge, i_ifgt, i_ifle, i_iceq, i_icne, i_iclt, i_icge, i_icgt, i_icle, i_ifn, i_gf, i_pf, i_ial, i_bal, i_lal, i_aal, i_ias, i_las, i_bas, i_aas, i_alen, i_newa, i_new, i_anew, i_cast, i_oi, i_call, i_callV, i_callV2, i_callI, i_iret, i_zret, i_lret, i_vret, i_aret, i_mmx, i_mmn, i_gsE, i_aceq, i_no, i_acq, i_sw, zsw, zlg, zls, znl, zfg, zcs, zsp, zrc, zisn, zft, zc1, zto, Value.category, List.set_cons_zero, List.set_cons_succ, List.length_cons, List.length_nil, Option.toList, List.nil_append, List.cons_append, true_and, and_true, Nat.add_zero, Nat.zero_le, Nat.zero_add, Nat.le_refl, Nat.reduceAdd, Nat.reduceLeDiff, co0, z0, zn_0, zn_1, zn_2, zn_3, zn_4, zn_5, zn_8, zn_12, zn_24, zn_121, zn_144, zn_256, zn_300, zn_600, zn_720, zn_1204, zn_1280, zn_2400, zn_4816, zn_14400, zn_90000] at this
    exact this
  · have hge := fun z => hge ((nI_ltI (a := x_lz x j) (b := 121) (by omega) (by decide)).mpr z)
    unfold la_tell at hR
    rw [if_neg hi, if_neg hge] at hR
    exact hR
end
section
/-! lanes: takeFirst, tells, clear -/
/-- the first item is taken away; a tell's row becomes the table -/
def la_take1 (x : zSt) (l : Nat) : zSt := if x_li x l (x_lf x l) = -2 then u_lb (la_mk x l (x_lf x l)) (va_up (x_lb x) l (rw_set (x_lb x l) (la_row x l (x_lf x l)))) else x
def la_take (x : zSt) (l : Nat) : zSt := u_lz (u_lf (la_take1 x l) (va_up (x_lf x) l ((x_lf x l + 1) % 121))) (va_up (x_lz x) l (x_lz x l - 1))
theorem nl_take1 (x : zSt) (l : Nat) : x_nl (la_take1 x l) = x_nl x := by unfold la_take1; split; (rw [g_nl_lb, nl_mk]); rfl
theorem lf_take1 (x : zSt) (l : Nat) : x_lf (la_take1 x l) = x_lf x := by unfold la_take1; split; (rw [g_lf_lb, lf_mk]); rfl
theorem lz_take1 (x : zSt) (l : Nat) : x_lz (la_take1 x l) = x_lz x := by unfold la_take1; split; (rw [g_lz_lb, lz_mk]); rfl
def T_Lane_takeFirst (As : List zAV) (M : zMp) (Rt : Option zAV → zMp → Prop) (c1 c2 : Nat) : Prop := ∃ x l, As = [.inr (16, l, 0)] ∧ M = pic x ∧ ln_ok x l ∧ (x_lz x l ≠ 0 → x_li x l (x_lf x l) = -2 → x_lr x l (x_lf x l) = none → 2 ≤ c1 ∧ 6 ≤ c2) ∧ (x_lz x l = 0 → Rt (some (.inl (.int (-1)))) (pic x)) ∧ (x_lz x l ≠ 0 → Rt (some (.inl (.int (x_li x l (x_lf x l))))) (pic (la_take x l)))
theorem dX1_takeFirst_0 : decode cX1_takeFirst 0 = .ok (.aload_n 0, 1) := by decide +kernel
theorem dX1_takeFirst_1 : decode cX1_takeFirst 1 = .ok (.getfield 21, 3) := by decide +kernel
theorem dX1_takeFirst_4 : decode cX1_takeFirst 4 = .ok (.ifCond .ne 5, 3) := by decide +kernel
theorem dX1_takeFirst_7 : decode cX1_takeFirst 7 = .ok (.iconst (-1), 1) := by decide +kernel
theorem dX1_takeFirst_8 : decode cX1_takeFirst 8 = .ok (.ireturn, 1) := by decide +kernel
theorem dX1_takeFirst_9 : decode cX1_takeFirst 9 = .ok (.aload_n 0, 1) := by decide +kernel
theorem dX1_takeFirst_10 : decode cX1_takeFirst 10 = .ok (.getfield 25, 3) := by decide +kernel
theorem dX1_takeFirst_13 : decode cX1_takeFirst 13 = .ok (.aload_n 0, 1) := by decide +kernel
theorem dX1_takeFirst_14 : decode cX1_takeFirst 14 = .ok (.getfield 33, 3) := by decide +kernel
theorem dX1_takeFirst_17 : decode cX1_takeFirst 17 = .ok (.iaload, 1) := by decide +kernel
theorem dX1_takeFirst_18 : decode cX1_takeFirst 18 = .ok (.istore_n 1, 1) := by decide +kernel
theorem dX1_takeFirst_19 : decode cX1_takeFirst 19 = .ok (.iload_n 1, 1) := by decide +kernel
theorem dX1_takeFirst_20 : decode cX1_takeFirst 20 = .ok (.bipush (-2), 2) := by decide +kernel
theorem dX1_takeFirst_22 : decode cX1_takeFirst 22 = .ok (.if_icmp .ne 18, 3) := by decide +kernel
theorem dX1_takeFirst_25 : decode cX1_takeFirst 25 = .ok (.aload_n 0, 1) := by decide +kernel
theorem dX1_takeFirst_26 : decode cX1_takeFirst 26 = .ok (.getfield 18, 3) := by decide +kernel
theorem dX1_takeFirst_29 : decode cX1_takeFirst 29 = .ok (.aload_n 0, 1) := by decide +kernel
theorem dX1_takeFirst_30 : decode cX1_takeFirst 30 = .ok (.aload_n 0, 1) := by decide +kernel
theorem dX1_takeFirst_31 : decode cX1_takeFirst 31 = .ok (.getfield 33, 3) := by decide +kernel
theorem dX1_takeFirst_34 : decode cX1_takeFirst 34 = .ok (.invokevirtual 43, 3) := by decide +kernel
theorem dX1_takeFirst_37 : decode cX1_takeFirst 37 = .ok (.invokevirtual 47, 3) := by decide +kernel
theorem dX1_takeFirst_40 : decode cX1_takeFirst 40 = .ok (.aload_n 0, 1) := by decide +kernel
theorem dX1_takeFirst_41 : decode cX1_takeFirst 41 = .ok (.aload_n 0, 1) := by decide +kernel
theorem dX1_takeFirst_42 : decode cX1_takeFirst 42 = .ok (.iconst 1, 1) := by decide +kernel
theorem dX1_takeFirst_43 : decode cX1_takeFirst 43 = .ok (.invokevirtual 36, 3) := by decide +kernel
theorem dX1_takeFirst_46 : decode cX1_takeFirst 46 = .ok (.putfield 33, 3) := by decide +kernel
theorem dX1_takeFirst_49 : decode cX1_takeFirst 49 = .ok (.aload_n 0, 1) := by decide +kernel
theorem dX1_takeFirst_50 : decode cX1_takeFirst 50 = .ok (.dup, 1) := by decide +kernel
theorem dX1_takeFirst_51 : decode cX1_takeFirst 51 = .ok (.getfield 21, 3) := by decide +kernel
theorem dX1_takeFirst_54 : decode cX1_takeFirst 54 = .ok (.iconst 1, 1) := by decide +kernel
theorem dX1_takeFirst_55 : decode cX1_takeFirst 55 = .ok (.isub, 1) := by decide +kernel
theorem dX1_takeFirst_56 : decode cX1_takeFirst 56 = .ok (.putfield 21, 3) := by decide +kernel
theorem dX1_takeFirst_59 : decode cX1_takeFirst 59 = .ok (.iload_n 1, 1) := by decide +kernel
theorem dX1_takeFirst_60 : decode cX1_takeFirst 60 = .ok (.ireturn, 1) := by decide +kernel
def B_Lane_takeFirst_40 (mc ms : Nat) (Rt : Option zAV → zMp → Prop) (g : Nat → zKT) : zKT :=
  (i_al 0 (i_al 0 (i_ic 1 (i_callV mc ms 2 2 T_Lane_slot co_Lane_slot (i_pf 2 5 .int (i_al 0 (i_dup (i_gf 2 2 (i_ic 1 (i_isub (i_pf 2 2 .int (i_il 1 (i_iret mc ms Rt)))))))))))))
set_option maxRecDepth 20000 in
theorem s_Lane_takeFirst_40 {X : zMa} {mc ms : Nat} {Rt : Option zAV → zMp → Prop} (hC : zCx X RX1 cX1_takeFirst 3 61 mc ms (some .int) false Rt) (hN : zNL X = 2) : zLe (B_Lane_takeFirst_40 mc ms Rt (zG X)) (zG X 40) :=
  (sd_al_n hC rfl dX1_takeFirst_40 ((sd_al_n hC rfl dX1_takeFirst_41 ((sd_iconst hC (by decide) dX1_takeFirst_42 ((sd_cV hC c_Lane_slot yv_Lane_slot (ci := 2) rfl rfl ml_Lane_36 (by decide) (by decide) dX1_takeFirst_43 ((sd_pf hC (ci := 2) (fk := 5) rfl wi_Lane tyX1 tyX1_ok nmX1 (by decide) fl_Lane_33 (Or.inl rfl) (Or.inl rfl) dX1_takeFirst_46 ((sd_al_n hC rfl dX1_takeFirst_49 ((sd_dup hC dX1_takeFirst_50 ((sd_gf hC (ci := 2) (fk := 2) rfl wi_Lane (by decide) fl_Lane_21 (Or.inl rfl) dX1_takeFirst_51 ((sd_iconst hC (by decide) dX1_takeFirst_54 ((sd_isub hC dX1_takeFirst_55 ((sd_pf hC (ci := 2) (fk := 2) rfl wi_Lane tyX1 tyX1_ok nmX1 (by decide) fl_Lane_21 (Or.inl rfl) (Or.inl rfl) dX1_takeFirst_56 ((sd_il_n hC rfl dX1_takeFirst_59 ((sd_iret hC dX1_takeFirst_60)))))))))))))))))))))))))
def B_Lane_takeFirst_9 (mc ms : Nat) (Rt : Option zAV → zMp → Prop) (g : Nat → zKT) : zKT :=
  (i_al 0 (i_gf 2 3 (i_al 0 (i_gf 2 5 (i_ial (i_is 1 (i_il 1 (i_ic (-2) (i_icne (B_Lane_takeFirst_40 mc ms Rt g) (i_al 0 (i_gf 2 1 (i_al 0 (i_al 0 (i_gf 2 5 (i_callV2 mc ms 2 2 T_Lane_rowAt (i_callV mc ms 5 2 T_Row_set co_Row_set (B_Lane_takeFirst_40 mc ms Rt g)))))))))))))))))
set_option maxRecDepth 20000 in
theorem s_Lane_takeFirst_9 {X : zMa} {mc ms : Nat} {Rt : Option zAV → zMp → Prop} (hC : zCx X RX1 cX1_takeFirst 3 61 mc ms (some .int) false Rt) (hN : zNL X = 2) : zLe (B_Lane_takeFirst_9 mc ms Rt (zG X)) (zG X 9) :=
  (sd_al_n hC rfl dX1_takeFirst_9 ((sd_gf hC (ci := 2) (fk := 3) rfl wi_Lane (by decide) fl_Lane_25 (Or.inl rfl) dX1_takeFirst_10 ((sd_al_n hC rfl dX1_takeFirst_13 ((sd_gf hC (ci := 2) (fk := 5) rfl wi_Lane (by decide) fl_Lane_33 (Or.inl rfl) dX1_takeFirst_14 ((sd_ial hC dX1_takeFirst_17 ((sd_is_n hC rfl (by rw [hN]; decide) dX1_takeFirst_18 ((sd_il_n hC rfl dX1_takeFirst_19 ((sd_bipush hC (by decide) dX1_takeFirst_20 ((sd_icne hC (tgt := 40) (by decide) dX1_takeFirst_22 (s_Lane_takeFirst_40 hC hN) ((sd_al_n hC rfl dX1_takeFirst_25 ((sd_gf hC (ci := 2) (fk := 1) rfl wi_Lane (by decide) fl_Lane_18 (Or.inl rfl) dX1_takeFirst_26 ((sd_al_n hC rfl dX1_takeFirst_29 ((sd_al_n hC rfl dX1_takeFirst_30 ((sd_gf hC (ci := 2) (fk := 5) rfl wi_Lane (by decide) fl_Lane_33 (Or.inl rfl) dX1_takeFirst_31 ((sd_cV2 hC c_Lane_rowAt yv_Lane_rowAt (ci := 2) rfl rfl ml_Lane_43 (by decide) (by decide) dX1_takeFirst_34 ((sd_cV hC c_Row_set yv_Row_set (ci := 5) rfl rfl ml_Lane_47 (by decide) (by decide) dX1_takeFirst_37 (s_Lane_takeFirst_40 hC hN))))))))))))))))))))))))))))))))
def B_Lane_takeFirst_0 (mc ms : Nat) (Rt : Option zAV → zMp → Prop) (g : Nat → zKT) : zKT :=
  (i_al 0 (i_gf 2 2 (i_ifne (B_Lane_takeFirst_9 mc ms Rt g) (i_ic (-1) (i_iret mc ms Rt)))))
set_option maxRecDepth 20000 in
theorem s_Lane_takeFirst_0 {X : zMa} {mc ms : Nat} {Rt : Option zAV → zMp → Prop} (hC : zCx X RX1 cX1_takeFirst 3 61 mc ms (some .int) false Rt) (hN : zNL X = 2) : zLe (B_Lane_takeFirst_0 mc ms Rt (zG X)) (zG X 0) :=
  (sd_al_n hC rfl dX1_takeFirst_0 ((sd_gf hC (ci := 2) (fk := 2) rfl wi_Lane (by decide) fl_Lane_21 (Or.inl rfl) dX1_takeFirst_1 ((sd_ifne hC (tgt := 9) (by decide) dX1_takeFirst_4 (s_Lane_takeFirst_9 hC hN) ((sd_iconst hC (by decide) dX1_takeFirst_7 ((sd_iret hC dX1_takeFirst_8)))))))))
theorem c_Lane_takeFirst (l : Launch) : zCT2 l yX1_takeFirst cX1_takeFirst 2 (some .int) 3 61 T_Lane_takeFirst := by
  intro As M Rt c1 c2 hT
  obtain ⟨x, j, rfl, rfl, hok, hc, hR0, hR1⟩ := hT
  obtain ⟨h1, h2, h3⟩ := id hok
  refine zMet_of false (by decide +kernel) (fun h => by first | rfl | cases h) (Nat.le_of_ble_eq_true rfl) (fun X hN hC => ?_)
  show zG X 0 [some (.inr (16, j, 0)), none] [] (pic x) 0 0
  -- from 40 on
  have fin : ∀ y : zSt, ln_ok y j → x_lf y j = x_lf x j → x_lz y j = x_lz x j → 0 < x_lz x j → y = la_take1 x j → ∀ k1 k2, k1 ≤ c1 → k2 ≤ c2 → B_Lane_takeFirst_40 c1 c2 Rt (zG X) [some (.inr (16, j, 0)), some (.inl (.int (x_li x j (x_lf x j))))] [] (pic y) k1 k2 := by
    intro y hoky ef ez hpos hy k1 k2 hk1 hk2
    obtain ⟨g1, g2, g3⟩ := id hoky
    simp only [B_Lane_takeFirst_0, B_Lane_takeFirst_9, B_Lane_takeFirst_40, co_Lane_slot, co_Row_set, i_ic, i_lc, i_nul, i_il, i_ll, i_al, i_is, i_as, i_ls, i_inc, i_iadd, i_isub, i_imul, i_iand, i_ior, i_ixor, i_idiv, i_irem, i_ishl, i_ishr, i_ladd, i_lsub, i_land, i_lor, i_i2l, i_lushr, i_lshl, i_lshr, i_lcmp, i_dup, i_pop, i_dx1, i_dup2, i_ifeq, i_ifne, i_iflt, i_ifge, i_ifgt, i_ifle, i_iceq, i_icne, i_iclt, i_icge, i_icgt, i_icle, i_ifn, i_gf, i_pf, i_ial, i_bal, i_lal, i_aal, i_ias, i_las, i_bas, i_aas, i_alen, i_newa, i_new, i_anew, i_cast, i_oi, i_call, i_callV, i_callV2, i_callI, i_iret, i_zret, i_lret, i_vret, i_aret, i_mmx, i_mmn, i_gsE, i_aceq, i_no, i_acq, i_sw, zsw, zlg, zls, znl, zfg, zcs, zsp, zrc, zisn, zft, zc1, zto, Value.category, List.set_cons_zero, List.set_cons_succ, List.length_cons, List.length_nil, Option.toList, List.nil_append, List.cons_append, true_and, and_true, Nat.add_zero, Nat.zero_le, Nat.zero_add, Nat.le_refl, Nat.reduceAdd, Nat.reduceLeDiff, co0, z0, zn_0, zn_1, zn_2, zn_3, zn_4, zn_5, zn_8, zn_12, zn_24, zn_121, zn_144, zn_256, zn_300, zn_600, zn_720, zn_1204, zn_1280, zn_2400, zn_4816, zn_14400, zn_90000, p_lane g1, x_lane]
    refine ⟨hk1, hk2, y, j, 1, rfl, rfl, hoky, by decide, ?_⟩
    simp only [p_lane g1, x_lane, i_ic, i_lc, i_nul, i_il, i_ll, i_al, i_is, i_as, i_ls, i_inc, i_iadd, i_isub, i_imul, i_iand, i_ior, i_ixor, i_idiv, i_irem, i_ishl, i_ishr, i_ladd, i_lsub, i_land, i_lor, i_i2l, i_lushr, i_lshl, i_lshr, i_lcmp, i_dup, i_pop, i_dx1, i_dup2, i_ifeq, i_ifne, i_iflt, i_ifge, i_ifgt, i_ifle, i_iceq, i_icne, i_iclt, i_icge, i_icgt, i_icle, i_ifn, i_gf, i_pf, i_ial, i_bal, i_lal, i_aal, i_ias, i_las, i_bas, i_aas, i_alen, i_newa, i_new, i_anew, i_cast, i_oi, i_call, i_callV, i_callV2, i_callI, i_iret, i_zret, i_lret, i_vret, i_aret, i_mmx, i_mmn, i_gsE, i_aceq, i_no, i_acq, i_sw, zsw, zlg, zls, znl, zfg, zcs, zsp, zrc, zisn, zft, zc1, zto, Value.category, List.set_cons_zero, List.set_cons_succ, List.length_cons, List.length_nil, Option.toList, List.nil_append, List.cons_append, true_and, and_true, Nat.add_zero, Nat.zero_le, Nat.zero_add, Nat.le_refl, Nat.reduceAdd, Nat.reduceLeDiff, co0, z0, zn_0, zn_1, zn_2, zn_3, zn_4, zn_5, zn_8, zn_12, zn_24, zn_121, zn_144, zn_256, zn_300, zn_600, zn_720, zn_1204, zn_1280, zn_2400, zn_4816, zn_14400, zn_90000]
    refine ⟨m_k (by decide), by decide, ?_⟩
    have e : zup (pic y) (16, j, 0) (.inr (2, [.inr (5, 2, j), .inr (5, 3, j), .inl (.int (nI (x_lz y j))), .inr (17, j, 0), .inr (18, j, 0), .inl (.int (nI ((x_lf y j + 1) % 121)))])) = pic (u_lf y (va_up (x_lf y) j ((x_lf y j + 1) % 121))) := by
      refine Eq.trans ?_ (pu_lf y j _ g1)
      simp only [x_lane, g_dk_lf, g_lk_lf, g_po_lf, g_ne_lf, g_td_lf, g_nb_lf, g_ln_lf, g_nr_lf, g_nw_lf, g_nn_lf, g_ns_lf, g_or_lf, g_ow_lf, g_on_lf, g_nl_lf, g_ng_lf, g_rg_lf, g_lc_lf, g_cp_lf, g_gb_lf, g_sp_lf, g_kn_lf, g_me_lf, g_ob_lf, g_fk_lf, g_fz_lf, g_fg_lf, g_rd_lf, g_rz_lf, g_rh_lf, g_nd_lf, g_nm_lf, g_nv_lf, g_nh_lf, g_nf_lf, g_wr_lf, g_wa_lf, g_lz_lf, g_lf_lf, g_li_lf, g_lt_lf, g_lb_lf, g_lr_lf, g_tn_lf, g_tf_lf, va_up, if_true]
    rw [e]
    have g1' : j < x_nl (u_lf y (va_up (x_lf y) j ((x_lf y j + 1) % 121))) := g1
    simp only [p_lane g1', x_lane, g_dk_lf, g_lk_lf, g_po_lf, g_ne_lf, g_td_lf, g_nb_lf, g_ln_lf, g_nr_lf, g_nw_lf, g_nn_lf, g_ns_lf, g_or_lf, g_ow_lf, g_on_lf, g_nl_lf, g_ng_lf, g_rg_lf, g_lc_lf, g_cp_lf, g_gb_lf, g_sp_lf, g_kn_lf, g_me_lf, g_ob_lf, g_fk_lf, g_fz_lf, g_fg_lf, g_rd_lf, g_rz_lf, g_rh_lf, g_nd_lf, g_nm_lf, g_nv_lf, g_nh_lf, g_nf_lf, g_wr_lf, g_wa_lf, g_lz_lf, g_lf_lf, g_li_lf, g_lt_lf, g_lb_lf, g_lr_lf, g_tn_lf, g_tf_lf, va_up, if_true, i_ic, i_lc, i_nul, i_il, i_ll, i_al, i_is, i_as, i_ls, i_inc, i_iadd, i_isub, i_imul, i_iand, i_ior, i_ixor, i_idiv, i_irem, i_ishl, i_ishr, i_ladd, i_lsub, i_land, i_lor, i_i2l, i_lushr, i_lshl, i_lshr, i_lcmp, i_dup, i_pop, i_dx1, i_dup2, i_ifeq, i_ifne, i_iflt, i_ifge, i_ifgt, i_ifle, i_iceq, i_icne, i_iclt, i_icge, i_icgt, i_icle, i_ifn, i_gf, i_pf, i_ial, i_bal, i_lal, i_aal, i_ias, i_las, i_bas, i_aas, i_alen, i_newa, i_new, i_anew, i_cast, i_oi, i_call, i_callV, i_callV2, i_callI, i_iret, i_zret, i_lret, i_vret, i_aret, i_mmx, i_mmn, i_gsE, i_aceq, i_no, i_acq, i_sw, zsw, zlg, zls, znl, zfg, zcs, zsp, zrc, zisn, zft, zc1, zto, Value.category, List.set_cons_zero, List.set_cons_succ, List.length_cons, List.length_nil, Option.toList, List.nil_append, List.cons_append, true_and, and_true, Nat.add_zero, Nat.zero_le, Nat.zero_add, Nat.le_refl, Nat.reduceAdd, Nat.reduceLeDiff, co0, z0, zn_0, zn_1, zn_2, zn_3, zn_4, zn_5, zn_8, zn_12, zn_24, zn_121, zn_144, zn_256, zn_300, zn_600, zn_720, zn_1204, zn_1280, zn_2400, zn_4816, zn_14400, zn_90000]
    refine ⟨m_k (by decide), by decide, hk1, hk2, ?_⟩
    have e1 : nI (x_lz y j) - 1 = nI (x_lz y j - 1) := by
      obtain ⟨m, hm⟩ : ∃ m, x_lz y j = m + 1 := ⟨x_lz y j - 1, by omega⟩
      rw [hm, nI_pred]; rfl
    rw [e1]
    refine zM (P := Rt _) ?_ (hR1 (by omega))
    have e2 := pu_lz (u_lf y (va_up (x_lf y) j ((x_lf y j + 1) % 121))) j (x_lz y j - 1) g1'
    have e3 : la_take x j = u_lz (u_lf y (va_up (x_lf y) j ((x_lf y j + 1) % 121))) (va_up (x_lz (u_lf y (va_up (x_lf y) j ((x_lf y j + 1) % 121)))) j (x_lz y j - 1)) := by
      rw [g_lz_lf, hy, lf_take1, lz_take1]; rfl
    rw [e3, ← e2]
    simp only [x_lane, g_dk_lf, g_lk_lf, g_po_lf, g_ne_lf, g_td_lf, g_nb_lf, g_ln_lf, g_nr_lf, g_nw_lf, g_nn_lf, g_ns_lf, g_or_lf, g_ow_lf, g_on_lf, g_nl_lf, g_ng_lf, g_rg_lf, g_lc_lf, g_cp_lf, g_gb_lf, g_sp_lf, g_kn_lf, g_me_lf, g_ob_lf, g_fk_lf, g_fz_lf, g_fg_lf, g_rd_lf, g_rz_lf, g_rh_lf, g_nd_lf, g_nm_lf, g_nv_lf, g_nh_lf, g_nf_lf, g_wr_lf, g_wa_lf, g_lz_lf, g_lf_lf, g_li_lf, g_lt_lf, g_lb_lf, g_lr_lf, g_tn_lf, g_tf_lf, g_dk_lz, g_lk_lz, g_po_lz, g_ne_lz, g_td_lz, g_nb_lz, g_ln_lz, g_nr_lz, g_nw_lz, g_nn_lz, g_ns_lz, g_or_lz, g_ow_lz, g_on_lz, g_nl_lz, g_ng_lz, g_rg_lz, g_lc_lz, g_cp_lz, g_gb_lz, g_sp_lz, g_kn_lz, g_me_lz, g_ob_lz, g_fk_lz, g_fz_lz, g_fg_lz, g_rd_lz, g_rz_lz, g_rh_lz, g_nd_lz, g_nm_lz, g_nv_lz, g_nh_lz, g_nf_lz, g_wr_lz, g_wa_lz, g_lz_lz, g_lf_lz, g_li_lz, g_lt_lz, g_lb_lz, g_lr_lz, g_tn_lz, g_tf_lz, va_up, if_true]
  refine s_Lane_takeFirst_0 hC hN _ _ _ _ _ ?_
  have f40 := fin
  simp only [B_Lane_takeFirst_0, B_Lane_takeFirst_9, B_Lane_takeFirst_40, co_Lane_slot, co_Row_set, i_ic, i_lc, i_nul, i_il, i_ll, i_al, i_is, i_as, i_ls, i_inc, i_iadd, i_isub, i_imul, i_iand, i_ior, i_ixor, i_idiv, i_irem, i_ishl, i_ishr, i_ladd, i_lsub, i_land, i_lor, i_i2l, i_lushr, i_lshl, i_lshr, i_lcmp, i_dup, i_pop, i_dx1, i_dup2, i_ifeq, i_ifne, i_iflt, i_ifge, i_ifgt, i_ifle, i_iceq, i_icne, i_iclt, i_icge, i_icgt, i_icle, i_ifn, i_gf, i_pf, i_ial, i_bal, i_lal, i_aal, i_ias, i_las, i_bas, i_aas, i_alen, i_newa, i_new, i_anew, i_cast, i_oi, i_call, i_callV, i_callV2, i_callI, i_iret, i_zret, i_lret, i_vret, i_aret, i_mmx, i_mmn, i_gsE, i_aceq, i_no, i_acq, i_sw, zsw, zlg, zls, znl, zfg, zcs, zsp, zrc, zisn, zft, zc1, zto, Value.category, List.set_cons_zero, List.set_cons_succ, List.length_cons, List.length_nil, Option.toList, List.nil_append, List.cons_append, true_and, and_true, Nat.add_zero, Nat.zero_le, Nat.zero_add, Nat.le_refl, Nat.reduceAdd, Nat.reduceLeDiff, co0, z0, zn_0, zn_1, zn_2, zn_3, zn_4, zn_5, zn_8, zn_12, zn_24, zn_121, zn_144, zn_256, zn_300, zn_600, zn_720, zn_1204, zn_1280, zn_2400, zn_4816, zn_14400, zn_90000, p_lane h1, p_item h1, x_lane]
  refine ⟨fun hz => ?_, fun hz => hR0 ((nI_z (by omega)).mp hz)⟩
  have hz : x_lz x j ≠ 0 := fun q => hz ((nI_z (by omega)).mpr q)
  refine ⟨vp_in_nI h3 (by decide), ?_⟩
  rw [nI_clamp (by omega)]
  refine ⟨fun hi => ?_, fun hi => ?_⟩
  · have e0 : x = la_take1 x j := by unfold la_take1; rw [if_neg hi]
    have := f40 x hok rfl rfl (by omega) e0 0 0 (Nat.zero_le _) (Nat.zero_le _)
    simp only [B_Lane_takeFirst_0, B_Lane_takeFirst_9, B_Lane_takeFirst_40, co_Lane_slot, co_Row_set, i_ic, i_lc, i_nul, i_il, i_ll, i_al, i_is, i_as, i_ls, i_inc, i_iadd, i_isub, i_imul, i_iand, i_ior, i_ixor, i_idiv, i_irem, i_ishl, i_ishr, i_ladd, i_lsub, i_land, i_lor, i_i2l, i_lushr, i_lshl, i_lshr, i_lcmp, i_dup, i_pop, i_dx1, i_dup2, i_ifeq, i_ifne, i_iflt, i_ifge, i_ifgt, i_ifle, i_iceq, i_icne, i_iclt, i_icge, i_icgt, i_icle, i_ifn, i_gf, i_pf, i_ial, i_bal, i_lal, i_aal, i_ias, i_las, i_bas, i_aas, i_alen, i_newa, i_new, i_anew, i_cast, i_oi, i_call, i_callV, i_callV2, i_callI, i_iret, i_zret, i_lret, i_vret, i_aret, i_mmx, i_mmn, i_gsE, i_aceq, i_no, i_acq, i_sw, zsw, zlg, zls, znl, zfg, zcs, zsp, zrc, zisn, zft, zc1, zto, Value.category, List.set_cons_zero, List.set_cons_succ, List.length_cons, List.length_nil, Option.toList, List.nil_append, List.cons_append, true_and, and_true, Nat.add_zero, Nat.zero_le, Nat.zero_add, Nat.le_refl, Nat.reduceAdd, Nat.reduceLeDiff, co0, z0, zn_0, zn_1, zn_2, zn_3, zn_4, zn_5, zn_8, zn_12, zn_24, zn_121, zn_144, zn_256, zn_300, zn_600, zn_720, zn_1204, zn_1280, zn_2400, zn_4816, zn_14400, zn_90000, p_lane h1, x_lane] at this
    exact this
  · have hcc := hc hz hi
    refine ⟨if x_lr x j (x_lf x j) = none then 2 else 0, if x_lr x j (x_lf x j) = none then 6 else 0, ?_⟩
    generalize hk1 : (if x_lr x j (x_lf x j) = none then 2 else 0) = k1
    generalize hk2 : (if x_lr x j (x_lf x j) = none then 6 else 0) = k2
    have hk1c : k1 ≤ c1 := by
      rw [← hk1]; split
      · next q => exact (hcc q).1
      · exact Nat.zero_le _
    have hk2c : k2 ≤ c2 := by
      rw [← hk2]; split
      · next q => exact (hcc q).2
      · exact Nat.zero_le _
    refine ⟨hk1c, hk2c, x, j, x_lf x j, rfl, rfl, h1, h3, ?_, ?_⟩
    · intro q; rw [← hk1, ← hk2, if_pos q, if_pos q]; decide
    · have hnl : j < x_nl (la_mk x j (x_lf x j)) := by rw [nl_mk]; exact h1
      have er : x_rw (la_mk x j (x_lf x j)) (4 + j) (x_lf x j) = some (la_row x j (x_lf x j)) := by rw [r_lr hnl h3]; exact la_row_e x j (x_lf x j)
      simp only [p_rowO (r_lb hnl), i_ic, i_lc, i_nul, i_il, i_ll, i_al, i_is, i_as, i_ls, i_inc, i_iadd, i_isub, i_imul, i_iand, i_ior, i_ixor, i_idiv, i_irem, i_ishl, i_ishr, i_ladd, i_lsub, i_land, i_lor, i_i2l, i_lushr, i_lshl, i_lshr, i_lcmp, i_dup, i_pop, i_dx1, i_dup2, i_ifeq, i_ifne, i_iflt, i_ifge, i_ifgt, i_ifle, i_iceq, i_icne, i_iclt, i_icge, i_icgt, i_icle, i_ifn, i_gf, i_pf, i_ial, i_bal, i_lal, i_aal, i_ias, i_las, i_bas, i_aas, i_alen, i_newa, i_new, i_anew, i_cast, i_oi, i_call, i_callV, i_callV2, i_callI, i_iret, i_zret, i_lret, i_vret, i_aret, i_mmx, i_mmn, i_gsE, i_aceq, i_no, i_acq, i_sw, zsw, zlg, zls, znl, zfg, zcs, zsp, zrc, zisn, zft, zc1, zto, Value.category, List.set_cons_zero, List.set_cons_succ, List.length_cons, List.length_nil, Option.toList, List.nil_append, List.cons_append, true_and, and_true, Nat.add_zero, Nat.zero_le, Nat.zero_add, Nat.le_refl, Nat.reduceAdd, Nat.reduceLeDiff, co0, z0, zn_0, zn_1, zn_2, zn_3, zn_4, zn_5, zn_8, zn_12, zn_24, zn_121, zn_144, zn_256, zn_300, zn_600, zn_720, zn_1204, zn_1280, zn_2400, zn_4816, zn_14400, zn_90000]
      refine ⟨hk1c, hk2c, (5, 3, j), (6, 3, j), x_lb (la_mk x j (x_lf x j)) j, (5, 4 + j, x_lf x j), (6, 4 + j, x_lf x j), la_row x j (x_lf x j), rfl, m_k (by decide), by intro q; simp only [Prod.mk.injEq] at q; omega, p_row (r_lb hnl), p_row er, ?_⟩
      rw [pu_lb _ j _ hnl, lb_mk]
      have ey : u_lb (la_mk x j (x_lf x j)) (va_up (x_lb x) j (rw_set (x_lb x j) (la_row x j (x_lf x j)))) = la_take1 x j := by unfold la_take1; rw [if_pos hi]
      rw [ey]
      have hokt : ln_ok (la_take1 x j) j := by
        refine ⟨by rw [nl_take1]; exact h1, by rw [lz_take1]; exact h2, by rw [lf_take1]; exact h3⟩
      have := f40 (la_take1 x j) hokt (by rw [lf_take1]) (by rw [lz_take1]) (by omega) rfl k1 k2 hk1c hk2c
      simp only [B_Lane_takeFirst_0, B_Lane_takeFirst_9, B_Lane_takeFirst_40, co_Lane_slot, co_Row_set, i_ic, i_lc, i_nul, i_il, i_ll, i_al, i_is, i_as, i_ls, i_inc, i_iadd, i_isub, i_imul, i_iand, i_ior, i_ixor, i_idiv, i_irem, i_ishl, i_ishr, i_ladd, i_lsub, i_land, i_lor, i_i2l, i_lushr, i_lshl, i_lshr, i_lcmp, i_dup, i_pop, i_dx1, i_dup2, i_ifeq, i_ifne, i_iflt, i_ifge, i_ifgt, i_ifle, i_iceq, i_icne, i_iclt, i_icge, i_icgt, i_icle, i_ifn, i_gf, i_pf, i_ial, i_bal, i_lal, i_aal, i_ias, i_las, i_bas, i_aas, i_alen, i_newa, i_new, i_anew, i_cast, i_oi, i_call, i_callV, i_callV2, i_callI, i_iret, i_zret, i_lret, i_vret, i_aret, i_mmx, i_mmn, i_gsE, i_aceq, i_no, i_acq, i_sw, zsw, zlg, zls, znl, zfg, zcs, zsp, zrc, zisn, zft, zc1, zto, Value.category, List.set_cons_zero, List.set_cons_succ, List.length_cons, List.length_nil, Option.toList, List.nil_append, List.cons_append, true_and, and_true, Nat.add_zero, Nat.zero_le, Nat.zero_add, Nat.le_refl, Nat.reduceAdd, Nat.reduceLeDiff, co0, z0, zn_0, zn_1, zn_2, zn_3, zn_4, zn_5, zn_8, zn_12, zn_24, zn_121, zn_144, zn_256, zn_300, zn_600, zn_720, zn_1204, zn_1280, zn_2400, zn_4816, zn_14400, zn_90000] at this
      simp only [i_ic, i_lc, i_nul, i_il, i_ll, i_al, i_is, i_as, i_ls, i_inc, i_iadd, i_isub, i_imul, i_iand, i_ior, i_ixor, i_idiv, i_irem, i_ishl, i_ishr, i_ladd, i_lsub, i_land, i_lor, i_i2l, i_lushr, i_lshl, i_lshr, i_lcmp, i_dup, i_pop, i_dx1, i_dup2, i_ifeq, i_ifne, i_iflt, i_ifge, i_ifgt, i_ifle, i_iceq, i_icne, i_iclt, i_icge, i_icgt, i_icle, i_ifn, i_gf, i_pf, i_ial, i_bal, i_lal, i_aal, i_ias, i_las, i_bas, i_aas, i_alen, i_newa, i_new, i_anew, i_cast, i_oi, i_call, i_callV, i_callV2, i_callI, i_iret, i_zret, i_lret, i_vret, i_aret, i_mmx, i_mmn, i_gsE, i_aceq, i_no, i_acq, i_sw, zsw, zlg, zls, znl, zfg, zcs, zsp, zrc, zisn, zft, zc1, zto, Value.category, List.set_cons_zero, List.set_cons_succ, List.length_cons, List.length_nil, Option.toList, List.nil_append, List.cons_append, true_and, and_true, Nat.add_zero, Nat.zero_le, Nat.zero_add, Nat.le_refl, Nat.reduceAdd, Nat.reduceLeDiff, co0, z0, zn_0, zn_1, zn_2, zn_3, zn_4, zn_5, zn_8, zn_12, zn_24, zn_121, zn_144, zn_256, zn_300, zn_600, zn_720, zn_1204, zn_1280, zn_2400, zn_4816, zn_14400, zn_90000]
      exact this
/-- how many of the first n items are tells -/
def la_tl (x : zSt) (l : Nat) : Nat → Nat
  | 0 => 0
  | n + 1 => la_tl x l n + (if la_at x l n = -2 then 1 else 0)
theorem la_tl_le (x : zSt) (l : Nat) : ∀ n, la_tl x l n ≤ n
  | 0 => Nat.le_refl _
  | n + 1 => by
    have := la_tl_le x l n
    simp only [la_tl]
    split <;> omega
def T_Lane_tells (As : List zAV) (M : zMp) (Rt : Option zAV → zMp → Prop) : Prop := ∃ x l, As = [.inr (16, l, 0)] ∧ M = pic x ∧ ln_ok x l ∧ Rt (some (.inl (.int (nI (la_tl x l (x_lz x l)))))) (pic x)
abbrev co_Lane_tells := co0
theorem dX1_tells_0 : decode cX1_tells 0 = .ok (.iconst 0, 1) := by decide +kernel
theorem dX1_tells_1 : decode cX1_tells 1 = .ok (.istore_n 1, 1) := by decide +kernel
theorem dX1_tells_2 : decode cX1_tells 2 = .ok (.iconst 0, 1) := by decide +kernel
theorem dX1_tells_3 : decode cX1_tells 3 = .ok (.istore_n 2, 1) := by decide +kernel
theorem dX1_tells_4 : decode cX1_tells 4 = .ok (.iload_n 2, 1) := by decide +kernel
theorem dX1_tells_5 : decode cX1_tells 5 = .ok (.aload_n 0, 1) := by decide +kernel
theorem dX1_tells_6 : decode cX1_tells 6 = .ok (.getfield 21, 3) := by decide +kernel
theorem dX1_tells_9 : decode cX1_tells 9 = .ok (.if_icmp .ge 22, 3) := by decide +kernel
theorem dX1_tells_12 : decode cX1_tells 12 = .ok (.aload_n 0, 1) := by decide +kernel
theorem dX1_tells_13 : decode cX1_tells 13 = .ok (.iload_n 2, 1) := by decide +kernel
theorem dX1_tells_14 : decode cX1_tells 14 = .ok (.invokevirtual 40, 3) := by decide +kernel
theorem dX1_tells_17 : decode cX1_tells 17 = .ok (.bipush (-2), 2) := by decide +kernel
theorem dX1_tells_19 : decode cX1_tells 19 = .ok (.if_icmp .ne 6, 3) := by decide +kernel
theorem dX1_tells_22 : decode cX1_tells 22 = .ok (.iinc 1 1, 3) := by decide +kernel
theorem dX1_tells_25 : decode cX1_tells 25 = .ok (.iinc 2 1, 3) := by decide +kernel
theorem dX1_tells_28 : decode cX1_tells 28 = .ok (.goto (-24), 3) := by decide +kernel
theorem dX1_tells_31 : decode cX1_tells 31 = .ok (.iload_n 1, 1) := by decide +kernel
theorem dX1_tells_32 : decode cX1_tells 32 = .ok (.ireturn, 1) := by decide +kernel
def B_Lane_tells_31 (mc ms : Nat) (Rt : Option zAV → zMp → Prop) (g : Nat → zKT) : zKT :=
  (i_il 1 (i_iret mc ms Rt))
set_option maxRecDepth 20000 in
theorem s_Lane_tells_31 {X : zMa} {mc ms : Nat} {Rt : Option zAV → zMp → Prop} (hC : zCx X RX1 cX1_tells 2 42 mc ms (some .int) false Rt) (hN : zNL X = 3) : zLe (B_Lane_tells_31 mc ms Rt (zG X)) (zG X 31) :=
  (sd_il_n hC rfl dX1_tells_31 ((sd_iret hC dX1_tells_32)))
def B_Lane_tells_25 (mc ms : Nat) (Rt : Option zAV → zMp → Prop) (g : Nat → zKT) : zKT :=
  (i_inc 2 1 (g 4))
set_option maxRecDepth 20000 in
theorem s_Lane_tells_25 {X : zMa} {mc ms : Nat} {Rt : Option zAV → zMp → Prop} (hC : zCx X RX1 cX1_tells 2 42 mc ms (some .int) false Rt) (hN : zNL X = 3) : zLe (B_Lane_tells_25 mc ms Rt (zG X)) (zG X 25) :=
  (sd_inc hC (by decide) (by rw [hN]; decide) dX1_tells_25 ((sd_goto hC (tgt := 4) (by decide) dX1_tells_28 (zLe_rfl))))
def B_Lane_tells_4 (mc ms : Nat) (Rt : Option zAV → zMp → Prop) (g : Nat → zKT) : zKT :=
  (i_il 2 (i_al 0 (i_gf 2 2 (i_icge (B_Lane_tells_31 mc ms Rt g) (i_al 0 (i_il 2 (i_callV mc ms 2 2 T_Lane_itemAt co_Lane_itemAt (i_ic (-2) (i_icne (B_Lane_tells_25 mc ms Rt g) (i_inc 1 1 (B_Lane_tells_25 mc ms Rt g)))))))))))
set_option maxRecDepth 20000 in
theorem s_Lane_tells_4 {X : zMa} {mc ms : Nat} {Rt : Option zAV → zMp → Prop} (hC : zCx X RX1 cX1_tells 2 42 mc ms (some .int) false Rt) (hN : zNL X = 3) : zLe (B_Lane_tells_4 mc ms Rt (zG X)) (zG X 4) :=
  (sd_il_n hC rfl dX1_tells_4 ((sd_al_n hC rfl dX1_tells_5 ((sd_gf hC (ci := 2) (fk := 2) rfl wi_Lane (by decide) fl_Lane_21 (Or.inl rfl) dX1_tells_6 ((sd_icge hC (tgt := 31) (by decide) dX1_tells_9 (s_Lane_tells_31 hC hN) ((sd_al_n hC rfl dX1_tells_12 ((sd_il_n hC rfl dX1_tells_13 ((sd_cV hC c_Lane_itemAt yv_Lane_itemAt (ci := 2) rfl rfl ml_Lane_40 (by decide) (by decide) dX1_tells_14 ((sd_bipush hC (by decide) dX1_tells_17 ((sd_icne hC (tgt := 25) (by decide) dX1_tells_19 (s_Lane_tells_25 hC hN) ((sd_inc hC (by decide) (by rw [hN]; decide) dX1_tells_22 (s_Lane_tells_25 hC hN))))))))))))))))))))
def B_Lane_tells_0 (mc ms : Nat) (Rt : Option zAV → zMp → Prop) (g : Nat → zKT) : zKT :=
  (i_ic 0 (i_is 1 (i_ic 0 (i_is 2 (g 4)))))
set_option maxRecDepth 20000 in
theorem s_Lane_tells_0 {X : zMa} {mc ms : Nat} {Rt : Option zAV → zMp → Prop} (hC : zCx X RX1 cX1_tells 2 42 mc ms (some .int) false Rt) (hN : zNL X = 3) : zLe (B_Lane_tells_0 mc ms Rt (zG X)) (zG X 0) :=
  (sd_iconst hC (by decide) dX1_tells_0 ((sd_is_n hC rfl (by rw [hN]; decide) dX1_tells_1 ((sd_iconst hC (by decide) dX1_tells_2 ((sd_is_n hC rfl (by rw [hN]; decide) dX1_tells_3 (zLe_rfl))))))))
theorem c_Lane_tells (l : Launch) : zCT l yX1_tells cX1_tells 3 (some .int) 2 42 T_Lane_tells co_Lane_tells := by
  intro As M Rt hT
  obtain ⟨x, j, rfl, rfl, hok, hR⟩ := hT
  obtain ⟨h1, h2, h3⟩ := id hok
  refine zMet_of false (by decide +kernel) (fun h => by first | rfl | cases h) (Nat.le_of_ble_eq_true rfl) (fun X hN hC => ?_)
  show zG X 0 [some (.inr (16, j, 0)), none, none] [] (pic x) 0 0
  have loop := upto (N := x_lz x j) (P := fun i => zG X 4 [some (.inr (16, j, 0)), some (.inl (.int (nI (la_tl x j i)))), some (.inl (.int (nI i)))] [] (pic x) 0 0) (fun i hi ih => by
    refine s_Lane_tells_4 hC hN _ _ _ _ _ ?_
    simp only [B_Lane_tells_0, B_Lane_tells_4, B_Lane_tells_25, B_Lane_tells_31, co_Lane_itemAt, co_Lane_tells, i_ic, i_lc, i_nul, i_il, i_ll, i_al, i_is, i_as, i_ls, i_inc, i_iadd, i_isub, i_imul, i_iand, i_ior, i_ixor, i_idiv, i_irem, i_ishl, i_ishr, i_ladd, i_lsub, i_land, i_lor, i_i2l, i_lushr, i_lshl, i_lshr, i_lcmp, i_dup, i_pop, i_dx1, i_dup2, i_ifeq, i_ifne, i_iflt, i_ifge, i_ifgt, i_ifle, i_iceq, i_icne, i_iclt, i_icge, i_icgt, i_icle, i_ifn, i_gf, i_pf, i_ial, i_bal, i_lal, i_aal, i_ias, i_las, i_bas, i_aas, i_alen, i_newa, i_new, i_anew, i_cast, i_oi, i_call, i_callV, i_callV2, i_callI, i_iret, i_zret, i_lret, i_vret, i_aret, i_mmx, i_mmn, i_gsE, i_aceq, i_no, i_acq, i_sw, zsw, zlg, zls, znl, zfg, zcs, zsp, zrc, zisn, zft, zc1, zto, Value.category, List.set_cons_zero, List.set_cons_succ, List.length_cons, List.length_nil, Option.toList, List.nil_append, List.cons_append, true_and, and_true, Nat.add_zero, Nat.zero_le, Nat.zero_add, Nat.le_refl, Nat.reduceAdd, Nat.reduceLeDiff, co0, z0, zn_0, zn_1, zn_2, zn_3, zn_4, zn_5, zn_8, zn_12, zn_24, zn_121, zn_144, zn_256, zn_300, zn_600, zn_720, zn_1204, zn_1280, zn_2400, zn_4816, zn_14400, zn_90000, p_lane h1, x_lane]
    refine ⟨fun h => absurd ((zK (K := x_lz x j) (by omega) (n := i) (by omega)).2.1.mp h) (by omega), fun _ => ⟨x, j, nI i, rfl, rfl, hok, ?_⟩⟩
    have ei : la_item x j (nI i) = la_at x j i := by
      unfold la_item
      rw [if_pos ⟨nI_pos (by omega), nI_lt hi (by omega)⟩, nI_clamp (by omega)]
    rw [ei, nI_1, nI_1]
    simp only [la_tl] at ih
    refine ⟨fun hn => ?_, fun he => ?_⟩
    · rw [if_neg hn] at ih; exact ih
    · rw [if_pos he] at ih; exact ih) (by
    refine s_Lane_tells_4 hC hN _ _ _ _ _ ?_
    simp only [B_Lane_tells_0, B_Lane_tells_4, B_Lane_tells_25, B_Lane_tells_31, co_Lane_itemAt, co_Lane_tells, i_ic, i_lc, i_nul, i_il, i_ll, i_al, i_is, i_as, i_ls, i_inc, i_iadd, i_isub, i_imul, i_iand, i_ior, i_ixor, i_idiv, i_irem, i_ishl, i_ishr, i_ladd, i_lsub, i_land, i_lor, i_i2l, i_lushr, i_lshl, i_lshr, i_lcmp, i_dup, i_pop, i_dx1, i_dup2, i_ifeq, i_ifne, i_iflt, i_ifge, i_ifgt, i_ifle, i_iceq, i_icne, i_iclt, i_icge, i_icgt, i_icle, i_ifn, i_gf, i_pf, i_ial, i_bal, i_lal, i_aal, i_ias, i_las, i_bas, i_aas, i_alen, i_newa, i_new, i_anew, i_cast, i_oi, i_call, i_callV, i_callV2, i_callI, i_iret, i_zret, i_lret, i_vret, i_aret, i_mmx, i_mmn, i_gsE, i_aceq, i_no, i_acq, i_sw, zsw, zlg, zls, znl, zfg, zcs, zsp, zrc, zisn, zft, zc1, zto, Value.category, List.set_cons_zero, List.set_cons_succ, List.length_cons, List.length_nil, Option.toList, List.nil_append, List.cons_append, true_and, and_true, Nat.add_zero, Nat.zero_le, Nat.zero_add, Nat.le_refl, Nat.reduceAdd, Nat.reduceLeDiff, co0, z0, zn_0, zn_1, zn_2, zn_3, zn_4, zn_5, zn_8, zn_12, zn_24, zn_121, zn_144, zn_256, zn_300, zn_600, zn_720, zn_1204, zn_1280, zn_2400, zn_4816, zn_14400, zn_90000, p_lane h1, x_lane]
    exact ⟨fun _ => hR, fun h => absurd ((zK (K := x_lz x j) (by omega) (n := x_lz x j) (by omega)).2.1.mpr (Nat.le_refl _)) h⟩) 0 (Nat.zero_le _)
  refine s_Lane_tells_0 hC hN _ _ _ _ _ ?_
  simp only [B_Lane_tells_0, B_Lane_tells_4, B_Lane_tells_25, B_Lane_tells_31, co_Lane_itemAt, co_Lane_tells, i_ic, i_lc, i_nul, i_il, i_ll, i_al, i_is, i_as, i_ls, i_inc, i_iadd, i_isub, i_imul, i_iand, i_ior, i_ixor, i_idiv, i_irem, i_ishl, i_ishr, i_ladd, i_lsub, i_land, i_lor, i_i2l, i_lushr, i_lshl, i_lshr, i_lcmp, i_dup, i_pop, i_dx1, i_dup2, i_ifeq, i_ifne, i_iflt, i_ifge, i_ifgt, i_ifle, i_iceq, i_icne, i_iclt, i_icge, i_icgt, i_icle, i_ifn, i_gf, i_pf, i_ial, i_bal, i_lal, i_aal, i_ias, i_las, i_bas, i_aas, i_alen, i_newa, i_new, i_anew, i_cast, i_oi, i_call, i_callV, i_callV2, i_callI, i_iret, i_zret, i_lret, i_vret, i_aret, i_mmx, i_mmn, i_gsE, i_aceq, i_no, i_acq, i_sw, zsw, zlg, zls, znl, zfg, zcs, zsp, zrc, zisn, zft, zc1, zto, Value.category, List.set_cons_zero, List.set_cons_succ, List.length_cons, List.length_nil, Option.toList, List.nil_append, List.cons_append, true_and, and_true, Nat.add_zero, Nat.zero_le, Nat.zero_add, Nat.le_refl, Nat.reduceAdd, Nat.reduceLeDiff, co0, z0, zn_0, zn_1, zn_2, zn_3, zn_4, zn_5, zn_8, zn_12, zn_24, zn_121, zn_144, zn_256, zn_300, zn_600, zn_720, zn_1204, zn_1280, zn_2400, zn_4816, zn_14400, zn_90000]
  exact loop
def rw_clr (f : Nat → Int64) : Nat → Int64 := fun j => if j < 5 then 0 else f j
def la_clear (x : zSt) (l : Nat) : zSt := u_lf (u_lz (u_lb (u_lt x (va_up (x_lt x) l (rw_clr (x_lt x l)))) (va_up (x_lb x) l (rw_clr (x_lb x l)))) (va_up (x_lz x) l 0)) (va_up (x_lf x) l 0)
def T_Lane_clear (As : List zAV) (M : zMp) (Rt : Option zAV → zMp → Prop) : Prop := ∃ x l, As = [.inr (16, l, 0)] ∧ M = pic x ∧ l < x_nl x ∧ Rt none (pic (la_clear x l))
abbrev co_Lane_clear := co0
theorem dX1_clear_0 : decode cX1_clear 0 = .ok (.aload_n 0, 1) := by decide +kernel
theorem dX1_clear_1 : decode cX1_clear 1 = .ok (.getfield 12, 3) := by decide +kernel
theorem dX1_clear_4 : decode cX1_clear 4 = .ok (.invokevirtual 51, 3) := by decide +kernel
theorem dX1_clear_7 : decode cX1_clear 7 = .ok (.aload_n 0, 1) := by decide +kernel
theorem dX1_clear_8 : decode cX1_clear 8 = .ok (.getfield 18, 3) := by decide +kernel
theorem dX1_clear_11 : decode cX1_clear 11 = .ok (.invokevirtual 51, 3) := by decide +kernel
theorem dX1_clear_14 : decode cX1_clear 14 = .ok (.aload_n 0, 1) := by decide +kernel
theorem dX1_clear_15 : decode cX1_clear 15 = .ok (.iconst 0, 1) := by decide +kernel
theorem dX1_clear_16 : decode cX1_clear 16 = .ok (.putfield 21, 3) := by decide +kernel
theorem dX1_clear_19 : decode cX1_clear 19 = .ok (.aload_n 0, 1) := by decide +kernel
theorem dX1_clear_20 : decode cX1_clear 20 = .ok (.iconst 0, 1) := by decide +kernel
theorem dX1_clear_21 : decode cX1_clear 21 = .ok (.putfield 33, 3) := by decide +kernel
theorem dX1_clear_24 : decode cX1_clear 24 = .ok (.return_, 1) := by decide +kernel
def B_Lane_clear_0 (mc ms : Nat) (Rt : Option zAV → zMp → Prop) (g : Nat → zKT) : zKT :=
  (i_al 0 (i_gf 2 0 (i_callV mc ms 5 1 T_Row_clear co_Row_clear (i_al 0 (i_gf 2 1 (i_callV mc ms 5 1 T_Row_clear co_Row_clear (i_al 0 (i_ic 0 (i_pf 2 2 .int (i_al 0 (i_ic 0 (i_pf 2 5 .int (i_vret mc ms Rt)))))))))))))
set_option maxRecDepth 20000 in
theorem s_Lane_clear_0 {X : zMa} {mc ms : Nat} {Rt : Option zAV → zMp → Prop} (hC : zCx X RX1 cX1_clear 1 21 mc ms (none) false Rt) : zLe (B_Lane_clear_0 mc ms Rt (zG X)) (zG X 0) :=
  (sd_al_n hC rfl dX1_clear_0 ((sd_gf hC (ci := 2) (fk := 0) rfl wi_Lane (by decide) fl_Lane_12 (Or.inl rfl) dX1_clear_1 ((sd_cV hC c_Row_clear yv_Row_clear (ci := 5) rfl rfl ml_Lane_51 (by decide) (by decide) dX1_clear_4 ((sd_al_n hC rfl dX1_clear_7 ((sd_gf hC (ci := 2) (fk := 1) rfl wi_Lane (by decide) fl_Lane_18 (Or.inl rfl) dX1_clear_8 ((sd_cV hC c_Row_clear yv_Row_clear (ci := 5) rfl rfl ml_Lane_51 (by decide) (by decide) dX1_clear_11 ((sd_al_n hC rfl dX1_clear_14 ((sd_iconst hC (by decide) dX1_clear_15 ((sd_pf hC (ci := 2) (fk := 2) rfl wi_Lane tyX1 tyX1_ok nmX1 (by decide) fl_Lane_21 (Or.inl rfl) (Or.inl rfl) dX1_clear_16 ((sd_al_n hC rfl dX1_clear_19 ((sd_iconst hC (by decide) dX1_clear_20 ((sd_pf hC (ci := 2) (fk := 5) rfl wi_Lane tyX1 tyX1_ok nmX1 (by decide) fl_Lane_33 (Or.inl rfl) (Or.inl rfl) dX1_clear_21 ((sd_vret hC dX1_clear_24)))))))))))))))))))))))))
theorem c_Lane_clear (l : Launch) : zCT l yX1_clear cX1_clear 1 (none) 1 21 T_Lane_clear co_Lane_clear := by
  intro As M Rt hT
  obtain ⟨x, j, rfl, rfl, h1, hR⟩ := hT
  refine zMet_of false (by decide +kernel) (fun h => by first | rfl | cases h) (Nat.le_of_ble_eq_true rfl) (fun X hN hC => ?_)
  show zG X 0 [some (.inr (16, j, 0))] [] (pic x) 0 0
  refine s_Lane_clear_0 hC _ _ _ _ _ ?_
  simp only [B_Lane_clear_0, co_Lane_clear, co_Row_clear, i_ic, i_lc, i_nul, i_il, i_ll, i_al, i_is, i_as, i_ls, i_inc, i_iadd, i_isub, i_imul, i_iand, i_ior, i_ixor, i_idiv, i_irem, i_ishl, i_ishr, i_ladd, i_lsub, i_land, i_lor, i_i2l, i_lushr, i_lshl, i_lshr, i_lcmp, i_dup, i_pop, i_dx1, i_dup2, i_ifeq, i_ifne, i_iflt, i_ifge, i_ifgt, i_ifle, i_iceq, i_icne, i_iclt, i_icge, i_icgt, i_icle, i_ifn, i_gf, i_pf, i_ial, i_bal, i_lal, i_aal, i_ias, i_las, i_bas, i_aas, i_alen, i_newa, i_new, i_anew, i_cast, i_oi, i_call, i_callV, i_callV2, i_callI, i_iret, i_zret, i_lret, i_vret, i_aret, i_mmx, i_mmn, i_gsE, i_aceq, i_no, i_acq, i_sw, zsw, zlg, zls, znl, zfg, zcs, zsp, zrc, zisn, zft, zc1, zto, Value.category, List.set_cons_zero, List.set_cons_succ, List.length_cons, List.length_nil, Option.toList, List.nil_append, List.cons_append, true_and, and_true, Nat.add_zero, Nat.zero_le, Nat.zero_add, Nat.le_refl, Nat.reduceAdd, Nat.reduceLeDiff, co0, z0, zn_0, zn_1, zn_2, zn_3, zn_4, zn_5, zn_8, zn_12, zn_24, zn_121, zn_144, zn_256, zn_300, zn_600, zn_720, zn_1204, zn_1280, zn_2400, zn_4816, zn_14400, zn_90000, p_lane h1, x_lane, p_rowO (r_lt h1)]
  refine ⟨(5, 2, j), (6, 2, j), x_lt x j, rfl, m_k (by decide), p_row (r_lt h1), ?_⟩
  rw [pu_lt x j _ h1]
  have h2 : j < x_nl (u_lt x (va_up (x_lt x) j (fun i => if i < 5 then 0 else x_lt x j i))) := h1
  simp only [p_lane h2, x_lane, p_rowO (r_lb h2), g_dk_lt, g_lk_lt, g_po_lt, g_ne_lt, g_td_lt, g_nb_lt, g_ln_lt, g_nr_lt, g_nw_lt, g_nn_lt, g_ns_lt, g_or_lt, g_ow_lt, g_on_lt, g_nl_lt, g_ng_lt, g_rg_lt, g_lc_lt, g_cp_lt, g_gb_lt, g_sp_lt, g_kn_lt, g_me_lt, g_ob_lt, g_fk_lt, g_fz_lt, g_fg_lt, g_rd_lt, g_rz_lt, g_rh_lt, g_nd_lt, g_nm_lt, g_nv_lt, g_nh_lt, g_nf_lt, g_wr_lt, g_wa_lt, g_lz_lt, g_lf_lt, g_li_lt, g_lt_lt, g_lb_lt, g_lr_lt, g_tn_lt, g_tf_lt, i_ic, i_lc, i_nul, i_il, i_ll, i_al, i_is, i_as, i_ls, i_inc, i_iadd, i_isub, i_imul, i_iand, i_ior, i_ixor, i_idiv, i_irem, i_ishl, i_ishr, i_ladd, i_lsub, i_land, i_lor, i_i2l, i_lushr, i_lshl, i_lshr, i_lcmp, i_dup, i_pop, i_dx1, i_dup2, i_ifeq, i_ifne, i_iflt, i_ifge, i_ifgt, i_ifle, i_iceq, i_icne, i_iclt, i_icge, i_icgt, i_icle, i_ifn, i_gf, i_pf, i_ial, i_bal, i_lal, i_aal, i_ias, i_las, i_bas, i_aas, i_alen, i_newa, i_new, i_anew, i_cast, i_oi, i_call, i_callV, i_callV2, i_callI, i_iret, i_zret, i_lret, i_vret, i_aret, i_mmx, i_mmn, i_gsE, i_aceq, i_no, i_acq, i_sw, zsw, zlg, zls, znl, zfg, zcs, zsp, zrc, zisn, zft, zc1, zto, Value.category, List.set_cons_zero, List.set_cons_succ, List.length_cons, List.length_nil, Option.toList, List.nil_append, List.cons_append, true_and, and_true, Nat.add_zero, Nat.zero_le, Nat.zero_add, Nat.le_refl, Nat.reduceAdd, Nat.reduceLeDiff, co0, z0, zn_0, zn_1, zn_2, zn_3, zn_4, zn_5, zn_8, zn_12, zn_24, zn_121, zn_144, zn_256, zn_300, zn_600, zn_720, zn_1204, zn_1280, zn_2400, zn_4816, zn_14400, zn_90000]
  refine ⟨(5, 3, j), (6, 3, j), x_lb x j, rfl, m_k (by decide), p_row (r_lb h2), ?_⟩
  rw [pu_lb _ j _ h2]
  generalize hy : u_lb (u_lt x (va_up (x_lt x) j (fun i => if i < 5 then 0 else x_lt x j i))) (va_up (x_lb (u_lt x (va_up (x_lt x) j (fun i => if i < 5 then 0 else x_lt x j i)))) j (fun i => if i < 5 then 0 else x_lb x j i)) = y
  have h3 : j < x_nl y := by rw [← hy]; exact h1
  simp only [p_lane h3, x_lane, zup_s, zup_zup, i_ic, i_lc, i_nul, i_il, i_ll, i_al, i_is, i_as, i_ls, i_inc, i_iadd, i_isub, i_imul, i_iand, i_ior, i_ixor, i_idiv, i_irem, i_ishl, i_ishr, i_ladd, i_lsub, i_land, i_lor, i_i2l, i_lushr, i_lshl, i_lshr, i_lcmp, i_dup, i_pop, i_dx1, i_dup2, i_ifeq, i_ifne, i_iflt, i_ifge, i_ifgt, i_ifle, i_iceq, i_icne, i_iclt, i_icge, i_icgt, i_icle, i_ifn, i_gf, i_pf, i_ial, i_bal, i_lal, i_aal, i_ias, i_las, i_bas, i_aas, i_alen, i_newa, i_new, i_anew, i_cast, i_oi, i_call, i_callV, i_callV2, i_callI, i_iret, i_zret, i_lret, i_vret, i_aret, i_mmx, i_mmn, i_gsE, i_aceq, i_no, i_acq, i_sw, zsw, zlg, zls, znl, zfg, zcs, zsp, zrc, zisn, zft, zc1, zto, Value.category, List.set_cons_zero, List.set_cons_succ, List.length_cons, List.length_nil, Option.toList, List.nil_append, List.cons_append, true_and, and_true, Nat.add_zero, Nat.zero_le, Nat.zero_add, Nat.le_refl, Nat.reduceAdd, Nat.reduceLeDiff, co0, z0, zn_0, zn_1, zn_2, zn_3, zn_4, zn_5, zn_8, zn_12, zn_24, zn_121, zn_144, zn_256, zn_300, zn_600, zn_720, zn_1204, zn_1280, zn_2400, zn_4816, zn_14400, zn_90000]
  refine ⟨m_k (by decide), by decide, m_k (by decide), by decide, ?_⟩
  refine zM (P := Rt none) ?_ hR
  have h4 : j < x_nl (u_lz y (va_up (x_lz y) j 0)) := h3
  have e := pu_lf (u_lz y (va_up (x_lz y) j 0)) j 0 h4
  have e1 := pu_lz y j 0 h3
  rw [← e1, zup_zup] at e
  have e2 : la_clear x j = u_lf (u_lz y (va_up (x_lz y) j 0)) (va_up (x_lf (u_lz y (va_up (x_lz y) j 0))) j 0) := by rw [← hy]; rfl
  rw [e2, ← e]
  simp only [x_lane, g_dk_lf, g_lk_lf, g_po_lf, g_ne_lf, g_td_lf, g_nb_lf, g_ln_lf, g_nr_lf, g_nw_lf, g_nn_lf, g_ns_lf, g_or_lf, g_ow_lf, g_on_lf, g_nl_lf, g_ng_lf, g_rg_lf, g_lc_lf, g_cp_lf, g_gb_lf, g_sp_lf, g_kn_lf, g_me_lf, g_ob_lf, g_fk_lf, g_fz_lf, g_fg_lf, g_rd_lf, g_rz_lf, g_rh_lf, g_nd_lf, g_nm_lf, g_nv_lf, g_nh_lf, g_nf_lf, g_wr_lf, g_wa_lf, g_lz_lf, g_lf_lf, g_li_lf, g_lt_lf, g_lb_lf, g_lr_lf, g_tn_lf, g_tf_lf, g_dk_lz, g_lk_lz, g_po_lz, g_ne_lz, g_td_lz, g_nb_lz, g_ln_lz, g_nr_lz, g_nw_lz, g_nn_lz, g_ns_lz, g_or_lz, g_ow_lz, g_on_lz, g_nl_lz, g_ng_lz, g_rg_lz, g_lc_lz, g_cp_lz, g_gb_lz, g_sp_lz, g_kn_lz, g_me_lz, g_ob_lz, g_fk_lz, g_fz_lz, g_fg_lz, g_rd_lz, g_rz_lz, g_rh_lz, g_nd_lz, g_nm_lz, g_nv_lz, g_nh_lz, g_nf_lz, g_wr_lz, g_wa_lz, g_lz_lz, g_lf_lz, g_li_lz, g_lt_lz, g_lb_lz, g_lr_lz, g_tn_lz, g_tf_lz, va_up, if_true]
  rfl
end
section
/-! readers and wishes -/
theorem p_rdr {x : zSt} {i : Nat} (h : i < x_or x) : pic x (10, i, 0) = some (x_rdr x i) := if_pos ⟨h, rfl⟩
theorem p_rh {x : zSt} {i : Nat} (h : i < x_or x) : pic x (11, i, 0) = some (zin 600 (x_rh x i)) := if_pos ⟨h, rfl⟩
theorem p_ntc {x : zSt} {i : Nat} (h : i < x_on x) : pic x (12, i, 0) = some (x_ntc x i) := if_pos ⟨h, rfl⟩
theorem p_nf {x : zSt} {i : Nat} (h : i < x_on x) : pic x (13, i, 0) = some (zin 4 (x_nf x i)) := if_pos ⟨h, rfl⟩
theorem p_wsh {x : zSt} {i : Nat} (h : i < x_ow x) : pic x (15, i, 0) = some (x_wsh x i) := if_pos ⟨h, rfl⟩
theorem p_fo {x : zSt} {i j : Nat} (h : i < x_ng x) (hj : j < 4) : pic x (7, i, j) = some (zfo (x_fk x i j) (8, i, j) (x_fz x i j)) := if_pos ⟨h, hj⟩
theorem p_fg {x : zSt} {i j : Nat} (h : i < x_ng x) (hj : j < 4) : pic x (8, i, j) = some (zin 4 (x_fg x i j)) := if_pos ⟨h, hj⟩
theorem p_fs {x : zSt} {i : Nat} (h : i < x_ng x) : pic x (9, i, 0) = some (zra "WishRoutes$FieldTest" 4 (x_fts i)) := if_pos ⟨h, rfl⟩
def T_Rdr_nthHeard (As : List zAV) (M : zMp) (Rt : Option zAV → zMp → Prop) : Prop := ∃ x r i, As = [.inr (10, r, 0), .inl (.int i)] ∧ M = pic x ∧ r < x_or x ∧ x_rz x r ≤ 600 ∧ Rt (some (.inl (.int (if ¬ i < 0 ∧ i < nI (x_rz x r) then x_rh x r i.toNatClampNeg else -1)))) M
abbrev co_Rdr_nthHeard := co0
theorem dX3_nthHeard_0 : decode cX3_nthHeard 0 = .ok (.iload_n 1, 1) := by decide +kernel
theorem dX3_nthHeard_1 : decode cX3_nthHeard 1 = .ok (.ifCond .lt 20, 3) := by decide +kernel
theorem dX3_nthHeard_4 : decode cX3_nthHeard 4 = .ok (.iload_n 1, 1) := by decide +kernel
theorem dX3_nthHeard_5 : decode cX3_nthHeard 5 = .ok (.aload_n 0, 1) := by decide +kernel
theorem dX3_nthHeard_6 : decode cX3_nthHeard 6 = .ok (.getfield 15, 3) := by decide +kernel
theorem dX3_nthHeard_9 : decode cX3_nthHeard 9 = .ok (.if_icmp .ge 12, 3) := by decide +kernel
theorem dX3_nthHeard_12 : decode cX3_nthHeard 12 = .ok (.aload_n 0, 1) := by decide +kernel
theorem dX3_nthHeard_13 : decode cX3_nthHeard 13 = .ok (.getfield 9, 3) := by decide +kernel
theorem dX3_nthHeard_16 : decode cX3_nthHeard 16 = .ok (.iload_n 1, 1) := by decide +kernel
theorem dX3_nthHeard_17 : decode cX3_nthHeard 17 = .ok (.iaload, 1) := by decide +kernel
theorem dX3_nthHeard_18 : decode cX3_nthHeard 18 = .ok (.goto 4, 3) := by decide +kernel
theorem dX3_nthHeard_21 : decode cX3_nthHeard 21 = .ok (.iconst (-1), 1) := by decide +kernel
theorem dX3_nthHeard_22 : decode cX3_nthHeard 22 = .ok (.ireturn, 1) := by decide +kernel
def B_Rdr_nthHeard_22 (mc ms : Nat) (Rt : Option zAV → zMp → Prop) (g : Nat → zKT) : zKT :=
  (i_iret mc ms Rt)
set_option maxRecDepth 20000 in
theorem s_Rdr_nthHeard_22 {X : zMa} {mc ms : Nat} {Rt : Option zAV → zMp → Prop} (hC : zCx X RX3 cX3_nthHeard 0 0 mc ms (some .int) false Rt) : zLe (B_Rdr_nthHeard_22 mc ms Rt (zG X)) (zG X 22) :=
  (sd_iret hC dX3_nthHeard_22)
def B_Rdr_nthHeard_21 (mc ms : Nat) (Rt : Option zAV → zMp → Prop) (g : Nat → zKT) : zKT :=
  (i_ic (-1) (B_Rdr_nthHeard_22 mc ms Rt g))
set_option maxRecDepth 20000 in
theorem s_Rdr_nthHeard_21 {X : zMa} {mc ms : Nat} {Rt : Option zAV → zMp → Prop} (hC : zCx X RX3 cX3_nthHeard 0 0 mc ms (some .int) false Rt) : zLe (B_Rdr_nthHeard_21 mc ms Rt (zG X)) (zG X 21) :=
  (sd_iconst hC (by decide) dX3_nthHeard_21 (s_Rdr_nthHeard_22 hC))
def B_Rdr_nthHeard_0 (mc ms : Nat) (Rt : Option zAV → zMp → Prop) (g : Nat → zKT) : zKT :=
  (i_il 1 (i_iflt (B_Rdr_nthHeard_21 mc ms Rt g) (i_il 1 (i_al 0 (i_gf 4 2 (i_icge (B_Rdr_nthHeard_21 mc ms Rt g) (i_al 0 (i_gf 4 1 (i_il 1 (i_ial (B_Rdr_nthHeard_22 mc ms Rt g)))))))))))
set_option maxRecDepth 20000 in
theorem s_Rdr_nthHeard_0 {X : zMa} {mc ms : Nat} {Rt : Option zAV → zMp → Prop} (hC : zCx X RX3 cX3_nthHeard 0 0 mc ms (some .int) false Rt) : zLe (B_Rdr_nthHeard_0 mc ms Rt (zG X)) (zG X 0) :=
  (sd_il_n hC rfl dX3_nthHeard_0 ((sd_iflt hC (tgt := 21) (by decide) dX3_nthHeard_1 (s_Rdr_nthHeard_21 hC) ((sd_il_n hC rfl dX3_nthHeard_4 ((sd_al_n hC rfl dX3_nthHeard_5 ((sd_gf hC (ci := 4) (fk := 2) rfl wi_Rdr (by decide) fl_Rdr_15 (Or.inl rfl) dX3_nthHeard_6 ((sd_icge hC (tgt := 21) (by decide) dX3_nthHeard_9 (s_Rdr_nthHeard_21 hC) ((sd_al_n hC rfl dX3_nthHeard_12 ((sd_gf hC (ci := 4) (fk := 1) rfl wi_Rdr (by decide) fl_Rdr_9 (Or.inl rfl) dX3_nthHeard_13 ((sd_il_n hC rfl dX3_nthHeard_16 ((sd_ial hC dX3_nthHeard_17 ((sd_goto hC (tgt := 22) (by decide) dX3_nthHeard_18 (s_Rdr_nthHeard_22 hC))))))))))))))))))))))
theorem c_Rdr_nthHeard (l : Launch) : zCT l yX3_nthHeard cX3_nthHeard 2 (some .int) 0 0 T_Rdr_nthHeard co_Rdr_nthHeard := by
  intro As M Rt hT
  obtain ⟨x, r, i, rfl, rfl, h1, h2, hR⟩ := hT
  refine zMet_of false (by decide +kernel) (fun h => by first | rfl | cases h) (Nat.le_of_ble_eq_true rfl) (fun X hN hC => ?_)
  show zG X 0 [some (.inr (10, r, 0)), some (.inl (.int i))] [] (pic x) 0 0
  refine s_Rdr_nthHeard_0 hC _ _ _ _ _ ?_
  simp only [B_Rdr_nthHeard_0, B_Rdr_nthHeard_21, B_Rdr_nthHeard_22, co_Rdr_nthHeard, i_ic, i_lc, i_nul, i_il, i_ll, i_al, i_is, i_as, i_ls, i_inc, i_iadd, i_isub, i_imul, i_iand, i_ior, i_ixor, i_idiv, i_irem, i_ishl, i_ishr, i_ladd, i_lsub, i_land, i_lor, i_i2l, i_lushr, i_lshl, i_lshr, i_lcmp, i_dup, i_pop, i_dx1, i_dup2, i_ifeq, i_ifne, i_iflt, i_ifge, i_ifgt, i_ifle, i_iceq, i_icne, i_iclt, i_icge, i_icgt, i_icle, i_ifn, i_gf, i_pf, i_ial, i_bal, i_lal, i_aal, i_ias, i_las, i_bas, i_aas, i_alen, i_newa, i_new, i_anew, i_cast, i_oi, i_call, i_callV, i_callV2, i_callI, i_iret, i_zret, i_lret, i_vret, i_aret, i_mmx, i_mmn, i_gsE, i_aceq, i_no, i_acq, i_sw, zsw, zlg, zls, znl, zfg, zcs, zsp, zrc, zisn, zft, zc1, zto, Value.category, List.set_cons_zero, List.set_cons_succ, List.length_cons, List.length_nil, Option.toList, List.nil_append, List.cons_append, true_and, and_true, Nat.add_zero, Nat.zero_le, Nat.zero_add, Nat.le_refl, Nat.reduceAdd, Nat.reduceLeDiff, co0, z0, zn_0, zn_1, zn_2, zn_3, zn_4, zn_5, zn_8, zn_12, zn_24, zn_121, zn_144, zn_256, zn_300, zn_600, zn_720, zn_1204, zn_1280, zn_2400, zn_4816, zn_14400, zn_90000, p_rdr h1, p_rh h1, x_rdr]
  refine ⟨fun h => ?_, fun h => ⟨fun h' => ?_, fun h' => ?_⟩⟩
  · rw [if_neg (fun q => q.1 h)] at hR; exact hR
  · rw [if_neg (fun q => absurd q.2 (Int32.not_lt.mpr h'))] at hR; exact hR
  · rw [if_pos ⟨h, Int32.not_le.mp h'⟩] at hR
    obtain ⟨a, ha, rfl⟩ := nI_of h
    have := (nI_ltI ha (by omega)).mp (Int32.not_le.mp h')
    exact ⟨vp_in_nI (by omega) (by decide), hR⟩
/-- one notice more is heard -/
def rd_add (x : zSt) (r : Nat) (v : Int32) : zSt := if x_rz x r < 600 then u_rz (u_rh x (va_up (x_rh x) r (upd (x_rh x r) (x_rz x r) v))) (va_up (x_rz x) r (x_rz x r + 1)) else x
def T_Rdr_addHeard (As : List zAV) (M : zMp) (Rt : Option zAV → zMp → Prop) : Prop := ∃ x r v, As = [.inr (10, r, 0), .inl (.int v)] ∧ M = pic x ∧ r < x_or x ∧ x_rz x r ≤ 600 ∧ Rt none (pic (rd_add x r v))
abbrev co_Rdr_addHeard := co0
theorem dX3_addHeard_0 : decode cX3_addHeard 0 = .ok (.aload_n 0, 1) := by decide +kernel
theorem dX3_addHeard_1 : decode cX3_addHeard 1 = .ok (.getfield 15, 3) := by decide +kernel
theorem dX3_addHeard_4 : decode cX3_addHeard 4 = .ok (.sipush 600, 3) := by decide +kernel
theorem dX3_addHeard_7 : decode cX3_addHeard 7 = .ok (.if_icmp .ge 23, 3) := by decide +kernel
theorem dX3_addHeard_10 : decode cX3_addHeard 10 = .ok (.aload_n 0, 1) := by decide +kernel
theorem dX3_addHeard_11 : decode cX3_addHeard 11 = .ok (.getfield 9, 3) := by decide +kernel
theorem dX3_addHeard_14 : decode cX3_addHeard 14 = .ok (.aload_n 0, 1) := by decide +kernel
theorem dX3_addHeard_15 : decode cX3_addHeard 15 = .ok (.getfield 15, 3) := by decide +kernel
theorem dX3_addHeard_18 : decode cX3_addHeard 18 = .ok (.iload_n 1, 1) := by decide +kernel
theorem dX3_addHeard_19 : decode cX3_addHeard 19 = .ok (.iastore, 1) := by decide +kernel
theorem dX3_addHeard_20 : decode cX3_addHeard 20 = .ok (.aload_n 0, 1) := by decide +kernel
theorem dX3_addHeard_21 : decode cX3_addHeard 21 = .ok (.dup, 1) := by decide +kernel
theorem dX3_addHeard_22 : decode cX3_addHeard 22 = .ok (.getfield 15, 3) := by decide +kernel
theorem dX3_addHeard_25 : decode cX3_addHeard 25 = .ok (.iconst 1, 1) := by decide +kernel
theorem dX3_addHeard_26 : decode cX3_addHeard 26 = .ok (.iadd, 1) := by decide +kernel
theorem dX3_addHeard_27 : decode cX3_addHeard 27 = .ok (.putfield 15, 3) := by decide +kernel
theorem dX3_addHeard_30 : decode cX3_addHeard 30 = .ok (.return_, 1) := by decide +kernel
def B_Rdr_addHeard_30 (mc ms : Nat) (Rt : Option zAV → zMp → Prop) (g : Nat → zKT) : zKT :=
  (i_vret mc ms Rt)
set_option maxRecDepth 20000 in
theorem s_Rdr_addHeard_30 {X : zMa} {mc ms : Nat} {Rt : Option zAV → zMp → Prop} (hC : zCx X RX3 cX3_addHeard 0 0 mc ms (none) false Rt) : zLe (B_Rdr_addHeard_30 mc ms Rt (zG X)) (zG X 30) :=
  (sd_vret hC dX3_addHeard_30)
def B_Rdr_addHeard_0 (mc ms : Nat) (Rt : Option zAV → zMp → Prop) (g : Nat → zKT) : zKT :=
  (i_al 0 (i_gf 4 2 (i_ic 600 (i_icge (B_Rdr_addHeard_30 mc ms Rt g) (i_al 0 (i_gf 4 1 (i_al 0 (i_gf 4 2 (i_il 1 (i_ias (i_al 0 (i_dup (i_gf 4 2 (i_ic 1 (i_iadd (i_pf 4 2 .int (B_Rdr_addHeard_30 mc ms Rt g)))))))))))))))))
set_option maxRecDepth 20000 in
theorem s_Rdr_addHeard_0 {X : zMa} {mc ms : Nat} {Rt : Option zAV → zMp → Prop} (hC : zCx X RX3 cX3_addHeard 0 0 mc ms (none) false Rt) : zLe (B_Rdr_addHeard_0 mc ms Rt (zG X)) (zG X 0) :=
  (sd_al_n hC rfl dX3_addHeard_0 ((sd_gf hC (ci := 4) (fk := 2) rfl wi_Rdr (by decide) fl_Rdr_15 (Or.inl rfl) dX3_addHeard_1 ((sd_sipush hC (by decide) dX3_addHeard_4 ((sd_icge hC (tgt := 30) (by decide) dX3_addHeard_7 (s_Rdr_addHeard_30 hC) ((sd_al_n hC rfl dX3_addHeard_10 ((sd_gf hC (ci := 4) (fk := 1) rfl wi_Rdr (by decide) fl_Rdr_9 (Or.inl rfl) dX3_addHeard_11 ((sd_al_n hC rfl dX3_addHeard_14 ((sd_gf hC (ci := 4) (fk := 2) rfl wi_Rdr (by decide) fl_Rdr_15 (Or.inl rfl) dX3_addHeard_15 ((sd_il_n hC rfl dX3_addHeard_18 ((sd_ias hC dX3_addHeard_19 ((sd_al_n hC rfl dX3_addHeard_20 ((sd_dup hC dX3_addHeard_21 ((sd_gf hC (ci := 4) (fk := 2) rfl wi_Rdr (by decide) fl_Rdr_15 (Or.inl rfl) dX3_addHeard_22 ((sd_iconst hC (by decide) dX3_addHeard_25 ((sd_iadd hC dX3_addHeard_26 ((sd_pf hC (ci := 4) (fk := 2) rfl wi_Rdr tyX3 tyX3_ok nmX3 (by decide) fl_Rdr_15 (Or.inl rfl) (Or.inl rfl) dX3_addHeard_27 (s_Rdr_addHeard_30 hC))))))))))))))))))))))))))))))))
theorem c_Rdr_addHeard (l : Launch) : zCT l yX3_addHeard cX3_addHeard 2 (none) 0 0 T_Rdr_addHeard co_Rdr_addHeard := by
  intro As M Rt hT
  obtain ⟨x, r, v, rfl, rfl, h1, h2, hR⟩ := hT
  refine zMet_of false (by decide +kernel) (fun h => by first | rfl | cases h) (Nat.le_of_ble_eq_true rfl) (fun X hN hC => ?_)
  show zG X 0 [some (.inr (10, r, 0)), some (.inl (.int v))] [] (pic x) 0 0
  refine s_Rdr_addHeard_0 hC _ _ _ _ _ ?_
  simp only [B_Rdr_addHeard_0, B_Rdr_addHeard_30, co_Rdr_addHeard, i_ic, i_lc, i_nul, i_il, i_ll, i_al, i_is, i_as, i_ls, i_inc, i_iadd, i_isub, i_imul, i_iand, i_ior, i_ixor, i_idiv, i_irem, i_ishl, i_ishr, i_ladd, i_lsub, i_land, i_lor, i_i2l, i_lushr, i_lshl, i_lshr, i_lcmp, i_dup, i_pop, i_dx1, i_dup2, i_ifeq, i_ifne, i_iflt, i_ifge, i_ifgt, i_ifle, i_iceq, i_icne, i_iclt, i_icge, i_icgt, i_icle, i_ifn, i_gf, i_pf, i_ial, i_bal, i_lal, i_aal, i_ias, i_las, i_bas, i_aas, i_alen, i_newa, i_new, i_anew, i_cast, i_oi, i_call, i_callV, i_callV2, i_callI, i_iret, i_zret, i_lret, i_vret, i_aret, i_mmx, i_mmn, i_gsE, i_aceq, i_no, i_acq, i_sw, zsw, zlg, zls, znl, zfg, zcs, zsp, zrc, zisn, zft, zc1, zto, Value.category, List.set_cons_zero, List.set_cons_succ, List.length_cons, List.length_nil, Option.toList, List.nil_append, List.cons_append, true_and, and_true, Nat.add_zero, Nat.zero_le, Nat.zero_add, Nat.le_refl, Nat.reduceAdd, Nat.reduceLeDiff, co0, z0, zn_0, zn_1, zn_2, zn_3, zn_4, zn_5, zn_8, zn_12, zn_24, zn_121, zn_144, zn_256, zn_300, zn_600, zn_720, zn_1204, zn_1280, zn_2400, zn_4816, zn_14400, zn_90000, p_rdr h1, p_rh h1, x_rdr]
  have hK := (zK (K := 600) (by decide) (n := x_rz x r) (by omega)).2.1
  unfold rd_add at hR
  refine ⟨fun h => ?_, fun h => ?_⟩
  · rw [if_neg (by have := hK.mp h; omega)] at hR; exact hR
  · have hlt : x_rz x r < 600 := by
      have : ¬ 600 ≤ x_rz x r := fun z => h (hK.mpr z)
      omega
    rw [if_pos hlt] at hR
    refine ⟨m_k (by decide), vp_in_nI hlt (by decide), ?_⟩
    rw [nI_clamp (by omega), pu_rh x r _ h1]
    have h1' : r < x_or (u_rh x (va_up (x_rh x) r (upd (x_rh x r) (x_rz x r) v))) := h1
    simp only [p_rdr h1', x_rdr, g_dk_rh, g_lk_rh, g_po_rh, g_ne_rh, g_td_rh, g_nb_rh, g_ln_rh, g_nr_rh, g_nw_rh, g_nn_rh, g_ns_rh, g_or_rh, g_ow_rh, g_on_rh, g_nl_rh, g_ng_rh, g_rg_rh, g_lc_rh, g_cp_rh, g_gb_rh, g_sp_rh, g_kn_rh, g_me_rh, g_ob_rh, g_fk_rh, g_fz_rh, g_fg_rh, g_rd_rh, g_rz_rh, g_rh_rh, g_nd_rh, g_nm_rh, g_nv_rh, g_nh_rh, g_nf_rh, g_wr_rh, g_wa_rh, g_lz_rh, g_lf_rh, g_li_rh, g_lt_rh, g_lb_rh, g_lr_rh, g_tn_rh, g_tf_rh, i_ic, i_lc, i_nul, i_il, i_ll, i_al, i_is, i_as, i_ls, i_inc, i_iadd, i_isub, i_imul, i_iand, i_ior, i_ixor, i_idiv, i_irem, i_ishl, i_ishr, i_ladd, i_lsub, i_land, i_lor, i_i2l, i_lushr, i_lshl, i_lshr, i_lcmp, i_dup, i_pop, i_dx1, i_dup2, i_ifeq, i_ifne, i_iflt, i_ifge, i_ifgt, i_ifle, i_iceq, i_icne, i_iclt, i_icge, i_icgt, i_icle, i_ifn, i_gf, i_pf, i_ial, i_bal, i_lal, i_aal, i_ias, i_las, i_bas, i_aas, i_alen, i_newa, i_new, i_anew, i_cast, i_oi, i_call, i_callV, i_callV2, i_callI, i_iret, i_zret, i_lret, i_vret, i_aret, i_mmx, i_mmn, i_gsE, i_aceq, i_no, i_acq, i_sw, zsw, zlg, zls, znl, zfg, zcs, zsp, zrc, zisn, zft, zc1, zto, Value.category, List.set_cons_zero, List.set_cons_succ, List.length_cons, List.length_nil, Option.toList, List.nil_append, List.cons_append, true_and, and_true, Nat.add_zero, Nat.zero_le, Nat.zero_add, Nat.le_refl, Nat.reduceAdd, Nat.reduceLeDiff, co0, z0, zn_0, zn_1, zn_2, zn_3, zn_4, zn_5, zn_8, zn_12, zn_24, zn_121, zn_144, zn_256, zn_300, zn_600, zn_720, zn_1204, zn_1280, zn_2400, zn_4816, zn_14400, zn_90000]
    rw [nI_1]
    refine ⟨m_k (by decide), by decide, ?_⟩
    refine zM (P := Rt none) ?_ hR
    refine Eq.trans ?_ (pu_rz (u_rh x (va_up (x_rh x) r (upd (x_rh x r) (x_rz x r) v))) r (x_rz x r + 1) h1')
    simp only [x_rdr, g_dk_rh, g_lk_rh, g_po_rh, g_ne_rh, g_td_rh, g_nb_rh, g_ln_rh, g_nr_rh, g_nw_rh, g_nn_rh, g_ns_rh, g_or_rh, g_ow_rh, g_on_rh, g_nl_rh, g_ng_rh, g_rg_rh, g_lc_rh, g_cp_rh, g_gb_rh, g_sp_rh, g_kn_rh, g_me_rh, g_ob_rh, g_fk_rh, g_fz_rh, g_fg_rh, g_rd_rh, g_rz_rh, g_rh_rh, g_nd_rh, g_nm_rh, g_nv_rh, g_nh_rh, g_nf_rh, g_wr_rh, g_wa_rh, g_lz_rh, g_lf_rh, g_li_rh, g_lt_rh, g_lb_rh, g_lr_rh, g_tn_rh, g_tf_rh, g_dk_rz, g_lk_rz, g_po_rz, g_ne_rz, g_td_rz, g_nb_rz, g_ln_rz, g_nr_rz, g_nw_rz, g_nn_rz, g_ns_rz, g_or_rz, g_ow_rz, g_on_rz, g_nl_rz, g_ng_rz, g_rg_rz, g_lc_rz, g_cp_rz, g_gb_rz, g_sp_rz, g_kn_rz, g_me_rz, g_ob_rz, g_fk_rz, g_fz_rz, g_fg_rz, g_rd_rz, g_rz_rz, g_rh_rz, g_nd_rz, g_nm_rz, g_nv_rz, g_nh_rz, g_nf_rz, g_wr_rz, g_wa_rz, g_lz_rz, g_lf_rz, g_li_rz, g_lt_rz, g_lb_rz, g_lr_rz, g_tn_rz, g_tf_rz, va_up, if_true]
/-! wishes: their tests -/
def ft_ok (x : zSt) (g : Nat) : Prop := g < x_ng x ∧ ∀ f, f < 4 → x_fz x g f ≤ 4
theorem ft_e {x : zSt} {g f : Nat} (h : ft_ok x g) (hf : f < 4) : zfte (pic x) (7, g, f) (8, g, f) (x_fk x g f) (x_fz x g f) (x_fg x g f) := ⟨p_fo h.1 hf, p_fg h.1 hf, h.2 f hf⟩
theorem fts_e {g f : Nat} (hf : f < 4) : x_fts g f = some (7, g, f) := if_pos hf
noncomputable def ws_met (x : zSt) (w : Nat) (g : Nat → Int32) : Bool := zd (∀ f, f < 4 → ft_pass (x_fk x w f) (x_fz x w f) (x_fg x w f) (g f) = true)
def ws_ok (x : zSt) (w : Nat) : Prop := w < x_ow x ∧ ft_ok x w
def T_Wsh_isMetBy (As : List zAV) (M : zMp) (Rt : Option zAV → zMp → Prop) : Prop := ∃ x w a g, As = [.inr (15, w, 0), .inr a] ∧ M = pic x ∧ ws_ok x w ∧ pic x a = some (zin 4 g) ∧ Rt (some (.inl (.int (zb (ws_met x w g))))) M
abbrev co_Wsh_isMetBy := co0
theorem dX5_isMetBy_0 : decode cX5_isMetBy 0 = .ok (.iconst 0, 1) := by decide +kernel
theorem dX5_isMetBy_1 : decode cX5_isMetBy 1 = .ok (.istore_n 2, 1) := by decide +kernel
theorem dX5_isMetBy_2 : decode cX5_isMetBy 2 = .ok (.iload_n 2, 1) := by decide +kernel
theorem dX5_isMetBy_3 : decode cX5_isMetBy 3 = .ok (.iconst 4, 1) := by decide +kernel
theorem dX5_isMetBy_4 : decode cX5_isMetBy 4 = .ok (.if_icmp .ge 26, 3) := by decide +kernel
theorem dX5_isMetBy_7 : decode cX5_isMetBy 7 = .ok (.aload_n 0, 1) := by decide +kernel
theorem dX5_isMetBy_8 : decode cX5_isMetBy 8 = .ok (.getfield 30, 3) := by decide +kernel
theorem dX5_isMetBy_11 : decode cX5_isMetBy 11 = .ok (.iload_n 2, 1) := by decide +kernel
theorem dX5_isMetBy_12 : decode cX5_isMetBy 12 = .ok (.aaload, 1) := by decide +kernel
theorem dX5_isMetBy_13 : decode cX5_isMetBy 13 = .ok (.aload_n 1, 1) := by decide +kernel
theorem dX5_isMetBy_14 : decode cX5_isMetBy 14 = .ok (.iload_n 2, 1) := by decide +kernel
theorem dX5_isMetBy_15 : decode cX5_isMetBy 15 = .ok (.iaload, 1) := by decide +kernel
theorem dX5_isMetBy_16 : decode cX5_isMetBy 16 = .ok (.invokevirtual 34, 3) := by decide +kernel
theorem dX5_isMetBy_19 : decode cX5_isMetBy 19 = .ok (.ifCond .ne 5, 3) := by decide +kernel
theorem dX5_isMetBy_22 : decode cX5_isMetBy 22 = .ok (.iconst 0, 1) := by decide +kernel
theorem dX5_isMetBy_23 : decode cX5_isMetBy 23 = .ok (.ireturn, 1) := by decide +kernel
theorem dX5_isMetBy_24 : decode cX5_isMetBy 24 = .ok (.iinc 2 1, 3) := by decide +kernel
theorem dX5_isMetBy_27 : decode cX5_isMetBy 27 = .ok (.goto (-25), 3) := by decide +kernel
theorem dX5_isMetBy_30 : decode cX5_isMetBy 30 = .ok (.iconst 1, 1) := by decide +kernel
theorem dX5_isMetBy_31 : decode cX5_isMetBy 31 = .ok (.ireturn, 1) := by decide +kernel
def B_Wsh_isMetBy_30 (mc ms : Nat) (Rt : Option zAV → zMp → Prop) (g : Nat → zKT) : zKT :=
  (i_ic 1 (i_zret mc ms Rt))
set_option maxRecDepth 20000 in
theorem s_Wsh_isMetBy_30 {X : zMa} {mc ms : Nat} {Rt : Option zAV → zMp → Prop} (hC : zCx X RX5 cX5_isMetBy 2 43 mc ms (some .boolean) false Rt) (hN : zNL X = 3) : zLe (B_Wsh_isMetBy_30 mc ms Rt (zG X)) (zG X 30) :=
  (sd_iconst hC (by decide) dX5_isMetBy_30 ((sd_zret hC dX5_isMetBy_31)))
def B_Wsh_isMetBy_24 (mc ms : Nat) (Rt : Option zAV → zMp → Prop) (g : Nat → zKT) : zKT :=
  (i_inc 2 1 (g 2))
set_option maxRecDepth 20000 in
theorem s_Wsh_isMetBy_24 {X : zMa} {mc ms : Nat} {Rt : Option zAV → zMp → Prop} (hC : zCx X RX5 cX5_isMetBy 2 43 mc ms (some .boolean) false Rt) (hN : zNL X = 3) : zLe (B_Wsh_isMetBy_24 mc ms Rt (zG X)) (zG X 24) :=
  (sd_inc hC (by decide) (by rw [hN]; decide) dX5_isMetBy_24 ((sd_goto hC (tgt := 2) (by decide) dX5_isMetBy_27 (zLe_rfl))))
def B_Wsh_isMetBy_2 (mc ms : Nat) (Rt : Option zAV → zMp → Prop) (g : Nat → zKT) : zKT :=
  (i_il 2 (i_ic 4 (i_icge (B_Wsh_isMetBy_30 mc ms Rt g) (i_al 0 (i_gf 6 2 (i_il 2 (i_aal "WishRoutes$FieldTest" (i_al 1 (i_il 2 (i_ial (i_callV mc ms 1 2 T_FT_passes co_FT_passes (i_ifne (B_Wsh_isMetBy_24 mc ms Rt g) (i_ic 0 (i_zret mc ms Rt))))))))))))))
set_option maxRecDepth 20000 in
theorem s_Wsh_isMetBy_2 {X : zMa} {mc ms : Nat} {Rt : Option zAV → zMp → Prop} (hC : zCx X RX5 cX5_isMetBy 2 43 mc ms (some .boolean) false Rt) (hN : zNL X = 3) : zLe (B_Wsh_isMetBy_2 mc ms Rt (zG X)) (zG X 2) :=
  (sd_il_n hC rfl dX5_isMetBy_2 ((sd_iconst hC (by decide) dX5_isMetBy_3 ((sd_icge hC (tgt := 30) (by decide) dX5_isMetBy_4 (s_Wsh_isMetBy_30 hC hN) ((sd_al_n hC rfl dX5_isMetBy_7 ((sd_gf hC (ci := 6) (fk := 2) rfl wi_Wsh (by decide) fl_Wsh_30 (Or.inl rfl) dX5_isMetBy_8 ((sd_il_n hC rfl dX5_isMetBy_11 ((sd_aal hC dX5_isMetBy_12 ((sd_al_n hC rfl dX5_isMetBy_13 ((sd_il_n hC rfl dX5_isMetBy_14 ((sd_ial hC dX5_isMetBy_15 ((sd_cV hC c_FT_passes yv_FT_passes (ci := 1) rfl rfl ml_Wsh_34 (by decide) (by decide) dX5_isMetBy_16 ((sd_ifne hC (tgt := 24) (by decide) dX5_isMetBy_19 (s_Wsh_isMetBy_24 hC hN) ((sd_iconst hC (by decide) dX5_isMetBy_22 ((sd_zret hC dX5_isMetBy_23)))))))))))))))))))))))))))
def B_Wsh_isMetBy_0 (mc ms : Nat) (Rt : Option zAV → zMp → Prop) (g : Nat → zKT) : zKT :=
  (i_ic 0 (i_is 2 (g 2)))
set_option maxRecDepth 20000 in
theorem s_Wsh_isMetBy_0 {X : zMa} {mc ms : Nat} {Rt : Option zAV → zMp → Prop} (hC : zCx X RX5 cX5_isMetBy 2 43 mc ms (some .boolean) false Rt) (hN : zNL X = 3) : zLe (B_Wsh_isMetBy_0 mc ms Rt (zG X)) (zG X 0) :=
  (sd_iconst hC (by decide) dX5_isMetBy_0 ((sd_is_n hC rfl (by rw [hN]; decide) dX5_isMetBy_1 (zLe_rfl))))
theorem c_Wsh_isMetBy (l : Launch) : zCT l yX5_isMetBy cX5_isMetBy 3 (some .boolean) 2 43 T_Wsh_isMetBy co_Wsh_isMetBy := by
  intro As M Rt hT
  obtain ⟨x, w, a, g, rfl, rfl, ⟨h1, h2⟩, h3, hR⟩ := hT
  refine zMet_of false (by decide +kernel) (fun h => by first | rfl | cases h) (Nat.le_of_ble_eq_true rfl) (fun X hN hC => ?_)
  show zG X 0 [some (.inr (15, w, 0)), some (.inr a), none] [] (pic x) 0 0
  have loop := upto (N := 4) (P := fun i => (∀ f, f < i → ft_pass (x_fk x w f) (x_fz x w f) (x_fg x w f) (g f) = true) → zG X 2 [some (.inr (15, w, 0)), some (.inr a), some (.inl (.int (nI i)))] [] (pic x) 0 0) (fun i hi ih hp => by
    refine s_Wsh_isMetBy_2 hC hN _ _ _ _ _ ?_
    simp only [B_Wsh_isMetBy_0, B_Wsh_isMetBy_2, B_Wsh_isMetBy_24, B_Wsh_isMetBy_30, co_FT_passes, co_Wsh_isMetBy, i_ic, i_lc, i_nul, i_il, i_ll, i_al, i_is, i_as, i_ls, i_inc, i_iadd, i_isub, i_imul, i_iand, i_ior, i_ixor, i_idiv, i_irem, i_ishl, i_ishr, i_ladd, i_lsub, i_land, i_lor, i_i2l, i_lushr, i_lshl, i_lshr, i_lcmp, i_dup, i_pop, i_dx1, i_dup2, i_ifeq, i_ifne, i_iflt, i_ifge, i_ifgt, i_ifle, i_iceq, i_icne, i_iclt, i_icge, i_icgt, i_icle, i_ifn, i_gf, i_pf, i_ial, i_bal, i_lal, i_aal, i_ias, i_las, i_bas, i_aas, i_alen, i_newa, i_new, i_anew, i_cast, i_oi, i_call, i_callV, i_callV2, i_callI, i_iret, i_zret, i_lret, i_vret, i_aret, i_mmx, i_mmn, i_gsE, i_aceq, i_no, i_acq, i_sw, zsw, zlg, zls, znl, zfg, zcs, zsp, zrc, zisn, zft, zc1, zto, Value.category, List.set_cons_zero, List.set_cons_succ, List.length_cons, List.length_nil, Option.toList, List.nil_append, List.cons_append, true_and, and_true, Nat.add_zero, Nat.zero_le, Nat.zero_add, Nat.le_refl, Nat.reduceAdd, Nat.reduceLeDiff, co0, z0, zn_0, zn_1, zn_2, zn_3, zn_4, zn_5, zn_8, zn_12, zn_24, zn_121, zn_144, zn_256, zn_300, zn_600, zn_720, zn_1204, zn_1280, zn_2400, zn_4816, zn_14400, zn_90000, p_wsh h1, x_wsh, p_fs h2.1, h3]
    rw [nI_clamp (by omega), fts_e hi]
    simp only [zov, p_fo h2.1 hi, h3, i_ic, i_lc, i_nul, i_il, i_ll, i_al, i_is, i_as, i_ls, i_inc, i_iadd, i_isub, i_imul, i_iand, i_ior, i_ixor, i_idiv, i_irem, i_ishl, i_ishr, i_ladd, i_lsub, i_land, i_lor, i_i2l, i_lushr, i_lshl, i_lshr, i_lcmp, i_dup, i_pop, i_dx1, i_dup2, i_ifeq, i_ifne, i_iflt, i_ifge, i_ifgt, i_ifle, i_iceq, i_icne, i_iclt, i_icge, i_icgt, i_icle, i_ifn, i_gf, i_pf, i_ial, i_bal, i_lal, i_aal, i_ias, i_las, i_bas, i_aas, i_alen, i_newa, i_new, i_anew, i_cast, i_oi, i_call, i_callV, i_callV2, i_callI, i_iret, i_zret, i_lret, i_vret, i_aret, i_mmx, i_mmn, i_gsE, i_aceq, i_no, i_acq, i_sw, zsw, zlg, zls, znl, zfg, zcs, zsp, zrc, zisn, zft, zc1, zto, Value.category, List.set_cons_zero, List.set_cons_succ, List.length_cons, List.length_nil, Option.toList, List.nil_append, List.cons_append, true_and, and_true, Nat.add_zero, Nat.zero_le, Nat.zero_add, Nat.le_refl, Nat.reduceAdd, Nat.reduceLeDiff, co0, z0, zn_0, zn_1, zn_2, zn_3, zn_4, zn_5, zn_8, zn_12, zn_24, zn_121, zn_144, zn_256, zn_300, zn_600, zn_720, zn_1204, zn_1280, zn_2400, zn_4816, zn_14400, zn_90000]
    rw [nI_1]
    have hin : vp_in (nI i) 4 := vp_in_nI hi (by decide)
    refine ⟨fun h => absurd ((zK (K := 4) (by decide) (n := i) (by omega)).2.1.mp h) (by omega), fun _ => ⟨hin, hin, (7, w, i), (8, w, i), _, _, _, g i, rfl, ft_e h2 hi, fun h => ?_, fun h => ⟨by decide, ?_⟩⟩⟩
    · refine ih (lt_s hp ?_)
      cases hb : ft_pass (x_fk x w i) (x_fz x w i) (x_fg x w i) (g i) with
      | true => rfl
      | false => exact absurd (zb_0.mpr hb) h
    · have : ws_met x w g = false := zd_f (fun z => by rw [z i hi] at h; exact absurd h (by decide))
      rw [this] at hR
      exact hR) (fun hp => by
    refine s_Wsh_isMetBy_2 hC hN _ _ _ _ _ ?_
    simp only [B_Wsh_isMetBy_0, B_Wsh_isMetBy_2, B_Wsh_isMetBy_24, B_Wsh_isMetBy_30, co_FT_passes, co_Wsh_isMetBy, i_ic, i_lc, i_nul, i_il, i_ll, i_al, i_is, i_as, i_ls, i_inc, i_iadd, i_isub, i_imul, i_iand, i_ior, i_ixor, i_idiv, i_irem, i_ishl, i_ishr, i_ladd, i_lsub, i_land, i_lor, i_i2l, i_lushr, i_lshl, i_lshr, i_lcmp, i_dup, i_pop, i_dx1, i_dup2, i_ifeq, i_ifne, i_iflt, i_ifge, i_ifgt, i_ifle, i_iceq, i_icne, i_iclt, i_icge, i_icgt, i_icle, i_ifn, i_gf, i_pf, i_ial, i_bal, i_lal, i_aal, i_ias, i_las, i_bas, i_aas, i_alen, i_newa, i_new, i_anew, i_cast, i_oi, i_call, i_callV, i_callV2, i_callI, i_iret, i_zret, i_lret, i_vret, i_aret, i_mmx, i_mmn, i_gsE, i_aceq, i_no, i_acq, i_sw, zsw, zlg, zls, znl, zfg, zcs, zsp, zrc, zisn, zft, zc1, zto, Value.category, List.set_cons_zero, List.set_cons_succ, List.length_cons, List.length_nil, Option.toList, List.nil_append, List.cons_append, true_and, and_true, Nat.add_zero, Nat.zero_le, Nat.zero_add, Nat.le_refl, Nat.reduceAdd, Nat.reduceLeDiff, co0, z0, zn_0, zn_1, zn_2, zn_3, zn_4, zn_5, zn_8, zn_12, zn_24, zn_121, zn_144, zn_256, zn_300, zn_600, zn_720, zn_1204, zn_1280, zn_2400, zn_4816, zn_14400, zn_90000, p_wsh h1, x_wsh]
    refine ⟨fun _ => ⟨by decide, ?_⟩, fun h => absurd (by decide) h⟩
    have : ws_met x w g = true := zd_t hp
    rw [this] at hR
    exact hR) 0 (Nat.zero_le _)
  refine s_Wsh_isMetBy_0 hC hN _ _ _ _ _ ?_
  simp only [B_Wsh_isMetBy_0, B_Wsh_isMetBy_2, B_Wsh_isMetBy_24, B_Wsh_isMetBy_30, co_FT_passes, co_Wsh_isMetBy, i_ic, i_lc, i_nul, i_il, i_ll, i_al, i_is, i_as, i_ls, i_inc, i_iadd, i_isub, i_imul, i_iand, i_ior, i_ixor, i_idiv, i_irem, i_ishl, i_ishr, i_ladd, i_lsub, i_land, i_lor, i_i2l, i_lushr, i_lshl, i_lshr, i_lcmp, i_dup, i_pop, i_dx1, i_dup2, i_ifeq, i_ifne, i_iflt, i_ifge, i_ifgt, i_ifle, i_iceq, i_icne, i_iclt, i_icge, i_icgt, i_icle, i_ifn, i_gf, i_pf, i_ial, i_bal, i_lal, i_aal, i_ias, i_las, i_bas, i_aas, i_alen, i_newa, i_new, i_anew, i_cast, i_oi, i_call, i_callV, i_callV2, i_callI, i_iret, i_zret, i_lret, i_vret, i_aret, i_mmx, i_mmn, i_gsE, i_aceq, i_no, i_acq, i_sw, zsw, zlg, zls, znl, zfg, zcs, zsp, zrc, zisn, zft, zc1, zto, Value.category, List.set_cons_zero, List.set_cons_succ, List.length_cons, List.length_nil, Option.toList, List.nil_append, List.cons_append, true_and, and_true, Nat.add_zero, Nat.zero_le, Nat.zero_add, Nat.le_refl, Nat.reduceAdd, Nat.reduceLeDiff, co0, z0, zn_0, zn_1, zn_2, zn_3, zn_4, zn_5, zn_8, zn_12, zn_24, zn_121, zn_144, zn_256, zn_300, zn_600, zn_720, zn_1204, zn_1280, zn_2400, zn_4816, zn_14400, zn_90000]
  exact loop (fun j hj => absurd hj (Nat.not_lt_zero j))
noncomputable def ws_never (x : zSt) (w : Nat) : Bool := zd (∃ f, f < 4 ∧ ft_none (x_fk x w f) (x_fg x w f) = true)
def T_Wsh_isNeverMet (As : List zAV) (M : zMp) (Rt : Option zAV → zMp → Prop) : Prop := ∃ x w, As = [.inr (15, w, 0)] ∧ M = pic x ∧ ws_ok x w ∧ Rt (some (.inl (.int (zb (ws_never x w))))) M
abbrev co_Wsh_isNeverMet := co0
theorem dX5_isNeverMet_0 : decode cX5_isNeverMet 0 = .ok (.iconst 0, 1) := by decide +kernel
theorem dX5_isNeverMet_1 : decode cX5_isNeverMet 1 = .ok (.istore_n 1, 1) := by decide +kernel
theorem dX5_isNeverMet_2 : decode cX5_isNeverMet 2 = .ok (.iload_n 1, 1) := by decide +kernel
theorem dX5_isNeverMet_3 : decode cX5_isNeverMet 3 = .ok (.iconst 4, 1) := by decide +kernel
theorem dX5_isNeverMet_4 : decode cX5_isNeverMet 4 = .ok (.if_icmp .ge 23, 3) := by decide +kernel
theorem dX5_isNeverMet_7 : decode cX5_isNeverMet 7 = .ok (.aload_n 0, 1) := by decide +kernel
theorem dX5_isNeverMet_8 : decode cX5_isNeverMet 8 = .ok (.getfield 30, 3) := by decide +kernel
theorem dX5_isNeverMet_11 : decode cX5_isNeverMet 11 = .ok (.iload_n 1, 1) := by decide +kernel
theorem dX5_isNeverMet_12 : decode cX5_isNeverMet 12 = .ok (.aaload, 1) := by decide +kernel
theorem dX5_isNeverMet_13 : decode cX5_isNeverMet 13 = .ok (.invokevirtual 48, 3) := by decide +kernel
theorem dX5_isNeverMet_16 : decode cX5_isNeverMet 16 = .ok (.ifCond .eq 5, 3) := by decide +kernel
theorem dX5_isNeverMet_19 : decode cX5_isNeverMet 19 = .ok (.iconst 1, 1) := by decide +kernel
theorem dX5_isNeverMet_20 : decode cX5_isNeverMet 20 = .ok (.ireturn, 1) := by decide +kernel
theorem dX5_isNeverMet_21 : decode cX5_isNeverMet 21 = .ok (.iinc 1 1, 3) := by decide +kernel
theorem dX5_isNeverMet_24 : decode cX5_isNeverMet 24 = .ok (.goto (-22), 3) := by decide +kernel
theorem dX5_isNeverMet_27 : decode cX5_isNeverMet 27 = .ok (.iconst 0, 1) := by decide +kernel
theorem dX5_isNeverMet_28 : decode cX5_isNeverMet 28 = .ok (.ireturn, 1) := by decide +kernel
def B_Wsh_isNeverMet_27 (mc ms : Nat) (Rt : Option zAV → zMp → Prop) (g : Nat → zKT) : zKT :=
  (i_ic 0 (i_zret mc ms Rt))
set_option maxRecDepth 20000 in
theorem s_Wsh_isNeverMet_27 {X : zMa} {mc ms : Nat} {Rt : Option zAV → zMp → Prop} (hC : zCx X RX5 cX5_isNeverMet 1 20 mc ms (some .boolean) false Rt) (hN : zNL X = 2) : zLe (B_Wsh_isNeverMet_27 mc ms Rt (zG X)) (zG X 27) :=
  (sd_iconst hC (by decide) dX5_isNeverMet_27 ((sd_zret hC dX5_isNeverMet_28)))
def B_Wsh_isNeverMet_21 (mc ms : Nat) (Rt : Option zAV → zMp → Prop) (g : Nat → zKT) : zKT :=
  (i_inc 1 1 (g 2))
set_option maxRecDepth 20000 in
theorem s_Wsh_isNeverMet_21 {X : zMa} {mc ms : Nat} {Rt : Option zAV → zMp → Prop} (hC : zCx X RX5 cX5_isNeverMet 1 20 mc ms (some .boolean) false Rt) (hN : zNL X = 2) : zLe (B_Wsh_isNeverMet_21 mc ms Rt (zG X)) (zG X 21) :=
  (sd_inc hC (by decide) (by rw [hN]; decide) dX5_isNeverMet_21 ((sd_goto hC (tgt := 2) (by decide) dX5_isNeverMet_24 (zLe_rfl))))
def B_Wsh_isNeverMet_2 (mc ms : Nat) (Rt : Option zAV → zMp → Prop) (g : Nat → zKT) : zKT :=
  (i_il 1 (i_ic 4 (i_icge (B_Wsh_isNeverMet_27 mc ms Rt g) (i_al 0 (i_gf 6 2 (i_il 1 (i_aal "WishRoutes$FieldTest" (i_callV mc ms 1 1 T_FT_passesNone co_FT_passesNone (i_ifeq (B_Wsh_isNeverMet_21 mc ms Rt g) (i_ic 1 (i_zret mc ms Rt)))))))))))
set_option maxRecDepth 20000 in
theorem s_Wsh_isNeverMet_2 {X : zMa} {mc ms : Nat} {Rt : Option zAV → zMp → Prop} (hC : zCx X RX5 cX5_isNeverMet 1 20 mc ms (some .boolean) false Rt) (hN : zNL X = 2) : zLe (B_Wsh_isNeverMet_2 mc ms Rt (zG X)) (zG X 2) :=
  (sd_il_n hC rfl dX5_isNeverMet_2 ((sd_iconst hC (by decide) dX5_isNeverMet_3 ((sd_icge hC (tgt := 27) (by decide) dX5_isNeverMet_4 (s_Wsh_isNeverMet_27 hC hN) ((sd_al_n hC rfl dX5_isNeverMet_7 ((sd_gf hC (ci := 6) (fk := 2) rfl wi_Wsh (by decide) fl_Wsh_30 (Or.inl rfl) dX5_isNeverMet_8 ((sd_il_n hC rfl dX5_isNeverMet_11 ((sd_aal hC dX5_isNeverMet_12 ((sd_cV hC c_FT_passesNone yv_FT_passesNone (ci := 1) rfl rfl ml_Wsh_48 (by decide) (by decide) dX5_isNeverMet_13 ((sd_ifeq hC (tgt := 21) (by decide) dX5_isNeverMet_16 (s_Wsh_isNeverMet_21 hC hN) ((sd_iconst hC (by decide) dX5_isNeverMet_19 ((sd_zret hC dX5_isNeverMet_20)))))))))))))))))))))
def B_Wsh_isNeverMet_0 (mc ms : Nat) (Rt : Option zAV → zMp → Prop) (g : Nat → zKT) : zKT :=
  (i_ic 0 (i_is 1 (g 2)))
set_option maxRecDepth 20000 in
theorem s_Wsh_isNeverMet_0 {X : zMa} {mc ms : Nat} {Rt : Option zAV → zMp → Prop} (hC : zCx X RX5 cX5_isNeverMet 1 20 mc ms (some .boolean) false Rt) (hN : zNL X = 2) : zLe (B_Wsh_isNeverMet_0 mc ms Rt (zG X)) (zG X 0) :=
  (sd_iconst hC (by decide) dX5_isNeverMet_0 ((sd_is_n hC rfl (by rw [hN]; decide) dX5_isNeverMet_1 (zLe_rfl))))
theorem c_Wsh_isNeverMet (l : Launch) : zCT l yX5_isNeverMet cX5_isNeverMet 2 (some .boolean) 1 20 T_Wsh_isNeverMet co_Wsh_isNeverMet := by
  intro As M Rt hT
  obtain ⟨x, w, rfl, rfl, ⟨h1, h2⟩, hR⟩ := hT
  refine zMet_of false (by decide +kernel) (fun h => by first | rfl | cases h) (Nat.le_of_ble_eq_true rfl) (fun X hN hC => ?_)
  show zG X 0 [some (.inr (15, w, 0)), none] [] (pic x) 0 0
  have loop := upto (N := 4) (P := fun i => (∀ f, f < i → ¬ ft_none (x_fk x w f) (x_fg x w f) = true) → zG X 2 [some (.inr (15, w, 0)), some (.inl (.int (nI i)))] [] (pic x) 0 0) (fun i hi ih hp => by
    refine s_Wsh_isNeverMet_2 hC hN _ _ _ _ _ ?_
    simp only [B_Wsh_isNeverMet_0, B_Wsh_isNeverMet_2, B_Wsh_isNeverMet_21, B_Wsh_isNeverMet_27, co_FT_passesNone, co_Wsh_isNeverMet, i_ic, i_lc, i_nul, i_il, i_ll, i_al, i_is, i_as, i_ls, i_inc, i_iadd, i_isub, i_imul, i_iand, i_ior, i_ixor, i_idiv, i_irem, i_ishl, i_ishr, i_ladd, i_lsub, i_land, i_lor, i_i2l, i_lushr, i_lshl, i_lshr, i_lcmp, i_dup, i_pop, i_dx1, i_dup2, i_ifeq, i_ifne, i_iflt, i_ifge, i_ifgt, i_ifle, i_iceq, i_icne, i_iclt, i_icge, i_icgt, i_icle, i_ifn, i_gf, i_pf, i_ial, i_bal, i_lal, i_aal, i_ias, i_las, i_bas, i_aas, i_alen, i_newa, i_new, i_anew, i_cast, i_oi, i_call, i_callV, i_callV2, i_callI, i_iret, i_zret, i_lret, i_vret, i_aret, i_mmx, i_mmn, i_gsE, i_aceq, i_no, i_acq, i_sw, zsw, zlg, zls, znl, zfg, zcs, zsp, zrc, zisn, zft, zc1, zto, Value.category, List.set_cons_zero, List.set_cons_succ, List.length_cons, List.length_nil, Option.toList, List.nil_append, List.cons_append, true_and, and_true, Nat.add_zero, Nat.zero_le, Nat.zero_add, Nat.le_refl, Nat.reduceAdd, Nat.reduceLeDiff, co0, z0, zn_0, zn_1, zn_2, zn_3, zn_4, zn_5, zn_8, zn_12, zn_24, zn_121, zn_144, zn_256, zn_300, zn_600, zn_720, zn_1204, zn_1280, zn_2400, zn_4816, zn_14400, zn_90000, p_wsh h1, x_wsh, p_fs h2.1]
    rw [nI_clamp (by omega), fts_e hi]
    simp only [zov, p_fo h2.1 hi, i_ic, i_lc, i_nul, i_il, i_ll, i_al, i_is, i_as, i_ls, i_inc, i_iadd, i_isub, i_imul, i_iand, i_ior, i_ixor, i_idiv, i_irem, i_ishl, i_ishr, i_ladd, i_lsub, i_land, i_lor, i_i2l, i_lushr, i_lshl, i_lshr, i_lcmp, i_dup, i_pop, i_dx1, i_dup2, i_ifeq, i_ifne, i_iflt, i_ifge, i_ifgt, i_ifle, i_iceq, i_icne, i_iclt, i_icge, i_icgt, i_icle, i_ifn, i_gf, i_pf, i_ial, i_bal, i_lal, i_aal, i_ias, i_las, i_bas, i_aas, i_alen, i_newa, i_new, i_anew, i_cast, i_oi, i_call, i_callV, i_callV2, i_callI, i_iret, i_zret, i_lret, i_vret, i_aret, i_mmx, i_mmn, i_gsE, i_aceq, i_no, i_acq, i_sw, zsw, zlg, zls, znl, zfg, zcs, zsp, zrc, zisn, zft, zc1, zto, Value.category, List.set_cons_zero, List.set_cons_succ, List.length_cons, List.length_nil, Option.toList, List.nil_append, List.cons_append, true_and, and_true, Nat.add_zero, Nat.zero_le, Nat.zero_add, Nat.le_refl, Nat.reduceAdd, Nat.reduceLeDiff, co0, z0, zn_0, zn_1, zn_2, zn_3, zn_4, zn_5, zn_8, zn_12, zn_24, zn_121, zn_144, zn_256, zn_300, zn_600, zn_720, zn_1204, zn_1280, zn_2400, zn_4816, zn_14400, zn_90000]
    rw [nI_1]
    have hin : vp_in (nI i) 4 := vp_in_nI hi (by decide)
    refine ⟨fun h => absurd ((zK (K := 4) (by decide) (n := i) (by omega)).2.1.mp h) (by omega), fun _ => ⟨hin, (7, w, i), (8, w, i), _, _, _, rfl, ft_e h2 hi, fun h => ?_, fun h => ⟨by decide, ?_⟩⟩⟩
    · refine ih (lt_s hp ?_)
      rw [zb_0.mp h]
      decide
    · have : ws_never x w = true := zd_t ⟨i, hi, by
        cases hb : ft_none (x_fk x w i) (x_fg x w i) with
        | true => rfl
        | false => exact absurd (zb_0.mpr hb) h⟩
      rw [this] at hR
      exact hR) (fun hp => by
    refine s_Wsh_isNeverMet_2 hC hN _ _ _ _ _ ?_
    simp only [B_Wsh_isNeverMet_0, B_Wsh_isNeverMet_2, B_Wsh_isNeverMet_21, B_Wsh_isNeverMet_27, co_FT_passesNone, co_Wsh_isNeverMet, i_ic, i_lc, i_nul, i_il, i_ll, i_al, i_is, i_as, i_ls, i_inc, i_iadd, i_isub, i_imul, i_iand, i_ior, i_ixor, i_idiv, i_irem, i_ishl, i_ishr, i_ladd, i_lsub, i_land, i_lor, i_i2l, i_lushr, i_lshl, i_lshr, i_lcmp, i_dup, i_pop, i_dx1, i_dup2, i_ifeq, i_ifne, i_iflt, i_ifge, i_ifgt, i_ifle, i_iceq, i_icne, i_iclt, i_icge, i_icgt, i_icle, i_ifn, i_gf, i_pf, i_ial, i_bal, i_lal, i_aal, i_ias, i_las, i_bas, i_aas, i_alen, i_newa, i_new, i_anew, i_cast, i_oi, i_call, i_callV, i_callV2, i_callI, i_iret, i_zret, i_lret, i_vret, i_aret, i_mmx, i_mmn, i_gsE, i_aceq, i_no, i_acq, i_sw, zsw, zlg, zls, znl, zfg, zcs, zsp, zrc, zisn, zft, zc1, zto, Value.category, List.set_cons_zero, List.set_cons_succ, List.length_cons, List.length_nil, Option.toList, List.nil_append, List.cons_append, true_and, and_true, Nat.add_zero, Nat.zero_le, Nat.zero_add, Nat.le_refl, Nat.reduceAdd, Nat.reduceLeDiff, co0, z0, zn_0, zn_1, zn_2, zn_3, zn_4, zn_5, zn_8, zn_12, zn_24, zn_121, zn_144, zn_256, zn_300, zn_600, zn_720, zn_1204, zn_1280, zn_2400, zn_4816, zn_14400, zn_90000, p_wsh h1, x_wsh]
    refine ⟨fun _ => ⟨by decide, ?_⟩, fun h => absurd (by decide) h⟩
    have : ws_never x w = false := zd_f (fun ⟨f, hf, hz⟩ => hp f hf hz)
    rw [this] at hR
    exact hR) 0 (Nat.zero_le _)
  refine s_Wsh_isNeverMet_0 hC hN _ _ _ _ _ ?_
  simp only [B_Wsh_isNeverMet_0, B_Wsh_isNeverMet_2, B_Wsh_isNeverMet_21, B_Wsh_isNeverMet_27, co_FT_passesNone, co_Wsh_isNeverMet, i_ic, i_lc, i_nul, i_il, i_ll, i_al, i_is, i_as, i_ls, i_inc, i_iadd, i_isub, i_imul, i_iand, i_ior, i_ixor, i_idiv, i_irem, i_ishl, i_ishr, i_ladd, i_lsub, i_land, i_lor, i_i2l, i_lushr, i_lshl, i_lshr, i_lcmp, i_dup, i_pop, i_dx1, i_dup2, i_ifeq, i_ifne, i_iflt, i_ifge, i_ifgt, i_ifle, i_iceq, i_icne, i_iclt, i_icge, i_icgt, i_icle, i_ifn, i_gf, i_pf, i_ial, i_bal, i_lal, i_aal, i_ias, i_las, i_bas, i_aas, i_alen, i_newa, i_new, i_anew, i_cast, i_oi, i_call, i_callV, i_callV2, i_callI, i_iret, i_zret, i_lret, i_vret, i_aret, i_mmx, i_mmn, i_gsE, i_aceq, i_no, i_acq, i_sw, zsw, zlg, zls, znl, zfg, zcs, zsp, zrc, zisn, zft, zc1, zto, Value.category, List.set_cons_zero, List.set_cons_succ, List.length_cons, List.length_nil, Option.toList, List.nil_append, List.cons_append, true_and, and_true, Nat.add_zero, Nat.zero_le, Nat.zero_add, Nat.le_refl, Nat.reduceAdd, Nat.reduceLeDiff, co0, z0, zn_0, zn_1, zn_2, zn_3, zn_4, zn_5, zn_8, zn_12, zn_24, zn_121, zn_144, zn_256, zn_300, zn_600, zn_720, zn_1204, zn_1280, zn_2400, zn_4816, zn_14400, zn_90000]
  exact loop (fun j hj => absurd hj (Nat.not_lt_zero j))
noncomputable def ws_wide (x : zSt) (w w' : Nat) (f : Nat) : Bool := ft_wide (x_fk x w f) (x_fz x w f) (x_fg x w f) (x_fk x w' f) (x_fz x w' f) (x_fg x w' f)
noncomputable def ws_takes (x : zSt) (w w' : Nat) : Bool := zd (ws_never x w' = true ∨ ∀ f, f < 4 → ws_wide x w w' f = true)
def T_Wsh_takesIn (As : List zAV) (M : zMp) (Rt : Option zAV → zMp → Prop) : Prop := ∃ x w w', As = [.inr (15, w, 0), .inr (15, w', 0)] ∧ M = pic x ∧ ws_ok x w ∧ ws_ok x w' ∧ Rt (some (.inl (.int (zb (ws_takes x w w'))))) M
abbrev co_Wsh_takesIn := co0
theorem dX5_takesIn_0 : decode cX5_takesIn 0 = .ok (.aload_n 1, 1) := by decide +kernel
theorem dX5_takesIn_1 : decode cX5_takesIn 1 = .ok (.invokevirtual 40, 3) := by decide +kernel
theorem dX5_takesIn_4 : decode cX5_takesIn 4 = .ok (.ifCond .eq 5, 3) := by decide +kernel
theorem dX5_takesIn_7 : decode cX5_takesIn 7 = .ok (.iconst 1, 1) := by decide +kernel
theorem dX5_takesIn_8 : decode cX5_takesIn 8 = .ok (.ireturn, 1) := by decide +kernel
theorem dX5_takesIn_9 : decode cX5_takesIn 9 = .ok (.iconst 0, 1) := by decide +kernel
theorem dX5_takesIn_10 : decode cX5_takesIn 10 = .ok (.istore_n 2, 1) := by decide +kernel
theorem dX5_takesIn_11 : decode cX5_takesIn 11 = .ok (.iload_n 2, 1) := by decide +kernel
theorem dX5_takesIn_12 : decode cX5_takesIn 12 = .ok (.iconst 4, 1) := by decide +kernel
theorem dX5_takesIn_13 : decode cX5_takesIn 13 = .ok (.if_icmp .ge 29, 3) := by decide +kernel
theorem dX5_takesIn_16 : decode cX5_takesIn 16 = .ok (.aload_n 0, 1) := by decide +kernel
theorem dX5_takesIn_17 : decode cX5_takesIn 17 = .ok (.getfield 30, 3) := by decide +kernel
theorem dX5_takesIn_20 : decode cX5_takesIn 20 = .ok (.iload_n 2, 1) := by decide +kernel
theorem dX5_takesIn_21 : decode cX5_takesIn 21 = .ok (.aaload, 1) := by decide +kernel
theorem dX5_takesIn_22 : decode cX5_takesIn 22 = .ok (.aload_n 1, 1) := by decide +kernel
theorem dX5_takesIn_23 : decode cX5_takesIn 23 = .ok (.getfield 30, 3) := by decide +kernel
theorem dX5_takesIn_26 : decode cX5_takesIn 26 = .ok (.iload_n 2, 1) := by decide +kernel
theorem dX5_takesIn_27 : decode cX5_takesIn 27 = .ok (.aaload, 1) := by decide +kernel
theorem dX5_takesIn_28 : decode cX5_takesIn 28 = .ok (.invokevirtual 44, 3) := by decide +kernel
theorem dX5_takesIn_31 : decode cX5_takesIn 31 = .ok (.ifCond .ne 5, 3) := by decide +kernel
theorem dX5_takesIn_34 : decode cX5_takesIn 34 = .ok (.iconst 0, 1) := by decide +kernel
theorem dX5_takesIn_35 : decode cX5_takesIn 35 = .ok (.ireturn, 1) := by decide +kernel
theorem dX5_takesIn_36 : decode cX5_takesIn 36 = .ok (.iinc 2 1, 3) := by decide +kernel
theorem dX5_takesIn_39 : decode cX5_takesIn 39 = .ok (.goto (-28), 3) := by decide +kernel
theorem dX5_takesIn_42 : decode cX5_takesIn 42 = .ok (.iconst 1, 1) := by decide +kernel
theorem dX5_takesIn_43 : decode cX5_takesIn 43 = .ok (.ireturn, 1) := by decide +kernel
def B_Wsh_takesIn_42 (mc ms : Nat) (Rt : Option zAV → zMp → Prop) (g : Nat → zKT) : zKT :=
  (i_ic 1 (i_zret mc ms Rt))
set_option maxRecDepth 20000 in
theorem s_Wsh_takesIn_42 {X : zMa} {mc ms : Nat} {Rt : Option zAV → zMp → Prop} (hC : zCx X RX5 cX5_takesIn 4 91 mc ms (some .boolean) false Rt) (hN : zNL X = 3) : zLe (B_Wsh_takesIn_42 mc ms Rt (zG X)) (zG X 42) :=
  (sd_iconst hC (by decide) dX5_takesIn_42 ((sd_zret hC dX5_takesIn_43)))
def B_Wsh_takesIn_36 (mc ms : Nat) (Rt : Option zAV → zMp → Prop) (g : Nat → zKT) : zKT :=
  (i_inc 2 1 (g 11))
set_option maxRecDepth 20000 in
theorem s_Wsh_takesIn_36 {X : zMa} {mc ms : Nat} {Rt : Option zAV → zMp → Prop} (hC : zCx X RX5 cX5_takesIn 4 91 mc ms (some .boolean) false Rt) (hN : zNL X = 3) : zLe (B_Wsh_takesIn_36 mc ms Rt (zG X)) (zG X 36) :=
  (sd_inc hC (by decide) (by rw [hN]; decide) dX5_takesIn_36 ((sd_goto hC (tgt := 11) (by decide) dX5_takesIn_39 (zLe_rfl))))
def B_Wsh_takesIn_11 (mc ms : Nat) (Rt : Option zAV → zMp → Prop) (g : Nat → zKT) : zKT :=
  (i_il 2 (i_ic 4 (i_icge (B_Wsh_takesIn_42 mc ms Rt g) (i_al 0 (i_gf 6 2 (i_il 2 (i_aal "WishRoutes$FieldTest" (i_al 1 (i_gf 6 2 (i_il 2 (i_aal "WishRoutes$FieldTest" (i_callV mc ms 1 2 T_FT_isAsWideAs co_FT_isAsWideAs (i_ifne (B_Wsh_takesIn_36 mc ms Rt g) (i_ic 0 (i_zret mc ms Rt)))))))))))))))
set_option maxRecDepth 20000 in
theorem s_Wsh_takesIn_11 {X : zMa} {mc ms : Nat} {Rt : Option zAV → zMp → Prop} (hC : zCx X RX5 cX5_takesIn 4 91 mc ms (some .boolean) false Rt) (hN : zNL X = 3) : zLe (B_Wsh_takesIn_11 mc ms Rt (zG X)) (zG X 11) :=
  (sd_il_n hC rfl dX5_takesIn_11 ((sd_iconst hC (by decide) dX5_takesIn_12 ((sd_icge hC (tgt := 42) (by decide) dX5_takesIn_13 (s_Wsh_takesIn_42 hC hN) ((sd_al_n hC rfl dX5_takesIn_16 ((sd_gf hC (ci := 6) (fk := 2) rfl wi_Wsh (by decide) fl_Wsh_30 (Or.inl rfl) dX5_takesIn_17 ((sd_il_n hC rfl dX5_takesIn_20 ((sd_aal hC dX5_takesIn_21 ((sd_al_n hC rfl dX5_takesIn_22 ((sd_gf hC (ci := 6) (fk := 2) rfl wi_Wsh (by decide) fl_Wsh_30 (Or.inl rfl) dX5_takesIn_23 ((sd_il_n hC rfl dX5_takesIn_26 ((sd_aal hC dX5_takesIn_27 ((sd_cV hC c_FT_isAsWideAs yv_FT_isAsWideAs (ci := 1) rfl rfl ml_Wsh_44 (by decide) (by decide) dX5_takesIn_28 ((sd_ifne hC (tgt := 36) (by decide) dX5_takesIn_31 (s_Wsh_takesIn_36 hC hN) ((sd_iconst hC (by decide) dX5_takesIn_34 ((sd_zret hC dX5_takesIn_35)))))))))))))))))))))))))))))
def B_Wsh_takesIn_9 (mc ms : Nat) (Rt : Option zAV → zMp → Prop) (g : Nat → zKT) : zKT :=
  (i_ic 0 (i_is 2 (g 11)))
set_option maxRecDepth 20000 in
theorem s_Wsh_takesIn_9 {X : zMa} {mc ms : Nat} {Rt : Option zAV → zMp → Prop} (hC : zCx X RX5 cX5_takesIn 4 91 mc ms (some .boolean) false Rt) (hN : zNL X = 3) : zLe (B_Wsh_takesIn_9 mc ms Rt (zG X)) (zG X 9) :=
  (sd_iconst hC (by decide) dX5_takesIn_9 ((sd_is_n hC rfl (by rw [hN]; decide) dX5_takesIn_10 (zLe_rfl))))
def B_Wsh_takesIn_0 (mc ms : Nat) (Rt : Option zAV → zMp → Prop) (g : Nat → zKT) : zKT :=
  (i_al 1 (i_callV mc ms 6 1 T_Wsh_isNeverMet co_Wsh_isNeverMet (i_ifeq (B_Wsh_takesIn_9 mc ms Rt g) (i_ic 1 (i_zret mc ms Rt)))))
set_option maxRecDepth 20000 in
theorem s_Wsh_takesIn_0 {X : zMa} {mc ms : Nat} {Rt : Option zAV → zMp → Prop} (hC : zCx X RX5 cX5_takesIn 4 91 mc ms (some .boolean) false Rt) (hN : zNL X = 3) : zLe (B_Wsh_takesIn_0 mc ms Rt (zG X)) (zG X 0) :=
  (sd_al_n hC rfl dX5_takesIn_0 ((sd_cV hC c_Wsh_isNeverMet yv_Wsh_isNeverMet (ci := 6) rfl rfl ml_Wsh_40 (by decide) (by decide) dX5_takesIn_1 ((sd_ifeq hC (tgt := 9) (by decide) dX5_takesIn_4 (s_Wsh_takesIn_9 hC hN) ((sd_iconst hC (by decide) dX5_takesIn_7 ((sd_zret hC dX5_takesIn_8)))))))))
theorem c_Wsh_takesIn (l : Launch) : zCT l yX5_takesIn cX5_takesIn 3 (some .boolean) 4 91 T_Wsh_takesIn co_Wsh_takesIn := by
  intro As M Rt hT
  obtain ⟨x, w, w', rfl, rfl, ⟨h1, h2⟩, ⟨h1', h2'⟩, hR⟩ := hT
  refine zMet_of false (by decide +kernel) (fun h => by first | rfl | cases h) (Nat.le_of_ble_eq_true rfl) (fun X hN hC => ?_)
  show zG X 0 [some (.inr (15, w, 0)), some (.inr (15, w', 0)), none] [] (pic x) 0 0
  have loop := fun (hnv : ¬ ws_never x w' = true) => upto (N := 4) (P := fun i => (∀ f, f < i → ws_wide x w w' f = true) → zG X 11 [some (.inr (15, w, 0)), some (.inr (15, w', 0)), some (.inl (.int (nI i)))] [] (pic x) 0 0) (fun i hi ih hp => by
    refine s_Wsh_takesIn_11 hC hN _ _ _ _ _ ?_
    simp only [B_Wsh_takesIn_0, B_Wsh_takesIn_9, B_Wsh_takesIn_11, B_Wsh_takesIn_36, B_Wsh_takesIn_42, co_FT_isAsWideAs, co_Wsh_isNeverMet, co_Wsh_takesIn, i_ic, i_lc, i_nul, i_il, i_ll, i_al, i_is, i_as, i_ls, i_inc, i_iadd, i_isub, i_imul, i_iand, i_ior, i_ixor, i_idiv, i_irem, i_ishl, i_ishr, i_ladd, i_lsub, i_land, i_lor, i_i2l, i_lushr, i_lshl, i_lshr, i_lcmp, i_dup, i_pop, i_dx1, i_dup2, i_ifeq, i_ifne, i_iflt, i_ifge, i_ifgt, i_ifle, i_iceq, i_icne, i_iclt, i_icge, i_icgt, i_icle, i_ifn, i_gf, i_pf, i_ial, i_bal, i_lal, i_aal, i_ias, i_las, i_bas, i_aas, i_alen, i_newa, i_new, i_anew, i_cast, i_oi, i_call, i_callV, i_callV2, i_callI, i_iret, i_zret, i_lret, i_vret, i_aret, i_mmx, i_mmn, i_gsE, i_aceq, i_no, i_acq, i_sw, zsw, zlg, zls, znl, zfg, zcs, zsp, zrc, zisn, zft, zc1, zto, Value.category, List.set_cons_zero, List.set_cons_succ, List.length_cons, List.length_nil, Option.toList, List.nil_append, List.cons_append, true_and, and_true, Nat.add_zero, Nat.zero_le, Nat.zero_add, Nat.le_refl, Nat.reduceAdd, Nat.reduceLeDiff, co0, z0, zn_0, zn_1, zn_2, zn_3, zn_4, zn_5, zn_8, zn_12, zn_24, zn_121, zn_144, zn_256, zn_300, zn_600, zn_720, zn_1204, zn_1280, zn_2400, zn_4816, zn_14400, zn_90000, p_wsh h1, p_wsh h1', x_wsh, p_fs h2.1, p_fs h2'.1]
    rw [nI_clamp (by omega), fts_e hi, fts_e hi]
    simp only [zov, p_fo h2.1 hi, i_ic, i_lc, i_nul, i_il, i_ll, i_al, i_is, i_as, i_ls, i_inc, i_iadd, i_isub, i_imul, i_iand, i_ior, i_ixor, i_idiv, i_irem, i_ishl, i_ishr, i_ladd, i_lsub, i_land, i_lor, i_i2l, i_lushr, i_lshl, i_lshr, i_lcmp, i_dup, i_pop, i_dx1, i_dup2, i_ifeq, i_ifne, i_iflt, i_ifge, i_ifgt, i_ifle, i_iceq, i_icne, i_iclt, i_icge, i_icgt, i_icle, i_ifn, i_gf, i_pf, i_ial, i_bal, i_lal, i_aal, i_ias, i_las, i_bas, i_aas, i_alen, i_newa, i_new, i_anew, i_cast, i_oi, i_call, i_callV, i_callV2, i_callI, i_iret, i_zret, i_lret, i_vret, i_aret, i_mmx, i_mmn, i_gsE, i_aceq, i_no, i_acq, i_sw, zsw, zlg, zls, znl, zfg, zcs, zsp, zrc, zisn, zft, zc1, zto, Value.category, List.set_cons_zero, List.set_cons_succ, List.length_cons, List.length_nil, Option.toList, List.nil_append, List.cons_append, true_and, and_true, Nat.add_zero, Nat.zero_le, Nat.zero_add, Nat.le_refl, Nat.reduceAdd, Nat.reduceLeDiff, co0, z0, zn_0, zn_1, zn_2, zn_3, zn_4, zn_5, zn_8, zn_12, zn_24, zn_121, zn_144, zn_256, zn_300, zn_600, zn_720, zn_1204, zn_1280, zn_2400, zn_4816, zn_14400, zn_90000]
    rw [nI_1]
    have hin : vp_in (nI i) 4 := vp_in_nI hi (by decide)
    refine ⟨fun h => absurd ((zK (K := 4) (by decide) (n := i) (by omega)).2.1.mp h) (by omega), fun _ => ⟨hin, hin, (7, w, i), (8, w, i), _, _, _, (7, w', i), (8, w', i), _, _, _, rfl, ft_e h2 hi, ft_e h2' hi, fun h => ?_, fun h => ⟨by decide, ?_⟩⟩⟩
    · refine ih (lt_s hp ?_)
      cases hb : ws_wide x w w' i with
      | true => rfl
      | false => exact absurd (zb_0.mpr hb) h
    · have : ws_takes x w w' = false := zd_f (fun z => by
        rcases z with z | z
        · exact hnv z
        · have h0 := zb_0.mp h
          have h1 := z i hi
          unfold ws_wide at h1
          rw [h1] at h0
          cases h0)
      rw [this] at hR
      exact hR) (fun hp => by
    refine s_Wsh_takesIn_11 hC hN _ _ _ _ _ ?_
    simp only [B_Wsh_takesIn_0, B_Wsh_takesIn_9, B_Wsh_takesIn_11, B_Wsh_takesIn_36, B_Wsh_takesIn_42, co_FT_isAsWideAs, co_Wsh_isNeverMet, co_Wsh_takesIn, i_ic, i_lc, i_nul, i_il, i_ll, i_al, i_is, i_as, i_ls, i_inc, i_iadd, i_isub, i_imul, i_iand, i_ior, i_ixor, i_idiv, i_irem, i_ishl, i_ishr, i_ladd, i_lsub, i_land, i_lor, i_i2l, i_lushr, i_lshl, i_lshr, i_lcmp, i_dup, i_pop, i_dx1, i_dup2, i_ifeq, i_ifne, i_iflt, i_ifge, i_ifgt, i_ifle, i_iceq, i_icne, i_iclt, i_icge, i_icgt, i_icle, i_ifn, i_gf, i_pf, i_ial, i_bal, i_lal, i_aal, i_ias, i_las, i_bas, i_aas, i_alen, i_newa, i_new, i_anew, i_cast, i_oi, i_call, i_callV, i_callV2, i_callI, i_iret, i_zret, i_lret, i_vret, i_aret, i_mmx, i_mmn, i_gsE, i_aceq, i_no, i_acq, i_sw, zsw, zlg, zls, znl, zfg, zcs, zsp, zrc, zisn, zft, zc1, zto, Value.category, List.set_cons_zero, List.set_cons_succ, List.length_cons, List.length_nil, Option.toList, List.nil_append, List.cons_append, true_and, and_true, Nat.add_zero, Nat.zero_le, Nat.zero_add, Nat.le_refl, Nat.reduceAdd, Nat.reduceLeDiff, co0, z0, zn_0, zn_1, zn_2, zn_3, zn_4, zn_5, zn_8, zn_12, zn_24, zn_121, zn_144, zn_256, zn_300, zn_600, zn_720, zn_1204, zn_1280, zn_2400, zn_4816, zn_14400, zn_90000, p_wsh h1, x_wsh]
    refine ⟨fun _ => ⟨by decide, ?_⟩, fun h => absurd (by decide) h⟩
    have : ws_takes x w w' = true := zd_t (Or.inr hp)
    rw [this] at hR
    exact hR) 0 (Nat.zero_le _)
  refine s_Wsh_takesIn_0 hC hN _ _ _ _ _ ?_
  simp only [B_Wsh_takesIn_0, B_Wsh_takesIn_9, B_Wsh_takesIn_11, B_Wsh_takesIn_36, B_Wsh_takesIn_42, co_FT_isAsWideAs, co_Wsh_isNeverMet, co_Wsh_takesIn, i_ic, i_lc, i_nul, i_il, i_ll, i_al, i_is, i_as, i_ls, i_inc, i_iadd, i_isub, i_imul, i_iand, i_ior, i_ixor, i_idiv, i_irem, i_ishl, i_ishr, i_ladd, i_lsub, i_land, i_lor, i_i2l, i_lushr, i_lshl, i_lshr, i_lcmp, i_dup, i_pop, i_dx1, i_dup2, i_ifeq, i_ifne, i_iflt, i_ifge, i_ifgt, i_ifle, i_iceq, i_icne, i_iclt, i_icge, i_icgt, i_icle, i_ifn, i_gf, i_pf, i_ial, i_bal, i_lal, i_aal, i_ias, i_las, i_bas, i_aas, i_alen, i_newa, i_new, i_anew, i_cast, i_oi, i_call, i_callV, i_callV2, i_callI, i_iret, i_zret, i_lret, i_vret, i_aret, i_mmx, i_mmn, i_gsE, i_aceq, i_no, i_acq, i_sw, zsw, zlg, zls, znl, zfg, zcs, zsp, zrc, zisn, zft, zc1, zto, Value.category, List.set_cons_zero, List.set_cons_succ, List.length_cons, List.length_nil, Option.toList, List.nil_append, List.cons_append, true_and, and_true, Nat.add_zero, Nat.zero_le, Nat.zero_add, Nat.le_refl, Nat.reduceAdd, Nat.reduceLeDiff, co0, z0, zn_0, zn_1, zn_2, zn_3, zn_4, zn_5, zn_8, zn_12, zn_24, zn_121, zn_144, zn_256, zn_300, zn_600, zn_720, zn_1204, zn_1280, zn_2400, zn_4816, zn_14400, zn_90000, p_wsh h1', x_wsh]
  refine ⟨x, w', rfl, rfl, ⟨h1', h2'⟩, fun h => ?_, fun h => ⟨by decide, ?_⟩⟩
  · have hnv : ¬ ws_never x w' = true := by rw [zb_0.mp h]; decide
    exact loop hnv (fun j hj => absurd hj (Nat.not_lt_zero j))
  · have hv : ws_never x w' = true := by
      cases hb : ws_never x w' with
      | true => rfl
      | false => exact absurd (zb_0.mpr hb) h
    have : ws_takes x w w' = true := zd_t (Or.inl hv)
    rw [this] at hR
    exact hR
end
