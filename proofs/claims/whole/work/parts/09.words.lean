theorem tb_t {w : Cond} (i : Nat) (h : tables_1[i]? = some w) (g : goodWord w = true) : w ∈ tb := tb_of (List.mem_append_right _ (List.mem_of_getElem? h)) g
theorem tb_s {q : MethodName × Nat} (i : Nat) (h : lw_privs[i]? = some q) : Cond.selects q.1.cls q.1 q.1 ∈ tb := tb_of (List.mem_append_left _ (List.mem_map.mpr ⟨q, List.mem_of_getElem? h, rfl⟩)) (by cases q; rfl)
theorem xw_t {w : Cond} (i : Nat) (h : tables_1[i]? = some w) (g : zxw w = true) : w ∈ xw := List.mem_filter.mpr ⟨List.mem_of_getElem? h, g⟩
theorem tb_u {C : String} {T : u_T} {N : Nat} (h : ∀ k, k < N → u_lay C T k ∈ tb) : ∀ w ∈ u_ws C T N, w ∈ tb := by
  intro w hw
  obtain ⟨k, hk, rfl⟩ := List.mem_map.mp hw
  exact h k (List.mem_range.mp hk)
theorem wk_AL : ∀ k, k < 3 → u_lay RJx4a65c TJx4a65c k ∈ tb
  | 0, _ => (tb_t 49 (by decide +kernel) (by decide +kernel))
  | 1, _ => (tb_t 45 (by decide +kernel) (by decide +kernel))
  | 2, _ => (tb_t 47 (by decide +kernel) (by decide +kernel))
  | k + 3, h => absurd h (by omega)
theorem wi_AL : ∀ w ∈ u_ws RJx4a65c TJx4a65c 3, w ∈ tb := tb_u wk_AL
theorem in_AL : Cond.instantiable RJx4a65c 3 ∈ tb := (tb_t 27 (by decide +kernel) (by decide +kernel))
theorem iz_AL : Cond.initialized RJx4a65c ∈ tb := (tb_t 4 (by decide +kernel) (by decide +kernel))
theorem wk_FT : ∀ k, k < 3 → u_lay RX0 TX0 k ∈ tb
  | 0, _ => (tb_t 80 (by decide +kernel) (by decide +kernel))
  | 1, _ => (tb_t 82 (by decide +kernel) (by decide +kernel))
  | 2, _ => (tb_t 84 (by decide +kernel) (by decide +kernel))
  | k + 3, h => absurd h (by omega)
theorem wi_FT : ∀ w ∈ u_ws RX0 TX0 3, w ∈ tb := tb_u wk_FT
theorem in_FT : Cond.instantiable RX0 3 ∈ tb := (tb_t 71 (by decide +kernel) (by decide +kernel))
theorem iz_FT : Cond.initialized RX0 ∈ tb := (tb_t 6 (by decide +kernel) (by decide +kernel))
theorem wk_Lane : ∀ k, k < 6 → u_lay RX1 TX1 k ∈ tb
  | 0, _ => (tb_t 191 (by decide +kernel) (by decide +kernel))
  | 1, _ => (tb_t 193 (by decide +kernel) (by decide +kernel))
  | 2, _ => (tb_t 195 (by decide +kernel) (by decide +kernel))
  | 3, _ => (tb_t 197 (by decide +kernel) (by decide +kernel))
  | 4, _ => (tb_t 199 (by decide +kernel) (by decide +kernel))
  | 5, _ => (tb_t 201 (by decide +kernel) (by decide +kernel))
  | k + 6, h => absurd h (by omega)
theorem wi_Lane : ∀ w ∈ u_ws RX1 TX1 6, w ∈ tb := tb_u wk_Lane
theorem in_Lane : Cond.instantiable RX1 6 ∈ tb := (tb_t 174 (by decide +kernel) (by decide +kernel))
theorem iz_Lane : Cond.initialized RX1 ∈ tb := (tb_t 11 (by decide +kernel) (by decide +kernel))
theorem wk_Not : ∀ k, k < 6 → u_lay RX2 TX2 k ∈ tb
  | 0, _ => (tb_t 507 (by decide +kernel) (by decide +kernel))
  | 1, _ => (tb_t 509 (by decide +kernel) (by decide +kernel))
  | 2, _ => (tb_t 511 (by decide +kernel) (by decide +kernel))
  | 3, _ => (tb_t 513 (by decide +kernel) (by decide +kernel))
  | 4, _ => (tb_t 515 (by decide +kernel) (by decide +kernel))
  | 5, _ => (tb_t 517 (by decide +kernel) (by decide +kernel))
  | k + 6, h => absurd h (by omega)
theorem wi_Not : ∀ w ∈ u_ws RX2 TX2 6, w ∈ tb := tb_u wk_Not
theorem in_Not : Cond.instantiable RX2 6 ∈ tb := (tb_t 490 (by decide +kernel) (by decide +kernel))
theorem iz_Not : Cond.initialized RX2 ∈ tb := (tb_t 17 (by decide +kernel) (by decide +kernel))
theorem wk_Rdr : ∀ k, k < 3 → u_lay RX3 TX3 k ∈ tb
  | 0, _ => (tb_t 360 (by decide +kernel) (by decide +kernel))
  | 1, _ => (tb_t 362 (by decide +kernel) (by decide +kernel))
  | 2, _ => (tb_t 364 (by decide +kernel) (by decide +kernel))
  | k + 3, h => absurd h (by omega)
theorem wi_Rdr : ∀ w ∈ u_ws RX3 TX3 3, w ∈ tb := tb_u wk_Rdr
theorem in_Rdr : Cond.instantiable RX3 3 ∈ tb := (tb_t 351 (by decide +kernel) (by decide +kernel))
theorem iz_Rdr : Cond.initialized RX3 ∈ tb := (tb_t 15 (by decide +kernel) (by decide +kernel))
theorem wk_Row : ∀ k, k < 1 → u_lay RX4 TX4 k ∈ tb
  | 0, _ => (tb_t 61 (by decide +kernel) (by decide +kernel))
  | k + 1, h => absurd h (by omega)
theorem wi_Row : ∀ w ∈ u_ws RX4 TX4 1, w ∈ tb := tb_u wk_Row
theorem in_Row : Cond.instantiable RX4 1 ∈ tb := (tb_t 55 (by decide +kernel) (by decide +kernel))
theorem iz_Row : Cond.initialized RX4 ∈ tb := (tb_t 5 (by decide +kernel) (by decide +kernel))
theorem wk_Wsh : ∀ k, k < 5 → u_lay RX5 TX5 k ∈ tb
  | 0, _ => (tb_t 419 (by decide +kernel) (by decide +kernel))
  | 1, _ => (tb_t 421 (by decide +kernel) (by decide +kernel))
  | 2, _ => (tb_t 423 (by decide +kernel) (by decide +kernel))
  | 3, _ => (tb_t 425 (by decide +kernel) (by decide +kernel))
  | 4, _ => (tb_t 427 (by decide +kernel) (by decide +kernel))
  | k + 5, h => absurd h (by omega)
theorem wi_Wsh : ∀ w ∈ u_ws RX5 TX5 5, w ∈ tb := tb_u wk_Wsh
theorem in_Wsh : Cond.instantiable RX5 5 ∈ tb := (tb_t 402 (by decide +kernel) (by decide +kernel))
theorem iz_Wsh : Cond.initialized RX5 ∈ tb := (tb_t 16 (by decide +kernel) (by decide +kernel))
theorem wk_WR : ∀ k, k < 14 → u_lay RX6 TX6 k ∈ tb
  | 0, _ => (tb_t 101 (by decide +kernel) (by decide +kernel))
  | 1, _ => (tb_t 103 (by decide +kernel) (by decide +kernel))
  | 2, _ => (tb_t 105 (by decide +kernel) (by decide +kernel))
  | 3, _ => (tb_t 107 (by decide +kernel) (by decide +kernel))
  | 4, _ => (tb_t 109 (by decide +kernel) (by decide +kernel))
  | 5, _ => (tb_t 111 (by decide +kernel) (by decide +kernel))
  | 6, _ => (tb_t 113 (by decide +kernel) (by decide +kernel))
  | 7, _ => (tb_t 115 (by decide +kernel) (by decide +kernel))
  | 8, _ => (tb_t 117 (by decide +kernel) (by decide +kernel))
  | 9, _ => (tb_t 119 (by decide +kernel) (by decide +kernel))
  | 10, _ => (tb_t 121 (by decide +kernel) (by decide +kernel))
  | 11, _ => (tb_t 123 (by decide +kernel) (by decide +kernel))
  | 12, _ => (tb_t 125 (by decide +kernel) (by decide +kernel))
  | 13, _ => (tb_t 127 (by decide +kernel) (by decide +kernel))
  | k + 14, h => absurd h (by omega)
theorem wi_WR : ∀ w ∈ u_ws RX6 TX6 14, w ∈ tb := tb_u wk_WR
theorem in_WR : Cond.instantiable RX6 14 ∈ tb := (tb_t 19 (by decide +kernel) (by decide +kernel))
theorem iz_WR : Cond.initialized RX6 ∈ tb := (tb_t 1 (by decide +kernel) (by decide +kernel))
theorem wk_Mo : ∀ k, k < 33 → u_lay RX7 TX7 k ∈ tb
  | 0, _ => (tb_t 675 (by decide +kernel) (by decide +kernel))
  | 1, _ => (tb_t 677 (by decide +kernel) (by decide +kernel))
  | 2, _ => (tb_t 679 (by decide +kernel) (by decide +kernel))
  | 3, _ => (tb_t 681 (by decide +kernel) (by decide +kernel))
  | 4, _ => (tb_t 683 (by decide +kernel) (by decide +kernel))
  | 5, _ => (tb_t 685 (by decide +kernel) (by decide +kernel))
  | 6, _ => (tb_t 687 (by decide +kernel) (by decide +kernel))
  | 7, _ => (tb_t 689 (by decide +kernel) (by decide +kernel))
  | 8, _ => (tb_t 691 (by decide +kernel) (by decide +kernel))
  | 9, _ => (tb_t 693 (by decide +kernel) (by decide +kernel))
  | 10, _ => (tb_t 695 (by decide +kernel) (by decide +kernel))
  | 11, _ => (tb_t 697 (by decide +kernel) (by decide +kernel))
  | 12, _ => (tb_t 699 (by decide +kernel) (by decide +kernel))
  | 13, _ => (tb_t 701 (by decide +kernel) (by decide +kernel))
  | 14, _ => (tb_t 703 (by decide +kernel) (by decide +kernel))
  | 15, _ => (tb_t 705 (by decide +kernel) (by decide +kernel))
  | 16, _ => (tb_t 707 (by decide +kernel) (by decide +kernel))
  | 17, _ => (tb_t 709 (by decide +kernel) (by decide +kernel))
  | 18, _ => (tb_t 711 (by decide +kernel) (by decide +kernel))
  | 19, _ => (tb_t 713 (by decide +kernel) (by decide +kernel))
  | 20, _ => (tb_t 715 (by decide +kernel) (by decide +kernel))
  | 21, _ => (tb_t 717 (by decide +kernel) (by decide +kernel))
  | 22, _ => (tb_t 719 (by decide +kernel) (by decide +kernel))
  | 23, _ => (tb_t 721 (by decide +kernel) (by decide +kernel))
  | 24, _ => (tb_t 723 (by decide +kernel) (by decide +kernel))
  | 25, _ => (tb_t 725 (by decide +kernel) (by decide +kernel))
  | 26, _ => (tb_t 727 (by decide +kernel) (by decide +kernel))
  | 27, _ => (tb_t 729 (by decide +kernel) (by decide +kernel))
  | 28, _ => (tb_t 731 (by decide +kernel) (by decide +kernel))
  | 29, _ => (tb_t 733 (by decide +kernel) (by decide +kernel))
  | 30, _ => (tb_t 735 (by decide +kernel) (by decide +kernel))
  | 31, _ => (tb_t 737 (by decide +kernel) (by decide +kernel))
  | 32, _ => (tb_t 739 (by decide +kernel) (by decide +kernel))
  | k + 33, h => absurd h (by omega)
theorem wi_Mo : ∀ w ∈ u_ws RX7 TX7 33, w ∈ tb := tb_u wk_Mo
theorem in_Mo : Cond.instantiable RX7 33 ∈ tb := (tb_t 632 (by decide +kernel) (by decide +kernel))
theorem iz_Mo : Cond.initialized RX7 ∈ tb := (tb_t 7 (by decide +kernel) (by decide +kernel))
theorem ac_int : Cond.arrayClass .int ∈ tb := (tb_t 64 (by decide +kernel) (by decide +kernel))
theorem ac_long : Cond.arrayClass .long ∈ tb := (tb_t 65 (by decide +kernel) (by decide +kernel))
theorem ac_boolean : Cond.arrayClass .boolean ∈ tb := (tb_t 742 (by decide +kernel) (by decide +kernel))
theorem oi_2 : Cond.instanceMethod objectInit ∈ tb := (tb_t 24 (by decide +kernel) (by decide +kernel))
theorem oi_3 : Cond.code objectInit ⟨#[0xb1]⟩ 1 none ∈ tb := (tb_t 25 (by decide +kernel) (by decide +kernel))
theorem fl_WR_12 : Cond.fieldLink RX6 12 "WishRoutes" "readers" "Ljava/util/ArrayList;" ∈ tb := (tb_t 87 (by decide +kernel) (by decide +kernel))
theorem fl_WR_16 : Cond.fieldLink RX6 16 "WishRoutes" "wishes" "Ljava/util/ArrayList;" ∈ tb := (tb_t 88 (by decide +kernel) (by decide +kernel))
theorem fl_WR_19 : Cond.fieldLink RX6 19 "WishRoutes" "notices" "Ljava/util/ArrayList;" ∈ tb := (tb_t 89 (by decide +kernel) (by decide +kernel))
theorem fl_WR_22 : Cond.fieldLink RX6 22 "WishRoutes" "neighbours" "[I" ∈ tb := (tb_t 90 (by decide +kernel) (by decide +kernel))
theorem fl_WR_28 : Cond.fieldLink RX6 28 "WishRoutes" "lanes" "[LWishRoutes$Lane;" ∈ tb := (tb_t 91 (by decide +kernel) (by decide +kernel))
theorem fl_WR_32 : Cond.fieldLink RX6 32 "WishRoutes" "spareLanes" "Ljava/util/ArrayList;" ∈ tb := (tb_t 92 (by decide +kernel) (by decide +kernel))
theorem fl_WR_38 : Cond.fieldLink RX6 38 "WishRoutes" "known" "LWishRoutes$Row;" ∈ tb := (tb_t 93 (by decide +kernel) (by decide +kernel))
theorem fl_WR_42 : Cond.fieldLink RX6 42 "WishRoutes" "meant" "LWishRoutes$Row;" ∈ tb := (tb_t 94 (by decide +kernel) (by decide +kernel))
theorem fl_WR_49 : Cond.fieldLink RX6 49 "WishRoutes" "reading" "[LWishRoutes$FieldTest;" ∈ tb := (tb_t 95 (by decide +kernel) (by decide +kernel))
theorem fl_WR_53 : Cond.fieldLink RX6 53 "WishRoutes" "desks" "I" ∈ tb := (tb_t 96 (by decide +kernel) (by decide +kernel))
theorem fl_WR_57 : Cond.fieldLink RX6 57 "WishRoutes" "links" "I" ∈ tb := (tb_t 97 (by decide +kernel) (by decide +kernel))
theorem fl_WR_60 : Cond.fieldLink RX6 60 "WishRoutes" "passedOn" "I" ∈ tb := (tb_t 98 (by decide +kernel) (by decide +kernel))
theorem fl_WR_63 : Cond.fieldLink RX6 63 "WishRoutes" "needless" "I" ∈ tb := (tb_t 99 (by decide +kernel) (by decide +kernel))
theorem fl_WR_66 : Cond.fieldLink RX6 66 "WishRoutes" "tellsDelivered" "I" ∈ tb := (tb_t 100 (by decide +kernel) (by decide +kernel))
theorem fl_WR_112 : Cond.fieldLink RX6 112 "WishRoutes$Reader" "desk" "I" ∈ tb := (tb_t 357 (by decide +kernel) (by decide +kernel))
theorem fl_WR_140 : Cond.fieldLink RX6 140 "WishRoutes$Wish" "alive" "Z" ∈ tb := (tb_t 418 (by decide +kernel) (by decide +kernel))
theorem fl_WR_144 : Cond.fieldLink RX6 144 "WishRoutes$Wish" "owner" "LWishRoutes$Reader;" ∈ tb := (tb_t 412 (by decide +kernel) (by decide +kernel))
theorem fl_WR_165 : Cond.fieldLink RX6 165 "WishRoutes$Lane" "size" "I" ∈ tb := (tb_t 187 (by decide +kernel) (by decide +kernel))
theorem fl_WR_181 : Cond.fieldLink RX6 181 "WishRoutes$Lane" "table" "LWishRoutes$Row;" ∈ tb := (tb_t 185 (by decide +kernel) (by decide +kernel))
theorem fl_WR_188 : Cond.fieldLink RX6 188 "WishRoutes$Lane" "told" "LWishRoutes$Row;" ∈ tb := (tb_t 183 (by decide +kernel) (by decide +kernel))
theorem fl_WR_201 : Cond.fieldLink RX6 201 "WishRoutes$Notice" "fields" "[I" ∈ tb := (tb_t 500 (by decide +kernel) (by decide +kernel))
theorem fl_WR_204 : Cond.fieldLink RX6 204 "WishRoutes$Notice" "desk" "I" ∈ tb := (tb_t 498 (by decide +kernel) (by decide +kernel))
theorem fl_WR_205 : Cond.fieldLink RX6 205 "WishRoutes$Notice" "messages" "I" ∈ tb := (tb_t 502 (by decide +kernel) (by decide +kernel))
theorem fl_WR_208 : Cond.fieldLink RX6 208 "WishRoutes$Wish" "reader" "I" ∈ tb := (tb_t 410 (by decide +kernel) (by decide +kernel))
theorem fl_WR_211 : Cond.fieldLink RX6 211 "WishRoutes$Wish" "tests" "[LWishRoutes$FieldTest;" ∈ tb := (tb_t 414 (by decide +kernel) (by decide +kernel))
theorem fl_WR_214 : Cond.fieldLink RX6 214 "WishRoutes$FieldTest" "kind" "I" ∈ tb := (tb_t 77 (by decide +kernel) (by decide +kernel))
theorem fl_WR_238 : Cond.fieldLink RX6 238 "WishRoutes$Wish" "outdoneBy" "LWishRoutes$Row;" ∈ tb := (tb_t 416 (by decide +kernel) (by decide +kernel))
theorem fl_WR_270 : Cond.fieldLink RX6 270 "WishRoutes$Notice" "seenAt" "I" ∈ tb := (tb_t 504 (by decide +kernel) (by decide +kernel))
theorem fl_WR_273 : Cond.fieldLink RX6 273 "WishRoutes$Notice" "heardBy" "I" ∈ tb := (tb_t 506 (by decide +kernel) (by decide +kernel))
theorem fl_WR_276 : Cond.fieldLink RX6 276 "WishRoutes$Notice" "number" "I" ∈ tb := (tb_t 496 (by decide +kernel) (by decide +kernel))
theorem fl_FT_9 : Cond.fieldLink RX0 9 "WishRoutes$FieldTest" "kind" "I" ∈ tb := (tb_t 76 (by decide +kernel) (by decide +kernel))
theorem fl_FT_15 : Cond.fieldLink RX0 15 "WishRoutes$FieldTest" "numbers" "[I" ∈ tb := (tb_t 78 (by decide +kernel) (by decide +kernel))
theorem fl_FT_19 : Cond.fieldLink RX0 19 "WishRoutes$FieldTest" "size" "I" ∈ tb := (tb_t 79 (by decide +kernel) (by decide +kernel))
theorem fl_Lane_12 : Cond.fieldLink RX1 12 "WishRoutes$Lane" "told" "LWishRoutes$Row;" ∈ tb := (tb_t 182 (by decide +kernel) (by decide +kernel))
theorem fl_Lane_18 : Cond.fieldLink RX1 18 "WishRoutes$Lane" "table" "LWishRoutes$Row;" ∈ tb := (tb_t 184 (by decide +kernel) (by decide +kernel))
theorem fl_Lane_21 : Cond.fieldLink RX1 21 "WishRoutes$Lane" "size" "I" ∈ tb := (tb_t 186 (by decide +kernel) (by decide +kernel))
theorem fl_Lane_25 : Cond.fieldLink RX1 25 "WishRoutes$Lane" "items" "[I" ∈ tb := (tb_t 188 (by decide +kernel) (by decide +kernel))
theorem fl_Lane_29 : Cond.fieldLink RX1 29 "WishRoutes$Lane" "rows" "[LWishRoutes$Row;" ∈ tb := (tb_t 189 (by decide +kernel) (by decide +kernel))
theorem fl_Lane_33 : Cond.fieldLink RX1 33 "WishRoutes$Lane" "first" "I" ∈ tb := (tb_t 190 (by decide +kernel) (by decide +kernel))
theorem fl_Not_7 : Cond.fieldLink RX2 7 "WishRoutes$Notice" "messages" "I" ∈ tb := (tb_t 501 (by decide +kernel) (by decide +kernel))
theorem fl_Not_13 : Cond.fieldLink RX2 13 "WishRoutes$Notice" "seenAt" "I" ∈ tb := (tb_t 503 (by decide +kernel) (by decide +kernel))
theorem fl_Not_16 : Cond.fieldLink RX2 16 "WishRoutes$Notice" "heardBy" "I" ∈ tb := (tb_t 505 (by decide +kernel) (by decide +kernel))
theorem fl_Not_19 : Cond.fieldLink RX2 19 "WishRoutes$Notice" "number" "I" ∈ tb := (tb_t 495 (by decide +kernel) (by decide +kernel))
theorem fl_Not_22 : Cond.fieldLink RX2 22 "WishRoutes$Notice" "desk" "I" ∈ tb := (tb_t 497 (by decide +kernel) (by decide +kernel))
theorem fl_Not_25 : Cond.fieldLink RX2 25 "WishRoutes$Notice" "fields" "[I" ∈ tb := (tb_t 499 (by decide +kernel) (by decide +kernel))
theorem fl_Rdr_9 : Cond.fieldLink RX3 9 "WishRoutes$Reader" "hearings" "[I" ∈ tb := (tb_t 358 (by decide +kernel) (by decide +kernel))
theorem fl_Rdr_15 : Cond.fieldLink RX3 15 "WishRoutes$Reader" "size" "I" ∈ tb := (tb_t 359 (by decide +kernel) (by decide +kernel))
theorem fl_Rdr_19 : Cond.fieldLink RX3 19 "WishRoutes$Reader" "desk" "I" ∈ tb := (tb_t 356 (by decide +kernel) (by decide +kernel))
theorem fl_Row_9 : Cond.fieldLink RX4 9 "WishRoutes$Row" "words" "[J" ∈ tb := (tb_t 60 (by decide +kernel) (by decide +kernel))
theorem fl_Wsh_12 : Cond.fieldLink RX5 12 "WishRoutes$Wish" "outdoneBy" "LWishRoutes$Row;" ∈ tb := (tb_t 415 (by decide +kernel) (by decide +kernel))
theorem fl_Wsh_18 : Cond.fieldLink RX5 18 "WishRoutes$Wish" "alive" "Z" ∈ tb := (tb_t 417 (by decide +kernel) (by decide +kernel))
theorem fl_Wsh_22 : Cond.fieldLink RX5 22 "WishRoutes$Wish" "reader" "I" ∈ tb := (tb_t 409 (by decide +kernel) (by decide +kernel))
theorem fl_Wsh_26 : Cond.fieldLink RX5 26 "WishRoutes$Wish" "owner" "LWishRoutes$Reader;" ∈ tb := (tb_t 411 (by decide +kernel) (by decide +kernel))
theorem fl_Wsh_30 : Cond.fieldLink RX5 30 "WishRoutes$Wish" "tests" "[LWishRoutes$FieldTest;" ∈ tb := (tb_t 413 (by decide +kernel) (by decide +kernel))
theorem fl_Mo_9 : Cond.fieldLink RX7 9 "WishRoutesModel" "linked" "[Z" ∈ tb := (tb_t 646 (by decide +kernel) (by decide +kernel))
theorem fl_Mo_13 : Cond.fieldLink RX7 13 "WishRoutesModel" "deskOf" "[I" ∈ tb := (tb_t 647 (by decide +kernel) (by decide +kernel))
theorem fl_Mo_17 : Cond.fieldLink RX7 17 "WishRoutesModel" "readerOf" "[I" ∈ tb := (tb_t 648 (by decide +kernel) (by decide +kernel))
theorem fl_Mo_20 : Cond.fieldLink RX7 20 "WishRoutesModel" "alive" "[Z" ∈ tb := (tb_t 649 (by decide +kernel) (by decide +kernel))
theorem fl_Mo_23 : Cond.fieldLink RX7 23 "WishRoutesModel" "kind" "[I" ∈ tb := (tb_t 650 (by decide +kernel) (by decide +kernel))
theorem fl_Mo_26 : Cond.fieldLink RX7 26 "WishRoutesModel" "many" "[I" ∈ tb := (tb_t 651 (by decide +kernel) (by decide +kernel))
theorem fl_Mo_29 : Cond.fieldLink RX7 29 "WishRoutesModel" "number" "[I" ∈ tb := (tb_t 652 (by decide +kernel) (by decide +kernel))
theorem fl_Mo_32 : Cond.fieldLink RX7 32 "WishRoutesModel" "field" "[I" ∈ tb := (tb_t 653 (by decide +kernel) (by decide +kernel))
theorem fl_Mo_35 : Cond.fieldLink RX7 35 "WishRoutesModel" "sentAt" "[I" ∈ tb := (tb_t 654 (by decide +kernel) (by decide +kernel))
theorem fl_Mo_38 : Cond.fieldLink RX7 38 "WishRoutesModel" "wasAt" "[I" ∈ tb := (tb_t 655 (by decide +kernel) (by decide +kernel))
theorem fl_Mo_41 : Cond.fieldLink RX7 41 "WishRoutesModel" "hasHeard" "[Z" ∈ tb := (tb_t 656 (by decide +kernel) (by decide +kernel))
theorem fl_Mo_44 : Cond.fieldLink RX7 44 "WishRoutesModel" "heard" "[I" ∈ tb := (tb_t 657 (by decide +kernel) (by decide +kernel))
theorem fl_Mo_47 : Cond.fieldLink RX7 47 "WishRoutesModel" "heardMany" "[I" ∈ tb := (tb_t 658 (by decide +kernel) (by decide +kernel))
theorem fl_Mo_50 : Cond.fieldLink RX7 50 "WishRoutesModel" "table" "[J" ∈ tb := (tb_t 659 (by decide +kernel) (by decide +kernel))
theorem fl_Mo_54 : Cond.fieldLink RX7 54 "WishRoutesModel" "told" "[J" ∈ tb := (tb_t 660 (by decide +kernel) (by decide +kernel))
theorem fl_Mo_57 : Cond.fieldLink RX7 57 "WishRoutesModel" "from" "[I" ∈ tb := (tb_t 662 (by decide +kernel) (by decide +kernel))
theorem fl_Mo_60 : Cond.fieldLink RX7 60 "WishRoutesModel" "to" "[I" ∈ tb := (tb_t 663 (by decide +kernel) (by decide +kernel))
theorem fl_Mo_63 : Cond.fieldLink RX7 63 "WishRoutesModel" "what" "[I" ∈ tb := (tb_t 664 (by decide +kernel) (by decide +kernel))
theorem fl_Mo_66 : Cond.fieldLink RX7 66 "WishRoutesModel" "row" "[J" ∈ tb := (tb_t 665 (by decide +kernel) (by decide +kernel))
theorem fl_Mo_69 : Cond.fieldLink RX7 69 "WishRoutesModel" "low" "[J" ∈ tb := (tb_t 669 (by decide +kernel) (by decide +kernel))
theorem fl_Mo_72 : Cond.fieldLink RX7 72 "WishRoutesModel" "high" "[J" ∈ tb := (tb_t 670 (by decide +kernel) (by decide +kernel))
theorem fl_Mo_76 : Cond.fieldLink RX7 76 "WishRoutesModel" "covering" "[Z" ∈ tb := (tb_t 671 (by decide +kernel) (by decide +kernel))
theorem fl_Mo_79 : Cond.fieldLink RX7 79 "WishRoutesModel" "some" "[J" ∈ tb := (tb_t 672 (by decide +kernel) (by decide +kernel))
theorem fl_Mo_82 : Cond.fieldLink RX7 82 "WishRoutesModel" "meant" "[J" ∈ tb := (tb_t 673 (by decide +kernel) (by decide +kernel))
theorem fl_Mo_85 : Cond.fieldLink RX7 85 "WishRoutesModel" "reached" "[Z" ∈ tb := (tb_t 674 (by decide +kernel) (by decide +kernel))
theorem fl_Mo_91 : Cond.fieldLink RX7 91 "WishRoutesModel" "desks" "I" ∈ tb := (tb_t 642 (by decide +kernel) (by decide +kernel))
theorem fl_Mo_95 : Cond.fieldLink RX7 95 "WishRoutesModel" "wishes" "I" ∈ tb := (tb_t 644 (by decide +kernel) (by decide +kernel))
theorem fl_Mo_129 : Cond.fieldLink RX7 129 "WishRoutesModel" "messages" "I" ∈ tb := (tb_t 661 (by decide +kernel) (by decide +kernel))
theorem fl_Mo_161 : Cond.fieldLink RX7 161 "WishRoutesModel" "readers" "I" ∈ tb := (tb_t 643 (by decide +kernel) (by decide +kernel))
theorem fl_Mo_181 : Cond.fieldLink RX7 181 "WishRoutesModel" "passed" "I" ∈ tb := (tb_t 666 (by decide +kernel) (by decide +kernel))
theorem fl_Mo_184 : Cond.fieldLink RX7 184 "WishRoutesModel" "needless" "I" ∈ tb := (tb_t 667 (by decide +kernel) (by decide +kernel))
theorem fl_Mo_191 : Cond.fieldLink RX7 191 "WishRoutesModel" "notices" "I" ∈ tb := (tb_t 645 (by decide +kernel) (by decide +kernel))
theorem fl_Mo_206 : Cond.fieldLink RX7 206 "WishRoutesModel" "delivered" "I" ∈ tb := (tb_t 668 (by decide +kernel) (by decide +kernel))
theorem fl_ALi_7 : Cond.fieldLink RJxc12de 7 "java/util/AbstractList" "modCount" "I" ∈ tb := (tb_t 42 (by decide +kernel) (by decide +kernel))
theorem fl_AL_9 : Cond.fieldLink RJx4a65c 9 "java/util/ArrayList" "elementData" "[Ljava/lang/Object;" ∈ tb := (tb_t 40 (by decide +kernel) (by decide +kernel))
theorem fl_AL_39 : Cond.fieldLink RJx4a65c 39 "java/util/ArrayList" "DEFAULTCAPACITY_EMPTY_ELEMENTDATA" "[Ljava/lang/Object;" ∈ tb := (tb_t 38 (by decide +kernel) (by decide +kernel))
theorem fl_AL_48 : Cond.fieldLink RJx4a65c 48 "java/util/ArrayList" "size" "I" ∈ tb := (tb_t 41 (by decide +kernel) (by decide +kernel))
theorem fl_AL_63 : Cond.fieldLink RJx4a65c 63 "java/util/ArrayList" "modCount" "I" ∈ tb := (tb_t 43 (by decide +kernel) (by decide +kernel))
theorem ml_WR_3 : Cond.methodLink RX6 3 objectInit ∈ tb := (tb_t 23 (by decide +kernel) (by decide +kernel))
theorem ml_WR_11 : Cond.methodLink RX6 11 yJx4a65c_init_da8c8 ∈ tb := (tb_t 28 (by decide +kernel) (by decide +kernel))
theorem ml_WR_45 : Cond.methodLink RX6 45 yX6_allAny ∈ tb := (tb_t 66 (by decide +kernel) (by decide +kernel))
theorem ml_WR_69 : Cond.methodLink RX6 69 yX6_isDesk ∈ tb := (tb_t 138 (by decide +kernel) (by decide +kernel))
theorem ml_WR_73 : Cond.methodLink RX6 73 yX6_reach ∈ tb := (tb_t 142 (by decide +kernel) (by decide +kernel))
theorem ml_WR_77 : Cond.methodLink RX6 77 yX6_inMask ∈ tb := (tb_t 146 (by decide +kernel) (by decide +kernel))
theorem ml_WR_81 : Cond.methodLink RX6 81 yX6_openLane ∈ tb := (tb_t 149 (by decide +kernel) (by decide +kernel))
theorem ml_WR_85 : Cond.methodLink RX6 85 yX6_tellNeighbours ∈ tb := (tb_t 204 (by decide +kernel) (by decide +kernel))
theorem ml_WR_89 : Cond.methodLink RX6 89 yX6_laneFrom ∈ tb := (tb_t 208 (by decide +kernel) (by decide +kernel))
theorem ml_WR_93 : Cond.methodLink RX6 93 yX6_closeLane ∈ tb := (tb_t 277 (by decide +kernel) (by decide +kernel))
theorem ml_WR_96 : Cond.methodLink RX6 96 yJx4a65c_size_8abf5 ∈ tb := (tb_t 153 (by decide +kernel) (by decide +kernel))
theorem ml_WR_102 : Cond.methodLink RX6 102 yX3_init ∈ tb := (tb_t 352 (by decide +kernel) (by decide +kernel))
theorem ml_WR_104 : Cond.methodLink RX6 104 yJx4a65c_add_9ea2d ∈ tb := (tb_t 292 (by decide +kernel) (by decide +kernel))
theorem ml_WR_108 : Cond.methodLink RX6 108 yX6_findReader ∈ tb := (tb_t 371 (by decide +kernel) (by decide +kernel))
theorem ml_WR_115 : Cond.methodLink RX6 115 yX6_isField ∈ tb := (tb_t 379 (by decide +kernel) (by decide +kernel))
theorem ml_WR_118 : Cond.methodLink RX6 118 yX0_setKind ∈ tb := (tb_t 382 (by decide +kernel) (by decide +kernel))
theorem ml_WR_124 : Cond.methodLink RX6 124 yX0_addNumber ∈ tb := (tb_t 390 (by decide +kernel) (by decide +kernel))
theorem ml_WR_129 : Cond.methodLink RX6 129 yX5_init ∈ tb := (tb_t 403 (by decide +kernel) (by decide +kernel))
theorem ml_WR_132 : Cond.methodLink RX6 132 yX6_weigh ∈ tb := (tb_t 430 (by decide +kernel) (by decide +kernel))
theorem ml_WR_136 : Cond.methodLink RX6 136 yX6_findWish ∈ tb := (tb_t 478 (by decide +kernel) (by decide +kernel))
theorem ml_WR_148 : Cond.methodLink RX6 148 yX6_underWay ∈ tb := (tb_t 486 (by decide +kernel) (by decide +kernel))
theorem ml_WR_153 : Cond.methodLink RX6 153 yX2_init ∈ tb := (tb_t 491 (by decide +kernel) (by decide +kernel))
theorem ml_WR_156 : Cond.methodLink RX6 156 yX6_letHear ∈ tb := (tb_t 520 (by decide +kernel) (by decide +kernel))
theorem ml_WR_160 : Cond.methodLink RX6 160 yX6_passOn ∈ tb := (tb_t 536 (by decide +kernel) (by decide +kernel))
theorem ml_WR_167 : Cond.methodLink RX6 167 yX6_deliverFirst ∈ tb := (tb_t 557 (by decide +kernel) (by decide +kernel))
theorem ml_WR_170 : Cond.methodLink RX6 170 yX6_firstBusyPlace ∈ tb := (tb_t 569 (by decide +kernel) (by decide +kernel))
theorem ml_WR_173 : Cond.methodLink RX6 173 yX5_takesIn ∈ tb := (tb_t 434 (by decide +kernel) (by decide +kernel))
theorem ml_WR_177 : Cond.methodLink RX6 177 yX5_isMetBy ∈ tb := (tb_t 524 (by decide +kernel) (by decide +kernel))
theorem ml_WR_184 : Cond.methodLink RX6 184 yX4_nth ∈ tb := (tb_t 585 (by decide +kernel) (by decide +kernel))
theorem ml_WR_191 : Cond.methodLink RX6 191 yX1_itemAt ∈ tb := (tb_t 281 (by decide +kernel) (by decide +kernel))
theorem ml_WR_194 : Cond.methodLink RX6 194 yX3_nthHeard ∈ tb := (tb_t 602 (by decide +kernel) (by decide +kernel))
theorem ml_WR_197 : Cond.methodLink RX6 197 yX6_findNotice ∈ tb := (tb_t 282 (by decide +kernel) (by decide +kernel))
theorem ml_WR_217 : Cond.methodLink RX6 217 yX0_numberAt ∈ tb := (tb_t 614 (by decide +kernel) (by decide +kernel))
theorem ml_WR_220 : Cond.methodLink RX6 220 yX6_messagesInLanes ∈ tb := (tb_t 619 (by decide +kernel) (by decide +kernel))
theorem ml_WR_223 : Cond.methodLink RX6 223 yX6_tellsInLanes ∈ tb := (tb_t 623 (by decide +kernel) (by decide +kernel))
theorem ml_WR_227 : Cond.methodLink RX6 227 yJx4a65c_get_915e3 ∈ tb := (tb_t 224 (by decide +kernel) (by decide +kernel))
theorem ml_WR_231 : Cond.methodLink RX6 231 yJx4a65c_remove_915e3 ∈ tb := (tb_t 157 (by decide +kernel) (by decide +kernel))
theorem ml_WR_235 : Cond.methodLink RX6 235 yX1_clear ∈ tb := (tb_t 287 (by decide +kernel) (by decide +kernel))
theorem ml_WR_241 : Cond.methodLink RX6 241 yX4_add ∈ tb := (tb_t 233 (by decide +kernel) (by decide +kernel))
theorem ml_WR_243 : Cond.methodLink RX6 243 yX6_findMeant ∈ tb := (tb_t 212 (by decide +kernel) (by decide +kernel))
theorem ml_WR_246 : Cond.methodLink RX6 246 yX4_sameAs ∈ tb := (tb_t 249 (by decide +kernel) (by decide +kernel))
theorem ml_WR_250 : Cond.methodLink RX6 250 yX1_putTell ∈ tb := (tb_t 253 (by decide +kernel) (by decide +kernel))
theorem ml_WR_254 : Cond.methodLink RX6 254 yX6_findKnown ∈ tb := (tb_t 216 (by decide +kernel) (by decide +kernel))
theorem ml_WR_257 : Cond.methodLink RX6 257 yX4_clear ∈ tb := (tb_t 220 (by decide +kernel) (by decide +kernel))
theorem ml_WR_258 : Cond.methodLink RX6 258 yX4_has ∈ tb := (tb_t 241 (by decide +kernel) (by decide +kernel))
theorem ml_WR_261 : Cond.methodLink RX6 261 yX4_meets ∈ tb := (tb_t 245 (by decide +kernel) (by decide +kernel))
theorem ml_WR_264 : Cond.methodLink RX6 264 yX4_addAll ∈ tb := (tb_t 237 (by decide +kernel) (by decide +kernel))
theorem ml_WR_267 : Cond.methodLink RX6 267 yX1_takeFirst ∈ tb := (tb_t 561 (by decide +kernel) (by decide +kernel))
theorem ml_WR_279 : Cond.methodLink RX6 279 yX3_addHeard ∈ tb := (tb_t 532 (by decide +kernel) (by decide +kernel))
theorem ml_WR_282 : Cond.methodLink RX6 282 yX6_isInTable ∈ tb := (tb_t 540 (by decide +kernel) (by decide +kernel))
theorem ml_WR_286 : Cond.methodLink RX6 286 yX1_putNotice ∈ tb := (tb_t 544 (by decide +kernel) (by decide +kernel))
theorem ml_WR_289 : Cond.methodLink RX6 289 yX6_isWantedAt ∈ tb := (tb_t 548 (by decide +kernel) (by decide +kernel))
theorem ml_WR_293 : Cond.methodLink RX6 293 yX1_tells ∈ tb := (tb_t 627 (by decide +kernel) (by decide +kernel))
theorem ml_FT_3 : Cond.methodLink RX0 3 objectInit ∈ tb := (tb_t 75 (by decide +kernel) (by decide +kernel))
theorem ml_FT_22 : Cond.methodLink RX0 22 yX0_hasNumber ∈ tb := (tb_t 394 (by decide +kernel) (by decide +kernel))
theorem ml_FT_30 : Cond.methodLink RX0 30 yX0_spans ∈ tb := (tb_t 452 (by decide +kernel) (by decide +kernel))
theorem ml_FT_34 : Cond.methodLink RX0 34 yX0_spanStart ∈ tb := (tb_t 456 (by decide +kernel) (by decide +kernel))
theorem ml_FT_38 : Cond.methodLink RX0 38 yX0_spanEnd ∈ tb := (tb_t 465 (by decide +kernel) (by decide +kernel))
theorem ml_FT_41 : Cond.methodLink RX0 41 yX0_passesAll ∈ tb := (tb_t 470 (by decide +kernel) (by decide +kernel))
theorem ml_FT_47 : Cond.methodLink RX0 47 yX0_numberAt ∈ tb := (tb_t 461 (by decide +kernel) (by decide +kernel))
theorem ml_Lane_3 : Cond.methodLink RX1 3 objectInit ∈ tb := (tb_t 178 (by decide +kernel) (by decide +kernel))
theorem ml_Lane_36 : Cond.methodLink RX1 36 yX1_slot ∈ tb := (tb_t 261 (by decide +kernel) (by decide +kernel))
theorem ml_Lane_40 : Cond.methodLink RX1 40 yX1_itemAt ∈ tb := (tb_t 257 (by decide +kernel) (by decide +kernel))
theorem ml_Lane_43 : Cond.methodLink RX1 43 yX1_rowAt ∈ tb := (tb_t 265 (by decide +kernel) (by decide +kernel))
theorem ml_Lane_47 : Cond.methodLink RX1 47 yX4_set ∈ tb := (tb_t 269 (by decide +kernel) (by decide +kernel))
theorem ml_Lane_51 : Cond.methodLink RX1 51 yX4_clear ∈ tb := (tb_t 291 (by decide +kernel) (by decide +kernel))
theorem ml_Not_1 : Cond.methodLink RX2 1 objectInit ∈ tb := (tb_t 494 (by decide +kernel) (by decide +kernel))
theorem ml_Rdr_3 : Cond.methodLink RX3 3 objectInit ∈ tb := (tb_t 355 (by decide +kernel) (by decide +kernel))
theorem ml_Row_3 : Cond.methodLink RX4 3 objectInit ∈ tb := (tb_t 59 (by decide +kernel) (by decide +kernel))
theorem ml_Row_15 : Cond.methodLink RX4 15 yX4_has ∈ tb := (tb_t 589 (by decide +kernel) (by decide +kernel))
theorem ml_Wsh_3 : Cond.methodLink RX5 3 objectInit ∈ tb := (tb_t 406 (by decide +kernel) (by decide +kernel))
theorem ml_Wsh_34 : Cond.methodLink RX5 34 yX0_passes ∈ tb := (tb_t 528 (by decide +kernel) (by decide +kernel))
theorem ml_Wsh_40 : Cond.methodLink RX5 40 yX5_isNeverMet ∈ tb := (tb_t 438 (by decide +kernel) (by decide +kernel))
theorem ml_Wsh_44 : Cond.methodLink RX5 44 yX0_isAsWideAs ∈ tb := (tb_t 448 (by decide +kernel) (by decide +kernel))
theorem ml_Wsh_48 : Cond.methodLink RX5 48 yX0_passesNone ∈ tb := (tb_t 442 (by decide +kernel) (by decide +kernel))
theorem ml_Law_9 : Cond.methodLink RL 9 yX6_init ∈ tb := (tb_t 20 (by decide +kernel) (by decide +kernel))
theorem ml_Law_12 : Cond.methodLink RL 12 yX7_init ∈ tb := (tb_t 633 (by decide +kernel) (by decide +kernel))
theorem ml_Law_13 : Cond.methodLink RL 13 yX6_desk ∈ tb := (tb_t 130 (by decide +kernel) (by decide +kernel))
theorem ml_Law_17 : Cond.methodLink RL 17 yX7_desk ∈ tb := (tb_t 743 (by decide +kernel) (by decide +kernel))
theorem ml_Law_18 : Cond.methodLink RL 18 yX6_link ∈ tb := (tb_t 134 (by decide +kernel) (by decide +kernel))
theorem ml_Law_22 : Cond.methodLink RL 22 yX7_link ∈ tb := (tb_t 747 (by decide +kernel) (by decide +kernel))
theorem ml_Law_23 : Cond.methodLink RL 23 yX6_cut ∈ tb := (tb_t 273 (by decide +kernel) (by decide +kernel))
theorem ml_Law_26 : Cond.methodLink RL 26 yX7_cut ∈ tb := (tb_t 789 (by decide +kernel) (by decide +kernel))
theorem ml_Law_27 : Cond.methodLink RL 27 yX6_reader ∈ tb := (tb_t 346 (by decide +kernel) (by decide +kernel))
theorem ml_Law_31 : Cond.methodLink RL 31 yX7_reader ∈ tb := (tb_t 797 (by decide +kernel) (by decide +kernel))
theorem ml_Law_32 : Cond.methodLink RL 32 yX6_move ∈ tb := (tb_t 367 (by decide +kernel) (by decide +kernel))
theorem ml_Law_35 : Cond.methodLink RL 35 yX7_move ∈ tb := (tb_t 801 (by decide +kernel) (by decide +kernel))
theorem ml_Law_36 : Cond.methodLink RL 36 yX6_test ∈ tb := (tb_t 375 (by decide +kernel) (by decide +kernel))
theorem ml_Law_40 : Cond.methodLink RL 40 yX7_test ∈ tb := (tb_t 809 (by decide +kernel) (by decide +kernel))
theorem ml_Law_41 : Cond.methodLink RL 41 yX6_among ∈ tb := (tb_t 386 (by decide +kernel) (by decide +kernel))
theorem ml_Law_45 : Cond.methodLink RL 45 yX7_among ∈ tb := (tb_t 816 (by decide +kernel) (by decide +kernel))
theorem ml_Law_46 : Cond.methodLink RL 46 yX6_wish ∈ tb := (tb_t 398 (by decide +kernel) (by decide +kernel))
theorem ml_Law_49 : Cond.methodLink RL 49 yX7_wish ∈ tb := (tb_t 824 (by decide +kernel) (by decide +kernel))
theorem ml_Law_50 : Cond.methodLink RL 50 yX6_off ∈ tb := (tb_t 474 (by decide +kernel) (by decide +kernel))
theorem ml_Law_53 : Cond.methodLink RL 53 yX7_off ∈ tb := (tb_t 842 (by decide +kernel) (by decide +kernel))
theorem ml_Law_54 : Cond.methodLink RL 54 yX6_send ∈ tb := (tb_t 482 (by decide +kernel) (by decide +kernel))
theorem ml_Law_58 : Cond.methodLink RL 58 yX7_send ∈ tb := (tb_t 850 (by decide +kernel) (by decide +kernel))
theorem ml_Law_59 : Cond.methodLink RL 59 yX6_deliver ∈ tb := (tb_t 552 (by decide +kernel) (by decide +kernel))
theorem ml_Law_63 : Cond.methodLink RL 63 yX7_deliver ∈ tb := (tb_t 882 (by decide +kernel) (by decide +kernel))
theorem ml_Law_64 : Cond.methodLink RL 64 yX6_all ∈ tb := (tb_t 565 (by decide +kernel) (by decide +kernel))
theorem ml_Law_67 : Cond.methodLink RL 67 yX7_all ∈ tb := (tb_t 894 (by decide +kernel) (by decide +kernel))
theorem ml_Law_68 : Cond.methodLink RL 68 yX6_covers ∈ tb := (tb_t 573 (by decide +kernel) (by decide +kernel))
theorem ml_Law_71 : Cond.methodLink RL 71 yX7_covers ∈ tb := (tb_t 898 (by decide +kernel) (by decide +kernel))
theorem ml_Law_72 : Cond.methodLink RL 72 yX6_fits ∈ tb := (tb_t 577 (by decide +kernel) (by decide +kernel))
theorem ml_Law_75 : Cond.methodLink RL 75 yX7_fits ∈ tb := (tb_t 902 (by decide +kernel) (by decide +kernel))
theorem ml_Law_76 : Cond.methodLink RL 76 yX6_table ∈ tb := (tb_t 581 (by decide +kernel) (by decide +kernel))
theorem ml_Law_79 : Cond.methodLink RL 79 yX7_table ∈ tb := (tb_t 906 (by decide +kernel) (by decide +kernel))
theorem ml_Law_80 : Cond.methodLink RL 80 yX6_told ∈ tb := (tb_t 590 (by decide +kernel) (by decide +kernel))
theorem ml_Law_83 : Cond.methodLink RL 83 yX7_told ∈ tb := (tb_t 914 (by decide +kernel) (by decide +kernel))
theorem ml_Law_84 : Cond.methodLink RL 84 yX6_message ∈ tb := (tb_t 594 (by decide +kernel) (by decide +kernel))
theorem ml_Law_87 : Cond.methodLink RL 87 yX7_message ∈ tb := (tb_t 918 (by decide +kernel) (by decide +kernel))
theorem ml_Law_88 : Cond.methodLink RL 88 yX6_heard ∈ tb := (tb_t 598 (by decide +kernel) (by decide +kernel))
theorem ml_Law_91 : Cond.methodLink RL 91 yX7_heard ∈ tb := (tb_t 922 (by decide +kernel) (by decide +kernel))
theorem ml_Law_92 : Cond.methodLink RL 92 yX6_notice ∈ tb := (tb_t 606 (by decide +kernel) (by decide +kernel))
theorem ml_Law_95 : Cond.methodLink RL 95 yX7_notice ∈ tb := (tb_t 926 (by decide +kernel) (by decide +kernel))
theorem ml_Law_96 : Cond.methodLink RL 96 yX6_look ∈ tb := (tb_t 610 (by decide +kernel) (by decide +kernel))
theorem ml_Law_99 : Cond.methodLink RL 99 yX7_look ∈ tb := (tb_t 930 (by decide +kernel) (by decide +kernel))
theorem ml_Law_100 : Cond.methodLink RL 100 yX6_count ∈ tb := (tb_t 615 (by decide +kernel) (by decide +kernel))
theorem ml_Law_103 : Cond.methodLink RL 103 yX7_count ∈ tb := (tb_t 934 (by decide +kernel) (by decide +kernel))
theorem ml_Mo_3 : Cond.methodLink RX7 3 objectInit ∈ tb := (tb_t 636 (by decide +kernel) (by decide +kernel))
theorem ml_Mo_88 : Cond.methodLink RX7 88 yX7_unread ∈ tb := (tb_t 638 (by decide +kernel) (by decide +kernel))
theorem ml_Mo_98 : Cond.methodLink RX7 98 yX7_passes ∈ tb := (tb_t 820 (by decide +kernel) (by decide +kernel))
theorem ml_Mo_102 : Cond.methodLink RX7 102 yX7_isFit ∈ tb := (tb_t 874 (by decide +kernel) (by decide +kernel))
theorem ml_Mo_112 : Cond.methodLink RX7 112 yX7_spans ∈ tb := (tb_t 832 (by decide +kernel) (by decide +kernel))
theorem ml_Mo_116 : Cond.methodLink RX7 116 yX7_holds ∈ tb := (tb_t 838 (by decide +kernel) (by decide +kernel))
theorem ml_Mo_119 : Cond.methodLink RX7 119 yX7_isLinked ∈ tb := (tb_t 759 (by decide +kernel) (by decide +kernel))
theorem ml_Mo_122 : Cond.methodLink RX7 122 yX7_rowOf ∈ tb := (tb_t 767 (by decide +kernel) (by decide +kernel))
theorem ml_Mo_125 : Cond.methodLink RX7 125 yX7_has ∈ tb := (tb_t 778 (by decide +kernel) (by decide +kernel))
theorem ml_Mo_132 : Cond.methodLink RX7 132 yX7_means ∈ tb := (tb_t 774 (by decide +kernel) (by decide +kernel))
theorem ml_Mo_136 : Cond.methodLink RX7 136 yX7_lastOf ∈ tb := (tb_t 781 (by decide +kernel) (by decide +kernel))
theorem ml_Mo_139 : Cond.methodLink RX7 139 yX7_put ∈ tb := (tb_t 785 (by decide +kernel) (by decide +kernel))
theorem ml_Mo_143 : Cond.methodLink RX7 143 yX7_isDesk ∈ tb := (tb_t 751 (by decide +kernel) (by decide +kernel))
theorem ml_Mo_147 : Cond.methodLink RX7 147 yX7_reach ∈ tb := (tb_t 755 (by decide +kernel) (by decide +kernel))
theorem ml_Mo_150 : Cond.methodLink RX7 150 yX7_links ∈ tb := (tb_t 763 (by decide +kernel) (by decide +kernel))
theorem ml_Mo_154 : Cond.methodLink RX7 154 yX7_tells ∈ tb := (tb_t 770 (by decide +kernel) (by decide +kernel))
theorem ml_Mo_157 : Cond.methodLink RX7 157 yX7_drop ∈ tb := (tb_t 793 (by decide +kernel) (by decide +kernel))
theorem ml_Mo_164 : Cond.methodLink RX7 164 yX7_isReader ∈ tb := (tb_t 805 (by decide +kernel) (by decide +kernel))
theorem ml_Mo_167 : Cond.methodLink RX7 167 yX7_isField ∈ tb := (tb_t 813 (by decide +kernel) (by decide +kernel))
theorem ml_Mo_170 : Cond.methodLink RX7 170 yX7_isCovered ∈ tb := (tb_t 828 (by decide +kernel) (by decide +kernel))
theorem ml_Mo_173 : Cond.methodLink RX7 173 yX7_isWish ∈ tb := (tb_t 846 (by decide +kernel) (by decide +kernel))
theorem ml_Mo_176 : Cond.methodLink RX7 176 yX7_isFit_ ∈ tb := (tb_t 870 (by decide +kernel) (by decide +kernel))
theorem ml_Mo_178 : Cond.methodLink RX7 178 yX7_wants ∈ tb := (tb_t 866 (by decide +kernel) (by decide +kernel))
theorem ml_Mo_187 : Cond.methodLink RX7 187 yX7_isNeeded ∈ tb := (tb_t 878 (by decide +kernel) (by decide +kernel))
theorem ml_Mo_194 : Cond.methodLink RX7 194 yX7_messagesOf ∈ tb := (tb_t 858 (by decide +kernel) (by decide +kernel))
theorem ml_Mo_198 : Cond.methodLink RX7 198 yX7_underWay ∈ tb := (tb_t 854 (by decide +kernel) (by decide +kernel))
theorem ml_Mo_202 : Cond.methodLink RX7 202 yX7_comes ∈ tb := (tb_t 862 (by decide +kernel) (by decide +kernel))
theorem ml_Mo_209 : Cond.methodLink RX7 209 yX7_firstOf ∈ tb := (tb_t 886 (by decide +kernel) (by decide +kernel))
theorem ml_Mo_212 : Cond.methodLink RX7 212 yX7_delivers ∈ tb := (tb_t 890 (by decide +kernel) (by decide +kernel))
theorem ml_Mo_215 : Cond.methodLink RX7 215 yX7_inRow ∈ tb := (tb_t 910 (by decide +kernel) (by decide +kernel))
theorem ml_AC_1 : Cond.methodLink RJxa1e45 1 objectInit ∈ tb := (tb_t 37 (by decide +kernel) (by decide +kernel))
theorem ml_ALi_1 : Cond.methodLink RJxc12de 1 yJxa1e45_init_da8c8 ∈ tb := (tb_t 34 (by decide +kernel) (by decide +kernel))
theorem ml_AL_1 : Cond.methodLink RJx4a65c 1 yJxc12de_init_da8c8 ∈ tb := (tb_t 31 (by decide +kernel) (by decide +kernel))
theorem ml_AL_66 : Cond.methodLink RJx4a65c 66 yJ7_copyOf_1904c ∈ tb := (tb_t 318 (by decide +kernel) (by decide +kernel))
theorem ml_AL_69 : Cond.methodLink RJx4a65c 69 yJx4a65c_grow_92f84 ∈ tb := (tb_t 304 (by decide +kernel) (by decide +kernel))
theorem ml_AL_73 : Cond.methodLink RJx4a65c 73 yJ8_newLength_cabcc ∈ tb := (tb_t 308 (by decide +kernel) (by decide +kernel))
theorem ml_AL_79 : Cond.methodLink RJx4a65c 79 yJ9_max_7cf53 ∈ tb := (tb_t 344 (by decide +kernel) (by decide +kernel))
theorem ml_AL_112 : Cond.methodLink RJx4a65c 112 arraycopyName ∈ tb := (tb_t 171 (by decide +kernel) (by decide +kernel))
theorem ml_AL_118 : Cond.methodLink RJx4a65c 118 yJ15_checkIndex_7cf53 ∈ tb := (tb_t 161 (by decide +kernel) (by decide +kernel))
theorem ml_AL_123 : Cond.methodLink RJx4a65c 123 yJx4a65c_elementData_915e3 ∈ tb := (tb_t 228 (by decide +kernel) (by decide +kernel))
theorem ml_AL_129 : Cond.methodLink RJx4a65c 129 yJx4a65c_grow_d5877 ∈ tb := (tb_t 300 (by decide +kernel) (by decide +kernel))
theorem ml_AL_131 : Cond.methodLink RJx4a65c 131 yJx4a65c_add_72be8 ∈ tb := (tb_t 296 (by decide +kernel) (by decide +kernel))
theorem ml_AL_144 : Cond.methodLink RJx4a65c 144 yJx4a65c_fastRemove_b59b0 ∈ tb := (tb_t 167 (by decide +kernel) (by decide +kernel))
theorem ml_Arrs_86 : Cond.methodLink RJ7 86 ⟨"java/lang/Object", "getClass", "()Ljava/lang/Class;"⟩ ∈ tb := (tb_t 321 (by decide +kernel) (by decide +kernel))
theorem ml_Arrs_150 : Cond.methodLink RJ7 150 arraycopyName ∈ tb := (tb_t 343 (by decide +kernel) (by decide +kernel))
theorem ml_Arrs_300 : Cond.methodLink RJ7 300 yJ7_copyOf_6403c ∈ tb := (tb_t 334 (by decide +kernel) (by decide +kernel))
theorem ml_Arrs_304 : Cond.methodLink RJ7 304 yJ9_min_7cf53 ∈ tb := (tb_t 340 (by decide +kernel) (by decide +kernel))
theorem ml_Objs_105 : Cond.methodLink RJ15 105 yJ3_checkIndex_8e157 ∈ tb := (tb_t 164 (by decide +kernel) (by decide +kernel))
theorem ml_ASup_194 : Cond.methodLink RJ8 194 yJ9_max_7cf53 ∈ tb := (tb_t 311 (by decide +kernel) (by decide +kernel))
theorem ml_ASup_201 : Cond.methodLink RJ8 201 yJ8_hugeLength_7cf53 ∈ tb := (tb_t 315 (by decide +kernel) (by decide +kernel))
theorem mn_WR_37 : Cond.methodLinkNest RX6 37 yX4_init "WishRoutes" ∈ xw := (xw_t 56 (by decide +kernel) (by decide +kernel))
theorem mn_WR_226 : Cond.methodLinkNest RX6 226 yX0_init "WishRoutes" ∈ xw := (xw_t 72 (by decide +kernel) (by decide +kernel))
theorem mn_WR_234 : Cond.methodLinkNest RX6 234 yX1_init "WishRoutes" ∈ xw := (xw_t 175 (by decide +kernel) (by decide +kernel))
theorem mn_Lane_11 : Cond.methodLinkNest RX1 11 yX4_init "WishRoutes" ∈ xw := (xw_t 180 (by decide +kernel) (by decide +kernel))
theorem mn_Wsh_11 : Cond.methodLinkNest RX5 11 yX4_init "WishRoutes" ∈ xw := (xw_t 408 (by decide +kernel) (by decide +kernel))
theorem cl_WR_9 : Cond.classLink RX6 9 RJx4a65c ∈ tb := (tb_t 26 (by decide +kernel) (by decide +kernel))
theorem cl_WR_26 : Cond.classLink RX6 26 RX1 ∈ tb := (tb_t 52 (by decide +kernel) (by decide +kernel))
theorem cl_WR_35 : Cond.classLink RX6 35 RX4 ∈ tb := (tb_t 54 (by decide +kernel) (by decide +kernel))
theorem cl_WR_100 : Cond.classLink RX6 100 RX3 ∈ tb := (tb_t 350 (by decide +kernel) (by decide +kernel))
theorem cl_WR_119 : Cond.classLink RX6 119 RX0 ∈ tb := (tb_t 69 (by decide +kernel) (by decide +kernel))
theorem cl_WR_127 : Cond.classLink RX6 127 RX5 ∈ tb := (tb_t 232 (by decide +kernel) (by decide +kernel))
theorem cl_WR_151 : Cond.classLink RX6 151 RX2 ∈ tb := (tb_t 286 (by decide +kernel) (by decide +kernel))
theorem cl_Lane_9 : Cond.classLink RX1 9 RX4 ∈ tb := (tb_t 179 (by decide +kernel) (by decide +kernel))
theorem cl_Wsh_9 : Cond.classLink RX5 9 RX4 ∈ tb := (tb_t 407 (by decide +kernel) (by decide +kernel))
theorem cl_Law_7 : Cond.classLink RL 7 RX6 ∈ tb := (tb_t 18 (by decide +kernel) (by decide +kernel))
theorem cl_Law_10 : Cond.classLink RL 10 RX7 ∈ tb := (tb_t 631 (by decide +kernel) (by decide +kernel))
theorem cl_AL_7 : Cond.classLink RJx4a65c 7 "java/lang/Object" ∈ tb := (tb_t 345 (by decide +kernel) (by decide +kernel))
theorem cl_Arrs_2 : Cond.classLink RJ7 2 "java/lang/Object" ∈ tb := (tb_t 339 (by decide +kernel) (by decide +kernel))
theorem cl_Arrs_110 : Cond.classLink RJ7 110 "[Ljava/lang/Object;" ∈ tb := (tb_t 337 (by decide +kernel) (by decide +kernel))
theorem kc_WR_164 : Cond.constant RX6 164 (1000000) ∈ tb := (tb_t 556 (by decide +kernel) (by decide +kernel))
theorem kc_FT_28 : Cond.constant RX0 28 (-2147483648) ∈ tb := (tb_t 446 (by decide +kernel) (by decide +kernel))
theorem kc_FT_29 : Cond.constant RX0 29 (2147483647) ∈ tb := (tb_t 447 (by decide +kernel) (by decide +kernel))
theorem kc_Mo_75 : Cond.constant RX7 75 (90000) ∈ tb := (tb_t 637 (by decide +kernel) (by decide +kernel))
theorem kc_ASup_200 : Cond.constant RJ8 200 (2147483639) ∈ tb := (tb_t 314 (by decide +kernel) (by decide +kernel))
theorem kl_FT_45 : Cond.constantLong RX0 45 (-2147483648) ∈ tb := (tb_t 460 (by decide +kernel) (by decide +kernel))
theorem kl_FT_51 : Cond.constantLong RX0 51 (2147483647) ∈ tb := (tb_t 469 (by decide +kernel) (by decide +kernel))
theorem kl_Mo_108 : Cond.constantLong RX7 108 (-2147483648) ∈ tb := (tb_t 836 (by decide +kernel) (by decide +kernel))
theorem kl_Mo_110 : Cond.constantLong RX7 110 (2147483647) ∈ tb := (tb_t 837 (by decide +kernel) (by decide +kernel))
theorem ao_Lane_0 : Cond.arrayOver (.object "WishRoutes$Lane") ∈ xw := (xw_t 53 (by decide +kernel) (by decide +kernel))
theorem ao_FT_0 : Cond.arrayOver (.object "WishRoutes$FieldTest") ∈ xw := (xw_t 70 (by decide +kernel) (by decide +kernel))
theorem ao_Row_0 : Cond.arrayOver (.object "WishRoutes$Row") ∈ xw := (xw_t 181 (by decide +kernel) (by decide +kernel))
theorem ao_Obj_0 : Cond.arrayOver (.object "java/lang/Object") ∈ xw := (xw_t 338 (by decide +kernel) (by decide +kernel))
theorem sf_AL_0 : Cond.sameField "java/util/ArrayList" "java/util/AbstractList" "modCount" "I" ∈ tb := (tb_t 44 (by decide +kernel) (by decide +kernel))
theorem zk_Lane_Lane : zcast 2 "WishRoutes$Lane" := Or.inl rfl
theorem zk_Wsh_Wsh : zcast 6 "WishRoutes$Wish" := Or.inl rfl
theorem zk_Not_Not : zcast 3 "WishRoutes$Notice" := Or.inl rfl
theorem zk_Rdr_Rdr : zcast 4 "WishRoutes$Reader" := Or.inl rfl
theorem zk_WR_Obj : zcast 7 "java/lang/Object" := Or.inr (xw_t 945 (by decide +kernel) (by decide +kernel))
theorem zk_Row_Obj : zcast 5 "java/lang/Object" := Or.inr (xw_t 946 (by decide +kernel) (by decide +kernel))
theorem zk_FT_Obj : zcast 1 "java/lang/Object" := Or.inr (xw_t 947 (by decide +kernel) (by decide +kernel))
theorem zk_Mo_Obj : zcast 8 "java/lang/Object" := Or.inr (xw_t 948 (by decide +kernel) (by decide +kernel))
theorem zk_Lane_Obj : zcast 2 "java/lang/Object" := Or.inr (xw_t 949 (by decide +kernel) (by decide +kernel))
theorem zk_Rdr_Obj : zcast 4 "java/lang/Object" := Or.inr (xw_t 950 (by decide +kernel) (by decide +kernel))
theorem zk_Wsh_Obj : zcast 6 "java/lang/Object" := Or.inr (xw_t 951 (by decide +kernel) (by decide +kernel))
theorem zk_Not_Obj : zcast 3 "java/lang/Object" := Or.inr (xw_t 952 (by decide +kernel) (by decide +kernel))
theorem zk_FT_FT : zcast 1 "WishRoutes$FieldTest" := Or.inl rfl
theorem zk_Row_Row : zcast 5 "WishRoutes$Row" := Or.inl rfl
theorem yi_FT_init : zYI yX0_init cX0_init 1 1 := ⟨by decide +kernel, (tb_t 73 (by decide +kernel) (by decide +kernel)), (tb_t 6 (by decide +kernel) (by decide +kernel)), (tb_t 74 (by decide +kernel) (by decide +kernel)), by decide +kernel, by decide +kernel, by decide +kernel⟩
theorem yv_FT_setKind : zYV yX0_setKind cX0_setKind 4 (none) 4 := ⟨(tb_t 383 (by decide +kernel) (by decide +kernel)), (tb_t 384 (by decide +kernel) (by decide +kernel)), (tb_t 6 (by decide +kernel) (by decide +kernel)), (tb_t 385 (by decide +kernel) (by decide +kernel)), by decide +kernel, by decide +kernel, by decide +kernel⟩
theorem yv_FT_addNumber : zYV yX0_addNumber cX0_addNumber 3 (some .boolean) 2 := ⟨(tb_t 391 (by decide +kernel) (by decide +kernel)), (tb_t 392 (by decide +kernel) (by decide +kernel)), (tb_t 6 (by decide +kernel) (by decide +kernel)), (tb_t 393 (by decide +kernel) (by decide +kernel)), by decide +kernel, by decide +kernel, by decide +kernel⟩
theorem yv_FT_numberAt : zYV yX0_numberAt cX0_numberAt 2 (some .int) 2 := ⟨(tb_t 462 (by decide +kernel) (by decide +kernel)), (tb_t 463 (by decide +kernel) (by decide +kernel)), (tb_t 6 (by decide +kernel) (by decide +kernel)), (tb_t 464 (by decide +kernel) (by decide +kernel)), by decide +kernel, by decide +kernel, by decide +kernel⟩
theorem yv_FT_passes : zYV yX0_passes cX0_passes 2 (some .boolean) 2 := ⟨(tb_t 529 (by decide +kernel) (by decide +kernel)), (tb_t 530 (by decide +kernel) (by decide +kernel)), (tb_t 6 (by decide +kernel) (by decide +kernel)), (tb_t 531 (by decide +kernel) (by decide +kernel)), by decide +kernel, by decide +kernel, by decide +kernel⟩
theorem yv_FT_passesNone : zYV yX0_passesNone cX0_passesNone 1 (some .boolean) 1 := ⟨(tb_t 443 (by decide +kernel) (by decide +kernel)), (tb_t 444 (by decide +kernel) (by decide +kernel)), (tb_t 6 (by decide +kernel) (by decide +kernel)), (tb_t 445 (by decide +kernel) (by decide +kernel)), by decide +kernel, by decide +kernel, by decide +kernel⟩
theorem yv_FT_isAsWideAs : zYV yX0_isAsWideAs cX0_isAsWideAs 3 (some .boolean) 2 := ⟨(tb_t 449 (by decide +kernel) (by decide +kernel)), (tb_t 450 (by decide +kernel) (by decide +kernel)), (tb_t 6 (by decide +kernel) (by decide +kernel)), (tb_t 451 (by decide +kernel) (by decide +kernel)), by decide +kernel, by decide +kernel, by decide +kernel⟩
theorem yv_FT_hasNumber : zYV yX0_hasNumber cX0_hasNumber 3 (some .boolean) 2 := ⟨(tb_t 396 (by decide +kernel) (by decide +kernel)), (show Cond.selects yX0_hasNumber.cls yX0_hasNumber yX0_hasNumber ∈ tb from tb_s (q := (yX0_hasNumber, _)) 16 rfl), (tb_t 6 (by decide +kernel) (by decide +kernel)), (tb_t 397 (by decide +kernel) (by decide +kernel)), by decide +kernel, by decide +kernel, by decide +kernel⟩
theorem yv_FT_passesAll : zYV yX0_passesAll cX0_passesAll 8 (some .boolean) 3 := ⟨(tb_t 472 (by decide +kernel) (by decide +kernel)), (show Cond.selects yX0_passesAll.cls yX0_passesAll yX0_passesAll ∈ tb from tb_s (q := (yX0_passesAll, _)) 22 rfl), (tb_t 6 (by decide +kernel) (by decide +kernel)), (tb_t 473 (by decide +kernel) (by decide +kernel)), by decide +kernel, by decide +kernel, by decide +kernel⟩
theorem yv_FT_spans : zYV yX0_spans cX0_spans 1 (some .int) 1 := ⟨(tb_t 454 (by decide +kernel) (by decide +kernel)), (show Cond.selects yX0_spans.cls yX0_spans yX0_spans ∈ tb from tb_s (q := (yX0_spans, _)) 19 rfl), (tb_t 6 (by decide +kernel) (by decide +kernel)), (tb_t 455 (by decide +kernel) (by decide +kernel)), by decide +kernel, by decide +kernel, by decide +kernel⟩
theorem yv_FT_spanStart : zYV yX0_spanStart cX0_spanStart 2 (some .long) 2 := ⟨(tb_t 458 (by decide +kernel) (by decide +kernel)), (show Cond.selects yX0_spanStart.cls yX0_spanStart yX0_spanStart ∈ tb from tb_s (q := (yX0_spanStart, _)) 20 rfl), (tb_t 6 (by decide +kernel) (by decide +kernel)), (tb_t 459 (by decide +kernel) (by decide +kernel)), by decide +kernel, by decide +kernel, by decide +kernel⟩
theorem yv_FT_spanEnd : zYV yX0_spanEnd cX0_spanEnd 2 (some .long) 2 := ⟨(tb_t 467 (by decide +kernel) (by decide +kernel)), (show Cond.selects yX0_spanEnd.cls yX0_spanEnd yX0_spanEnd ∈ tb from tb_s (q := (yX0_spanEnd, _)) 21 rfl), (tb_t 6 (by decide +kernel) (by decide +kernel)), (tb_t 468 (by decide +kernel) (by decide +kernel)), by decide +kernel, by decide +kernel, by decide +kernel⟩
theorem yi_Lane_init : zYI yX1_init cX1_init 1 1 := ⟨by decide +kernel, (tb_t 176 (by decide +kernel) (by decide +kernel)), (tb_t 11 (by decide +kernel) (by decide +kernel)), (tb_t 177 (by decide +kernel) (by decide +kernel)), by decide +kernel, by decide +kernel, by decide +kernel⟩
theorem yv_Lane_itemAt : zYV yX1_itemAt cX1_itemAt 2 (some .int) 2 := ⟨(tb_t 258 (by decide +kernel) (by decide +kernel)), (tb_t 259 (by decide +kernel) (by decide +kernel)), (tb_t 11 (by decide +kernel) (by decide +kernel)), (tb_t 260 (by decide +kernel) (by decide +kernel)), by decide +kernel, by decide +kernel, by decide +kernel⟩
theorem yv_Lane_putNotice : zYV yX1_putNotice cX1_putNotice 2 (none) 2 := ⟨(tb_t 545 (by decide +kernel) (by decide +kernel)), (tb_t 546 (by decide +kernel) (by decide +kernel)), (tb_t 11 (by decide +kernel) (by decide +kernel)), (tb_t 547 (by decide +kernel) (by decide +kernel)), by decide +kernel, by decide +kernel, by decide +kernel⟩
theorem yv_Lane_putTell : zYV yX1_putTell cX1_putTell 2 (none) 2 := ⟨(tb_t 254 (by decide +kernel) (by decide +kernel)), (tb_t 255 (by decide +kernel) (by decide +kernel)), (tb_t 11 (by decide +kernel) (by decide +kernel)), (tb_t 256 (by decide +kernel) (by decide +kernel)), by decide +kernel, by decide +kernel, by decide +kernel⟩
theorem yv_Lane_takeFirst : zYV yX1_takeFirst cX1_takeFirst 2 (some .int) 1 := ⟨(tb_t 562 (by decide +kernel) (by decide +kernel)), (tb_t 563 (by decide +kernel) (by decide +kernel)), (tb_t 11 (by decide +kernel) (by decide +kernel)), (tb_t 564 (by decide +kernel) (by decide +kernel)), by decide +kernel, by decide +kernel, by decide +kernel⟩
theorem yv_Lane_tells : zYV yX1_tells cX1_tells 3 (some .int) 1 := ⟨(tb_t 628 (by decide +kernel) (by decide +kernel)), (tb_t 629 (by decide +kernel) (by decide +kernel)), (tb_t 11 (by decide +kernel) (by decide +kernel)), (tb_t 630 (by decide +kernel) (by decide +kernel)), by decide +kernel, by decide +kernel, by decide +kernel⟩
theorem yv_Lane_clear : zYV yX1_clear cX1_clear 1 (none) 1 := ⟨(tb_t 288 (by decide +kernel) (by decide +kernel)), (tb_t 289 (by decide +kernel) (by decide +kernel)), (tb_t 11 (by decide +kernel) (by decide +kernel)), (tb_t 290 (by decide +kernel) (by decide +kernel)), by decide +kernel, by decide +kernel, by decide +kernel⟩
theorem yv_Lane_slot : zYV yX1_slot cX1_slot 2 (some .int) 2 := ⟨(tb_t 263 (by decide +kernel) (by decide +kernel)), (show Cond.selects yX1_slot.cls yX1_slot yX1_slot ∈ tb from tb_s (q := (yX1_slot, _)) 8 rfl), (tb_t 11 (by decide +kernel) (by decide +kernel)), (tb_t 264 (by decide +kernel) (by decide +kernel)), by decide +kernel, by decide +kernel, by decide +kernel⟩
theorem yv_Lane_rowAt : zYV yX1_rowAt cX1_rowAt 2 (some (.object "WishRoutes$Row")) 2 := ⟨(tb_t 267 (by decide +kernel) (by decide +kernel)), (show Cond.selects yX1_rowAt.cls yX1_rowAt yX1_rowAt ∈ tb from tb_s (q := (yX1_rowAt, _)) 9 rfl), (tb_t 11 (by decide +kernel) (by decide +kernel)), (tb_t 268 (by decide +kernel) (by decide +kernel)), by decide +kernel, by decide +kernel, by decide +kernel⟩
theorem yi_Not_init : zYI yX2_init cX2_init 4 4 := ⟨by decide +kernel, (tb_t 492 (by decide +kernel) (by decide +kernel)), (tb_t 17 (by decide +kernel) (by decide +kernel)), (tb_t 493 (by decide +kernel) (by decide +kernel)), by decide +kernel, by decide +kernel, by decide +kernel⟩
theorem yi_Rdr_init : zYI yX3_init cX3_init 2 2 := ⟨by decide +kernel, (tb_t 353 (by decide +kernel) (by decide +kernel)), (tb_t 15 (by decide +kernel) (by decide +kernel)), (tb_t 354 (by decide +kernel) (by decide +kernel)), by decide +kernel, by decide +kernel, by decide +kernel⟩
theorem yv_Rdr_addHeard : zYV yX3_addHeard cX3_addHeard 2 (none) 2 := ⟨(tb_t 533 (by decide +kernel) (by decide +kernel)), (tb_t 534 (by decide +kernel) (by decide +kernel)), (tb_t 15 (by decide +kernel) (by decide +kernel)), (tb_t 535 (by decide +kernel) (by decide +kernel)), by decide +kernel, by decide +kernel, by decide +kernel⟩
theorem yv_Rdr_nthHeard : zYV yX3_nthHeard cX3_nthHeard 2 (some .int) 2 := ⟨(tb_t 603 (by decide +kernel) (by decide +kernel)), (tb_t 604 (by decide +kernel) (by decide +kernel)), (tb_t 15 (by decide +kernel) (by decide +kernel)), (tb_t 605 (by decide +kernel) (by decide +kernel)), by decide +kernel, by decide +kernel, by decide +kernel⟩
theorem yi_Row_init : zYI yX4_init cX4_init 1 1 := ⟨by decide +kernel, (tb_t 57 (by decide +kernel) (by decide +kernel)), (tb_t 5 (by decide +kernel) (by decide +kernel)), (tb_t 58 (by decide +kernel) (by decide +kernel)), by decide +kernel, by decide +kernel, by decide +kernel⟩
theorem yv_Row_has : zYV yX4_has cX4_has 2 (some .boolean) 2 := ⟨(tb_t 242 (by decide +kernel) (by decide +kernel)), (tb_t 243 (by decide +kernel) (by decide +kernel)), (tb_t 5 (by decide +kernel) (by decide +kernel)), (tb_t 244 (by decide +kernel) (by decide +kernel)), by decide +kernel, by decide +kernel, by decide +kernel⟩
theorem yv_Row_add : zYV yX4_add cX4_add 2 (none) 2 := ⟨(tb_t 234 (by decide +kernel) (by decide +kernel)), (tb_t 235 (by decide +kernel) (by decide +kernel)), (tb_t 5 (by decide +kernel) (by decide +kernel)), (tb_t 236 (by decide +kernel) (by decide +kernel)), by decide +kernel, by decide +kernel, by decide +kernel⟩
theorem yv_Row_addAll : zYV yX4_addAll cX4_addAll 3 (none) 2 := ⟨(tb_t 238 (by decide +kernel) (by decide +kernel)), (tb_t 239 (by decide +kernel) (by decide +kernel)), (tb_t 5 (by decide +kernel) (by decide +kernel)), (tb_t 240 (by decide +kernel) (by decide +kernel)), by decide +kernel, by decide +kernel, by decide +kernel⟩
theorem yv_Row_clear : zYV yX4_clear cX4_clear 2 (none) 1 := ⟨(tb_t 221 (by decide +kernel) (by decide +kernel)), (tb_t 222 (by decide +kernel) (by decide +kernel)), (tb_t 5 (by decide +kernel) (by decide +kernel)), (tb_t 223 (by decide +kernel) (by decide +kernel)), by decide +kernel, by decide +kernel, by decide +kernel⟩
theorem yv_Row_set : zYV yX4_set cX4_set 3 (none) 2 := ⟨(tb_t 270 (by decide +kernel) (by decide +kernel)), (tb_t 271 (by decide +kernel) (by decide +kernel)), (tb_t 5 (by decide +kernel) (by decide +kernel)), (tb_t 272 (by decide +kernel) (by decide +kernel)), by decide +kernel, by decide +kernel, by decide +kernel⟩
theorem yv_Row_meets : zYV yX4_meets cX4_meets 3 (some .boolean) 2 := ⟨(tb_t 246 (by decide +kernel) (by decide +kernel)), (tb_t 247 (by decide +kernel) (by decide +kernel)), (tb_t 5 (by decide +kernel) (by decide +kernel)), (tb_t 248 (by decide +kernel) (by decide +kernel)), by decide +kernel, by decide +kernel, by decide +kernel⟩
theorem yv_Row_sameAs : zYV yX4_sameAs cX4_sameAs 3 (some .boolean) 2 := ⟨(tb_t 250 (by decide +kernel) (by decide +kernel)), (tb_t 251 (by decide +kernel) (by decide +kernel)), (tb_t 5 (by decide +kernel) (by decide +kernel)), (tb_t 252 (by decide +kernel) (by decide +kernel)), by decide +kernel, by decide +kernel, by decide +kernel⟩
theorem yv_Row_nth : zYV yX4_nth cX4_nth 4 (some .int) 2 := ⟨(tb_t 586 (by decide +kernel) (by decide +kernel)), (tb_t 587 (by decide +kernel) (by decide +kernel)), (tb_t 5 (by decide +kernel) (by decide +kernel)), (tb_t 588 (by decide +kernel) (by decide +kernel)), by decide +kernel, by decide +kernel, by decide +kernel⟩
theorem yi_Wsh_init : zYI yX5_init cX5_init 4 4 := ⟨by decide +kernel, (tb_t 404 (by decide +kernel) (by decide +kernel)), (tb_t 16 (by decide +kernel) (by decide +kernel)), (tb_t 405 (by decide +kernel) (by decide +kernel)), by decide +kernel, by decide +kernel, by decide +kernel⟩
theorem yv_Wsh_isMetBy : zYV yX5_isMetBy cX5_isMetBy 3 (some .boolean) 2 := ⟨(tb_t 525 (by decide +kernel) (by decide +kernel)), (tb_t 526 (by decide +kernel) (by decide +kernel)), (tb_t 16 (by decide +kernel) (by decide +kernel)), (tb_t 527 (by decide +kernel) (by decide +kernel)), by decide +kernel, by decide +kernel, by decide +kernel⟩
theorem yv_Wsh_takesIn : zYV yX5_takesIn cX5_takesIn 3 (some .boolean) 2 := ⟨(tb_t 435 (by decide +kernel) (by decide +kernel)), (tb_t 436 (by decide +kernel) (by decide +kernel)), (tb_t 16 (by decide +kernel) (by decide +kernel)), (tb_t 437 (by decide +kernel) (by decide +kernel)), by decide +kernel, by decide +kernel, by decide +kernel⟩
theorem yv_Wsh_isNeverMet : zYV yX5_isNeverMet cX5_isNeverMet 2 (some .boolean) 1 := ⟨(tb_t 440 (by decide +kernel) (by decide +kernel)), (show Cond.selects yX5_isNeverMet.cls yX5_isNeverMet yX5_isNeverMet ∈ tb from tb_s (q := (yX5_isNeverMet, _)) 18 rfl), (tb_t 16 (by decide +kernel) (by decide +kernel)), (tb_t 441 (by decide +kernel) (by decide +kernel)), by decide +kernel, by decide +kernel, by decide +kernel⟩
theorem yi_WR_init : zYI yX6_init cX6_init 1 1 := ⟨by decide +kernel, (tb_t 21 (by decide +kernel) (by decide +kernel)), (tb_t 1 (by decide +kernel) (by decide +kernel)), (tb_t 22 (by decide +kernel) (by decide +kernel)), by decide +kernel, by decide +kernel, by decide +kernel⟩
theorem yv_WR_desk : zYV yX6_desk cX6_desk 1 (some .int) 1 := ⟨(tb_t 131 (by decide +kernel) (by decide +kernel)), (tb_t 132 (by decide +kernel) (by decide +kernel)), (tb_t 1 (by decide +kernel) (by decide +kernel)), (tb_t 133 (by decide +kernel) (by decide +kernel)), by decide +kernel, by decide +kernel, by decide +kernel⟩
theorem yv_WR_link : zYV yX6_link cX6_link 3 (some .int) 3 := ⟨(tb_t 135 (by decide +kernel) (by decide +kernel)), (tb_t 136 (by decide +kernel) (by decide +kernel)), (tb_t 1 (by decide +kernel) (by decide +kernel)), (tb_t 137 (by decide +kernel) (by decide +kernel)), by decide +kernel, by decide +kernel, by decide +kernel⟩
theorem yv_WR_cut : zYV yX6_cut cX6_cut 3 (some .int) 3 := ⟨(tb_t 274 (by decide +kernel) (by decide +kernel)), (tb_t 275 (by decide +kernel) (by decide +kernel)), (tb_t 1 (by decide +kernel) (by decide +kernel)), (tb_t 276 (by decide +kernel) (by decide +kernel)), by decide +kernel, by decide +kernel, by decide +kernel⟩
theorem yv_WR_reader : zYV yX6_reader cX6_reader 2 (some .int) 2 := ⟨(tb_t 347 (by decide +kernel) (by decide +kernel)), (tb_t 348 (by decide +kernel) (by decide +kernel)), (tb_t 1 (by decide +kernel) (by decide +kernel)), (tb_t 349 (by decide +kernel) (by decide +kernel)), by decide +kernel, by decide +kernel, by decide +kernel⟩
theorem yv_WR_move : zYV yX6_move cX6_move 5 (some .int) 3 := ⟨(tb_t 368 (by decide +kernel) (by decide +kernel)), (tb_t 369 (by decide +kernel) (by decide +kernel)), (tb_t 1 (by decide +kernel) (by decide +kernel)), (tb_t 370 (by decide +kernel) (by decide +kernel)), by decide +kernel, by decide +kernel, by decide +kernel⟩
theorem yv_WR_test : zYV yX6_test cX6_test 5 (some .boolean) 5 := ⟨(tb_t 376 (by decide +kernel) (by decide +kernel)), (tb_t 377 (by decide +kernel) (by decide +kernel)), (tb_t 1 (by decide +kernel) (by decide +kernel)), (tb_t 378 (by decide +kernel) (by decide +kernel)), by decide +kernel, by decide +kernel, by decide +kernel⟩
theorem yv_WR_among : zYV yX6_among cX6_among 3 (some .boolean) 3 := ⟨(tb_t 387 (by decide +kernel) (by decide +kernel)), (tb_t 388 (by decide +kernel) (by decide +kernel)), (tb_t 1 (by decide +kernel) (by decide +kernel)), (tb_t 389 (by decide +kernel) (by decide +kernel)), by decide +kernel, by decide +kernel, by decide +kernel⟩
theorem yv_WR_wish : zYV yX6_wish cX6_wish 4 (some .int) 2 := ⟨(tb_t 399 (by decide +kernel) (by decide +kernel)), (tb_t 400 (by decide +kernel) (by decide +kernel)), (tb_t 1 (by decide +kernel) (by decide +kernel)), (tb_t 401 (by decide +kernel) (by decide +kernel)), by decide +kernel, by decide +kernel, by decide +kernel⟩
theorem yv_WR_off : zYV yX6_off cX6_off 3 (some .int) 2 := ⟨(tb_t 475 (by decide +kernel) (by decide +kernel)), (tb_t 476 (by decide +kernel) (by decide +kernel)), (tb_t 1 (by decide +kernel) (by decide +kernel)), (tb_t 477 (by decide +kernel) (by decide +kernel)), by decide +kernel, by decide +kernel, by decide +kernel⟩
theorem yv_WR_send : zYV yX6_send cX6_send 8 (some .int) 6 := ⟨(tb_t 483 (by decide +kernel) (by decide +kernel)), (tb_t 484 (by decide +kernel) (by decide +kernel)), (tb_t 1 (by decide +kernel) (by decide +kernel)), (tb_t 485 (by decide +kernel) (by decide +kernel)), by decide +kernel, by decide +kernel, by decide +kernel⟩
theorem yv_WR_deliver : zYV yX6_deliver cX6_deliver 6 (some .int) 4 := ⟨(tb_t 553 (by decide +kernel) (by decide +kernel)), (tb_t 554 (by decide +kernel) (by decide +kernel)), (tb_t 1 (by decide +kernel) (by decide +kernel)), (tb_t 555 (by decide +kernel) (by decide +kernel)), by decide +kernel, by decide +kernel, by decide +kernel⟩
theorem yv_WR_all : zYV yX6_all cX6_all 3 (some .int) 1 := ⟨(tb_t 566 (by decide +kernel) (by decide +kernel)), (tb_t 567 (by decide +kernel) (by decide +kernel)), (tb_t 1 (by decide +kernel) (by decide +kernel)), (tb_t 568 (by decide +kernel) (by decide +kernel)), by decide +kernel, by decide +kernel, by decide +kernel⟩
theorem yv_WR_covers : zYV yX6_covers cX6_covers 5 (some .int) 3 := ⟨(tb_t 574 (by decide +kernel) (by decide +kernel)), (tb_t 575 (by decide +kernel) (by decide +kernel)), (tb_t 1 (by decide +kernel) (by decide +kernel)), (tb_t 576 (by decide +kernel) (by decide +kernel)), by decide +kernel, by decide +kernel, by decide +kernel⟩
theorem yv_WR_fits : zYV yX6_fits cX6_fits 7 (some .int) 6 := ⟨(tb_t 578 (by decide +kernel) (by decide +kernel)), (tb_t 579 (by decide +kernel) (by decide +kernel)), (tb_t 1 (by decide +kernel) (by decide +kernel)), (tb_t 580 (by decide +kernel) (by decide +kernel)), by decide +kernel, by decide +kernel, by decide +kernel⟩
theorem yv_WR_table : zYV yX6_table cX6_table 5 (some .int) 4 := ⟨(tb_t 582 (by decide +kernel) (by decide +kernel)), (tb_t 583 (by decide +kernel) (by decide +kernel)), (tb_t 1 (by decide +kernel) (by decide +kernel)), (tb_t 584 (by decide +kernel) (by decide +kernel)), by decide +kernel, by decide +kernel, by decide +kernel⟩
theorem yv_WR_told : zYV yX6_told cX6_told 5 (some .int) 4 := ⟨(tb_t 591 (by decide +kernel) (by decide +kernel)), (tb_t 592 (by decide +kernel) (by decide +kernel)), (tb_t 1 (by decide +kernel) (by decide +kernel)), (tb_t 593 (by decide +kernel) (by decide +kernel)), by decide +kernel, by decide +kernel, by decide +kernel⟩
theorem yv_WR_message : zYV yX6_message cX6_message 5 (some .int) 4 := ⟨(tb_t 595 (by decide +kernel) (by decide +kernel)), (tb_t 596 (by decide +kernel) (by decide +kernel)), (tb_t 1 (by decide +kernel) (by decide +kernel)), (tb_t 597 (by decide +kernel) (by decide +kernel)), by decide +kernel, by decide +kernel, by decide +kernel⟩
theorem yv_WR_heard : zYV yX6_heard cX6_heard 4 (some .int) 3 := ⟨(tb_t 599 (by decide +kernel) (by decide +kernel)), (tb_t 600 (by decide +kernel) (by decide +kernel)), (tb_t 1 (by decide +kernel) (by decide +kernel)), (tb_t 601 (by decide +kernel) (by decide +kernel)), by decide +kernel, by decide +kernel, by decide +kernel⟩
theorem yv_WR_notice : zYV yX6_notice cX6_notice 4 (some .int) 3 := ⟨(tb_t 607 (by decide +kernel) (by decide +kernel)), (tb_t 608 (by decide +kernel) (by decide +kernel)), (tb_t 1 (by decide +kernel) (by decide +kernel)), (tb_t 609 (by decide +kernel) (by decide +kernel)), by decide +kernel, by decide +kernel, by decide +kernel⟩
theorem yv_WR_look : zYV yX6_look cX6_look 5 (some .int) 3 := ⟨(tb_t 611 (by decide +kernel) (by decide +kernel)), (tb_t 612 (by decide +kernel) (by decide +kernel)), (tb_t 1 (by decide +kernel) (by decide +kernel)), (tb_t 613 (by decide +kernel) (by decide +kernel)), by decide +kernel, by decide +kernel, by decide +kernel⟩
theorem yv_WR_count : zYV yX6_count cX6_count 2 (some .int) 2 := ⟨(tb_t 616 (by decide +kernel) (by decide +kernel)), (tb_t 617 (by decide +kernel) (by decide +kernel)), (tb_t 1 (by decide +kernel) (by decide +kernel)), (tb_t 618 (by decide +kernel) (by decide +kernel)), by decide +kernel, by decide +kernel, by decide +kernel⟩
theorem ys_WR_allAny : zYS yX6_allAny cX6_allAny 2 (some (.array (.object "WishRoutes$FieldTest"))) 0 := ⟨(tb_t 67 (by decide +kernel) (by decide +kernel)), (tb_t 1 (by decide +kernel) (by decide +kernel)), (tb_t 68 (by decide +kernel) (by decide +kernel)), by decide +kernel, by decide +kernel, by decide +kernel⟩
theorem ys_WR_isField : zYS yX6_isField cX6_isField 1 (some .boolean) 1 := ⟨(tb_t 380 (by decide +kernel) (by decide +kernel)), (tb_t 1 (by decide +kernel) (by decide +kernel)), (tb_t 381 (by decide +kernel) (by decide +kernel)), by decide +kernel, by decide +kernel, by decide +kernel⟩
theorem ys_WR_inMask : zYS yX6_inMask cX6_inMask 2 (some .boolean) 2 := ⟨(tb_t 147 (by decide +kernel) (by decide +kernel)), (tb_t 1 (by decide +kernel) (by decide +kernel)), (tb_t 148 (by decide +kernel) (by decide +kernel)), by decide +kernel, by decide +kernel, by decide +kernel⟩
theorem yv_WR_isDesk : zYV yX6_isDesk cX6_isDesk 2 (some .boolean) 2 := ⟨(tb_t 140 (by decide +kernel) (by decide +kernel)), (show Cond.selects yX6_isDesk.cls yX6_isDesk yX6_isDesk ∈ tb from tb_s (q := (yX6_isDesk, _)) 0 rfl), (tb_t 1 (by decide +kernel) (by decide +kernel)), (tb_t 141 (by decide +kernel) (by decide +kernel)), by decide +kernel, by decide +kernel, by decide +kernel⟩
theorem yv_WR_findReader : zYV yX6_findReader cX6_findReader 2 (some (.object "WishRoutes$Reader")) 2 := ⟨(tb_t 373 (by decide +kernel) (by decide +kernel)), (show Cond.selects yX6_findReader.cls yX6_findReader yX6_findReader ∈ tb from tb_s (q := (yX6_findReader, _)) 15 rfl), (tb_t 1 (by decide +kernel) (by decide +kernel)), (tb_t 374 (by decide +kernel) (by decide +kernel)), by decide +kernel, by decide +kernel, by decide +kernel⟩
theorem yv_WR_findWish : zYV yX6_findWish cX6_findWish 2 (some (.object "WishRoutes$Wish")) 2 := ⟨(tb_t 480 (by decide +kernel) (by decide +kernel)), (show Cond.selects yX6_findWish.cls yX6_findWish yX6_findWish ∈ tb from tb_s (q := (yX6_findWish, _)) 23 rfl), (tb_t 1 (by decide +kernel) (by decide +kernel)), (tb_t 481 (by decide +kernel) (by decide +kernel)), by decide +kernel, by decide +kernel, by decide +kernel⟩
theorem yv_WR_findNotice : zYV yX6_findNotice cX6_findNotice 2 (some (.object "WishRoutes$Notice")) 2 := ⟨(tb_t 284 (by decide +kernel) (by decide +kernel)), (show Cond.selects yX6_findNotice.cls yX6_findNotice yX6_findNotice ∈ tb from tb_s (q := (yX6_findNotice, _)) 11 rfl), (tb_t 1 (by decide +kernel) (by decide +kernel)), (tb_t 285 (by decide +kernel) (by decide +kernel)), by decide +kernel, by decide +kernel, by decide +kernel⟩
theorem yv_WR_laneFrom : zYV yX6_laneFrom cX6_laneFrom 3 (some (.object "WishRoutes$Lane")) 3 := ⟨(tb_t 210 (by decide +kernel) (by decide +kernel)), (show Cond.selects yX6_laneFrom.cls yX6_laneFrom yX6_laneFrom ∈ tb from tb_s (q := (yX6_laneFrom, _)) 5 rfl), (tb_t 1 (by decide +kernel) (by decide +kernel)), (tb_t 211 (by decide +kernel) (by decide +kernel)), by decide +kernel, by decide +kernel, by decide +kernel⟩
theorem yv_WR_openLane : zYV yX6_openLane cX6_openLane 4 (none) 3 := ⟨(tb_t 151 (by decide +kernel) (by decide +kernel)), (show Cond.selects yX6_openLane.cls yX6_openLane yX6_openLane ∈ tb from tb_s (q := (yX6_openLane, _)) 2 rfl), (tb_t 1 (by decide +kernel) (by decide +kernel)), (tb_t 152 (by decide +kernel) (by decide +kernel)), by decide +kernel, by decide +kernel, by decide +kernel⟩
theorem yv_WR_closeLane : zYV yX6_closeLane cX6_closeLane 6 (none) 3 := ⟨(tb_t 279 (by decide +kernel) (by decide +kernel)), (show Cond.selects yX6_closeLane.cls yX6_closeLane yX6_closeLane ∈ tb from tb_s (q := (yX6_closeLane, _)) 10 rfl), (tb_t 1 (by decide +kernel) (by decide +kernel)), (tb_t 280 (by decide +kernel) (by decide +kernel)), by decide +kernel, by decide +kernel, by decide +kernel⟩
theorem yv_WR_reach : zYV yX6_reach cX6_reach 9 (some .int) 3 := ⟨(tb_t 144 (by decide +kernel) (by decide +kernel)), (show Cond.selects yX6_reach.cls yX6_reach yX6_reach ∈ tb from tb_s (q := (yX6_reach, _)) 1 rfl), (tb_t 1 (by decide +kernel) (by decide +kernel)), (tb_t 145 (by decide +kernel) (by decide +kernel)), by decide +kernel, by decide +kernel, by decide +kernel⟩
theorem yv_WR_weigh : zYV yX6_weigh cX6_weigh 5 (none) 3 := ⟨(tb_t 432 (by decide +kernel) (by decide +kernel)), (show Cond.selects yX6_weigh.cls yX6_weigh yX6_weigh ∈ tb from tb_s (q := (yX6_weigh, _)) 17 rfl), (tb_t 1 (by decide +kernel) (by decide +kernel)), (tb_t 433 (by decide +kernel) (by decide +kernel)), by decide +kernel, by decide +kernel, by decide +kernel⟩
theorem yv_WR_tellNeighbours : zYV yX6_tellNeighbours cX6_tellNeighbours 4 (none) 2 := ⟨(tb_t 206 (by decide +kernel) (by decide +kernel)), (show Cond.selects yX6_tellNeighbours.cls yX6_tellNeighbours yX6_tellNeighbours ∈ tb from tb_s (q := (yX6_tellNeighbours, _)) 4 rfl), (tb_t 1 (by decide +kernel) (by decide +kernel)), (tb_t 207 (by decide +kernel) (by decide +kernel)), by decide +kernel, by decide +kernel, by decide +kernel⟩
theorem yv_WR_findMeant : zYV yX6_findMeant cX6_findMeant 4 (none) 3 := ⟨(tb_t 214 (by decide +kernel) (by decide +kernel)), (show Cond.selects yX6_findMeant.cls yX6_findMeant yX6_findMeant ∈ tb from tb_s (q := (yX6_findMeant, _)) 6 rfl), (tb_t 1 (by decide +kernel) (by decide +kernel)), (tb_t 215 (by decide +kernel) (by decide +kernel)), by decide +kernel, by decide +kernel, by decide +kernel⟩
theorem yv_WR_findKnown : zYV yX6_findKnown cX6_findKnown 5 (none) 3 := ⟨(tb_t 218 (by decide +kernel) (by decide +kernel)), (show Cond.selects yX6_findKnown.cls yX6_findKnown yX6_findKnown ∈ tb from tb_s (q := (yX6_findKnown, _)) 7 rfl), (tb_t 1 (by decide +kernel) (by decide +kernel)), (tb_t 219 (by decide +kernel) (by decide +kernel)), by decide +kernel, by decide +kernel, by decide +kernel⟩
theorem yv_WR_firstBusyPlace : zYV yX6_firstBusyPlace cX6_firstBusyPlace 2 (some .int) 1 := ⟨(tb_t 571 (by decide +kernel) (by decide +kernel)), (show Cond.selects yX6_firstBusyPlace.cls yX6_firstBusyPlace yX6_firstBusyPlace ∈ tb from tb_s (q := (yX6_firstBusyPlace, _)) 30 rfl), (tb_t 1 (by decide +kernel) (by decide +kernel)), (tb_t 572 (by decide +kernel) (by decide +kernel)), by decide +kernel, by decide +kernel, by decide +kernel⟩
theorem yv_WR_deliverFirst : zYV yX6_deliverFirst cX6_deliverFirst 6 (none) 3 := ⟨(tb_t 559 (by decide +kernel) (by decide +kernel)), (show Cond.selects yX6_deliverFirst.cls yX6_deliverFirst yX6_deliverFirst ∈ tb from tb_s (q := (yX6_deliverFirst, _)) 29 rfl), (tb_t 1 (by decide +kernel) (by decide +kernel)), (tb_t 560 (by decide +kernel) (by decide +kernel)), by decide +kernel, by decide +kernel, by decide +kernel⟩
theorem yv_WR_letHear : zYV yX6_letHear cX6_letHear 5 (none) 3 := ⟨(tb_t 522 (by decide +kernel) (by decide +kernel)), (show Cond.selects yX6_letHear.cls yX6_letHear yX6_letHear ∈ tb from tb_s (q := (yX6_letHear, _)) 25 rfl), (tb_t 1 (by decide +kernel) (by decide +kernel)), (tb_t 523 (by decide +kernel) (by decide +kernel)), by decide +kernel, by decide +kernel, by decide +kernel⟩
theorem yv_WR_passOn : zYV yX6_passOn cX6_passOn 7 (none) 4 := ⟨(tb_t 538 (by decide +kernel) (by decide +kernel)), (show Cond.selects yX6_passOn.cls yX6_passOn yX6_passOn ∈ tb from tb_s (q := (yX6_passOn, _)) 26 rfl), (tb_t 1 (by decide +kernel) (by decide +kernel)), (tb_t 539 (by decide +kernel) (by decide +kernel)), by decide +kernel, by decide +kernel, by decide +kernel⟩
theorem yv_WR_isInTable : zYV yX6_isInTable cX6_isInTable 4 (some .boolean) 3 := ⟨(tb_t 542 (by decide +kernel) (by decide +kernel)), (show Cond.selects yX6_isInTable.cls yX6_isInTable yX6_isInTable ∈ tb from tb_s (q := (yX6_isInTable, _)) 27 rfl), (tb_t 1 (by decide +kernel) (by decide +kernel)), (tb_t 543 (by decide +kernel) (by decide +kernel)), by decide +kernel, by decide +kernel, by decide +kernel⟩
theorem yv_WR_isWantedAt : zYV yX6_isWantedAt cX6_isWantedAt 5 (some .boolean) 3 := ⟨(tb_t 550 (by decide +kernel) (by decide +kernel)), (show Cond.selects yX6_isWantedAt.cls yX6_isWantedAt yX6_isWantedAt ∈ tb from tb_s (q := (yX6_isWantedAt, _)) 28 rfl), (tb_t 1 (by decide +kernel) (by decide +kernel)), (tb_t 551 (by decide +kernel) (by decide +kernel)), by decide +kernel, by decide +kernel, by decide +kernel⟩
theorem yv_WR_underWay : zYV yX6_underWay cX6_underWay 3 (some .int) 1 := ⟨(tb_t 488 (by decide +kernel) (by decide +kernel)), (show Cond.selects yX6_underWay.cls yX6_underWay yX6_underWay ∈ tb from tb_s (q := (yX6_underWay, _)) 24 rfl), (tb_t 1 (by decide +kernel) (by decide +kernel)), (tb_t 489 (by decide +kernel) (by decide +kernel)), by decide +kernel, by decide +kernel, by decide +kernel⟩
theorem yv_WR_messagesInLanes : zYV yX6_messagesInLanes cX6_messagesInLanes 3 (some .int) 1 := ⟨(tb_t 621 (by decide +kernel) (by decide +kernel)), (show Cond.selects yX6_messagesInLanes.cls yX6_messagesInLanes yX6_messagesInLanes ∈ tb from tb_s (q := (yX6_messagesInLanes, _)) 31 rfl), (tb_t 1 (by decide +kernel) (by decide +kernel)), (tb_t 622 (by decide +kernel) (by decide +kernel)), by decide +kernel, by decide +kernel, by decide +kernel⟩
theorem yv_WR_tellsInLanes : zYV yX6_tellsInLanes cX6_tellsInLanes 3 (some .int) 1 := ⟨(tb_t 625 (by decide +kernel) (by decide +kernel)), (show Cond.selects yX6_tellsInLanes.cls yX6_tellsInLanes yX6_tellsInLanes ∈ tb from tb_s (q := (yX6_tellsInLanes, _)) 32 rfl), (tb_t 1 (by decide +kernel) (by decide +kernel)), (tb_t 626 (by decide +kernel) (by decide +kernel)), by decide +kernel, by decide +kernel, by decide +kernel⟩
theorem yi_Mo_init : zYI yX7_init cX7_init 1 1 := ⟨by decide +kernel, (tb_t 634 (by decide +kernel) (by decide +kernel)), (tb_t 7 (by decide +kernel) (by decide +kernel)), (tb_t 635 (by decide +kernel) (by decide +kernel)), by decide +kernel, by decide +kernel, by decide +kernel⟩
theorem yv_Mo_unread : zYV yX7_unread cX7_unread 2 (none) 1 := ⟨(tb_t 640 (by decide +kernel) (by decide +kernel)), (show Cond.selects yX7_unread.cls yX7_unread yX7_unread ∈ tb from tb_s (q := (yX7_unread, _)) 33 rfl), (tb_t 7 (by decide +kernel) (by decide +kernel)), (tb_t 641 (by decide +kernel) (by decide +kernel)), by decide +kernel, by decide +kernel, by decide +kernel⟩
theorem yv_Mo_isDesk : zYV yX7_isDesk cX7_isDesk 2 (some .boolean) 2 := ⟨(tb_t 753 (by decide +kernel) (by decide +kernel)), (show Cond.selects yX7_isDesk.cls yX7_isDesk yX7_isDesk ∈ tb from tb_s (q := (yX7_isDesk, _)) 34 rfl), (tb_t 7 (by decide +kernel) (by decide +kernel)), (tb_t 754 (by decide +kernel) (by decide +kernel)), by decide +kernel, by decide +kernel, by decide +kernel⟩
theorem yv_Mo_isLinked : zYV yX7_isLinked cX7_isLinked 3 (some .boolean) 3 := ⟨(tb_t 761 (by decide +kernel) (by decide +kernel)), (show Cond.selects yX7_isLinked.cls yX7_isLinked yX7_isLinked ∈ tb from tb_s (q := (yX7_isLinked, _)) 36 rfl), (tb_t 7 (by decide +kernel) (by decide +kernel)), (tb_t 762 (by decide +kernel) (by decide +kernel)), by decide +kernel, by decide +kernel, by decide +kernel⟩
theorem yv_Mo_isWish : zYV yX7_isWish cX7_isWish 2 (some .boolean) 2 := ⟨(tb_t 848 (by decide +kernel) (by decide +kernel)), (show Cond.selects yX7_isWish.cls yX7_isWish yX7_isWish ∈ tb from tb_s (q := (yX7_isWish, _)) 48 rfl), (tb_t 7 (by decide +kernel) (by decide +kernel)), (tb_t 849 (by decide +kernel) (by decide +kernel)), by decide +kernel, by decide +kernel, by decide +kernel⟩
theorem yv_Mo_passes : zYV yX7_passes cX7_passes 6 (some .boolean) 3 := ⟨(tb_t 822 (by decide +kernel) (by decide +kernel)), (show Cond.selects yX7_passes.cls yX7_passes yX7_passes ∈ tb from tb_s (q := (yX7_passes, _)) 44 rfl), (tb_t 7 (by decide +kernel) (by decide +kernel)), (tb_t 823 (by decide +kernel) (by decide +kernel)), by decide +kernel, by decide +kernel, by decide +kernel⟩
theorem yv_Mo_isFit : zYV yX7_isFit cX7_isFit 6 (some .boolean) 6 := ⟨(tb_t 876 (by decide +kernel) (by decide +kernel)), (show Cond.selects yX7_isFit.cls yX7_isFit yX7_isFit ∈ tb from tb_s (q := (yX7_isFit, _)) 54 rfl), (tb_t 7 (by decide +kernel) (by decide +kernel)), (tb_t 877 (by decide +kernel) (by decide +kernel)), by decide +kernel, by decide +kernel, by decide +kernel⟩
theorem yv_Mo_isFit2 : zYV yX7_isFit_ cX7_isFit_ 3 (some .boolean) 3 := ⟨(tb_t 872 (by decide +kernel) (by decide +kernel)), (show Cond.selects yX7_isFit_.cls yX7_isFit_ yX7_isFit_ ∈ tb from tb_s (q := (yX7_isFit_, _)) 53 rfl), (tb_t 7 (by decide +kernel) (by decide +kernel)), (tb_t 873 (by decide +kernel) (by decide +kernel)), by decide +kernel, by decide +kernel, by decide +kernel⟩
theorem yv_Mo_spans : zYV yX7_spans cX7_spans 13 (some .int) 3 := ⟨(tb_t 834 (by decide +kernel) (by decide +kernel)), (show Cond.selects yX7_spans.cls yX7_spans yX7_spans ∈ tb from tb_s (q := (yX7_spans, _)) 46 rfl), (tb_t 7 (by decide +kernel) (by decide +kernel)), (tb_t 835 (by decide +kernel) (by decide +kernel)), by decide +kernel, by decide +kernel, by decide +kernel⟩
theorem yv_Mo_holds : zYV yX7_holds cX7_holds 11 (some .boolean) 3 := ⟨(tb_t 840 (by decide +kernel) (by decide +kernel)), (show Cond.selects yX7_holds.cls yX7_holds yX7_holds ∈ tb from tb_s (q := (yX7_holds, _)) 47 rfl), (tb_t 7 (by decide +kernel) (by decide +kernel)), (tb_t 841 (by decide +kernel) (by decide +kernel)), by decide +kernel, by decide +kernel, by decide +kernel⟩
theorem yv_Mo_isCovered : zYV yX7_isCovered cX7_isCovered 4 (some .boolean) 3 := ⟨(tb_t 830 (by decide +kernel) (by decide +kernel)), (show Cond.selects yX7_isCovered.cls yX7_isCovered yX7_isCovered ∈ tb from tb_s (q := (yX7_isCovered, _)) 45 rfl), (tb_t 7 (by decide +kernel) (by decide +kernel)), (tb_t 831 (by decide +kernel) (by decide +kernel)), by decide +kernel, by decide +kernel, by decide +kernel⟩
theorem ys_Mo_has : zYS yX7_has cX7_has 3 (some .boolean) 3 := ⟨(tb_t 779 (by decide +kernel) (by decide +kernel)), (tb_t 7 (by decide +kernel) (by decide +kernel)), (tb_t 780 (by decide +kernel) (by decide +kernel)), by decide +kernel, by decide +kernel, by decide +kernel⟩
theorem ys_Mo_rowOf : zYS yX7_rowOf cX7_rowOf 2 (some .int) 2 := ⟨(tb_t 768 (by decide +kernel) (by decide +kernel)), (tb_t 7 (by decide +kernel) (by decide +kernel)), (tb_t 769 (by decide +kernel) (by decide +kernel)), by decide +kernel, by decide +kernel, by decide +kernel⟩
theorem yv_Mo_means : zYV yX7_means cX7_means 6 (none) 3 := ⟨(tb_t 776 (by decide +kernel) (by decide +kernel)), (show Cond.selects yX7_means.cls yX7_means yX7_means ∈ tb from tb_s (q := (yX7_means, _)) 39 rfl), (tb_t 7 (by decide +kernel) (by decide +kernel)), (tb_t 777 (by decide +kernel) (by decide +kernel)), by decide +kernel, by decide +kernel, by decide +kernel⟩
theorem yv_Mo_lastOf : zYV yX7_lastOf cX7_lastOf 4 (some .int) 3 := ⟨(tb_t 783 (by decide +kernel) (by decide +kernel)), (show Cond.selects yX7_lastOf.cls yX7_lastOf yX7_lastOf ∈ tb from tb_s (q := (yX7_lastOf, _)) 40 rfl), (tb_t 7 (by decide +kernel) (by decide +kernel)), (tb_t 784 (by decide +kernel) (by decide +kernel)), by decide +kernel, by decide +kernel, by decide +kernel⟩
theorem yv_Mo_firstOf : zYV yX7_firstOf cX7_firstOf 4 (some .int) 3 := ⟨(tb_t 888 (by decide +kernel) (by decide +kernel)), (show Cond.selects yX7_firstOf.cls yX7_firstOf yX7_firstOf ∈ tb from tb_s (q := (yX7_firstOf, _)) 56 rfl), (tb_t 7 (by decide +kernel) (by decide +kernel)), (tb_t 889 (by decide +kernel) (by decide +kernel)), by decide +kernel, by decide +kernel, by decide +kernel⟩
theorem yv_Mo_put : zYV yX7_put cX7_put 9 (some .int) 4 := ⟨(tb_t 787 (by decide +kernel) (by decide +kernel)), (show Cond.selects yX7_put.cls yX7_put yX7_put ∈ tb from tb_s (q := (yX7_put, _)) 41 rfl), (tb_t 7 (by decide +kernel) (by decide +kernel)), (tb_t 788 (by decide +kernel) (by decide +kernel)), by decide +kernel, by decide +kernel, by decide +kernel⟩
theorem yv_Mo_drop : zYV yX7_drop cX7_drop 4 (none) 2 := ⟨(tb_t 795 (by decide +kernel) (by decide +kernel)), (show Cond.selects yX7_drop.cls yX7_drop yX7_drop ∈ tb from tb_s (q := (yX7_drop, _)) 42 rfl), (tb_t 7 (by decide +kernel) (by decide +kernel)), (tb_t 796 (by decide +kernel) (by decide +kernel)), by decide +kernel, by decide +kernel, by decide +kernel⟩
theorem yv_Mo_tells : zYV yX7_tells cX7_tells 7 (none) 1 := ⟨(tb_t 772 (by decide +kernel) (by decide +kernel)), (show Cond.selects yX7_tells.cls yX7_tells yX7_tells ∈ tb from tb_s (q := (yX7_tells, _)) 38 rfl), (tb_t 7 (by decide +kernel) (by decide +kernel)), (tb_t 773 (by decide +kernel) (by decide +kernel)), by decide +kernel, by decide +kernel, by decide +kernel⟩
theorem yv_Mo_desk : zYV yX7_desk cX7_desk 1 (some .int) 1 := ⟨(tb_t 744 (by decide +kernel) (by decide +kernel)), (tb_t 745 (by decide +kernel) (by decide +kernel)), (tb_t 7 (by decide +kernel) (by decide +kernel)), (tb_t 746 (by decide +kernel) (by decide +kernel)), by decide +kernel, by decide +kernel, by decide +kernel⟩
theorem yv_Mo_reach : zYV yX7_reach cX7_reach 6 (none) 3 := ⟨(tb_t 757 (by decide +kernel) (by decide +kernel)), (show Cond.selects yX7_reach.cls yX7_reach yX7_reach ∈ tb from tb_s (q := (yX7_reach, _)) 35 rfl), (tb_t 7 (by decide +kernel) (by decide +kernel)), (tb_t 758 (by decide +kernel) (by decide +kernel)), by decide +kernel, by decide +kernel, by decide +kernel⟩
theorem yv_Mo_links : zYV yX7_links cX7_links 5 (none) 4 := ⟨(tb_t 765 (by decide +kernel) (by decide +kernel)), (show Cond.selects yX7_links.cls yX7_links yX7_links ∈ tb from tb_s (q := (yX7_links, _)) 37 rfl), (tb_t 7 (by decide +kernel) (by decide +kernel)), (tb_t 766 (by decide +kernel) (by decide +kernel)), by decide +kernel, by decide +kernel, by decide +kernel⟩
theorem yv_Mo_link : zYV yX7_link cX7_link 3 (some .int) 3 := ⟨(tb_t 748 (by decide +kernel) (by decide +kernel)), (tb_t 749 (by decide +kernel) (by decide +kernel)), (tb_t 7 (by decide +kernel) (by decide +kernel)), (tb_t 750 (by decide +kernel) (by decide +kernel)), by decide +kernel, by decide +kernel, by decide +kernel⟩
theorem yv_Mo_cut : zYV yX7_cut cX7_cut 4 (some .int) 3 := ⟨(tb_t 790 (by decide +kernel) (by decide +kernel)), (tb_t 791 (by decide +kernel) (by decide +kernel)), (tb_t 7 (by decide +kernel) (by decide +kernel)), (tb_t 792 (by decide +kernel) (by decide +kernel)), by decide +kernel, by decide +kernel, by decide +kernel⟩
theorem yv_Mo_reader : zYV yX7_reader cX7_reader 2 (some .int) 2 := ⟨(tb_t 798 (by decide +kernel) (by decide +kernel)), (tb_t 799 (by decide +kernel) (by decide +kernel)), (tb_t 7 (by decide +kernel) (by decide +kernel)), (tb_t 800 (by decide +kernel) (by decide +kernel)), by decide +kernel, by decide +kernel, by decide +kernel⟩
theorem yv_Mo_isReader : zYV yX7_isReader cX7_isReader 2 (some .boolean) 2 := ⟨(tb_t 807 (by decide +kernel) (by decide +kernel)), (show Cond.selects yX7_isReader.cls yX7_isReader yX7_isReader ∈ tb from tb_s (q := (yX7_isReader, _)) 43 rfl), (tb_t 7 (by decide +kernel) (by decide +kernel)), (tb_t 808 (by decide +kernel) (by decide +kernel)), by decide +kernel, by decide +kernel, by decide +kernel⟩
theorem yv_Mo_move : zYV yX7_move cX7_move 3 (some .int) 3 := ⟨(tb_t 802 (by decide +kernel) (by decide +kernel)), (tb_t 803 (by decide +kernel) (by decide +kernel)), (tb_t 7 (by decide +kernel) (by decide +kernel)), (tb_t 804 (by decide +kernel) (by decide +kernel)), by decide +kernel, by decide +kernel, by decide +kernel⟩
theorem ys_Mo_isField : zYS yX7_isField cX7_isField 1 (some .boolean) 1 := ⟨(tb_t 814 (by decide +kernel) (by decide +kernel)), (tb_t 7 (by decide +kernel) (by decide +kernel)), (tb_t 815 (by decide +kernel) (by decide +kernel)), by decide +kernel, by decide +kernel, by decide +kernel⟩
theorem yv_Mo_test : zYV yX7_test cX7_test 6 (some .boolean) 5 := ⟨(tb_t 810 (by decide +kernel) (by decide +kernel)), (tb_t 811 (by decide +kernel) (by decide +kernel)), (tb_t 7 (by decide +kernel) (by decide +kernel)), (tb_t 812 (by decide +kernel) (by decide +kernel)), by decide +kernel, by decide +kernel, by decide +kernel⟩
theorem yv_Mo_among : zYV yX7_among cX7_among 5 (some .boolean) 3 := ⟨(tb_t 817 (by decide +kernel) (by decide +kernel)), (tb_t 818 (by decide +kernel) (by decide +kernel)), (tb_t 7 (by decide +kernel) (by decide +kernel)), (tb_t 819 (by decide +kernel) (by decide +kernel)), by decide +kernel, by decide +kernel, by decide +kernel⟩
theorem yv_Mo_wish : zYV yX7_wish cX7_wish 7 (some .int) 2 := ⟨(tb_t 825 (by decide +kernel) (by decide +kernel)), (tb_t 826 (by decide +kernel) (by decide +kernel)), (tb_t 7 (by decide +kernel) (by decide +kernel)), (tb_t 827 (by decide +kernel) (by decide +kernel)), by decide +kernel, by decide +kernel, by decide +kernel⟩
theorem yv_Mo_off : zYV yX7_off cX7_off 2 (some .int) 2 := ⟨(tb_t 843 (by decide +kernel) (by decide +kernel)), (tb_t 844 (by decide +kernel) (by decide +kernel)), (tb_t 7 (by decide +kernel) (by decide +kernel)), (tb_t 845 (by decide +kernel) (by decide +kernel)), by decide +kernel, by decide +kernel, by decide +kernel⟩
theorem yv_Mo_wants : zYV yX7_wants cX7_wants 4 (some .boolean) 3 := ⟨(tb_t 868 (by decide +kernel) (by decide +kernel)), (show Cond.selects yX7_wants.cls yX7_wants yX7_wants ∈ tb from tb_s (q := (yX7_wants, _)) 52 rfl), (tb_t 7 (by decide +kernel) (by decide +kernel)), (tb_t 869 (by decide +kernel) (by decide +kernel)), by decide +kernel, by decide +kernel, by decide +kernel⟩
theorem yv_Mo_comes : zYV yX7_comes cX7_comes 7 (none) 4 := ⟨(tb_t 864 (by decide +kernel) (by decide +kernel)), (show Cond.selects yX7_comes.cls yX7_comes yX7_comes ∈ tb from tb_s (q := (yX7_comes, _)) 51 rfl), (tb_t 7 (by decide +kernel) (by decide +kernel)), (tb_t 865 (by decide +kernel) (by decide +kernel)), by decide +kernel, by decide +kernel, by decide +kernel⟩
theorem yv_Mo_isNeeded : zYV yX7_isNeeded cX7_isNeeded 5 (some .boolean) 4 := ⟨(tb_t 880 (by decide +kernel) (by decide +kernel)), (show Cond.selects yX7_isNeeded.cls yX7_isNeeded yX7_isNeeded ∈ tb from tb_s (q := (yX7_isNeeded, _)) 55 rfl), (tb_t 7 (by decide +kernel) (by decide +kernel)), (tb_t 881 (by decide +kernel) (by decide +kernel)), by decide +kernel, by decide +kernel, by decide +kernel⟩
theorem yv_Mo_messagesOf : zYV yX7_messagesOf cX7_messagesOf 4 (some .int) 2 := ⟨(tb_t 860 (by decide +kernel) (by decide +kernel)), (show Cond.selects yX7_messagesOf.cls yX7_messagesOf yX7_messagesOf ∈ tb from tb_s (q := (yX7_messagesOf, _)) 50 rfl), (tb_t 7 (by decide +kernel) (by decide +kernel)), (tb_t 861 (by decide +kernel) (by decide +kernel)), by decide +kernel, by decide +kernel, by decide +kernel⟩
theorem yv_Mo_underWay : zYV yX7_underWay cX7_underWay 3 (some .int) 1 := ⟨(tb_t 856 (by decide +kernel) (by decide +kernel)), (show Cond.selects yX7_underWay.cls yX7_underWay yX7_underWay ∈ tb from tb_s (q := (yX7_underWay, _)) 49 rfl), (tb_t 7 (by decide +kernel) (by decide +kernel)), (tb_t 857 (by decide +kernel) (by decide +kernel)), by decide +kernel, by decide +kernel, by decide +kernel⟩
theorem yv_Mo_send : zYV yX7_send cX7_send 7 (some .int) 6 := ⟨(tb_t 851 (by decide +kernel) (by decide +kernel)), (tb_t 852 (by decide +kernel) (by decide +kernel)), (tb_t 7 (by decide +kernel) (by decide +kernel)), (tb_t 853 (by decide +kernel) (by decide +kernel)), by decide +kernel, by decide +kernel, by decide +kernel⟩
theorem yv_Mo_delivers : zYV yX7_delivers cX7_delivers 6 (none) 2 := ⟨(tb_t 892 (by decide +kernel) (by decide +kernel)), (show Cond.selects yX7_delivers.cls yX7_delivers yX7_delivers ∈ tb from tb_s (q := (yX7_delivers, _)) 57 rfl), (tb_t 7 (by decide +kernel) (by decide +kernel)), (tb_t 893 (by decide +kernel) (by decide +kernel)), by decide +kernel, by decide +kernel, by decide +kernel⟩
theorem yv_Mo_deliver : zYV yX7_deliver cX7_deliver 6 (some .int) 4 := ⟨(tb_t 883 (by decide +kernel) (by decide +kernel)), (tb_t 884 (by decide +kernel) (by decide +kernel)), (tb_t 7 (by decide +kernel) (by decide +kernel)), (tb_t 885 (by decide +kernel) (by decide +kernel)), by decide +kernel, by decide +kernel, by decide +kernel⟩
theorem yv_Mo_all : zYV yX7_all cX7_all 4 (some .int) 1 := ⟨(tb_t 895 (by decide +kernel) (by decide +kernel)), (tb_t 896 (by decide +kernel) (by decide +kernel)), (tb_t 7 (by decide +kernel) (by decide +kernel)), (tb_t 897 (by decide +kernel) (by decide +kernel)), by decide +kernel, by decide +kernel, by decide +kernel⟩
theorem yv_Mo_covers : zYV yX7_covers cX7_covers 3 (some .int) 3 := ⟨(tb_t 899 (by decide +kernel) (by decide +kernel)), (tb_t 900 (by decide +kernel) (by decide +kernel)), (tb_t 7 (by decide +kernel) (by decide +kernel)), (tb_t 901 (by decide +kernel) (by decide +kernel)), by decide +kernel, by decide +kernel, by decide +kernel⟩
theorem yv_Mo_fits : zYV yX7_fits cX7_fits 6 (some .int) 6 := ⟨(tb_t 903 (by decide +kernel) (by decide +kernel)), (tb_t 904 (by decide +kernel) (by decide +kernel)), (tb_t 7 (by decide +kernel) (by decide +kernel)), (tb_t 905 (by decide +kernel) (by decide +kernel)), by decide +kernel, by decide +kernel, by decide +kernel⟩
theorem yv_Mo_inRow : zYV yX7_inRow cX7_inRow 7 (some .int) 5 := ⟨(tb_t 912 (by decide +kernel) (by decide +kernel)), (show Cond.selects yX7_inRow.cls yX7_inRow yX7_inRow ∈ tb from tb_s (q := (yX7_inRow, _)) 58 rfl), (tb_t 7 (by decide +kernel) (by decide +kernel)), (tb_t 913 (by decide +kernel) (by decide +kernel)), by decide +kernel, by decide +kernel, by decide +kernel⟩
theorem yv_Mo_table : zYV yX7_table cX7_table 4 (some .int) 4 := ⟨(tb_t 907 (by decide +kernel) (by decide +kernel)), (tb_t 908 (by decide +kernel) (by decide +kernel)), (tb_t 7 (by decide +kernel) (by decide +kernel)), (tb_t 909 (by decide +kernel) (by decide +kernel)), by decide +kernel, by decide +kernel, by decide +kernel⟩
theorem yv_Mo_told : zYV yX7_told cX7_told 4 (some .int) 4 := ⟨(tb_t 915 (by decide +kernel) (by decide +kernel)), (tb_t 916 (by decide +kernel) (by decide +kernel)), (tb_t 7 (by decide +kernel) (by decide +kernel)), (tb_t 917 (by decide +kernel) (by decide +kernel)), by decide +kernel, by decide +kernel, by decide +kernel⟩
theorem yv_Mo_message : zYV yX7_message cX7_message 6 (some .int) 4 := ⟨(tb_t 919 (by decide +kernel) (by decide +kernel)), (tb_t 920 (by decide +kernel) (by decide +kernel)), (tb_t 7 (by decide +kernel) (by decide +kernel)), (tb_t 921 (by decide +kernel) (by decide +kernel)), by decide +kernel, by decide +kernel, by decide +kernel⟩
theorem yv_Mo_heard : zYV yX7_heard cX7_heard 3 (some .int) 3 := ⟨(tb_t 923 (by decide +kernel) (by decide +kernel)), (tb_t 924 (by decide +kernel) (by decide +kernel)), (tb_t 7 (by decide +kernel) (by decide +kernel)), (tb_t 925 (by decide +kernel) (by decide +kernel)), by decide +kernel, by decide +kernel, by decide +kernel⟩
theorem yv_Mo_notice : zYV yX7_notice cX7_notice 3 (some .int) 3 := ⟨(tb_t 927 (by decide +kernel) (by decide +kernel)), (tb_t 928 (by decide +kernel) (by decide +kernel)), (tb_t 7 (by decide +kernel) (by decide +kernel)), (tb_t 929 (by decide +kernel) (by decide +kernel)), by decide +kernel, by decide +kernel, by decide +kernel⟩
theorem yv_Mo_look : zYV yX7_look cX7_look 6 (some .int) 3 := ⟨(tb_t 931 (by decide +kernel) (by decide +kernel)), (tb_t 932 (by decide +kernel) (by decide +kernel)), (tb_t 7 (by decide +kernel) (by decide +kernel)), (tb_t 933 (by decide +kernel) (by decide +kernel)), by decide +kernel, by decide +kernel, by decide +kernel⟩
theorem yv_Mo_count : zYV yX7_count cX7_count 6 (some .int) 2 := ⟨(tb_t 935 (by decide +kernel) (by decide +kernel)), (tb_t 936 (by decide +kernel) (by decide +kernel)), (tb_t 7 (by decide +kernel) (by decide +kernel)), (tb_t 937 (by decide +kernel) (by decide +kernel)), by decide +kernel, by decide +kernel, by decide +kernel⟩
theorem ys_Math_max : zYS yJ9_max_7cf53 cJ9_max_7cf53 2 (some .int) 2 := ⟨(tb_t 312 (by decide +kernel) (by decide +kernel)), (tb_t 13 (by decide +kernel) (by decide +kernel)), (tb_t 313 (by decide +kernel) (by decide +kernel)), by decide +kernel, by decide +kernel, by decide +kernel⟩
theorem ys_Math_min : zYS yJ9_min_7cf53 cJ9_min_7cf53 2 (some .int) 2 := ⟨(tb_t 341 (by decide +kernel) (by decide +kernel)), (tb_t 13 (by decide +kernel) (by decide +kernel)), (tb_t 342 (by decide +kernel) (by decide +kernel)), by decide +kernel, by decide +kernel, by decide +kernel⟩
theorem yi_AC_init : zYI yJxa1e45_init_da8c8 cJxa1e45_init_da8c8 1 1 := ⟨by decide +kernel, (tb_t 35 (by decide +kernel) (by decide +kernel)), (tb_t 2 (by decide +kernel) (by decide +kernel)), (tb_t 36 (by decide +kernel) (by decide +kernel)), by decide +kernel, by decide +kernel, by decide +kernel⟩
theorem yi_ALi_init : zYI yJxc12de_init_da8c8 cJxc12de_init_da8c8 1 1 := ⟨by decide +kernel, (tb_t 32 (by decide +kernel) (by decide +kernel)), (tb_t 3 (by decide +kernel) (by decide +kernel)), (tb_t 33 (by decide +kernel) (by decide +kernel)), by decide +kernel, by decide +kernel, by decide +kernel⟩
theorem yi_AL_init : zYI yJx4a65c_init_da8c8 cJx4a65c_init_da8c8 1 1 := ⟨by decide +kernel, (tb_t 29 (by decide +kernel) (by decide +kernel)), (tb_t 4 (by decide +kernel) (by decide +kernel)), (tb_t 30 (by decide +kernel) (by decide +kernel)), by decide +kernel, by decide +kernel, by decide +kernel⟩
theorem yv_AL_grow : zYV yJx4a65c_grow_92f84 cJx4a65c_grow_92f84 4 (some (.array (.object "java/lang/Object"))) 2 := ⟨(tb_t 306 (by decide +kernel) (by decide +kernel)), (show Cond.selects yJx4a65c_grow_92f84.cls yJx4a65c_grow_92f84 yJx4a65c_grow_92f84 ∈ tb from tb_s (q := (yJx4a65c_grow_92f84, _)) 14 rfl), (tb_t 4 (by decide +kernel) (by decide +kernel)), (tb_t 307 (by decide +kernel) (by decide +kernel)), by decide +kernel, by decide +kernel, by decide +kernel⟩
theorem yv_AL_grow2 : zYV yJx4a65c_grow_d5877 cJx4a65c_grow_d5877 1 (some (.array (.object "java/lang/Object"))) 1 := ⟨(tb_t 302 (by decide +kernel) (by decide +kernel)), (show Cond.selects yJx4a65c_grow_d5877.cls yJx4a65c_grow_d5877 yJx4a65c_grow_d5877 ∈ tb from tb_s (q := (yJx4a65c_grow_d5877, _)) 13 rfl), (tb_t 4 (by decide +kernel) (by decide +kernel)), (tb_t 303 (by decide +kernel) (by decide +kernel)), by decide +kernel, by decide +kernel, by decide +kernel⟩
theorem yv_AL_size : zYV yJx4a65c_size_8abf5 cJx4a65c_size_8abf5 1 (some .int) 1 := ⟨(tb_t 154 (by decide +kernel) (by decide +kernel)), (tb_t 155 (by decide +kernel) (by decide +kernel)), (tb_t 4 (by decide +kernel) (by decide +kernel)), (tb_t 156 (by decide +kernel) (by decide +kernel)), by decide +kernel, by decide +kernel, by decide +kernel⟩
theorem yv_AL_elementData : zYV yJx4a65c_elementData_915e3 cJx4a65c_elementData_915e3 2 (some (.object "java/lang/Object")) 2 := ⟨(tb_t 229 (by decide +kernel) (by decide +kernel)), (tb_t 230 (by decide +kernel) (by decide +kernel)), (tb_t 4 (by decide +kernel) (by decide +kernel)), (tb_t 231 (by decide +kernel) (by decide +kernel)), by decide +kernel, by decide +kernel, by decide +kernel⟩
theorem yv_AL_get : zYV yJx4a65c_get_915e3 cJx4a65c_get_915e3 2 (some (.object "java/lang/Object")) 2 := ⟨(tb_t 225 (by decide +kernel) (by decide +kernel)), (tb_t 226 (by decide +kernel) (by decide +kernel)), (tb_t 4 (by decide +kernel) (by decide +kernel)), (tb_t 227 (by decide +kernel) (by decide +kernel)), by decide +kernel, by decide +kernel, by decide +kernel⟩
theorem yv_AL_add : zYV yJx4a65c_add_72be8 cJx4a65c_add_72be8 4 (none) 4 := ⟨(tb_t 298 (by decide +kernel) (by decide +kernel)), (show Cond.selects yJx4a65c_add_72be8.cls yJx4a65c_add_72be8 yJx4a65c_add_72be8 ∈ tb from tb_s (q := (yJx4a65c_add_72be8, _)) 12 rfl), (tb_t 4 (by decide +kernel) (by decide +kernel)), (tb_t 299 (by decide +kernel) (by decide +kernel)), by decide +kernel, by decide +kernel, by decide +kernel⟩
theorem yv_AL_add2 : zYV yJx4a65c_add_9ea2d cJx4a65c_add_9ea2d 2 (some .boolean) 2 := ⟨(tb_t 293 (by decide +kernel) (by decide +kernel)), (tb_t 294 (by decide +kernel) (by decide +kernel)), (tb_t 4 (by decide +kernel) (by decide +kernel)), (tb_t 295 (by decide +kernel) (by decide +kernel)), by decide +kernel, by decide +kernel, by decide +kernel⟩
theorem yv_AL_remove : zYV yJx4a65c_remove_915e3 cJx4a65c_remove_915e3 4 (some (.object "java/lang/Object")) 2 := ⟨(tb_t 158 (by decide +kernel) (by decide +kernel)), (tb_t 159 (by decide +kernel) (by decide +kernel)), (tb_t 4 (by decide +kernel) (by decide +kernel)), (tb_t 160 (by decide +kernel) (by decide +kernel)), by decide +kernel, by decide +kernel, by decide +kernel⟩
theorem yv_AL_fastRemove : zYV yJx4a65c_fastRemove_b59b0 cJx4a65c_fastRemove_b59b0 4 (none) 3 := ⟨(tb_t 169 (by decide +kernel) (by decide +kernel)), (show Cond.selects yJx4a65c_fastRemove_b59b0.cls yJx4a65c_fastRemove_b59b0 yJx4a65c_fastRemove_b59b0 ∈ tb from tb_s (q := (yJx4a65c_fastRemove_b59b0, _)) 3 rfl), (tb_t 4 (by decide +kernel) (by decide +kernel)), (tb_t 170 (by decide +kernel) (by decide +kernel)), by decide +kernel, by decide +kernel, by decide +kernel⟩
theorem ys_Arrs_copyOf : zYS yJ7_copyOf_1904c cJ7_copyOf_1904c 2 (some (.array (.object "java/lang/Object"))) 2 := ⟨(tb_t 319 (by decide +kernel) (by decide +kernel)), (tb_t 14 (by decide +kernel) (by decide +kernel)), (tb_t 320 (by decide +kernel) (by decide +kernel)), by decide +kernel, by decide +kernel, by decide +kernel⟩
theorem ys_Arrs_copyOf2 : zYS yJ7_copyOf_6403c cJ7_copyOf_6403c 4 (some (.array (.object "java/lang/Object"))) 3 := ⟨(tb_t 335 (by decide +kernel) (by decide +kernel)), (tb_t 14 (by decide +kernel) (by decide +kernel)), (tb_t 336 (by decide +kernel) (by decide +kernel)), by decide +kernel, by decide +kernel, by decide +kernel⟩
theorem ys_Objs_checkIndex : zYS yJ15_checkIndex_7cf53 cJ15_checkIndex_7cf53 2 (some .int) 2 := ⟨(tb_t 162 (by decide +kernel) (by decide +kernel)), (tb_t 8 (by decide +kernel) (by decide +kernel)), (tb_t 163 (by decide +kernel) (by decide +kernel)), by decide +kernel, by decide +kernel, by decide +kernel⟩
theorem ys_ASup_newLength : zYS yJ8_newLength_cabcc cJ8_newLength_cabcc 4 (some .int) 3 := ⟨(tb_t 309 (by decide +kernel) (by decide +kernel)), (tb_t 12 (by decide +kernel) (by decide +kernel)), (tb_t 310 (by decide +kernel) (by decide +kernel)), by decide +kernel, by decide +kernel, by decide +kernel⟩
theorem ys_ASup_hugeLength : zYS yJ8_hugeLength_7cf53 cJ8_hugeLength_7cf53 3 (some .int) 2 := ⟨(tb_t 316 (by decide +kernel) (by decide +kernel)), (tb_t 12 (by decide +kernel) (by decide +kernel)), (tb_t 317 (by decide +kernel) (by decide +kernel)), by decide +kernel, by decide +kernel, by decide +kernel⟩
theorem ys_Prec_checkIndex : zYS yJ3_checkIndex_8e157 cJ3_checkIndex_8e157 3 (some .int) 3 := ⟨(tb_t 165 (by decide +kernel) (by decide +kernel)), (tb_t 9 (by decide +kernel) (by decide +kernel)), (tb_t 166 (by decide +kernel) (by decide +kernel)), by decide +kernel, by decide +kernel, by decide +kernel⟩
