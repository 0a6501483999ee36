/-! the law: the contracts of its calls, beside the rest of the world -/
def zTF (T : zT2) : zT2 := fun As M Rt c1 c2 => ∃ M1 F : zMp, M = zun M1 F ∧ zcl M1 ∧ zcl F ∧ (∀ n, M1 n ≠ none → F n = none) ∧ (∀ a ∈ As, zalv M1 a) ∧ T As M1 (fun v M' => zcl M' → (∀ n, M' n ≠ none → F n = none) ∧ Rt v (zun M' F)) c1 c2
theorem zTF_c {y : MethodName} {bytes : ByteArray} {maxL : Nat} {ret : Option FieldType} {fr lo : Nat} {T : zT2} (h : ∀ l, zCT2 l y bytes maxL ret fr lo T) (l : Launch) : zCT2 l y bytes maxL ret fr lo (zTF T) := by
  rintro As M Rt c1 c2 ⟨M1, F, rfl, h1, h2, h3, h4, h5⟩
  exact zMet_frame h1 h2 h3 h4 (h l As M1 _ c1 c2 h5)
theorem zL1_c {y : MethodName} {bytes : ByteArray} {maxL : Nat} {ret : Option FieldType} {fr lo : Nat} {T : List zAV → zMp → (Option zAV → zMp → Prop) → Prop} {co : List zAV → zMp → Nat × Nat} (h : ∀ l, zCT l y bytes maxL ret fr lo T co) (l : Launch) : zCT2 l y bytes maxL ret fr lo (zL1 T co) := by
  rintro As M Rt c1 c2 ⟨rfl, rfl, hT⟩
  exact h l As M Rt hT
def zTG (T : List zAV → zMp → (Option zAV → zMp → Prop) → Prop) : List zAV → zMp → (Option zAV → zMp → Prop) → Prop := fun As M Rt => ∃ M1 F : zMp, M = zun M1 F ∧ zcl M1 ∧ zcl F ∧ (∀ n, M1 n ≠ none → F n = none) ∧ (∀ a ∈ As, zalv M1 a) ∧ T As M1 (fun v M' => zcl M' → (∀ n, M' n ≠ none → F n = none) ∧ Rt v (zun M' F))
theorem zTG_c {y : MethodName} {bytes : ByteArray} {maxL : Nat} {ret : Option FieldType} {fr lo c1 c2 : Nat} {T : List zAV → zMp → (Option zAV → zMp → Prop) → Prop} (h : ∀ l, zCT l y bytes maxL ret fr lo T (fun _ _ => (c1, c2))) (l : Launch) : zCT l y bytes maxL ret fr lo (zTG T) (fun _ _ => (c1, c2)) := by
  rintro As M Rt ⟨M1, F, rfl, h1, h2, h3, h4, h5⟩
  exact zMet_frame h1 h2 h3 h4 (h l As M1 _ h5)
def T_LX_init : List zAV → zMp → (Option zAV → zMp → Prop) → Prop := zTG T_WR_init
def co_LX_init : List zAV → zMp → Nat × Nat := co_WR_init
theorem c_LX_init (l : Launch) : zCT l yX6_init cX6_init 1 (none) 4 80 T_LX_init co_LX_init := zTG_c c_WR_init l
def T_LX_desk : zT2 := zTF (zL1 T_WR_desk co_WR_desk)
theorem c_LX_desk (l : Launch) : zCT2 l yX6_desk cX6_desk 1 (some .int) 0 0 T_LX_desk := zTF_c (zL1_c c_WR_desk) l
def T_LX_link : zT2 := zTF (T_WR_link)
theorem c_LX_link (l : Launch) : zCT2 l yX6_link cX6_link 3 (some .int) 6 134 T_LX_link := zTF_c (c_WR_link) l
def T_LX_cut : zT2 := zTF (T_WR_cut)
theorem c_LX_cut (l : Launch) : zCT2 l yX6_cut cX6_cut 3 (some .int) 8 196 T_LX_cut := zTF_c (c_WR_cut) l
def T_LX_reader : zT2 := zTF (zL1 T_WR_reader co_WR_reader)
theorem c_LX_reader (l : Launch) : zCT2 l yX6_reader cX6_reader 2 (some .int) 7 171 T_LX_reader := zTF_c (zL1_c c_WR_reader) l
def T_LX_move : zT2 := zTF (T_WR_move)
theorem c_LX_move (l : Launch) : zCT2 l yX6_move cX6_move 5 (some .int) 6 134 T_LX_move := zTF_c (c_WR_move) l
def T_LX_test : zT2 := zTF (zL1 T_WR_test co_WR_test)
theorem c_LX_test (l : Launch) : zCT2 l yX6_test cX6_test 5 (some .boolean) 1 23 T_LX_test := zTF_c (zL1_c c_WR_test) l
def T_LX_among : zT2 := zTF (zL1 T_WR_among co_WR_among)
theorem c_LX_among (l : Launch) : zCT2 l yX6_among cX6_among 3 (some .boolean) 2 44 T_LX_among := zTF_c (zL1_c c_WR_among) l
def T_LX_wish : zT2 := zTF (T_WR_wish)
theorem c_LX_wish (l : Launch) : zCT2 l yX6_wish cX6_wish 4 (some .int) 7 171 T_LX_wish := zTF_c (c_WR_wish) l
def T_LX_off : zT2 := zTF (T_WR_off)
theorem c_LX_off (l : Launch) : zCT2 l yX6_off cX6_off 3 (some .int) 6 134 T_LX_off := zTF_c (c_WR_off) l
def T_LX_send : zT2 := zTF (zL1 T_WR_send co_WR_send)
theorem c_LX_send (l : Launch) : zCT2 l yX6_send cX6_send 8 (some .int) 7 171 T_LX_send := zTF_c (zL1_c c_WR_send) l
def T_LX_deliver : zT2 := zTF (T_WR_deliver)
theorem c_LX_deliver (l : Launch) : zCT2 l yX6_deliver cX6_deliver 6 (some .int) 7 159 T_LX_deliver := zTF_c (c_WR_deliver) l
def T_LX_all : zT2 := zTF (T_WR_all)
theorem c_LX_all (l : Launch) : zCT2 l yX6_all cX6_all 3 (some .int) 7 159 T_LX_all := zTF_c (c_WR_all) l
def T_LX_covers : zT2 := zTF (zL1 T_WR_covers co_WR_covers)
theorem c_LX_covers (l : Launch) : zCT2 l yX6_covers cX6_covers 5 (some .int) 5 113 T_LX_covers := zTF_c (zL1_c c_WR_covers) l
def T_LX_fits : zT2 := zTF (zL1 T_WR_fits co_WR_fits)
theorem c_LX_fits (l : Launch) : zCT2 l yX6_fits cX6_fits 7 (some .int) 4 85 T_LX_fits := zTF_c (zL1_c c_WR_fits) l
def T_LX_table : zT2 := zTF (zL1 T_WR_table co_WR_table)
theorem c_LX_table (l : Launch) : zCT2 l yX6_table cX6_table 5 (some .int) 2 44 T_LX_table := zTF_c (zL1_c c_WR_table) l
def T_LX_told : zT2 := zTF (zL1 T_WR_told co_WR_told)
theorem c_LX_told (l : Launch) : zCT2 l yX6_told cX6_told 5 (some .int) 2 44 T_LX_told := zTF_c (zL1_c c_WR_told) l
def T_LX_message : zT2 := zTF (zL1 T_WR_message co_WR_message)
theorem c_LX_message (l : Launch) : zCT2 l yX6_message cX6_message 5 (some .int) 2 43 T_LX_message := zTF_c (zL1_c c_WR_message) l
def T_LX_heard : zT2 := zTF (zL1 T_WR_heard co_WR_heard)
theorem c_LX_heard (l : Launch) : zCT2 l yX6_heard cX6_heard 4 (some .int) 4 85 T_LX_heard := zTF_c (zL1_c c_WR_heard) l
def T_LX_notice : zT2 := zTF (zL1 T_WR_notice co_WR_notice)
theorem c_LX_notice (l : Launch) : zCT2 l yX6_notice cX6_notice 4 (some .int) 4 85 T_LX_notice := zTF_c (zL1_c c_WR_notice) l
def T_LX_look : zT2 := zTF (zL1 T_WR_look co_WR_look)
theorem c_LX_look (l : Launch) : zCT2 l yX6_look cX6_look 5 (some .int) 4 85 T_LX_look := zTF_c (zL1_c c_WR_look) l
def T_LX_count : zT2 := zTF (zL1 T_WR_count co_WR_count)
theorem c_LX_count (l : Launch) : zCT2 l yX6_count cX6_count 2 (some .int) 4 86 T_LX_count := zTF_c (zL1_c c_WR_count) l
def T_LY_init : List zAV → zMp → (Option zAV → zMp → Prop) → Prop := zTG T_Mo_init
def co_LY_init : List zAV → zMp → Nat × Nat := co_Mo_init
theorem c_LY_init (l : Launch) : zCT l yX7_init cX7_init 1 (none) 1 21 T_LY_init co_LY_init := zTG_c c_Mo_init l
def T_LY_desk : zT2 := zTF (zL1 T_Mo_desk co_Mo_desk)
theorem c_LY_desk (l : Launch) : zCT2 l yX7_desk cX7_desk 1 (some .int) 0 0 T_LY_desk := zTF_c (zL1_c c_Mo_desk) l
def T_LY_link : zT2 := zTF (T_Mo_link)
theorem c_LY_link (l : Launch) : zCT2 l yX7_link cX7_link 3 (some .int) 3 73 T_LY_link := zTF_c (c_Mo_link) l
def T_LY_cut : zT2 := zTF (T_Mo_cut)
theorem c_LY_cut (l : Launch) : zCT2 l yX7_cut cX7_cut 4 (some .int) 3 73 T_LY_cut := zTF_c (c_Mo_cut) l
def T_LY_reader : zT2 := zTF (zL1 T_Mo_reader co_Mo_reader)
theorem c_LY_reader (l : Launch) : zCT2 l yX7_reader cX7_reader 2 (some .int) 1 21 T_LY_reader := zTF_c (zL1_c c_Mo_reader) l
def T_LY_move : zT2 := zTF (T_Mo_move)
theorem c_LY_move (l : Launch) : zCT2 l yX7_move cX7_move 3 (some .int) 3 73 T_LY_move := zTF_c (c_Mo_move) l
def T_LY_test : zT2 := zTF (zL1 T_Mo_test co_Mo_test)
theorem c_LY_test (l : Launch) : zCT2 l yX7_test cX7_test 6 (some .boolean) 1 20 T_LY_test := zTF_c (zL1_c c_Mo_test) l
def T_LY_among : zT2 := zTF (zL1 T_Mo_among co_Mo_among)
theorem c_LY_among (l : Launch) : zCT2 l yX7_among cX7_among 5 (some .boolean) 1 25 T_LY_among := zTF_c (zL1_c c_Mo_among) l
def T_LY_wish : zT2 := zTF (T_Mo_wish)
theorem c_LY_wish (l : Launch) : zCT2 l yX7_wish cX7_wish 7 (some .int) 3 85 T_LY_wish := zTF_c (c_Mo_wish) l
def T_LY_off : zT2 := zTF (T_Mo_off)
theorem c_LY_off (l : Launch) : zCT2 l yX7_off cX7_off 2 (some .int) 3 73 T_LY_off := zTF_c (c_Mo_off) l
def T_LY_send : zT2 := zTF (T_Mo_send)
theorem c_LY_send (l : Launch) : zCT2 l yX7_send cX7_send 7 (some .int) 6 145 T_LY_send := zTF_c (c_Mo_send) l
def T_LY_deliver : zT2 := zTF (T_Mo_deliver)
theorem c_LY_deliver (l : Launch) : zCT2 l yX7_deliver cX7_deliver 6 (some .int) 7 170 T_LY_deliver := zTF_c (c_Mo_deliver) l
def T_LY_all : zT2 := zTF (T_Mo_all)
theorem c_LY_all (l : Launch) : zCT2 l yX7_all cX7_all 4 (some .int) 7 170 T_LY_all := zTF_c (c_Mo_all) l
def T_LY_covers : zT2 := zTF (zL1 T_Mo_covers co_Mo_covers)
theorem c_LY_covers (l : Launch) : zCT2 l yX7_covers cX7_covers 3 (some .int) 1 21 T_LY_covers := zTF_c (zL1_c c_Mo_covers) l
def T_LY_fits : zT2 := zTF (zL1 T_Mo_fits co_Mo_fits)
theorem c_LY_fits (l : Launch) : zCT2 l yX7_fits cX7_fits 6 (some .int) 2 50 T_LY_fits := zTF_c (zL1_c c_Mo_fits) l
def T_LY_table : zT2 := zTF (zL1 T_Mo_table co_Mo_table)
theorem c_LY_table (l : Launch) : zCT2 l yX7_table cX7_table 4 (some .int) 2 48 T_LY_table := zTF_c (zL1_c c_Mo_table) l
def T_LY_told : zT2 := zTF (zL1 T_Mo_told co_Mo_told)
theorem c_LY_told (l : Launch) : zCT2 l yX7_told cX7_told 4 (some .int) 2 48 T_LY_told := zTF_c (zL1_c c_Mo_told) l
def T_LY_message : zT2 := zTF (zL1 T_Mo_message co_Mo_message)
theorem c_LY_message (l : Launch) : zCT2 l yX7_message cX7_message 6 (some .int) 0 0 T_LY_message := zTF_c (zL1_c c_Mo_message) l
def T_LY_heard : zT2 := zTF (zL1 T_Mo_heard co_Mo_heard)
theorem c_LY_heard (l : Launch) : zCT2 l yX7_heard cX7_heard 3 (some .int) 1 21 T_LY_heard := zTF_c (zL1_c c_Mo_heard) l
def T_LY_notice : zT2 := zTF (zL1 T_Mo_notice co_Mo_notice)
theorem c_LY_notice (l : Launch) : zCT2 l yX7_notice cX7_notice 3 (some .int) 1 23 T_LY_notice := zTF_c (zL1_c c_Mo_notice) l
def T_LY_look : zT2 := zTF (zL1 T_Mo_look co_Mo_look)
theorem c_LY_look (l : Launch) : zCT2 l yX7_look cX7_look 6 (some .int) 1 21 T_LY_look := zTF_c (zL1_c c_Mo_look) l
def T_LY_count : zT2 := zTF (zL1 T_Mo_count co_Mo_count)
theorem c_LY_count (l : Launch) : zCT2 l yX7_count cX7_count 6 (some .int) 2 45 T_LY_count := zTF_c (zL1_c c_Mo_count) l
