/-! the reference: look, count -/
/-- how many numbers a test has -/
noncomputable def y_tn (y : zMS) (t : Nat) : Nat := if y_kd y t = 0 then 0 else if y_kd y t = 3 then y_mn y t else 2
noncomputable def y_lkq (y : zMS) (w : Nat) (q : Int32) : Int32 := if q = 0 then nI (y_ro y w) else if q = 1 then zb (y_al y w) else if ¬ q < 2 ∧ q < 6 then y_kd y (4 * w + (q - 2).toNatClampNeg) else if ¬ q < 10 ∧ q < 26 then (if (q - 10).toNatClampNeg % 4 < y_tn y (4 * w + (q - 10).toNatClampNeg / 4) then y_nu y (4 * (4 * w + (q - 10).toNatClampNeg / 4) + (q - 10).toNatClampNeg % 4) else 0) else 0
def T_Mo_look (As : List zAV) (M : zMp) (Rt : Option zAV → zMp → Prop) : Prop := ∃ y k q, As = [.inr (30, 0, 0), .inl (.int k), .inl (.int q)] ∧ M = mp y ∧ Jv y ∧ (isn (y_nw y) k = false → Rt (some (.inl (.int 0))) M) ∧ (∀ i, i < y_nw y → k = nI i → Rt (some (.inl (.int (y_lkq y i q)))) M)
abbrev co_Mo_look := co0
theorem dX7_look_0 : decode cX7_look 0 = .ok (.aload_n 0, 1) := by decide +kernel
theorem dX7_look_1 : decode cX7_look 1 = .ok (.iload_n 1, 1) := by decide +kernel
theorem dX7_look_2 : decode cX7_look 2 = .ok (.invokevirtual 173, 3) := by decide +kernel
theorem dX7_look_5 : decode cX7_look 5 = .ok (.ifCond .ne 5, 3) := by decide +kernel
theorem dX7_look_8 : decode cX7_look 8 = .ok (.iconst 0, 1) := by decide +kernel
theorem dX7_look_9 : decode cX7_look 9 = .ok (.ireturn, 1) := by decide +kernel
theorem dX7_look_10 : decode cX7_look 10 = .ok (.iload_n 2, 1) := by decide +kernel
theorem dX7_look_11 : decode cX7_look 11 = .ok (.ifCond .ne 10, 3) := by decide +kernel
theorem dX7_look_14 : decode cX7_look 14 = .ok (.aload_n 0, 1) := by decide +kernel
theorem dX7_look_15 : decode cX7_look 15 = .ok (.getfield 17, 3) := by decide +kernel
theorem dX7_look_18 : decode cX7_look 18 = .ok (.iload_n 1, 1) := by decide +kernel
theorem dX7_look_19 : decode cX7_look 19 = .ok (.iaload, 1) := by decide +kernel
theorem dX7_look_20 : decode cX7_look 20 = .ok (.ireturn, 1) := by decide +kernel
theorem dX7_look_21 : decode cX7_look 21 = .ok (.iload_n 2, 1) := by decide +kernel
theorem dX7_look_22 : decode cX7_look 22 = .ok (.iconst 1, 1) := by decide +kernel
theorem dX7_look_23 : decode cX7_look 23 = .ok (.if_icmp .ne 18, 3) := by decide +kernel
theorem dX7_look_26 : decode cX7_look 26 = .ok (.aload_n 0, 1) := by decide +kernel
theorem dX7_look_27 : decode cX7_look 27 = .ok (.getfield 20, 3) := by decide +kernel
theorem dX7_look_30 : decode cX7_look 30 = .ok (.iload_n 1, 1) := by decide +kernel
theorem dX7_look_31 : decode cX7_look 31 = .ok (.baload, 1) := by decide +kernel
theorem dX7_look_32 : decode cX7_look 32 = .ok (.ifCond .eq 7, 3) := by decide +kernel
theorem dX7_look_35 : decode cX7_look 35 = .ok (.iconst 1, 1) := by decide +kernel
theorem dX7_look_36 : decode cX7_look 36 = .ok (.goto 4, 3) := by decide +kernel
theorem dX7_look_39 : decode cX7_look 39 = .ok (.iconst 0, 1) := by decide +kernel
theorem dX7_look_40 : decode cX7_look 40 = .ok (.ireturn, 1) := by decide +kernel
theorem dX7_look_41 : decode cX7_look 41 = .ok (.iload_n 2, 1) := by decide +kernel
theorem dX7_look_42 : decode cX7_look 42 = .ok (.iconst 2, 1) := by decide +kernel
theorem dX7_look_43 : decode cX7_look 43 = .ok (.if_icmp .lt 21, 3) := by decide +kernel
theorem dX7_look_46 : decode cX7_look 46 = .ok (.iload_n 2, 1) := by decide +kernel
theorem dX7_look_47 : decode cX7_look 47 = .ok (.iconst 5, 1) := by decide +kernel
theorem dX7_look_48 : decode cX7_look 48 = .ok (.if_icmp .gt 16, 3) := by decide +kernel
theorem dX7_look_51 : decode cX7_look 51 = .ok (.aload_n 0, 1) := by decide +kernel
theorem dX7_look_52 : decode cX7_look 52 = .ok (.getfield 23, 3) := by decide +kernel
theorem dX7_look_55 : decode cX7_look 55 = .ok (.iconst 4, 1) := by decide +kernel
theorem dX7_look_56 : decode cX7_look 56 = .ok (.iload_n 1, 1) := by decide +kernel
theorem dX7_look_57 : decode cX7_look 57 = .ok (.imul, 1) := by decide +kernel
theorem dX7_look_58 : decode cX7_look 58 = .ok (.iload_n 2, 1) := by decide +kernel
theorem dX7_look_59 : decode cX7_look 59 = .ok (.iadd, 1) := by decide +kernel
theorem dX7_look_60 : decode cX7_look 60 = .ok (.iconst 2, 1) := by decide +kernel
theorem dX7_look_61 : decode cX7_look 61 = .ok (.isub, 1) := by decide +kernel
theorem dX7_look_62 : decode cX7_look 62 = .ok (.iaload, 1) := by decide +kernel
theorem dX7_look_63 : decode cX7_look 63 = .ok (.ireturn, 1) := by decide +kernel
theorem dX7_look_64 : decode cX7_look 64 = .ok (.iload_n 2, 1) := by decide +kernel
theorem dX7_look_65 : decode cX7_look 65 = .ok (.bipush 10, 2) := by decide +kernel
theorem dX7_look_67 : decode cX7_look 67 = .ok (.if_icmp .lt 9, 3) := by decide +kernel
theorem dX7_look_70 : decode cX7_look 70 = .ok (.iload_n 2, 1) := by decide +kernel
theorem dX7_look_71 : decode cX7_look 71 = .ok (.bipush 25, 2) := by decide +kernel
theorem dX7_look_73 : decode cX7_look 73 = .ok (.if_icmp .le 5, 3) := by decide +kernel
theorem dX7_look_76 : decode cX7_look 76 = .ok (.iconst 0, 1) := by decide +kernel
theorem dX7_look_77 : decode cX7_look 77 = .ok (.ireturn, 1) := by decide +kernel
theorem dX7_look_78 : decode cX7_look 78 = .ok (.iconst 4, 1) := by decide +kernel
theorem dX7_look_79 : decode cX7_look 79 = .ok (.iload_n 1, 1) := by decide +kernel
theorem dX7_look_80 : decode cX7_look 80 = .ok (.imul, 1) := by decide +kernel
theorem dX7_look_81 : decode cX7_look 81 = .ok (.iload_n 2, 1) := by decide +kernel
theorem dX7_look_82 : decode cX7_look 82 = .ok (.bipush 10, 2) := by decide +kernel
theorem dX7_look_84 : decode cX7_look 84 = .ok (.isub, 1) := by decide +kernel
theorem dX7_look_85 : decode cX7_look 85 = .ok (.iconst 4, 1) := by decide +kernel
theorem dX7_look_86 : decode cX7_look 86 = .ok (.idiv, 1) := by decide +kernel
theorem dX7_look_87 : decode cX7_look 87 = .ok (.iadd, 1) := by decide +kernel
theorem dX7_look_88 : decode cX7_look 88 = .ok (.istore_n 3, 1) := by decide +kernel
theorem dX7_look_89 : decode cX7_look 89 = .ok (.iload_n 2, 1) := by decide +kernel
theorem dX7_look_90 : decode cX7_look 90 = .ok (.bipush 10, 2) := by decide +kernel
theorem dX7_look_92 : decode cX7_look 92 = .ok (.isub, 1) := by decide +kernel
theorem dX7_look_93 : decode cX7_look 93 = .ok (.iconst 4, 1) := by decide +kernel
theorem dX7_look_94 : decode cX7_look 94 = .ok (.irem, 1) := by decide +kernel
theorem dX7_look_95 : decode cX7_look 95 = .ok (.istore 4, 2) := by decide +kernel
theorem dX7_look_97 : decode cX7_look 97 = .ok (.aload_n 0, 1) := by decide +kernel
theorem dX7_look_98 : decode cX7_look 98 = .ok (.getfield 23, 3) := by decide +kernel
theorem dX7_look_101 : decode cX7_look 101 = .ok (.iload_n 3, 1) := by decide +kernel
theorem dX7_look_102 : decode cX7_look 102 = .ok (.iaload, 1) := by decide +kernel
theorem dX7_look_103 : decode cX7_look 103 = .ok (.ifCond .ne 7, 3) := by decide +kernel
theorem dX7_look_106 : decode cX7_look 106 = .ok (.iconst 0, 1) := by decide +kernel
theorem dX7_look_107 : decode cX7_look 107 = .ok (.goto 23, 3) := by decide +kernel
theorem dX7_look_110 : decode cX7_look 110 = .ok (.aload_n 0, 1) := by decide +kernel
theorem dX7_look_111 : decode cX7_look 111 = .ok (.getfield 23, 3) := by decide +kernel
theorem dX7_look_114 : decode cX7_look 114 = .ok (.iload_n 3, 1) := by decide +kernel
theorem dX7_look_115 : decode cX7_look 115 = .ok (.iaload, 1) := by decide +kernel
theorem dX7_look_116 : decode cX7_look 116 = .ok (.iconst 3, 1) := by decide +kernel
theorem dX7_look_117 : decode cX7_look 117 = .ok (.if_icmp .ne 12, 3) := by decide +kernel
theorem dX7_look_120 : decode cX7_look 120 = .ok (.aload_n 0, 1) := by decide +kernel
theorem dX7_look_121 : decode cX7_look 121 = .ok (.getfield 26, 3) := by decide +kernel
theorem dX7_look_124 : decode cX7_look 124 = .ok (.iload_n 3, 1) := by decide +kernel
theorem dX7_look_125 : decode cX7_look 125 = .ok (.iaload, 1) := by decide +kernel
theorem dX7_look_126 : decode cX7_look 126 = .ok (.goto 4, 3) := by decide +kernel
theorem dX7_look_129 : decode cX7_look 129 = .ok (.iconst 2, 1) := by decide +kernel
theorem dX7_look_130 : decode cX7_look 130 = .ok (.istore 5, 2) := by decide +kernel
theorem dX7_look_132 : decode cX7_look 132 = .ok (.iload 4, 2) := by decide +kernel
theorem dX7_look_134 : decode cX7_look 134 = .ok (.iload 5, 2) := by decide +kernel
theorem dX7_look_136 : decode cX7_look 136 = .ok (.if_icmp .ge 17, 3) := by decide +kernel
theorem dX7_look_139 : decode cX7_look 139 = .ok (.aload_n 0, 1) := by decide +kernel
theorem dX7_look_140 : decode cX7_look 140 = .ok (.getfield 29, 3) := by decide +kernel
theorem dX7_look_143 : decode cX7_look 143 = .ok (.iconst 4, 1) := by decide +kernel
theorem dX7_look_144 : decode cX7_look 144 = .ok (.iload_n 3, 1) := by decide +kernel
theorem dX7_look_145 : decode cX7_look 145 = .ok (.imul, 1) := by decide +kernel
theorem dX7_look_146 : decode cX7_look 146 = .ok (.iload 4, 2) := by decide +kernel
theorem dX7_look_148 : decode cX7_look 148 = .ok (.iadd, 1) := by decide +kernel
theorem dX7_look_149 : decode cX7_look 149 = .ok (.iaload, 1) := by decide +kernel
theorem dX7_look_150 : decode cX7_look 150 = .ok (.goto 4, 3) := by decide +kernel
theorem dX7_look_153 : decode cX7_look 153 = .ok (.iconst 0, 1) := by decide +kernel
theorem dX7_look_154 : decode cX7_look 154 = .ok (.ireturn, 1) := by decide +kernel
def B_Mo_look_154 (mc ms : Nat) (Rt : Option zAV → zMp → Prop) (g : Nat → zKT) : zKT :=
  (i_iret mc ms Rt)
set_option maxRecDepth 20000 in
theorem s_Mo_look_154 {X : zMa} {mc ms : Nat} {Rt : Option zAV → zMp → Prop} (hC : zCx X RX7 cX7_look 1 21 mc ms (some .int) false Rt) (hN : zNL X = 6) : zLe (B_Mo_look_154 mc ms Rt (zG X)) (zG X 154) :=
  (sd_iret hC dX7_look_154)
def B_Mo_look_153 (mc ms : Nat) (Rt : Option zAV → zMp → Prop) (g : Nat → zKT) : zKT :=
  (i_ic 0 (B_Mo_look_154 mc ms Rt g))
set_option maxRecDepth 20000 in
theorem s_Mo_look_153 {X : zMa} {mc ms : Nat} {Rt : Option zAV → zMp → Prop} (hC : zCx X RX7 cX7_look 1 21 mc ms (some .int) false Rt) (hN : zNL X = 6) : zLe (B_Mo_look_153 mc ms Rt (zG X)) (zG X 153) :=
  (sd_iconst hC (by decide) dX7_look_153 (s_Mo_look_154 hC hN))
def B_Mo_look_130 (mc ms : Nat) (Rt : Option zAV → zMp → Prop) (g : Nat → zKT) : zKT :=
  (i_is 5 (i_il 4 (i_il 5 (i_icge (B_Mo_look_153 mc ms Rt g) (i_al 0 (i_gf 8 10 (i_ic 4 (i_il 3 (i_imul (i_il 4 (i_iadd (i_ial (B_Mo_look_154 mc ms Rt g)))))))))))))
set_option maxRecDepth 20000 in
theorem s_Mo_look_130 {X : zMa} {mc ms : Nat} {Rt : Option zAV → zMp → Prop} (hC : zCx X RX7 cX7_look 1 21 mc ms (some .int) false Rt) (hN : zNL X = 6) : zLe (B_Mo_look_130 mc ms Rt (zG X)) (zG X 130) :=
  (sd_is hC (by rw [hN]; decide) dX7_look_130 ((sd_il hC dX7_look_132 ((sd_il hC dX7_look_134 ((sd_icge hC (tgt := 153) (by decide) dX7_look_136 (s_Mo_look_153 hC hN) ((sd_al_n hC rfl dX7_look_139 ((sd_gf hC (ci := 8) (fk := 10) rfl wi_Mo (by decide) fl_Mo_29 (Or.inl rfl) dX7_look_140 ((sd_iconst hC (by decide) dX7_look_143 ((sd_il_n hC rfl dX7_look_144 ((sd_imul hC dX7_look_145 ((sd_il hC dX7_look_146 ((sd_iadd hC dX7_look_148 ((sd_ial hC dX7_look_149 ((sd_goto hC (tgt := 154) (by decide) dX7_look_150 (s_Mo_look_154 hC hN))))))))))))))))))))))))))
def B_Mo_look_129 (mc ms : Nat) (Rt : Option zAV → zMp → Prop) (g : Nat → zKT) : zKT :=
  (i_ic 2 (B_Mo_look_130 mc ms Rt g))
set_option maxRecDepth 20000 in
theorem s_Mo_look_129 {X : zMa} {mc ms : Nat} {Rt : Option zAV → zMp → Prop} (hC : zCx X RX7 cX7_look 1 21 mc ms (some .int) false Rt) (hN : zNL X = 6) : zLe (B_Mo_look_129 mc ms Rt (zG X)) (zG X 129) :=
  (sd_iconst hC (by decide) dX7_look_129 (s_Mo_look_130 hC hN))
def B_Mo_look_110 (mc ms : Nat) (Rt : Option zAV → zMp → Prop) (g : Nat → zKT) : zKT :=
  (i_al 0 (i_gf 8 8 (i_il 3 (i_ial (i_ic 3 (i_icne (B_Mo_look_129 mc ms Rt g) (i_al 0 (i_gf 8 9 (i_il 3 (i_ial (B_Mo_look_130 mc ms Rt g)))))))))))
set_option maxRecDepth 20000 in
theorem s_Mo_look_110 {X : zMa} {mc ms : Nat} {Rt : Option zAV → zMp → Prop} (hC : zCx X RX7 cX7_look 1 21 mc ms (some .int) false Rt) (hN : zNL X = 6) : zLe (B_Mo_look_110 mc ms Rt (zG X)) (zG X 110) :=
  (sd_al_n hC rfl dX7_look_110 ((sd_gf hC (ci := 8) (fk := 8) rfl wi_Mo (by decide) fl_Mo_23 (Or.inl rfl) dX7_look_111 ((sd_il_n hC rfl dX7_look_114 ((sd_ial hC dX7_look_115 ((sd_iconst hC (by decide) dX7_look_116 ((sd_icne hC (tgt := 129) (by decide) dX7_look_117 (s_Mo_look_129 hC hN) ((sd_al_n hC rfl dX7_look_120 ((sd_gf hC (ci := 8) (fk := 9) rfl wi_Mo (by decide) fl_Mo_26 (Or.inl rfl) dX7_look_121 ((sd_il_n hC rfl dX7_look_124 ((sd_ial hC dX7_look_125 ((sd_goto hC (tgt := 130) (by decide) dX7_look_126 (s_Mo_look_130 hC hN))))))))))))))))))))))
def B_Mo_look_78 (mc ms : Nat) (Rt : Option zAV → zMp → Prop) (g : Nat → zKT) : zKT :=
  (i_ic 4 (i_il 1 (i_imul (i_il 2 (i_ic 10 (i_isub (i_ic 4 (i_idiv (i_iadd (i_is 3 (i_il 2 (i_ic 10 (i_isub (i_ic 4 (i_irem (i_is 4 (i_al 0 (i_gf 8 8 (i_il 3 (i_ial (i_ifne (B_Mo_look_110 mc ms Rt g) (i_ic 0 (B_Mo_look_130 mc ms Rt g)))))))))))))))))))))))
set_option maxRecDepth 20000 in
theorem s_Mo_look_78 {X : zMa} {mc ms : Nat} {Rt : Option zAV → zMp → Prop} (hC : zCx X RX7 cX7_look 1 21 mc ms (some .int) false Rt) (hN : zNL X = 6) : zLe (B_Mo_look_78 mc ms Rt (zG X)) (zG X 78) :=
  (sd_iconst hC (by decide) dX7_look_78 ((sd_il_n hC rfl dX7_look_79 ((sd_imul hC dX7_look_80 ((sd_il_n hC rfl dX7_look_81 ((sd_bipush hC (by decide) dX7_look_82 ((sd_isub hC dX7_look_84 ((sd_iconst hC (by decide) dX7_look_85 ((sd_idiv hC dX7_look_86 ((sd_iadd hC dX7_look_87 ((sd_is_n hC rfl (by rw [hN]; decide) dX7_look_88 ((sd_il_n hC rfl dX7_look_89 ((sd_bipush hC (by decide) dX7_look_90 ((sd_isub hC dX7_look_92 ((sd_iconst hC (by decide) dX7_look_93 ((sd_irem hC dX7_look_94 ((sd_is hC (by rw [hN]; decide) dX7_look_95 ((sd_al_n hC rfl dX7_look_97 ((sd_gf hC (ci := 8) (fk := 8) rfl wi_Mo (by decide) fl_Mo_23 (Or.inl rfl) dX7_look_98 ((sd_il_n hC rfl dX7_look_101 ((sd_ial hC dX7_look_102 ((sd_ifne hC (tgt := 110) (by decide) dX7_look_103 (s_Mo_look_110 hC hN) ((sd_iconst hC (by decide) dX7_look_106 ((sd_goto hC (tgt := 130) (by decide) dX7_look_107 (s_Mo_look_130 hC hN))))))))))))))))))))))))))))))))))))))))))))))
def B_Mo_look_76 (mc ms : Nat) (Rt : Option zAV → zMp → Prop) (g : Nat → zKT) : zKT :=
  (i_ic 0 (i_iret mc ms Rt))
set_option maxRecDepth 20000 in
theorem s_Mo_look_76 {X : zMa} {mc ms : Nat} {Rt : Option zAV → zMp → Prop} (hC : zCx X RX7 cX7_look 1 21 mc ms (some .int) false Rt) (hN : zNL X = 6) : zLe (B_Mo_look_76 mc ms Rt (zG X)) (zG X 76) :=
  (sd_iconst hC (by decide) dX7_look_76 ((sd_iret hC dX7_look_77)))
def B_Mo_look_64 (mc ms : Nat) (Rt : Option zAV → zMp → Prop) (g : Nat → zKT) : zKT :=
  (i_il 2 (i_ic 10 (i_iclt (B_Mo_look_76 mc ms Rt g) (i_il 2 (i_ic 25 (i_icle (B_Mo_look_78 mc ms Rt g) (B_Mo_look_76 mc ms Rt g)))))))
set_option maxRecDepth 20000 in
theorem s_Mo_look_64 {X : zMa} {mc ms : Nat} {Rt : Option zAV → zMp → Prop} (hC : zCx X RX7 cX7_look 1 21 mc ms (some .int) false Rt) (hN : zNL X = 6) : zLe (B_Mo_look_64 mc ms Rt (zG X)) (zG X 64) :=
  (sd_il_n hC rfl dX7_look_64 ((sd_bipush hC (by decide) dX7_look_65 ((sd_iclt hC (tgt := 76) (by decide) dX7_look_67 (s_Mo_look_76 hC hN) ((sd_il_n hC rfl dX7_look_70 ((sd_bipush hC (by decide) dX7_look_71 ((sd_icle hC (tgt := 78) (by decide) dX7_look_73 (s_Mo_look_78 hC hN) (s_Mo_look_76 hC hN))))))))))))
def B_Mo_look_41 (mc ms : Nat) (Rt : Option zAV → zMp → Prop) (g : Nat → zKT) : zKT :=
  (i_il 2 (i_ic 2 (i_iclt (B_Mo_look_64 mc ms Rt g) (i_il 2 (i_ic 5 (i_icgt (B_Mo_look_64 mc ms Rt g) (i_al 0 (i_gf 8 8 (i_ic 4 (i_il 1 (i_imul (i_il 2 (i_iadd (i_ic 2 (i_isub (i_ial (i_iret mc ms Rt)))))))))))))))))
set_option maxRecDepth 20000 in
theorem s_Mo_look_41 {X : zMa} {mc ms : Nat} {Rt : Option zAV → zMp → Prop} (hC : zCx X RX7 cX7_look 1 21 mc ms (some .int) false Rt) (hN : zNL X = 6) : zLe (B_Mo_look_41 mc ms Rt (zG X)) (zG X 41) :=
  (sd_il_n hC rfl dX7_look_41 ((sd_iconst hC (by decide) dX7_look_42 ((sd_iclt hC (tgt := 64) (by decide) dX7_look_43 (s_Mo_look_64 hC hN) ((sd_il_n hC rfl dX7_look_46 ((sd_iconst hC (by decide) dX7_look_47 ((sd_icgt hC (tgt := 64) (by decide) dX7_look_48 (s_Mo_look_64 hC hN) ((sd_al_n hC rfl dX7_look_51 ((sd_gf hC (ci := 8) (fk := 8) rfl wi_Mo (by decide) fl_Mo_23 (Or.inl rfl) dX7_look_52 ((sd_iconst hC (by decide) dX7_look_55 ((sd_il_n hC rfl dX7_look_56 ((sd_imul hC dX7_look_57 ((sd_il_n hC rfl dX7_look_58 ((sd_iadd hC dX7_look_59 ((sd_iconst hC (by decide) dX7_look_60 ((sd_isub hC dX7_look_61 ((sd_ial hC dX7_look_62 ((sd_iret hC dX7_look_63)))))))))))))))))))))))))))))))))
def B_Mo_look_40 (mc ms : Nat) (Rt : Option zAV → zMp → Prop) (g : Nat → zKT) : zKT :=
  (i_iret mc ms Rt)
set_option maxRecDepth 20000 in
theorem s_Mo_look_40 {X : zMa} {mc ms : Nat} {Rt : Option zAV → zMp → Prop} (hC : zCx X RX7 cX7_look 1 21 mc ms (some .int) false Rt) (hN : zNL X = 6) : zLe (B_Mo_look_40 mc ms Rt (zG X)) (zG X 40) :=
  (sd_iret hC dX7_look_40)
def B_Mo_look_39 (mc ms : Nat) (Rt : Option zAV → zMp → Prop) (g : Nat → zKT) : zKT :=
  (i_ic 0 (B_Mo_look_40 mc ms Rt g))
set_option maxRecDepth 20000 in
theorem s_Mo_look_39 {X : zMa} {mc ms : Nat} {Rt : Option zAV → zMp → Prop} (hC : zCx X RX7 cX7_look 1 21 mc ms (some .int) false Rt) (hN : zNL X = 6) : zLe (B_Mo_look_39 mc ms Rt (zG X)) (zG X 39) :=
  (sd_iconst hC (by decide) dX7_look_39 (s_Mo_look_40 hC hN))
def B_Mo_look_21 (mc ms : Nat) (Rt : Option zAV → zMp → Prop) (g : Nat → zKT) : zKT :=
  (i_il 2 (i_ic 1 (i_icne (B_Mo_look_41 mc ms Rt g) (i_al 0 (i_gf 8 7 (i_il 1 (i_bal (i_ifeq (B_Mo_look_39 mc ms Rt g) (i_ic 1 (B_Mo_look_40 mc ms Rt g))))))))))
set_option maxRecDepth 20000 in
theorem s_Mo_look_21 {X : zMa} {mc ms : Nat} {Rt : Option zAV → zMp → Prop} (hC : zCx X RX7 cX7_look 1 21 mc ms (some .int) false Rt) (hN : zNL X = 6) : zLe (B_Mo_look_21 mc ms Rt (zG X)) (zG X 21) :=
  (sd_il_n hC rfl dX7_look_21 ((sd_iconst hC (by decide) dX7_look_22 ((sd_icne hC (tgt := 41) (by decide) dX7_look_23 (s_Mo_look_41 hC hN) ((sd_al_n hC rfl dX7_look_26 ((sd_gf hC (ci := 8) (fk := 7) rfl wi_Mo (by decide) fl_Mo_20 (Or.inl rfl) dX7_look_27 ((sd_il_n hC rfl dX7_look_30 ((sd_bal hC dX7_look_31 ((sd_ifeq hC (tgt := 39) (by decide) dX7_look_32 (s_Mo_look_39 hC hN) ((sd_iconst hC (by decide) dX7_look_35 ((sd_goto hC (tgt := 40) (by decide) dX7_look_36 (s_Mo_look_40 hC hN))))))))))))))))))))
def B_Mo_look_10 (mc ms : Nat) (Rt : Option zAV → zMp → Prop) (g : Nat → zKT) : zKT :=
  (i_il 2 (i_ifne (B_Mo_look_21 mc ms Rt g) (i_al 0 (i_gf 8 6 (i_il 1 (i_ial (i_iret mc ms Rt)))))))
set_option maxRecDepth 20000 in
theorem s_Mo_look_10 {X : zMa} {mc ms : Nat} {Rt : Option zAV → zMp → Prop} (hC : zCx X RX7 cX7_look 1 21 mc ms (some .int) false Rt) (hN : zNL X = 6) : zLe (B_Mo_look_10 mc ms Rt (zG X)) (zG X 10) :=
  (sd_il_n hC rfl dX7_look_10 ((sd_ifne hC (tgt := 21) (by decide) dX7_look_11 (s_Mo_look_21 hC hN) ((sd_al_n hC rfl dX7_look_14 ((sd_gf hC (ci := 8) (fk := 6) rfl wi_Mo (by decide) fl_Mo_17 (Or.inl rfl) dX7_look_15 ((sd_il_n hC rfl dX7_look_18 ((sd_ial hC dX7_look_19 ((sd_iret hC dX7_look_20)))))))))))))
def B_Mo_look_0 (mc ms : Nat) (Rt : Option zAV → zMp → Prop) (g : Nat → zKT) : zKT :=
  (i_al 0 (i_il 1 (i_callV mc ms 8 2 T_Mo_isWish co_Mo_isWish (i_ifne (B_Mo_look_10 mc ms Rt g) (i_ic 0 (i_iret mc ms Rt))))))
set_option maxRecDepth 20000 in
theorem s_Mo_look_0 {X : zMa} {mc ms : Nat} {Rt : Option zAV → zMp → Prop} (hC : zCx X RX7 cX7_look 1 21 mc ms (some .int) false Rt) (hN : zNL X = 6) : zLe (B_Mo_look_0 mc ms Rt (zG X)) (zG X 0) :=
  (sd_al_n hC rfl dX7_look_0 ((sd_il_n hC rfl dX7_look_1 ((sd_cV hC c_Mo_isWish yv_Mo_isWish (ci := 8) rfl rfl ml_Mo_173 (by decide) (by decide) dX7_look_2 ((sd_ifne hC (tgt := 10) (by decide) dX7_look_5 (s_Mo_look_10 hC hN) ((sd_iconst hC (by decide) dX7_look_8 ((sd_iret hC dX7_look_9)))))))))))
theorem gt_lt1 {a : Int32} {n : Nat} (hn : n + 1 < 2 ^ 31) : nI n < a ↔ nI (n + 1) ≤ a := by
  have h1 := nI_toInt (n := n) (by omega)
  have h2 := nI_toInt (n := n + 1) hn
  rw [Int32.lt_iff_toInt_lt, Int32.le_iff_toInt_le, h1, h2]
  omega
theorem c_Mo_look (l : Launch) : zCT l yX7_look cX7_look 6 (some .int) 1 21 T_Mo_look co_Mo_look := by
  intro As M Rt hT
  obtain ⟨y, k, q, rfl, rfl, hJ, hR0, hR1⟩ := hT
  have hlim := hJ.lim
  refine zMet_of false (by decide +kernel) (fun h => by first | rfl | cases h) (Nat.le_of_ble_eq_true rfl) (fun X hN hC => ?_)
  show zG X 0 [some (.inr (30, 0, 0)), some (.inl (.int k)), some (.inl (.int q)), none, none, none] [] (mp y) 0 0
  refine s_Mo_look_0 hC hN _ _ _ _ _ ?_
  simp only [B_Mo_look_0, B_Mo_look_10, B_Mo_look_21, B_Mo_look_39, B_Mo_look_40, B_Mo_look_41, B_Mo_look_64, B_Mo_look_76, B_Mo_look_110, B_Mo_look_129, B_Mo_look_130, B_Mo_look_153, B_Mo_look_154, co_Mo_isWish, co_Mo_look, i_ic, i_lc, i_nul, i_il, i_ll, i_al, i_is, i_as, i_ls, i_inc, i_iadd, i_isub, i_imul, i_iand, i_ior, i_ixor, i_idiv, i_irem, i_ishl, i_ishr, i_ladd, i_lsub, i_land, i_lor, i_i2l, i_lushr, i_lshl, i_lshr, i_lcmp, i_dup, i_pop, i_dx1, i_dup2, i_ifeq, i_ifne, i_iflt, i_ifge, i_ifgt, i_ifle, i_iceq, i_icne, i_iclt, i_icge, i_icgt, i_icle, i_ifn, i_gf, i_pf, i_ial, i_bal, i_lal, i_aal, i_ias, i_las, i_bas, i_aas, i_alen, i_newa, i_new, i_anew, i_cast, i_oi, i_call, i_callV, i_callV2, i_callI, i_iret, i_zret, i_lret, i_vret, i_aret, i_mmx, i_mmn, i_gsE, i_aceq, i_no, i_acq, i_sw, zsw, zlg, zls, znl, zfg, zcs, zsp, zrc, zisn, zft, zc1, zto, Value.category, List.set_cons_zero, List.set_cons_succ, List.length_cons, List.length_nil, Option.toList, List.append, List.nil_append, List.cons_append, true_and, and_true, Nat.add_zero, Nat.zero_le, Nat.zero_add, Nat.le_refl, Nat.reduceAdd, Nat.reduceLeDiff, co0, z0, zn_0, zn_1, zn_2, zn_3, zn_4, zn_5, zn_8, zn_12, zn_24, zn_121, zn_144, zn_256, zn_300, zn_600, zn_720, zn_1204, zn_1280, zn_2400, zn_4816, zn_14400, zn_90000, q_main, m_main]
  refine ⟨y, k, rfl, rfl, ?_⟩
  simp only [B_Mo_look_0, B_Mo_look_10, B_Mo_look_21, B_Mo_look_39, B_Mo_look_40, B_Mo_look_41, B_Mo_look_64, B_Mo_look_76, B_Mo_look_110, B_Mo_look_129, B_Mo_look_130, B_Mo_look_153, B_Mo_look_154, co_Mo_isWish, co_Mo_look, i_ic, i_lc, i_nul, i_il, i_ll, i_al, i_is, i_as, i_ls, i_inc, i_iadd, i_isub, i_imul, i_iand, i_ior, i_ixor, i_idiv, i_irem, i_ishl, i_ishr, i_ladd, i_lsub, i_land, i_lor, i_i2l, i_lushr, i_lshl, i_lshr, i_lcmp, i_dup, i_pop, i_dx1, i_dup2, i_ifeq, i_ifne, i_iflt, i_ifge, i_ifgt, i_ifle, i_iceq, i_icne, i_iclt, i_icge, i_icgt, i_icle, i_ifn, i_gf, i_pf, i_ial, i_bal, i_lal, i_aal, i_ias, i_las, i_bas, i_aas, i_alen, i_newa, i_new, i_anew, i_cast, i_oi, i_call, i_callV, i_callV2, i_callI, i_iret, i_zret, i_lret, i_vret, i_aret, i_mmx, i_mmn, i_gsE, i_aceq, i_no, i_acq, i_sw, zsw, zlg, zls, znl, zfg, zcs, zsp, zrc, zisn, zft, zc1, zto, Value.category, List.set_cons_zero, List.set_cons_succ, List.length_cons, List.length_nil, Option.toList, List.append, List.nil_append, List.cons_append, true_and, and_true, Nat.add_zero, Nat.zero_le, Nat.zero_add, Nat.le_refl, Nat.reduceAdd, Nat.reduceLeDiff, co0, z0, zn_0, zn_1, zn_2, zn_3, zn_4, zn_5, zn_8, zn_12, zn_24, zn_121, zn_144, zn_256, zn_300, zn_600, zn_720, zn_1204, zn_1280, zn_2400, zn_4816, zn_14400, zn_90000, q_main, m_main, q_ro, q_al, q_kd]
  refine ⟨fun h => ?_, fun h => hR0 (zb_0.mp h)⟩
  obtain ⟨i, hi, rfl⟩ := isn_t (by omega) (zb_n0 h)
  have hR := hR1 i hi rfl
  unfold y_lkq at hR
  rw [nI_clamp (show i < 2 ^ 31 by omega)]
  have z6 : ∀ {a : Int32}, 5 < a ↔ ¬ a < 6 := fun {a} => by rw [Int32.not_lt]; exact gt_lt1 (n := 5) (by decide)
  have z26 : ∀ {a : Int32}, a ≤ 25 ↔ a < 26 := fun {a} => by
    exact ⟨fun h => Int32.not_le.mp (fun z => absurd ((gt_lt1 (n := 25) (by decide)).mpr z) (Int32.not_lt.mpr h)), fun h => Int32.not_lt.mp (fun z => absurd ((gt_lt1 (n := 25) (by decide)).mp z) (Int32.not_le.mpr h))⟩
  have V : vp_in (nI i) 300 := vp_in_nI (by omega) (by decide)
  -- numbers
  have num : ¬ q = 0 → ¬ q = 1 → ¬ (¬ q < 2 ∧ q < 6) → (q < 10 → Rt (some (.inl (.int 0))) (mp y)) ∧ (¬ q < 10 → (q ≤ 25 → B_Mo_look_78 0 0 Rt (zG X) [some (.inr (30, 0, 0)), some (.inl (.int (nI i))), some (.inl (.int q)), none, none, none] [] (mp y) 0 0) ∧ (¬ q ≤ 25 → Rt (some (.inl (.int 0))) (mp y))) := by
    intro n0 n1 n2
    rw [if_neg n0, if_neg n1, if_neg n2] at hR
    refine ⟨fun h1 => ?_, fun h1 => ⟨fun h2 => ?_, fun h2 => ?_⟩⟩
    · rw [if_neg (fun z => z.1 h1)] at hR; exact hR
    · have h26 := z26.mp h2
      obtain ⟨c, hc1, hc2, rfl⟩ := nI_btw (a := 10) (b := 26) (by decide) (by decide) h1 h26
      rw [if_pos ⟨h1, h26⟩] at hR
      have e10 : nI c - 10 = nI (c - 10) := pk_sub (a := c) (b := 10) hc1
      have ed : nI (c - 10) / 4 = nI ((c - 10) / 4) := pk_div (d := 4) (by omega) (by decide) (by decide)
      have em : nI (c - 10) - nI ((c - 10) / 4) * 4 = nI ((c - 10) % 4) := by
        have := pk_rem (a := c - 10) (d := 4) (by omega) (by decide) (by decide)
        rw [show nI 4 = 4 from rfl, ed] at this
        exact this
      rw [e10, nI_clamp (by omega)] at hR
      have ht := hJ.ts (4 * i + (c - 10) / 4) (by omega)
      simp only [B_Mo_look_0, B_Mo_look_10, B_Mo_look_21, B_Mo_look_39, B_Mo_look_40, B_Mo_look_41, B_Mo_look_64, B_Mo_look_76, B_Mo_look_78, B_Mo_look_110, B_Mo_look_129, B_Mo_look_130, B_Mo_look_153, B_Mo_look_154, co_Mo_isWish, co_Mo_look, i_ic, i_lc, i_nul, i_il, i_ll, i_al, i_is, i_as, i_ls, i_inc, i_iadd, i_isub, i_imul, i_iand, i_ior, i_ixor, i_idiv, i_irem, i_ishl, i_ishr, i_ladd, i_lsub, i_land, i_lor, i_i2l, i_lushr, i_lshl, i_lshr, i_lcmp, i_dup, i_pop, i_dx1, i_dup2, i_ifeq, i_ifne, i_iflt, i_ifge, i_ifgt, i_ifle, i_iceq, i_icne, i_iclt, i_icge, i_icgt, i_icle, i_ifn, i_gf, i_pf, i_ial, i_bal, i_lal, i_aal, i_ias, i_las, i_bas, i_aas, i_alen, i_newa, i_new, i_anew, i_cast, i_oi, i_call, i_callV, i_callV2, i_callI, i_iret, i_zret, i_lret, i_vret, i_aret, i_mmx, i_mmn, i_gsE, i_aceq, i_no, i_acq, i_sw, zsw, zlg, zls, znl, zfg, zcs, zsp, zrc, zisn, zft, zc1, zto, Value.category, List.set_cons_zero, List.set_cons_succ, List.length_cons, List.length_nil, Option.toList, List.append, List.nil_append, List.cons_append, true_and, and_true, Nat.add_zero, Nat.zero_le, Nat.zero_add, Nat.le_refl, Nat.reduceAdd, Nat.reduceLeDiff, co0, z0, zn_0, zn_1, zn_2, zn_3, zn_4, zn_5, zn_8, zn_12, zn_24, zn_121, zn_144, zn_256, zn_300, zn_600, zn_720, zn_1204, zn_1280, zn_2400, zn_4816, zn_14400, zn_90000, q_main, m_main, q_kd, q_mn, q_nu]
      rw [e10, ed, em]
      simp only [ar_4, ar_5, ar_12, ar_300, ar_600, ar_1200, ar_10, nI_add, ar_1, ar_2, ar_3, ar_2m]
      rw [nI_clamp (by omega), nI_clamp (by omega)]
      have VT : vp_in (nI (4 * i + (c - 10) / 4)) 1204 := vp_in_nI (by omega) (by decide)
      have VN : vp_in (nI (4 * (4 * i + (c - 10) / 4) + (c - 10) % 4)) 4816 := vp_in_nI (by omega) (by decide)
      have L : ∀ n, n ≤ 4 → (nI n ≤ nI ((c - 10) % 4) ↔ n ≤ (c - 10) % 4) := fun n hn => nI_leI (by omega) (by omega)
      unfold y_tn at hR
      refine ⟨by decide, by decide, VT, fun k0 => ⟨VT, fun k3 => ⟨fun h5 => ?_, fun h5 => ⟨VN, ?_⟩⟩, fun k3 => ⟨VT, fun h5 => ?_, fun h5 => ⟨VN, ?_⟩⟩⟩, fun k0 => ⟨fun h5 => ?_, fun h5 => ⟨VN, ?_⟩⟩⟩
      · rw [if_neg k0, if_neg k3, if_neg (fun z => by have := (L 2 (by decide)).mp h5; omega)] at hR; exact hR
      · rw [if_neg k0, if_neg k3, if_pos (Nat.lt_of_not_le (fun z => h5 ((L 2 (by decide)).mpr z)))] at hR; exact hR
      · rw [if_neg k0, if_pos k3, if_neg (fun z => by have := (L _ ht.2).mp h5; omega)] at hR; exact hR
      · rw [if_neg k0, if_pos k3, if_pos (Nat.lt_of_not_le (fun z => h5 ((L _ ht.2).mpr z)))] at hR; exact hR
      · rw [if_pos k0, if_neg (Nat.not_lt_zero _)] at hR; exact hR
      · exact absurd ((L 0 (by decide)).mpr (Nat.zero_le _)) h5
    · rw [if_neg (fun z => h2 (z26.mpr z.2))] at hR; exact hR
  refine ⟨fun n0 => ⟨fun n1 => ⟨fun lt2 => ?_, fun ge2 => ⟨fun gt5 => ?_, fun le5 => ?_⟩⟩, fun h1 => ⟨V, fun h2 => ?_, fun h2 => ?_⟩⟩, fun h0 => ⟨V, ?_⟩⟩
  · exact num n0 n1 (fun z => z.1 lt2)
  · exact num n0 n1 (fun z => z6.mp gt5 z.2)
  · have h6 : q < 6 := Int32.not_le.mp (fun z => le5 (z6.mpr (Int32.not_lt.mpr z)))
    obtain ⟨c, hc1, hc2, rfl⟩ := nI_btw (a := 2) (b := 6) (by decide) (by decide) ge2 h6
    rw [if_neg n0, if_neg n1, if_pos ⟨ge2, h6⟩] at hR
    have e2 : nI c - 2 = nI (c - 2) := pk_sub (a := c) (b := 2) hc1
    rw [e2, nI_clamp (by omega)] at hR
    simp only [ar_4, ar_5, ar_12, ar_300, ar_600, ar_1200, ar_10, nI_add, ar_1, ar_2, ar_3, ar_2m]
    have e3 : nI (4 * i + c) - 2 = nI (4 * i + (c - 2)) := by
      have := pk_sub (a := 4 * i + c) (b := 2) (by omega)
      rw [show 4 * i + (c - 2) = 4 * i + c - 2 by omega]
      exact this
    rw [e3, nI_clamp (by omega)]
    exact ⟨vp_in_nI (by omega) (by decide), hR⟩
  · rw [if_neg n0, if_pos h1, zb_0.mp h2] at hR; exact hR
  · rw [if_neg n0, if_pos h1, zb_n0 h2] at hR; exact hR
  · rw [if_pos h0] at hR; exact hR
/-! count -/
def lc_v (y : zMS) (u : Nat) : Nat → Nat
  | 0 => 0
  | n + 1 => lc_v y u n + (if y_lk y (12 * u + n) = true then 1 else 0)
def lc_u (y : zMS) : Nat → Nat
  | 0 => 0
  | n + 1 => lc_u y n + lc_v y n n
noncomputable def y_cnt (y : zMS) (w : Int32) : Int32 := if w = 0 then nI (y_dk y) else if w = 1 then nI (y_nr y) else if w = 2 then nI (y_nw y) else if w = 3 then nI (y_nn y) else if w = 4 then nI (y_uw y (y_nn y)) else if w = 5 then nI (y_ms y) else if w = 6 then nI (y_mo y (-2) (y_ms y)) else if w = 7 then y_po y else if w = 8 then y_ne y else if w = 9 then y_td y else if w = 10 then nI (lc_u y (y_dk y)) else -1
def T_Mo_count (As : List zAV) (M : zMp) (Rt : Option zAV → zMp → Prop) : Prop := ∃ y w, As = [.inr (30, 0, 0), .inl (.int w)] ∧ M = mp y ∧ Jv y ∧ Rt (some (.inl (.int (y_cnt y w)))) M
abbrev co_Mo_count := co0
theorem dX7_count_0 : decode cX7_count 0 = .ok (.iconst 0, 1) := by decide +kernel
theorem dX7_count_1 : decode cX7_count 1 = .ok (.istore_n 2, 1) := by decide +kernel
theorem dX7_count_2 : decode cX7_count 2 = .ok (.iconst 0, 1) := by decide +kernel
theorem dX7_count_3 : decode cX7_count 3 = .ok (.istore_n 3, 1) := by decide +kernel
theorem dX7_count_4 : decode cX7_count 4 = .ok (.iload_n 3, 1) := by decide +kernel
theorem dX7_count_5 : decode cX7_count 5 = .ok (.aload_n 0, 1) := by decide +kernel
theorem dX7_count_6 : decode cX7_count 6 = .ok (.getfield 129, 3) := by decide +kernel
theorem dX7_count_9 : decode cX7_count 9 = .ok (.if_icmp .ge 28, 3) := by decide +kernel
theorem dX7_count_12 : decode cX7_count 12 = .ok (.iload_n 2, 1) := by decide +kernel
theorem dX7_count_13 : decode cX7_count 13 = .ok (.aload_n 0, 1) := by decide +kernel
theorem dX7_count_14 : decode cX7_count 14 = .ok (.getfield 63, 3) := by decide +kernel
theorem dX7_count_17 : decode cX7_count 17 = .ok (.iload_n 3, 1) := by decide +kernel
theorem dX7_count_18 : decode cX7_count 18 = .ok (.iaload, 1) := by decide +kernel
theorem dX7_count_19 : decode cX7_count 19 = .ok (.bipush (-2), 2) := by decide +kernel
theorem dX7_count_21 : decode cX7_count 21 = .ok (.if_icmp .ne 7, 3) := by decide +kernel
theorem dX7_count_24 : decode cX7_count 24 = .ok (.iconst 1, 1) := by decide +kernel
theorem dX7_count_25 : decode cX7_count 25 = .ok (.goto 4, 3) := by decide +kernel
theorem dX7_count_28 : decode cX7_count 28 = .ok (.iconst 0, 1) := by decide +kernel
theorem dX7_count_29 : decode cX7_count 29 = .ok (.iadd, 1) := by decide +kernel
theorem dX7_count_30 : decode cX7_count 30 = .ok (.istore_n 2, 1) := by decide +kernel
theorem dX7_count_31 : decode cX7_count 31 = .ok (.iinc 3 1, 3) := by decide +kernel
theorem dX7_count_34 : decode cX7_count 34 = .ok (.goto (-30), 3) := by decide +kernel
theorem dX7_count_37 : decode cX7_count 37 = .ok (.iload_n 1, 1) := by decide +kernel
theorem dX7_count_38 : decode cX7_count 38 = .ok (.tableswitch 162 0 10 #[58, 63, 68, 73, 78, 83, 88, 90, 95, 100, 105], 58) := by decide +kernel
theorem dX7_count_96 : decode cX7_count 96 = .ok (.aload_n 0, 1) := by decide +kernel
theorem dX7_count_97 : decode cX7_count 97 = .ok (.getfield 91, 3) := by decide +kernel
theorem dX7_count_100 : decode cX7_count 100 = .ok (.ireturn, 1) := by decide +kernel
theorem dX7_count_101 : decode cX7_count 101 = .ok (.aload_n 0, 1) := by decide +kernel
theorem dX7_count_102 : decode cX7_count 102 = .ok (.getfield 161, 3) := by decide +kernel
theorem dX7_count_105 : decode cX7_count 105 = .ok (.ireturn, 1) := by decide +kernel
theorem dX7_count_106 : decode cX7_count 106 = .ok (.aload_n 0, 1) := by decide +kernel
theorem dX7_count_107 : decode cX7_count 107 = .ok (.getfield 95, 3) := by decide +kernel
theorem dX7_count_110 : decode cX7_count 110 = .ok (.ireturn, 1) := by decide +kernel
theorem dX7_count_111 : decode cX7_count 111 = .ok (.aload_n 0, 1) := by decide +kernel
theorem dX7_count_112 : decode cX7_count 112 = .ok (.getfield 191, 3) := by decide +kernel
theorem dX7_count_115 : decode cX7_count 115 = .ok (.ireturn, 1) := by decide +kernel
theorem dX7_count_116 : decode cX7_count 116 = .ok (.aload_n 0, 1) := by decide +kernel
theorem dX7_count_117 : decode cX7_count 117 = .ok (.invokevirtual 198, 3) := by decide +kernel
theorem dX7_count_120 : decode cX7_count 120 = .ok (.ireturn, 1) := by decide +kernel
theorem dX7_count_121 : decode cX7_count 121 = .ok (.aload_n 0, 1) := by decide +kernel
theorem dX7_count_122 : decode cX7_count 122 = .ok (.getfield 129, 3) := by decide +kernel
theorem dX7_count_125 : decode cX7_count 125 = .ok (.ireturn, 1) := by decide +kernel
theorem dX7_count_126 : decode cX7_count 126 = .ok (.iload_n 2, 1) := by decide +kernel
theorem dX7_count_127 : decode cX7_count 127 = .ok (.ireturn, 1) := by decide +kernel
theorem dX7_count_128 : decode cX7_count 128 = .ok (.aload_n 0, 1) := by decide +kernel
theorem dX7_count_129 : decode cX7_count 129 = .ok (.getfield 181, 3) := by decide +kernel
theorem dX7_count_132 : decode cX7_count 132 = .ok (.ireturn, 1) := by decide +kernel
theorem dX7_count_133 : decode cX7_count 133 = .ok (.aload_n 0, 1) := by decide +kernel
theorem dX7_count_134 : decode cX7_count 134 = .ok (.getfield 184, 3) := by decide +kernel
theorem dX7_count_137 : decode cX7_count 137 = .ok (.ireturn, 1) := by decide +kernel
theorem dX7_count_138 : decode cX7_count 138 = .ok (.aload_n 0, 1) := by decide +kernel
theorem dX7_count_139 : decode cX7_count 139 = .ok (.getfield 206, 3) := by decide +kernel
theorem dX7_count_142 : decode cX7_count 142 = .ok (.ireturn, 1) := by decide +kernel
theorem dX7_count_143 : decode cX7_count 143 = .ok (.iconst 0, 1) := by decide +kernel
theorem dX7_count_144 : decode cX7_count 144 = .ok (.istore_n 3, 1) := by decide +kernel
theorem dX7_count_145 : decode cX7_count 145 = .ok (.iconst 0, 1) := by decide +kernel
theorem dX7_count_146 : decode cX7_count 146 = .ok (.istore 4, 2) := by decide +kernel
theorem dX7_count_148 : decode cX7_count 148 = .ok (.iload 4, 2) := by decide +kernel
theorem dX7_count_150 : decode cX7_count 150 = .ok (.aload_n 0, 1) := by decide +kernel
theorem dX7_count_151 : decode cX7_count 151 = .ok (.getfield 91, 3) := by decide +kernel
theorem dX7_count_154 : decode cX7_count 154 = .ok (.if_icmp .ge 44, 3) := by decide +kernel
theorem dX7_count_157 : decode cX7_count 157 = .ok (.iconst 0, 1) := by decide +kernel
theorem dX7_count_158 : decode cX7_count 158 = .ok (.istore 5, 2) := by decide +kernel
theorem dX7_count_160 : decode cX7_count 160 = .ok (.iload 5, 2) := by decide +kernel
theorem dX7_count_162 : decode cX7_count 162 = .ok (.iload 4, 2) := by decide +kernel
theorem dX7_count_164 : decode cX7_count 164 = .ok (.if_icmp .ge 28, 3) := by decide +kernel
theorem dX7_count_167 : decode cX7_count 167 = .ok (.iload_n 3, 1) := by decide +kernel
theorem dX7_count_168 : decode cX7_count 168 = .ok (.aload_n 0, 1) := by decide +kernel
theorem dX7_count_169 : decode cX7_count 169 = .ok (.iload 4, 2) := by decide +kernel
theorem dX7_count_171 : decode cX7_count 171 = .ok (.iload 5, 2) := by decide +kernel
theorem dX7_count_173 : decode cX7_count 173 = .ok (.invokevirtual 119, 3) := by decide +kernel
theorem dX7_count_176 : decode cX7_count 176 = .ok (.ifCond .eq 7, 3) := by decide +kernel
theorem dX7_count_179 : decode cX7_count 179 = .ok (.iconst 1, 1) := by decide +kernel
theorem dX7_count_180 : decode cX7_count 180 = .ok (.goto 4, 3) := by decide +kernel
theorem dX7_count_183 : decode cX7_count 183 = .ok (.iconst 0, 1) := by decide +kernel
theorem dX7_count_184 : decode cX7_count 184 = .ok (.iadd, 1) := by decide +kernel
theorem dX7_count_185 : decode cX7_count 185 = .ok (.istore_n 3, 1) := by decide +kernel
theorem dX7_count_186 : decode cX7_count 186 = .ok (.iinc 5 1, 3) := by decide +kernel
theorem dX7_count_189 : decode cX7_count 189 = .ok (.goto (-29), 3) := by decide +kernel
theorem dX7_count_192 : decode cX7_count 192 = .ok (.iinc 4 1, 3) := by decide +kernel
theorem dX7_count_195 : decode cX7_count 195 = .ok (.goto (-47), 3) := by decide +kernel
theorem dX7_count_198 : decode cX7_count 198 = .ok (.iload_n 3, 1) := by decide +kernel
theorem dX7_count_199 : decode cX7_count 199 = .ok (.ireturn, 1) := by decide +kernel
theorem dX7_count_200 : decode cX7_count 200 = .ok (.iconst (-1), 1) := by decide +kernel
theorem dX7_count_201 : decode cX7_count 201 = .ok (.ireturn, 1) := by decide +kernel
def B_Mo_count_200 (mc ms : Nat) (Rt : Option zAV → zMp → Prop) (g : Nat → zKT) : zKT :=
  (i_ic (-1) (i_iret mc ms Rt))
set_option maxRecDepth 20000 in
theorem s_Mo_count_200 {X : zMa} {mc ms : Nat} {Rt : Option zAV → zMp → Prop} (hC : zCx X RX7 cX7_count 2 45 mc ms (some .int) false Rt) (hN : zNL X = 6) : zLe (B_Mo_count_200 mc ms Rt (zG X)) (zG X 200) :=
  (sd_iconst hC (by decide) dX7_count_200 ((sd_iret hC dX7_count_201)))
def B_Mo_count_198 (mc ms : Nat) (Rt : Option zAV → zMp → Prop) (g : Nat → zKT) : zKT :=
  (i_il 3 (i_iret mc ms Rt))
set_option maxRecDepth 20000 in
theorem s_Mo_count_198 {X : zMa} {mc ms : Nat} {Rt : Option zAV → zMp → Prop} (hC : zCx X RX7 cX7_count 2 45 mc ms (some .int) false Rt) (hN : zNL X = 6) : zLe (B_Mo_count_198 mc ms Rt (zG X)) (zG X 198) :=
  (sd_il_n hC rfl dX7_count_198 ((sd_iret hC dX7_count_199)))
def B_Mo_count_192 (mc ms : Nat) (Rt : Option zAV → zMp → Prop) (g : Nat → zKT) : zKT :=
  (i_inc 4 1 (g 148))
set_option maxRecDepth 20000 in
theorem s_Mo_count_192 {X : zMa} {mc ms : Nat} {Rt : Option zAV → zMp → Prop} (hC : zCx X RX7 cX7_count 2 45 mc ms (some .int) false Rt) (hN : zNL X = 6) : zLe (B_Mo_count_192 mc ms Rt (zG X)) (zG X 192) :=
  (sd_inc hC (by decide) (by rw [hN]; decide) dX7_count_192 ((sd_goto hC (tgt := 148) (by decide) dX7_count_195 (zLe_rfl))))
def B_Mo_count_184 (mc ms : Nat) (Rt : Option zAV → zMp → Prop) (g : Nat → zKT) : zKT :=
  (i_iadd (i_is 3 (i_inc 5 1 (g 160))))
set_option maxRecDepth 20000 in
theorem s_Mo_count_184 {X : zMa} {mc ms : Nat} {Rt : Option zAV → zMp → Prop} (hC : zCx X RX7 cX7_count 2 45 mc ms (some .int) false Rt) (hN : zNL X = 6) : zLe (B_Mo_count_184 mc ms Rt (zG X)) (zG X 184) :=
  (sd_iadd hC dX7_count_184 ((sd_is_n hC rfl (by rw [hN]; decide) dX7_count_185 ((sd_inc hC (by decide) (by rw [hN]; decide) dX7_count_186 ((sd_goto hC (tgt := 160) (by decide) dX7_count_189 (zLe_rfl))))))))
def B_Mo_count_183 (mc ms : Nat) (Rt : Option zAV → zMp → Prop) (g : Nat → zKT) : zKT :=
  (i_ic 0 (B_Mo_count_184 mc ms Rt g))
set_option maxRecDepth 20000 in
theorem s_Mo_count_183 {X : zMa} {mc ms : Nat} {Rt : Option zAV → zMp → Prop} (hC : zCx X RX7 cX7_count 2 45 mc ms (some .int) false Rt) (hN : zNL X = 6) : zLe (B_Mo_count_183 mc ms Rt (zG X)) (zG X 183) :=
  (sd_iconst hC (by decide) dX7_count_183 (s_Mo_count_184 hC hN))
def B_Mo_count_160 (mc ms : Nat) (Rt : Option zAV → zMp → Prop) (g : Nat → zKT) : zKT :=
  (i_il 5 (i_il 4 (i_icge (B_Mo_count_192 mc ms Rt g) (i_il 3 (i_al 0 (i_il 4 (i_il 5 (i_callV mc ms 8 3 T_Mo_isLinked co_Mo_isLinked (i_ifeq (B_Mo_count_183 mc ms Rt g) (i_ic 1 (B_Mo_count_184 mc ms Rt g)))))))))))
set_option maxRecDepth 20000 in
theorem s_Mo_count_160 {X : zMa} {mc ms : Nat} {Rt : Option zAV → zMp → Prop} (hC : zCx X RX7 cX7_count 2 45 mc ms (some .int) false Rt) (hN : zNL X = 6) : zLe (B_Mo_count_160 mc ms Rt (zG X)) (zG X 160) :=
  (sd_il hC dX7_count_160 ((sd_il hC dX7_count_162 ((sd_icge hC (tgt := 192) (by decide) dX7_count_164 (s_Mo_count_192 hC hN) ((sd_il_n hC rfl dX7_count_167 ((sd_al_n hC rfl dX7_count_168 ((sd_il hC dX7_count_169 ((sd_il hC dX7_count_171 ((sd_cV hC c_Mo_isLinked yv_Mo_isLinked (ci := 8) rfl rfl ml_Mo_119 (by decide) (by decide) dX7_count_173 ((sd_ifeq hC (tgt := 183) (by decide) dX7_count_176 (s_Mo_count_183 hC hN) ((sd_iconst hC (by decide) dX7_count_179 ((sd_goto hC (tgt := 184) (by decide) dX7_count_180 (s_Mo_count_184 hC hN))))))))))))))))))))))
def B_Mo_count_148 (mc ms : Nat) (Rt : Option zAV → zMp → Prop) (g : Nat → zKT) : zKT :=
  (i_il 4 (i_al 0 (i_gf 8 0 (i_icge (B_Mo_count_198 mc ms Rt g) (i_ic 0 (i_is 5 (g 160)))))))
set_option maxRecDepth 20000 in
theorem s_Mo_count_148 {X : zMa} {mc ms : Nat} {Rt : Option zAV → zMp → Prop} (hC : zCx X RX7 cX7_count 2 45 mc ms (some .int) false Rt) (hN : zNL X = 6) : zLe (B_Mo_count_148 mc ms Rt (zG X)) (zG X 148) :=
  (sd_il hC dX7_count_148 ((sd_al_n hC rfl dX7_count_150 ((sd_gf hC (ci := 8) (fk := 0) rfl wi_Mo (by decide) fl_Mo_91 (Or.inl rfl) dX7_count_151 ((sd_icge hC (tgt := 198) (by decide) dX7_count_154 (s_Mo_count_198 hC hN) ((sd_iconst hC (by decide) dX7_count_157 ((sd_is hC (by rw [hN]; decide) dX7_count_158 (zLe_rfl))))))))))))
def B_Mo_count_143 (mc ms : Nat) (Rt : Option zAV → zMp → Prop) (g : Nat → zKT) : zKT :=
  (i_ic 0 (i_is 3 (i_ic 0 (i_is 4 (g 148)))))
set_option maxRecDepth 20000 in
theorem s_Mo_count_143 {X : zMa} {mc ms : Nat} {Rt : Option zAV → zMp → Prop} (hC : zCx X RX7 cX7_count 2 45 mc ms (some .int) false Rt) (hN : zNL X = 6) : zLe (B_Mo_count_143 mc ms Rt (zG X)) (zG X 143) :=
  (sd_iconst hC (by decide) dX7_count_143 ((sd_is_n hC rfl (by rw [hN]; decide) dX7_count_144 ((sd_iconst hC (by decide) dX7_count_145 ((sd_is hC (by rw [hN]; decide) dX7_count_146 (zLe_rfl))))))))
def B_Mo_count_138 (mc ms : Nat) (Rt : Option zAV → zMp → Prop) (g : Nat → zKT) : zKT :=
  (i_al 0 (i_gf 8 26 (i_iret mc ms Rt)))
set_option maxRecDepth 20000 in
theorem s_Mo_count_138 {X : zMa} {mc ms : Nat} {Rt : Option zAV → zMp → Prop} (hC : zCx X RX7 cX7_count 2 45 mc ms (some .int) false Rt) (hN : zNL X = 6) : zLe (B_Mo_count_138 mc ms Rt (zG X)) (zG X 138) :=
  (sd_al_n hC rfl dX7_count_138 ((sd_gf hC (ci := 8) (fk := 26) rfl wi_Mo (by decide) fl_Mo_206 (Or.inl rfl) dX7_count_139 ((sd_iret hC dX7_count_142)))))
def B_Mo_count_133 (mc ms : Nat) (Rt : Option zAV → zMp → Prop) (g : Nat → zKT) : zKT :=
  (i_al 0 (i_gf 8 25 (i_iret mc ms Rt)))
set_option maxRecDepth 20000 in
theorem s_Mo_count_133 {X : zMa} {mc ms : Nat} {Rt : Option zAV → zMp → Prop} (hC : zCx X RX7 cX7_count 2 45 mc ms (some .int) false Rt) (hN : zNL X = 6) : zLe (B_Mo_count_133 mc ms Rt (zG X)) (zG X 133) :=
  (sd_al_n hC rfl dX7_count_133 ((sd_gf hC (ci := 8) (fk := 25) rfl wi_Mo (by decide) fl_Mo_184 (Or.inl rfl) dX7_count_134 ((sd_iret hC dX7_count_137)))))
def B_Mo_count_128 (mc ms : Nat) (Rt : Option zAV → zMp → Prop) (g : Nat → zKT) : zKT :=
  (i_al 0 (i_gf 8 24 (i_iret mc ms Rt)))
set_option maxRecDepth 20000 in
theorem s_Mo_count_128 {X : zMa} {mc ms : Nat} {Rt : Option zAV → zMp → Prop} (hC : zCx X RX7 cX7_count 2 45 mc ms (some .int) false Rt) (hN : zNL X = 6) : zLe (B_Mo_count_128 mc ms Rt (zG X)) (zG X 128) :=
  (sd_al_n hC rfl dX7_count_128 ((sd_gf hC (ci := 8) (fk := 24) rfl wi_Mo (by decide) fl_Mo_181 (Or.inl rfl) dX7_count_129 ((sd_iret hC dX7_count_132)))))
def B_Mo_count_126 (mc ms : Nat) (Rt : Option zAV → zMp → Prop) (g : Nat → zKT) : zKT :=
  (i_il 2 (i_iret mc ms Rt))
set_option maxRecDepth 20000 in
theorem s_Mo_count_126 {X : zMa} {mc ms : Nat} {Rt : Option zAV → zMp → Prop} (hC : zCx X RX7 cX7_count 2 45 mc ms (some .int) false Rt) (hN : zNL X = 6) : zLe (B_Mo_count_126 mc ms Rt (zG X)) (zG X 126) :=
  (sd_il_n hC rfl dX7_count_126 ((sd_iret hC dX7_count_127)))
def B_Mo_count_121 (mc ms : Nat) (Rt : Option zAV → zMp → Prop) (g : Nat → zKT) : zKT :=
  (i_al 0 (i_gf 8 19 (i_iret mc ms Rt)))
set_option maxRecDepth 20000 in
theorem s_Mo_count_121 {X : zMa} {mc ms : Nat} {Rt : Option zAV → zMp → Prop} (hC : zCx X RX7 cX7_count 2 45 mc ms (some .int) false Rt) (hN : zNL X = 6) : zLe (B_Mo_count_121 mc ms Rt (zG X)) (zG X 121) :=
  (sd_al_n hC rfl dX7_count_121 ((sd_gf hC (ci := 8) (fk := 19) rfl wi_Mo (by decide) fl_Mo_129 (Or.inl rfl) dX7_count_122 ((sd_iret hC dX7_count_125)))))
def B_Mo_count_116 (mc ms : Nat) (Rt : Option zAV → zMp → Prop) (g : Nat → zKT) : zKT :=
  (i_al 0 (i_callV mc ms 8 1 T_Mo_underWay co_Mo_underWay (i_iret mc ms Rt)))
set_option maxRecDepth 20000 in
theorem s_Mo_count_116 {X : zMa} {mc ms : Nat} {Rt : Option zAV → zMp → Prop} (hC : zCx X RX7 cX7_count 2 45 mc ms (some .int) false Rt) (hN : zNL X = 6) : zLe (B_Mo_count_116 mc ms Rt (zG X)) (zG X 116) :=
  (sd_al_n hC rfl dX7_count_116 ((sd_cV hC c_Mo_underWay yv_Mo_underWay (ci := 8) rfl rfl ml_Mo_198 (by decide) (by decide) dX7_count_117 ((sd_iret hC dX7_count_120)))))
def B_Mo_count_111 (mc ms : Nat) (Rt : Option zAV → zMp → Prop) (g : Nat → zKT) : zKT :=
  (i_al 0 (i_gf 8 3 (i_iret mc ms Rt)))
set_option maxRecDepth 20000 in
theorem s_Mo_count_111 {X : zMa} {mc ms : Nat} {Rt : Option zAV → zMp → Prop} (hC : zCx X RX7 cX7_count 2 45 mc ms (some .int) false Rt) (hN : zNL X = 6) : zLe (B_Mo_count_111 mc ms Rt (zG X)) (zG X 111) :=
  (sd_al_n hC rfl dX7_count_111 ((sd_gf hC (ci := 8) (fk := 3) rfl wi_Mo (by decide) fl_Mo_191 (Or.inl rfl) dX7_count_112 ((sd_iret hC dX7_count_115)))))
def B_Mo_count_106 (mc ms : Nat) (Rt : Option zAV → zMp → Prop) (g : Nat → zKT) : zKT :=
  (i_al 0 (i_gf 8 2 (i_iret mc ms Rt)))
set_option maxRecDepth 20000 in
theorem s_Mo_count_106 {X : zMa} {mc ms : Nat} {Rt : Option zAV → zMp → Prop} (hC : zCx X RX7 cX7_count 2 45 mc ms (some .int) false Rt) (hN : zNL X = 6) : zLe (B_Mo_count_106 mc ms Rt (zG X)) (zG X 106) :=
  (sd_al_n hC rfl dX7_count_106 ((sd_gf hC (ci := 8) (fk := 2) rfl wi_Mo (by decide) fl_Mo_95 (Or.inl rfl) dX7_count_107 ((sd_iret hC dX7_count_110)))))
def B_Mo_count_101 (mc ms : Nat) (Rt : Option zAV → zMp → Prop) (g : Nat → zKT) : zKT :=
  (i_al 0 (i_gf 8 1 (i_iret mc ms Rt)))
set_option maxRecDepth 20000 in
theorem s_Mo_count_101 {X : zMa} {mc ms : Nat} {Rt : Option zAV → zMp → Prop} (hC : zCx X RX7 cX7_count 2 45 mc ms (some .int) false Rt) (hN : zNL X = 6) : zLe (B_Mo_count_101 mc ms Rt (zG X)) (zG X 101) :=
  (sd_al_n hC rfl dX7_count_101 ((sd_gf hC (ci := 8) (fk := 1) rfl wi_Mo (by decide) fl_Mo_161 (Or.inl rfl) dX7_count_102 ((sd_iret hC dX7_count_105)))))
def B_Mo_count_96 (mc ms : Nat) (Rt : Option zAV → zMp → Prop) (g : Nat → zKT) : zKT :=
  (i_al 0 (i_gf 8 0 (i_iret mc ms Rt)))
set_option maxRecDepth 20000 in
theorem s_Mo_count_96 {X : zMa} {mc ms : Nat} {Rt : Option zAV → zMp → Prop} (hC : zCx X RX7 cX7_count 2 45 mc ms (some .int) false Rt) (hN : zNL X = 6) : zLe (B_Mo_count_96 mc ms Rt (zG X)) (zG X 96) :=
  (sd_al_n hC rfl dX7_count_96 ((sd_gf hC (ci := 8) (fk := 0) rfl wi_Mo (by decide) fl_Mo_91 (Or.inl rfl) dX7_count_97 ((sd_iret hC dX7_count_100)))))
def B_Mo_count_37 (mc ms : Nat) (Rt : Option zAV → zMp → Prop) (g : Nat → zKT) : zKT :=
  (i_il 1 (i_sw [(0, (B_Mo_count_96 mc ms Rt g)), (1, (B_Mo_count_101 mc ms Rt g)), (2, (B_Mo_count_106 mc ms Rt g)), (3, (B_Mo_count_111 mc ms Rt g)), (4, (B_Mo_count_116 mc ms Rt g)), (5, (B_Mo_count_121 mc ms Rt g)), (6, (B_Mo_count_126 mc ms Rt g)), (7, (B_Mo_count_128 mc ms Rt g)), (8, (B_Mo_count_133 mc ms Rt g)), (9, (B_Mo_count_138 mc ms Rt g)), (10, (B_Mo_count_143 mc ms Rt g))] (B_Mo_count_200 mc ms Rt g)))
set_option maxRecDepth 20000 in
theorem s_Mo_count_37 {X : zMa} {mc ms : Nat} {Rt : Option zAV → zMp → Prop} (hC : zCx X RX7 cX7_count 2 45 mc ms (some .int) false Rt) (hN : zNL X = 6) : zLe (B_Mo_count_37 mc ms Rt (zG X)) (zG X 37) :=
  (sd_il_n hC rfl dX7_count_37 ((sd_tsw hC dX7_count_38 (s_Mo_count_200 hC hN) [96, 101, 106, 111, 116, 121, 126, 128, 133, 138, 143] rfl (by intro q hq; simp only [List.zip_cons_cons, List.zip_nil_right, List.mem_cons, List.not_mem_nil, or_false] at hq; rcases hq with rfl | rfl | rfl | rfl | rfl | rfl | rfl | rfl | rfl | rfl | rfl; exact ⟨(show zjT 38 162 0 10 #[58, 63, 68, 73, 78, 83, 88, 90, 95, 100, 105] 0 96 from Or.inr ⟨by decide, by decide, _, rfl, by decide⟩), s_Mo_count_96 hC hN⟩; exact ⟨(show zjT 38 162 0 10 #[58, 63, 68, 73, 78, 83, 88, 90, 95, 100, 105] 1 101 from Or.inr ⟨by decide, by decide, _, rfl, by decide⟩), s_Mo_count_101 hC hN⟩; exact ⟨(show zjT 38 162 0 10 #[58, 63, 68, 73, 78, 83, 88, 90, 95, 100, 105] 2 106 from Or.inr ⟨by decide, by decide, _, rfl, by decide⟩), s_Mo_count_106 hC hN⟩; exact ⟨(show zjT 38 162 0 10 #[58, 63, 68, 73, 78, 83, 88, 90, 95, 100, 105] 3 111 from Or.inr ⟨by decide, by decide, _, rfl, by decide⟩), s_Mo_count_111 hC hN⟩; exact ⟨(show zjT 38 162 0 10 #[58, 63, 68, 73, 78, 83, 88, 90, 95, 100, 105] 4 116 from Or.inr ⟨by decide, by decide, _, rfl, by decide⟩), s_Mo_count_116 hC hN⟩; exact ⟨(show zjT 38 162 0 10 #[58, 63, 68, 73, 78, 83, 88, 90, 95, 100, 105] 5 121 from Or.inr ⟨by decide, by decide, _, rfl, by decide⟩), s_Mo_count_121 hC hN⟩; exact ⟨(show zjT 38 162 0 10 #[58, 63, 68, 73, 78, 83, 88, 90, 95, 100, 105] 6 126 from Or.inr ⟨by decide, by decide, _, rfl, by decide⟩), s_Mo_count_126 hC hN⟩; exact ⟨(show zjT 38 162 0 10 #[58, 63, 68, 73, 78, 83, 88, 90, 95, 100, 105] 7 128 from Or.inr ⟨by decide, by decide, _, rfl, by decide⟩), s_Mo_count_128 hC hN⟩; exact ⟨(show zjT 38 162 0 10 #[58, 63, 68, 73, 78, 83, 88, 90, 95, 100, 105] 8 133 from Or.inr ⟨by decide, by decide, _, rfl, by decide⟩), s_Mo_count_133 hC hN⟩; exact ⟨(show zjT 38 162 0 10 #[58, 63, 68, 73, 78, 83, 88, 90, 95, 100, 105] 9 138 from Or.inr ⟨by decide, by decide, _, rfl, by decide⟩), s_Mo_count_138 hC hN⟩; exact ⟨(show zjT 38 162 0 10 #[58, 63, 68, 73, 78, 83, 88, 90, 95, 100, 105] 10 143 from Or.inr ⟨by decide, by decide, _, rfl, by decide⟩), s_Mo_count_143 hC hN⟩) (by intro x hx; simp only [List.forall_mem_cons, List.not_mem_nil, false_imp_iff, implies_true, and_true] at hx; refine Or.inl ⟨?_, by decide⟩; obtain ⟨n0, n1, n2, n3, n4, n5, n6, n7, n8, n9, n10⟩ := hx; have n0 := zne_i (z := 0) n0 (by decide); have n1 := zne_i (z := 1) n1 (by decide); have n2 := zne_i (z := 2) n2 (by decide); have n3 := zne_i (z := 3) n3 (by decide); have n4 := zne_i (z := 4) n4 (by decide); have n5 := zne_i (z := 5) n5 (by decide); have n6 := zne_i (z := 6) n6 (by decide); have n7 := zne_i (z := 7) n7 (by decide); have n8 := zne_i (z := 8) n8 (by decide); have n9 := zne_i (z := 9) n9 (by decide); have n10 := zne_i (z := 10) n10 (by decide); omega))))
def B_Mo_count_29 (mc ms : Nat) (Rt : Option zAV → zMp → Prop) (g : Nat → zKT) : zKT :=
  (i_iadd (i_is 2 (i_inc 3 1 (g 4))))
set_option maxRecDepth 20000 in
theorem s_Mo_count_29 {X : zMa} {mc ms : Nat} {Rt : Option zAV → zMp → Prop} (hC : zCx X RX7 cX7_count 2 45 mc ms (some .int) false Rt) (hN : zNL X = 6) : zLe (B_Mo_count_29 mc ms Rt (zG X)) (zG X 29) :=
  (sd_iadd hC dX7_count_29 ((sd_is_n hC rfl (by rw [hN]; decide) dX7_count_30 ((sd_inc hC (by decide) (by rw [hN]; decide) dX7_count_31 ((sd_goto hC (tgt := 4) (by decide) dX7_count_34 (zLe_rfl))))))))
def B_Mo_count_28 (mc ms : Nat) (Rt : Option zAV → zMp → Prop) (g : Nat → zKT) : zKT :=
  (i_ic 0 (B_Mo_count_29 mc ms Rt g))
set_option maxRecDepth 20000 in
theorem s_Mo_count_28 {X : zMa} {mc ms : Nat} {Rt : Option zAV → zMp → Prop} (hC : zCx X RX7 cX7_count 2 45 mc ms (some .int) false Rt) (hN : zNL X = 6) : zLe (B_Mo_count_28 mc ms Rt (zG X)) (zG X 28) :=
  (sd_iconst hC (by decide) dX7_count_28 (s_Mo_count_29 hC hN))
def B_Mo_count_4 (mc ms : Nat) (Rt : Option zAV → zMp → Prop) (g : Nat → zKT) : zKT :=
  (i_il 3 (i_al 0 (i_gf 8 19 (i_icge (B_Mo_count_37 mc ms Rt g) (i_il 2 (i_al 0 (i_gf 8 22 (i_il 3 (i_ial (i_ic (-2) (i_icne (B_Mo_count_28 mc ms Rt g) (i_ic 1 (B_Mo_count_29 mc ms Rt g)))))))))))))
set_option maxRecDepth 20000 in
theorem s_Mo_count_4 {X : zMa} {mc ms : Nat} {Rt : Option zAV → zMp → Prop} (hC : zCx X RX7 cX7_count 2 45 mc ms (some .int) false Rt) (hN : zNL X = 6) : zLe (B_Mo_count_4 mc ms Rt (zG X)) (zG X 4) :=
  (sd_il_n hC rfl dX7_count_4 ((sd_al_n hC rfl dX7_count_5 ((sd_gf hC (ci := 8) (fk := 19) rfl wi_Mo (by decide) fl_Mo_129 (Or.inl rfl) dX7_count_6 ((sd_icge hC (tgt := 37) (by decide) dX7_count_9 (s_Mo_count_37 hC hN) ((sd_il_n hC rfl dX7_count_12 ((sd_al_n hC rfl dX7_count_13 ((sd_gf hC (ci := 8) (fk := 22) rfl wi_Mo (by decide) fl_Mo_63 (Or.inl rfl) dX7_count_14 ((sd_il_n hC rfl dX7_count_17 ((sd_ial hC dX7_count_18 ((sd_bipush hC (by decide) dX7_count_19 ((sd_icne hC (tgt := 28) (by decide) dX7_count_21 (s_Mo_count_28 hC hN) ((sd_iconst hC (by decide) dX7_count_24 ((sd_goto hC (tgt := 29) (by decide) dX7_count_25 (s_Mo_count_29 hC hN))))))))))))))))))))))))))
def B_Mo_count_0 (mc ms : Nat) (Rt : Option zAV → zMp → Prop) (g : Nat → zKT) : zKT :=
  (i_ic 0 (i_is 2 (i_ic 0 (i_is 3 (g 4)))))
set_option maxRecDepth 20000 in
theorem s_Mo_count_0 {X : zMa} {mc ms : Nat} {Rt : Option zAV → zMp → Prop} (hC : zCx X RX7 cX7_count 2 45 mc ms (some .int) false Rt) (hN : zNL X = 6) : zLe (B_Mo_count_0 mc ms Rt (zG X)) (zG X 0) :=
  (sd_iconst hC (by decide) dX7_count_0 ((sd_is_n hC rfl (by rw [hN]; decide) dX7_count_1 ((sd_iconst hC (by decide) dX7_count_2 ((sd_is_n hC rfl (by rw [hN]; decide) dX7_count_3 (zLe_rfl))))))))
theorem c_Mo_count (l : Launch) : zCT l yX7_count cX7_count 6 (some .int) 2 45 T_Mo_count co_Mo_count := by
  intro As M Rt hT
  obtain ⟨y, w, rfl, rfl, hJ, hR⟩ := hT
  have hcp := hJ.cp
  have hdk := hJ.dk
  refine zMet_of false (by decide +kernel) (fun h => by first | rfl | cases h) (Nat.le_of_ble_eq_true rfl) (fun X hN hC => ?_)
  show zG X 0 [some (.inr (30, 0, 0)), some (.inl (.int w)), none, none, none, none] [] (mp y) 0 0
  have lnk : Rt (some (.inl (.int (nI (lc_u y (y_dk y)))))) (mp y) → ∀ (t : Int32) (j5 : Option zAV), zG X 148 [some (.inr (30, 0, 0)), some (.inl (.int w)), some (.inl (.int t)), some (.inl (.int (nI 0))), some (.inl (.int (nI 0))), j5] [] (mp y) 0 0 := by
    intro hr t j5
    refine upto (N := y_dk y) (P := fun u => ∀ j5 : Option zAV, zG X 148 [some (.inr (30, 0, 0)), some (.inl (.int w)), some (.inl (.int t)), some (.inl (.int (nI (lc_u y u)))), some (.inl (.int (nI u))), j5] [] (mp y) 0 0) (fun u hu ih j5 => ?_) (fun j5 => ?_) 0 (Nat.zero_le _) j5
    · have inner := upto (N := u) (P := fun v => zG X 160 [some (.inr (30, 0, 0)), some (.inl (.int w)), some (.inl (.int t)), some (.inl (.int (nI (lc_u y u + lc_v y u v)))), some (.inl (.int (nI u))), some (.inl (.int (nI v)))] [] (mp y) 0 0) (fun v hv ihv => by
        refine s_Mo_count_160 hC hN _ _ _ _ _ ?_
        simp only [B_Mo_count_0, B_Mo_count_4, B_Mo_count_28, B_Mo_count_29, B_Mo_count_37, B_Mo_count_96, B_Mo_count_101, B_Mo_count_106, B_Mo_count_111, B_Mo_count_116, B_Mo_count_121, B_Mo_count_126, B_Mo_count_128, B_Mo_count_133, B_Mo_count_138, B_Mo_count_143, B_Mo_count_148, B_Mo_count_160, B_Mo_count_183, B_Mo_count_184, B_Mo_count_192, B_Mo_count_198, B_Mo_count_200, co_Mo_count, co_Mo_isLinked, co_Mo_underWay, i_ic, i_lc, i_nul, i_il, i_ll, i_al, i_is, i_as, i_ls, i_inc, i_iadd, i_isub, i_imul, i_iand, i_ior, i_ixor, i_idiv, i_irem, i_ishl, i_ishr, i_ladd, i_lsub, i_land, i_lor, i_i2l, i_lushr, i_lshl, i_lshr, i_lcmp, i_dup, i_pop, i_dx1, i_dup2, i_ifeq, i_ifne, i_iflt, i_ifge, i_ifgt, i_ifle, i_iceq, i_icne, i_iclt, i_icge, i_icgt, i_icle, i_ifn, i_gf, i_pf, i_ial, i_bal, i_lal, i_aal, i_ias, i_las, i_bas, i_aas, i_alen, i_newa, i_new, i_anew, i_cast, i_oi, i_call, i_callV, i_callV2, i_callI, i_iret, i_zret, i_lret, i_vret, i_aret, i_mmx, i_mmn, i_gsE, i_aceq, i_no, i_acq, i_sw, zsw, zlg, zls, znl, zfg, zcs, zsp, zrc, zisn, zft, zc1, zto, Value.category, List.set_cons_zero, List.set_cons_succ, List.length_cons, List.length_nil, Option.toList, List.append, List.nil_append, List.cons_append, true_and, and_true, Nat.add_zero, Nat.zero_le, Nat.zero_add, Nat.le_refl, Nat.reduceAdd, Nat.reduceLeDiff, co0, z0, zn_0, zn_1, zn_2, zn_3, zn_4, zn_5, zn_8, zn_12, zn_24, zn_121, zn_144, zn_256, zn_300, zn_600, zn_720, zn_1204, zn_1280, zn_2400, zn_4816, zn_14400, zn_90000, q_main, m_main, ar_4, ar_5, ar_12, ar_300, ar_600, ar_1200, ar_10, nI_add, ar_1, ar_2, ar_3, ar_2m]
        refine ⟨fun h => absurd ((nI_leI (by omega) (by omega)).mp h) (by omega), fun _ => ⟨y, u, v, rfl, rfl, by omega, by omega, ?_⟩⟩
        simp only [B_Mo_count_0, B_Mo_count_4, B_Mo_count_28, B_Mo_count_29, B_Mo_count_37, B_Mo_count_96, B_Mo_count_101, B_Mo_count_106, B_Mo_count_111, B_Mo_count_116, B_Mo_count_121, B_Mo_count_126, B_Mo_count_128, B_Mo_count_133, B_Mo_count_138, B_Mo_count_143, B_Mo_count_148, B_Mo_count_160, B_Mo_count_183, B_Mo_count_184, B_Mo_count_192, B_Mo_count_198, B_Mo_count_200, co_Mo_count, co_Mo_isLinked, co_Mo_underWay, i_ic, i_lc, i_nul, i_il, i_ll, i_al, i_is, i_as, i_ls, i_inc, i_iadd, i_isub, i_imul, i_iand, i_ior, i_ixor, i_idiv, i_irem, i_ishl, i_ishr, i_ladd, i_lsub, i_land, i_lor, i_i2l, i_lushr, i_lshl, i_lshr, i_lcmp, i_dup, i_pop, i_dx1, i_dup2, i_ifeq, i_ifne, i_iflt, i_ifge, i_ifgt, i_ifle, i_iceq, i_icne, i_iclt, i_icge, i_icgt, i_icle, i_ifn, i_gf, i_pf, i_ial, i_bal, i_lal, i_aal, i_ias, i_las, i_bas, i_aas, i_alen, i_newa, i_new, i_anew, i_cast, i_oi, i_call, i_callV, i_callV2, i_callI, i_iret, i_zret, i_lret, i_vret, i_aret, i_mmx, i_mmn, i_gsE, i_aceq, i_no, i_acq, i_sw, zsw, zlg, zls, znl, zfg, zcs, zsp, zrc, zisn, zft, zc1, zto, Value.category, List.set_cons_zero, List.set_cons_succ, List.length_cons, List.length_nil, Option.toList, List.append, List.nil_append, List.cons_append, true_and, and_true, Nat.add_zero, Nat.zero_le, Nat.zero_add, Nat.le_refl, Nat.reduceAdd, Nat.reduceLeDiff, co0, z0, zn_0, zn_1, zn_2, zn_3, zn_4, zn_5, zn_8, zn_12, zn_24, zn_121, zn_144, zn_256, zn_300, zn_600, zn_720, zn_1204, zn_1280, zn_2400, zn_4816, zn_14400, zn_90000, q_main, m_main, ar_4, ar_5, ar_12, ar_300, ar_600, ar_1200, ar_10, nI_add, ar_1, ar_2, ar_3, ar_2m]
        simp only [lc_v] at ihv
        refine ⟨fun h => ?_, fun h => ?_⟩
        · rw [if_neg (by rw [zb_0.mp h]; decide)] at ihv
          rw [Int32.add_zero]
          exact ihv
        · rw [if_pos (zb_n0 h)] at ihv
          exact ihv) (by
        refine s_Mo_count_160 hC hN _ _ _ _ _ ?_
        simp only [B_Mo_count_0, B_Mo_count_4, B_Mo_count_28, B_Mo_count_29, B_Mo_count_37, B_Mo_count_96, B_Mo_count_101, B_Mo_count_106, B_Mo_count_111, B_Mo_count_116, B_Mo_count_121, B_Mo_count_126, B_Mo_count_128, B_Mo_count_133, B_Mo_count_138, B_Mo_count_143, B_Mo_count_148, B_Mo_count_160, B_Mo_count_183, B_Mo_count_184, B_Mo_count_192, B_Mo_count_198, B_Mo_count_200, co_Mo_count, co_Mo_isLinked, co_Mo_underWay, i_ic, i_lc, i_nul, i_il, i_ll, i_al, i_is, i_as, i_ls, i_inc, i_iadd, i_isub, i_imul, i_iand, i_ior, i_ixor, i_idiv, i_irem, i_ishl, i_ishr, i_ladd, i_lsub, i_land, i_lor, i_i2l, i_lushr, i_lshl, i_lshr, i_lcmp, i_dup, i_pop, i_dx1, i_dup2, i_ifeq, i_ifne, i_iflt, i_ifge, i_ifgt, i_ifle, i_iceq, i_icne, i_iclt, i_icge, i_icgt, i_icle, i_ifn, i_gf, i_pf, i_ial, i_bal, i_lal, i_aal, i_ias, i_las, i_bas, i_aas, i_alen, i_newa, i_new, i_anew, i_cast, i_oi, i_call, i_callV, i_callV2, i_callI, i_iret, i_zret, i_lret, i_vret, i_aret, i_mmx, i_mmn, i_gsE, i_aceq, i_no, i_acq, i_sw, zsw, zlg, zls, znl, zfg, zcs, zsp, zrc, zisn, zft, zc1, zto, Value.category, List.set_cons_zero, List.set_cons_succ, List.length_cons, List.length_nil, Option.toList, List.append, List.nil_append, List.cons_append, true_and, and_true, Nat.add_zero, Nat.zero_le, Nat.zero_add, Nat.le_refl, Nat.reduceAdd, Nat.reduceLeDiff, co0, z0, zn_0, zn_1, zn_2, zn_3, zn_4, zn_5, zn_8, zn_12, zn_24, zn_121, zn_144, zn_256, zn_300, zn_600, zn_720, zn_1204, zn_1280, zn_2400, zn_4816, zn_14400, zn_90000, q_main, m_main, ar_4, ar_5, ar_12, ar_300, ar_600, ar_1200, ar_10, nI_add, ar_1, ar_2, ar_3, ar_2m]
        exact ⟨fun _ => ih _, fun h => absurd ((nI_leI (by omega) (by omega)).mpr (Nat.le_refl u)) h⟩) 0 (Nat.zero_le _)
      refine s_Mo_count_148 hC hN _ _ _ _ _ ?_
      simp only [B_Mo_count_0, B_Mo_count_4, B_Mo_count_28, B_Mo_count_29, B_Mo_count_37, B_Mo_count_96, B_Mo_count_101, B_Mo_count_106, B_Mo_count_111, B_Mo_count_116, B_Mo_count_121, B_Mo_count_126, B_Mo_count_128, B_Mo_count_133, B_Mo_count_138, B_Mo_count_143, B_Mo_count_148, B_Mo_count_160, B_Mo_count_183, B_Mo_count_184, B_Mo_count_192, B_Mo_count_198, B_Mo_count_200, co_Mo_count, co_Mo_isLinked, co_Mo_underWay, i_ic, i_lc, i_nul, i_il, i_ll, i_al, i_is, i_as, i_ls, i_inc, i_iadd, i_isub, i_imul, i_iand, i_ior, i_ixor, i_idiv, i_irem, i_ishl, i_ishr, i_ladd, i_lsub, i_land, i_lor, i_i2l, i_lushr, i_lshl, i_lshr, i_lcmp, i_dup, i_pop, i_dx1, i_dup2, i_ifeq, i_ifne, i_iflt, i_ifge, i_ifgt, i_ifle, i_iceq, i_icne, i_iclt, i_icge, i_icgt, i_icle, i_ifn, i_gf, i_pf, i_ial, i_bal, i_lal, i_aal, i_ias, i_las, i_bas, i_aas, i_alen, i_newa, i_new, i_anew, i_cast, i_oi, i_call, i_callV, i_callV2, i_callI, i_iret, i_zret, i_lret, i_vret, i_aret, i_mmx, i_mmn, i_gsE, i_aceq, i_no, i_acq, i_sw, zsw, zlg, zls, znl, zfg, zcs, zsp, zrc, zisn, zft, zc1, zto, Value.category, List.set_cons_zero, List.set_cons_succ, List.length_cons, List.length_nil, Option.toList, List.append, List.nil_append, List.cons_append, true_and, and_true, Nat.add_zero, Nat.zero_le, Nat.zero_add, Nat.le_refl, Nat.reduceAdd, Nat.reduceLeDiff, co0, z0, zn_0, zn_1, zn_2, zn_3, zn_4, zn_5, zn_8, zn_12, zn_24, zn_121, zn_144, zn_256, zn_300, zn_600, zn_720, zn_1204, zn_1280, zn_2400, zn_4816, zn_14400, zn_90000, q_main, m_main]
      exact ⟨fun h => absurd ((zK (K := y_dk y) (by omega) (n := u) (by omega)).2.1.mp h) (by omega), fun _ => inner⟩
    · refine s_Mo_count_148 hC hN _ _ _ _ _ ?_
      simp only [B_Mo_count_0, B_Mo_count_4, B_Mo_count_28, B_Mo_count_29, B_Mo_count_37, B_Mo_count_96, B_Mo_count_101, B_Mo_count_106, B_Mo_count_111, B_Mo_count_116, B_Mo_count_121, B_Mo_count_126, B_Mo_count_128, B_Mo_count_133, B_Mo_count_138, B_Mo_count_143, B_Mo_count_148, B_Mo_count_160, B_Mo_count_183, B_Mo_count_184, B_Mo_count_192, B_Mo_count_198, B_Mo_count_200, co_Mo_count, co_Mo_isLinked, co_Mo_underWay, i_ic, i_lc, i_nul, i_il, i_ll, i_al, i_is, i_as, i_ls, i_inc, i_iadd, i_isub, i_imul, i_iand, i_ior, i_ixor, i_idiv, i_irem, i_ishl, i_ishr, i_ladd, i_lsub, i_land, i_lor, i_i2l, i_lushr, i_lshl, i_lshr, i_lcmp, i_dup, i_pop, i_dx1, i_dup2, i_ifeq, i_ifne, i_iflt, i_ifge, i_ifgt, i_ifle, i_iceq, i_icne, i_iclt, i_icge, i_icgt, i_icle, i_ifn, i_gf, i_pf, i_ial, i_bal, i_lal, i_aal, i_ias, i_las, i_bas, i_aas, i_alen, i_newa, i_new, i_anew, i_cast, i_oi, i_call, i_callV, i_callV2, i_callI, i_iret, i_zret, i_lret, i_vret, i_aret, i_mmx, i_mmn, i_gsE, i_aceq, i_no, i_acq, i_sw, zsw, zlg, zls, znl, zfg, zcs, zsp, zrc, zisn, zft, zc1, zto, Value.category, List.set_cons_zero, List.set_cons_succ, List.length_cons, List.length_nil, Option.toList, List.append, List.nil_append, List.cons_append, true_and, and_true, Nat.add_zero, Nat.zero_le, Nat.zero_add, Nat.le_refl, Nat.reduceAdd, Nat.reduceLeDiff, co0, z0, zn_0, zn_1, zn_2, zn_3, zn_4, zn_5, zn_8, zn_12, zn_24, zn_121, zn_144, zn_256, zn_300, zn_600, zn_720, zn_1204, zn_1280, zn_2400, zn_4816, zn_14400, zn_90000, q_main, m_main]
      exact ⟨fun _ => hr, fun h => absurd ((zK (K := y_dk y) (by omega) (n := y_dk y) (by omega)).2.1.mpr (Nat.le_refl _)) h⟩
  have loop := upto (N := y_ms y) (P := fun n => zG X 4 [some (.inr (30, 0, 0)), some (.inl (.int w)), some (.inl (.int (nI (y_mo y (-2) n)))), some (.inl (.int (nI n))), none, none] [] (mp y) 0 0) (fun n hn ih => by
    refine s_Mo_count_4 hC hN _ _ _ _ _ ?_
    simp only [B_Mo_count_0, B_Mo_count_4, B_Mo_count_28, B_Mo_count_29, B_Mo_count_96, B_Mo_count_101, B_Mo_count_106, B_Mo_count_111, B_Mo_count_116, B_Mo_count_121, B_Mo_count_126, B_Mo_count_128, B_Mo_count_133, B_Mo_count_138, B_Mo_count_143, B_Mo_count_148, B_Mo_count_160, B_Mo_count_183, B_Mo_count_184, B_Mo_count_192, B_Mo_count_198, B_Mo_count_200, co_Mo_count, co_Mo_isLinked, co_Mo_underWay, i_ic, i_lc, i_nul, i_il, i_ll, i_al, i_is, i_as, i_ls, i_inc, i_iadd, i_isub, i_imul, i_iand, i_ior, i_ixor, i_idiv, i_irem, i_ishl, i_ishr, i_ladd, i_lsub, i_land, i_lor, i_i2l, i_lushr, i_lshl, i_lshr, i_lcmp, i_dup, i_pop, i_dx1, i_dup2, i_ifeq, i_ifne, i_iflt, i_ifge, i_ifgt, i_ifle, i_iceq, i_icne, i_iclt, i_icge, i_icgt, i_icle, i_ifn, i_gf, i_pf, i_ial, i_bal, i_lal, i_aal, i_ias, i_las, i_bas, i_aas, i_alen, i_newa, i_new, i_anew, i_cast, i_oi, i_call, i_callV, i_callV2, i_callI, i_iret, i_zret, i_lret, i_vret, i_aret, i_mmx, i_mmn, i_gsE, i_aceq, i_no, i_acq, i_sw, zsw, zlg, zls, znl, zfg, zcs, zsp, zrc, zisn, zft, zc1, zto, Value.category, List.set_cons_zero, List.set_cons_succ, List.length_cons, List.length_nil, Option.toList, List.append, List.nil_append, List.cons_append, true_and, and_true, Nat.add_zero, Nat.zero_le, Nat.zero_add, Nat.le_refl, Nat.reduceAdd, Nat.reduceLeDiff, co0, z0, zn_0, zn_1, zn_2, zn_3, zn_4, zn_5, zn_8, zn_12, zn_24, zn_121, zn_144, zn_256, zn_300, zn_600, zn_720, zn_1204, zn_1280, zn_2400, zn_4816, zn_14400, zn_90000, q_main, m_main, q_wh, ar_4, ar_5, ar_12, ar_300, ar_600, ar_1200, ar_10, nI_add, ar_1, ar_2, ar_3, ar_2m]
    rw [nI_clamp (by omega)]
    simp only [y_mo] at ih
    refine ⟨fun h => absurd ((zK (K := y_ms y) (by omega) (n := n) (by omega)).2.1.mp h) (by omega), fun _ => ⟨vp_in_nI (by omega) (by omega), fun h => ?_, fun h => ?_⟩⟩
    · rw [if_neg h] at ih
      rw [Int32.add_zero]
      exact ih
    · rw [if_pos h] at ih
      exact ih) (by
    refine s_Mo_count_4 hC hN _ _ _ _ _ ?_
    simp only [B_Mo_count_0, B_Mo_count_4, B_Mo_count_28, B_Mo_count_29, B_Mo_count_37, B_Mo_count_96, B_Mo_count_101, B_Mo_count_106, B_Mo_count_111, B_Mo_count_116, B_Mo_count_121, B_Mo_count_126, B_Mo_count_128, B_Mo_count_133, B_Mo_count_138, B_Mo_count_143, B_Mo_count_148, B_Mo_count_160, B_Mo_count_183, B_Mo_count_184, B_Mo_count_192, B_Mo_count_198, B_Mo_count_200, co_Mo_count, co_Mo_isLinked, co_Mo_underWay, i_ic, i_lc, i_nul, i_il, i_ll, i_al, i_is, i_as, i_ls, i_inc, i_iadd, i_isub, i_imul, i_iand, i_ior, i_ixor, i_idiv, i_irem, i_ishl, i_ishr, i_ladd, i_lsub, i_land, i_lor, i_i2l, i_lushr, i_lshl, i_lshr, i_lcmp, i_dup, i_pop, i_dx1, i_dup2, i_ifeq, i_ifne, i_iflt, i_ifge, i_ifgt, i_ifle, i_iceq, i_icne, i_iclt, i_icge, i_icgt, i_icle, i_ifn, i_gf, i_pf, i_ial, i_bal, i_lal, i_aal, i_ias, i_las, i_bas, i_aas, i_alen, i_newa, i_new, i_anew, i_cast, i_oi, i_call, i_callV, i_callV2, i_callI, i_iret, i_zret, i_lret, i_vret, i_aret, i_mmx, i_mmn, i_gsE, i_aceq, i_no, i_acq, i_sw, zsw, zlg, zls, znl, zfg, zcs, zsp, zrc, zisn, zft, zc1, zto, Value.category, List.set_cons_zero, List.set_cons_succ, List.length_cons, List.length_nil, Option.toList, List.append, List.nil_append, List.cons_append, true_and, and_true, Nat.add_zero, Nat.zero_le, Nat.zero_add, Nat.le_refl, Nat.reduceAdd, Nat.reduceLeDiff, co0, z0, zn_0, zn_1, zn_2, zn_3, zn_4, zn_5, zn_8, zn_12, zn_24, zn_121, zn_144, zn_256, zn_300, zn_600, zn_720, zn_1204, zn_1280, zn_2400, zn_4816, zn_14400, zn_90000, q_main, m_main]
    refine ⟨fun _ => ?_, fun h => absurd ((zK (K := y_ms y) (by omega) (n := y_ms y) (by omega)).2.1.mpr (Nat.le_refl _)) h⟩
    unfold y_cnt at hR
    refine ⟨fun h => ?_, fun n0 => ⟨fun h => ?_, fun n1 => ⟨fun h => ?_, fun n2 => ⟨fun h => ?_, fun n3 => ⟨fun h => ⟨y, rfl, rfl, hJ, ?_⟩, fun n4 => ⟨fun h => ?_, fun n5 => ⟨fun h => ?_, fun n6 => ⟨fun h => ?_, fun n7 => ⟨fun h => ?_, fun n8 => ⟨fun h => ?_, fun n9 => ⟨fun h => ?_, fun n10 => ?_⟩⟩⟩⟩⟩⟩⟩⟩⟩⟩⟩
    all_goals (simp only [*, if_true, if_false] at hR)
    all_goals first | exact hR | exact lnk hR _ _ | (rw [h] at lnk; rw [h]; exact lnk hR _ _)) 0 (Nat.zero_le _)
  refine s_Mo_count_0 hC hN _ _ _ _ _ ?_
  simp only [B_Mo_count_0, B_Mo_count_4, B_Mo_count_28, B_Mo_count_29, B_Mo_count_37, B_Mo_count_96, B_Mo_count_101, B_Mo_count_106, B_Mo_count_111, B_Mo_count_116, B_Mo_count_121, B_Mo_count_126, B_Mo_count_128, B_Mo_count_133, B_Mo_count_138, B_Mo_count_143, B_Mo_count_148, B_Mo_count_160, B_Mo_count_183, B_Mo_count_184, B_Mo_count_192, B_Mo_count_198, B_Mo_count_200, co_Mo_count, co_Mo_isLinked, co_Mo_underWay, i_ic, i_lc, i_nul, i_il, i_ll, i_al, i_is, i_as, i_ls, i_inc, i_iadd, i_isub, i_imul, i_iand, i_ior, i_ixor, i_idiv, i_irem, i_ishl, i_ishr, i_ladd, i_lsub, i_land, i_lor, i_i2l, i_lushr, i_lshl, i_lshr, i_lcmp, i_dup, i_pop, i_dx1, i_dup2, i_ifeq, i_ifne, i_iflt, i_ifge, i_ifgt, i_ifle, i_iceq, i_icne, i_iclt, i_icge, i_icgt, i_icle, i_ifn, i_gf, i_pf, i_ial, i_bal, i_lal, i_aal, i_ias, i_las, i_bas, i_aas, i_alen, i_newa, i_new, i_anew, i_cast, i_oi, i_call, i_callV, i_callV2, i_callI, i_iret, i_zret, i_lret, i_vret, i_aret, i_mmx, i_mmn, i_gsE, i_aceq, i_no, i_acq, i_sw, zsw, zlg, zls, znl, zfg, zcs, zsp, zrc, zisn, zft, zc1, zto, Value.category, List.set_cons_zero, List.set_cons_succ, List.length_cons, List.length_nil, Option.toList, List.append, List.nil_append, List.cons_append, true_and, and_true, Nat.add_zero, Nat.zero_le, Nat.zero_add, Nat.le_refl, Nat.reduceAdd, Nat.reduceLeDiff, co0, z0, zn_0, zn_1, zn_2, zn_3, zn_4, zn_5, zn_8, zn_12, zn_24, zn_121, zn_144, zn_256, zn_300, zn_600, zn_720, zn_1204, zn_1280, zn_2400, zn_4816, zn_14400, zn_90000]
  exact loop
