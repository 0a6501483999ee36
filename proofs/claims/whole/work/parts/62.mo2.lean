/-! the reference: spans, holds, isCovered -/
def sN (kd : Int32) (mn : Nat) (g : Nat → Int32) : Nat := if kd = 0 then 1 else if kd = 1 then 1 else if kd = 2 then (if (-2147483648 : Int64) < (g 0).toInt64 then 1 else 0) + (if (g 1).toInt64 < (2147483647 : Int64) then 1 else 0) else mn
def sL (kd : Int32) (g : Nat → Int32) (i : Nat) : Int64 := if kd = 0 then -2147483648 else if kd = 1 then (g 0).toInt64 else if kd = 2 then (if i = 0 ∧ (-2147483648 : Int64) < (g 0).toInt64 then -2147483648 else (g 1).toInt64 + 1) else (g i).toInt64
def sH (kd : Int32) (g : Nat → Int32) (i : Nat) : Int64 := if kd = 0 then 2147483647 else if kd = 1 then (g 1).toInt64 else if kd = 2 then (if i = 0 ∧ (-2147483648 : Int64) < (g 0).toInt64 then (g 0).toInt64 - 1 else 2147483647) else (g i).toInt64
theorem sN_le {kd : Int32} {mn : Nat} {g : Nat → Int32} (h : mn ≤ 4) : sN kd mn g ≤ 4 := by
  unfold sN
  split
  · decide
  · split
    · decide
    · split
      · split <;> split <;> decide
      · exact h
/-- the scratch arrays of spans -/
def ys (y : zMS) (lo hi : Nat → Int64) : zMS := v_hi (v_lo y lo) hi
def sp_ok (y : zMS) (t a : Nat) (lo hi : Nat → Int64) : Prop := (∀ i, i < sN (y_kd y t) (y_mn y t) (y_g y t) → lo (a + i) = sL (y_kd y t) (y_g y t) i ∧ hi (a + i) = sH (y_kd y t) (y_g y t) i) ∧ ∀ j, (j < a ∨ a + 4 ≤ j) → lo j = y_lo y j ∧ hi j = y_hi y j
def T_Mo_spans (As : List zAV) (M : zMp) (Rt : Option zAV → zMp → Prop) : Prop := ∃ y t a, As = [.inr (30, 0, 0), .inl (.int (nI t)), .inl (.int (nI a))] ∧ M = mp y ∧ t < 1204 ∧ a + 4 ≤ 8 ∧ y_tok y t ∧ ∀ lo hi, sp_ok y t a lo hi → Rt (some (.inl (.int (nI (sN (y_kd y t) (y_mn y t) (y_g y t)))))) (mp (ys y lo hi))
abbrev co_Mo_spans := co0
theorem dX7_spans_0 : decode cX7_spans 0 = .ok (.ldc2_w 108, 3) := by decide +kernel
theorem dX7_spans_3 : decode cX7_spans 3 = .ok (.lstore_n 3, 1) := by decide +kernel
theorem dX7_spans_4 : decode cX7_spans 4 = .ok (.ldc2_w 110, 3) := by decide +kernel
theorem dX7_spans_7 : decode cX7_spans 7 = .ok (.lstore 5, 2) := by decide +kernel
theorem dX7_spans_9 : decode cX7_spans 9 = .ok (.aload_n 0, 1) := by decide +kernel
theorem dX7_spans_10 : decode cX7_spans 10 = .ok (.getfield 29, 3) := by decide +kernel
theorem dX7_spans_13 : decode cX7_spans 13 = .ok (.iconst 4, 1) := by decide +kernel
theorem dX7_spans_14 : decode cX7_spans 14 = .ok (.iload_n 1, 1) := by decide +kernel
theorem dX7_spans_15 : decode cX7_spans 15 = .ok (.imul, 1) := by decide +kernel
theorem dX7_spans_16 : decode cX7_spans 16 = .ok (.iaload, 1) := by decide +kernel
theorem dX7_spans_17 : decode cX7_spans 17 = .ok (.i2l, 1) := by decide +kernel
theorem dX7_spans_18 : decode cX7_spans 18 = .ok (.lstore 7, 2) := by decide +kernel
theorem dX7_spans_20 : decode cX7_spans 20 = .ok (.aload_n 0, 1) := by decide +kernel
theorem dX7_spans_21 : decode cX7_spans 21 = .ok (.getfield 29, 3) := by decide +kernel
theorem dX7_spans_24 : decode cX7_spans 24 = .ok (.iconst 4, 1) := by decide +kernel
theorem dX7_spans_25 : decode cX7_spans 25 = .ok (.iload_n 1, 1) := by decide +kernel
theorem dX7_spans_26 : decode cX7_spans 26 = .ok (.imul, 1) := by decide +kernel
theorem dX7_spans_27 : decode cX7_spans 27 = .ok (.iconst 1, 1) := by decide +kernel
theorem dX7_spans_28 : decode cX7_spans 28 = .ok (.iadd, 1) := by decide +kernel
theorem dX7_spans_29 : decode cX7_spans 29 = .ok (.iaload, 1) := by decide +kernel
theorem dX7_spans_30 : decode cX7_spans 30 = .ok (.i2l, 1) := by decide +kernel
theorem dX7_spans_31 : decode cX7_spans 31 = .ok (.lstore 9, 2) := by decide +kernel
theorem dX7_spans_33 : decode cX7_spans 33 = .ok (.iconst 0, 1) := by decide +kernel
theorem dX7_spans_34 : decode cX7_spans 34 = .ok (.istore 11, 2) := by decide +kernel
theorem dX7_spans_36 : decode cX7_spans 36 = .ok (.aload_n 0, 1) := by decide +kernel
theorem dX7_spans_37 : decode cX7_spans 37 = .ok (.getfield 23, 3) := by decide +kernel
theorem dX7_spans_40 : decode cX7_spans 40 = .ok (.iload_n 1, 1) := by decide +kernel
theorem dX7_spans_41 : decode cX7_spans 41 = .ok (.iaload, 1) := by decide +kernel
theorem dX7_spans_42 : decode cX7_spans 42 = .ok (.tableswitch 126 0 2 #[26, 43, 61], 26) := by decide +kernel
theorem dX7_spans_68 : decode cX7_spans 68 = .ok (.aload_n 0, 1) := by decide +kernel
theorem dX7_spans_69 : decode cX7_spans 69 = .ok (.getfield 69, 3) := by decide +kernel
theorem dX7_spans_72 : decode cX7_spans 72 = .ok (.iload_n 2, 1) := by decide +kernel
theorem dX7_spans_73 : decode cX7_spans 73 = .ok (.lload_n 3, 1) := by decide +kernel
theorem dX7_spans_74 : decode cX7_spans 74 = .ok (.lastore, 1) := by decide +kernel
theorem dX7_spans_75 : decode cX7_spans 75 = .ok (.aload_n 0, 1) := by decide +kernel
theorem dX7_spans_76 : decode cX7_spans 76 = .ok (.getfield 72, 3) := by decide +kernel
theorem dX7_spans_79 : decode cX7_spans 79 = .ok (.iload_n 2, 1) := by decide +kernel
theorem dX7_spans_80 : decode cX7_spans 80 = .ok (.lload 5, 2) := by decide +kernel
theorem dX7_spans_82 : decode cX7_spans 82 = .ok (.lastore, 1) := by decide +kernel
theorem dX7_spans_83 : decode cX7_spans 83 = .ok (.iconst 1, 1) := by decide +kernel
theorem dX7_spans_84 : decode cX7_spans 84 = .ok (.ireturn, 1) := by decide +kernel
theorem dX7_spans_85 : decode cX7_spans 85 = .ok (.aload_n 0, 1) := by decide +kernel
theorem dX7_spans_86 : decode cX7_spans 86 = .ok (.getfield 69, 3) := by decide +kernel
theorem dX7_spans_89 : decode cX7_spans 89 = .ok (.iload_n 2, 1) := by decide +kernel
theorem dX7_spans_90 : decode cX7_spans 90 = .ok (.lload 7, 2) := by decide +kernel
theorem dX7_spans_92 : decode cX7_spans 92 = .ok (.lastore, 1) := by decide +kernel
theorem dX7_spans_93 : decode cX7_spans 93 = .ok (.aload_n 0, 1) := by decide +kernel
theorem dX7_spans_94 : decode cX7_spans 94 = .ok (.getfield 72, 3) := by decide +kernel
theorem dX7_spans_97 : decode cX7_spans 97 = .ok (.iload_n 2, 1) := by decide +kernel
theorem dX7_spans_98 : decode cX7_spans 98 = .ok (.lload 9, 2) := by decide +kernel
theorem dX7_spans_100 : decode cX7_spans 100 = .ok (.lastore, 1) := by decide +kernel
theorem dX7_spans_101 : decode cX7_spans 101 = .ok (.iconst 1, 1) := by decide +kernel
theorem dX7_spans_102 : decode cX7_spans 102 = .ok (.ireturn, 1) := by decide +kernel
theorem dX7_spans_103 : decode cX7_spans 103 = .ok (.lload 7, 2) := by decide +kernel
theorem dX7_spans_105 : decode cX7_spans 105 = .ok (.lload_n 3, 1) := by decide +kernel
theorem dX7_spans_106 : decode cX7_spans 106 = .ok (.lcmp, 1) := by decide +kernel
theorem dX7_spans_107 : decode cX7_spans 107 = .ok (.ifCond .le 23, 3) := by decide +kernel
theorem dX7_spans_110 : decode cX7_spans 110 = .ok (.aload_n 0, 1) := by decide +kernel
theorem dX7_spans_111 : decode cX7_spans 111 = .ok (.getfield 69, 3) := by decide +kernel
theorem dX7_spans_114 : decode cX7_spans 114 = .ok (.iload_n 2, 1) := by decide +kernel
theorem dX7_spans_115 : decode cX7_spans 115 = .ok (.lload_n 3, 1) := by decide +kernel
theorem dX7_spans_116 : decode cX7_spans 116 = .ok (.lastore, 1) := by decide +kernel
theorem dX7_spans_117 : decode cX7_spans 117 = .ok (.aload_n 0, 1) := by decide +kernel
theorem dX7_spans_118 : decode cX7_spans 118 = .ok (.getfield 72, 3) := by decide +kernel
theorem dX7_spans_121 : decode cX7_spans 121 = .ok (.iload_n 2, 1) := by decide +kernel
theorem dX7_spans_122 : decode cX7_spans 122 = .ok (.lload 7, 2) := by decide +kernel
theorem dX7_spans_124 : decode cX7_spans 124 = .ok (.lconst 1, 1) := by decide +kernel
theorem dX7_spans_125 : decode cX7_spans 125 = .ok (.lsub, 1) := by decide +kernel
theorem dX7_spans_126 : decode cX7_spans 126 = .ok (.lastore, 1) := by decide +kernel
theorem dX7_spans_127 : decode cX7_spans 127 = .ok (.iinc 11 1, 3) := by decide +kernel
theorem dX7_spans_130 : decode cX7_spans 130 = .ok (.lload 9, 2) := by decide +kernel
theorem dX7_spans_132 : decode cX7_spans 132 = .ok (.lload 5, 2) := by decide +kernel
theorem dX7_spans_134 : decode cX7_spans 134 = .ok (.lcmp, 1) := by decide +kernel
theorem dX7_spans_135 : decode cX7_spans 135 = .ok (.ifCond .ge 30, 3) := by decide +kernel
theorem dX7_spans_138 : decode cX7_spans 138 = .ok (.aload_n 0, 1) := by decide +kernel
theorem dX7_spans_139 : decode cX7_spans 139 = .ok (.getfield 69, 3) := by decide +kernel
theorem dX7_spans_142 : decode cX7_spans 142 = .ok (.iload_n 2, 1) := by decide +kernel
theorem dX7_spans_143 : decode cX7_spans 143 = .ok (.iload 11, 2) := by decide +kernel
theorem dX7_spans_145 : decode cX7_spans 145 = .ok (.iadd, 1) := by decide +kernel
theorem dX7_spans_146 : decode cX7_spans 146 = .ok (.lload 9, 2) := by decide +kernel
theorem dX7_spans_148 : decode cX7_spans 148 = .ok (.lconst 1, 1) := by decide +kernel
theorem dX7_spans_149 : decode cX7_spans 149 = .ok (.ladd, 1) := by decide +kernel
theorem dX7_spans_150 : decode cX7_spans 150 = .ok (.lastore, 1) := by decide +kernel
theorem dX7_spans_151 : decode cX7_spans 151 = .ok (.aload_n 0, 1) := by decide +kernel
theorem dX7_spans_152 : decode cX7_spans 152 = .ok (.getfield 72, 3) := by decide +kernel
theorem dX7_spans_155 : decode cX7_spans 155 = .ok (.iload_n 2, 1) := by decide +kernel
theorem dX7_spans_156 : decode cX7_spans 156 = .ok (.iload 11, 2) := by decide +kernel
theorem dX7_spans_158 : decode cX7_spans 158 = .ok (.iadd, 1) := by decide +kernel
theorem dX7_spans_159 : decode cX7_spans 159 = .ok (.lload 5, 2) := by decide +kernel
theorem dX7_spans_161 : decode cX7_spans 161 = .ok (.lastore, 1) := by decide +kernel
theorem dX7_spans_162 : decode cX7_spans 162 = .ok (.iinc 11 1, 3) := by decide +kernel
theorem dX7_spans_165 : decode cX7_spans 165 = .ok (.iload 11, 2) := by decide +kernel
theorem dX7_spans_167 : decode cX7_spans 167 = .ok (.ireturn, 1) := by decide +kernel
theorem dX7_spans_168 : decode cX7_spans 168 = .ok (.iconst 0, 1) := by decide +kernel
theorem dX7_spans_169 : decode cX7_spans 169 = .ok (.istore 12, 2) := by decide +kernel
theorem dX7_spans_171 : decode cX7_spans 171 = .ok (.iload 12, 2) := by decide +kernel
theorem dX7_spans_173 : decode cX7_spans 173 = .ok (.aload_n 0, 1) := by decide +kernel
theorem dX7_spans_174 : decode cX7_spans 174 = .ok (.getfield 26, 3) := by decide +kernel
theorem dX7_spans_177 : decode cX7_spans 177 = .ok (.iload_n 1, 1) := by decide +kernel
theorem dX7_spans_178 : decode cX7_spans 178 = .ok (.iaload, 1) := by decide +kernel
theorem dX7_spans_179 : decode cX7_spans 179 = .ok (.if_icmp .ge 48, 3) := by decide +kernel
theorem dX7_spans_182 : decode cX7_spans 182 = .ok (.aload_n 0, 1) := by decide +kernel
theorem dX7_spans_183 : decode cX7_spans 183 = .ok (.getfield 69, 3) := by decide +kernel
theorem dX7_spans_186 : decode cX7_spans 186 = .ok (.iload_n 2, 1) := by decide +kernel
theorem dX7_spans_187 : decode cX7_spans 187 = .ok (.iload 12, 2) := by decide +kernel
theorem dX7_spans_189 : decode cX7_spans 189 = .ok (.iadd, 1) := by decide +kernel
theorem dX7_spans_190 : decode cX7_spans 190 = .ok (.aload_n 0, 1) := by decide +kernel
theorem dX7_spans_191 : decode cX7_spans 191 = .ok (.getfield 29, 3) := by decide +kernel
theorem dX7_spans_194 : decode cX7_spans 194 = .ok (.iconst 4, 1) := by decide +kernel
theorem dX7_spans_195 : decode cX7_spans 195 = .ok (.iload_n 1, 1) := by decide +kernel
theorem dX7_spans_196 : decode cX7_spans 196 = .ok (.imul, 1) := by decide +kernel
theorem dX7_spans_197 : decode cX7_spans 197 = .ok (.iload 12, 2) := by decide +kernel
theorem dX7_spans_199 : decode cX7_spans 199 = .ok (.iadd, 1) := by decide +kernel
theorem dX7_spans_200 : decode cX7_spans 200 = .ok (.iaload, 1) := by decide +kernel
theorem dX7_spans_201 : decode cX7_spans 201 = .ok (.i2l, 1) := by decide +kernel
theorem dX7_spans_202 : decode cX7_spans 202 = .ok (.lastore, 1) := by decide +kernel
theorem dX7_spans_203 : decode cX7_spans 203 = .ok (.aload_n 0, 1) := by decide +kernel
theorem dX7_spans_204 : decode cX7_spans 204 = .ok (.getfield 72, 3) := by decide +kernel
theorem dX7_spans_207 : decode cX7_spans 207 = .ok (.iload_n 2, 1) := by decide +kernel
theorem dX7_spans_208 : decode cX7_spans 208 = .ok (.iload 12, 2) := by decide +kernel
theorem dX7_spans_210 : decode cX7_spans 210 = .ok (.iadd, 1) := by decide +kernel
theorem dX7_spans_211 : decode cX7_spans 211 = .ok (.aload_n 0, 1) := by decide +kernel
theorem dX7_spans_212 : decode cX7_spans 212 = .ok (.getfield 69, 3) := by decide +kernel
theorem dX7_spans_215 : decode cX7_spans 215 = .ok (.iload_n 2, 1) := by decide +kernel
theorem dX7_spans_216 : decode cX7_spans 216 = .ok (.iload 12, 2) := by decide +kernel
theorem dX7_spans_218 : decode cX7_spans 218 = .ok (.iadd, 1) := by decide +kernel
theorem dX7_spans_219 : decode cX7_spans 219 = .ok (.laload, 1) := by decide +kernel
theorem dX7_spans_220 : decode cX7_spans 220 = .ok (.lastore, 1) := by decide +kernel
theorem dX7_spans_221 : decode cX7_spans 221 = .ok (.iinc 12 1, 3) := by decide +kernel
theorem dX7_spans_224 : decode cX7_spans 224 = .ok (.goto (-53), 3) := by decide +kernel
theorem dX7_spans_227 : decode cX7_spans 227 = .ok (.aload_n 0, 1) := by decide +kernel
theorem dX7_spans_228 : decode cX7_spans 228 = .ok (.getfield 26, 3) := by decide +kernel
theorem dX7_spans_231 : decode cX7_spans 231 = .ok (.iload_n 1, 1) := by decide +kernel
theorem dX7_spans_232 : decode cX7_spans 232 = .ok (.iaload, 1) := by decide +kernel
theorem dX7_spans_233 : decode cX7_spans 233 = .ok (.ireturn, 1) := by decide +kernel
def B_Mo_spans_227 (mc ms : Nat) (Rt : Option zAV → zMp → Prop) (g : Nat → zKT) : zKT :=
  (i_al 0 (i_gf 8 9 (i_il 1 (i_ial (i_iret mc ms Rt)))))
set_option maxRecDepth 20000 in
theorem s_Mo_spans_227 {X : zMa} {mc ms : Nat} {Rt : Option zAV → zMp → Prop} (hC : zCx X RX7 cX7_spans 0 0 mc ms (some .int) false Rt) (hN : zNL X = 13) : zLe (B_Mo_spans_227 mc ms Rt (zG X)) (zG X 227) :=
  (sd_al_n hC rfl dX7_spans_227 ((sd_gf hC (ci := 8) (fk := 9) rfl wi_Mo (by decide) fl_Mo_26 (Or.inl rfl) dX7_spans_228 ((sd_il_n hC rfl dX7_spans_231 ((sd_ial hC dX7_spans_232 ((sd_iret hC dX7_spans_233)))))))))
def B_Mo_spans_171 (mc ms : Nat) (Rt : Option zAV → zMp → Prop) (g : Nat → zKT) : zKT :=
  (i_il 12 (i_al 0 (i_gf 8 9 (i_il 1 (i_ial (i_icge (B_Mo_spans_227 mc ms Rt g) (i_al 0 (i_gf 8 27 (i_il 2 (i_il 12 (i_iadd (i_al 0 (i_gf 8 10 (i_ic 4 (i_il 1 (i_imul (i_il 12 (i_iadd (i_ial (i_i2l (i_las (i_al 0 (i_gf 8 28 (i_il 2 (i_il 12 (i_iadd (i_al 0 (i_gf 8 27 (i_il 2 (i_il 12 (i_iadd (i_lal (i_las (i_inc 12 1 (g 171)))))))))))))))))))))))))))))))))))
set_option maxRecDepth 20000 in
theorem s_Mo_spans_171 {X : zMa} {mc ms : Nat} {Rt : Option zAV → zMp → Prop} (hC : zCx X RX7 cX7_spans 0 0 mc ms (some .int) false Rt) (hN : zNL X = 13) : zLe (B_Mo_spans_171 mc ms Rt (zG X)) (zG X 171) :=
  (sd_il hC dX7_spans_171 ((sd_al_n hC rfl dX7_spans_173 ((sd_gf hC (ci := 8) (fk := 9) rfl wi_Mo (by decide) fl_Mo_26 (Or.inl rfl) dX7_spans_174 ((sd_il_n hC rfl dX7_spans_177 ((sd_ial hC dX7_spans_178 ((sd_icge hC (tgt := 227) (by decide) dX7_spans_179 (s_Mo_spans_227 hC hN) ((sd_al_n hC rfl dX7_spans_182 ((sd_gf hC (ci := 8) (fk := 27) rfl wi_Mo (by decide) fl_Mo_69 (Or.inl rfl) dX7_spans_183 ((sd_il_n hC rfl dX7_spans_186 ((sd_il hC dX7_spans_187 ((sd_iadd hC dX7_spans_189 ((sd_al_n hC rfl dX7_spans_190 ((sd_gf hC (ci := 8) (fk := 10) rfl wi_Mo (by decide) fl_Mo_29 (Or.inl rfl) dX7_spans_191 ((sd_iconst hC (by decide) dX7_spans_194 ((sd_il_n hC rfl dX7_spans_195 ((sd_imul hC dX7_spans_196 ((sd_il hC dX7_spans_197 ((sd_iadd hC dX7_spans_199 ((sd_ial hC dX7_spans_200 ((sd_i2l hC dX7_spans_201 ((sd_las hC dX7_spans_202 ((sd_al_n hC rfl dX7_spans_203 ((sd_gf hC (ci := 8) (fk := 28) rfl wi_Mo (by decide) fl_Mo_72 (Or.inl rfl) dX7_spans_204 ((sd_il_n hC rfl dX7_spans_207 ((sd_il hC dX7_spans_208 ((sd_iadd hC dX7_spans_210 ((sd_al_n hC rfl dX7_spans_211 ((sd_gf hC (ci := 8) (fk := 27) rfl wi_Mo (by decide) fl_Mo_69 (Or.inl rfl) dX7_spans_212 ((sd_il_n hC rfl dX7_spans_215 ((sd_il hC dX7_spans_216 ((sd_iadd hC dX7_spans_218 ((sd_lal hC dX7_spans_219 ((sd_las hC dX7_spans_220 ((sd_inc hC (by decide) (by rw [hN]; decide) dX7_spans_221 ((sd_goto hC (tgt := 171) (by decide) dX7_spans_224 (zLe_rfl))))))))))))))))))))))))))))))))))))))))))))))))))))))))))))))))))))))
def B_Mo_spans_168 (mc ms : Nat) (Rt : Option zAV → zMp → Prop) (g : Nat → zKT) : zKT :=
  (i_ic 0 (i_is 12 (g 171)))
set_option maxRecDepth 20000 in
theorem s_Mo_spans_168 {X : zMa} {mc ms : Nat} {Rt : Option zAV → zMp → Prop} (hC : zCx X RX7 cX7_spans 0 0 mc ms (some .int) false Rt) (hN : zNL X = 13) : zLe (B_Mo_spans_168 mc ms Rt (zG X)) (zG X 168) :=
  (sd_iconst hC (by decide) dX7_spans_168 ((sd_is hC (by rw [hN]; decide) dX7_spans_169 (zLe_rfl))))
def B_Mo_spans_165 (mc ms : Nat) (Rt : Option zAV → zMp → Prop) (g : Nat → zKT) : zKT :=
  (i_il 11 (i_iret mc ms Rt))
set_option maxRecDepth 20000 in
theorem s_Mo_spans_165 {X : zMa} {mc ms : Nat} {Rt : Option zAV → zMp → Prop} (hC : zCx X RX7 cX7_spans 0 0 mc ms (some .int) false Rt) (hN : zNL X = 13) : zLe (B_Mo_spans_165 mc ms Rt (zG X)) (zG X 165) :=
  (sd_il hC dX7_spans_165 ((sd_iret hC dX7_spans_167)))
def B_Mo_spans_130 (mc ms : Nat) (Rt : Option zAV → zMp → Prop) (g : Nat → zKT) : zKT :=
  (i_ll 9 (i_ll 5 (i_lcmp (i_ifge (B_Mo_spans_165 mc ms Rt g) (i_al 0 (i_gf 8 27 (i_il 2 (i_il 11 (i_iadd (i_ll 9 (i_lc 1 (i_ladd (i_las (i_al 0 (i_gf 8 28 (i_il 2 (i_il 11 (i_iadd (i_ll 5 (i_las (i_inc 11 1 (B_Mo_spans_165 mc ms Rt g))))))))))))))))))))))
set_option maxRecDepth 20000 in
theorem s_Mo_spans_130 {X : zMa} {mc ms : Nat} {Rt : Option zAV → zMp → Prop} (hC : zCx X RX7 cX7_spans 0 0 mc ms (some .int) false Rt) (hN : zNL X = 13) : zLe (B_Mo_spans_130 mc ms Rt (zG X)) (zG X 130) :=
  (sd_ll hC dX7_spans_130 ((sd_ll hC dX7_spans_132 ((sd_lcmp hC dX7_spans_134 ((sd_ifge hC (tgt := 165) (by decide) dX7_spans_135 (s_Mo_spans_165 hC hN) ((sd_al_n hC rfl dX7_spans_138 ((sd_gf hC (ci := 8) (fk := 27) rfl wi_Mo (by decide) fl_Mo_69 (Or.inl rfl) dX7_spans_139 ((sd_il_n hC rfl dX7_spans_142 ((sd_il hC dX7_spans_143 ((sd_iadd hC dX7_spans_145 ((sd_ll hC dX7_spans_146 ((sd_lconst hC (by decide) dX7_spans_148 ((sd_ladd hC dX7_spans_149 ((sd_las hC dX7_spans_150 ((sd_al_n hC rfl dX7_spans_151 ((sd_gf hC (ci := 8) (fk := 28) rfl wi_Mo (by decide) fl_Mo_72 (Or.inl rfl) dX7_spans_152 ((sd_il_n hC rfl dX7_spans_155 ((sd_il hC dX7_spans_156 ((sd_iadd hC dX7_spans_158 ((sd_ll hC dX7_spans_159 ((sd_las hC dX7_spans_161 ((sd_inc hC (by decide) (by rw [hN]; decide) dX7_spans_162 (s_Mo_spans_165 hC hN))))))))))))))))))))))))))))))))))))))))))
def B_Mo_spans_103 (mc ms : Nat) (Rt : Option zAV → zMp → Prop) (g : Nat → zKT) : zKT :=
  (i_ll 7 (i_ll 3 (i_lcmp (i_ifle (B_Mo_spans_130 mc ms Rt g) (i_al 0 (i_gf 8 27 (i_il 2 (i_ll 3 (i_las (i_al 0 (i_gf 8 28 (i_il 2 (i_ll 7 (i_lc 1 (i_lsub (i_las (i_inc 11 1 (B_Mo_spans_130 mc ms Rt g))))))))))))))))))
set_option maxRecDepth 20000 in
theorem s_Mo_spans_103 {X : zMa} {mc ms : Nat} {Rt : Option zAV → zMp → Prop} (hC : zCx X RX7 cX7_spans 0 0 mc ms (some .int) false Rt) (hN : zNL X = 13) : zLe (B_Mo_spans_103 mc ms Rt (zG X)) (zG X 103) :=
  (sd_ll hC dX7_spans_103 ((sd_ll_n hC rfl dX7_spans_105 ((sd_lcmp hC dX7_spans_106 ((sd_ifle hC (tgt := 130) (by decide) dX7_spans_107 (s_Mo_spans_130 hC hN) ((sd_al_n hC rfl dX7_spans_110 ((sd_gf hC (ci := 8) (fk := 27) rfl wi_Mo (by decide) fl_Mo_69 (Or.inl rfl) dX7_spans_111 ((sd_il_n hC rfl dX7_spans_114 ((sd_ll_n hC rfl dX7_spans_115 ((sd_las hC dX7_spans_116 ((sd_al_n hC rfl dX7_spans_117 ((sd_gf hC (ci := 8) (fk := 28) rfl wi_Mo (by decide) fl_Mo_72 (Or.inl rfl) dX7_spans_118 ((sd_il_n hC rfl dX7_spans_121 ((sd_ll hC dX7_spans_122 ((sd_lconst hC (by decide) dX7_spans_124 ((sd_lsub hC dX7_spans_125 ((sd_las hC dX7_spans_126 ((sd_inc hC (by decide) (by rw [hN]; decide) dX7_spans_127 (s_Mo_spans_130 hC hN))))))))))))))))))))))))))))))))))
def B_Mo_spans_85 (mc ms : Nat) (Rt : Option zAV → zMp → Prop) (g : Nat → zKT) : zKT :=
  (i_al 0 (i_gf 8 27 (i_il 2 (i_ll 7 (i_las (i_al 0 (i_gf 8 28 (i_il 2 (i_ll 9 (i_las (i_ic 1 (i_iret mc ms Rt))))))))))))
set_option maxRecDepth 20000 in
theorem s_Mo_spans_85 {X : zMa} {mc ms : Nat} {Rt : Option zAV → zMp → Prop} (hC : zCx X RX7 cX7_spans 0 0 mc ms (some .int) false Rt) (hN : zNL X = 13) : zLe (B_Mo_spans_85 mc ms Rt (zG X)) (zG X 85) :=
  (sd_al_n hC rfl dX7_spans_85 ((sd_gf hC (ci := 8) (fk := 27) rfl wi_Mo (by decide) fl_Mo_69 (Or.inl rfl) dX7_spans_86 ((sd_il_n hC rfl dX7_spans_89 ((sd_ll hC dX7_spans_90 ((sd_las hC dX7_spans_92 ((sd_al_n hC rfl dX7_spans_93 ((sd_gf hC (ci := 8) (fk := 28) rfl wi_Mo (by decide) fl_Mo_72 (Or.inl rfl) dX7_spans_94 ((sd_il_n hC rfl dX7_spans_97 ((sd_ll hC dX7_spans_98 ((sd_las hC dX7_spans_100 ((sd_iconst hC (by decide) dX7_spans_101 ((sd_iret hC dX7_spans_102)))))))))))))))))))))))
def B_Mo_spans_68 (mc ms : Nat) (Rt : Option zAV → zMp → Prop) (g : Nat → zKT) : zKT :=
  (i_al 0 (i_gf 8 27 (i_il 2 (i_ll 3 (i_las (i_al 0 (i_gf 8 28 (i_il 2 (i_ll 5 (i_las (i_ic 1 (i_iret mc ms Rt))))))))))))
set_option maxRecDepth 20000 in
theorem s_Mo_spans_68 {X : zMa} {mc ms : Nat} {Rt : Option zAV → zMp → Prop} (hC : zCx X RX7 cX7_spans 0 0 mc ms (some .int) false Rt) (hN : zNL X = 13) : zLe (B_Mo_spans_68 mc ms Rt (zG X)) (zG X 68) :=
  (sd_al_n hC rfl dX7_spans_68 ((sd_gf hC (ci := 8) (fk := 27) rfl wi_Mo (by decide) fl_Mo_69 (Or.inl rfl) dX7_spans_69 ((sd_il_n hC rfl dX7_spans_72 ((sd_ll_n hC rfl dX7_spans_73 ((sd_las hC dX7_spans_74 ((sd_al_n hC rfl dX7_spans_75 ((sd_gf hC (ci := 8) (fk := 28) rfl wi_Mo (by decide) fl_Mo_72 (Or.inl rfl) dX7_spans_76 ((sd_il_n hC rfl dX7_spans_79 ((sd_ll hC dX7_spans_80 ((sd_las hC dX7_spans_82 ((sd_iconst hC (by decide) dX7_spans_83 ((sd_iret hC dX7_spans_84)))))))))))))))))))))))
def B_Mo_spans_0 (mc ms : Nat) (Rt : Option zAV → zMp → Prop) (g : Nat → zKT) : zKT :=
  (i_lc (-2147483648) (i_ls 3 (i_lc 2147483647 (i_ls 5 (i_al 0 (i_gf 8 10 (i_ic 4 (i_il 1 (i_imul (i_ial (i_i2l (i_ls 7 (i_al 0 (i_gf 8 10 (i_ic 4 (i_il 1 (i_imul (i_ic 1 (i_iadd (i_ial (i_i2l (i_ls 9 (i_ic 0 (i_is 11 (i_al 0 (i_gf 8 8 (i_il 1 (i_ial (i_sw [(0, (B_Mo_spans_68 mc ms Rt g)), (1, (B_Mo_spans_85 mc ms Rt g)), (2, (B_Mo_spans_103 mc ms Rt g))] (B_Mo_spans_168 mc ms Rt g))))))))))))))))))))))))))))))
set_option maxRecDepth 20000 in
theorem s_Mo_spans_0 {X : zMa} {mc ms : Nat} {Rt : Option zAV → zMp → Prop} (hC : zCx X RX7 cX7_spans 0 0 mc ms (some .int) false Rt) (hN : zNL X = 13) : zLe (B_Mo_spans_0 mc ms Rt (zG X)) (zG X 0) :=
  (sd_ldc2 hC kl_Mo_108 dX7_spans_0 ((sd_ls_n hC rfl (by rw [hN]; decide) dX7_spans_3 ((sd_ldc2 hC kl_Mo_110 dX7_spans_4 ((sd_ls hC (by rw [hN]; decide) dX7_spans_7 ((sd_al_n hC rfl dX7_spans_9 ((sd_gf hC (ci := 8) (fk := 10) rfl wi_Mo (by decide) fl_Mo_29 (Or.inl rfl) dX7_spans_10 ((sd_iconst hC (by decide) dX7_spans_13 ((sd_il_n hC rfl dX7_spans_14 ((sd_imul hC dX7_spans_15 ((sd_ial hC dX7_spans_16 ((sd_i2l hC dX7_spans_17 ((sd_ls hC (by rw [hN]; decide) dX7_spans_18 ((sd_al_n hC rfl dX7_spans_20 ((sd_gf hC (ci := 8) (fk := 10) rfl wi_Mo (by decide) fl_Mo_29 (Or.inl rfl) dX7_spans_21 ((sd_iconst hC (by decide) dX7_spans_24 ((sd_il_n hC rfl dX7_spans_25 ((sd_imul hC dX7_spans_26 ((sd_iconst hC (by decide) dX7_spans_27 ((sd_iadd hC dX7_spans_28 ((sd_ial hC dX7_spans_29 ((sd_i2l hC dX7_spans_30 ((sd_ls hC (by rw [hN]; decide) dX7_spans_31 ((sd_iconst hC (by decide) dX7_spans_33 ((sd_is hC (by rw [hN]; decide) dX7_spans_34 ((sd_al_n hC rfl dX7_spans_36 ((sd_gf hC (ci := 8) (fk := 8) rfl wi_Mo (by decide) fl_Mo_23 (Or.inl rfl) dX7_spans_37 ((sd_il_n hC rfl dX7_spans_40 ((sd_ial hC dX7_spans_41 ((sd_tsw hC dX7_spans_42 (s_Mo_spans_168 hC hN) [68, 85, 103] rfl (by intro q hq; simp only [List.zip_cons_cons, List.zip_nil_right, List.mem_cons, List.not_mem_nil, or_false] at hq; rcases hq with rfl | rfl | rfl; exact ⟨(show zjT 42 126 0 2 #[26, 43, 61] 0 68 from Or.inr ⟨by decide, by decide, _, rfl, by decide⟩), s_Mo_spans_68 hC hN⟩; exact ⟨(show zjT 42 126 0 2 #[26, 43, 61] 1 85 from Or.inr ⟨by decide, by decide, _, rfl, by decide⟩), s_Mo_spans_85 hC hN⟩; exact ⟨(show zjT 42 126 0 2 #[26, 43, 61] 2 103 from Or.inr ⟨by decide, by decide, _, rfl, by decide⟩), s_Mo_spans_103 hC hN⟩) (by intro x hx; simp only [List.forall_mem_cons, List.not_mem_nil, false_imp_iff, implies_true, and_true] at hx; refine Or.inl ⟨?_, by decide⟩; obtain ⟨n0, n1, n2⟩ := hx; have n0 := zne_i (z := 0) n0 (by decide); have n1 := zne_i (z := 1) n1 (by decide); have n2 := zne_i (z := 2) n2 (by decide); omega))))))))))))))))))))))))))))))))))))))))))))))))))))))))))
theorem updL_s {f : Nat → Int64} {i : Nat} {x : Int64} : vp_updL f i x i = x := if_pos rfl
theorem updL_o {f : Nat → Int64} {i j : Nat} {x : Int64} (h : j ≠ i) : vp_updL f i x j = f j := if_neg h
theorem c_Mo_spans (l : Launch) : zCT l yX7_spans cX7_spans 13 (some .int) 0 0 T_Mo_spans co_Mo_spans := by
  intro As M Rt hT
  obtain ⟨y, t, a, rfl, rfl, ht, ha, ⟨hk, hm⟩, hR⟩ := hT
  refine zMet_of false (by decide +kernel) (fun h => by first | rfl | cases h) (Nat.le_of_ble_eq_true rfl) (fun X hN hC => ?_)
  show zG X 0 [some (.inr (30, 0, 0)), some (.inl (.int (nI t))), some (.inl (.int (nI a))), none, none, none, none, none, none, none, none, none, none] [] (mp y) 0 0
  refine s_Mo_spans_0 hC hN _ _ _ _ _ ?_
  simp only [B_Mo_spans_0, B_Mo_spans_68, B_Mo_spans_85, B_Mo_spans_103, B_Mo_spans_130, B_Mo_spans_165, B_Mo_spans_168, B_Mo_spans_171, B_Mo_spans_227, co_Mo_spans, i_ic, i_lc, i_nul, i_il, i_ll, i_al, i_is, i_as, i_ls, i_inc, i_iadd, i_isub, i_imul, i_iand, i_ior, i_ixor, i_idiv, i_irem, i_ishl, i_ishr, i_ladd, i_lsub, i_land, i_lor, i_i2l, i_lushr, i_lshl, i_lshr, i_lcmp, i_dup, i_pop, i_dx1, i_dup2, i_ifeq, i_ifne, i_iflt, i_ifge, i_ifgt, i_ifle, i_iceq, i_icne, i_iclt, i_icge, i_icgt, i_icle, i_ifn, i_gf, i_pf, i_ial, i_bal, i_lal, i_aal, i_ias, i_las, i_bas, i_aas, i_alen, i_newa, i_new, i_anew, i_cast, i_oi, i_call, i_callV, i_callV2, i_callI, i_iret, i_zret, i_lret, i_vret, i_aret, i_mmx, i_mmn, i_gsE, i_aceq, i_no, i_acq, i_sw, zsw, zlg, zls, znl, zfg, zcs, zsp, zrc, zisn, zft, zc1, zto, Value.category, List.set_cons_zero, List.set_cons_succ, List.length_cons, List.length_nil, Option.toList, List.append, List.nil_append, List.cons_append, true_and, and_true, Nat.add_zero, Nat.zero_le, Nat.zero_add, Nat.le_refl, Nat.reduceAdd, Nat.reduceLeDiff, co0, z0, zn_0, zn_1, zn_2, zn_3, zn_4, zn_5, zn_8, zn_12, zn_24, zn_121, zn_144, zn_256, zn_300, zn_600, zn_720, zn_1204, zn_1280, zn_2400, zn_4816, zn_14400, zn_90000, q_main, m_main, q_nu, q_kd, q_lo, ar_4, ar_5, ar_12, ar_300, ar_600, ar_1200, ar_10, nI_add, ar_1, ar_2, ar_3, ar_2m]
  rw [nI_clamp (by omega), nI_clamp (by omega), nI_clamp (by omega), nI_clamp (by omega)]
  have eg0 : y_g y t 0 = y_nu y (4 * t) := rfl
  have eg1 : y_g y t 1 = y_nu y (4 * t + 1) := rfl
  rw [← eg0, ← eg1]
  unfold sp_ok at hR
  refine ⟨vp_in_nI (by omega) (by decide), vp_in_nI (by omega) (by decide), vp_in_nI (by omega) (by decide), ?_⟩
  have hv : vp_in (nI a) 8 := vp_in_nI (by omega) (by decide)
  refine ⟨fun h0 => ⟨m_k (by decide), hv, ?_⟩, fun n0 => ⟨fun h1 => ⟨m_k (by decide), hv, ?_⟩, fun n1 => ⟨fun h2 => ?_, fun n2 => ?_⟩⟩⟩
  · rw [mu_lo]
    simp only [i_ic, i_lc, i_nul, i_il, i_ll, i_al, i_is, i_as, i_ls, i_inc, i_iadd, i_isub, i_imul, i_iand, i_ior, i_ixor, i_idiv, i_irem, i_ishl, i_ishr, i_ladd, i_lsub, i_land, i_lor, i_i2l, i_lushr, i_lshl, i_lshr, i_lcmp, i_dup, i_pop, i_dx1, i_dup2, i_ifeq, i_ifne, i_iflt, i_ifge, i_ifgt, i_ifle, i_iceq, i_icne, i_iclt, i_icge, i_icgt, i_icle, i_ifn, i_gf, i_pf, i_ial, i_bal, i_lal, i_aal, i_ias, i_las, i_bas, i_aas, i_alen, i_newa, i_new, i_anew, i_cast, i_oi, i_call, i_callV, i_callV2, i_callI, i_iret, i_zret, i_lret, i_vret, i_aret, i_mmx, i_mmn, i_gsE, i_aceq, i_no, i_acq, i_sw, zsw, zlg, zls, znl, zfg, zcs, zsp, zrc, zisn, zft, zc1, zto, Value.category, List.set_cons_zero, List.set_cons_succ, List.length_cons, List.length_nil, Option.toList, List.append, List.nil_append, List.cons_append, true_and, and_true, Nat.add_zero, Nat.zero_le, Nat.zero_add, Nat.le_refl, Nat.reduceAdd, Nat.reduceLeDiff, co0, z0, zn_0, zn_1, zn_2, zn_3, zn_4, zn_5, zn_8, zn_12, zn_24, zn_121, zn_144, zn_256, zn_300, zn_600, zn_720, zn_1204, zn_1280, zn_2400, zn_4816, zn_14400, zn_90000, q_main, m_main, q_hi]
    rw [nI_clamp (by omega)]
    refine ⟨m_k (by decide), hv, ?_⟩
    rw [mu_hi]
    have hr := hR (vp_updL (y_lo y) a (-2147483648)) (vp_updL (y_hi y) a 2147483647) ⟨fun i hi => ?_, fun j hj => ⟨updL_o (by omega), updL_o (by omega)⟩⟩
    · have e1 : sN (y_kd y t) (y_mn y t) (y_g y t) = 1 := by rw [sN, if_pos h0]
      rw [e1] at hr
      exact hr
    · have e1 : sN (y_kd y t) (y_mn y t) (y_g y t) = 1 := by rw [sN, if_pos h0]
      have : i = 0 := by omega
      subst this
      rw [Nat.add_zero, updL_s, updL_s, sL, sH, if_pos h0, if_pos h0]
      exact ⟨rfl, rfl⟩
  · rw [mu_lo]
    simp only [i_ic, i_lc, i_nul, i_il, i_ll, i_al, i_is, i_as, i_ls, i_inc, i_iadd, i_isub, i_imul, i_iand, i_ior, i_ixor, i_idiv, i_irem, i_ishl, i_ishr, i_ladd, i_lsub, i_land, i_lor, i_i2l, i_lushr, i_lshl, i_lshr, i_lcmp, i_dup, i_pop, i_dx1, i_dup2, i_ifeq, i_ifne, i_iflt, i_ifge, i_ifgt, i_ifle, i_iceq, i_icne, i_iclt, i_icge, i_icgt, i_icle, i_ifn, i_gf, i_pf, i_ial, i_bal, i_lal, i_aal, i_ias, i_las, i_bas, i_aas, i_alen, i_newa, i_new, i_anew, i_cast, i_oi, i_call, i_callV, i_callV2, i_callI, i_iret, i_zret, i_lret, i_vret, i_aret, i_mmx, i_mmn, i_gsE, i_aceq, i_no, i_acq, i_sw, zsw, zlg, zls, znl, zfg, zcs, zsp, zrc, zisn, zft, zc1, zto, Value.category, List.set_cons_zero, List.set_cons_succ, List.length_cons, List.length_nil, Option.toList, List.append, List.nil_append, List.cons_append, true_and, and_true, Nat.add_zero, Nat.zero_le, Nat.zero_add, Nat.le_refl, Nat.reduceAdd, Nat.reduceLeDiff, co0, z0, zn_0, zn_1, zn_2, zn_3, zn_4, zn_5, zn_8, zn_12, zn_24, zn_121, zn_144, zn_256, zn_300, zn_600, zn_720, zn_1204, zn_1280, zn_2400, zn_4816, zn_14400, zn_90000, q_main, m_main, q_hi]
    rw [nI_clamp (by omega)]
    refine ⟨m_k (by decide), hv, ?_⟩
    rw [mu_hi]
    have e1 : sN (y_kd y t) (y_mn y t) (y_g y t) = 1 := by rw [sN, if_neg n0, if_pos h1]
    have hr := hR (vp_updL (y_lo y) a (y_g y t 0).toInt64) (vp_updL (y_hi y) a (y_g y t 1).toInt64) ⟨fun i hi => ?_, fun j hj => ⟨updL_o (by omega), updL_o (by omega)⟩⟩
    · rw [e1] at hr
      exact hr
    · have : i = 0 := by omega
      subst this
      rw [Nat.add_zero, updL_s, updL_s, sL, sH, if_neg n0, if_pos h1, if_neg n0, if_pos h1]
      exact ⟨rfl, rfl⟩
  · have e1 : sN (y_kd y t) (y_mn y t) (y_g y t) = (if (-2147483648 : Int64) < (y_g y t 0).toInt64 then 1 else 0) + (if (y_g y t 1).toInt64 < (2147483647 : Int64) then 1 else 0) := by rw [sN, if_neg n0, if_neg n1, if_pos h2]
    have eL : ∀ i, sL (y_kd y t) (y_g y t) i = (if i = 0 ∧ (-2147483648 : Int64) < (y_g y t 0).toInt64 then -2147483648 else (y_g y t 1).toInt64 + 1) := fun i => by rw [sL, if_neg n0, if_neg n1, if_pos h2]
    have eH : ∀ i, sH (y_kd y t) (y_g y t) i = (if i = 0 ∧ (-2147483648 : Int64) < (y_g y t 0).toInt64 then (y_g y t 0).toInt64 - 1 else 2147483647) := fun i => by rw [sH, if_neg n0, if_neg n1, if_pos h2]
    rw [lg_cmp_le]
    refine ⟨fun q1 => ?_, fun q1 => ⟨m_k (by decide), hv, ?_⟩⟩
    · have c1 : ¬ (-2147483648 : Int64) < (y_g y t 0).toInt64 := Int64.not_lt.mpr q1
      rw [if_neg c1, Nat.zero_add] at e1
      rw [lg_cmp_ge]
      refine ⟨fun q2 => ?_, fun q2 => ?_⟩
      · have c2 : ¬ (y_g y t 1).toInt64 < (2147483647 : Int64) := Int64.not_lt.mpr q2
        rw [if_neg c2] at e1
        have hr := hR (y_lo y) (y_hi y) ⟨fun i hi => absurd hi (by omega), fun j hj => ⟨rfl, rfl⟩⟩
        rw [e1] at hr
        exact hr
      · have c2 : (y_g y t 1).toInt64 < (2147483647 : Int64) := Int64.not_le.mp q2
        rw [if_pos c2] at e1
        have ea : nI a + 0 = nI a := by rw [show (0 : Int32) = nI 0 from rfl, nI_add]; rfl
        simp only [q_main, m_main, q_lo, i_ic, i_lc, i_nul, i_il, i_ll, i_al, i_is, i_as, i_ls, i_inc, i_iadd, i_isub, i_imul, i_iand, i_ior, i_ixor, i_idiv, i_irem, i_ishl, i_ishr, i_ladd, i_lsub, i_land, i_lor, i_i2l, i_lushr, i_lshl, i_lshr, i_lcmp, i_dup, i_pop, i_dx1, i_dup2, i_ifeq, i_ifne, i_iflt, i_ifge, i_ifgt, i_ifle, i_iceq, i_icne, i_iclt, i_icge, i_icgt, i_icle, i_ifn, i_gf, i_pf, i_ial, i_bal, i_lal, i_aal, i_ias, i_las, i_bas, i_aas, i_alen, i_newa, i_new, i_anew, i_cast, i_oi, i_call, i_callV, i_callV2, i_callI, i_iret, i_zret, i_lret, i_vret, i_aret, i_mmx, i_mmn, i_gsE, i_aceq, i_no, i_acq, i_sw, zsw, zlg, zls, znl, zfg, zcs, zsp, zrc, zisn, zft, zc1, zto, Value.category, List.set_cons_zero, List.set_cons_succ, List.length_cons, List.length_nil, Option.toList, List.append, List.nil_append, List.cons_append, true_and, and_true, Nat.add_zero, Nat.zero_le, Nat.zero_add, Nat.le_refl, Nat.reduceAdd, Nat.reduceLeDiff, co0, z0, zn_0, zn_1, zn_2, zn_3, zn_4, zn_5, zn_8, zn_12, zn_24, zn_121, zn_144, zn_256, zn_300, zn_600, zn_720, zn_1204, zn_1280, zn_2400, zn_4816, zn_14400, zn_90000, ea]
        rw [nI_clamp (by omega)]
        refine ⟨m_k (by decide), hv, ?_⟩
        rw [mu_lo]
        simp only [i_ic, i_lc, i_nul, i_il, i_ll, i_al, i_is, i_as, i_ls, i_inc, i_iadd, i_isub, i_imul, i_iand, i_ior, i_ixor, i_idiv, i_irem, i_ishl, i_ishr, i_ladd, i_lsub, i_land, i_lor, i_i2l, i_lushr, i_lshl, i_lshr, i_lcmp, i_dup, i_pop, i_dx1, i_dup2, i_ifeq, i_ifne, i_iflt, i_ifge, i_ifgt, i_ifle, i_iceq, i_icne, i_iclt, i_icge, i_icgt, i_icle, i_ifn, i_gf, i_pf, i_ial, i_bal, i_lal, i_aal, i_ias, i_las, i_bas, i_aas, i_alen, i_newa, i_new, i_anew, i_cast, i_oi, i_call, i_callV, i_callV2, i_callI, i_iret, i_zret, i_lret, i_vret, i_aret, i_mmx, i_mmn, i_gsE, i_aceq, i_no, i_acq, i_sw, zsw, zlg, zls, znl, zfg, zcs, zsp, zrc, zisn, zft, zc1, zto, Value.category, List.set_cons_zero, List.set_cons_succ, List.length_cons, List.length_nil, Option.toList, List.append, List.nil_append, List.cons_append, true_and, and_true, Nat.add_zero, Nat.zero_le, Nat.zero_add, Nat.le_refl, Nat.reduceAdd, Nat.reduceLeDiff, co0, z0, zn_0, zn_1, zn_2, zn_3, zn_4, zn_5, zn_8, zn_12, zn_24, zn_121, zn_144, zn_256, zn_300, zn_600, zn_720, zn_1204, zn_1280, zn_2400, zn_4816, zn_14400, zn_90000, q_main, m_main, q_hi]
        rw [nI_clamp (by omega)]
        refine ⟨m_k (by decide), hv, ?_⟩
        rw [mu_hi]
        have hr := hR (vp_updL (y_lo y) a ((y_g y t 1).toInt64 + 1)) (vp_updL (y_hi y) a 2147483647) ⟨fun i hi => ?_, fun j hj => ⟨updL_o (by omega), updL_o (by omega)⟩⟩
        · rw [e1] at hr
          exact hr
        · have : i = 0 := by omega
          subst this
          rw [Nat.add_zero, updL_s, updL_s, eL, eH, if_neg (fun z => c1 z.2), if_neg (fun z => c1 z.2)]
          exact ⟨rfl, rfl⟩
    · have c1 : (-2147483648 : Int64) < (y_g y t 0).toInt64 := Int64.not_le.mp q1
      rw [if_pos c1] at e1
      rw [mu_lo]
      simp only [i_ic, i_lc, i_nul, i_il, i_ll, i_al, i_is, i_as, i_ls, i_inc, i_iadd, i_isub, i_imul, i_iand, i_ior, i_ixor, i_idiv, i_irem, i_ishl, i_ishr, i_ladd, i_lsub, i_land, i_lor, i_i2l, i_lushr, i_lshl, i_lshr, i_lcmp, i_dup, i_pop, i_dx1, i_dup2, i_ifeq, i_ifne, i_iflt, i_ifge, i_ifgt, i_ifle, i_iceq, i_icne, i_iclt, i_icge, i_icgt, i_icle, i_ifn, i_gf, i_pf, i_ial, i_bal, i_lal, i_aal, i_ias, i_las, i_bas, i_aas, i_alen, i_newa, i_new, i_anew, i_cast, i_oi, i_call, i_callV, i_callV2, i_callI, i_iret, i_zret, i_lret, i_vret, i_aret, i_mmx, i_mmn, i_gsE, i_aceq, i_no, i_acq, i_sw, zsw, zlg, zls, znl, zfg, zcs, zsp, zrc, zisn, zft, zc1, zto, Value.category, List.set_cons_zero, List.set_cons_succ, List.length_cons, List.length_nil, Option.toList, List.append, List.nil_append, List.cons_append, true_and, and_true, Nat.add_zero, Nat.zero_le, Nat.zero_add, Nat.le_refl, Nat.reduceAdd, Nat.reduceLeDiff, co0, z0, zn_0, zn_1, zn_2, zn_3, zn_4, zn_5, zn_8, zn_12, zn_24, zn_121, zn_144, zn_256, zn_300, zn_600, zn_720, zn_1204, zn_1280, zn_2400, zn_4816, zn_14400, zn_90000, q_main, m_main, q_hi]
      rw [nI_clamp (by omega)]
      refine ⟨m_k (by decide), hv, ?_⟩
      rw [mu_hi, lg_cmp_ge]
      refine ⟨fun q2 => ?_, fun q2 => ?_⟩
      · have c2 : ¬ (y_g y t 1).toInt64 < (2147483647 : Int64) := Int64.not_lt.mpr q2
        rw [if_neg c2] at e1
        have hr := hR (vp_updL (y_lo y) a (-2147483648)) (vp_updL (y_hi y) a ((y_g y t 0).toInt64 - 1)) ⟨fun i hi => ?_, fun j hj => ⟨updL_o (by omega), updL_o (by omega)⟩⟩
        · rw [e1] at hr
          exact hr
        · have : i = 0 := by omega
          subst this
          rw [Nat.add_zero, updL_s, updL_s, eL, eH, if_pos ⟨rfl, c1⟩, if_pos ⟨rfl, c1⟩]
          exact ⟨rfl, rfl⟩
      · have c2 : (y_g y t 1).toInt64 < (2147483647 : Int64) := Int64.not_le.mp q2
        rw [if_pos c2] at e1
        have e01 : (0 : Int32) + 1 = 1 := by decide
        simp only [q_main, m_main, q_lo, i_ic, i_lc, i_nul, i_il, i_ll, i_al, i_is, i_as, i_ls, i_inc, i_iadd, i_isub, i_imul, i_iand, i_ior, i_ixor, i_idiv, i_irem, i_ishl, i_ishr, i_ladd, i_lsub, i_land, i_lor, i_i2l, i_lushr, i_lshl, i_lshr, i_lcmp, i_dup, i_pop, i_dx1, i_dup2, i_ifeq, i_ifne, i_iflt, i_ifge, i_ifgt, i_ifle, i_iceq, i_icne, i_iclt, i_icge, i_icgt, i_icle, i_ifn, i_gf, i_pf, i_ial, i_bal, i_lal, i_aal, i_ias, i_las, i_bas, i_aas, i_alen, i_newa, i_new, i_anew, i_cast, i_oi, i_call, i_callV, i_callV2, i_callI, i_iret, i_zret, i_lret, i_vret, i_aret, i_mmx, i_mmn, i_gsE, i_aceq, i_no, i_acq, i_sw, zsw, zlg, zls, znl, zfg, zcs, zsp, zrc, zisn, zft, zc1, zto, Value.category, List.set_cons_zero, List.set_cons_succ, List.length_cons, List.length_nil, Option.toList, List.append, List.nil_append, List.cons_append, true_and, and_true, Nat.add_zero, Nat.zero_le, Nat.zero_add, Nat.le_refl, Nat.reduceAdd, Nat.reduceLeDiff, co0, z0, zn_0, zn_1, zn_2, zn_3, zn_4, zn_5, zn_8, zn_12, zn_24, zn_121, zn_144, zn_256, zn_300, zn_600, zn_720, zn_1204, zn_1280, zn_2400, zn_4816, zn_14400, zn_90000, e01, ar_1]
        rw [nI_clamp (by omega)]
        refine ⟨m_k (by decide), vp_in_nI (by omega) (by decide), ?_⟩
        rw [mu_lo]
        simp only [i_ic, i_lc, i_nul, i_il, i_ll, i_al, i_is, i_as, i_ls, i_inc, i_iadd, i_isub, i_imul, i_iand, i_ior, i_ixor, i_idiv, i_irem, i_ishl, i_ishr, i_ladd, i_lsub, i_land, i_lor, i_i2l, i_lushr, i_lshl, i_lshr, i_lcmp, i_dup, i_pop, i_dx1, i_dup2, i_ifeq, i_ifne, i_iflt, i_ifge, i_ifgt, i_ifle, i_iceq, i_icne, i_iclt, i_icge, i_icgt, i_icle, i_ifn, i_gf, i_pf, i_ial, i_bal, i_lal, i_aal, i_ias, i_las, i_bas, i_aas, i_alen, i_newa, i_new, i_anew, i_cast, i_oi, i_call, i_callV, i_callV2, i_callI, i_iret, i_zret, i_lret, i_vret, i_aret, i_mmx, i_mmn, i_gsE, i_aceq, i_no, i_acq, i_sw, zsw, zlg, zls, znl, zfg, zcs, zsp, zrc, zisn, zft, zc1, zto, Value.category, List.set_cons_zero, List.set_cons_succ, List.length_cons, List.length_nil, Option.toList, List.append, List.nil_append, List.cons_append, true_and, and_true, Nat.add_zero, Nat.zero_le, Nat.zero_add, Nat.le_refl, Nat.reduceAdd, Nat.reduceLeDiff, co0, z0, zn_0, zn_1, zn_2, zn_3, zn_4, zn_5, zn_8, zn_12, zn_24, zn_121, zn_144, zn_256, zn_300, zn_600, zn_720, zn_1204, zn_1280, zn_2400, zn_4816, zn_14400, zn_90000, q_main, m_main, q_hi]
        rw [nI_clamp (by omega)]
        refine ⟨m_k (by decide), vp_in_nI (by omega) (by decide), ?_⟩
        rw [mu_hi]
        have hr := hR (vp_updL (vp_updL (y_lo y) a (-2147483648)) (a + 1) ((y_g y t 1).toInt64 + 1)) (vp_updL (vp_updL (y_hi y) a ((y_g y t 0).toInt64 - 1)) (a + 1) 2147483647) ⟨fun i hi => ?_, fun j hj => ⟨(updL_o (by omega)).trans (updL_o (by omega)), (updL_o (by omega)).trans (updL_o (by omega))⟩⟩
        · rw [e1] at hr
          exact hr
        · have : i = 0 ∨ i = 1 := by omega
          rcases this with rfl | rfl
          · refine ⟨?_, ?_⟩
            · exact (updL_o (by omega)).trans (updL_s.trans (by rw [eL, if_pos ⟨rfl, c1⟩]))
            · exact (updL_o (by omega)).trans (updL_s.trans (by rw [eH, if_pos ⟨rfl, c1⟩]))
          · rw [updL_s, updL_s, eL, eH, if_neg (fun z => absurd z.1 (by decide)), if_neg (fun z => absurd z.1 (by decide))]
            exact ⟨rfl, rfl⟩
  · have e1 : sN (y_kd y t) (y_mn y t) (y_g y t) = y_mn y t := by rw [sN, if_neg n0, if_neg n1, if_neg n2]
    have eL : ∀ i, sL (y_kd y t) (y_g y t) i = (y_g y t i).toInt64 := fun i => by rw [sL, if_neg n0, if_neg n1, if_neg n2]
    have eH : ∀ i, sH (y_kd y t) (y_g y t) i = (y_g y t i).toInt64 := fun i => by rw [sH, if_neg n0, if_neg n1, if_neg n2]
    have loop := upto (N := y_mn y t) (P := fun k => ∀ lo hi : Nat → Int64, (∀ i, i < k → lo (a + i) = (y_g y t i).toInt64 ∧ hi (a + i) = (y_g y t i).toInt64) → (∀ j, (j < a ∨ a + 4 ≤ j) → lo j = y_lo y j ∧ hi j = y_hi y j) → zG X 171 [some (.inr (30, 0, 0)), some (.inl (.int (nI t))), some (.inl (.int (nI a))), some (.inl (.long (-2147483648))), none, some (.inl (.long 2147483647)), none, some (.inl (.long (y_g y t 0).toInt64)), none, some (.inl (.long (y_g y t 1).toInt64)), none, some (.inl (.int 0)), some (.inl (.int (nI k)))] [] (mp (ys y lo hi)) 0 0) (fun k hk ih lo hi h1 h2 => by
      refine s_Mo_spans_171 hC hN _ _ _ _ _ ?_
      have c1 : y_mn (ys y lo hi) = y_mn y := rfl
      have c2 : y_nu (ys y lo hi) = y_nu y := rfl
      simp only [B_Mo_spans_0, B_Mo_spans_68, B_Mo_spans_85, B_Mo_spans_103, B_Mo_spans_130, B_Mo_spans_165, B_Mo_spans_168, B_Mo_spans_171, B_Mo_spans_227, co_Mo_spans, i_ic, i_lc, i_nul, i_il, i_ll, i_al, i_is, i_as, i_ls, i_inc, i_iadd, i_isub, i_imul, i_iand, i_ior, i_ixor, i_idiv, i_irem, i_ishl, i_ishr, i_ladd, i_lsub, i_land, i_lor, i_i2l, i_lushr, i_lshl, i_lshr, i_lcmp, i_dup, i_pop, i_dx1, i_dup2, i_ifeq, i_ifne, i_iflt, i_ifge, i_ifgt, i_ifle, i_iceq, i_icne, i_iclt, i_icge, i_icgt, i_icle, i_ifn, i_gf, i_pf, i_ial, i_bal, i_lal, i_aal, i_ias, i_las, i_bas, i_aas, i_alen, i_newa, i_new, i_anew, i_cast, i_oi, i_call, i_callV, i_callV2, i_callI, i_iret, i_zret, i_lret, i_vret, i_aret, i_mmx, i_mmn, i_gsE, i_aceq, i_no, i_acq, i_sw, zsw, zlg, zls, znl, zfg, zcs, zsp, zrc, zisn, zft, zc1, zto, Value.category, List.set_cons_zero, List.set_cons_succ, List.length_cons, List.length_nil, Option.toList, List.append, List.nil_append, List.cons_append, true_and, and_true, Nat.add_zero, Nat.zero_le, Nat.zero_add, Nat.le_refl, Nat.reduceAdd, Nat.reduceLeDiff, co0, z0, zn_0, zn_1, zn_2, zn_3, zn_4, zn_5, zn_8, zn_12, zn_24, zn_121, zn_144, zn_256, zn_300, zn_600, zn_720, zn_1204, zn_1280, zn_2400, zn_4816, zn_14400, zn_90000, q_main, m_main, q_mn, q_lo, q_nu, c1, c2, ar_4, ar_5, ar_12, ar_300, ar_600, ar_1200, ar_10, nI_add, ar_1, ar_2, ar_3, ar_2m]
      rw [nI_clamp (by omega), nI_clamp (by omega), nI_clamp (by omega)]
      refine ⟨vp_in_nI (by omega) (by decide), fun h => absurd ((zK (K := y_mn y t) (by omega) (n := k) (by omega)).2.1.mp h) (by omega), fun _ => ⟨vp_in_nI (by omega) (by decide), m_k (by decide), vp_in_nI (by omega) (by decide), ?_⟩⟩
      rw [mu_lo]
      simp only [i_ic, i_lc, i_nul, i_il, i_ll, i_al, i_is, i_as, i_ls, i_inc, i_iadd, i_isub, i_imul, i_iand, i_ior, i_ixor, i_idiv, i_irem, i_ishl, i_ishr, i_ladd, i_lsub, i_land, i_lor, i_i2l, i_lushr, i_lshl, i_lshr, i_lcmp, i_dup, i_pop, i_dx1, i_dup2, i_ifeq, i_ifne, i_iflt, i_ifge, i_ifgt, i_ifle, i_iceq, i_icne, i_iclt, i_icge, i_icgt, i_icle, i_ifn, i_gf, i_pf, i_ial, i_bal, i_lal, i_aal, i_ias, i_las, i_bas, i_aas, i_alen, i_newa, i_new, i_anew, i_cast, i_oi, i_call, i_callV, i_callV2, i_callI, i_iret, i_zret, i_lret, i_vret, i_aret, i_mmx, i_mmn, i_gsE, i_aceq, i_no, i_acq, i_sw, zsw, zlg, zls, znl, zfg, zcs, zsp, zrc, zisn, zft, zc1, zto, Value.category, List.set_cons_zero, List.set_cons_succ, List.length_cons, List.length_nil, Option.toList, List.append, List.nil_append, List.cons_append, true_and, and_true, Nat.add_zero, Nat.zero_le, Nat.zero_add, Nat.le_refl, Nat.reduceAdd, Nat.reduceLeDiff, co0, z0, zn_0, zn_1, zn_2, zn_3, zn_4, zn_5, zn_8, zn_12, zn_24, zn_121, zn_144, zn_256, zn_300, zn_600, zn_720, zn_1204, zn_1280, zn_2400, zn_4816, zn_14400, zn_90000, q_main, m_main, q_lo, q_hi]
      rw [nI_clamp (by omega)]
      refine ⟨vp_in_nI (by omega) (by decide), m_k (by decide), vp_in_nI (by omega) (by decide), ?_⟩
      rw [mu_hi]
      have el : y_lo (ys y lo hi) = lo := rfl
      have eh : y_hi (v_lo (ys y lo hi) (vp_updL lo (a + k) (y_nu y (4 * t + k)).toInt64)) = hi := rfl
      have hlo : y_lo (v_lo (ys y lo hi) (vp_updL lo (a + k) (y_nu y (4 * t + k)).toInt64)) = vp_updL lo (a + k) (y_nu y (4 * t + k)).toInt64 := rfl
      rw [el, hlo, updL_s, eh]
      refine ih (vp_updL lo (a + k) (y_nu y (4 * t + k)).toInt64) (vp_updL hi (a + k) (y_nu y (4 * t + k)).toInt64) (fun i hi2 => ?_) (fun j hj => ?_)
      · by_cases e : i = k
        · subst e
          rw [updL_s, updL_s]
          exact ⟨rfl, rfl⟩
        · rw [updL_o (by omega), updL_o (by omega)]
          exact h1 i (by omega)
      · rw [updL_o (by omega), updL_o (by omega)]
        exact h2 j hj) (fun lo hi h1 h2 => by
      refine s_Mo_spans_171 hC hN _ _ _ _ _ ?_
      have c1 : y_mn (ys y lo hi) = y_mn y := rfl
      simp only [B_Mo_spans_0, B_Mo_spans_68, B_Mo_spans_85, B_Mo_spans_103, B_Mo_spans_130, B_Mo_spans_165, B_Mo_spans_168, B_Mo_spans_171, B_Mo_spans_227, co_Mo_spans, i_ic, i_lc, i_nul, i_il, i_ll, i_al, i_is, i_as, i_ls, i_inc, i_iadd, i_isub, i_imul, i_iand, i_ior, i_ixor, i_idiv, i_irem, i_ishl, i_ishr, i_ladd, i_lsub, i_land, i_lor, i_i2l, i_lushr, i_lshl, i_lshr, i_lcmp, i_dup, i_pop, i_dx1, i_dup2, i_ifeq, i_ifne, i_iflt, i_ifge, i_ifgt, i_ifle, i_iceq, i_icne, i_iclt, i_icge, i_icgt, i_icle, i_ifn, i_gf, i_pf, i_ial, i_bal, i_lal, i_aal, i_ias, i_las, i_bas, i_aas, i_alen, i_newa, i_new, i_anew, i_cast, i_oi, i_call, i_callV, i_callV2, i_callI, i_iret, i_zret, i_lret, i_vret, i_aret, i_mmx, i_mmn, i_gsE, i_aceq, i_no, i_acq, i_sw, zsw, zlg, zls, znl, zfg, zcs, zsp, zrc, zisn, zft, zc1, zto, Value.category, List.set_cons_zero, List.set_cons_succ, List.length_cons, List.length_nil, Option.toList, List.append, List.nil_append, List.cons_append, true_and, and_true, Nat.add_zero, Nat.zero_le, Nat.zero_add, Nat.le_refl, Nat.reduceAdd, Nat.reduceLeDiff, co0, z0, zn_0, zn_1, zn_2, zn_3, zn_4, zn_5, zn_8, zn_12, zn_24, zn_121, zn_144, zn_256, zn_300, zn_600, zn_720, zn_1204, zn_1280, zn_2400, zn_4816, zn_14400, zn_90000, q_main, m_main, q_mn, c1, ar_4, ar_5, ar_12, ar_300, ar_600, ar_1200, ar_10, nI_add, ar_1, ar_2, ar_3, ar_2m]
      rw [nI_clamp (by omega)]
      refine ⟨vp_in_nI (by omega) (by decide), fun _ => ⟨vp_in_nI (by omega) (by decide), ?_⟩, fun h => absurd ((zK (K := y_mn y t) (by omega) (n := y_mn y t) (by omega)).2.1.mpr (Nat.le_refl _)) h⟩
      have hr := hR lo hi ⟨fun i hi2 => ?_, h2⟩
      · rw [e1] at hr
        exact hr
      · rw [eL, eH]
        exact h1 i (by omega)) 0 (Nat.zero_le _)
    exact loop (y_lo y) (y_hi y) (fun i hi => absurd hi (Nat.not_lt_zero i)) (fun j hj => ⟨rfl, rfl⟩)
/-! holds -/
noncomputable def y_cov (y : zMS) (t : Nat) (z : Int64) : Prop := ∃ i, i < sN (y_kd y t) (y_mn y t) (y_g y t) ∧ sL (y_kd y t) (y_g y t) i ≤ z ∧ z ≤ sH (y_kd y t) (y_g y t) i
noncomputable def y_hold (y : zMS) (t t' : Nat) : Bool := zd (∀ k, k < sN (y_kd y t') (y_mn y t') (y_g y t') → ∀ z : Int64, sL (y_kd y t') (y_g y t') k ≤ z → z ≤ sH (y_kd y t') (y_g y t') k → y_cov y t z)
/-- the last of the first n spans that holds x: where it ends, and one more -/
noncomputable def nx (L H : Nat → Int64) (x : Int64) : Nat → Int64
  | 0 => x
  | n + 1 => if L n ≤ x ∧ x ≤ H n then H n + 1 else nx L H x n
theorem l_le {a b : Int64} : a ≤ b ↔ a.toInt ≤ b.toInt := Int64.le_iff_toInt_le
theorem l_lt {a b : Int64} : a < b ↔ a.toInt < b.toInt := Int64.lt_iff_toInt_lt
theorem l_p1 {a : Int64} (h : a.toInt ≤ 2147483647) : (a + 1).toInt = a.toInt + 1 := by
  have h1 := a.toInt_lt
  have h2 := a.le_toInt
  rw [Int64.toInt_add]
  have : (1 : Int64).toInt = 1 := by decide
  rw [this]
  exact Int.bmod_eq_of_le (by omega) (by omega)
theorem nx_c (L H : Nat → Int64) (x : Int64) : ∀ n, (∀ i, i < n → (H i).toInt ≤ 2147483647) → (nx L H x n = x ∧ ∀ i, i < n → ¬ (L i ≤ x ∧ x ≤ H i)) ∨ ∃ i, i < n ∧ L i ≤ x ∧ x ≤ H i ∧ nx L H x n = H i + 1
  | 0, _ => Or.inl ⟨rfl, fun i hi => absurd hi (Nat.not_lt_zero i)⟩
  | n + 1, hb => by
    by_cases h : L n ≤ x ∧ x ≤ H n
    · exact Or.inr ⟨n, Nat.lt_succ_self _, h.1, h.2, by rw [nx, if_pos h]⟩
    · rcases nx_c L H x n (fun i hi => hb i (by omega)) with ⟨e, q⟩ | ⟨i, hi, q1, q2, e⟩
      · refine Or.inl ⟨by rw [nx, if_neg h]; exact e, fun i hi => ?_⟩
        by_cases e2 : i = n
        · rw [e2]; exact h
        · exact q i (by omega)
      · exact Or.inr ⟨i, by omega, q1, q2, by rw [nx, if_neg h]; exact e⟩
theorem i64_rng (x : Int32) : -2147483648 ≤ x.toInt64.toInt ∧ x.toInt64.toInt ≤ 2147483647 := by
  have h1 := x.toInt_lt
  have h2 := x.le_toInt
  rw [Int32.toInt_toInt64]
  omega
theorem sH_b (kd : Int32) (g : Nat → Int32) (i : Nat) : (sH kd g i).toInt ≤ 2147483647 := by
  unfold sH
  have h0 := i64_rng (g 0)
  have h1 := i64_rng (g 1)
  have hi := i64_rng (g i)
  split
  · decide
  · split
    · exact h1.2
    · split
      · split
        · next q =>
          have h2 : -2147483648 < (g 0).toInt64.toInt := l_lt.mp q.2
          have : ((g 0).toInt64 - 1).toInt = (g 0).toInt64.toInt - 1 := by
            rw [Int64.toInt_sub, show (1 : Int64).toInt = 1 by decide]
            exact Int.bmod_eq_of_le (by omega) (by omega)
          omega
        · decide
      · exact hi.2
def T_Mo_holds (As : List zAV) (M : zMp) (Rt : Option zAV → zMp → Prop) : Prop := ∃ y t t', As = [.inr (30, 0, 0), .inl (.int (nI t)), .inl (.int (nI t'))] ∧ M = mp y ∧ t < 1204 ∧ t' < 1204 ∧ y_tok y t ∧ y_tok y t' ∧ ∀ lo hi, Rt (some (.inl (.int (zb (y_hold y t t'))))) (mp (ys y lo hi))
abbrev co_Mo_holds := co0
theorem dX7_holds_0 : decode cX7_holds 0 = .ok (.aload_n 0, 1) := by decide +kernel
theorem dX7_holds_1 : decode cX7_holds 1 = .ok (.iload_n 1, 1) := by decide +kernel
theorem dX7_holds_2 : decode cX7_holds 2 = .ok (.iconst 0, 1) := by decide +kernel
theorem dX7_holds_3 : decode cX7_holds 3 = .ok (.invokevirtual 112, 3) := by decide +kernel
theorem dX7_holds_6 : decode cX7_holds 6 = .ok (.istore_n 3, 1) := by decide +kernel
theorem dX7_holds_7 : decode cX7_holds 7 = .ok (.aload_n 0, 1) := by decide +kernel
theorem dX7_holds_8 : decode cX7_holds 8 = .ok (.iload_n 2, 1) := by decide +kernel
theorem dX7_holds_9 : decode cX7_holds 9 = .ok (.iconst 4, 1) := by decide +kernel
theorem dX7_holds_10 : decode cX7_holds 10 = .ok (.invokevirtual 112, 3) := by decide +kernel
theorem dX7_holds_13 : decode cX7_holds 13 = .ok (.istore 4, 2) := by decide +kernel
theorem dX7_holds_15 : decode cX7_holds 15 = .ok (.iconst 4, 1) := by decide +kernel
theorem dX7_holds_16 : decode cX7_holds 16 = .ok (.istore 5, 2) := by decide +kernel
theorem dX7_holds_18 : decode cX7_holds 18 = .ok (.iload 5, 2) := by decide +kernel
theorem dX7_holds_20 : decode cX7_holds 20 = .ok (.iconst 4, 1) := by decide +kernel
theorem dX7_holds_21 : decode cX7_holds 21 = .ok (.iload 4, 2) := by decide +kernel
theorem dX7_holds_23 : decode cX7_holds 23 = .ok (.iadd, 1) := by decide +kernel
theorem dX7_holds_24 : decode cX7_holds 24 = .ok (.if_icmp .ge 104, 3) := by decide +kernel
theorem dX7_holds_27 : decode cX7_holds 27 = .ok (.aload_n 0, 1) := by decide +kernel
theorem dX7_holds_28 : decode cX7_holds 28 = .ok (.getfield 69, 3) := by decide +kernel
theorem dX7_holds_31 : decode cX7_holds 31 = .ok (.iload 5, 2) := by decide +kernel
theorem dX7_holds_33 : decode cX7_holds 33 = .ok (.laload, 1) := by decide +kernel
theorem dX7_holds_34 : decode cX7_holds 34 = .ok (.lstore 6, 2) := by decide +kernel
theorem dX7_holds_36 : decode cX7_holds 36 = .ok (.lload 6, 2) := by decide +kernel
theorem dX7_holds_38 : decode cX7_holds 38 = .ok (.aload_n 0, 1) := by decide +kernel
theorem dX7_holds_39 : decode cX7_holds 39 = .ok (.getfield 72, 3) := by decide +kernel
theorem dX7_holds_42 : decode cX7_holds 42 = .ok (.iload 5, 2) := by decide +kernel
theorem dX7_holds_44 : decode cX7_holds 44 = .ok (.laload, 1) := by decide +kernel
theorem dX7_holds_45 : decode cX7_holds 45 = .ok (.lcmp, 1) := by decide +kernel
theorem dX7_holds_46 : decode cX7_holds 46 = .ok (.ifCond .gt 76, 3) := by decide +kernel
theorem dX7_holds_49 : decode cX7_holds 49 = .ok (.lload 6, 2) := by decide +kernel
theorem dX7_holds_51 : decode cX7_holds 51 = .ok (.lstore 8, 2) := by decide +kernel
theorem dX7_holds_53 : decode cX7_holds 53 = .ok (.iconst 0, 1) := by decide +kernel
theorem dX7_holds_54 : decode cX7_holds 54 = .ok (.istore 10, 2) := by decide +kernel
theorem dX7_holds_56 : decode cX7_holds 56 = .ok (.iload 10, 2) := by decide +kernel
theorem dX7_holds_58 : decode cX7_holds 58 = .ok (.iload_n 3, 1) := by decide +kernel
theorem dX7_holds_59 : decode cX7_holds 59 = .ok (.if_icmp .ge 46, 3) := by decide +kernel
theorem dX7_holds_62 : decode cX7_holds 62 = .ok (.aload_n 0, 1) := by decide +kernel
theorem dX7_holds_63 : decode cX7_holds 63 = .ok (.getfield 69, 3) := by decide +kernel
theorem dX7_holds_66 : decode cX7_holds 66 = .ok (.iload 10, 2) := by decide +kernel
theorem dX7_holds_68 : decode cX7_holds 68 = .ok (.laload, 1) := by decide +kernel
theorem dX7_holds_69 : decode cX7_holds 69 = .ok (.lload 6, 2) := by decide +kernel
theorem dX7_holds_71 : decode cX7_holds 71 = .ok (.lcmp, 1) := by decide +kernel
theorem dX7_holds_72 : decode cX7_holds 72 = .ok (.ifCond .gt 27, 3) := by decide +kernel
theorem dX7_holds_75 : decode cX7_holds 75 = .ok (.lload 6, 2) := by decide +kernel
theorem dX7_holds_77 : decode cX7_holds 77 = .ok (.aload_n 0, 1) := by decide +kernel
theorem dX7_holds_78 : decode cX7_holds 78 = .ok (.getfield 72, 3) := by decide +kernel
theorem dX7_holds_81 : decode cX7_holds 81 = .ok (.iload 10, 2) := by decide +kernel
theorem dX7_holds_83 : decode cX7_holds 83 = .ok (.laload, 1) := by decide +kernel
theorem dX7_holds_84 : decode cX7_holds 84 = .ok (.lcmp, 1) := by decide +kernel
theorem dX7_holds_85 : decode cX7_holds 85 = .ok (.ifCond .gt 14, 3) := by decide +kernel
theorem dX7_holds_88 : decode cX7_holds 88 = .ok (.aload_n 0, 1) := by decide +kernel
theorem dX7_holds_89 : decode cX7_holds 89 = .ok (.getfield 72, 3) := by decide +kernel
theorem dX7_holds_92 : decode cX7_holds 92 = .ok (.iload 10, 2) := by decide +kernel
theorem dX7_holds_94 : decode cX7_holds 94 = .ok (.laload, 1) := by decide +kernel
theorem dX7_holds_95 : decode cX7_holds 95 = .ok (.lconst 1, 1) := by decide +kernel
theorem dX7_holds_96 : decode cX7_holds 96 = .ok (.ladd, 1) := by decide +kernel
theorem dX7_holds_97 : decode cX7_holds 97 = .ok (.lstore 8, 2) := by decide +kernel
theorem dX7_holds_99 : decode cX7_holds 99 = .ok (.iinc 10 1, 3) := by decide +kernel
theorem dX7_holds_102 : decode cX7_holds 102 = .ok (.goto (-46), 3) := by decide +kernel
theorem dX7_holds_105 : decode cX7_holds 105 = .ok (.lload 8, 2) := by decide +kernel
theorem dX7_holds_107 : decode cX7_holds 107 = .ok (.lload 6, 2) := by decide +kernel
theorem dX7_holds_109 : decode cX7_holds 109 = .ok (.lcmp, 1) := by decide +kernel
theorem dX7_holds_110 : decode cX7_holds 110 = .ok (.ifCond .ne 5, 3) := by decide +kernel
theorem dX7_holds_113 : decode cX7_holds 113 = .ok (.iconst 0, 1) := by decide +kernel
theorem dX7_holds_114 : decode cX7_holds 114 = .ok (.ireturn, 1) := by decide +kernel
theorem dX7_holds_115 : decode cX7_holds 115 = .ok (.lload 8, 2) := by decide +kernel
theorem dX7_holds_117 : decode cX7_holds 117 = .ok (.lstore 6, 2) := by decide +kernel
theorem dX7_holds_119 : decode cX7_holds 119 = .ok (.goto (-83), 3) := by decide +kernel
theorem dX7_holds_122 : decode cX7_holds 122 = .ok (.iinc 5 1, 3) := by decide +kernel
theorem dX7_holds_125 : decode cX7_holds 125 = .ok (.goto (-107), 3) := by decide +kernel
theorem dX7_holds_128 : decode cX7_holds 128 = .ok (.iconst 1, 1) := by decide +kernel
theorem dX7_holds_129 : decode cX7_holds 129 = .ok (.ireturn, 1) := by decide +kernel
def B_Mo_holds_128 (mc ms : Nat) (Rt : Option zAV → zMp → Prop) (g : Nat → zKT) : zKT :=
  (i_ic 1 (i_zret mc ms Rt))
set_option maxRecDepth 20000 in
theorem s_Mo_holds_128 {X : zMa} {mc ms : Nat} {Rt : Option zAV → zMp → Prop} (hC : zCx X RX7 cX7_holds 1 32 mc ms (some .boolean) false Rt) (hN : zNL X = 11) : zLe (B_Mo_holds_128 mc ms Rt (zG X)) (zG X 128) :=
  (sd_iconst hC (by decide) dX7_holds_128 ((sd_zret hC dX7_holds_129)))
def B_Mo_holds_122 (mc ms : Nat) (Rt : Option zAV → zMp → Prop) (g : Nat → zKT) : zKT :=
  (i_inc 5 1 (g 18))
set_option maxRecDepth 20000 in
theorem s_Mo_holds_122 {X : zMa} {mc ms : Nat} {Rt : Option zAV → zMp → Prop} (hC : zCx X RX7 cX7_holds 1 32 mc ms (some .boolean) false Rt) (hN : zNL X = 11) : zLe (B_Mo_holds_122 mc ms Rt (zG X)) (zG X 122) :=
  (sd_inc hC (by decide) (by rw [hN]; decide) dX7_holds_122 ((sd_goto hC (tgt := 18) (by decide) dX7_holds_125 (zLe_rfl))))
def B_Mo_holds_115 (mc ms : Nat) (Rt : Option zAV → zMp → Prop) (g : Nat → zKT) : zKT :=
  (i_ll 8 (i_ls 6 (g 36)))
set_option maxRecDepth 20000 in
theorem s_Mo_holds_115 {X : zMa} {mc ms : Nat} {Rt : Option zAV → zMp → Prop} (hC : zCx X RX7 cX7_holds 1 32 mc ms (some .boolean) false Rt) (hN : zNL X = 11) : zLe (B_Mo_holds_115 mc ms Rt (zG X)) (zG X 115) :=
  (sd_ll hC dX7_holds_115 ((sd_ls hC (by rw [hN]; decide) dX7_holds_117 ((sd_goto hC (tgt := 36) (by decide) dX7_holds_119 (zLe_rfl))))))
def B_Mo_holds_105 (mc ms : Nat) (Rt : Option zAV → zMp → Prop) (g : Nat → zKT) : zKT :=
  (i_ll 8 (i_ll 6 (i_lcmp (i_ifne (B_Mo_holds_115 mc ms Rt g) (i_ic 0 (i_zret mc ms Rt))))))
set_option maxRecDepth 20000 in
theorem s_Mo_holds_105 {X : zMa} {mc ms : Nat} {Rt : Option zAV → zMp → Prop} (hC : zCx X RX7 cX7_holds 1 32 mc ms (some .boolean) false Rt) (hN : zNL X = 11) : zLe (B_Mo_holds_105 mc ms Rt (zG X)) (zG X 105) :=
  (sd_ll hC dX7_holds_105 ((sd_ll hC dX7_holds_107 ((sd_lcmp hC dX7_holds_109 ((sd_ifne hC (tgt := 115) (by decide) dX7_holds_110 (s_Mo_holds_115 hC hN) ((sd_iconst hC (by decide) dX7_holds_113 ((sd_zret hC dX7_holds_114)))))))))))
def B_Mo_holds_99 (mc ms : Nat) (Rt : Option zAV → zMp → Prop) (g : Nat → zKT) : zKT :=
  (i_inc 10 1 (g 56))
set_option maxRecDepth 20000 in
theorem s_Mo_holds_99 {X : zMa} {mc ms : Nat} {Rt : Option zAV → zMp → Prop} (hC : zCx X RX7 cX7_holds 1 32 mc ms (some .boolean) false Rt) (hN : zNL X = 11) : zLe (B_Mo_holds_99 mc ms Rt (zG X)) (zG X 99) :=
  (sd_inc hC (by decide) (by rw [hN]; decide) dX7_holds_99 ((sd_goto hC (tgt := 56) (by decide) dX7_holds_102 (zLe_rfl))))
def B_Mo_holds_56 (mc ms : Nat) (Rt : Option zAV → zMp → Prop) (g : Nat → zKT) : zKT :=
  (i_il 10 (i_il 3 (i_icge (B_Mo_holds_105 mc ms Rt g) (i_al 0 (i_gf 8 27 (i_il 10 (i_lal (i_ll 6 (i_lcmp (i_ifgt (B_Mo_holds_99 mc ms Rt g) (i_ll 6 (i_al 0 (i_gf 8 28 (i_il 10 (i_lal (i_lcmp (i_ifgt (B_Mo_holds_99 mc ms Rt g) (i_al 0 (i_gf 8 28 (i_il 10 (i_lal (i_lc 1 (i_ladd (i_ls 8 (B_Mo_holds_99 mc ms Rt g)))))))))))))))))))))))))
set_option maxRecDepth 20000 in
theorem s_Mo_holds_56 {X : zMa} {mc ms : Nat} {Rt : Option zAV → zMp → Prop} (hC : zCx X RX7 cX7_holds 1 32 mc ms (some .boolean) false Rt) (hN : zNL X = 11) : zLe (B_Mo_holds_56 mc ms Rt (zG X)) (zG X 56) :=
  (sd_il hC dX7_holds_56 ((sd_il_n hC rfl dX7_holds_58 ((sd_icge hC (tgt := 105) (by decide) dX7_holds_59 (s_Mo_holds_105 hC hN) ((sd_al_n hC rfl dX7_holds_62 ((sd_gf hC (ci := 8) (fk := 27) rfl wi_Mo (by decide) fl_Mo_69 (Or.inl rfl) dX7_holds_63 ((sd_il hC dX7_holds_66 ((sd_lal hC dX7_holds_68 ((sd_ll hC dX7_holds_69 ((sd_lcmp hC dX7_holds_71 ((sd_ifgt hC (tgt := 99) (by decide) dX7_holds_72 (s_Mo_holds_99 hC hN) ((sd_ll hC dX7_holds_75 ((sd_al_n hC rfl dX7_holds_77 ((sd_gf hC (ci := 8) (fk := 28) rfl wi_Mo (by decide) fl_Mo_72 (Or.inl rfl) dX7_holds_78 ((sd_il hC dX7_holds_81 ((sd_lal hC dX7_holds_83 ((sd_lcmp hC dX7_holds_84 ((sd_ifgt hC (tgt := 99) (by decide) dX7_holds_85 (s_Mo_holds_99 hC hN) ((sd_al_n hC rfl dX7_holds_88 ((sd_gf hC (ci := 8) (fk := 28) rfl wi_Mo (by decide) fl_Mo_72 (Or.inl rfl) dX7_holds_89 ((sd_il hC dX7_holds_92 ((sd_lal hC dX7_holds_94 ((sd_lconst hC (by decide) dX7_holds_95 ((sd_ladd hC dX7_holds_96 ((sd_ls hC (by rw [hN]; decide) dX7_holds_97 (s_Mo_holds_99 hC hN))))))))))))))))))))))))))))))))))))))))))))))))
def B_Mo_holds_36 (mc ms : Nat) (Rt : Option zAV → zMp → Prop) (g : Nat → zKT) : zKT :=
  (i_ll 6 (i_al 0 (i_gf 8 28 (i_il 5 (i_lal (i_lcmp (i_ifgt (B_Mo_holds_122 mc ms Rt g) (i_ll 6 (i_ls 8 (i_ic 0 (i_is 10 (g 56))))))))))))
set_option maxRecDepth 20000 in
theorem s_Mo_holds_36 {X : zMa} {mc ms : Nat} {Rt : Option zAV → zMp → Prop} (hC : zCx X RX7 cX7_holds 1 32 mc ms (some .boolean) false Rt) (hN : zNL X = 11) : zLe (B_Mo_holds_36 mc ms Rt (zG X)) (zG X 36) :=
  (sd_ll hC dX7_holds_36 ((sd_al_n hC rfl dX7_holds_38 ((sd_gf hC (ci := 8) (fk := 28) rfl wi_Mo (by decide) fl_Mo_72 (Or.inl rfl) dX7_holds_39 ((sd_il hC dX7_holds_42 ((sd_lal hC dX7_holds_44 ((sd_lcmp hC dX7_holds_45 ((sd_ifgt hC (tgt := 122) (by decide) dX7_holds_46 (s_Mo_holds_122 hC hN) ((sd_ll hC dX7_holds_49 ((sd_ls hC (by rw [hN]; decide) dX7_holds_51 ((sd_iconst hC (by decide) dX7_holds_53 ((sd_is hC (by rw [hN]; decide) dX7_holds_54 (zLe_rfl))))))))))))))))))))))
def B_Mo_holds_18 (mc ms : Nat) (Rt : Option zAV → zMp → Prop) (g : Nat → zKT) : zKT :=
  (i_il 5 (i_ic 4 (i_il 4 (i_iadd (i_icge (B_Mo_holds_128 mc ms Rt g) (i_al 0 (i_gf 8 27 (i_il 5 (i_lal (i_ls 6 (g 36)))))))))))
set_option maxRecDepth 20000 in
theorem s_Mo_holds_18 {X : zMa} {mc ms : Nat} {Rt : Option zAV → zMp → Prop} (hC : zCx X RX7 cX7_holds 1 32 mc ms (some .boolean) false Rt) (hN : zNL X = 11) : zLe (B_Mo_holds_18 mc ms Rt (zG X)) (zG X 18) :=
  (sd_il hC dX7_holds_18 ((sd_iconst hC (by decide) dX7_holds_20 ((sd_il hC dX7_holds_21 ((sd_iadd hC dX7_holds_23 ((sd_icge hC (tgt := 128) (by decide) dX7_holds_24 (s_Mo_holds_128 hC hN) ((sd_al_n hC rfl dX7_holds_27 ((sd_gf hC (ci := 8) (fk := 27) rfl wi_Mo (by decide) fl_Mo_69 (Or.inl rfl) dX7_holds_28 ((sd_il hC dX7_holds_31 ((sd_lal hC dX7_holds_33 ((sd_ls hC (by rw [hN]; decide) dX7_holds_34 (zLe_rfl))))))))))))))))))))
def B_Mo_holds_0 (mc ms : Nat) (Rt : Option zAV → zMp → Prop) (g : Nat → zKT) : zKT :=
  (i_al 0 (i_il 1 (i_ic 0 (i_callV mc ms 8 3 T_Mo_spans co_Mo_spans (i_is 3 (i_al 0 (i_il 2 (i_ic 4 (i_callV mc ms 8 3 T_Mo_spans co_Mo_spans (i_is 4 (i_ic 4 (i_is 5 (g 18)))))))))))))
set_option maxRecDepth 20000 in
theorem s_Mo_holds_0 {X : zMa} {mc ms : Nat} {Rt : Option zAV → zMp → Prop} (hC : zCx X RX7 cX7_holds 1 32 mc ms (some .boolean) false Rt) (hN : zNL X = 11) : zLe (B_Mo_holds_0 mc ms Rt (zG X)) (zG X 0) :=
  (sd_al_n hC rfl dX7_holds_0 ((sd_il_n hC rfl dX7_holds_1 ((sd_iconst hC (by decide) dX7_holds_2 ((sd_cV hC c_Mo_spans yv_Mo_spans (ci := 8) rfl rfl ml_Mo_112 (by decide) (by decide) dX7_holds_3 ((sd_is_n hC rfl (by rw [hN]; decide) dX7_holds_6 ((sd_al_n hC rfl dX7_holds_7 ((sd_il_n hC rfl dX7_holds_8 ((sd_iconst hC (by decide) dX7_holds_9 ((sd_cV hC c_Mo_spans yv_Mo_spans (ci := 8) rfl rfl ml_Mo_112 (by decide) (by decide) dX7_holds_10 ((sd_is hC (by rw [hN]; decide) dX7_holds_13 ((sd_iconst hC (by decide) dX7_holds_15 ((sd_is hC (by rw [hN]; decide) dX7_holds_16 (zLe_rfl))))))))))))))))))))))))
theorem c_Mo_holds (l : Launch) : zCT l yX7_holds cX7_holds 11 (some .boolean) 1 32 T_Mo_holds co_Mo_holds := by
  intro As M Rt hT
  obtain ⟨y, t, t', rfl, rfl, ht, ht', hk, hk', hR⟩ := hT
  refine zMet_of false (by decide +kernel) (fun h => by first | rfl | cases h) (Nat.le_of_ble_eq_true rfl) (fun X hN hC => ?_)
  show zG X 0 [some (.inr (30, 0, 0)), some (.inl (.int (nI t))), some (.inl (.int (nI t'))), none, none, none, none, none, none, none, none] [] (mp y) 0 0
  refine s_Mo_holds_0 hC hN _ _ _ _ _ ?_
  simp only [B_Mo_holds_0, B_Mo_holds_18, B_Mo_holds_36, B_Mo_holds_56, B_Mo_holds_99, B_Mo_holds_105, B_Mo_holds_115, B_Mo_holds_122, B_Mo_holds_128, co_Mo_holds, co_Mo_spans, i_ic, i_lc, i_nul, i_il, i_ll, i_al, i_is, i_as, i_ls, i_inc, i_iadd, i_isub, i_imul, i_iand, i_ior, i_ixor, i_idiv, i_irem, i_ishl, i_ishr, i_ladd, i_lsub, i_land, i_lor, i_i2l, i_lushr, i_lshl, i_lshr, i_lcmp, i_dup, i_pop, i_dx1, i_dup2, i_ifeq, i_ifne, i_iflt, i_ifge, i_ifgt, i_ifle, i_iceq, i_icne, i_iclt, i_icge, i_icgt, i_icle, i_ifn, i_gf, i_pf, i_ial, i_bal, i_lal, i_aal, i_ias, i_las, i_bas, i_aas, i_alen, i_newa, i_new, i_anew, i_cast, i_oi, i_call, i_callV, i_callV2, i_callI, i_iret, i_zret, i_lret, i_vret, i_aret, i_mmx, i_mmn, i_gsE, i_aceq, i_no, i_acq, i_sw, zsw, zlg, zls, znl, zfg, zcs, zsp, zrc, zisn, zft, zc1, zto, Value.category, List.set_cons_zero, List.set_cons_succ, List.length_cons, List.length_nil, Option.toList, List.append, List.nil_append, List.cons_append, true_and, and_true, Nat.add_zero, Nat.zero_le, Nat.zero_add, Nat.le_refl, Nat.reduceAdd, Nat.reduceLeDiff, co0, z0, zn_0, zn_1, zn_2, zn_3, zn_4, zn_5, zn_8, zn_12, zn_24, zn_121, zn_144, zn_256, zn_300, zn_600, zn_720, zn_1204, zn_1280, zn_2400, zn_4816, zn_14400, zn_90000, q_main, m_main]
  refine ⟨y, t, 0, rfl, rfl, ht, by decide, hk, fun lo1 hi1 hs1 => ?_⟩
  simp only [q_main, m_main, i_ic, i_lc, i_nul, i_il, i_ll, i_al, i_is, i_as, i_ls, i_inc, i_iadd, i_isub, i_imul, i_iand, i_ior, i_ixor, i_idiv, i_irem, i_ishl, i_ishr, i_ladd, i_lsub, i_land, i_lor, i_i2l, i_lushr, i_lshl, i_lshr, i_lcmp, i_dup, i_pop, i_dx1, i_dup2, i_ifeq, i_ifne, i_iflt, i_ifge, i_ifgt, i_ifle, i_iceq, i_icne, i_iclt, i_icge, i_icgt, i_icle, i_ifn, i_gf, i_pf, i_ial, i_bal, i_lal, i_aal, i_ias, i_las, i_bas, i_aas, i_alen, i_newa, i_new, i_anew, i_cast, i_oi, i_call, i_callV, i_callV2, i_callI, i_iret, i_zret, i_lret, i_vret, i_aret, i_mmx, i_mmn, i_gsE, i_aceq, i_no, i_acq, i_sw, zsw, zlg, zls, znl, zfg, zcs, zsp, zrc, zisn, zft, zc1, zto, Value.category, List.set_cons_zero, List.set_cons_succ, List.length_cons, List.length_nil, Option.toList, List.append, List.nil_append, List.cons_append, true_and, and_true, Nat.add_zero, Nat.zero_le, Nat.zero_add, Nat.le_refl, Nat.reduceAdd, Nat.reduceLeDiff, co0, z0, zn_0, zn_1, zn_2, zn_3, zn_4, zn_5, zn_8, zn_12, zn_24, zn_121, zn_144, zn_256, zn_300, zn_600, zn_720, zn_1204, zn_1280, zn_2400, zn_4816, zn_14400, zn_90000]
  refine ⟨ys y lo1 hi1, t', 4, rfl, rfl, ht', by decide, hk', fun lo2 hi2 hs2 => ?_⟩
  rw [show ys (ys y lo1 hi1) lo2 hi2 = ys y lo2 hi2 from rfl]
  have hn4 := sN_le (kd := y_kd y t) (g := y_g y t) hk.2
  have hm4 := sN_le (kd := y_kd y t') (g := y_g y t') hk'.2
  have f1 : ∀ i, i < sN (y_kd y t) (y_mn y t) (y_g y t) → lo2 i = sL (y_kd y t) (y_g y t) i ∧ hi2 i = sH (y_kd y t) (y_g y t) i := fun i hi => by
    have a1 := hs1.1 i hi
    have a2 := hs2.2 i (Or.inl (by omega))
    rw [Nat.zero_add] at a1
    exact ⟨a2.1.trans a1.1, a2.2.trans a1.2⟩
  have f2 : ∀ k, k < sN (y_kd y t') (y_mn y t') (y_g y t') → lo2 (4 + k) = sL (y_kd y t') (y_g y t') k ∧ hi2 (4 + k) = sH (y_kd y t') (y_g y t') k := fun k hkk => hs2.1 k hkk
  have hR2 := hR lo2 hi2
  unfold y_hold y_cov at hR2
  have hb := fun i => sH_b (y_kd y t) (y_g y t) i
  rw [show sN (y_kd (ys y lo1 hi1) t') (y_mn (ys y lo1 hi1) t') (y_g (ys y lo1 hi1) t') = sN (y_kd y t') (y_mn y t') (y_g y t') from rfl]
  generalize sN (y_kd y t) (y_mn y t) (y_g y t) = n at hn4 f1 hR2
  generalize sN (y_kd y t') (y_mn y t') (y_g y t') = m at hm4 f2 hR2
  generalize hLd : sL (y_kd y t) (y_g y t) = L at f1 hR2
  generalize hHd : sH (y_kd y t) (y_g y t) = H at f1 hR2 hb
  generalize sL (y_kd y t') (y_g y t') = L' at f2 hR2
  generalize sH (y_kd y t') (y_g y t') = H' at f2 hR2
  clear hs1 hs2 hR hLd hHd
  have cl : y_lo (ys y lo2 hi2) = lo2 := rfl
  have ch : y_hi (ys y lo2 hi2) = hi2 := rfl
  have e4 : (4 : Int32) + nI m = nI (4 + m) := by rw [show (4 : Int32) = nI 4 from rfl, nI_add]
  -- the loop over the other's spans
  have outer := upto (N := m) (P := fun k => (∀ j, j < k → ∀ z : Int64, L' j ≤ z → z ≤ H' j → ∃ i, i < n ∧ L i ≤ z ∧ z ≤ H i) → ∀ j6 j7 j8 j9 j10 : Option zAV, zG X 18 [some (.inr (30, 0, 0)), some (.inl (.int (nI t))), some (.inl (.int (nI t'))), some (.inl (.int (nI n))), some (.inl (.int (nI m))), some (.inl (.int (nI (4 + k)))), j6, j7, j8, j9, j10] [] (mp (ys y lo2 hi2)) 0 0) (fun k hkm ih hp j6 j7 j8 j9 j10 => by
    obtain ⟨g1, g2⟩ := f2 k hkm
    -- the while loop
    have body : ∀ x : Int64, L' k ≤ x → (∀ z : Int64, L' k ≤ z → z < x → z ≤ H' k → ∃ i, i < n ∧ L i ≤ z ∧ z ≤ H i) → (∀ x' : Int64, x ≠ x' → nx L H x n = x' → ∀ j8 j9 j10 : Option zAV, zG X 36 [some (.inr (30, 0, 0)), some (.inl (.int (nI t))), some (.inl (.int (nI t'))), some (.inl (.int (nI n))), some (.inl (.int (nI m))), some (.inl (.int (nI (4 + k)))), some (.inl (.long x')), none, j8, j9, j10] [] (mp (ys y lo2 hi2)) 0 0) → ∀ j8 j9 j10 : Option zAV, zG X 36 [some (.inr (30, 0, 0)), some (.inl (.int (nI t))), some (.inl (.int (nI t'))), some (.inl (.int (nI n))), some (.inl (.int (nI m))), some (.inl (.int (nI (4 + k)))), some (.inl (.long x)), none, j8, j9, j10] [] (mp (ys y lo2 hi2)) 0 0 := by
      intro x hL hcv hgo j8 j9 j10
      refine s_Mo_holds_36 hC hN _ _ _ _ _ ?_
      simp only [B_Mo_holds_0, B_Mo_holds_18, B_Mo_holds_36, B_Mo_holds_56, B_Mo_holds_99, B_Mo_holds_105, B_Mo_holds_115, B_Mo_holds_122, B_Mo_holds_128, co_Mo_holds, co_Mo_spans, i_ic, i_lc, i_nul, i_il, i_ll, i_al, i_is, i_as, i_ls, i_inc, i_iadd, i_isub, i_imul, i_iand, i_ior, i_ixor, i_idiv, i_irem, i_ishl, i_ishr, i_ladd, i_lsub, i_land, i_lor, i_i2l, i_lushr, i_lshl, i_lshr, i_lcmp, i_dup, i_pop, i_dx1, i_dup2, i_ifeq, i_ifne, i_iflt, i_ifge, i_ifgt, i_ifle, i_iceq, i_icne, i_iclt, i_icge, i_icgt, i_icle, i_ifn, i_gf, i_pf, i_ial, i_bal, i_lal, i_aal, i_ias, i_las, i_bas, i_aas, i_alen, i_newa, i_new, i_anew, i_cast, i_oi, i_call, i_callV, i_callV2, i_callI, i_iret, i_zret, i_lret, i_vret, i_aret, i_mmx, i_mmn, i_gsE, i_aceq, i_no, i_acq, i_sw, zsw, zlg, zls, znl, zfg, zcs, zsp, zrc, zisn, zft, zc1, zto, Value.category, List.set_cons_zero, List.set_cons_succ, List.length_cons, List.length_nil, Option.toList, List.append, List.nil_append, List.cons_append, true_and, and_true, Nat.add_zero, Nat.zero_le, Nat.zero_add, Nat.le_refl, Nat.reduceAdd, Nat.reduceLeDiff, co0, z0, zn_0, zn_1, zn_2, zn_3, zn_4, zn_5, zn_8, zn_12, zn_24, zn_121, zn_144, zn_256, zn_300, zn_600, zn_720, zn_1204, zn_1280, zn_2400, zn_4816, zn_14400, zn_90000, q_main, m_main, q_hi, ch]
      rw [nI_clamp (by omega), lg_cmp_gt, nI_1, g2]
      refine ⟨vp_in_nI (by omega) (by decide), fun hgt => ?_, fun hle => ?_⟩
      · refine ih (fun j hj z z1 z2 => ?_) _ _ _ _ _
        by_cases ej : j = k
        · subst ej
          exact hcv z z1 (l_lt.mpr (by have := l_le.mp z2; have := l_lt.mp hgt; omega)) z2
        · exact hp j (by omega) z z1 z2
      · have hle := Int64.not_lt.mp hle
        have lp := upto (N := n) (P := fun i => zG X 56 [some (.inr (30, 0, 0)), some (.inl (.int (nI t))), some (.inl (.int (nI t'))), some (.inl (.int (nI n))), some (.inl (.int (nI m))), some (.inl (.int (nI (4 + k)))), some (.inl (.long x)), none, some (.inl (.long (nx L H x i))), none, some (.inl (.int (nI i)))] [] (mp (ys y lo2 hi2)) 0 0) (fun i hi ih2 => by
          obtain ⟨a1, a2⟩ := f1 i hi
          refine s_Mo_holds_56 hC hN _ _ _ _ _ ?_
          simp only [B_Mo_holds_0, B_Mo_holds_18, B_Mo_holds_36, B_Mo_holds_56, B_Mo_holds_99, B_Mo_holds_105, B_Mo_holds_115, B_Mo_holds_122, B_Mo_holds_128, co_Mo_holds, co_Mo_spans, i_ic, i_lc, i_nul, i_il, i_ll, i_al, i_is, i_as, i_ls, i_inc, i_iadd, i_isub, i_imul, i_iand, i_ior, i_ixor, i_idiv, i_irem, i_ishl, i_ishr, i_ladd, i_lsub, i_land, i_lor, i_i2l, i_lushr, i_lshl, i_lshr, i_lcmp, i_dup, i_pop, i_dx1, i_dup2, i_ifeq, i_ifne, i_iflt, i_ifge, i_ifgt, i_ifle, i_iceq, i_icne, i_iclt, i_icge, i_icgt, i_icle, i_ifn, i_gf, i_pf, i_ial, i_bal, i_lal, i_aal, i_ias, i_las, i_bas, i_aas, i_alen, i_newa, i_new, i_anew, i_cast, i_oi, i_call, i_callV, i_callV2, i_callI, i_iret, i_zret, i_lret, i_vret, i_aret, i_mmx, i_mmn, i_gsE, i_aceq, i_no, i_acq, i_sw, zsw, zlg, zls, znl, zfg, zcs, zsp, zrc, zisn, zft, zc1, zto, Value.category, List.set_cons_zero, List.set_cons_succ, List.length_cons, List.length_nil, Option.toList, List.append, List.nil_append, List.cons_append, true_and, and_true, Nat.add_zero, Nat.zero_le, Nat.zero_add, Nat.le_refl, Nat.reduceAdd, Nat.reduceLeDiff, co0, z0, zn_0, zn_1, zn_2, zn_3, zn_4, zn_5, zn_8, zn_12, zn_24, zn_121, zn_144, zn_256, zn_300, zn_600, zn_720, zn_1204, zn_1280, zn_2400, zn_4816, zn_14400, zn_90000, q_main, m_main, q_lo, q_hi, cl, ch]
          rw [nI_clamp (by omega), lg_cmp_gt, lg_cmp_gt, nI_1, a1, a2]
          simp only [nx] at ih2
          refine ⟨fun h => absurd ((zK (K := n) (by omega) (n := i) (by omega)).2.1.mp h) (by omega), fun _ => ⟨vp_in_nI (by omega) (by decide), fun h1 => ?_, fun h1 => ⟨vp_in_nI (by omega) (by decide), fun h2 => ?_, fun h2 => ⟨vp_in_nI (by omega) (by decide), ?_⟩⟩⟩⟩
          · rw [if_neg (fun q => absurd h1 (Int64.not_lt.mpr q.1))] at ih2
            exact ih2
          · rw [if_neg (fun q => absurd h2 (Int64.not_lt.mpr q.2))] at ih2
            exact ih2
          · rw [if_pos ⟨Int64.not_lt.mp h1, Int64.not_lt.mp h2⟩] at ih2
            exact ih2) (by
          refine s_Mo_holds_56 hC hN _ _ _ _ _ ?_
          simp only [B_Mo_holds_0, B_Mo_holds_18, B_Mo_holds_36, B_Mo_holds_56, B_Mo_holds_99, B_Mo_holds_105, B_Mo_holds_115, B_Mo_holds_122, B_Mo_holds_128, co_Mo_holds, co_Mo_spans, i_ic, i_lc, i_nul, i_il, i_ll, i_al, i_is, i_as, i_ls, i_inc, i_iadd, i_isub, i_imul, i_iand, i_ior, i_ixor, i_idiv, i_irem, i_ishl, i_ishr, i_ladd, i_lsub, i_land, i_lor, i_i2l, i_lushr, i_lshl, i_lshr, i_lcmp, i_dup, i_pop, i_dx1, i_dup2, i_ifeq, i_ifne, i_iflt, i_ifge, i_ifgt, i_ifle, i_iceq, i_icne, i_iclt, i_icge, i_icgt, i_icle, i_ifn, i_gf, i_pf, i_ial, i_bal, i_lal, i_aal, i_ias, i_las, i_bas, i_aas, i_alen, i_newa, i_new, i_anew, i_cast, i_oi, i_call, i_callV, i_callV2, i_callI, i_iret, i_zret, i_lret, i_vret, i_aret, i_mmx, i_mmn, i_gsE, i_aceq, i_no, i_acq, i_sw, zsw, zlg, zls, znl, zfg, zcs, zsp, zrc, zisn, zft, zc1, zto, Value.category, List.set_cons_zero, List.set_cons_succ, List.length_cons, List.length_nil, Option.toList, List.append, List.nil_append, List.cons_append, true_and, and_true, Nat.add_zero, Nat.zero_le, Nat.zero_add, Nat.le_refl, Nat.reduceAdd, Nat.reduceLeDiff, co0, z0, zn_0, zn_1, zn_2, zn_3, zn_4, zn_5, zn_8, zn_12, zn_24, zn_121, zn_144, zn_256, zn_300, zn_600, zn_720, zn_1204, zn_1280, zn_2400, zn_4816, zn_14400, zn_90000]
          rw [lg_cmp_eq]
          refine ⟨fun _ => ⟨fun hne => hgo _ (fun q => hne q.symm) rfl _ _ _, fun he => ⟨by decide, ?_⟩⟩, fun h => absurd ((zK (K := n) (by omega) (n := n) (by omega)).2.1.mpr (Nat.le_refl _)) h⟩
          rcases nx_c L H x n (fun i _ => hb i) with ⟨_, q⟩ | ⟨i, hi, q1, q2, e⟩
          · rw [zd_f (fun z => by
              obtain ⟨i, hi, w1, w2⟩ := z k hkm x hL hle
              exact q i hi ⟨w1, w2⟩)] at hR2
            exact hR2
          · have b3 := l_p1 (hb i)
            have b4 := l_le.mp q2
            rw [e] at he
            rw [← he, b3] at b4
            omega) 0 (Nat.zero_le _)
        exact lp
    have inner : ∀ (c : Nat) (x : Int64), (2147483648 - x.toInt).toNat ≤ c → L' k ≤ x → (∀ z : Int64, L' k ≤ z → z < x → z ≤ H' k → ∃ i, i < n ∧ L i ≤ z ∧ z ≤ H i) → ∀ j8 j9 j10 : Option zAV, zG X 36 [some (.inr (30, 0, 0)), some (.inl (.int (nI t))), some (.inl (.int (nI t'))), some (.inl (.int (nI n))), some (.inl (.int (nI m))), some (.inl (.int (nI (4 + k)))), some (.inl (.long x)), none, j8, j9, j10] [] (mp (ys y lo2 hi2)) 0 0 := by
      intro c
      induction c with
      | zero =>
        intro x hc hL hcv j8 j9 j10
        have step : ∀ x' : Int64, x ≠ x' → nx L H x n = x' → False := by
          intro x' hne he
          rcases nx_c L H x n (fun i _ => hb i) with ⟨e, _⟩ | ⟨i, _, _, q2, _⟩
          · exact hne (e.symm.trans he)
          · have := l_le.mp q2
            have := hb i
            omega
        refine body x hL hcv (fun x' hne he => (step x' hne he).elim) j8 j9 j10
      | succ c ihc =>
        intro x hc hL hcv j8 j9 j10
        refine body x hL hcv (fun x' hne he j8' j9' j10' => ?_) j8 j9 j10
        rcases nx_c L H x n (fun i _ => hb i) with ⟨e, _⟩ | ⟨i, hi, q1, q2, e⟩
        · exact absurd (e.symm.trans he) hne
        · have b1 := l_le.mp q2
          have b2 := hb i
          have b3 := l_p1 b2
          have e' : x' = H i + 1 := he.symm.trans e
          subst e'
          refine ihc (H i + 1) (by rw [b3]; omega) (l_le.mpr (by have := l_le.mp hL; rw [b3]; omega)) (fun z z1 z2 z3 => ?_) j8' j9' j10'
          by_cases hz : z < x
          · exact hcv z z1 hz z3
          · have hz2 := Int64.not_lt.mp hz
            have z2' := l_lt.mp z2
            rw [b3] at z2'
            exact ⟨i, hi, l_le.mpr (by have := l_le.mp q1; have := l_le.mp hz2; omega), l_le.mpr (by omega)⟩
    refine s_Mo_holds_18 hC hN _ _ _ _ _ ?_
    simp only [B_Mo_holds_0, B_Mo_holds_18, B_Mo_holds_36, B_Mo_holds_56, B_Mo_holds_99, B_Mo_holds_105, B_Mo_holds_115, B_Mo_holds_122, B_Mo_holds_128, co_Mo_holds, co_Mo_spans, i_ic, i_lc, i_nul, i_il, i_ll, i_al, i_is, i_as, i_ls, i_inc, i_iadd, i_isub, i_imul, i_iand, i_ior, i_ixor, i_idiv, i_irem, i_ishl, i_ishr, i_ladd, i_lsub, i_land, i_lor, i_i2l, i_lushr, i_lshl, i_lshr, i_lcmp, i_dup, i_pop, i_dx1, i_dup2, i_ifeq, i_ifne, i_iflt, i_ifge, i_ifgt, i_ifle, i_iceq, i_icne, i_iclt, i_icge, i_icgt, i_icle, i_ifn, i_gf, i_pf, i_ial, i_bal, i_lal, i_aal, i_ias, i_las, i_bas, i_aas, i_alen, i_newa, i_new, i_anew, i_cast, i_oi, i_call, i_callV, i_callV2, i_callI, i_iret, i_zret, i_lret, i_vret, i_aret, i_mmx, i_mmn, i_gsE, i_aceq, i_no, i_acq, i_sw, zsw, zlg, zls, znl, zfg, zcs, zsp, zrc, zisn, zft, zc1, zto, Value.category, List.set_cons_zero, List.set_cons_succ, List.length_cons, List.length_nil, Option.toList, List.append, List.nil_append, List.cons_append, true_and, and_true, Nat.add_zero, Nat.zero_le, Nat.zero_add, Nat.le_refl, Nat.reduceAdd, Nat.reduceLeDiff, co0, z0, zn_0, zn_1, zn_2, zn_3, zn_4, zn_5, zn_8, zn_12, zn_24, zn_121, zn_144, zn_256, zn_300, zn_600, zn_720, zn_1204, zn_1280, zn_2400, zn_4816, zn_14400, zn_90000, q_main, m_main, q_lo, cl, e4]
    rw [nI_clamp (by omega)]
    rw [g1]
    refine ⟨fun h => absurd ((zK (K := 4 + m) (by omega) (n := 4 + k) (by omega)).2.1.mp h) (by omega), fun _ => ⟨vp_in_nI (by omega) (by decide), ?_⟩⟩
    exact inner _ (L' k) (Nat.le_refl _) (Int64.le_refl _) (fun z z1 z2 _ => absurd z2 (Int64.not_lt.mpr z1)) _ _ _) (fun hp j6 j7 j8 j9 j10 => by
    refine s_Mo_holds_18 hC hN _ _ _ _ _ ?_
    simp only [B_Mo_holds_0, B_Mo_holds_18, B_Mo_holds_36, B_Mo_holds_56, B_Mo_holds_99, B_Mo_holds_105, B_Mo_holds_115, B_Mo_holds_122, B_Mo_holds_128, co_Mo_holds, co_Mo_spans, i_ic, i_lc, i_nul, i_il, i_ll, i_al, i_is, i_as, i_ls, i_inc, i_iadd, i_isub, i_imul, i_iand, i_ior, i_ixor, i_idiv, i_irem, i_ishl, i_ishr, i_ladd, i_lsub, i_land, i_lor, i_i2l, i_lushr, i_lshl, i_lshr, i_lcmp, i_dup, i_pop, i_dx1, i_dup2, i_ifeq, i_ifne, i_iflt, i_ifge, i_ifgt, i_ifle, i_iceq, i_icne, i_iclt, i_icge, i_icgt, i_icle, i_ifn, i_gf, i_pf, i_ial, i_bal, i_lal, i_aal, i_ias, i_las, i_bas, i_aas, i_alen, i_newa, i_new, i_anew, i_cast, i_oi, i_call, i_callV, i_callV2, i_callI, i_iret, i_zret, i_lret, i_vret, i_aret, i_mmx, i_mmn, i_gsE, i_aceq, i_no, i_acq, i_sw, zsw, zlg, zls, znl, zfg, zcs, zsp, zrc, zisn, zft, zc1, zto, Value.category, List.set_cons_zero, List.set_cons_succ, List.length_cons, List.length_nil, Option.toList, List.append, List.nil_append, List.cons_append, true_and, and_true, Nat.add_zero, Nat.zero_le, Nat.zero_add, Nat.le_refl, Nat.reduceAdd, Nat.reduceLeDiff, co0, z0, zn_0, zn_1, zn_2, zn_3, zn_4, zn_5, zn_8, zn_12, zn_24, zn_121, zn_144, zn_256, zn_300, zn_600, zn_720, zn_1204, zn_1280, zn_2400, zn_4816, zn_14400, zn_90000, e4]
    refine ⟨fun _ => ⟨by decide, ?_⟩, fun h => absurd ((zK (K := 4 + m) (by omega) (n := 4 + m) (by omega)).2.1.mpr (by omega)) h⟩
    rw [zd_t (fun k hkk => hp k hkk)] at hR2
    exact hR2) 0 (Nat.zero_le _)
  exact outer (fun j hj => absurd hj (Nat.not_lt_zero j)) _ _ _ _ _
