/-! java.util.ArrayList and what it calls -/
abbrev sOb : String := "java/lang/Object"
abbrev zoa (cap : Nat) (f : Nat → Option zNm) : zAE := .inl (.object "java/lang/Object", cap, .inr (.inr f))
abbrev zal (c : Int32) (d : zNm) (n : Nat) : zAE := .inr (0, [.inl (.int c), .inr d, .inl (.int (nI n))])
def T_Prec_checkIndex (As : List zAV) (M : zMp) (Rt : Option zAV → zMp → Prop) : Prop := ∃ i n, As = [.inl (.int (nI i)), .inl (.int (nI n)), .inl .null] ∧ i < n ∧ n < 2 ^ 31 ∧ Rt (some (.inl (.int (nI i)))) M
abbrev co_Prec_checkIndex := co0
theorem dJ3_checkIndex_8e157_0 : decode cJ3_checkIndex_8e157 0 = .ok (.iload_n 0, 1) := by decide +kernel
theorem dJ3_checkIndex_8e157_1 : decode cJ3_checkIndex_8e157 1 = .ok (.ifCond .lt 8, 3) := by decide +kernel
theorem dJ3_checkIndex_8e157_4 : decode cJ3_checkIndex_8e157 4 = .ok (.iload_n 0, 1) := by decide +kernel
theorem dJ3_checkIndex_8e157_5 : decode cJ3_checkIndex_8e157 5 = .ok (.iload_n 1, 1) := by decide +kernel
theorem dJ3_checkIndex_8e157_6 : decode cJ3_checkIndex_8e157 6 = .ok (.if_icmp .lt 10, 3) := by decide +kernel
theorem dJ3_checkIndex_8e157_9 : decode cJ3_checkIndex_8e157 9 = .ok (.aload_n 2, 1) := by decide +kernel
theorem dJ3_checkIndex_8e157_10 : decode cJ3_checkIndex_8e157 10 = .ok (.iload_n 0, 1) := by decide +kernel
theorem dJ3_checkIndex_8e157_11 : decode cJ3_checkIndex_8e157 11 = .ok (.iload_n 1, 1) := by decide +kernel
theorem dJ3_checkIndex_8e157_12 : decode cJ3_checkIndex_8e157 12 = .ok (.invokestatic 95, 3) := by decide +kernel
theorem dJ3_checkIndex_8e157_15 : decode cJ3_checkIndex_8e157 15 = .ok (.athrow, 1) := by decide +kernel
theorem dJ3_checkIndex_8e157_16 : decode cJ3_checkIndex_8e157 16 = .ok (.iload_n 0, 1) := by decide +kernel
theorem dJ3_checkIndex_8e157_17 : decode cJ3_checkIndex_8e157 17 = .ok (.ireturn, 1) := by decide +kernel
def B_Prec_checkIndex_16 (mc ms : Nat) (Rt : Option zAV → zMp → Prop) (g : Nat → zKT) : zKT :=
  (i_il 0 (i_iret mc ms Rt))
set_option maxRecDepth 20000 in
theorem s_Prec_checkIndex_16 {X : zMa} {mc ms : Nat} {Rt : Option zAV → zMp → Prop} (hC : zCx X RJ3 cJ3_checkIndex_8e157 0 0 mc ms (some .int) false Rt) : zLe (B_Prec_checkIndex_16 mc ms Rt (zG X)) (zG X 16) :=
  (sd_il_n hC rfl dJ3_checkIndex_8e157_16 ((sd_iret hC dJ3_checkIndex_8e157_17)))
def B_Prec_checkIndex_9 (mc ms : Nat) (Rt : Option zAV → zMp → Prop) (g : Nat → zKT) : zKT :=
  (i_al 2 (i_il 0 (i_il 1 i_no)))
set_option maxRecDepth 20000 in
theorem s_Prec_checkIndex_9 {X : zMa} {mc ms : Nat} {Rt : Option zAV → zMp → Prop} (hC : zCx X RJ3 cJ3_checkIndex_8e157 0 0 mc ms (some .int) false Rt) : zLe (B_Prec_checkIndex_9 mc ms Rt (zG X)) (zG X 9) :=
  (sd_al_n hC rfl dJ3_checkIndex_8e157_9 ((sd_il_n hC rfl dJ3_checkIndex_8e157_10 ((sd_il_n hC rfl dJ3_checkIndex_8e157_11 (zNo))))))
def B_Prec_checkIndex_0 (mc ms : Nat) (Rt : Option zAV → zMp → Prop) (g : Nat → zKT) : zKT :=
  (i_il 0 (i_iflt (B_Prec_checkIndex_9 mc ms Rt g) (i_il 0 (i_il 1 (i_iclt (B_Prec_checkIndex_16 mc ms Rt g) (B_Prec_checkIndex_9 mc ms Rt g))))))
set_option maxRecDepth 20000 in
theorem s_Prec_checkIndex_0 {X : zMa} {mc ms : Nat} {Rt : Option zAV → zMp → Prop} (hC : zCx X RJ3 cJ3_checkIndex_8e157 0 0 mc ms (some .int) false Rt) : zLe (B_Prec_checkIndex_0 mc ms Rt (zG X)) (zG X 0) :=
  (sd_il_n hC rfl dJ3_checkIndex_8e157_0 ((sd_iflt hC (tgt := 9) (by decide) dJ3_checkIndex_8e157_1 (s_Prec_checkIndex_9 hC) ((sd_il_n hC rfl dJ3_checkIndex_8e157_4 ((sd_il_n hC rfl dJ3_checkIndex_8e157_5 ((sd_iclt hC (tgt := 16) (by decide) dJ3_checkIndex_8e157_6 (s_Prec_checkIndex_16 hC) (s_Prec_checkIndex_9 hC))))))))))
theorem c_Prec_checkIndex (l : Launch) : zCT l yJ3_checkIndex_8e157 cJ3_checkIndex_8e157 3 (some .int) 0 0 T_Prec_checkIndex co_Prec_checkIndex := by
  intro As M Rt hT
  obtain ⟨i, n, rfl, h1, h2, hR⟩ := hT
  refine zMet_of false (by decide +kernel) (fun h => by first | rfl | cases h) (Nat.le_of_ble_eq_true rfl) (fun X hN hC => ?_)
  show zG X 0 [some (.inl (.int (nI i))), some (.inl (.int (nI n))), some (.inl .null)] [] M 0 0
  refine s_Prec_checkIndex_0 hC _ _ _ _ _ ?_
  simp only [B_Prec_checkIndex_0, B_Prec_checkIndex_9, B_Prec_checkIndex_16, co_Prec_checkIndex, i_ic, i_lc, i_nul, i_il, i_ll, i_al, i_is, i_as, i_ls, i_inc, i_iadd, i_isub, i_imul, i_iand, i_ior, i_ixor, i_idiv, i_irem, i_ishl, i_ishr, i_ladd, i_lsub, i_land, i_lor, i_i2l, i_lushr, i_lshl, i_lshr, i_lcmp, i_dup, i_pop, i_dx1, i_dup2, i_ifeq, i_ifne, i_iflt, i_ifge, i_ifgt, i_ifle, i_iceq, i_icne, i_iclt, i_icge, i_icgt, i_icle, i_ifn, i_gf, i_pf, i_ial, i_bal, i_lal, i_aal, i_ias, i_las, i_bas, i_aas, i_alen, i_newa, i_new, i_anew, i_cast, i_oi, i_call, i_callV, i_callV2, i_callI, i_iret, i_zret, i_lret, i_vret, i_aret, i_mmx, i_mmn, i_gsE, i_aceq, i_no, i_acq, i_sw, zsw, zlg, zls, znl, zfg, zcs, zsp, zrc, zisn, zft, zc1, zto, Value.category, List.set_cons_zero, List.set_cons_succ, List.length_cons, List.length_nil, Option.toList, List.append, List.nil_append, List.cons_append, true_and, and_true, Nat.add_zero, Nat.zero_le, Nat.zero_add, Nat.le_refl, Nat.reduceAdd, Nat.reduceLeDiff, co0, z0, zn_0, zn_1, zn_2, zn_3, zn_4, zn_5, zn_8, zn_12, zn_24, zn_121, zn_144, zn_256, zn_300, zn_600, zn_720, zn_1204, zn_1280, zn_2400, zn_4816, zn_14400, zn_90000]
  exact ⟨fun h => absurd h (nI_pos (by omega)), fun _ => ⟨fun _ => hR, fun h => absurd (nI_lt h1 h2) h⟩⟩
def T_Objs_checkIndex (As : List zAV) (M : zMp) (Rt : Option zAV → zMp → Prop) : Prop := ∃ i n, As = [.inl (.int (nI i)), .inl (.int (nI n))] ∧ i < n ∧ n < 2 ^ 31 ∧ Rt (some (.inl (.int (nI i)))) M
abbrev co_Objs_checkIndex := co0
theorem dJ15_checkIndex_7cf53_0 : decode cJ15_checkIndex_7cf53 0 = .ok (.iload_n 0, 1) := by decide +kernel
theorem dJ15_checkIndex_7cf53_1 : decode cJ15_checkIndex_7cf53 1 = .ok (.iload_n 1, 1) := by decide +kernel
theorem dJ15_checkIndex_7cf53_2 : decode cJ15_checkIndex_7cf53 2 = .ok (.aconst_null, 1) := by decide +kernel
theorem dJ15_checkIndex_7cf53_3 : decode cJ15_checkIndex_7cf53 3 = .ok (.invokestatic 105, 3) := by decide +kernel
theorem dJ15_checkIndex_7cf53_6 : decode cJ15_checkIndex_7cf53 6 = .ok (.ireturn, 1) := by decide +kernel
def B_Objs_checkIndex_0 (mc ms : Nat) (Rt : Option zAV → zMp → Prop) (g : Nat → zKT) : zKT :=
  (i_il 0 (i_il 1 (i_nul (i_call mc ms 3 T_Prec_checkIndex co_Prec_checkIndex (i_iret mc ms Rt)))))
set_option maxRecDepth 20000 in
theorem s_Objs_checkIndex_0 {X : zMa} {mc ms : Nat} {Rt : Option zAV → zMp → Prop} (hC : zCx X RJ15 cJ15_checkIndex_7cf53 1 22 mc ms (some .int) false Rt) : zLe (B_Objs_checkIndex_0 mc ms Rt (zG X)) (zG X 0) :=
  (sd_il_n hC rfl dJ15_checkIndex_7cf53_0 ((sd_il_n hC rfl dJ15_checkIndex_7cf53_1 ((sd_nul hC dJ15_checkIndex_7cf53_2 ((sd_cS hC c_Prec_checkIndex ys_Prec_checkIndex ml_Objs_105 (by decide) (by decide) dJ15_checkIndex_7cf53_3 ((sd_iret hC dJ15_checkIndex_7cf53_6)))))))))
theorem c_Objs_checkIndex (l : Launch) : zCT l yJ15_checkIndex_7cf53 cJ15_checkIndex_7cf53 2 (some .int) 1 22 T_Objs_checkIndex co_Objs_checkIndex := by
  intro As M Rt hT
  obtain ⟨i, n, rfl, h1, h2, hR⟩ := hT
  refine zMet_of false (by decide +kernel) (fun h => by first | rfl | cases h) (Nat.le_of_ble_eq_true rfl) (fun X hN hC => ?_)
  show zG X 0 [some (.inl (.int (nI i))), some (.inl (.int (nI n)))] [] M 0 0
  refine s_Objs_checkIndex_0 hC _ _ _ _ _ ?_
  simp only [B_Objs_checkIndex_0, co_Objs_checkIndex, co_Prec_checkIndex, i_ic, i_lc, i_nul, i_il, i_ll, i_al, i_is, i_as, i_ls, i_inc, i_iadd, i_isub, i_imul, i_iand, i_ior, i_ixor, i_idiv, i_irem, i_ishl, i_ishr, i_ladd, i_lsub, i_land, i_lor, i_i2l, i_lushr, i_lshl, i_lshr, i_lcmp, i_dup, i_pop, i_dx1, i_dup2, i_ifeq, i_ifne, i_iflt, i_ifge, i_ifgt, i_ifle, i_iceq, i_icne, i_iclt, i_icge, i_icgt, i_icle, i_ifn, i_gf, i_pf, i_ial, i_bal, i_lal, i_aal, i_ias, i_las, i_bas, i_aas, i_alen, i_newa, i_new, i_anew, i_cast, i_oi, i_call, i_callV, i_callV2, i_callI, i_iret, i_zret, i_lret, i_vret, i_aret, i_mmx, i_mmn, i_gsE, i_aceq, i_no, i_acq, i_sw, zsw, zlg, zls, znl, zfg, zcs, zsp, zrc, zisn, zft, zc1, zto, Value.category, List.set_cons_zero, List.set_cons_succ, List.length_cons, List.length_nil, Option.toList, List.append, List.nil_append, List.cons_append, true_and, and_true, Nat.add_zero, Nat.zero_le, Nat.zero_add, Nat.le_refl, Nat.reduceAdd, Nat.reduceLeDiff, co0, z0, zn_0, zn_1, zn_2, zn_3, zn_4, zn_5, zn_8, zn_12, zn_24, zn_121, zn_144, zn_256, zn_300, zn_600, zn_720, zn_1204, zn_1280, zn_2400, zn_4816, zn_14400, zn_90000]
  exact ⟨i, n, rfl, h1, h2, hR⟩
theorem nI_max {a b : Nat} (ha : a < 2 ^ 31) (hb : b < 2 ^ 31) : (if nI a < nI b then nI b else nI a) = nI (max a b) := by
  by_cases h : a < b
  · rw [if_pos (nI_lt h hb), Nat.max_eq_right (by omega)]
  · rw [if_neg (fun z => h ((nI_ltI ha hb).mp z)), Nat.max_eq_left (by omega)]
theorem nI_min {a b : Nat} (ha : a < 2 ^ 31) (hb : b < 2 ^ 31) : (if nI b < nI a then nI b else nI a) = nI (min a b) := by
  by_cases h : b < a
  · rw [if_pos (nI_lt h ha), Nat.min_eq_right (by omega)]
  · rw [if_neg (fun z => h ((nI_ltI hb ha).mp z)), Nat.min_eq_left (by omega)]
def T_ASup_newLength (As : List zAV) (M : zMp) (Rt : Option zAV → zMp → Prop) : Prop := ∃ o a b, As = [.inl (.int (nI o)), .inl (.int (nI a)), .inl (.int (nI b))] ∧ o ≤ 100000 ∧ a ≤ 100000 ∧ b ≤ 100000 ∧ 1 ≤ a ∧ Rt (some (.inl (.int (nI (o + max a b))))) M
abbrev co_ASup_newLength := co0
theorem dJ8_newLength_cabcc_0 : decode cJ8_newLength_cabcc 0 = .ok (.iload_n 0, 1) := by decide +kernel
theorem dJ8_newLength_cabcc_1 : decode cJ8_newLength_cabcc 1 = .ok (.iload_n 1, 1) := by decide +kernel
theorem dJ8_newLength_cabcc_2 : decode cJ8_newLength_cabcc 2 = .ok (.iload_n 2, 1) := by decide +kernel
theorem dJ8_newLength_cabcc_3 : decode cJ8_newLength_cabcc 3 = .ok (.invokestatic 194, 3) := by decide +kernel
theorem dJ8_newLength_cabcc_6 : decode cJ8_newLength_cabcc 6 = .ok (.iadd, 1) := by decide +kernel
theorem dJ8_newLength_cabcc_7 : decode cJ8_newLength_cabcc 7 = .ok (.istore_n 3, 1) := by decide +kernel
theorem dJ8_newLength_cabcc_8 : decode cJ8_newLength_cabcc 8 = .ok (.iconst 0, 1) := by decide +kernel
theorem dJ8_newLength_cabcc_9 : decode cJ8_newLength_cabcc 9 = .ok (.iload_n 3, 1) := by decide +kernel
theorem dJ8_newLength_cabcc_10 : decode cJ8_newLength_cabcc 10 = .ok (.if_icmp .ge 11, 3) := by decide +kernel
theorem dJ8_newLength_cabcc_13 : decode cJ8_newLength_cabcc 13 = .ok (.iload_n 3, 1) := by decide +kernel
theorem dJ8_newLength_cabcc_14 : decode cJ8_newLength_cabcc 14 = .ok (.ldc 200, 2) := by decide +kernel
theorem dJ8_newLength_cabcc_16 : decode cJ8_newLength_cabcc 16 = .ok (.if_icmp .gt 5, 3) := by decide +kernel
theorem dJ8_newLength_cabcc_19 : decode cJ8_newLength_cabcc 19 = .ok (.iload_n 3, 1) := by decide +kernel
theorem dJ8_newLength_cabcc_20 : decode cJ8_newLength_cabcc 20 = .ok (.ireturn, 1) := by decide +kernel
theorem dJ8_newLength_cabcc_21 : decode cJ8_newLength_cabcc 21 = .ok (.iload_n 0, 1) := by decide +kernel
theorem dJ8_newLength_cabcc_22 : decode cJ8_newLength_cabcc 22 = .ok (.iload_n 1, 1) := by decide +kernel
theorem dJ8_newLength_cabcc_23 : decode cJ8_newLength_cabcc 23 = .ok (.invokestatic 201, 3) := by decide +kernel
theorem dJ8_newLength_cabcc_26 : decode cJ8_newLength_cabcc 26 = .ok (.ireturn, 1) := by decide +kernel
def B_ASup_newLength_21 (mc ms : Nat) (Rt : Option zAV → zMp → Prop) (g : Nat → zKT) : zKT :=
  i_no
set_option maxRecDepth 20000 in
theorem s_ASup_newLength_21 {X : zMa} {mc ms : Nat} {Rt : Option zAV → zMp → Prop} (hC : zCx X RJ8 cJ8_newLength_cabcc 1 22 mc ms (some .int) false Rt) (hN : zNL X = 4) : zLe (B_ASup_newLength_21 mc ms Rt (zG X)) (zG X 21) :=
  zNo
def B_ASup_newLength_0 (mc ms : Nat) (Rt : Option zAV → zMp → Prop) (g : Nat → zKT) : zKT :=
  (i_il 0 (i_il 1 (i_il 2 (i_mmx mc ms (i_iadd (i_is 3 (i_ic 0 (i_il 3 (i_icge (B_ASup_newLength_21 mc ms Rt g) (i_il 3 (i_ic 2147483639 (i_icgt (B_ASup_newLength_21 mc ms Rt g) (i_il 3 (i_iret mc ms Rt))))))))))))))
set_option maxRecDepth 20000 in
theorem s_ASup_newLength_0 {X : zMa} {mc ms : Nat} {Rt : Option zAV → zMp → Prop} (hC : zCx X RJ8 cJ8_newLength_cabcc 1 22 mc ms (some .int) false Rt) (hN : zNL X = 4) : zLe (B_ASup_newLength_0 mc ms Rt (zG X)) (zG X 0) :=
  (sd_il_n hC rfl dJ8_newLength_cabcc_0 ((sd_il_n hC rfl dJ8_newLength_cabcc_1 ((sd_il_n hC rfl dJ8_newLength_cabcc_2 ((sd_mmx hC ml_ASup_194 (by decide) (by decide) dJ8_newLength_cabcc_3 ((sd_iadd hC dJ8_newLength_cabcc_6 ((sd_is_n hC rfl (by rw [hN]; decide) dJ8_newLength_cabcc_7 ((sd_iconst hC (by decide) dJ8_newLength_cabcc_8 ((sd_il_n hC rfl dJ8_newLength_cabcc_9 ((sd_icge hC (tgt := 21) (by decide) dJ8_newLength_cabcc_10 (s_ASup_newLength_21 hC hN) ((sd_il_n hC rfl dJ8_newLength_cabcc_13 ((sd_ldc hC kc_ASup_200 dJ8_newLength_cabcc_14 ((sd_icgt hC (tgt := 21) (by decide) dJ8_newLength_cabcc_16 (s_ASup_newLength_21 hC hN) ((sd_il_n hC rfl dJ8_newLength_cabcc_19 ((sd_iret hC dJ8_newLength_cabcc_20)))))))))))))))))))))))))))
theorem c_ASup_newLength (l : Launch) : zCT l yJ8_newLength_cabcc cJ8_newLength_cabcc 4 (some .int) 1 22 T_ASup_newLength co_ASup_newLength := by
  intro As M Rt hT
  obtain ⟨o, a, b, rfl, h1, h2, h3, h4, hR⟩ := hT
  refine zMet_of false (by decide +kernel) (fun h => by first | rfl | cases h) (Nat.le_of_ble_eq_true rfl) (fun X hN hC => ?_)
  show zG X 0 [some (.inl (.int (nI o))), some (.inl (.int (nI a))), some (.inl (.int (nI b))), none] [] M 0 0
  refine s_ASup_newLength_0 hC hN _ _ _ _ _ ?_
  simp only [B_ASup_newLength_0, B_ASup_newLength_21, co_ASup_newLength, i_ic, i_lc, i_nul, i_il, i_ll, i_al, i_is, i_as, i_ls, i_inc, i_iadd, i_isub, i_imul, i_iand, i_ior, i_ixor, i_idiv, i_irem, i_ishl, i_ishr, i_ladd, i_lsub, i_land, i_lor, i_i2l, i_lushr, i_lshl, i_lshr, i_lcmp, i_dup, i_pop, i_dx1, i_dup2, i_ifeq, i_ifne, i_iflt, i_ifge, i_ifgt, i_ifle, i_iceq, i_icne, i_iclt, i_icge, i_icgt, i_icle, i_ifn, i_gf, i_pf, i_ial, i_bal, i_lal, i_aal, i_ias, i_las, i_bas, i_aas, i_alen, i_newa, i_new, i_anew, i_cast, i_oi, i_call, i_callV, i_callV2, i_callI, i_iret, i_zret, i_lret, i_vret, i_aret, i_mmx, i_mmn, i_gsE, i_aceq, i_no, i_acq, i_sw, zsw, zlg, zls, znl, zfg, zcs, zsp, zrc, zisn, zft, zc1, zto, Value.category, List.set_cons_zero, List.set_cons_succ, List.length_cons, List.length_nil, Option.toList, List.append, List.nil_append, List.cons_append, true_and, and_true, Nat.add_zero, Nat.zero_le, Nat.zero_add, Nat.le_refl, Nat.reduceAdd, Nat.reduceLeDiff, co0, z0, zn_0, zn_1, zn_2, zn_3, zn_4, zn_5, zn_8, zn_12, zn_24, zn_121, zn_144, zn_256, zn_300, zn_600, zn_720, zn_1204, zn_1280, zn_2400, zn_4816, zn_14400, zn_90000]
  rw [nI_max (by omega) (by omega), nI_add]
  have hm : max a b ≤ 100000 := Nat.max_le.mpr ⟨h2, h3⟩
  have hm1 : 1 ≤ max a b := Nat.le_trans h4 (Nat.le_max_left _ _)
  refine ⟨fun h => absurd h ?_, fun _ => ⟨fun h => absurd h ?_, fun _ => hR⟩⟩
  · exact nI_nle (by omega) (by omega)
  · exact Int32.not_lt.mpr (nI_le (b := 2147483639) (by omega) (by decide))
/-! Arrays.copyOf -/
def T_Arrs_copyOf2 (As : List zAV) (M : zMp) (Rt : Option zAV → zMp → Prop) : Prop := ∃ d c' mi cap f d', As = [.inr d, .inl (.int (nI c')), .inl (.ref mi)] ∧ M d = some (zoa cap f) ∧ cap ≤ c' ∧ c' ≤ 1000 ∧ M d' = none ∧ zmo d' ∧ (∀ i, i < cap → ∀ y, f i = some y → zok M sOb (.inr y)) ∧ Rt (some (.inr d')) (zup M d' (zoa c' (va_cpy f (fun _ => none) 0 0 cap)))
def co_Arrs_copyOf2 : List zAV → zMp → Nat × Nat := fun _ _ => (1, 1000)
theorem dJ7_copyOf_6403c_0 : decode cJ7_copyOf_6403c 0 = .ok (.aload_n 2, 1) := by decide +kernel
theorem dJ7_copyOf_6403c_1 : decode cJ7_copyOf_6403c 1 = .ok (.ldc 110, 2) := by decide +kernel
theorem dJ7_copyOf_6403c_3 : decode cJ7_copyOf_6403c 3 = .ok (.if_acmp .ne 10, 3) := by decide +kernel
theorem dJ7_copyOf_6403c_6 : decode cJ7_copyOf_6403c 6 = .ok (.iload_n 1, 1) := by decide +kernel
theorem dJ7_copyOf_6403c_7 : decode cJ7_copyOf_6403c 7 = .ok (.anewarray 2, 3) := by decide +kernel
theorem dJ7_copyOf_6403c_10 : decode cJ7_copyOf_6403c 10 = .ok (.goto 14, 3) := by decide +kernel
theorem dJ7_copyOf_6403c_13 : decode cJ7_copyOf_6403c 13 = .ok (.aload_n 2, 1) := by decide +kernel
theorem dJ7_copyOf_6403c_14 : decode cJ7_copyOf_6403c 14 = .ok (.invokevirtual 90, 3) := by decide +kernel
theorem dJ7_copyOf_6403c_17 : decode cJ7_copyOf_6403c 17 = .ok (.iload_n 1, 1) := by decide +kernel
theorem dJ7_copyOf_6403c_18 : decode cJ7_copyOf_6403c 18 = .ok (.invokestatic 95, 3) := by decide +kernel
theorem dJ7_copyOf_6403c_21 : decode cJ7_copyOf_6403c 21 = .ok (.checkcast 110, 3) := by decide +kernel
theorem dJ7_copyOf_6403c_24 : decode cJ7_copyOf_6403c 24 = .ok (.astore_n 3, 1) := by decide +kernel
theorem dJ7_copyOf_6403c_25 : decode cJ7_copyOf_6403c 25 = .ok (.aload_n 0, 1) := by decide +kernel
theorem dJ7_copyOf_6403c_26 : decode cJ7_copyOf_6403c 26 = .ok (.iconst 0, 1) := by decide +kernel
theorem dJ7_copyOf_6403c_27 : decode cJ7_copyOf_6403c 27 = .ok (.aload_n 3, 1) := by decide +kernel
theorem dJ7_copyOf_6403c_28 : decode cJ7_copyOf_6403c 28 = .ok (.iconst 0, 1) := by decide +kernel
theorem dJ7_copyOf_6403c_29 : decode cJ7_copyOf_6403c 29 = .ok (.aload_n 0, 1) := by decide +kernel
theorem dJ7_copyOf_6403c_30 : decode cJ7_copyOf_6403c 30 = .ok (.arraylength, 1) := by decide +kernel
theorem dJ7_copyOf_6403c_31 : decode cJ7_copyOf_6403c 31 = .ok (.iload_n 1, 1) := by decide +kernel
theorem dJ7_copyOf_6403c_32 : decode cJ7_copyOf_6403c 32 = .ok (.invokestatic 304, 3) := by decide +kernel
theorem dJ7_copyOf_6403c_35 : decode cJ7_copyOf_6403c 35 = .ok (.invokestatic 150, 3) := by decide +kernel
theorem dJ7_copyOf_6403c_38 : decode cJ7_copyOf_6403c 38 = .ok (.aload_n 3, 1) := by decide +kernel
theorem dJ7_copyOf_6403c_39 : decode cJ7_copyOf_6403c 39 = .ok (.areturn, 1) := by decide +kernel
def B_Arrs_copyOf2_24 (mi mc ms : Nat) (Rt : Option zAV → zMp → Prop) (g : Nat → zKT) : zKT :=
  (i_as 3 (i_al 0 (i_ic 0 (i_al 3 (i_ic 0 (i_al 0 (i_alen (i_il 1 (i_mmn mc ms (i_acq (i_al 3 (i_aret mc ms Rt))))))))))))
set_option maxRecDepth 20000 in
theorem s_Arrs_copyOf2_24 {X : zMa} {mi mc ms : Nat} {Rt : Option zAV → zMp → Prop} (hC : zCx X RJ7 cJ7_copyOf_6403c 1 40 mc ms (some (.array (.object "java/lang/Object"))) false Rt) (hN : zNL X = 4) (hM : va_Mi "[Ljava/lang/Object;" mi (zS X)) : zLe (B_Arrs_copyOf2_24 mi mc ms Rt (zG X)) (zG X 24) :=
  (sd_as_n hC rfl (by rw [hN]; decide) dJ7_copyOf_6403c_24 ((sd_al_n hC rfl dJ7_copyOf_6403c_25 ((sd_iconst hC (by decide) dJ7_copyOf_6403c_26 ((sd_al_n hC rfl dJ7_copyOf_6403c_27 ((sd_iconst hC (by decide) dJ7_copyOf_6403c_28 ((sd_al_n hC rfl dJ7_copyOf_6403c_29 ((sd_alen hC dJ7_copyOf_6403c_30 ((sd_il_n hC rfl dJ7_copyOf_6403c_31 ((sd_mmn hC ml_Arrs_304 (by decide) (by decide) dJ7_copyOf_6403c_32 ((sd_acq hC ml_Arrs_150 (by decide) (by decide) dJ7_copyOf_6403c_35 ((sd_al_n hC rfl dJ7_copyOf_6403c_38 ((sd_aret hC (Or.inr ⟨_, rfl⟩) dJ7_copyOf_6403c_39)))))))))))))))))))))))
def B_Arrs_copyOf2_13 (mi mc ms : Nat) (Rt : Option zAV → zMp → Prop) (g : Nat → zKT) : zKT :=
  i_no
set_option maxRecDepth 20000 in
theorem s_Arrs_copyOf2_13 {X : zMa} {mi mc ms : Nat} {Rt : Option zAV → zMp → Prop} (hC : zCx X RJ7 cJ7_copyOf_6403c 1 40 mc ms (some (.array (.object "java/lang/Object"))) false Rt) (hN : zNL X = 4) (hM : va_Mi "[Ljava/lang/Object;" mi (zS X)) : zLe (B_Arrs_copyOf2_13 mi mc ms Rt (zG X)) (zG X 13) :=
  zNo
def B_Arrs_copyOf2_0 (mi mc ms : Nat) (Rt : Option zAV → zMp → Prop) (g : Nat → zKT) : zKT :=
  (i_alr 2 (i_mir mi (i_acnR (B_Arrs_copyOf2_13 mi mc ms Rt g) (i_il 1 (i_anew mc ms "java/lang/Object" (B_Arrs_copyOf2_24 mi mc ms Rt g))))))
set_option maxRecDepth 20000 in
theorem s_Arrs_copyOf2_0 {X : zMa} {mi mc ms : Nat} {Rt : Option zAV → zMp → Prop} (hC : zCx X RJ7 cJ7_copyOf_6403c 1 40 mc ms (some (.array (.object "java/lang/Object"))) false Rt) (hN : zNL X = 4) (hM : va_Mi "[Ljava/lang/Object;" mi (zS X)) : zLe (B_Arrs_copyOf2_0 mi mc ms Rt (zG X)) (zG X 0) :=
  (sd_alr_n hC rfl dJ7_copyOf_6403c_0 ((sd_mir hC hM cl_Arrs_110 dJ7_copyOf_6403c_1 ((sd_acnR hC (tgt := 13) (by decide) dJ7_copyOf_6403c_3 (s_Arrs_copyOf2_13 hC hN hM) ((sd_il_n hC rfl dJ7_copyOf_6403c_6 ((sd_anew hC cl_Arrs_2 ao_Obj_0 dJ7_copyOf_6403c_7 ((sd_goto hC (tgt := 24) (by decide) dJ7_copyOf_6403c_10 (s_Arrs_copyOf2_24 hC hN hM))))))))))))
theorem zok_up {M : zMp} {a : zNm} {e : zAE} {C : String} {y : zNm} (ha : M a = none) (h : zok M C (.inr y)) : zok (zup M a e) C (.inr y) := by
  have hy : y ≠ a := fun q => by rw [q] at h; simp only [zok, ha] at h
  simp only [zok, zup_o hy] at h ⊢
  exact h
theorem c_Arrs_copyOf2 (l : Launch) (d0 : zNm) (x : Int32) (mi : Nat) (M : zMp) (Rt : Option zAV → zMp → Prop) (hT : T_Arrs_copyOf2 [.inr d0, .inl (.int x), .inl (.ref mi)] M Rt) : zMetM l yJ7_copyOf_6403c cJ7_copyOf_6403c 4 (some (.array (.object "java/lang/Object"))) 1 40 [.inr d0, .inl (.int x), .inl (.ref mi)] M (co_Arrs_copyOf2 [.inr d0, .inl (.int x), .inl (.ref mi)] M).1 (co_Arrs_copyOf2 [.inr d0, .inl (.int x), .inl (.ref mi)] M).2 Rt mi := by
  obtain ⟨d, c', mi', cap, f, d', he, h1, h2, h3, h4, h5, h6, hR⟩ := hT
  simp only [List.cons.injEq, Sum.inr.injEq, Sum.inl.injEq, Value.int.injEq, Value.ref.injEq, and_true] at he
  obtain ⟨rfl, rfl, rfl⟩ := he
  have hne : d0 ≠ d' := fun q => by rw [q, h4] at h1; cases h1
  refine zMetM_of (by decide +kernel) (Nat.le_of_ble_eq_true rfl) (fun X hN hC hM => ?_)
  show zG X 0 [some (.inr d0), some (.inl (.int (nI c'))), some (.inl (.ref mi)), none] [] M 0 0
  refine s_Arrs_copyOf2_0 hC hN hM _ _ _ _ _ ?_
  simp only [B_Arrs_copyOf2_0, B_Arrs_copyOf2_13, B_Arrs_copyOf2_24, co_Arrs_copyOf2, i_ic, i_lc, i_nul, i_il, i_ll, i_al, i_is, i_as, i_ls, i_inc, i_iadd, i_isub, i_imul, i_iand, i_ior, i_ixor, i_idiv, i_irem, i_ishl, i_ishr, i_ladd, i_lsub, i_land, i_lor, i_i2l, i_lushr, i_lshl, i_lshr, i_lcmp, i_dup, i_pop, i_dx1, i_dup2, i_ifeq, i_ifne, i_iflt, i_ifge, i_ifgt, i_ifle, i_iceq, i_icne, i_iclt, i_icge, i_icgt, i_icle, i_ifn, i_gf, i_pf, i_ial, i_bal, i_lal, i_aal, i_ias, i_las, i_bas, i_aas, i_alen, i_newa, i_new, i_anew, i_cast, i_oi, i_call, i_callV, i_callV2, i_callI, i_iret, i_zret, i_lret, i_vret, i_aret, i_mmx, i_mmn, i_gsE, i_aceq, i_no, i_acq, i_sw, zsw, zlg, zls, znl, zfg, zcs, zsp, zrc, zisn, zft, zc1, zto, Value.category, List.set_cons_zero, List.set_cons_succ, List.length_cons, List.length_nil, Option.toList, List.append, List.nil_append, List.cons_append, true_and, and_true, Nat.add_zero, Nat.zero_le, Nat.zero_add, Nat.le_refl, Nat.reduceAdd, Nat.reduceLeDiff, co0, z0, zn_0, zn_1, zn_2, zn_3, zn_4, zn_5, zn_8, zn_12, zn_24, zn_121, zn_144, zn_256, zn_300, zn_600, zn_720, zn_1204, zn_1280, zn_2400, zn_4816, zn_14400, zn_90000, i_alr, i_mir, i_acnR]
  refine ⟨fun h => absurd trivial h, fun _ => ⟨d', h4, h5, nI_pos (by omega), ?_⟩⟩
  rw [nI_clamp (by omega)]
  simp only [h1, zup_o hne, i_ic, i_lc, i_nul, i_il, i_ll, i_al, i_is, i_as, i_ls, i_inc, i_iadd, i_isub, i_imul, i_iand, i_ior, i_ixor, i_idiv, i_irem, i_ishl, i_ishr, i_ladd, i_lsub, i_land, i_lor, i_i2l, i_lushr, i_lshl, i_lshr, i_lcmp, i_dup, i_pop, i_dx1, i_dup2, i_ifeq, i_ifne, i_iflt, i_ifge, i_ifgt, i_ifle, i_iceq, i_icne, i_iclt, i_icge, i_icgt, i_icle, i_ifn, i_gf, i_pf, i_ial, i_bal, i_lal, i_aal, i_ias, i_las, i_bas, i_aas, i_alen, i_newa, i_new, i_anew, i_cast, i_oi, i_call, i_callV, i_callV2, i_callI, i_iret, i_zret, i_lret, i_vret, i_aret, i_mmx, i_mmn, i_gsE, i_aceq, i_no, i_acq, i_sw, zsw, zlg, zls, znl, zfg, zcs, zsp, zrc, zisn, zft, zc1, zto, Value.category, List.set_cons_zero, List.set_cons_succ, List.length_cons, List.length_nil, Option.toList, List.append, List.nil_append, List.cons_append, true_and, and_true, Nat.add_zero, Nat.zero_le, Nat.zero_add, Nat.le_refl, Nat.reduceAdd, Nat.reduceLeDiff, co0, z0, zn_0, zn_1, zn_2, zn_3, zn_4, zn_5, zn_8, zn_12, zn_24, zn_121, zn_144, zn_256, zn_300, zn_600, zn_720, zn_1204, zn_1280, zn_2400, zn_4816, zn_14400, zn_90000]
  rw [nI_min (by omega) (by omega), Nat.min_eq_left h2]
  refine ⟨by omega, by omega, by omega, ?_⟩
  simp only [i_acq, h1, zup_o hne, zup_s, zup_zup, i_ic, i_lc, i_nul, i_il, i_ll, i_al, i_is, i_as, i_ls, i_inc, i_iadd, i_isub, i_imul, i_iand, i_ior, i_ixor, i_idiv, i_irem, i_ishl, i_ishr, i_ladd, i_lsub, i_land, i_lor, i_i2l, i_lushr, i_lshl, i_lshr, i_lcmp, i_dup, i_pop, i_dx1, i_dup2, i_ifeq, i_ifne, i_iflt, i_ifge, i_ifgt, i_ifle, i_iceq, i_icne, i_iclt, i_icge, i_icgt, i_icle, i_ifn, i_gf, i_pf, i_ial, i_bal, i_lal, i_aal, i_ias, i_las, i_bas, i_aas, i_alen, i_newa, i_new, i_anew, i_cast, i_oi, i_call, i_callV, i_callV2, i_callI, i_iret, i_zret, i_lret, i_vret, i_aret, i_mmx, i_mmn, i_gsE, i_aceq, i_no, i_acq, i_sw, zsw, zlg, zls, znl, zfg, zcs, zsp, zrc, zisn, zft, zc1, zto, Value.category, List.set_cons_zero, List.set_cons_succ, List.length_cons, List.length_nil, Option.toList, List.append, List.nil_append, List.cons_append, true_and, and_true, Nat.add_zero, Nat.zero_le, Nat.zero_add, Nat.le_refl, Nat.reduceAdd, Nat.reduceLeDiff, co0, z0, zn_0, zn_1, zn_2, zn_3, zn_4, zn_5, zn_8, zn_12, zn_24, zn_121, zn_144, zn_256, zn_300, zn_600, zn_720, zn_1204, zn_1280, zn_2400, zn_4816, zn_14400, zn_90000]
  rw [nI_clamp (by omega)]
  refine ⟨h5, by decide, by decide, nI_pos (by omega), by omega, by omega, fun i hi y hy => zok_up h4 (h6 i hi y hy), by omega, hR⟩
def T_Arrs_copyOf (As : List zAV) (M : zMp) (Rt : Option zAV → zMp → Prop) : Prop := ∃ d c' cap f d', As = [.inr d, .inl (.int (nI c'))] ∧ M d = some (zoa cap f) ∧ cap ≤ c' ∧ c' ≤ 1000 ∧ M d' = none ∧ zmo d' ∧ (∀ i, i < cap → ∀ y, f i = some y → zok M sOb (.inr y)) ∧ Rt (some (.inr d')) (zup M d' (zoa c' (va_cpy f (fun _ => none) 0 0 cap)))
def co_Arrs_copyOf : List zAV → zMp → Nat × Nat := fun _ _ => (1, 1000)
theorem dJ7_copyOf_1904c_0 : decode cJ7_copyOf_1904c 0 = .ok (.aload_n 0, 1) := by decide +kernel
theorem dJ7_copyOf_1904c_1 : decode cJ7_copyOf_1904c 1 = .ok (.iload_n 1, 1) := by decide +kernel
theorem dJ7_copyOf_1904c_2 : decode cJ7_copyOf_1904c 2 = .ok (.aload_n 0, 1) := by decide +kernel
theorem dJ7_copyOf_1904c_3 : decode cJ7_copyOf_1904c 3 = .ok (.invokevirtual 86, 3) := by decide +kernel
theorem dJ7_copyOf_1904c_6 : decode cJ7_copyOf_1904c 6 = .ok (.invokestatic 300, 3) := by decide +kernel
theorem dJ7_copyOf_1904c_9 : decode cJ7_copyOf_1904c 9 = .ok (.areturn, 1) := by decide +kernel
def B_Arrs_copyOf_0 (mc ms : Nat) (Rt : Option zAV → zMp → Prop) (g : Nat → zKT) : zKT :=
  (i_al 0 (i_il 1 (i_al 0 (i_gcp mc ms T_Arrs_copyOf2 co_Arrs_copyOf2 (i_aret mc ms Rt)))))
set_option maxRecDepth 20000 in
theorem s_Arrs_copyOf_0 {X : zMa} {mc ms : Nat} {Rt : Option zAV → zMp → Prop} (hC : zCx X RJ7 cJ7_copyOf_1904c 2 63 mc ms (some (.array (.object "java/lang/Object"))) false Rt) : zLe (B_Arrs_copyOf_0 mc ms Rt (zG X)) (zG X 0) :=
  (sd_al_n hC rfl dJ7_copyOf_1904c_0 ((sd_il_n hC rfl dJ7_copyOf_1904c_1 ((sd_al_n hC rfl dJ7_copyOf_1904c_2 ((sd_gcp hC c_Arrs_copyOf2 ys_Arrs_copyOf2 ml_Arrs_86 ml_Arrs_300 (by decide) (by decide) (by decide) dJ7_copyOf_1904c_3 dJ7_copyOf_1904c_6 ((sd_aret hC (Or.inr ⟨_, rfl⟩) dJ7_copyOf_1904c_9)))))))))
theorem c_Arrs_copyOf (l : Launch) : zCT l yJ7_copyOf_1904c cJ7_copyOf_1904c 2 (some (.array (.object "java/lang/Object"))) 2 63 T_Arrs_copyOf co_Arrs_copyOf := by
  intro As M Rt hT
  obtain ⟨d, c', cap, f, d', rfl, h1, h2, h3, h4, h5, h6, hR⟩ := hT
  refine zMet_of false (by decide +kernel) (fun h => by first | rfl | cases h) (Nat.le_of_ble_eq_true rfl) (fun X hN hC => ?_)
  show zG X 0 [some (.inr d), some (.inl (.int (nI c')))] [] M 0 0
  refine s_Arrs_copyOf_0 hC _ _ _ _ _ ?_
  simp only [B_Arrs_copyOf_0, co_Arrs_copyOf, co_Arrs_copyOf2, i_ic, i_lc, i_nul, i_il, i_ll, i_al, i_is, i_as, i_ls, i_inc, i_iadd, i_isub, i_imul, i_iand, i_ior, i_ixor, i_idiv, i_irem, i_ishl, i_ishr, i_ladd, i_lsub, i_land, i_lor, i_i2l, i_lushr, i_lshl, i_lshr, i_lcmp, i_dup, i_pop, i_dx1, i_dup2, i_ifeq, i_ifne, i_iflt, i_ifge, i_ifgt, i_ifle, i_iceq, i_icne, i_iclt, i_icge, i_icgt, i_icle, i_ifn, i_gf, i_pf, i_ial, i_bal, i_lal, i_aal, i_ias, i_las, i_bas, i_aas, i_alen, i_newa, i_new, i_anew, i_cast, i_oi, i_call, i_callV, i_callV2, i_callI, i_iret, i_zret, i_lret, i_vret, i_aret, i_mmx, i_mmn, i_gsE, i_aceq, i_no, i_acq, i_sw, zsw, zlg, zls, znl, zfg, zcs, zsp, zrc, zisn, zft, zc1, zto, Value.category, List.set_cons_zero, List.set_cons_succ, List.length_cons, List.length_nil, Option.toList, List.append, List.nil_append, List.cons_append, true_and, and_true, Nat.add_zero, Nat.zero_le, Nat.zero_add, Nat.le_refl, Nat.reduceAdd, Nat.reduceLeDiff, co0, z0, zn_0, zn_1, zn_2, zn_3, zn_4, zn_5, zn_8, zn_12, zn_24, zn_121, zn_144, zn_256, zn_300, zn_600, zn_720, zn_1204, zn_1280, zn_2400, zn_4816, zn_14400, zn_90000, i_gcp, h1]
  intro mi
  refine ⟨d, c', mi, cap, f, d', rfl, h1, h2, h3, h4, h5, h6, ?_⟩
  simp only [i_ic, i_lc, i_nul, i_il, i_ll, i_al, i_is, i_as, i_ls, i_inc, i_iadd, i_isub, i_imul, i_iand, i_ior, i_ixor, i_idiv, i_irem, i_ishl, i_ishr, i_ladd, i_lsub, i_land, i_lor, i_i2l, i_lushr, i_lshl, i_lshr, i_lcmp, i_dup, i_pop, i_dx1, i_dup2, i_ifeq, i_ifne, i_iflt, i_ifge, i_ifgt, i_ifle, i_iceq, i_icne, i_iclt, i_icge, i_icgt, i_icle, i_ifn, i_gf, i_pf, i_ial, i_bal, i_lal, i_aal, i_ias, i_las, i_bas, i_aas, i_alen, i_newa, i_new, i_anew, i_cast, i_oi, i_call, i_callV, i_callV2, i_callI, i_iret, i_zret, i_lret, i_vret, i_aret, i_mmx, i_mmn, i_gsE, i_aceq, i_no, i_acq, i_sw, zsw, zlg, zls, znl, zfg, zcs, zsp, zrc, zisn, zft, zc1, zto, Value.category, List.set_cons_zero, List.set_cons_succ, List.length_cons, List.length_nil, Option.toList, List.append, List.nil_append, List.cons_append, true_and, and_true, Nat.add_zero, Nat.zero_le, Nat.zero_add, Nat.le_refl, Nat.reduceAdd, Nat.reduceLeDiff, co0, z0, zn_0, zn_1, zn_2, zn_3, zn_4, zn_5, zn_8, zn_12, zn_24, zn_121, zn_144, zn_256, zn_300, zn_600, zn_720, zn_1204, zn_1280, zn_2400, zn_4816, zn_14400, zn_90000]
  exact hR
/-! ArrayList -/
def T_AL_size (As : List zAV) (M : zMp) (Rt : Option zAV → zMp → Prop) : Prop := ∃ a c d n, As = [.inr a] ∧ M a = some (zal c d n) ∧ Rt (some (.inl (.int (nI n)))) M
abbrev co_AL_size := co0
theorem dJx4a65c_size_8abf5_0 : decode cJx4a65c_size_8abf5 0 = .ok (.aload_n 0, 1) := by decide +kernel
theorem dJx4a65c_size_8abf5_1 : decode cJx4a65c_size_8abf5 1 = .ok (.getfield 48, 3) := by decide +kernel
theorem dJx4a65c_size_8abf5_4 : decode cJx4a65c_size_8abf5 4 = .ok (.ireturn, 1) := by decide +kernel
def B_AL_size_0 (mc ms : Nat) (Rt : Option zAV → zMp → Prop) (g : Nat → zKT) : zKT :=
  (i_al 0 (i_gf 0 2 (i_iret mc ms Rt)))
set_option maxRecDepth 20000 in
theorem s_AL_size_0 {X : zMa} {mc ms : Nat} {Rt : Option zAV → zMp → Prop} (hC : zCx X RJx4a65c cJx4a65c_size_8abf5 0 0 mc ms (some .int) false Rt) : zLe (B_AL_size_0 mc ms Rt (zG X)) (zG X 0) :=
  (sd_al_n hC rfl dJx4a65c_size_8abf5_0 ((sd_gf hC (ci := 0) (fk := 2) rfl wi_AL (by decide) fl_AL_48 (Or.inl rfl) dJx4a65c_size_8abf5_1 ((sd_iret hC dJx4a65c_size_8abf5_4)))))
theorem c_AL_size (l : Launch) : zCT l yJx4a65c_size_8abf5 cJx4a65c_size_8abf5 1 (some .int) 0 0 T_AL_size co_AL_size := by
  intro As M Rt hT
  obtain ⟨a, c, d, n, rfl, h1, hR⟩ := hT
  refine zMet_of false (by decide +kernel) (fun h => by first | rfl | cases h) (Nat.le_of_ble_eq_true rfl) (fun X hN hC => ?_)
  show zG X 0 [some (.inr a)] [] M 0 0
  refine s_AL_size_0 hC _ _ _ _ _ ?_
  simp only [B_AL_size_0, co_AL_size, i_ic, i_lc, i_nul, i_il, i_ll, i_al, i_is, i_as, i_ls, i_inc, i_iadd, i_isub, i_imul, i_iand, i_ior, i_ixor, i_idiv, i_irem, i_ishl, i_ishr, i_ladd, i_lsub, i_land, i_lor, i_i2l, i_lushr, i_lshl, i_lshr, i_lcmp, i_dup, i_pop, i_dx1, i_dup2, i_ifeq, i_ifne, i_iflt, i_ifge, i_ifgt, i_ifle, i_iceq, i_icne, i_iclt, i_icge, i_icgt, i_icle, i_ifn, i_gf, i_pf, i_ial, i_bal, i_lal, i_aal, i_ias, i_las, i_bas, i_aas, i_alen, i_newa, i_new, i_anew, i_cast, i_oi, i_call, i_callV, i_callV2, i_callI, i_iret, i_zret, i_lret, i_vret, i_aret, i_mmx, i_mmn, i_gsE, i_aceq, i_no, i_acq, i_sw, zsw, zlg, zls, znl, zfg, zcs, zsp, zrc, zisn, zft, zc1, zto, Value.category, List.set_cons_zero, List.set_cons_succ, List.length_cons, List.length_nil, Option.toList, List.append, List.nil_append, List.cons_append, true_and, and_true, Nat.add_zero, Nat.zero_le, Nat.zero_add, Nat.le_refl, Nat.reduceAdd, Nat.reduceLeDiff, co0, z0, zn_0, zn_1, zn_2, zn_3, zn_4, zn_5, zn_8, zn_12, zn_24, zn_121, zn_144, zn_256, zn_300, zn_600, zn_720, zn_1204, zn_1280, zn_2400, zn_4816, zn_14400, zn_90000, h1]
  exact hR
def T_AL_elementData (As : List zAV) (M : zMp) (Rt : Option zAV → zMp → Prop) : Prop := ∃ a c d n cap f i, As = [.inr a, .inl (.int (nI i))] ∧ M a = some (zal c d n) ∧ M d = some (zoa cap f) ∧ i < cap ∧ cap < 2 ^ 31 ∧ Rt (some (zov (f i))) M
abbrev co_AL_elementData := co0
theorem dJx4a65c_elementData_915e3_0 : decode cJx4a65c_elementData_915e3 0 = .ok (.aload_n 0, 1) := by decide +kernel
theorem dJx4a65c_elementData_915e3_1 : decode cJx4a65c_elementData_915e3 1 = .ok (.getfield 9, 3) := by decide +kernel
theorem dJx4a65c_elementData_915e3_4 : decode cJx4a65c_elementData_915e3 4 = .ok (.iload_n 1, 1) := by decide +kernel
theorem dJx4a65c_elementData_915e3_5 : decode cJx4a65c_elementData_915e3 5 = .ok (.aaload, 1) := by decide +kernel
theorem dJx4a65c_elementData_915e3_6 : decode cJx4a65c_elementData_915e3 6 = .ok (.areturn, 1) := by decide +kernel
def B_AL_elementData_0 (mc ms : Nat) (Rt : Option zAV → zMp → Prop) (g : Nat → zKT) : zKT :=
  (i_al 0 (i_gf 0 1 (i_il 1 (i_aal "java/lang/Object" (i_aret mc ms Rt)))))
set_option maxRecDepth 20000 in
theorem s_AL_elementData_0 {X : zMa} {mc ms : Nat} {Rt : Option zAV → zMp → Prop} (hC : zCx X RJx4a65c cJx4a65c_elementData_915e3 0 0 mc ms (some (.object "java/lang/Object")) false Rt) : zLe (B_AL_elementData_0 mc ms Rt (zG X)) (zG X 0) :=
  (sd_al_n hC rfl dJx4a65c_elementData_915e3_0 ((sd_gf hC (ci := 0) (fk := 1) rfl wi_AL (by decide) fl_AL_9 (Or.inl rfl) dJx4a65c_elementData_915e3_1 ((sd_il_n hC rfl dJx4a65c_elementData_915e3_4 ((sd_aal hC dJx4a65c_elementData_915e3_5 ((sd_aret hC (Or.inl ⟨_, rfl⟩) dJx4a65c_elementData_915e3_6)))))))))
theorem c_AL_elementData (l : Launch) : zCT l yJx4a65c_elementData_915e3 cJx4a65c_elementData_915e3 2 (some (.object "java/lang/Object")) 0 0 T_AL_elementData co_AL_elementData := by
  intro As M Rt hT
  obtain ⟨a, c, d, n, cap, f, i, rfl, h1, h2, h3, h4, hR⟩ := hT
  refine zMet_of false (by decide +kernel) (fun h => by first | rfl | cases h) (Nat.le_of_ble_eq_true rfl) (fun X hN hC => ?_)
  show zG X 0 [some (.inr a), some (.inl (.int (nI i)))] [] M 0 0
  refine s_AL_elementData_0 hC _ _ _ _ _ ?_
  simp only [B_AL_elementData_0, co_AL_elementData, i_ic, i_lc, i_nul, i_il, i_ll, i_al, i_is, i_as, i_ls, i_inc, i_iadd, i_isub, i_imul, i_iand, i_ior, i_ixor, i_idiv, i_irem, i_ishl, i_ishr, i_ladd, i_lsub, i_land, i_lor, i_i2l, i_lushr, i_lshl, i_lshr, i_lcmp, i_dup, i_pop, i_dx1, i_dup2, i_ifeq, i_ifne, i_iflt, i_ifge, i_ifgt, i_ifle, i_iceq, i_icne, i_iclt, i_icge, i_icgt, i_icle, i_ifn, i_gf, i_pf, i_ial, i_bal, i_lal, i_aal, i_ias, i_las, i_bas, i_aas, i_alen, i_newa, i_new, i_anew, i_cast, i_oi, i_call, i_callV, i_callV2, i_callI, i_iret, i_zret, i_lret, i_vret, i_aret, i_mmx, i_mmn, i_gsE, i_aceq, i_no, i_acq, i_sw, zsw, zlg, zls, znl, zfg, zcs, zsp, zrc, zisn, zft, zc1, zto, Value.category, List.set_cons_zero, List.set_cons_succ, List.length_cons, List.length_nil, Option.toList, List.append, List.nil_append, List.cons_append, true_and, and_true, Nat.add_zero, Nat.zero_le, Nat.zero_add, Nat.le_refl, Nat.reduceAdd, Nat.reduceLeDiff, co0, z0, zn_0, zn_1, zn_2, zn_3, zn_4, zn_5, zn_8, zn_12, zn_24, zn_121, zn_144, zn_256, zn_300, zn_600, zn_720, zn_1204, zn_1280, zn_2400, zn_4816, zn_14400, zn_90000, h1, h2]
  refine ⟨vp_in_nI h3 h4, ?_⟩
  rw [nI_clamp (by omega)]
  cases hf : f i with
  | none => rw [hf] at hR; simp only [zov] at hR ⊢; exact hR
  | some y => rw [hf] at hR; simp only [zov] at hR ⊢; exact hR
def T_AL_get (As : List zAV) (M : zMp) (Rt : Option zAV → zMp → Prop) : Prop := ∃ a c d n cap f i, As = [.inr a, .inl (.int (nI i))] ∧ M a = some (zal c d n) ∧ M d = some (zoa cap f) ∧ i < n ∧ n ≤ cap ∧ cap < 2 ^ 31 ∧ Rt (some (zov (f i))) M
abbrev co_AL_get := co0
theorem dJx4a65c_get_915e3_0 : decode cJx4a65c_get_915e3 0 = .ok (.iload_n 1, 1) := by decide +kernel
theorem dJx4a65c_get_915e3_1 : decode cJx4a65c_get_915e3 1 = .ok (.aload_n 0, 1) := by decide +kernel
theorem dJx4a65c_get_915e3_2 : decode cJx4a65c_get_915e3 2 = .ok (.getfield 48, 3) := by decide +kernel
theorem dJx4a65c_get_915e3_5 : decode cJx4a65c_get_915e3 5 = .ok (.invokestatic 118, 3) := by decide +kernel
theorem dJx4a65c_get_915e3_8 : decode cJx4a65c_get_915e3 8 = .ok (.pop, 1) := by decide +kernel
theorem dJx4a65c_get_915e3_9 : decode cJx4a65c_get_915e3 9 = .ok (.aload_n 0, 1) := by decide +kernel
theorem dJx4a65c_get_915e3_10 : decode cJx4a65c_get_915e3 10 = .ok (.iload_n 1, 1) := by decide +kernel
theorem dJx4a65c_get_915e3_11 : decode cJx4a65c_get_915e3 11 = .ok (.invokevirtual 123, 3) := by decide +kernel
theorem dJx4a65c_get_915e3_14 : decode cJx4a65c_get_915e3 14 = .ok (.areturn, 1) := by decide +kernel
def B_AL_get_0 (mc ms : Nat) (Rt : Option zAV → zMp → Prop) (g : Nat → zKT) : zKT :=
  (i_il 1 (i_al 0 (i_gf 0 2 (i_call mc ms 2 T_Objs_checkIndex co_Objs_checkIndex (i_pop (i_al 0 (i_il 1 (i_callV mc ms 0 2 T_AL_elementData co_AL_elementData (i_aret mc ms Rt)))))))))
set_option maxRecDepth 20000 in
theorem s_AL_get_0 {X : zMa} {mc ms : Nat} {Rt : Option zAV → zMp → Prop} (hC : zCx X RJx4a65c cJx4a65c_get_915e3 2 43 mc ms (some (.object "java/lang/Object")) false Rt) : zLe (B_AL_get_0 mc ms Rt (zG X)) (zG X 0) :=
  (sd_il_n hC rfl dJx4a65c_get_915e3_0 ((sd_al_n hC rfl dJx4a65c_get_915e3_1 ((sd_gf hC (ci := 0) (fk := 2) rfl wi_AL (by decide) fl_AL_48 (Or.inl rfl) dJx4a65c_get_915e3_2 ((sd_cS hC c_Objs_checkIndex ys_Objs_checkIndex ml_AL_118 (by decide) (by decide) dJx4a65c_get_915e3_5 ((sd_pop hC dJx4a65c_get_915e3_8 ((sd_al_n hC rfl dJx4a65c_get_915e3_9 ((sd_il_n hC rfl dJx4a65c_get_915e3_10 ((sd_cV hC c_AL_elementData yv_AL_elementData (ci := 0) rfl rfl ml_AL_123 (by decide) (by decide) dJx4a65c_get_915e3_11 ((sd_aret hC (Or.inl ⟨_, rfl⟩) dJx4a65c_get_915e3_14)))))))))))))))))
theorem c_AL_get (l : Launch) : zCT l yJx4a65c_get_915e3 cJx4a65c_get_915e3 2 (some (.object "java/lang/Object")) 2 43 T_AL_get co_AL_get := by
  intro As M Rt hT
  obtain ⟨a, c, d, n, cap, f, i, rfl, h1, h2, h3, h4, h5, hR⟩ := hT
  refine zMet_of false (by decide +kernel) (fun h => by first | rfl | cases h) (Nat.le_of_ble_eq_true rfl) (fun X hN hC => ?_)
  show zG X 0 [some (.inr a), some (.inl (.int (nI i)))] [] M 0 0
  refine s_AL_get_0 hC _ _ _ _ _ ?_
  simp only [B_AL_get_0, co_AL_elementData, co_AL_get, co_Objs_checkIndex, i_ic, i_lc, i_nul, i_il, i_ll, i_al, i_is, i_as, i_ls, i_inc, i_iadd, i_isub, i_imul, i_iand, i_ior, i_ixor, i_idiv, i_irem, i_ishl, i_ishr, i_ladd, i_lsub, i_land, i_lor, i_i2l, i_lushr, i_lshl, i_lshr, i_lcmp, i_dup, i_pop, i_dx1, i_dup2, i_ifeq, i_ifne, i_iflt, i_ifge, i_ifgt, i_ifle, i_iceq, i_icne, i_iclt, i_icge, i_icgt, i_icle, i_ifn, i_gf, i_pf, i_ial, i_bal, i_lal, i_aal, i_ias, i_las, i_bas, i_aas, i_alen, i_newa, i_new, i_anew, i_cast, i_oi, i_call, i_callV, i_callV2, i_callI, i_iret, i_zret, i_lret, i_vret, i_aret, i_mmx, i_mmn, i_gsE, i_aceq, i_no, i_acq, i_sw, zsw, zlg, zls, znl, zfg, zcs, zsp, zrc, zisn, zft, zc1, zto, Value.category, List.set_cons_zero, List.set_cons_succ, List.length_cons, List.length_nil, Option.toList, List.append, List.nil_append, List.cons_append, true_and, and_true, Nat.add_zero, Nat.zero_le, Nat.zero_add, Nat.le_refl, Nat.reduceAdd, Nat.reduceLeDiff, co0, z0, zn_0, zn_1, zn_2, zn_3, zn_4, zn_5, zn_8, zn_12, zn_24, zn_121, zn_144, zn_256, zn_300, zn_600, zn_720, zn_1204, zn_1280, zn_2400, zn_4816, zn_14400, zn_90000, h1]
  refine ⟨i, n, rfl, h3, by omega, ?_⟩
  simp only [h1, i_ic, i_lc, i_nul, i_il, i_ll, i_al, i_is, i_as, i_ls, i_inc, i_iadd, i_isub, i_imul, i_iand, i_ior, i_ixor, i_idiv, i_irem, i_ishl, i_ishr, i_ladd, i_lsub, i_land, i_lor, i_i2l, i_lushr, i_lshl, i_lshr, i_lcmp, i_dup, i_pop, i_dx1, i_dup2, i_ifeq, i_ifne, i_iflt, i_ifge, i_ifgt, i_ifle, i_iceq, i_icne, i_iclt, i_icge, i_icgt, i_icle, i_ifn, i_gf, i_pf, i_ial, i_bal, i_lal, i_aal, i_ias, i_las, i_bas, i_aas, i_alen, i_newa, i_new, i_anew, i_cast, i_oi, i_call, i_callV, i_callV2, i_callI, i_iret, i_zret, i_lret, i_vret, i_aret, i_mmx, i_mmn, i_gsE, i_aceq, i_no, i_acq, i_sw, zsw, zlg, zls, znl, zfg, zcs, zsp, zrc, zisn, zft, zc1, zto, Value.category, List.set_cons_zero, List.set_cons_succ, List.length_cons, List.length_nil, Option.toList, List.append, List.nil_append, List.cons_append, true_and, and_true, Nat.add_zero, Nat.zero_le, Nat.zero_add, Nat.le_refl, Nat.reduceAdd, Nat.reduceLeDiff, co0, z0, zn_0, zn_1, zn_2, zn_3, zn_4, zn_5, zn_8, zn_12, zn_24, zn_121, zn_144, zn_256, zn_300, zn_600, zn_720, zn_1204, zn_1280, zn_2400, zn_4816, zn_14400, zn_90000]
  refine ⟨a, c, d, n, cap, f, i, rfl, h1, h2, by omega, h5, ?_⟩
  cases hf : f i with
  | none => rw [hf] at hR; simp only [zov, i_ic, i_lc, i_nul, i_il, i_ll, i_al, i_is, i_as, i_ls, i_inc, i_iadd, i_isub, i_imul, i_iand, i_ior, i_ixor, i_idiv, i_irem, i_ishl, i_ishr, i_ladd, i_lsub, i_land, i_lor, i_i2l, i_lushr, i_lshl, i_lshr, i_lcmp, i_dup, i_pop, i_dx1, i_dup2, i_ifeq, i_ifne, i_iflt, i_ifge, i_ifgt, i_ifle, i_iceq, i_icne, i_iclt, i_icge, i_icgt, i_icle, i_ifn, i_gf, i_pf, i_ial, i_bal, i_lal, i_aal, i_ias, i_las, i_bas, i_aas, i_alen, i_newa, i_new, i_anew, i_cast, i_oi, i_call, i_callV, i_callV2, i_callI, i_iret, i_zret, i_lret, i_vret, i_aret, i_mmx, i_mmn, i_gsE, i_aceq, i_no, i_acq, i_sw, zsw, zlg, zls, znl, zfg, zcs, zsp, zrc, zisn, zft, zc1, zto, Value.category, List.set_cons_zero, List.set_cons_succ, List.length_cons, List.length_nil, Option.toList, List.append, List.nil_append, List.cons_append, true_and, and_true, Nat.add_zero, Nat.zero_le, Nat.zero_add, Nat.le_refl, Nat.reduceAdd, Nat.reduceLeDiff, co0, z0, zn_0, zn_1, zn_2, zn_3, zn_4, zn_5, zn_8, zn_12, zn_24, zn_121, zn_144, zn_256, zn_300, zn_600, zn_720, zn_1204, zn_1280, zn_2400, zn_4816, zn_14400, zn_90000] at hR ⊢; exact hR
  | some y => rw [hf] at hR; simp only [zov, i_ic, i_lc, i_nul, i_il, i_ll, i_al, i_is, i_as, i_ls, i_inc, i_iadd, i_isub, i_imul, i_iand, i_ior, i_ixor, i_idiv, i_irem, i_ishl, i_ishr, i_ladd, i_lsub, i_land, i_lor, i_i2l, i_lushr, i_lshl, i_lshr, i_lcmp, i_dup, i_pop, i_dx1, i_dup2, i_ifeq, i_ifne, i_iflt, i_ifge, i_ifgt, i_ifle, i_iceq, i_icne, i_iclt, i_icge, i_icgt, i_icle, i_ifn, i_gf, i_pf, i_ial, i_bal, i_lal, i_aal, i_ias, i_las, i_bas, i_aas, i_alen, i_newa, i_new, i_anew, i_cast, i_oi, i_call, i_callV, i_callV2, i_callI, i_iret, i_zret, i_lret, i_vret, i_aret, i_mmx, i_mmn, i_gsE, i_aceq, i_no, i_acq, i_sw, zsw, zlg, zls, znl, zfg, zcs, zsp, zrc, zisn, zft, zc1, zto, Value.category, List.set_cons_zero, List.set_cons_succ, List.length_cons, List.length_nil, Option.toList, List.append, List.nil_append, List.cons_append, true_and, and_true, Nat.add_zero, Nat.zero_le, Nat.zero_add, Nat.le_refl, Nat.reduceAdd, Nat.reduceLeDiff, co0, z0, zn_0, zn_1, zn_2, zn_3, zn_4, zn_5, zn_8, zn_12, zn_24, zn_121, zn_144, zn_256, zn_300, zn_600, zn_720, zn_1204, zn_1280, zn_2400, zn_4816, zn_14400, zn_90000] at hR ⊢; exact hR
/-- how long the new row is -/
def al_cap (n : Nat) : Nat := if n = 0 then 10 else n + max 1 (n / 2)
theorem al_cap_b {n : Nat} (h : n ≤ 600) : n < al_cap n ∧ al_cap n ≤ 1000 := by
  unfold al_cap
  split
  · omega
  · have : max 1 (n / 2) ≤ 300 := Nat.max_le.mpr ⟨by omega, by omega⟩
    have : 1 ≤ max 1 (n / 2) := Nat.le_max_left _ _
    omega
def T_AL_grow (As : List zAV) (M : zMp) (Rt : Option zAV → zMp → Prop) : Prop := ∃ a c d n f d', As = [.inr a, .inl (.int (nI (n + 1)))] ∧ zmo a ∧ M a = some (zal c d n) ∧ M d = some (zoa n f) ∧ n ≤ 600 ∧ (n = 0 → d = znE) ∧ M znE ≠ none ∧ M d' = none ∧ zmo d' ∧ (∀ i, i < n → ∀ y, f i = some y → zok M sOb (.inr y)) ∧ Rt (some (.inr d')) (zup (zup M d' (zoa (al_cap n) (va_cpy f (fun _ => none) 0 0 n))) a (zal c d' n))
def co_AL_grow : List zAV → zMp → Nat × Nat := fun _ _ => (1, 1000)
theorem dJx4a65c_grow_92f84_0 : decode cJx4a65c_grow_92f84 0 = .ok (.aload_n 0, 1) := by decide +kernel
theorem dJx4a65c_grow_92f84_1 : decode cJx4a65c_grow_92f84 1 = .ok (.getfield 9, 3) := by decide +kernel
theorem dJx4a65c_grow_92f84_4 : decode cJx4a65c_grow_92f84 4 = .ok (.arraylength, 1) := by decide +kernel
theorem dJx4a65c_grow_92f84_5 : decode cJx4a65c_grow_92f84 5 = .ok (.istore_n 2, 1) := by decide +kernel
theorem dJx4a65c_grow_92f84_6 : decode cJx4a65c_grow_92f84 6 = .ok (.iload_n 2, 1) := by decide +kernel
theorem dJx4a65c_grow_92f84_7 : decode cJx4a65c_grow_92f84 7 = .ok (.ifCond .gt 13, 3) := by decide +kernel
theorem dJx4a65c_grow_92f84_10 : decode cJx4a65c_grow_92f84 10 = .ok (.aload_n 0, 1) := by decide +kernel
theorem dJx4a65c_grow_92f84_11 : decode cJx4a65c_grow_92f84 11 = .ok (.getfield 9, 3) := by decide +kernel
theorem dJx4a65c_grow_92f84_14 : decode cJx4a65c_grow_92f84 14 = .ok (.getstatic 39, 3) := by decide +kernel
theorem dJx4a65c_grow_92f84_17 : decode cJx4a65c_grow_92f84 17 = .ok (.if_acmp .eq 28, 3) := by decide +kernel
theorem dJx4a65c_grow_92f84_20 : decode cJx4a65c_grow_92f84 20 = .ok (.iload_n 2, 1) := by decide +kernel
theorem dJx4a65c_grow_92f84_21 : decode cJx4a65c_grow_92f84 21 = .ok (.iload_n 1, 1) := by decide +kernel
theorem dJx4a65c_grow_92f84_22 : decode cJx4a65c_grow_92f84 22 = .ok (.iload_n 2, 1) := by decide +kernel
theorem dJx4a65c_grow_92f84_23 : decode cJx4a65c_grow_92f84 23 = .ok (.isub, 1) := by decide +kernel
theorem dJx4a65c_grow_92f84_24 : decode cJx4a65c_grow_92f84 24 = .ok (.iload_n 2, 1) := by decide +kernel
theorem dJx4a65c_grow_92f84_25 : decode cJx4a65c_grow_92f84 25 = .ok (.iconst 1, 1) := by decide +kernel
theorem dJx4a65c_grow_92f84_26 : decode cJx4a65c_grow_92f84 26 = .ok (.ishr, 1) := by decide +kernel
theorem dJx4a65c_grow_92f84_27 : decode cJx4a65c_grow_92f84 27 = .ok (.invokestatic 73, 3) := by decide +kernel
theorem dJx4a65c_grow_92f84_30 : decode cJx4a65c_grow_92f84 30 = .ok (.istore_n 3, 1) := by decide +kernel
theorem dJx4a65c_grow_92f84_31 : decode cJx4a65c_grow_92f84 31 = .ok (.aload_n 0, 1) := by decide +kernel
theorem dJx4a65c_grow_92f84_32 : decode cJx4a65c_grow_92f84 32 = .ok (.aload_n 0, 1) := by decide +kernel
theorem dJx4a65c_grow_92f84_33 : decode cJx4a65c_grow_92f84 33 = .ok (.getfield 9, 3) := by decide +kernel
theorem dJx4a65c_grow_92f84_36 : decode cJx4a65c_grow_92f84 36 = .ok (.iload_n 3, 1) := by decide +kernel
theorem dJx4a65c_grow_92f84_37 : decode cJx4a65c_grow_92f84 37 = .ok (.invokestatic 66, 3) := by decide +kernel
theorem dJx4a65c_grow_92f84_40 : decode cJx4a65c_grow_92f84 40 = .ok (.dup_x1, 1) := by decide +kernel
theorem dJx4a65c_grow_92f84_41 : decode cJx4a65c_grow_92f84 41 = .ok (.putfield 9, 3) := by decide +kernel
theorem dJx4a65c_grow_92f84_44 : decode cJx4a65c_grow_92f84 44 = .ok (.areturn, 1) := by decide +kernel
theorem dJx4a65c_grow_92f84_45 : decode cJx4a65c_grow_92f84 45 = .ok (.aload_n 0, 1) := by decide +kernel
theorem dJx4a65c_grow_92f84_46 : decode cJx4a65c_grow_92f84 46 = .ok (.bipush 10, 2) := by decide +kernel
theorem dJx4a65c_grow_92f84_48 : decode cJx4a65c_grow_92f84 48 = .ok (.iload_n 1, 1) := by decide +kernel
theorem dJx4a65c_grow_92f84_49 : decode cJx4a65c_grow_92f84 49 = .ok (.invokestatic 79, 3) := by decide +kernel
theorem dJx4a65c_grow_92f84_52 : decode cJx4a65c_grow_92f84 52 = .ok (.anewarray 7, 3) := by decide +kernel
theorem dJx4a65c_grow_92f84_55 : decode cJx4a65c_grow_92f84 55 = .ok (.dup_x1, 1) := by decide +kernel
theorem dJx4a65c_grow_92f84_56 : decode cJx4a65c_grow_92f84 56 = .ok (.putfield 9, 3) := by decide +kernel
theorem dJx4a65c_grow_92f84_59 : decode cJx4a65c_grow_92f84 59 = .ok (.areturn, 1) := by decide +kernel
def B_AL_grow_45 (mc ms : Nat) (Rt : Option zAV → zMp → Prop) (g : Nat → zKT) : zKT :=
  (i_al 0 (i_ic 10 (i_il 1 (i_mmx mc ms (i_anew mc ms "java/lang/Object" (i_dx1 (i_pf 0 1 (.array (.object "java/lang/Object")) (i_aret mc ms Rt))))))))
set_option maxRecDepth 20000 in
theorem s_AL_grow_45 {X : zMa} {mc ms : Nat} {Rt : Option zAV → zMp → Prop} (hC : zCx X RJx4a65c cJx4a65c_grow_92f84 3 84 mc ms (some (.array (.object "java/lang/Object"))) false Rt) (hN : zNL X = 4) : zLe (B_AL_grow_45 mc ms Rt (zG X)) (zG X 45) :=
  (sd_al_n hC rfl dJx4a65c_grow_92f84_45 ((sd_bipush hC (by decide) dJx4a65c_grow_92f84_46 ((sd_il_n hC rfl dJx4a65c_grow_92f84_48 ((sd_mmx hC ml_AL_79 (by decide) (by decide) dJx4a65c_grow_92f84_49 ((sd_anew hC cl_AL_7 ao_Obj_0 dJx4a65c_grow_92f84_52 ((sd_dx1 hC dJx4a65c_grow_92f84_55 ((sd_pf hC (ci := 0) (fk := 1) rfl wi_AL tyJx4a65c tyJx4a65c_ok nmJx4a65c (by decide) fl_AL_9 (Or.inl rfl) (Or.inl rfl) dJx4a65c_grow_92f84_56 ((sd_aret hC (Or.inr ⟨_, rfl⟩) dJx4a65c_grow_92f84_59)))))))))))))))
def B_AL_grow_20 (mc ms : Nat) (Rt : Option zAV → zMp → Prop) (g : Nat → zKT) : zKT :=
  (i_il 2 (i_il 1 (i_il 2 (i_isub (i_il 2 (i_ic 1 (i_ishr (i_call mc ms 3 T_ASup_newLength co_ASup_newLength (i_is 3 (i_al 0 (i_al 0 (i_gf 0 1 (i_il 3 (i_call mc ms 2 T_Arrs_copyOf co_Arrs_copyOf (i_dx1 (i_pf 0 1 (.array (.object "java/lang/Object")) (i_aret mc ms Rt)))))))))))))))))
set_option maxRecDepth 20000 in
theorem s_AL_grow_20 {X : zMa} {mc ms : Nat} {Rt : Option zAV → zMp → Prop} (hC : zCx X RJx4a65c cJx4a65c_grow_92f84 3 84 mc ms (some (.array (.object "java/lang/Object"))) false Rt) (hN : zNL X = 4) : zLe (B_AL_grow_20 mc ms Rt (zG X)) (zG X 20) :=
  (sd_il_n hC rfl dJx4a65c_grow_92f84_20 ((sd_il_n hC rfl dJx4a65c_grow_92f84_21 ((sd_il_n hC rfl dJx4a65c_grow_92f84_22 ((sd_isub hC dJx4a65c_grow_92f84_23 ((sd_il_n hC rfl dJx4a65c_grow_92f84_24 ((sd_iconst hC (by decide) dJx4a65c_grow_92f84_25 ((sd_ishr hC dJx4a65c_grow_92f84_26 ((sd_cS hC c_ASup_newLength ys_ASup_newLength ml_AL_73 (by decide) (by decide) dJx4a65c_grow_92f84_27 ((sd_is_n hC rfl (by rw [hN]; decide) dJx4a65c_grow_92f84_30 ((sd_al_n hC rfl dJx4a65c_grow_92f84_31 ((sd_al_n hC rfl dJx4a65c_grow_92f84_32 ((sd_gf hC (ci := 0) (fk := 1) rfl wi_AL (by decide) fl_AL_9 (Or.inl rfl) dJx4a65c_grow_92f84_33 ((sd_il_n hC rfl dJx4a65c_grow_92f84_36 ((sd_cS hC c_Arrs_copyOf ys_Arrs_copyOf ml_AL_66 (by decide) (by decide) dJx4a65c_grow_92f84_37 ((sd_dx1 hC dJx4a65c_grow_92f84_40 ((sd_pf hC (ci := 0) (fk := 1) rfl wi_AL tyJx4a65c tyJx4a65c_ok nmJx4a65c (by decide) fl_AL_9 (Or.inl rfl) (Or.inl rfl) dJx4a65c_grow_92f84_41 ((sd_aret hC (Or.inr ⟨_, rfl⟩) dJx4a65c_grow_92f84_44)))))))))))))))))))))))))))))))))
def B_AL_grow_0 (mc ms : Nat) (Rt : Option zAV → zMp → Prop) (g : Nat → zKT) : zKT :=
  (i_al 0 (i_gf 0 1 (i_alen (i_is 2 (i_il 2 (i_ifgt (B_AL_grow_20 mc ms Rt g) (i_al 0 (i_gf 0 1 (i_gsE (i_aceq (B_AL_grow_45 mc ms Rt g) (B_AL_grow_20 mc ms Rt g)))))))))))
set_option maxRecDepth 20000 in
theorem s_AL_grow_0 {X : zMa} {mc ms : Nat} {Rt : Option zAV → zMp → Prop} (hC : zCx X RJx4a65c cJx4a65c_grow_92f84 3 84 mc ms (some (.array (.object "java/lang/Object"))) false Rt) (hN : zNL X = 4) : zLe (B_AL_grow_0 mc ms Rt (zG X)) (zG X 0) :=
  (sd_al_n hC rfl dJx4a65c_grow_92f84_0 ((sd_gf hC (ci := 0) (fk := 1) rfl wi_AL (by decide) fl_AL_9 (Or.inl rfl) dJx4a65c_grow_92f84_1 ((sd_alen hC dJx4a65c_grow_92f84_4 ((sd_is_n hC rfl (by rw [hN]; decide) dJx4a65c_grow_92f84_5 ((sd_il_n hC rfl dJx4a65c_grow_92f84_6 ((sd_ifgt hC (tgt := 20) (by decide) dJx4a65c_grow_92f84_7 (s_AL_grow_20 hC hN) ((sd_al_n hC rfl dJx4a65c_grow_92f84_10 ((sd_gf hC (ci := 0) (fk := 1) rfl wi_AL (by decide) fl_AL_9 (Or.inl rfl) dJx4a65c_grow_92f84_11 ((sd_gsE hC rfl fl_AL_39 dJx4a65c_grow_92f84_14 ((sd_aceq hC (tgt := 45) (by decide) dJx4a65c_grow_92f84_17 (s_AL_grow_45 hC hN) (s_AL_grow_20 hC hN))))))))))))))))))))
theorem c_AL_grow (l : Launch) : zCT l yJx4a65c_grow_92f84 cJx4a65c_grow_92f84 4 (some (.array (.object "java/lang/Object"))) 3 84 T_AL_grow co_AL_grow := by
  intro As M Rt hT
  obtain ⟨a, c, d, n, f, d', rfl, ha, h1, h2, h3, h4, hE, h5, h6, h7, hR⟩ := hT
  have hda : a ≠ d' := fun q => by rw [q, h5] at h1; cases h1
  obtain ⟨hc1, hc2⟩ := al_cap_b h3
  refine zMet_of false (by decide +kernel) (fun h => by first | rfl | cases h) (Nat.le_of_ble_eq_true rfl) (fun X hN hC => ?_)
  show zG X 0 [some (.inr a), some (.inl (.int (nI (n + 1)))), none, none] [] M 0 0
  refine s_AL_grow_0 hC hN _ _ _ _ _ ?_
  have big : n ≠ 0 → B_AL_grow_20 1 1000 Rt (zG X) [some (.inr a), some (.inl (.int (nI (n + 1)))), some (.inl (.int (nI n))), none] [] M 0 0 := by
    intro hn
    simp only [B_AL_grow_0, B_AL_grow_20, B_AL_grow_45, co_AL_grow, co_ASup_newLength, co_Arrs_copyOf, i_ic, i_lc, i_nul, i_il, i_ll, i_al, i_is, i_as, i_ls, i_inc, i_iadd, i_isub, i_imul, i_iand, i_ior, i_ixor, i_idiv, i_irem, i_ishl, i_ishr, i_ladd, i_lsub, i_land, i_lor, i_i2l, i_lushr, i_lshl, i_lshr, i_lcmp, i_dup, i_pop, i_dx1, i_dup2, i_ifeq, i_ifne, i_iflt, i_ifge, i_ifgt, i_ifle, i_iceq, i_icne, i_iclt, i_icge, i_icgt, i_icle, i_ifn, i_gf, i_pf, i_ial, i_bal, i_lal, i_aal, i_ias, i_las, i_bas, i_aas, i_alen, i_newa, i_new, i_anew, i_cast, i_oi, i_call, i_callV, i_callV2, i_callI, i_iret, i_zret, i_lret, i_vret, i_aret, i_mmx, i_mmn, i_gsE, i_aceq, i_no, i_acq, i_sw, zsw, zlg, zls, znl, zfg, zcs, zsp, zrc, zisn, zft, zc1, zto, Value.category, List.set_cons_zero, List.set_cons_succ, List.length_cons, List.length_nil, Option.toList, List.append, List.nil_append, List.cons_append, true_and, and_true, Nat.add_zero, Nat.zero_le, Nat.zero_add, Nat.le_refl, Nat.reduceAdd, Nat.reduceLeDiff, co0, z0, zn_0, zn_1, zn_2, zn_3, zn_4, zn_5, zn_8, zn_12, zn_24, zn_121, zn_144, zn_256, zn_300, zn_600, zn_720, zn_1204, zn_1280, zn_2400, zn_4816, zn_14400, zn_90000, h1]
    have e1 : nI (n + 1) - nI n = nI 1 := by rw [pk_sub (by omega)]; congr 1; omega
    have e2 : nI n >>> ((1 : Int32) &&& 31) = nI (n / 2) := by
      have k := pk_shrN (n := n) (by omega) ((1 : Int32) &&& 31) 1 (by decide)
      rw [Nat.pow_one] at k
      exact k
    rw [e1, e2]
    refine ⟨n, 1, n / 2, rfl, by omega, by omega, by omega, by omega, ?_⟩
    have e3 : n + max 1 (n / 2) = al_cap n := by unfold al_cap; rw [if_neg hn]
    rw [e3]
    simp only [h1, i_ic, i_lc, i_nul, i_il, i_ll, i_al, i_is, i_as, i_ls, i_inc, i_iadd, i_isub, i_imul, i_iand, i_ior, i_ixor, i_idiv, i_irem, i_ishl, i_ishr, i_ladd, i_lsub, i_land, i_lor, i_i2l, i_lushr, i_lshl, i_lshr, i_lcmp, i_dup, i_pop, i_dx1, i_dup2, i_ifeq, i_ifne, i_iflt, i_ifge, i_ifgt, i_ifle, i_iceq, i_icne, i_iclt, i_icge, i_icgt, i_icle, i_ifn, i_gf, i_pf, i_ial, i_bal, i_lal, i_aal, i_ias, i_las, i_bas, i_aas, i_alen, i_newa, i_new, i_anew, i_cast, i_oi, i_call, i_callV, i_callV2, i_callI, i_iret, i_zret, i_lret, i_vret, i_aret, i_mmx, i_mmn, i_gsE, i_aceq, i_no, i_acq, i_sw, zsw, zlg, zls, znl, zfg, zcs, zsp, zrc, zisn, zft, zc1, zto, Value.category, List.set_cons_zero, List.set_cons_succ, List.length_cons, List.length_nil, Option.toList, List.append, List.nil_append, List.cons_append, true_and, and_true, Nat.add_zero, Nat.zero_le, Nat.zero_add, Nat.le_refl, Nat.reduceAdd, Nat.reduceLeDiff, co0, z0, zn_0, zn_1, zn_2, zn_3, zn_4, zn_5, zn_8, zn_12, zn_24, zn_121, zn_144, zn_256, zn_300, zn_600, zn_720, zn_1204, zn_1280, zn_2400, zn_4816, zn_14400, zn_90000]
    refine ⟨d, al_cap n, n, f, d', rfl, h2, by omega, hc2, h5, h6, h7, ?_⟩
    simp only [zup_o hda, h1, i_ic, i_lc, i_nul, i_il, i_ll, i_al, i_is, i_as, i_ls, i_inc, i_iadd, i_isub, i_imul, i_iand, i_ior, i_ixor, i_idiv, i_irem, i_ishl, i_ishr, i_ladd, i_lsub, i_land, i_lor, i_i2l, i_lushr, i_lshl, i_lshr, i_lcmp, i_dup, i_pop, i_dx1, i_dup2, i_ifeq, i_ifne, i_iflt, i_ifge, i_ifgt, i_ifle, i_iceq, i_icne, i_iclt, i_icge, i_icgt, i_icle, i_ifn, i_gf, i_pf, i_ial, i_bal, i_lal, i_aal, i_ias, i_las, i_bas, i_aas, i_alen, i_newa, i_new, i_anew, i_cast, i_oi, i_call, i_callV, i_callV2, i_callI, i_iret, i_zret, i_lret, i_vret, i_aret, i_mmx, i_mmn, i_gsE, i_aceq, i_no, i_acq, i_sw, zsw, zlg, zls, znl, zfg, zcs, zsp, zrc, zisn, zft, zc1, zto, Value.category, List.set_cons_zero, List.set_cons_succ, List.length_cons, List.length_nil, Option.toList, List.append, List.nil_append, List.cons_append, true_and, and_true, Nat.add_zero, Nat.zero_le, Nat.zero_add, Nat.le_refl, Nat.reduceAdd, Nat.reduceLeDiff, co0, z0, zn_0, zn_1, zn_2, zn_3, zn_4, zn_5, zn_8, zn_12, zn_24, zn_121, zn_144, zn_256, zn_300, zn_600, zn_720, zn_1204, zn_1280, zn_2400, zn_4816, zn_14400, zn_90000]
    exact ⟨ha, by decide, hR⟩
  simp only [B_AL_grow_0, B_AL_grow_20, B_AL_grow_45, co_AL_grow, co_ASup_newLength, co_Arrs_copyOf, i_ic, i_lc, i_nul, i_il, i_ll, i_al, i_is, i_as, i_ls, i_inc, i_iadd, i_isub, i_imul, i_iand, i_ior, i_ixor, i_idiv, i_irem, i_ishl, i_ishr, i_ladd, i_lsub, i_land, i_lor, i_i2l, i_lushr, i_lshl, i_lshr, i_lcmp, i_dup, i_pop, i_dx1, i_dup2, i_ifeq, i_ifne, i_iflt, i_ifge, i_ifgt, i_ifle, i_iceq, i_icne, i_iclt, i_icge, i_icgt, i_icle, i_ifn, i_gf, i_pf, i_ial, i_bal, i_lal, i_aal, i_ias, i_las, i_bas, i_aas, i_alen, i_newa, i_new, i_anew, i_cast, i_oi, i_call, i_callV, i_callV2, i_callI, i_iret, i_zret, i_lret, i_vret, i_aret, i_mmx, i_mmn, i_gsE, i_aceq, i_no, i_acq, i_sw, zsw, zlg, zls, znl, zfg, zcs, zsp, zrc, zisn, zft, zc1, zto, Value.category, List.set_cons_zero, List.set_cons_succ, List.length_cons, List.length_nil, Option.toList, List.append, List.nil_append, List.cons_append, true_and, and_true, Nat.add_zero, Nat.zero_le, Nat.zero_add, Nat.le_refl, Nat.reduceAdd, Nat.reduceLeDiff, co0, z0, zn_0, zn_1, zn_2, zn_3, zn_4, zn_5, zn_8, zn_12, zn_24, zn_121, zn_144, zn_256, zn_300, zn_600, zn_720, zn_1204, zn_1280, zn_2400, zn_4816, zn_14400, zn_90000, h1, h2]
  refine ⟨fun h => ?_, fun h => ?_⟩
  · have hn : n ≠ 0 := fun q => by subst q; exact absurd h (by decide)
    have := big hn
    simp only [B_AL_grow_0, B_AL_grow_20, B_AL_grow_45, co_AL_grow, co_ASup_newLength, co_Arrs_copyOf, i_ic, i_lc, i_nul, i_il, i_ll, i_al, i_is, i_as, i_ls, i_inc, i_iadd, i_isub, i_imul, i_iand, i_ior, i_ixor, i_idiv, i_irem, i_ishl, i_ishr, i_ladd, i_lsub, i_land, i_lor, i_i2l, i_lushr, i_lshl, i_lshr, i_lcmp, i_dup, i_pop, i_dx1, i_dup2, i_ifeq, i_ifne, i_iflt, i_ifge, i_ifgt, i_ifle, i_iceq, i_icne, i_iclt, i_icge, i_icgt, i_icle, i_ifn, i_gf, i_pf, i_ial, i_bal, i_lal, i_aal, i_ias, i_las, i_bas, i_aas, i_alen, i_newa, i_new, i_anew, i_cast, i_oi, i_call, i_callV, i_callV2, i_callI, i_iret, i_zret, i_lret, i_vret, i_aret, i_mmx, i_mmn, i_gsE, i_aceq, i_no, i_acq, i_sw, zsw, zlg, zls, znl, zfg, zcs, zsp, zrc, zisn, zft, zc1, zto, Value.category, List.set_cons_zero, List.set_cons_succ, List.length_cons, List.length_nil, Option.toList, List.append, List.nil_append, List.cons_append, true_and, and_true, Nat.add_zero, Nat.zero_le, Nat.zero_add, Nat.le_refl, Nat.reduceAdd, Nat.reduceLeDiff, co0, z0, zn_0, zn_1, zn_2, zn_3, zn_4, zn_5, zn_8, zn_12, zn_24, zn_121, zn_144, zn_256, zn_300, zn_600, zn_720, zn_1204, zn_1280, zn_2400, zn_4816, zn_14400, zn_90000, h1] at this
    exact this
  · have hn : n = 0 := Classical.byContradiction fun q => h (nI_lt (a := 0) (by omega) (by omega))
    refine ⟨hE, fun _ => ?_, fun h => absurd (h4 hn) h⟩
    subst hn
    rw [show (10 : Int32) = nI 10 from rfl, nI_max (by decide) (by decide)]
    refine ⟨d', h5, h6, by decide, by decide, by decide, ?_⟩
    simp only [zup_o hda, h1, i_ic, i_lc, i_nul, i_il, i_ll, i_al, i_is, i_as, i_ls, i_inc, i_iadd, i_isub, i_imul, i_iand, i_ior, i_ixor, i_idiv, i_irem, i_ishl, i_ishr, i_ladd, i_lsub, i_land, i_lor, i_i2l, i_lushr, i_lshl, i_lshr, i_lcmp, i_dup, i_pop, i_dx1, i_dup2, i_ifeq, i_ifne, i_iflt, i_ifge, i_ifgt, i_ifle, i_iceq, i_icne, i_iclt, i_icge, i_icgt, i_icle, i_ifn, i_gf, i_pf, i_ial, i_bal, i_lal, i_aal, i_ias, i_las, i_bas, i_aas, i_alen, i_newa, i_new, i_anew, i_cast, i_oi, i_call, i_callV, i_callV2, i_callI, i_iret, i_zret, i_lret, i_vret, i_aret, i_mmx, i_mmn, i_gsE, i_aceq, i_no, i_acq, i_sw, zsw, zlg, zls, znl, zfg, zcs, zsp, zrc, zisn, zft, zc1, zto, Value.category, List.set_cons_zero, List.set_cons_succ, List.length_cons, List.length_nil, Option.toList, List.append, List.nil_append, List.cons_append, true_and, and_true, Nat.add_zero, Nat.zero_le, Nat.zero_add, Nat.le_refl, Nat.reduceAdd, Nat.reduceLeDiff, co0, z0, zn_0, zn_1, zn_2, zn_3, zn_4, zn_5, zn_8, zn_12, zn_24, zn_121, zn_144, zn_256, zn_300, zn_600, zn_720, zn_1204, zn_1280, zn_2400, zn_4816, zn_14400, zn_90000]
    have e0 : va_cpy f (fun _ => (none : Option zNm)) 0 0 0 = fun _ => none := by
      funext k
      unfold va_cpy
      rw [if_neg (by omega)]
    rw [e0] at hR
    exact ⟨ha, by decide, by decide, hR⟩
def T_AL_grow2 (As : List zAV) (M : zMp) (Rt : Option zAV → zMp → Prop) : Prop := ∃ a c d n f d', As = [.inr a] ∧ zmo a ∧ M a = some (zal c d n) ∧ M d = some (zoa n f) ∧ n ≤ 600 ∧ (n = 0 → d = znE) ∧ M znE ≠ none ∧ M d' = none ∧ zmo d' ∧ (∀ i, i < n → ∀ y, f i = some y → zok M sOb (.inr y)) ∧ Rt (some (.inr d')) (zup (zup M d' (zoa (al_cap n) (va_cpy f (fun _ => none) 0 0 n))) a (zal c d' n))
def co_AL_grow2 : List zAV → zMp → Nat × Nat := fun _ _ => (1, 1000)
theorem dJx4a65c_grow_d5877_0 : decode cJx4a65c_grow_d5877 0 = .ok (.aload_n 0, 1) := by decide +kernel
theorem dJx4a65c_grow_d5877_1 : decode cJx4a65c_grow_d5877 1 = .ok (.aload_n 0, 1) := by decide +kernel
theorem dJx4a65c_grow_d5877_2 : decode cJx4a65c_grow_d5877 2 = .ok (.getfield 48, 3) := by decide +kernel
theorem dJx4a65c_grow_d5877_5 : decode cJx4a65c_grow_d5877 5 = .ok (.iconst 1, 1) := by decide +kernel
theorem dJx4a65c_grow_d5877_6 : decode cJx4a65c_grow_d5877 6 = .ok (.iadd, 1) := by decide +kernel
theorem dJx4a65c_grow_d5877_7 : decode cJx4a65c_grow_d5877 7 = .ok (.invokevirtual 69, 3) := by decide +kernel
theorem dJx4a65c_grow_d5877_10 : decode cJx4a65c_grow_d5877 10 = .ok (.areturn, 1) := by decide +kernel
def B_AL_grow2_0 (mc ms : Nat) (Rt : Option zAV → zMp → Prop) (g : Nat → zKT) : zKT :=
  (i_al 0 (i_al 0 (i_gf 0 2 (i_ic 1 (i_iadd (i_callV mc ms 0 2 T_AL_grow co_AL_grow (i_aret mc ms Rt)))))))
set_option maxRecDepth 20000 in
theorem s_AL_grow2_0 {X : zMa} {mc ms : Nat} {Rt : Option zAV → zMp → Prop} (hC : zCx X RJx4a65c cJx4a65c_grow_d5877 4 107 mc ms (some (.array (.object "java/lang/Object"))) false Rt) : zLe (B_AL_grow2_0 mc ms Rt (zG X)) (zG X 0) :=
  (sd_al_n hC rfl dJx4a65c_grow_d5877_0 ((sd_al_n hC rfl dJx4a65c_grow_d5877_1 ((sd_gf hC (ci := 0) (fk := 2) rfl wi_AL (by decide) fl_AL_48 (Or.inl rfl) dJx4a65c_grow_d5877_2 ((sd_iconst hC (by decide) dJx4a65c_grow_d5877_5 ((sd_iadd hC dJx4a65c_grow_d5877_6 ((sd_cV hC c_AL_grow yv_AL_grow (ci := 0) rfl rfl ml_AL_69 (by decide) (by decide) dJx4a65c_grow_d5877_7 ((sd_aret hC (Or.inr ⟨_, rfl⟩) dJx4a65c_grow_d5877_10)))))))))))))
theorem c_AL_grow2 (l : Launch) : zCT l yJx4a65c_grow_d5877 cJx4a65c_grow_d5877 1 (some (.array (.object "java/lang/Object"))) 4 107 T_AL_grow2 co_AL_grow2 := by
  intro As M Rt hT
  obtain ⟨a, c, d, n, f, d', rfl, ha, h1, h2, h3, h4, hE, h5, h6, h7, hR⟩ := hT
  refine zMet_of false (by decide +kernel) (fun h => by first | rfl | cases h) (Nat.le_of_ble_eq_true rfl) (fun X hN hC => ?_)
  show zG X 0 [some (.inr a)] [] M 0 0
  refine s_AL_grow2_0 hC _ _ _ _ _ ?_
  simp only [B_AL_grow2_0, co_AL_grow, co_AL_grow2, i_ic, i_lc, i_nul, i_il, i_ll, i_al, i_is, i_as, i_ls, i_inc, i_iadd, i_isub, i_imul, i_iand, i_ior, i_ixor, i_idiv, i_irem, i_ishl, i_ishr, i_ladd, i_lsub, i_land, i_lor, i_i2l, i_lushr, i_lshl, i_lshr, i_lcmp, i_dup, i_pop, i_dx1, i_dup2, i_ifeq, i_ifne, i_iflt, i_ifge, i_ifgt, i_ifle, i_iceq, i_icne, i_iclt, i_icge, i_icgt, i_icle, i_ifn, i_gf, i_pf, i_ial, i_bal, i_lal, i_aal, i_ias, i_las, i_bas, i_aas, i_alen, i_newa, i_new, i_anew, i_cast, i_oi, i_call, i_callV, i_callV2, i_callI, i_iret, i_zret, i_lret, i_vret, i_aret, i_mmx, i_mmn, i_gsE, i_aceq, i_no, i_acq, i_sw, zsw, zlg, zls, znl, zfg, zcs, zsp, zrc, zisn, zft, zc1, zto, Value.category, List.set_cons_zero, List.set_cons_succ, List.length_cons, List.length_nil, Option.toList, List.append, List.nil_append, List.cons_append, true_and, and_true, Nat.add_zero, Nat.zero_le, Nat.zero_add, Nat.le_refl, Nat.reduceAdd, Nat.reduceLeDiff, co0, z0, zn_0, zn_1, zn_2, zn_3, zn_4, zn_5, zn_8, zn_12, zn_24, zn_121, zn_144, zn_256, zn_300, zn_600, zn_720, zn_1204, zn_1280, zn_2400, zn_4816, zn_14400, zn_90000, h1]
  rw [nI_1]
  refine ⟨a, c, d, n, f, d', rfl, ha, h1, h2, h3, h4, hE, h5, h6, h7, ?_⟩
  simp only [i_ic, i_lc, i_nul, i_il, i_ll, i_al, i_is, i_as, i_ls, i_inc, i_iadd, i_isub, i_imul, i_iand, i_ior, i_ixor, i_idiv, i_irem, i_ishl, i_ishr, i_ladd, i_lsub, i_land, i_lor, i_i2l, i_lushr, i_lshl, i_lshr, i_lcmp, i_dup, i_pop, i_dx1, i_dup2, i_ifeq, i_ifne, i_iflt, i_ifge, i_ifgt, i_ifle, i_iceq, i_icne, i_iclt, i_icge, i_icgt, i_icle, i_ifn, i_gf, i_pf, i_ial, i_bal, i_lal, i_aal, i_ias, i_las, i_bas, i_aas, i_alen, i_newa, i_new, i_anew, i_cast, i_oi, i_call, i_callV, i_callV2, i_callI, i_iret, i_zret, i_lret, i_vret, i_aret, i_mmx, i_mmn, i_gsE, i_aceq, i_no, i_acq, i_sw, zsw, zlg, zls, znl, zfg, zcs, zsp, zrc, zisn, zft, zc1, zto, Value.category, List.set_cons_zero, List.set_cons_succ, List.length_cons, List.length_nil, Option.toList, List.append, List.nil_append, List.cons_append, true_and, and_true, Nat.add_zero, Nat.zero_le, Nat.zero_add, Nat.le_refl, Nat.reduceAdd, Nat.reduceLeDiff, co0, z0, zn_0, zn_1, zn_2, zn_3, zn_4, zn_5, zn_8, zn_12, zn_24, zn_121, zn_144, zn_256, zn_300, zn_600, zn_720, zn_1204, zn_1280, zn_2400, zn_4816, zn_14400, zn_90000]
  exact hR
/-- add(E, Object[], int) -/
def al_put (M : zMp) (a d e : zNm) (c : Int32) (n cap : Nat) (f : Nat → Option zNm) (Rt : Option zAV → zMp → Prop) (v : Option zAV) : Prop :=
  (n < cap ∧ zmo d ∧ Rt v (zup (zup M d (zoa cap (va_up f n (some e)))) a (zal c d (n + 1)))) ∨
  (n = cap ∧ (n = 0 → d = znE) ∧ ∃ d', M d' = none ∧ zmo d' ∧ (∀ i, i < n → ∀ y, f i = some y → zok M sOb (.inr y)) ∧ Rt v (zup (zup M d' (zoa (al_cap n) (va_up (va_cpy f (fun _ => none) 0 0 n) n (some e)))) a (zal c d' (n + 1))))
def T_AL_add (As : List zAV) (M : zMp) (Rt : Option zAV → zMp → Prop) : Prop := ∃ a e c d n cap f, As = [.inr a, .inr e, .inr d, .inl (.int (nI n))] ∧ zmo a ∧ M a = some (zal c d n) ∧ M d = some (zoa cap f) ∧ cap ≤ 1000 ∧ n ≤ 600 ∧ M znE ≠ none ∧ zok M sOb (.inr e) ∧ al_put M a d e c n cap f Rt none
def co_AL_add : List zAV → zMp → Nat × Nat := fun _ _ => (1, 1000)
theorem dJx4a65c_add_72be8_0 : decode cJx4a65c_add_72be8 0 = .ok (.iload_n 3, 1) := by decide +kernel
theorem dJx4a65c_add_72be8_1 : decode cJx4a65c_add_72be8 1 = .ok (.aload_n 2, 1) := by decide +kernel
theorem dJx4a65c_add_72be8_2 : decode cJx4a65c_add_72be8 2 = .ok (.arraylength, 1) := by decide +kernel
theorem dJx4a65c_add_72be8_3 : decode cJx4a65c_add_72be8 3 = .ok (.if_icmp .ne 8, 3) := by decide +kernel
theorem dJx4a65c_add_72be8_6 : decode cJx4a65c_add_72be8 6 = .ok (.aload_n 0, 1) := by decide +kernel
theorem dJx4a65c_add_72be8_7 : decode cJx4a65c_add_72be8 7 = .ok (.invokevirtual 129, 3) := by decide +kernel
theorem dJx4a65c_add_72be8_10 : decode cJx4a65c_add_72be8 10 = .ok (.astore_n 2, 1) := by decide +kernel
theorem dJx4a65c_add_72be8_11 : decode cJx4a65c_add_72be8 11 = .ok (.aload_n 2, 1) := by decide +kernel
theorem dJx4a65c_add_72be8_12 : decode cJx4a65c_add_72be8 12 = .ok (.iload_n 3, 1) := by decide +kernel
theorem dJx4a65c_add_72be8_13 : decode cJx4a65c_add_72be8 13 = .ok (.aload_n 1, 1) := by decide +kernel
theorem dJx4a65c_add_72be8_14 : decode cJx4a65c_add_72be8 14 = .ok (.aastore, 1) := by decide +kernel
theorem dJx4a65c_add_72be8_15 : decode cJx4a65c_add_72be8 15 = .ok (.aload_n 0, 1) := by decide +kernel
theorem dJx4a65c_add_72be8_16 : decode cJx4a65c_add_72be8 16 = .ok (.iload_n 3, 1) := by decide +kernel
theorem dJx4a65c_add_72be8_17 : decode cJx4a65c_add_72be8 17 = .ok (.iconst 1, 1) := by decide +kernel
theorem dJx4a65c_add_72be8_18 : decode cJx4a65c_add_72be8 18 = .ok (.iadd, 1) := by decide +kernel
theorem dJx4a65c_add_72be8_19 : decode cJx4a65c_add_72be8 19 = .ok (.putfield 48, 3) := by decide +kernel
theorem dJx4a65c_add_72be8_22 : decode cJx4a65c_add_72be8 22 = .ok (.return_, 1) := by decide +kernel
def B_AL_add_11 (mc ms : Nat) (Rt : Option zAV → zMp → Prop) (g : Nat → zKT) : zKT :=
  (i_al 2 (i_il 3 (i_al 1 (i_aas "java/lang/Object" (i_al 0 (i_il 3 (i_ic 1 (i_iadd (i_pf 0 2 .int (i_vret mc ms Rt))))))))))
set_option maxRecDepth 20000 in
theorem s_AL_add_11 {X : zMa} {mc ms : Nat} {Rt : Option zAV → zMp → Prop} (hC : zCx X RJx4a65c cJx4a65c_add_72be8 5 127 mc ms (none) false Rt) (hN : zNL X = 4) : zLe (B_AL_add_11 mc ms Rt (zG X)) (zG X 11) :=
  (sd_al_n hC rfl dJx4a65c_add_72be8_11 ((sd_il_n hC rfl dJx4a65c_add_72be8_12 ((sd_al_n hC rfl dJx4a65c_add_72be8_13 ((sd_aas hC dJx4a65c_add_72be8_14 ((sd_al_n hC rfl dJx4a65c_add_72be8_15 ((sd_il_n hC rfl dJx4a65c_add_72be8_16 ((sd_iconst hC (by decide) dJx4a65c_add_72be8_17 ((sd_iadd hC dJx4a65c_add_72be8_18 ((sd_pf hC (ci := 0) (fk := 2) rfl wi_AL tyJx4a65c tyJx4a65c_ok nmJx4a65c (by decide) fl_AL_48 (Or.inl rfl) (Or.inl rfl) dJx4a65c_add_72be8_19 ((sd_vret hC dJx4a65c_add_72be8_22)))))))))))))))))))
def B_AL_add_0 (mc ms : Nat) (Rt : Option zAV → zMp → Prop) (g : Nat → zKT) : zKT :=
  (i_il 3 (i_al 2 (i_alen (i_icne (B_AL_add_11 mc ms Rt g) (i_al 0 (i_callV mc ms 0 1 T_AL_grow2 co_AL_grow2 (i_as 2 (B_AL_add_11 mc ms Rt g))))))))
set_option maxRecDepth 20000 in
theorem s_AL_add_0 {X : zMa} {mc ms : Nat} {Rt : Option zAV → zMp → Prop} (hC : zCx X RJx4a65c cJx4a65c_add_72be8 5 127 mc ms (none) false Rt) (hN : zNL X = 4) : zLe (B_AL_add_0 mc ms Rt (zG X)) (zG X 0) :=
  (sd_il_n hC rfl dJx4a65c_add_72be8_0 ((sd_al_n hC rfl dJx4a65c_add_72be8_1 ((sd_alen hC dJx4a65c_add_72be8_2 ((sd_icne hC (tgt := 11) (by decide) dJx4a65c_add_72be8_3 (s_AL_add_11 hC hN) ((sd_al_n hC rfl dJx4a65c_add_72be8_6 ((sd_cV hC c_AL_grow2 yv_AL_grow2 (ci := 0) rfl rfl ml_AL_129 (by decide) (by decide) dJx4a65c_add_72be8_7 ((sd_as_n hC rfl (by rw [hN]; decide) dJx4a65c_add_72be8_10 (s_AL_add_11 hC hN))))))))))))))
theorem c_AL_add (l : Launch) : zCT l yJx4a65c_add_72be8 cJx4a65c_add_72be8 4 (none) 5 127 T_AL_add co_AL_add := by
  intro As M Rt hT
  obtain ⟨a, e, c, d, n, cap, f, rfl, ha, h1, h2, h3, h3', hE, h4, hp⟩ := hT
  refine zMet_of false (by decide +kernel) (fun h => by first | rfl | cases h) (Nat.le_of_ble_eq_true rfl) (fun X hN hC => ?_)
  show zG X 0 [some (.inr a), some (.inr e), some (.inr d), some (.inl (.int (nI n)))] [] M 0 0
  refine s_AL_add_0 hC hN _ _ _ _ _ ?_
  simp only [B_AL_add_0, B_AL_add_11, co_AL_add, co_AL_grow2, i_ic, i_lc, i_nul, i_il, i_ll, i_al, i_is, i_as, i_ls, i_inc, i_iadd, i_isub, i_imul, i_iand, i_ior, i_ixor, i_idiv, i_irem, i_ishl, i_ishr, i_ladd, i_lsub, i_land, i_lor, i_i2l, i_lushr, i_lshl, i_lshr, i_lcmp, i_dup, i_pop, i_dx1, i_dup2, i_ifeq, i_ifne, i_iflt, i_ifge, i_ifgt, i_ifle, i_iceq, i_icne, i_iclt, i_icge, i_icgt, i_icle, i_ifn, i_gf, i_pf, i_ial, i_bal, i_lal, i_aal, i_ias, i_las, i_bas, i_aas, i_alen, i_newa, i_new, i_anew, i_cast, i_oi, i_call, i_callV, i_callV2, i_callI, i_iret, i_zret, i_lret, i_vret, i_aret, i_mmx, i_mmn, i_gsE, i_aceq, i_no, i_acq, i_sw, zsw, zlg, zls, znl, zfg, zcs, zsp, zrc, zisn, zft, zc1, zto, Value.category, List.set_cons_zero, List.set_cons_succ, List.length_cons, List.length_nil, Option.toList, List.append, List.nil_append, List.cons_append, true_and, and_true, Nat.add_zero, Nat.zero_le, Nat.zero_add, Nat.le_refl, Nat.reduceAdd, Nat.reduceLeDiff, co0, z0, zn_0, zn_1, zn_2, zn_3, zn_4, zn_5, zn_8, zn_12, zn_24, zn_121, zn_144, zn_256, zn_300, zn_600, zn_720, zn_1204, zn_1280, zn_2400, zn_4816, zn_14400, zn_90000, h2]
  rw [nI_eq (by omega) (by omega)]
  rcases hp with ⟨hlt, hd, hR⟩ | ⟨heq, h0, d', h5, h6, h7, hR⟩
  · have hda : a ≠ d := zdf h1 h2 (by simp)
    refine ⟨fun _ => ⟨hd, vp_in_nI hlt (by omega), h4, ?_⟩, fun h => absurd h (by omega)⟩
    rw [nI_clamp (by omega), nI_1]
    simp only [zup_o hda, h1, i_ic, i_lc, i_nul, i_il, i_ll, i_al, i_is, i_as, i_ls, i_inc, i_iadd, i_isub, i_imul, i_iand, i_ior, i_ixor, i_idiv, i_irem, i_ishl, i_ishr, i_ladd, i_lsub, i_land, i_lor, i_i2l, i_lushr, i_lshl, i_lshr, i_lcmp, i_dup, i_pop, i_dx1, i_dup2, i_ifeq, i_ifne, i_iflt, i_ifge, i_ifgt, i_ifle, i_iceq, i_icne, i_iclt, i_icge, i_icgt, i_icle, i_ifn, i_gf, i_pf, i_ial, i_bal, i_lal, i_aal, i_ias, i_las, i_bas, i_aas, i_alen, i_newa, i_new, i_anew, i_cast, i_oi, i_call, i_callV, i_callV2, i_callI, i_iret, i_zret, i_lret, i_vret, i_aret, i_mmx, i_mmn, i_gsE, i_aceq, i_no, i_acq, i_sw, zsw, zlg, zls, znl, zfg, zcs, zsp, zrc, zisn, zft, zc1, zto, Value.category, List.set_cons_zero, List.set_cons_succ, List.length_cons, List.length_nil, Option.toList, List.append, List.nil_append, List.cons_append, true_and, and_true, Nat.add_zero, Nat.zero_le, Nat.zero_add, Nat.le_refl, Nat.reduceAdd, Nat.reduceLeDiff, co0, z0, zn_0, zn_1, zn_2, zn_3, zn_4, zn_5, zn_8, zn_12, zn_24, zn_121, zn_144, zn_256, zn_300, zn_600, zn_720, zn_1204, zn_1280, zn_2400, zn_4816, zn_14400, zn_90000]
    exact ⟨ha, by decide, hR⟩
  · subst heq
    obtain ⟨hc1, hc2⟩ := al_cap_b h3'
    have hda : a ≠ d' := fun q => by rw [q, h5] at h1; cases h1
    refine ⟨fun h => absurd rfl h, fun _ => ?_⟩
    simp only [h1, i_ic, i_lc, i_nul, i_il, i_ll, i_al, i_is, i_as, i_ls, i_inc, i_iadd, i_isub, i_imul, i_iand, i_ior, i_ixor, i_idiv, i_irem, i_ishl, i_ishr, i_ladd, i_lsub, i_land, i_lor, i_i2l, i_lushr, i_lshl, i_lshr, i_lcmp, i_dup, i_pop, i_dx1, i_dup2, i_ifeq, i_ifne, i_iflt, i_ifge, i_ifgt, i_ifle, i_iceq, i_icne, i_iclt, i_icge, i_icgt, i_icle, i_ifn, i_gf, i_pf, i_ial, i_bal, i_lal, i_aal, i_ias, i_las, i_bas, i_aas, i_alen, i_newa, i_new, i_anew, i_cast, i_oi, i_call, i_callV, i_callV2, i_callI, i_iret, i_zret, i_lret, i_vret, i_aret, i_mmx, i_mmn, i_gsE, i_aceq, i_no, i_acq, i_sw, zsw, zlg, zls, znl, zfg, zcs, zsp, zrc, zisn, zft, zc1, zto, Value.category, List.set_cons_zero, List.set_cons_succ, List.length_cons, List.length_nil, Option.toList, List.append, List.nil_append, List.cons_append, true_and, and_true, Nat.add_zero, Nat.zero_le, Nat.zero_add, Nat.le_refl, Nat.reduceAdd, Nat.reduceLeDiff, co0, z0, zn_0, zn_1, zn_2, zn_3, zn_4, zn_5, zn_8, zn_12, zn_24, zn_121, zn_144, zn_256, zn_300, zn_600, zn_720, zn_1204, zn_1280, zn_2400, zn_4816, zn_14400, zn_90000]
    refine ⟨a, c, d, n, f, d', rfl, ha, h1, h2, h3', h0, hE, h5, h6, h7, ?_⟩
    simp only [zup_s, zup_o (Ne.symm hda), zup_o hda, i_ic, i_lc, i_nul, i_il, i_ll, i_al, i_is, i_as, i_ls, i_inc, i_iadd, i_isub, i_imul, i_iand, i_ior, i_ixor, i_idiv, i_irem, i_ishl, i_ishr, i_ladd, i_lsub, i_land, i_lor, i_i2l, i_lushr, i_lshl, i_lshr, i_lcmp, i_dup, i_pop, i_dx1, i_dup2, i_ifeq, i_ifne, i_iflt, i_ifge, i_ifgt, i_ifle, i_iceq, i_icne, i_iclt, i_icge, i_icgt, i_icle, i_ifn, i_gf, i_pf, i_ial, i_bal, i_lal, i_aal, i_ias, i_las, i_bas, i_aas, i_alen, i_newa, i_new, i_anew, i_cast, i_oi, i_call, i_callV, i_callV2, i_callI, i_iret, i_zret, i_lret, i_vret, i_aret, i_mmx, i_mmn, i_gsE, i_aceq, i_no, i_acq, i_sw, zsw, zlg, zls, znl, zfg, zcs, zsp, zrc, zisn, zft, zc1, zto, Value.category, List.set_cons_zero, List.set_cons_succ, List.length_cons, List.length_nil, Option.toList, List.append, List.nil_append, List.cons_append, true_and, and_true, Nat.add_zero, Nat.zero_le, Nat.zero_add, Nat.le_refl, Nat.reduceAdd, Nat.reduceLeDiff, co0, z0, zn_0, zn_1, zn_2, zn_3, zn_4, zn_5, zn_8, zn_12, zn_24, zn_121, zn_144, zn_256, zn_300, zn_600, zn_720, zn_1204, zn_1280, zn_2400, zn_4816, zn_14400, zn_90000]
    have hok : zok (zup (zup M d' (zoa (al_cap n) (va_cpy f (fun _ => none) 0 0 n))) a (zal c d' n)) sOb (.inr e) := by
      have hy : e ≠ d' := fun q => by rw [q] at h4; simp only [zok, h5] at h4
      by_cases hea : e = a
      · subst hea
        simp only [zok, h1] at h4
        simp only [zok, zup_s]
        exact h4
      · simp only [zok, zup_o hea, zup_o hy] at h4 ⊢
        exact h4
    refine ⟨h6, vp_in_nI hc1 (by omega), hok, ?_⟩
    rw [nI_clamp (by omega), nI_1]
    refine ⟨ha, by decide, ?_⟩
    rw [zup_comm (a := a) (b := d') hda, zup_zup, zup_zup]
    exact hR
def T_AL_add2 (As : List zAV) (M : zMp) (Rt : Option zAV → zMp → Prop) : Prop := ∃ a e c d n cap f, As = [.inr a, .inr e] ∧ zmo a ∧ M a = some (zal c d n) ∧ M d = some (zoa cap f) ∧ cap ≤ 1000 ∧ n ≤ 600 ∧ M znE ≠ none ∧ zok M sOb (.inr e) ∧ a ≠ e ∧ al_put M a d e (c + 1) n cap f Rt (some (.inl (.int 1)))
def co_AL_add2 : List zAV → zMp → Nat × Nat := fun _ _ => (1, 1000)
theorem dJx4a65c_add_9ea2d_0 : decode cJx4a65c_add_9ea2d 0 = .ok (.aload_n 0, 1) := by decide +kernel
theorem dJx4a65c_add_9ea2d_1 : decode cJx4a65c_add_9ea2d 1 = .ok (.dup, 1) := by decide +kernel
theorem dJx4a65c_add_9ea2d_2 : decode cJx4a65c_add_9ea2d 2 = .ok (.getfield 63, 3) := by decide +kernel
theorem dJx4a65c_add_9ea2d_5 : decode cJx4a65c_add_9ea2d 5 = .ok (.iconst 1, 1) := by decide +kernel
theorem dJx4a65c_add_9ea2d_6 : decode cJx4a65c_add_9ea2d 6 = .ok (.iadd, 1) := by decide +kernel
theorem dJx4a65c_add_9ea2d_7 : decode cJx4a65c_add_9ea2d 7 = .ok (.putfield 63, 3) := by decide +kernel
theorem dJx4a65c_add_9ea2d_10 : decode cJx4a65c_add_9ea2d 10 = .ok (.aload_n 0, 1) := by decide +kernel
theorem dJx4a65c_add_9ea2d_11 : decode cJx4a65c_add_9ea2d 11 = .ok (.aload_n 1, 1) := by decide +kernel
theorem dJx4a65c_add_9ea2d_12 : decode cJx4a65c_add_9ea2d 12 = .ok (.aload_n 0, 1) := by decide +kernel
theorem dJx4a65c_add_9ea2d_13 : decode cJx4a65c_add_9ea2d 13 = .ok (.getfield 9, 3) := by decide +kernel
theorem dJx4a65c_add_9ea2d_16 : decode cJx4a65c_add_9ea2d 16 = .ok (.aload_n 0, 1) := by decide +kernel
theorem dJx4a65c_add_9ea2d_17 : decode cJx4a65c_add_9ea2d 17 = .ok (.getfield 48, 3) := by decide +kernel
theorem dJx4a65c_add_9ea2d_20 : decode cJx4a65c_add_9ea2d 20 = .ok (.invokevirtual 131, 3) := by decide +kernel
theorem dJx4a65c_add_9ea2d_23 : decode cJx4a65c_add_9ea2d 23 = .ok (.iconst 1, 1) := by decide +kernel
theorem dJx4a65c_add_9ea2d_24 : decode cJx4a65c_add_9ea2d 24 = .ok (.ireturn, 1) := by decide +kernel
def B_AL_add2_0 (mc ms : Nat) (Rt : Option zAV → zMp → Prop) (g : Nat → zKT) : zKT :=
  (i_al 0 (i_dup (i_gf 0 0 (i_ic 1 (i_iadd (i_pf 0 0 .int (i_al 0 (i_al 1 (i_al 0 (i_gf 0 1 (i_al 0 (i_gf 0 2 (i_callV mc ms 0 4 T_AL_add co_AL_add (i_ic 1 (i_zret mc ms Rt)))))))))))))))
set_option maxRecDepth 20000 in
theorem s_AL_add2_0 {X : zMa} {mc ms : Nat} {Rt : Option zAV → zMp → Prop} (hC : zCx X RJx4a65c cJx4a65c_add_9ea2d 6 150 mc ms (some .boolean) false Rt) : zLe (B_AL_add2_0 mc ms Rt (zG X)) (zG X 0) :=
  (sd_al_n hC rfl dJx4a65c_add_9ea2d_0 ((sd_dup hC dJx4a65c_add_9ea2d_1 ((sd_gf hC (ci := 0) (fk := 0) rfl wi_AL (by decide) fl_AL_63 (Or.inr sf_AL_0) dJx4a65c_add_9ea2d_2 ((sd_iconst hC (by decide) dJx4a65c_add_9ea2d_5 ((sd_iadd hC dJx4a65c_add_9ea2d_6 ((sd_pf hC (ci := 0) (fk := 0) rfl wi_AL tyJx4a65c tyJx4a65c_ok nmJx4a65c (by decide) fl_AL_63 (Or.inr sf_AL_0) (Or.inl rfl) dJx4a65c_add_9ea2d_7 ((sd_al_n hC rfl dJx4a65c_add_9ea2d_10 ((sd_al_n hC rfl dJx4a65c_add_9ea2d_11 ((sd_al_n hC rfl dJx4a65c_add_9ea2d_12 ((sd_gf hC (ci := 0) (fk := 1) rfl wi_AL (by decide) fl_AL_9 (Or.inl rfl) dJx4a65c_add_9ea2d_13 ((sd_al_n hC rfl dJx4a65c_add_9ea2d_16 ((sd_gf hC (ci := 0) (fk := 2) rfl wi_AL (by decide) fl_AL_48 (Or.inl rfl) dJx4a65c_add_9ea2d_17 ((sd_cV hC c_AL_add yv_AL_add (ci := 0) rfl rfl ml_AL_131 (by decide) (by decide) dJx4a65c_add_9ea2d_20 ((sd_iconst hC (by decide) dJx4a65c_add_9ea2d_23 ((sd_zret hC dJx4a65c_add_9ea2d_24)))))))))))))))))))))))))))))
theorem zok_put {M : zMp} {a y : zNm} {ci : Nat} {fs fs' : List zAV} {C : String} (ha : M a = some (.inr (ci, fs))) (h : zok M C (.inr y)) : zok (zup M a (.inr (ci, fs'))) C (.inr y) := by
  by_cases hy : y = a
  · subst hy
    simp only [zok, ha] at h
    simp only [zok, zup_s]
    exact h
  · simp only [zok, zup_o hy] at h ⊢
    exact h
theorem c_AL_add2 (l : Launch) : zCT l yJx4a65c_add_9ea2d cJx4a65c_add_9ea2d 2 (some .boolean) 6 150 T_AL_add2 co_AL_add2 := by
  intro As M Rt hT
  obtain ⟨a, e, c, d, n, cap, f, rfl, ha, h1, h2, h3, h3', hE, h4, hae, hp⟩ := hT
  have hda : a ≠ d := zdf h1 h2 (by simp)
  refine zMet_of false (by decide +kernel) (fun h => by first | rfl | cases h) (Nat.le_of_ble_eq_true rfl) (fun X hN hC => ?_)
  show zG X 0 [some (.inr a), some (.inr e)] [] M 0 0
  refine s_AL_add2_0 hC _ _ _ _ _ ?_
  simp only [B_AL_add2_0, co_AL_add, co_AL_add2, i_ic, i_lc, i_nul, i_il, i_ll, i_al, i_is, i_as, i_ls, i_inc, i_iadd, i_isub, i_imul, i_iand, i_ior, i_ixor, i_idiv, i_irem, i_ishl, i_ishr, i_ladd, i_lsub, i_land, i_lor, i_i2l, i_lushr, i_lshl, i_lshr, i_lcmp, i_dup, i_pop, i_dx1, i_dup2, i_ifeq, i_ifne, i_iflt, i_ifge, i_ifgt, i_ifle, i_iceq, i_icne, i_iclt, i_icge, i_icgt, i_icle, i_ifn, i_gf, i_pf, i_ial, i_bal, i_lal, i_aal, i_ias, i_las, i_bas, i_aas, i_alen, i_newa, i_new, i_anew, i_cast, i_oi, i_call, i_callV, i_callV2, i_callI, i_iret, i_zret, i_lret, i_vret, i_aret, i_mmx, i_mmn, i_gsE, i_aceq, i_no, i_acq, i_sw, zsw, zlg, zls, znl, zfg, zcs, zsp, zrc, zisn, zft, zc1, zto, Value.category, List.set_cons_zero, List.set_cons_succ, List.length_cons, List.length_nil, Option.toList, List.append, List.nil_append, List.cons_append, true_and, and_true, Nat.add_zero, Nat.zero_le, Nat.zero_add, Nat.le_refl, Nat.reduceAdd, Nat.reduceLeDiff, co0, z0, zn_0, zn_1, zn_2, zn_3, zn_4, zn_5, zn_8, zn_12, zn_24, zn_121, zn_144, zn_256, zn_300, zn_600, zn_720, zn_1204, zn_1280, zn_2400, zn_4816, zn_14400, zn_90000, h1, zup_s]
  refine ⟨ha, by decide, a, e, c + 1, d, n, cap, f, rfl, ha, zup_s, by rw [zup_o (Ne.symm hda)]; exact h2, h3, h3', ?_, zok_put h1 h4, ?_⟩
  · exact zup_ne hE
  · rcases hp with ⟨hlt, hd, hR⟩ | ⟨heq, h0, d', h5, h6, h7, hR⟩
    · refine Or.inl ⟨hlt, hd, ?_⟩
      simp only [i_ic, i_lc, i_nul, i_il, i_ll, i_al, i_is, i_as, i_ls, i_inc, i_iadd, i_isub, i_imul, i_iand, i_ior, i_ixor, i_idiv, i_irem, i_ishl, i_ishr, i_ladd, i_lsub, i_land, i_lor, i_i2l, i_lushr, i_lshl, i_lshr, i_lcmp, i_dup, i_pop, i_dx1, i_dup2, i_ifeq, i_ifne, i_iflt, i_ifge, i_ifgt, i_ifle, i_iceq, i_icne, i_iclt, i_icge, i_icgt, i_icle, i_ifn, i_gf, i_pf, i_ial, i_bal, i_lal, i_aal, i_ias, i_las, i_bas, i_aas, i_alen, i_newa, i_new, i_anew, i_cast, i_oi, i_call, i_callV, i_callV2, i_callI, i_iret, i_zret, i_lret, i_vret, i_aret, i_mmx, i_mmn, i_gsE, i_aceq, i_no, i_acq, i_sw, zsw, zlg, zls, znl, zfg, zcs, zsp, zrc, zisn, zft, zc1, zto, Value.category, List.set_cons_zero, List.set_cons_succ, List.length_cons, List.length_nil, Option.toList, List.append, List.nil_append, List.cons_append, true_and, and_true, Nat.add_zero, Nat.zero_le, Nat.zero_add, Nat.le_refl, Nat.reduceAdd, Nat.reduceLeDiff, co0, z0, zn_0, zn_1, zn_2, zn_3, zn_4, zn_5, zn_8, zn_12, zn_24, zn_121, zn_144, zn_256, zn_300, zn_600, zn_720, zn_1204, zn_1280, zn_2400, zn_4816, zn_14400, zn_90000]
      rw [zup_comm (a := a) (b := d) hda, zup_zup]
      exact ⟨by decide, hR⟩
    · have hda' : a ≠ d' := fun q => by rw [q, h5] at h1; cases h1
      refine Or.inr ⟨heq, h0, d', by rw [zup_o (Ne.symm hda')]; exact h5, h6, fun i hi y hy => zok_put h1 (h7 i hi y hy), ?_⟩
      simp only [i_ic, i_lc, i_nul, i_il, i_ll, i_al, i_is, i_as, i_ls, i_inc, i_iadd, i_isub, i_imul, i_iand, i_ior, i_ixor, i_idiv, i_irem, i_ishl, i_ishr, i_ladd, i_lsub, i_land, i_lor, i_i2l, i_lushr, i_lshl, i_lshr, i_lcmp, i_dup, i_pop, i_dx1, i_dup2, i_ifeq, i_ifne, i_iflt, i_ifge, i_ifgt, i_ifle, i_iceq, i_icne, i_iclt, i_icge, i_icgt, i_icle, i_ifn, i_gf, i_pf, i_ial, i_bal, i_lal, i_aal, i_ias, i_las, i_bas, i_aas, i_alen, i_newa, i_new, i_anew, i_cast, i_oi, i_call, i_callV, i_callV2, i_callI, i_iret, i_zret, i_lret, i_vret, i_aret, i_mmx, i_mmn, i_gsE, i_aceq, i_no, i_acq, i_sw, zsw, zlg, zls, znl, zfg, zcs, zsp, zrc, zisn, zft, zc1, zto, Value.category, List.set_cons_zero, List.set_cons_succ, List.length_cons, List.length_nil, Option.toList, List.append, List.nil_append, List.cons_append, true_and, and_true, Nat.add_zero, Nat.zero_le, Nat.zero_add, Nat.le_refl, Nat.reduceAdd, Nat.reduceLeDiff, co0, z0, zn_0, zn_1, zn_2, zn_3, zn_4, zn_5, zn_8, zn_12, zn_24, zn_121, zn_144, zn_256, zn_300, zn_600, zn_720, zn_1204, zn_1280, zn_2400, zn_4816, zn_14400, zn_90000]
      rw [zup_comm (a := a) (b := d') hda', zup_zup]
      exact ⟨by decide, hR⟩
/-- the last one is taken away -/
def T_AL_fastRemove (As : List zAV) (M : zMp) (Rt : Option zAV → zMp → Prop) : Prop := ∃ a c d n cap f, As = [.inr a, .inr d, .inl (.int (nI n))] ∧ zmo a ∧ zmo d ∧ M a = some (zal c d (n + 1)) ∧ M d = some (zoa cap f) ∧ n < cap ∧ cap ≤ 1000 ∧ Rt none (zup (zup M a (zal (c + 1) d n)) d (zoa cap (va_up f n none)))
abbrev co_AL_fastRemove := co0
theorem dJx4a65c_fastRemove_b59b0_0 : decode cJx4a65c_fastRemove_b59b0 0 = .ok (.aload_n 0, 1) := by decide +kernel
theorem dJx4a65c_fastRemove_b59b0_1 : decode cJx4a65c_fastRemove_b59b0 1 = .ok (.dup, 1) := by decide +kernel
theorem dJx4a65c_fastRemove_b59b0_2 : decode cJx4a65c_fastRemove_b59b0 2 = .ok (.getfield 63, 3) := by decide +kernel
theorem dJx4a65c_fastRemove_b59b0_5 : decode cJx4a65c_fastRemove_b59b0 5 = .ok (.iconst 1, 1) := by decide +kernel
theorem dJx4a65c_fastRemove_b59b0_6 : decode cJx4a65c_fastRemove_b59b0 6 = .ok (.iadd, 1) := by decide +kernel
theorem dJx4a65c_fastRemove_b59b0_7 : decode cJx4a65c_fastRemove_b59b0 7 = .ok (.putfield 63, 3) := by decide +kernel
theorem dJx4a65c_fastRemove_b59b0_10 : decode cJx4a65c_fastRemove_b59b0 10 = .ok (.aload_n 0, 1) := by decide +kernel
theorem dJx4a65c_fastRemove_b59b0_11 : decode cJx4a65c_fastRemove_b59b0 11 = .ok (.getfield 48, 3) := by decide +kernel
theorem dJx4a65c_fastRemove_b59b0_14 : decode cJx4a65c_fastRemove_b59b0 14 = .ok (.iconst 1, 1) := by decide +kernel
theorem dJx4a65c_fastRemove_b59b0_15 : decode cJx4a65c_fastRemove_b59b0 15 = .ok (.isub, 1) := by decide +kernel
theorem dJx4a65c_fastRemove_b59b0_16 : decode cJx4a65c_fastRemove_b59b0 16 = .ok (.dup, 1) := by decide +kernel
theorem dJx4a65c_fastRemove_b59b0_17 : decode cJx4a65c_fastRemove_b59b0 17 = .ok (.istore_n 3, 1) := by decide +kernel
theorem dJx4a65c_fastRemove_b59b0_18 : decode cJx4a65c_fastRemove_b59b0 18 = .ok (.iload_n 2, 1) := by decide +kernel
theorem dJx4a65c_fastRemove_b59b0_19 : decode cJx4a65c_fastRemove_b59b0 19 = .ok (.if_icmp .le 15, 3) := by decide +kernel
theorem dJx4a65c_fastRemove_b59b0_22 : decode cJx4a65c_fastRemove_b59b0 22 = .ok (.aload_n 1, 1) := by decide +kernel
theorem dJx4a65c_fastRemove_b59b0_23 : decode cJx4a65c_fastRemove_b59b0 23 = .ok (.iload_n 2, 1) := by decide +kernel
theorem dJx4a65c_fastRemove_b59b0_24 : decode cJx4a65c_fastRemove_b59b0 24 = .ok (.iconst 1, 1) := by decide +kernel
theorem dJx4a65c_fastRemove_b59b0_25 : decode cJx4a65c_fastRemove_b59b0 25 = .ok (.iadd, 1) := by decide +kernel
theorem dJx4a65c_fastRemove_b59b0_26 : decode cJx4a65c_fastRemove_b59b0 26 = .ok (.aload_n 1, 1) := by decide +kernel
theorem dJx4a65c_fastRemove_b59b0_27 : decode cJx4a65c_fastRemove_b59b0 27 = .ok (.iload_n 2, 1) := by decide +kernel
theorem dJx4a65c_fastRemove_b59b0_28 : decode cJx4a65c_fastRemove_b59b0 28 = .ok (.iload_n 3, 1) := by decide +kernel
theorem dJx4a65c_fastRemove_b59b0_29 : decode cJx4a65c_fastRemove_b59b0 29 = .ok (.iload_n 2, 1) := by decide +kernel
theorem dJx4a65c_fastRemove_b59b0_30 : decode cJx4a65c_fastRemove_b59b0 30 = .ok (.isub, 1) := by decide +kernel
theorem dJx4a65c_fastRemove_b59b0_31 : decode cJx4a65c_fastRemove_b59b0 31 = .ok (.invokestatic 112, 3) := by decide +kernel
theorem dJx4a65c_fastRemove_b59b0_34 : decode cJx4a65c_fastRemove_b59b0 34 = .ok (.aload_n 1, 1) := by decide +kernel
theorem dJx4a65c_fastRemove_b59b0_35 : decode cJx4a65c_fastRemove_b59b0 35 = .ok (.aload_n 0, 1) := by decide +kernel
theorem dJx4a65c_fastRemove_b59b0_36 : decode cJx4a65c_fastRemove_b59b0 36 = .ok (.iload_n 3, 1) := by decide +kernel
theorem dJx4a65c_fastRemove_b59b0_37 : decode cJx4a65c_fastRemove_b59b0 37 = .ok (.dup_x1, 1) := by decide +kernel
theorem dJx4a65c_fastRemove_b59b0_38 : decode cJx4a65c_fastRemove_b59b0 38 = .ok (.putfield 48, 3) := by decide +kernel
theorem dJx4a65c_fastRemove_b59b0_41 : decode cJx4a65c_fastRemove_b59b0 41 = .ok (.aconst_null, 1) := by decide +kernel
theorem dJx4a65c_fastRemove_b59b0_42 : decode cJx4a65c_fastRemove_b59b0 42 = .ok (.aastore, 1) := by decide +kernel
theorem dJx4a65c_fastRemove_b59b0_43 : decode cJx4a65c_fastRemove_b59b0 43 = .ok (.return_, 1) := by decide +kernel
def B_AL_fastRemove_34 (mc ms : Nat) (Rt : Option zAV → zMp → Prop) (g : Nat → zKT) : zKT :=
  (i_al 1 (i_al 0 (i_il 3 (i_dx1 (i_pf 0 2 .int (i_nul (i_aas "java/lang/Object" (i_vret mc ms Rt))))))))
set_option maxRecDepth 20000 in
theorem s_AL_fastRemove_34 {X : zMa} {mc ms : Nat} {Rt : Option zAV → zMp → Prop} (hC : zCx X RJx4a65c cJx4a65c_fastRemove_b59b0 1 40 mc ms (none) false Rt) (hN : zNL X = 4) : zLe (B_AL_fastRemove_34 mc ms Rt (zG X)) (zG X 34) :=
  (sd_al_n hC rfl dJx4a65c_fastRemove_b59b0_34 ((sd_al_n hC rfl dJx4a65c_fastRemove_b59b0_35 ((sd_il_n hC rfl dJx4a65c_fastRemove_b59b0_36 ((sd_dx1 hC dJx4a65c_fastRemove_b59b0_37 ((sd_pf hC (ci := 0) (fk := 2) rfl wi_AL tyJx4a65c tyJx4a65c_ok nmJx4a65c (by decide) fl_AL_48 (Or.inl rfl) (Or.inl rfl) dJx4a65c_fastRemove_b59b0_38 ((sd_nul hC dJx4a65c_fastRemove_b59b0_41 ((sd_aas hC dJx4a65c_fastRemove_b59b0_42 ((sd_vret hC dJx4a65c_fastRemove_b59b0_43)))))))))))))))
def B_AL_fastRemove_0 (mc ms : Nat) (Rt : Option zAV → zMp → Prop) (g : Nat → zKT) : zKT :=
  (i_al 0 (i_dup (i_gf 0 0 (i_ic 1 (i_iadd (i_pf 0 0 .int (i_al 0 (i_gf 0 2 (i_ic 1 (i_isub (i_dup (i_is 3 (i_il 2 (i_icle (B_AL_fastRemove_34 mc ms Rt g) (i_al 1 (i_il 2 (i_ic 1 (i_iadd (i_al 1 (i_il 2 (i_il 3 (i_il 2 (i_isub (i_acq (B_AL_fastRemove_34 mc ms Rt g)))))))))))))))))))))))))
set_option maxRecDepth 20000 in
theorem s_AL_fastRemove_0 {X : zMa} {mc ms : Nat} {Rt : Option zAV → zMp → Prop} (hC : zCx X RJx4a65c cJx4a65c_fastRemove_b59b0 1 40 mc ms (none) false Rt) (hN : zNL X = 4) : zLe (B_AL_fastRemove_0 mc ms Rt (zG X)) (zG X 0) :=
  (sd_al_n hC rfl dJx4a65c_fastRemove_b59b0_0 ((sd_dup hC dJx4a65c_fastRemove_b59b0_1 ((sd_gf hC (ci := 0) (fk := 0) rfl wi_AL (by decide) fl_AL_63 (Or.inr sf_AL_0) dJx4a65c_fastRemove_b59b0_2 ((sd_iconst hC (by decide) dJx4a65c_fastRemove_b59b0_5 ((sd_iadd hC dJx4a65c_fastRemove_b59b0_6 ((sd_pf hC (ci := 0) (fk := 0) rfl wi_AL tyJx4a65c tyJx4a65c_ok nmJx4a65c (by decide) fl_AL_63 (Or.inr sf_AL_0) (Or.inl rfl) dJx4a65c_fastRemove_b59b0_7 ((sd_al_n hC rfl dJx4a65c_fastRemove_b59b0_10 ((sd_gf hC (ci := 0) (fk := 2) rfl wi_AL (by decide) fl_AL_48 (Or.inl rfl) dJx4a65c_fastRemove_b59b0_11 ((sd_iconst hC (by decide) dJx4a65c_fastRemove_b59b0_14 ((sd_isub hC dJx4a65c_fastRemove_b59b0_15 ((sd_dup hC dJx4a65c_fastRemove_b59b0_16 ((sd_is_n hC rfl (by rw [hN]; decide) dJx4a65c_fastRemove_b59b0_17 ((sd_il_n hC rfl dJx4a65c_fastRemove_b59b0_18 ((sd_icle hC (tgt := 34) (by decide) dJx4a65c_fastRemove_b59b0_19 (s_AL_fastRemove_34 hC hN) ((sd_al_n hC rfl dJx4a65c_fastRemove_b59b0_22 ((sd_il_n hC rfl dJx4a65c_fastRemove_b59b0_23 ((sd_iconst hC (by decide) dJx4a65c_fastRemove_b59b0_24 ((sd_iadd hC dJx4a65c_fastRemove_b59b0_25 ((sd_al_n hC rfl dJx4a65c_fastRemove_b59b0_26 ((sd_il_n hC rfl dJx4a65c_fastRemove_b59b0_27 ((sd_il_n hC rfl dJx4a65c_fastRemove_b59b0_28 ((sd_il_n hC rfl dJx4a65c_fastRemove_b59b0_29 ((sd_isub hC dJx4a65c_fastRemove_b59b0_30 ((sd_acq hC ml_AL_112 (by decide) (by decide) dJx4a65c_fastRemove_b59b0_31 (s_AL_fastRemove_34 hC hN))))))))))))))))))))))))))))))))))))))))))))))))
theorem c_AL_fastRemove (l : Launch) : zCT l yJx4a65c_fastRemove_b59b0 cJx4a65c_fastRemove_b59b0 4 (none) 1 40 T_AL_fastRemove co_AL_fastRemove := by
  intro As M Rt hT
  obtain ⟨a, c, d, n, cap, f, rfl, ha, hd, h1, h2, h3, h4, hR⟩ := hT
  have hda : a ≠ d := zdf h1 h2 (by simp)
  refine zMet_of false (by decide +kernel) (fun h => by first | rfl | cases h) (Nat.le_of_ble_eq_true rfl) (fun X hN hC => ?_)
  show zG X 0 [some (.inr a), some (.inr d), some (.inl (.int (nI n))), none] [] M 0 0
  refine s_AL_fastRemove_0 hC hN _ _ _ _ _ ?_
  simp only [B_AL_fastRemove_0, B_AL_fastRemove_34, co_AL_fastRemove, i_ic, i_lc, i_nul, i_il, i_ll, i_al, i_is, i_as, i_ls, i_inc, i_iadd, i_isub, i_imul, i_iand, i_ior, i_ixor, i_idiv, i_irem, i_ishl, i_ishr, i_ladd, i_lsub, i_land, i_lor, i_i2l, i_lushr, i_lshl, i_lshr, i_lcmp, i_dup, i_pop, i_dx1, i_dup2, i_ifeq, i_ifne, i_iflt, i_ifge, i_ifgt, i_ifle, i_iceq, i_icne, i_iclt, i_icge, i_icgt, i_icle, i_ifn, i_gf, i_pf, i_ial, i_bal, i_lal, i_aal, i_ias, i_las, i_bas, i_aas, i_alen, i_newa, i_new, i_anew, i_cast, i_oi, i_call, i_callV, i_callV2, i_callI, i_iret, i_zret, i_lret, i_vret, i_aret, i_mmx, i_mmn, i_gsE, i_aceq, i_no, i_acq, i_sw, zsw, zlg, zls, znl, zfg, zcs, zsp, zrc, zisn, zft, zc1, zto, Value.category, List.set_cons_zero, List.set_cons_succ, List.length_cons, List.length_nil, Option.toList, List.append, List.nil_append, List.cons_append, true_and, and_true, Nat.add_zero, Nat.zero_le, Nat.zero_add, Nat.le_refl, Nat.reduceAdd, Nat.reduceLeDiff, co0, z0, zn_0, zn_1, zn_2, zn_3, zn_4, zn_5, zn_8, zn_12, zn_24, zn_121, zn_144, zn_256, zn_300, zn_600, zn_720, zn_1204, zn_1280, zn_2400, zn_4816, zn_14400, zn_90000, h1, h2, zup_s, zup_zup, zup_o (Ne.symm hda), zok]
  rw [nI_pred]
  refine ⟨ha, by decide, fun _ => ⟨ha, by decide, hd, vp_in_nI h3 (by omega), ?_⟩, fun h => absurd (nI_le (Nat.le_refl n) (by omega)) h⟩
  rw [nI_clamp (by omega)]
  exact hR
def T_AL_remove (As : List zAV) (M : zMp) (Rt : Option zAV → zMp → Prop) : Prop := ∃ a c d n cap f y, As = [.inr a, .inl (.int (nI n))] ∧ zmo a ∧ zmo d ∧ M a = some (zal c d (n + 1)) ∧ M d = some (zoa cap f) ∧ n < cap ∧ cap ≤ 1000 ∧ f n = some y ∧ Rt (some (.inr y)) (zup (zup M a (zal (c + 1) d n)) d (zoa cap (va_up f n none)))
abbrev co_AL_remove := co0
theorem dJx4a65c_remove_915e3_0 : decode cJx4a65c_remove_915e3 0 = .ok (.iload_n 1, 1) := by decide +kernel
theorem dJx4a65c_remove_915e3_1 : decode cJx4a65c_remove_915e3 1 = .ok (.aload_n 0, 1) := by decide +kernel
theorem dJx4a65c_remove_915e3_2 : decode cJx4a65c_remove_915e3 2 = .ok (.getfield 48, 3) := by decide +kernel
theorem dJx4a65c_remove_915e3_5 : decode cJx4a65c_remove_915e3 5 = .ok (.invokestatic 118, 3) := by decide +kernel
theorem dJx4a65c_remove_915e3_8 : decode cJx4a65c_remove_915e3 8 = .ok (.pop, 1) := by decide +kernel
theorem dJx4a65c_remove_915e3_9 : decode cJx4a65c_remove_915e3 9 = .ok (.aload_n 0, 1) := by decide +kernel
theorem dJx4a65c_remove_915e3_10 : decode cJx4a65c_remove_915e3 10 = .ok (.getfield 9, 3) := by decide +kernel
theorem dJx4a65c_remove_915e3_13 : decode cJx4a65c_remove_915e3 13 = .ok (.astore_n 2, 1) := by decide +kernel
theorem dJx4a65c_remove_915e3_14 : decode cJx4a65c_remove_915e3 14 = .ok (.aload_n 2, 1) := by decide +kernel
theorem dJx4a65c_remove_915e3_15 : decode cJx4a65c_remove_915e3 15 = .ok (.iload_n 1, 1) := by decide +kernel
theorem dJx4a65c_remove_915e3_16 : decode cJx4a65c_remove_915e3 16 = .ok (.aaload, 1) := by decide +kernel
theorem dJx4a65c_remove_915e3_17 : decode cJx4a65c_remove_915e3 17 = .ok (.astore_n 3, 1) := by decide +kernel
theorem dJx4a65c_remove_915e3_18 : decode cJx4a65c_remove_915e3 18 = .ok (.aload_n 0, 1) := by decide +kernel
theorem dJx4a65c_remove_915e3_19 : decode cJx4a65c_remove_915e3 19 = .ok (.aload_n 2, 1) := by decide +kernel
theorem dJx4a65c_remove_915e3_20 : decode cJx4a65c_remove_915e3 20 = .ok (.iload_n 1, 1) := by decide +kernel
theorem dJx4a65c_remove_915e3_21 : decode cJx4a65c_remove_915e3 21 = .ok (.invokevirtual 144, 3) := by decide +kernel
theorem dJx4a65c_remove_915e3_24 : decode cJx4a65c_remove_915e3 24 = .ok (.aload_n 3, 1) := by decide +kernel
theorem dJx4a65c_remove_915e3_25 : decode cJx4a65c_remove_915e3 25 = .ok (.areturn, 1) := by decide +kernel
def B_AL_remove_0 (mc ms : Nat) (Rt : Option zAV → zMp → Prop) (g : Nat → zKT) : zKT :=
  (i_il 1 (i_al 0 (i_gf 0 2 (i_call mc ms 2 T_Objs_checkIndex co_Objs_checkIndex (i_pop (i_al 0 (i_gf 0 1 (i_as 2 (i_al 2 (i_il 1 (i_aal "java/lang/Object" (i_as 3 (i_al 0 (i_al 2 (i_il 1 (i_callV mc ms 0 3 T_AL_fastRemove co_AL_fastRemove (i_al 3 (i_aret mc ms Rt))))))))))))))))))
set_option maxRecDepth 20000 in
theorem s_AL_remove_0 {X : zMa} {mc ms : Nat} {Rt : Option zAV → zMp → Prop} (hC : zCx X RJx4a65c cJx4a65c_remove_915e3 2 63 mc ms (some (.object "java/lang/Object")) false Rt) (hN : zNL X = 4) : zLe (B_AL_remove_0 mc ms Rt (zG X)) (zG X 0) :=
  (sd_il_n hC rfl dJx4a65c_remove_915e3_0 ((sd_al_n hC rfl dJx4a65c_remove_915e3_1 ((sd_gf hC (ci := 0) (fk := 2) rfl wi_AL (by decide) fl_AL_48 (Or.inl rfl) dJx4a65c_remove_915e3_2 ((sd_cS hC c_Objs_checkIndex ys_Objs_checkIndex ml_AL_118 (by decide) (by decide) dJx4a65c_remove_915e3_5 ((sd_pop hC dJx4a65c_remove_915e3_8 ((sd_al_n hC rfl dJx4a65c_remove_915e3_9 ((sd_gf hC (ci := 0) (fk := 1) rfl wi_AL (by decide) fl_AL_9 (Or.inl rfl) dJx4a65c_remove_915e3_10 ((sd_as_n hC rfl (by rw [hN]; decide) dJx4a65c_remove_915e3_13 ((sd_al_n hC rfl dJx4a65c_remove_915e3_14 ((sd_il_n hC rfl dJx4a65c_remove_915e3_15 ((sd_aal hC dJx4a65c_remove_915e3_16 ((sd_as_n hC rfl (by rw [hN]; decide) dJx4a65c_remove_915e3_17 ((sd_al_n hC rfl dJx4a65c_remove_915e3_18 ((sd_al_n hC rfl dJx4a65c_remove_915e3_19 ((sd_il_n hC rfl dJx4a65c_remove_915e3_20 ((sd_cV hC c_AL_fastRemove yv_AL_fastRemove (ci := 0) rfl rfl ml_AL_144 (by decide) (by decide) dJx4a65c_remove_915e3_21 ((sd_al_n hC rfl dJx4a65c_remove_915e3_24 ((sd_aret hC (Or.inl ⟨_, rfl⟩) dJx4a65c_remove_915e3_25)))))))))))))))))))))))))))))))))))
theorem c_AL_remove (l : Launch) : zCT l yJx4a65c_remove_915e3 cJx4a65c_remove_915e3 4 (some (.object "java/lang/Object")) 2 63 T_AL_remove co_AL_remove := by
  intro As M Rt hT
  obtain ⟨a, c, d, n, cap, f, y, rfl, ha, hd, h1, h2, h3, h4, hy, hR⟩ := hT
  refine zMet_of false (by decide +kernel) (fun h => by first | rfl | cases h) (Nat.le_of_ble_eq_true rfl) (fun X hN hC => ?_)
  show zG X 0 [some (.inr a), some (.inl (.int (nI n))), none, none] [] M 0 0
  refine s_AL_remove_0 hC hN _ _ _ _ _ ?_
  simp only [B_AL_remove_0, co_AL_fastRemove, co_AL_remove, co_Objs_checkIndex, i_ic, i_lc, i_nul, i_il, i_ll, i_al, i_is, i_as, i_ls, i_inc, i_iadd, i_isub, i_imul, i_iand, i_ior, i_ixor, i_idiv, i_irem, i_ishl, i_ishr, i_ladd, i_lsub, i_land, i_lor, i_i2l, i_lushr, i_lshl, i_lshr, i_lcmp, i_dup, i_pop, i_dx1, i_dup2, i_ifeq, i_ifne, i_iflt, i_ifge, i_ifgt, i_ifle, i_iceq, i_icne, i_iclt, i_icge, i_icgt, i_icle, i_ifn, i_gf, i_pf, i_ial, i_bal, i_lal, i_aal, i_ias, i_las, i_bas, i_aas, i_alen, i_newa, i_new, i_anew, i_cast, i_oi, i_call, i_callV, i_callV2, i_callI, i_iret, i_zret, i_lret, i_vret, i_aret, i_mmx, i_mmn, i_gsE, i_aceq, i_no, i_acq, i_sw, zsw, zlg, zls, znl, zfg, zcs, zsp, zrc, zisn, zft, zc1, zto, Value.category, List.set_cons_zero, List.set_cons_succ, List.length_cons, List.length_nil, Option.toList, List.append, List.nil_append, List.cons_append, true_and, and_true, Nat.add_zero, Nat.zero_le, Nat.zero_add, Nat.le_refl, Nat.reduceAdd, Nat.reduceLeDiff, co0, z0, zn_0, zn_1, zn_2, zn_3, zn_4, zn_5, zn_8, zn_12, zn_24, zn_121, zn_144, zn_256, zn_300, zn_600, zn_720, zn_1204, zn_1280, zn_2400, zn_4816, zn_14400, zn_90000, h1]
  refine ⟨n, n + 1, rfl, by omega, by omega, ?_⟩
  simp only [h1, h2, i_ic, i_lc, i_nul, i_il, i_ll, i_al, i_is, i_as, i_ls, i_inc, i_iadd, i_isub, i_imul, i_iand, i_ior, i_ixor, i_idiv, i_irem, i_ishl, i_ishr, i_ladd, i_lsub, i_land, i_lor, i_i2l, i_lushr, i_lshl, i_lshr, i_lcmp, i_dup, i_pop, i_dx1, i_dup2, i_ifeq, i_ifne, i_iflt, i_ifge, i_ifgt, i_ifle, i_iceq, i_icne, i_iclt, i_icge, i_icgt, i_icle, i_ifn, i_gf, i_pf, i_ial, i_bal, i_lal, i_aal, i_ias, i_las, i_bas, i_aas, i_alen, i_newa, i_new, i_anew, i_cast, i_oi, i_call, i_callV, i_callV2, i_callI, i_iret, i_zret, i_lret, i_vret, i_aret, i_mmx, i_mmn, i_gsE, i_aceq, i_no, i_acq, i_sw, zsw, zlg, zls, znl, zfg, zcs, zsp, zrc, zisn, zft, zc1, zto, Value.category, List.set_cons_zero, List.set_cons_succ, List.length_cons, List.length_nil, Option.toList, List.append, List.nil_append, List.cons_append, true_and, and_true, Nat.add_zero, Nat.zero_le, Nat.zero_add, Nat.le_refl, Nat.reduceAdd, Nat.reduceLeDiff, co0, z0, zn_0, zn_1, zn_2, zn_3, zn_4, zn_5, zn_8, zn_12, zn_24, zn_121, zn_144, zn_256, zn_300, zn_600, zn_720, zn_1204, zn_1280, zn_2400, zn_4816, zn_14400, zn_90000]
  refine ⟨vp_in_nI h3 (by omega), ?_⟩
  rw [nI_clamp (by omega), hy]
  simp only [zov, h1, i_ic, i_lc, i_nul, i_il, i_ll, i_al, i_is, i_as, i_ls, i_inc, i_iadd, i_isub, i_imul, i_iand, i_ior, i_ixor, i_idiv, i_irem, i_ishl, i_ishr, i_ladd, i_lsub, i_land, i_lor, i_i2l, i_lushr, i_lshl, i_lshr, i_lcmp, i_dup, i_pop, i_dx1, i_dup2, i_ifeq, i_ifne, i_iflt, i_ifge, i_ifgt, i_ifle, i_iceq, i_icne, i_iclt, i_icge, i_icgt, i_icle, i_ifn, i_gf, i_pf, i_ial, i_bal, i_lal, i_aal, i_ias, i_las, i_bas, i_aas, i_alen, i_newa, i_new, i_anew, i_cast, i_oi, i_call, i_callV, i_callV2, i_callI, i_iret, i_zret, i_lret, i_vret, i_aret, i_mmx, i_mmn, i_gsE, i_aceq, i_no, i_acq, i_sw, zsw, zlg, zls, znl, zfg, zcs, zsp, zrc, zisn, zft, zc1, zto, Value.category, List.set_cons_zero, List.set_cons_succ, List.length_cons, List.length_nil, Option.toList, List.append, List.nil_append, List.cons_append, true_and, and_true, Nat.add_zero, Nat.zero_le, Nat.zero_add, Nat.le_refl, Nat.reduceAdd, Nat.reduceLeDiff, co0, z0, zn_0, zn_1, zn_2, zn_3, zn_4, zn_5, zn_8, zn_12, zn_24, zn_121, zn_144, zn_256, zn_300, zn_600, zn_720, zn_1204, zn_1280, zn_2400, zn_4816, zn_14400, zn_90000]
  refine ⟨a, c, d, n, cap, f, rfl, ha, hd, h1, h2, h3, h4, ?_⟩
  simp only [i_ic, i_lc, i_nul, i_il, i_ll, i_al, i_is, i_as, i_ls, i_inc, i_iadd, i_isub, i_imul, i_iand, i_ior, i_ixor, i_idiv, i_irem, i_ishl, i_ishr, i_ladd, i_lsub, i_land, i_lor, i_i2l, i_lushr, i_lshl, i_lshr, i_lcmp, i_dup, i_pop, i_dx1, i_dup2, i_ifeq, i_ifne, i_iflt, i_ifge, i_ifgt, i_ifle, i_iceq, i_icne, i_iclt, i_icge, i_icgt, i_icle, i_ifn, i_gf, i_pf, i_ial, i_bal, i_lal, i_aal, i_ias, i_las, i_bas, i_aas, i_alen, i_newa, i_new, i_anew, i_cast, i_oi, i_call, i_callV, i_callV2, i_callI, i_iret, i_zret, i_lret, i_vret, i_aret, i_mmx, i_mmn, i_gsE, i_aceq, i_no, i_acq, i_sw, zsw, zlg, zls, znl, zfg, zcs, zsp, zrc, zisn, zft, zc1, zto, Value.category, List.set_cons_zero, List.set_cons_succ, List.length_cons, List.length_nil, Option.toList, List.append, List.nil_append, List.cons_append, true_and, and_true, Nat.add_zero, Nat.zero_le, Nat.zero_add, Nat.le_refl, Nat.reduceAdd, Nat.reduceLeDiff, co0, z0, zn_0, zn_1, zn_2, zn_3, zn_4, zn_5, zn_8, zn_12, zn_24, zn_121, zn_144, zn_256, zn_300, zn_600, zn_720, zn_1204, zn_1280, zn_2400, zn_4816, zn_14400, zn_90000]
  exact hR
/-! constructors -/
def T_AC_init (As : List zAV) (M : zMp) (Rt : Option zAV → zMp → Prop) : Prop := ∃ a, As = [.inr a] ∧ Rt none M
abbrev co_AC_init := co0
theorem dJxa1e45_init_da8c8_0 : decode cJxa1e45_init_da8c8 0 = .ok (.aload_n 0, 1) := by decide +kernel
theorem dJxa1e45_init_da8c8_1 : decode cJxa1e45_init_da8c8 1 = .ok (.invokespecial 1, 3) := by decide +kernel
theorem dJxa1e45_init_da8c8_4 : decode cJxa1e45_init_da8c8 4 = .ok (.return_, 1) := by decide +kernel
def B_AC_init_0 (mc ms : Nat) (Rt : Option zAV → zMp → Prop) (g : Nat → zKT) : zKT :=
  (i_al 0 (i_oi (i_vret mc ms Rt)))
set_option maxRecDepth 20000 in
theorem s_AC_init_0 {X : zMa} {mc ms : Nat} {Rt : Option zAV → zMp → Prop} (hC : zCx X RJxa1e45 cJxa1e45_init_da8c8 1 20 mc ms (none) true Rt) : zLe (B_AC_init_0 mc ms Rt (zG X)) (zG X 0) :=
  (sd_al_n hC rfl dJxa1e45_init_da8c8_0 ((sd_oi hC ml_AC_1 oi_2 oi_3 (by decide) (by decide) dJxa1e45_init_da8c8_1 ((sd_vret hC dJxa1e45_init_da8c8_4)))))
theorem c_AC_init (l : Launch) : zCT l yJxa1e45_init_da8c8 cJxa1e45_init_da8c8 1 (none) 1 20 T_AC_init co_AC_init := by
  intro As M Rt hT
  obtain ⟨a, rfl, hR⟩ := hT
  refine zMet_of true (by decide +kernel) (fun h => by first | rfl | cases h) (Nat.le_of_ble_eq_true rfl) (fun X hN hC => ?_)
  show zG X 0 [some (.inr a)] [] M 0 0
  refine s_AC_init_0 hC _ _ _ _ _ ?_
  simp only [B_AC_init_0, co_AC_init, i_ic, i_lc, i_nul, i_il, i_ll, i_al, i_is, i_as, i_ls, i_inc, i_iadd, i_isub, i_imul, i_iand, i_ior, i_ixor, i_idiv, i_irem, i_ishl, i_ishr, i_ladd, i_lsub, i_land, i_lor, i_i2l, i_lushr, i_lshl, i_lshr, i_lcmp, i_dup, i_pop, i_dx1, i_dup2, i_ifeq, i_ifne, i_iflt, i_ifge, i_ifgt, i_ifle, i_iceq, i_icne, i_iclt, i_icge, i_icgt, i_icle, i_ifn, i_gf, i_pf, i_ial, i_bal, i_lal, i_aal, i_ias, i_las, i_bas, i_aas, i_alen, i_newa, i_new, i_anew, i_cast, i_oi, i_call, i_callV, i_callV2, i_callI, i_iret, i_zret, i_lret, i_vret, i_aret, i_mmx, i_mmn, i_gsE, i_aceq, i_no, i_acq, i_sw, zsw, zlg, zls, znl, zfg, zcs, zsp, zrc, zisn, zft, zc1, zto, Value.category, List.set_cons_zero, List.set_cons_succ, List.length_cons, List.length_nil, Option.toList, List.append, List.nil_append, List.cons_append, true_and, and_true, Nat.add_zero, Nat.zero_le, Nat.zero_add, Nat.le_refl, Nat.reduceAdd, Nat.reduceLeDiff, co0, z0, zn_0, zn_1, zn_2, zn_3, zn_4, zn_5, zn_8, zn_12, zn_24, zn_121, zn_144, zn_256, zn_300, zn_600, zn_720, zn_1204, zn_1280, zn_2400, zn_4816, zn_14400, zn_90000]
  exact hR
def T_ALi_init (As : List zAV) (M : zMp) (Rt : Option zAV → zMp → Prop) : Prop := ∃ a x y z, As = [.inr a] ∧ zmo a ∧ M a = some (.inr (0, [x, y, z])) ∧ Rt none (zup M a (.inr (0, [.inl (.int 0), y, z])))
abbrev co_ALi_init := co0
theorem dJxc12de_init_da8c8_0 : decode cJxc12de_init_da8c8 0 = .ok (.aload_n 0, 1) := by decide +kernel
theorem dJxc12de_init_da8c8_1 : decode cJxc12de_init_da8c8 1 = .ok (.invokespecial 1, 3) := by decide +kernel
theorem dJxc12de_init_da8c8_4 : decode cJxc12de_init_da8c8 4 = .ok (.aload_n 0, 1) := by decide +kernel
theorem dJxc12de_init_da8c8_5 : decode cJxc12de_init_da8c8 5 = .ok (.iconst 0, 1) := by decide +kernel
theorem dJxc12de_init_da8c8_6 : decode cJxc12de_init_da8c8 6 = .ok (.putfield 7, 3) := by decide +kernel
theorem dJxc12de_init_da8c8_9 : decode cJxc12de_init_da8c8 9 = .ok (.return_, 1) := by decide +kernel
def B_ALi_init_0 (mc ms : Nat) (Rt : Option zAV → zMp → Prop) (g : Nat → zKT) : zKT :=
  (i_al 0 (i_callI mc ms 1 T_AC_init co_AC_init (i_al 0 (i_ic 0 (i_pf 0 0 .int (i_vret mc ms Rt))))))
set_option maxRecDepth 20000 in
theorem s_ALi_init_0 {X : zMa} {mc ms : Nat} {Rt : Option zAV → zMp → Prop} (hC : zCx X RJxc12de cJxc12de_init_da8c8 2 40 mc ms (none) true Rt) : zLe (B_ALi_init_0 mc ms Rt (zG X)) (zG X 0) :=
  (sd_al_n hC rfl dJxc12de_init_da8c8_0 ((sd_cI hC c_AC_init yi_AC_init ml_ALi_1 (by decide) (by decide) dJxc12de_init_da8c8_1 ((sd_al_n hC rfl dJxc12de_init_da8c8_4 ((sd_iconst hC (by decide) dJxc12de_init_da8c8_5 ((sd_pf hC (ci := 0) (fk := 0) rfl wi_AL tyJx4a65c tyJx4a65c_ok nmJx4a65c (by decide) fl_ALi_7 (Or.inl rfl) (Or.inl rfl) dJxc12de_init_da8c8_6 ((sd_vret hC dJxc12de_init_da8c8_9)))))))))))
theorem c_ALi_init (l : Launch) : zCT l yJxc12de_init_da8c8 cJxc12de_init_da8c8 1 (none) 2 40 T_ALi_init co_ALi_init := by
  intro As M Rt hT
  obtain ⟨a, x, y, z, rfl, ha, h1, hR⟩ := hT
  refine zMet_of true (by decide +kernel) (fun h => by first | rfl | cases h) (Nat.le_of_ble_eq_true rfl) (fun X hN hC => ?_)
  show zG X 0 [some (.inr a)] [] M 0 0
  refine s_ALi_init_0 hC _ _ _ _ _ ?_
  simp only [B_ALi_init_0, co_AC_init, co_ALi_init, i_ic, i_lc, i_nul, i_il, i_ll, i_al, i_is, i_as, i_ls, i_inc, i_iadd, i_isub, i_imul, i_iand, i_ior, i_ixor, i_idiv, i_irem, i_ishl, i_ishr, i_ladd, i_lsub, i_land, i_lor, i_i2l, i_lushr, i_lshl, i_lshr, i_lcmp, i_dup, i_pop, i_dx1, i_dup2, i_ifeq, i_ifne, i_iflt, i_ifge, i_ifgt, i_ifle, i_iceq, i_icne, i_iclt, i_icge, i_icgt, i_icle, i_ifn, i_gf, i_pf, i_ial, i_bal, i_lal, i_aal, i_ias, i_las, i_bas, i_aas, i_alen, i_newa, i_new, i_anew, i_cast, i_oi, i_call, i_callV, i_callV2, i_callI, i_iret, i_zret, i_lret, i_vret, i_aret, i_mmx, i_mmn, i_gsE, i_aceq, i_no, i_acq, i_sw, zsw, zlg, zls, znl, zfg, zcs, zsp, zrc, zisn, zft, zc1, zto, Value.category, List.set_cons_zero, List.set_cons_succ, List.length_cons, List.length_nil, Option.toList, List.append, List.nil_append, List.cons_append, true_and, and_true, Nat.add_zero, Nat.zero_le, Nat.zero_add, Nat.le_refl, Nat.reduceAdd, Nat.reduceLeDiff, co0, z0, zn_0, zn_1, zn_2, zn_3, zn_4, zn_5, zn_8, zn_12, zn_24, zn_121, zn_144, zn_256, zn_300, zn_600, zn_720, zn_1204, zn_1280, zn_2400, zn_4816, zn_14400, zn_90000]
  refine ⟨a, rfl, ?_⟩
  simp only [h1, i_ic, i_lc, i_nul, i_il, i_ll, i_al, i_is, i_as, i_ls, i_inc, i_iadd, i_isub, i_imul, i_iand, i_ior, i_ixor, i_idiv, i_irem, i_ishl, i_ishr, i_ladd, i_lsub, i_land, i_lor, i_i2l, i_lushr, i_lshl, i_lshr, i_lcmp, i_dup, i_pop, i_dx1, i_dup2, i_ifeq, i_ifne, i_iflt, i_ifge, i_ifgt, i_ifle, i_iceq, i_icne, i_iclt, i_icge, i_icgt, i_icle, i_ifn, i_gf, i_pf, i_ial, i_bal, i_lal, i_aal, i_ias, i_las, i_bas, i_aas, i_alen, i_newa, i_new, i_anew, i_cast, i_oi, i_call, i_callV, i_callV2, i_callI, i_iret, i_zret, i_lret, i_vret, i_aret, i_mmx, i_mmn, i_gsE, i_aceq, i_no, i_acq, i_sw, zsw, zlg, zls, znl, zfg, zcs, zsp, zrc, zisn, zft, zc1, zto, Value.category, List.set_cons_zero, List.set_cons_succ, List.length_cons, List.length_nil, Option.toList, List.append, List.nil_append, List.cons_append, true_and, and_true, Nat.add_zero, Nat.zero_le, Nat.zero_add, Nat.le_refl, Nat.reduceAdd, Nat.reduceLeDiff, co0, z0, zn_0, zn_1, zn_2, zn_3, zn_4, zn_5, zn_8, zn_12, zn_24, zn_121, zn_144, zn_256, zn_300, zn_600, zn_720, zn_1204, zn_1280, zn_2400, zn_4816, zn_14400, zn_90000]
  exact ⟨ha, by decide, hR⟩
def T_AL_init (As : List zAV) (M : zMp) (Rt : Option zAV → zMp → Prop) : Prop := ∃ a, As = [.inr a] ∧ zmo a ∧ M a = some (.inr (0, [.inl (.int 0), .inl .null, .inl (.int 0)])) ∧ M znE ≠ none ∧ Rt none (zup M a (zal 0 znE 0))
abbrev co_AL_init := co0
theorem dJx4a65c_init_da8c8_0 : decode cJx4a65c_init_da8c8 0 = .ok (.aload_n 0, 1) := by decide +kernel
theorem dJx4a65c_init_da8c8_1 : decode cJx4a65c_init_da8c8 1 = .ok (.invokespecial 1, 3) := by decide +kernel
theorem dJx4a65c_init_da8c8_4 : decode cJx4a65c_init_da8c8 4 = .ok (.aload_n 0, 1) := by decide +kernel
theorem dJx4a65c_init_da8c8_5 : decode cJx4a65c_init_da8c8 5 = .ok (.getstatic 39, 3) := by decide +kernel
theorem dJx4a65c_init_da8c8_8 : decode cJx4a65c_init_da8c8 8 = .ok (.putfield 9, 3) := by decide +kernel
theorem dJx4a65c_init_da8c8_11 : decode cJx4a65c_init_da8c8 11 = .ok (.return_, 1) := by decide +kernel
def B_AL_init_0 (mc ms : Nat) (Rt : Option zAV → zMp → Prop) (g : Nat → zKT) : zKT :=
  (i_al 0 (i_callI mc ms 1 T_ALi_init co_ALi_init (i_al 0 (i_gsE (i_pf 0 1 (.array (.object "java/lang/Object")) (i_vret mc ms Rt))))))
set_option maxRecDepth 20000 in
theorem s_AL_init_0 {X : zMa} {mc ms : Nat} {Rt : Option zAV → zMp → Prop} (hC : zCx X RJx4a65c cJx4a65c_init_da8c8 3 60 mc ms (none) true Rt) : zLe (B_AL_init_0 mc ms Rt (zG X)) (zG X 0) :=
  (sd_al_n hC rfl dJx4a65c_init_da8c8_0 ((sd_cI hC c_ALi_init yi_ALi_init ml_AL_1 (by decide) (by decide) dJx4a65c_init_da8c8_1 ((sd_al_n hC rfl dJx4a65c_init_da8c8_4 ((sd_gsE hC rfl fl_AL_39 dJx4a65c_init_da8c8_5 ((sd_pf hC (ci := 0) (fk := 1) rfl wi_AL tyJx4a65c tyJx4a65c_ok nmJx4a65c (by decide) fl_AL_9 (Or.inl rfl) (Or.inl rfl) dJx4a65c_init_da8c8_8 ((sd_vret hC dJx4a65c_init_da8c8_11)))))))))))
theorem c_AL_init (l : Launch) : zCT l yJx4a65c_init_da8c8 cJx4a65c_init_da8c8 1 (none) 3 60 T_AL_init co_AL_init := by
  intro As M Rt hT
  obtain ⟨a, rfl, ha, h1, hE, hR⟩ := hT
  refine zMet_of true (by decide +kernel) (fun h => by first | rfl | cases h) (Nat.le_of_ble_eq_true rfl) (fun X hN hC => ?_)
  show zG X 0 [some (.inr a)] [] M 0 0
  refine s_AL_init_0 hC _ _ _ _ _ ?_
  simp only [B_AL_init_0, co_AL_init, co_ALi_init, i_ic, i_lc, i_nul, i_il, i_ll, i_al, i_is, i_as, i_ls, i_inc, i_iadd, i_isub, i_imul, i_iand, i_ior, i_ixor, i_idiv, i_irem, i_ishl, i_ishr, i_ladd, i_lsub, i_land, i_lor, i_i2l, i_lushr, i_lshl, i_lshr, i_lcmp, i_dup, i_pop, i_dx1, i_dup2, i_ifeq, i_ifne, i_iflt, i_ifge, i_ifgt, i_ifle, i_iceq, i_icne, i_iclt, i_icge, i_icgt, i_icle, i_ifn, i_gf, i_pf, i_ial, i_bal, i_lal, i_aal, i_ias, i_las, i_bas, i_aas, i_alen, i_newa, i_new, i_anew, i_cast, i_oi, i_call, i_callV, i_callV2, i_callI, i_iret, i_zret, i_lret, i_vret, i_aret, i_mmx, i_mmn, i_gsE, i_aceq, i_no, i_acq, i_sw, zsw, zlg, zls, znl, zfg, zcs, zsp, zrc, zisn, zft, zc1, zto, Value.category, List.set_cons_zero, List.set_cons_succ, List.length_cons, List.length_nil, Option.toList, List.append, List.nil_append, List.cons_append, true_and, and_true, Nat.add_zero, Nat.zero_le, Nat.zero_add, Nat.le_refl, Nat.reduceAdd, Nat.reduceLeDiff, co0, z0, zn_0, zn_1, zn_2, zn_3, zn_4, zn_5, zn_8, zn_12, zn_24, zn_121, zn_144, zn_256, zn_300, zn_600, zn_720, zn_1204, zn_1280, zn_2400, zn_4816, zn_14400, zn_90000]
  refine ⟨a, _, _, _, rfl, ha, h1, ?_⟩
  rw [zup_self h1]
  simp only [i_gsE, h1, i_ic, i_lc, i_nul, i_il, i_ll, i_al, i_is, i_as, i_ls, i_inc, i_iadd, i_isub, i_imul, i_iand, i_ior, i_ixor, i_idiv, i_irem, i_ishl, i_ishr, i_ladd, i_lsub, i_land, i_lor, i_i2l, i_lushr, i_lshl, i_lshr, i_lcmp, i_dup, i_pop, i_dx1, i_dup2, i_ifeq, i_ifne, i_iflt, i_ifge, i_ifgt, i_ifle, i_iceq, i_icne, i_iclt, i_icge, i_icgt, i_icle, i_ifn, i_gf, i_pf, i_ial, i_bal, i_lal, i_aal, i_ias, i_las, i_bas, i_aas, i_alen, i_newa, i_new, i_anew, i_cast, i_oi, i_call, i_callV, i_callV2, i_callI, i_iret, i_zret, i_lret, i_vret, i_aret, i_mmx, i_mmn, i_gsE, i_aceq, i_no, i_acq, i_sw, zsw, zlg, zls, znl, zfg, zcs, zsp, zrc, zisn, zft, zc1, zto, Value.category, List.set_cons_zero, List.set_cons_succ, List.length_cons, List.length_nil, Option.toList, List.append, List.nil_append, List.cons_append, true_and, and_true, Nat.add_zero, Nat.zero_le, Nat.zero_add, Nat.le_refl, Nat.reduceAdd, Nat.reduceLeDiff, co0, z0, zn_0, zn_1, zn_2, zn_3, zn_4, zn_5, zn_8, zn_12, zn_24, zn_121, zn_144, zn_256, zn_300, zn_600, zn_720, zn_1204, zn_1280, zn_2400, zn_4816, zn_14400, zn_90000]
  exact ⟨hE, ha, by decide, hR⟩
