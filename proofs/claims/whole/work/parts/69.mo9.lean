/-! the reference: test, among, wish -/
def ts_y (y : zMS) (i : Nat) (kd a b : Int32) : zMS := v_nu (v_mn (v_kd y (upd (y_kd y) (1200 + i) kd)) (va_up (y_mn y) (1200 + i) 0)) (upd (upd (y_nu y) (4 * (1200 + i)) a) (4 * (1200 + i) + 1) b)
def T_Mo_test (As : List zAV) (M : zMp) (Rt : Option zAV → zMp → Prop) : Prop := ∃ y f kd a b, As = [.inr (30, 0, 0), .inl (.int f), .inl (.int kd), .inl (.int a), .inl (.int b)] ∧ M = mp y ∧ (ts_ok f kd a b = false → Rt (some (.inl (.int 0))) M) ∧ (∀ i, i < 4 → f = nI i → ts_ok f kd a b = true → Rt (some (.inl (.int 1))) (mp (ts_y y i kd a b)))
abbrev co_Mo_test := co0
theorem dX7_test_0 : decode cX7_test 0 = .ok (.iload_n 1, 1) := by decide +kernel
theorem dX7_test_1 : decode cX7_test 1 = .ok (.invokestatic 167, 3) := by decide +kernel
theorem dX7_test_4 : decode cX7_test 4 = .ok (.ifCond .eq 22, 3) := by decide +kernel
theorem dX7_test_7 : decode cX7_test 7 = .ok (.iload_n 2, 1) := by decide +kernel
theorem dX7_test_8 : decode cX7_test 8 = .ok (.ifCond .lt 18, 3) := by decide +kernel
theorem dX7_test_11 : decode cX7_test 11 = .ok (.iload_n 2, 1) := by decide +kernel
theorem dX7_test_12 : decode cX7_test 12 = .ok (.iconst 2, 1) := by decide +kernel
theorem dX7_test_13 : decode cX7_test 13 = .ok (.if_icmp .gt 13, 3) := by decide +kernel
theorem dX7_test_16 : decode cX7_test 16 = .ok (.iload_n 2, 1) := by decide +kernel
theorem dX7_test_17 : decode cX7_test 17 = .ok (.ifCond .le 11, 3) := by decide +kernel
theorem dX7_test_20 : decode cX7_test 20 = .ok (.iload_n 3, 1) := by decide +kernel
theorem dX7_test_21 : decode cX7_test 21 = .ok (.iload 4, 2) := by decide +kernel
theorem dX7_test_23 : decode cX7_test 23 = .ok (.if_icmp .le 5, 3) := by decide +kernel
theorem dX7_test_26 : decode cX7_test 26 = .ok (.iconst 0, 1) := by decide +kernel
theorem dX7_test_27 : decode cX7_test 27 = .ok (.ireturn, 1) := by decide +kernel
theorem dX7_test_28 : decode cX7_test 28 = .ok (.sipush 1200, 3) := by decide +kernel
theorem dX7_test_31 : decode cX7_test 31 = .ok (.iload_n 1, 1) := by decide +kernel
theorem dX7_test_32 : decode cX7_test 32 = .ok (.iadd, 1) := by decide +kernel
theorem dX7_test_33 : decode cX7_test 33 = .ok (.istore 5, 2) := by decide +kernel
theorem dX7_test_35 : decode cX7_test 35 = .ok (.aload_n 0, 1) := by decide +kernel
theorem dX7_test_36 : decode cX7_test 36 = .ok (.getfield 23, 3) := by decide +kernel
theorem dX7_test_39 : decode cX7_test 39 = .ok (.iload 5, 2) := by decide +kernel
theorem dX7_test_41 : decode cX7_test 41 = .ok (.iload_n 2, 1) := by decide +kernel
theorem dX7_test_42 : decode cX7_test 42 = .ok (.iastore, 1) := by decide +kernel
theorem dX7_test_43 : decode cX7_test 43 = .ok (.aload_n 0, 1) := by decide +kernel
theorem dX7_test_44 : decode cX7_test 44 = .ok (.getfield 26, 3) := by decide +kernel
theorem dX7_test_47 : decode cX7_test 47 = .ok (.iload 5, 2) := by decide +kernel
theorem dX7_test_49 : decode cX7_test 49 = .ok (.iconst 0, 1) := by decide +kernel
theorem dX7_test_50 : decode cX7_test 50 = .ok (.iastore, 1) := by decide +kernel
theorem dX7_test_51 : decode cX7_test 51 = .ok (.aload_n 0, 1) := by decide +kernel
theorem dX7_test_52 : decode cX7_test 52 = .ok (.getfield 29, 3) := by decide +kernel
theorem dX7_test_55 : decode cX7_test 55 = .ok (.iconst 4, 1) := by decide +kernel
theorem dX7_test_56 : decode cX7_test 56 = .ok (.iload 5, 2) := by decide +kernel
theorem dX7_test_58 : decode cX7_test 58 = .ok (.imul, 1) := by decide +kernel
theorem dX7_test_59 : decode cX7_test 59 = .ok (.iload_n 3, 1) := by decide +kernel
theorem dX7_test_60 : decode cX7_test 60 = .ok (.iastore, 1) := by decide +kernel
theorem dX7_test_61 : decode cX7_test 61 = .ok (.aload_n 0, 1) := by decide +kernel
theorem dX7_test_62 : decode cX7_test 62 = .ok (.getfield 29, 3) := by decide +kernel
theorem dX7_test_65 : decode cX7_test 65 = .ok (.iconst 4, 1) := by decide +kernel
theorem dX7_test_66 : decode cX7_test 66 = .ok (.iload 5, 2) := by decide +kernel
theorem dX7_test_68 : decode cX7_test 68 = .ok (.imul, 1) := by decide +kernel
theorem dX7_test_69 : decode cX7_test 69 = .ok (.iconst 1, 1) := by decide +kernel
theorem dX7_test_70 : decode cX7_test 70 = .ok (.iadd, 1) := by decide +kernel
theorem dX7_test_71 : decode cX7_test 71 = .ok (.iload 4, 2) := by decide +kernel
theorem dX7_test_73 : decode cX7_test 73 = .ok (.iastore, 1) := by decide +kernel
theorem dX7_test_74 : decode cX7_test 74 = .ok (.iconst 1, 1) := by decide +kernel
theorem dX7_test_75 : decode cX7_test 75 = .ok (.ireturn, 1) := by decide +kernel
def B_Mo_test_28 (mc ms : Nat) (Rt : Option zAV → zMp → Prop) (g : Nat → zKT) : zKT :=
  (i_ic 1200 (i_il 1 (i_iadd (i_is 5 (i_al 0 (i_gf 8 8 (i_il 5 (i_il 2 (i_ias (i_al 0 (i_gf 8 9 (i_il 5 (i_ic 0 (i_ias (i_al 0 (i_gf 8 10 (i_ic 4 (i_il 5 (i_imul (i_il 3 (i_ias (i_al 0 (i_gf 8 10 (i_ic 4 (i_il 5 (i_imul (i_ic 1 (i_iadd (i_il 4 (i_ias (i_ic 1 (i_zret mc ms Rt))))))))))))))))))))))))))))))))
set_option maxRecDepth 20000 in
theorem s_Mo_test_28 {X : zMa} {mc ms : Nat} {Rt : Option zAV → zMp → Prop} (hC : zCx X RX7 cX7_test 1 20 mc ms (some .boolean) false Rt) (hN : zNL X = 6) : zLe (B_Mo_test_28 mc ms Rt (zG X)) (zG X 28) :=
  (sd_sipush hC (by decide) dX7_test_28 ((sd_il_n hC rfl dX7_test_31 ((sd_iadd hC dX7_test_32 ((sd_is hC (by rw [hN]; decide) dX7_test_33 ((sd_al_n hC rfl dX7_test_35 ((sd_gf hC (ci := 8) (fk := 8) rfl wi_Mo (by decide) fl_Mo_23 (Or.inl rfl) dX7_test_36 ((sd_il hC dX7_test_39 ((sd_il_n hC rfl dX7_test_41 ((sd_ias hC dX7_test_42 ((sd_al_n hC rfl dX7_test_43 ((sd_gf hC (ci := 8) (fk := 9) rfl wi_Mo (by decide) fl_Mo_26 (Or.inl rfl) dX7_test_44 ((sd_il hC dX7_test_47 ((sd_iconst hC (by decide) dX7_test_49 ((sd_ias hC dX7_test_50 ((sd_al_n hC rfl dX7_test_51 ((sd_gf hC (ci := 8) (fk := 10) rfl wi_Mo (by decide) fl_Mo_29 (Or.inl rfl) dX7_test_52 ((sd_iconst hC (by decide) dX7_test_55 ((sd_il hC dX7_test_56 ((sd_imul hC dX7_test_58 ((sd_il_n hC rfl dX7_test_59 ((sd_ias hC dX7_test_60 ((sd_al_n hC rfl dX7_test_61 ((sd_gf hC (ci := 8) (fk := 10) rfl wi_Mo (by decide) fl_Mo_29 (Or.inl rfl) dX7_test_62 ((sd_iconst hC (by decide) dX7_test_65 ((sd_il hC dX7_test_66 ((sd_imul hC dX7_test_68 ((sd_iconst hC (by decide) dX7_test_69 ((sd_iadd hC dX7_test_70 ((sd_il hC dX7_test_71 ((sd_ias hC dX7_test_73 ((sd_iconst hC (by decide) dX7_test_74 ((sd_zret hC dX7_test_75)))))))))))))))))))))))))))))))))))))))))))))))))))))))))))))))
def B_Mo_test_26 (mc ms : Nat) (Rt : Option zAV → zMp → Prop) (g : Nat → zKT) : zKT :=
  (i_ic 0 (i_zret mc ms Rt))
set_option maxRecDepth 20000 in
theorem s_Mo_test_26 {X : zMa} {mc ms : Nat} {Rt : Option zAV → zMp → Prop} (hC : zCx X RX7 cX7_test 1 20 mc ms (some .boolean) false Rt) (hN : zNL X = 6) : zLe (B_Mo_test_26 mc ms Rt (zG X)) (zG X 26) :=
  (sd_iconst hC (by decide) dX7_test_26 ((sd_zret hC dX7_test_27)))
def B_Mo_test_0 (mc ms : Nat) (Rt : Option zAV → zMp → Prop) (g : Nat → zKT) : zKT :=
  (i_il 1 (i_call mc ms 1 T_Mo_isField co_Mo_isField (i_ifeq (B_Mo_test_26 mc ms Rt g) (i_il 2 (i_iflt (B_Mo_test_26 mc ms Rt g) (i_il 2 (i_ic 2 (i_icgt (B_Mo_test_26 mc ms Rt g) (i_il 2 (i_ifle (B_Mo_test_28 mc ms Rt g) (i_il 3 (i_il 4 (i_icle (B_Mo_test_28 mc ms Rt g) (B_Mo_test_26 mc ms Rt g))))))))))))))
set_option maxRecDepth 20000 in
theorem s_Mo_test_0 {X : zMa} {mc ms : Nat} {Rt : Option zAV → zMp → Prop} (hC : zCx X RX7 cX7_test 1 20 mc ms (some .boolean) false Rt) (hN : zNL X = 6) : zLe (B_Mo_test_0 mc ms Rt (zG X)) (zG X 0) :=
  (sd_il_n hC rfl dX7_test_0 ((sd_cS hC c_Mo_isField ys_Mo_isField ml_Mo_167 (by decide) (by decide) dX7_test_1 ((sd_ifeq hC (tgt := 26) (by decide) dX7_test_4 (s_Mo_test_26 hC hN) ((sd_il_n hC rfl dX7_test_7 ((sd_iflt hC (tgt := 26) (by decide) dX7_test_8 (s_Mo_test_26 hC hN) ((sd_il_n hC rfl dX7_test_11 ((sd_iconst hC (by decide) dX7_test_12 ((sd_icgt hC (tgt := 26) (by decide) dX7_test_13 (s_Mo_test_26 hC hN) ((sd_il_n hC rfl dX7_test_16 ((sd_ifle hC (tgt := 28) (by decide) dX7_test_17 (s_Mo_test_28 hC hN) ((sd_il_n hC rfl dX7_test_20 ((sd_il hC dX7_test_21 ((sd_icle hC (tgt := 28) (by decide) dX7_test_23 (s_Mo_test_28 hC hN) (s_Mo_test_26 hC hN))))))))))))))))))))))))))
theorem le0_eq0 {d : Int32} (h : ¬ d < 0) : d ≤ 0 ↔ d = 0 := ⟨fun q => Int32.le_antisymm q (Int32.not_lt.mp h), fun q => by rw [q]; exact Int32.le_refl _⟩
theorem c_Mo_test (l : Launch) : zCT l yX7_test cX7_test 6 (some .boolean) 1 20 T_Mo_test co_Mo_test := by
  intro As M Rt hT
  obtain ⟨y, f, kd, a, b, rfl, rfl, hR0, hR1⟩ := hT
  refine zMet_of false (by decide +kernel) (fun h => by first | rfl | cases h) (Nat.le_of_ble_eq_true rfl) (fun X hN hC => ?_)
  show zG X 0 [some (.inr (30, 0, 0)), some (.inl (.int f)), some (.inl (.int kd)), some (.inl (.int a)), some (.inl (.int b)), none] [] (mp y) 0 0
  have fin : isn 4 f = true → ¬ kd < 0 → kd ≤ 2 → (kd = 0 ∨ a ≤ b) → B_Mo_test_28 0 0 Rt (zG X) [some (.inr (30, 0, 0)), some (.inl (.int f)), some (.inl (.int kd)), some (.inl (.int a)), some (.inl (.int b)), none] [] (mp y) 0 0 := by
    intro h1 h2 h3 h4
    obtain ⟨i, hi, rfl⟩ := isn_t (by decide) h1
    have hR := hR1 i hi rfl (zd_t ⟨h1, h2, h3, h4⟩)
    simp only [B_Mo_test_0, B_Mo_test_26, B_Mo_test_28, co_Mo_isField, co_Mo_test, i_ic, i_lc, i_nul, i_il, i_ll, i_al, i_is, i_as, i_ls, i_inc, i_iadd, i_isub, i_imul, i_iand, i_ior, i_ixor, i_idiv, i_irem, i_ishl, i_ishr, i_ladd, i_lsub, i_land, i_lor, i_i2l, i_lushr, i_lshl, i_lshr, i_lcmp, i_dup, i_pop, i_dx1, i_dup2, i_ifeq, i_ifne, i_iflt, i_ifge, i_ifgt, i_ifle, i_iceq, i_icne, i_iclt, i_icge, i_icgt, i_icle, i_ifn, i_gf, i_pf, i_ial, i_bal, i_lal, i_aal, i_ias, i_las, i_bas, i_aas, i_alen, i_newa, i_new, i_anew, i_cast, i_oi, i_call, i_callV, i_callV2, i_callI, i_iret, i_zret, i_lret, i_vret, i_aret, i_mmx, i_mmn, i_gsE, i_aceq, i_no, i_acq, i_sw, zsw, zlg, zls, znl, zfg, zcs, zsp, zrc, zisn, zft, zc1, zto, Value.category, List.set_cons_zero, List.set_cons_succ, List.length_cons, List.length_nil, Option.toList, List.append, List.nil_append, List.cons_append, true_and, and_true, Nat.add_zero, Nat.zero_le, Nat.zero_add, Nat.le_refl, Nat.reduceAdd, Nat.reduceLeDiff, co0, z0, zn_0, zn_1, zn_2, zn_3, zn_4, zn_5, zn_8, zn_12, zn_24, zn_121, zn_144, zn_256, zn_300, zn_600, zn_720, zn_1204, zn_1280, zn_2400, zn_4816, zn_14400, zn_90000, q_main, m_main, q_kd, ar_4, ar_5, ar_12, ar_300, ar_600, ar_1200, ar_10, nI_add, ar_1, ar_2, ar_3, ar_2m]
    rw [nI_clamp (by omega), mu_kd]
    refine ⟨m_k (by decide), vp_in_nI (by omega) (by decide), ?_⟩
    simp only [i_ic, i_lc, i_nul, i_il, i_ll, i_al, i_is, i_as, i_ls, i_inc, i_iadd, i_isub, i_imul, i_iand, i_ior, i_ixor, i_idiv, i_irem, i_ishl, i_ishr, i_ladd, i_lsub, i_land, i_lor, i_i2l, i_lushr, i_lshl, i_lshr, i_lcmp, i_dup, i_pop, i_dx1, i_dup2, i_ifeq, i_ifne, i_iflt, i_ifge, i_ifgt, i_ifle, i_iceq, i_icne, i_iclt, i_icge, i_icgt, i_icle, i_ifn, i_gf, i_pf, i_ial, i_bal, i_lal, i_aal, i_ias, i_las, i_bas, i_aas, i_alen, i_newa, i_new, i_anew, i_cast, i_oi, i_call, i_callV, i_callV2, i_callI, i_iret, i_zret, i_lret, i_vret, i_aret, i_mmx, i_mmn, i_gsE, i_aceq, i_no, i_acq, i_sw, zsw, zlg, zls, znl, zfg, zcs, zsp, zrc, zisn, zft, zc1, zto, Value.category, List.set_cons_zero, List.set_cons_succ, List.length_cons, List.length_nil, Option.toList, List.append, List.nil_append, List.cons_append, true_and, and_true, Nat.add_zero, Nat.zero_le, Nat.zero_add, Nat.le_refl, Nat.reduceAdd, Nat.reduceLeDiff, co0, z0, zn_0, zn_1, zn_2, zn_3, zn_4, zn_5, zn_8, zn_12, zn_24, zn_121, zn_144, zn_256, zn_300, zn_600, zn_720, zn_1204, zn_1280, zn_2400, zn_4816, zn_14400, zn_90000, q_main, m_main, q_mn]
    rw [nI_clamp (by omega), show (0 : Int32) = nI 0 from rfl, upd_nt, mu_mn]
    refine ⟨m_k (by decide), vp_in_nI (by omega) (by decide), ?_⟩
    simp only [i_ic, i_lc, i_nul, i_il, i_ll, i_al, i_is, i_as, i_ls, i_inc, i_iadd, i_isub, i_imul, i_iand, i_ior, i_ixor, i_idiv, i_irem, i_ishl, i_ishr, i_ladd, i_lsub, i_land, i_lor, i_i2l, i_lushr, i_lshl, i_lshr, i_lcmp, i_dup, i_pop, i_dx1, i_dup2, i_ifeq, i_ifne, i_iflt, i_ifge, i_ifgt, i_ifle, i_iceq, i_icne, i_iclt, i_icge, i_icgt, i_icle, i_ifn, i_gf, i_pf, i_ial, i_bal, i_lal, i_aal, i_ias, i_las, i_bas, i_aas, i_alen, i_newa, i_new, i_anew, i_cast, i_oi, i_call, i_callV, i_callV2, i_callI, i_iret, i_zret, i_lret, i_vret, i_aret, i_mmx, i_mmn, i_gsE, i_aceq, i_no, i_acq, i_sw, zsw, zlg, zls, znl, zfg, zcs, zsp, zrc, zisn, zft, zc1, zto, Value.category, List.set_cons_zero, List.set_cons_succ, List.length_cons, List.length_nil, Option.toList, List.append, List.nil_append, List.cons_append, true_and, and_true, Nat.add_zero, Nat.zero_le, Nat.zero_add, Nat.le_refl, Nat.reduceAdd, Nat.reduceLeDiff, co0, z0, zn_0, zn_1, zn_2, zn_3, zn_4, zn_5, zn_8, zn_12, zn_24, zn_121, zn_144, zn_256, zn_300, zn_600, zn_720, zn_1204, zn_1280, zn_2400, zn_4816, zn_14400, zn_90000, q_main, m_main, q_nu]
    rw [nI_clamp (by omega), mu_nu]
    refine ⟨m_k (by decide), vp_in_nI (by omega) (by decide), ?_⟩
    simp only [i_ic, i_lc, i_nul, i_il, i_ll, i_al, i_is, i_as, i_ls, i_inc, i_iadd, i_isub, i_imul, i_iand, i_ior, i_ixor, i_idiv, i_irem, i_ishl, i_ishr, i_ladd, i_lsub, i_land, i_lor, i_i2l, i_lushr, i_lshl, i_lshr, i_lcmp, i_dup, i_pop, i_dx1, i_dup2, i_ifeq, i_ifne, i_iflt, i_ifge, i_ifgt, i_ifle, i_iceq, i_icne, i_iclt, i_icge, i_icgt, i_icle, i_ifn, i_gf, i_pf, i_ial, i_bal, i_lal, i_aal, i_ias, i_las, i_bas, i_aas, i_alen, i_newa, i_new, i_anew, i_cast, i_oi, i_call, i_callV, i_callV2, i_callI, i_iret, i_zret, i_lret, i_vret, i_aret, i_mmx, i_mmn, i_gsE, i_aceq, i_no, i_acq, i_sw, zsw, zlg, zls, znl, zfg, zcs, zsp, zrc, zisn, zft, zc1, zto, Value.category, List.set_cons_zero, List.set_cons_succ, List.length_cons, List.length_nil, Option.toList, List.append, List.nil_append, List.cons_append, true_and, and_true, Nat.add_zero, Nat.zero_le, Nat.zero_add, Nat.le_refl, Nat.reduceAdd, Nat.reduceLeDiff, co0, z0, zn_0, zn_1, zn_2, zn_3, zn_4, zn_5, zn_8, zn_12, zn_24, zn_121, zn_144, zn_256, zn_300, zn_600, zn_720, zn_1204, zn_1280, zn_2400, zn_4816, zn_14400, zn_90000, q_main, m_main, q_nu]
    rw [nI_clamp (by omega), mu_nu]
    exact ⟨m_k (by decide), vp_in_nI (by omega) (by decide), by decide, hR⟩
  refine s_Mo_test_0 hC hN _ _ _ _ _ ?_
  simp only [B_Mo_test_0, B_Mo_test_26, co_Mo_isField, co_Mo_test, i_ic, i_lc, i_nul, i_il, i_ll, i_al, i_is, i_as, i_ls, i_inc, i_iadd, i_isub, i_imul, i_iand, i_ior, i_ixor, i_idiv, i_irem, i_ishl, i_ishr, i_ladd, i_lsub, i_land, i_lor, i_i2l, i_lushr, i_lshl, i_lshr, i_lcmp, i_dup, i_pop, i_dx1, i_dup2, i_ifeq, i_ifne, i_iflt, i_ifge, i_ifgt, i_ifle, i_iceq, i_icne, i_iclt, i_icge, i_icgt, i_icle, i_ifn, i_gf, i_pf, i_ial, i_bal, i_lal, i_aal, i_ias, i_las, i_bas, i_aas, i_alen, i_newa, i_new, i_anew, i_cast, i_oi, i_call, i_callV, i_callV2, i_callI, i_iret, i_zret, i_lret, i_vret, i_aret, i_mmx, i_mmn, i_gsE, i_aceq, i_no, i_acq, i_sw, zsw, zlg, zls, znl, zfg, zcs, zsp, zrc, zisn, zft, zc1, zto, Value.category, List.set_cons_zero, List.set_cons_succ, List.length_cons, List.length_nil, Option.toList, List.append, List.nil_append, List.cons_append, true_and, and_true, Nat.add_zero, Nat.zero_le, Nat.zero_add, Nat.le_refl, Nat.reduceAdd, Nat.reduceLeDiff, co0, z0, zn_0, zn_1, zn_2, zn_3, zn_4, zn_5, zn_8, zn_12, zn_24, zn_121, zn_144, zn_256, zn_300, zn_600, zn_720, zn_1204, zn_1280, zn_2400, zn_4816, zn_14400, zn_90000, q_main, m_main]
  refine ⟨f, rfl, ?_⟩
  simp only [B_Mo_test_0, B_Mo_test_26, co_Mo_isField, co_Mo_test, i_ic, i_lc, i_nul, i_il, i_ll, i_al, i_is, i_as, i_ls, i_inc, i_iadd, i_isub, i_imul, i_iand, i_ior, i_ixor, i_idiv, i_irem, i_ishl, i_ishr, i_ladd, i_lsub, i_land, i_lor, i_i2l, i_lushr, i_lshl, i_lshr, i_lcmp, i_dup, i_pop, i_dx1, i_dup2, i_ifeq, i_ifne, i_iflt, i_ifge, i_ifgt, i_ifle, i_iceq, i_icne, i_iclt, i_icge, i_icgt, i_icle, i_ifn, i_gf, i_pf, i_ial, i_bal, i_lal, i_aal, i_ias, i_las, i_bas, i_aas, i_alen, i_newa, i_new, i_anew, i_cast, i_oi, i_call, i_callV, i_callV2, i_callI, i_iret, i_zret, i_lret, i_vret, i_aret, i_mmx, i_mmn, i_gsE, i_aceq, i_no, i_acq, i_sw, zsw, zlg, zls, znl, zfg, zcs, zsp, zrc, zisn, zft, zc1, zto, Value.category, List.set_cons_zero, List.set_cons_succ, List.length_cons, List.length_nil, Option.toList, List.append, List.nil_append, List.cons_append, true_and, and_true, Nat.add_zero, Nat.zero_le, Nat.zero_add, Nat.le_refl, Nat.reduceAdd, Nat.reduceLeDiff, co0, z0, zn_0, zn_1, zn_2, zn_3, zn_4, zn_5, zn_8, zn_12, zn_24, zn_121, zn_144, zn_256, zn_300, zn_600, zn_720, zn_1204, zn_1280, zn_2400, zn_4816, zn_14400, zn_90000, q_main, m_main]
  refine ⟨fun h => ⟨by decide, hR0 (zd_f (fun q => by rw [q.1] at h; exact absurd h (by decide)))⟩, fun h => ?_⟩
  have h1 := zb_n0 h
  refine ⟨fun h2 => ⟨by decide, hR0 (zd_f (fun q => q.2.1 h2))⟩, fun h2 => ⟨fun h3 => ⟨by decide, hR0 (zd_f (fun q => absurd q.2.2.1 (Int32.not_le.mpr h3)))⟩, fun h3 => ⟨fun h4 => fin h1 h2 (Int32.not_lt.mp h3) (Or.inl ((le0_eq0 h2).mp h4)), fun h4 => ⟨fun h5 => fin h1 h2 (Int32.not_lt.mp h3) (Or.inr h5), fun h5 => ⟨by decide, hR0 (zd_f (fun q => q.2.2.2.elim (fun w => h4 ((le0_eq0 h2).mpr w)) h5))⟩⟩⟩⟩⟩
theorem Jv_ts {y : zMS} {t n : Nat} {k : Int32} (h : Jv y) (hk : k = 0 ∨ k = 1 ∨ k = 2 ∨ k = 3) (hn : n ≤ 4) : Jv (v_mn (v_kd y (upd (y_kd y) t k)) (va_up (y_mn y) t n)) := by
  refine ⟨h.dk, h.lim, h.cp, h.rdr, h.ro, fun t' ht' => ?_, h.ms, h.gb, h.hm⟩
  show (upd (y_kd y) t k t' = 0 ∨ upd (y_kd y) t k t' = 1 ∨ upd (y_kd y) t k t' = 2 ∨ upd (y_kd y) t k t' = 3) ∧ va_up (y_mn y) t n t' ≤ 4
  by_cases e : t' = t
  · rw [e, upd_s', va_ups']; exact ⟨hk, hn⟩
  · rw [upd_o' _ _ e, va_upo' _ _ e]; exact h.ts t' ht'
/-! among -/
def am_ins (v : Int32) (b : Nat) : Nat → (Nat → Int32) → Nat → Int32
  | 0, f => upd f b v
  | n + 1, f => if v < f (b + n) then am_ins v b n (upd f (b + n + 1) (f (b + n))) else upd f (b + n + 1) v
def amk_n (y : zMS) (i : Nat) : Nat := if y_kd y (1200 + i) = 3 then y_mn y (1200 + i) else 0
def am_1 (y : zMS) (i : Nat) : zMS := if y_kd y (1200 + i) = 3 then y else v_mn (v_kd y (upd (y_kd y) (1200 + i) 3)) (va_up (y_mn y) (1200 + i) 0)
def am_y (y : zMS) (i : Nat) (v : Int32) : zMS := v_mn (v_nu (am_1 y i) (am_ins v (4 * (1200 + i)) (amk_n y i) (y_nu y))) (va_up (y_mn (am_1 y i)) (1200 + i) (amk_n y i + 1))
def T_Mo_among (As : List zAV) (M : zMp) (Rt : Option zAV → zMp → Prop) : Prop := ∃ y f v, As = [.inr (30, 0, 0), .inl (.int f), .inl (.int v)] ∧ M = mp y ∧ Jv y ∧ (isn 4 f = false → Rt (some (.inl (.int 0))) M) ∧ (∀ i, i < 4 → f = nI i → ft_can (y_kd y (1200 + i)) (y_mn y (1200 + i)) (y_g y (1200 + i)) v = false → Rt (some (.inl (.int 0))) M) ∧ (∀ i, i < 4 → f = nI i → ft_can (y_kd y (1200 + i)) (y_mn y (1200 + i)) (y_g y (1200 + i)) v = true → Rt (some (.inl (.int 1))) (mp (am_y y i v)))
abbrev co_Mo_among := co0
theorem dX7_among_0 : decode cX7_among 0 = .ok (.iload_n 1, 1) := by decide +kernel
theorem dX7_among_1 : decode cX7_among 1 = .ok (.invokestatic 167, 3) := by decide +kernel
theorem dX7_among_4 : decode cX7_among 4 = .ok (.ifCond .ne 5, 3) := by decide +kernel
theorem dX7_among_7 : decode cX7_among 7 = .ok (.iconst 0, 1) := by decide +kernel
theorem dX7_among_8 : decode cX7_among 8 = .ok (.ireturn, 1) := by decide +kernel
theorem dX7_among_9 : decode cX7_among 9 = .ok (.sipush 1200, 3) := by decide +kernel
theorem dX7_among_12 : decode cX7_among 12 = .ok (.iload_n 1, 1) := by decide +kernel
theorem dX7_among_13 : decode cX7_among 13 = .ok (.iadd, 1) := by decide +kernel
theorem dX7_among_14 : decode cX7_among 14 = .ok (.istore_n 3, 1) := by decide +kernel
theorem dX7_among_15 : decode cX7_among 15 = .ok (.aload_n 0, 1) := by decide +kernel
theorem dX7_among_16 : decode cX7_among 16 = .ok (.getfield 23, 3) := by decide +kernel
theorem dX7_among_19 : decode cX7_among 19 = .ok (.iload_n 3, 1) := by decide +kernel
theorem dX7_among_20 : decode cX7_among 20 = .ok (.iaload, 1) := by decide +kernel
theorem dX7_among_21 : decode cX7_among 21 = .ok (.iconst 3, 1) := by decide +kernel
theorem dX7_among_22 : decode cX7_among 22 = .ok (.if_icmp .eq 17, 3) := by decide +kernel
theorem dX7_among_25 : decode cX7_among 25 = .ok (.aload_n 0, 1) := by decide +kernel
theorem dX7_among_26 : decode cX7_among 26 = .ok (.getfield 23, 3) := by decide +kernel
theorem dX7_among_29 : decode cX7_among 29 = .ok (.iload_n 3, 1) := by decide +kernel
theorem dX7_among_30 : decode cX7_among 30 = .ok (.iconst 3, 1) := by decide +kernel
theorem dX7_among_31 : decode cX7_among 31 = .ok (.iastore, 1) := by decide +kernel
theorem dX7_among_32 : decode cX7_among 32 = .ok (.aload_n 0, 1) := by decide +kernel
theorem dX7_among_33 : decode cX7_among 33 = .ok (.getfield 26, 3) := by decide +kernel
theorem dX7_among_36 : decode cX7_among 36 = .ok (.iload_n 3, 1) := by decide +kernel
theorem dX7_among_37 : decode cX7_among 37 = .ok (.iconst 0, 1) := by decide +kernel
theorem dX7_among_38 : decode cX7_among 38 = .ok (.iastore, 1) := by decide +kernel
theorem dX7_among_39 : decode cX7_among 39 = .ok (.aload_n 0, 1) := by decide +kernel
theorem dX7_among_40 : decode cX7_among 40 = .ok (.getfield 26, 3) := by decide +kernel
theorem dX7_among_43 : decode cX7_among 43 = .ok (.iload_n 3, 1) := by decide +kernel
theorem dX7_among_44 : decode cX7_among 44 = .ok (.iaload, 1) := by decide +kernel
theorem dX7_among_45 : decode cX7_among 45 = .ok (.iconst 4, 1) := by decide +kernel
theorem dX7_among_46 : decode cX7_among 46 = .ok (.if_icmp .eq 21, 3) := by decide +kernel
theorem dX7_among_49 : decode cX7_among 49 = .ok (.aload_n 0, 1) := by decide +kernel
theorem dX7_among_50 : decode cX7_among 50 = .ok (.getfield 26, 3) := by decide +kernel
theorem dX7_among_53 : decode cX7_among 53 = .ok (.iload_n 3, 1) := by decide +kernel
theorem dX7_among_54 : decode cX7_among 54 = .ok (.iaload, 1) := by decide +kernel
theorem dX7_among_55 : decode cX7_among 55 = .ok (.ifCond .le 14, 3) := by decide +kernel
theorem dX7_among_58 : decode cX7_among 58 = .ok (.aload_n 0, 1) := by decide +kernel
theorem dX7_among_59 : decode cX7_among 59 = .ok (.iload_n 3, 1) := by decide +kernel
theorem dX7_among_60 : decode cX7_among 60 = .ok (.iload_n 2, 1) := by decide +kernel
theorem dX7_among_61 : decode cX7_among 61 = .ok (.invokevirtual 98, 3) := by decide +kernel
theorem dX7_among_64 : decode cX7_among 64 = .ok (.ifCond .eq 5, 3) := by decide +kernel
theorem dX7_among_67 : decode cX7_among 67 = .ok (.iconst 0, 1) := by decide +kernel
theorem dX7_among_68 : decode cX7_among 68 = .ok (.ireturn, 1) := by decide +kernel
theorem dX7_among_69 : decode cX7_among 69 = .ok (.aload_n 0, 1) := by decide +kernel
theorem dX7_among_70 : decode cX7_among 70 = .ok (.getfield 26, 3) := by decide +kernel
theorem dX7_among_73 : decode cX7_among 73 = .ok (.iload_n 3, 1) := by decide +kernel
theorem dX7_among_74 : decode cX7_among 74 = .ok (.iaload, 1) := by decide +kernel
theorem dX7_among_75 : decode cX7_among 75 = .ok (.istore 4, 2) := by decide +kernel
theorem dX7_among_77 : decode cX7_among 77 = .ok (.iload 4, 2) := by decide +kernel
theorem dX7_among_79 : decode cX7_among 79 = .ok (.ifCond .le 50, 3) := by decide +kernel
theorem dX7_among_82 : decode cX7_among 82 = .ok (.aload_n 0, 1) := by decide +kernel
theorem dX7_among_83 : decode cX7_among 83 = .ok (.getfield 29, 3) := by decide +kernel
theorem dX7_among_86 : decode cX7_among 86 = .ok (.iconst 4, 1) := by decide +kernel
theorem dX7_among_87 : decode cX7_among 87 = .ok (.iload_n 3, 1) := by decide +kernel
theorem dX7_among_88 : decode cX7_among 88 = .ok (.imul, 1) := by decide +kernel
theorem dX7_among_89 : decode cX7_among 89 = .ok (.iload 4, 2) := by decide +kernel
theorem dX7_among_91 : decode cX7_among 91 = .ok (.iadd, 1) := by decide +kernel
theorem dX7_among_92 : decode cX7_among 92 = .ok (.iconst 1, 1) := by decide +kernel
theorem dX7_among_93 : decode cX7_among 93 = .ok (.isub, 1) := by decide +kernel
theorem dX7_among_94 : decode cX7_among 94 = .ok (.iaload, 1) := by decide +kernel
theorem dX7_among_95 : decode cX7_among 95 = .ok (.iload_n 2, 1) := by decide +kernel
theorem dX7_among_96 : decode cX7_among 96 = .ok (.if_icmp .le 33, 3) := by decide +kernel
theorem dX7_among_99 : decode cX7_among 99 = .ok (.aload_n 0, 1) := by decide +kernel
theorem dX7_among_100 : decode cX7_among 100 = .ok (.getfield 29, 3) := by decide +kernel
theorem dX7_among_103 : decode cX7_among 103 = .ok (.iconst 4, 1) := by decide +kernel
theorem dX7_among_104 : decode cX7_among 104 = .ok (.iload_n 3, 1) := by decide +kernel
theorem dX7_among_105 : decode cX7_among 105 = .ok (.imul, 1) := by decide +kernel
theorem dX7_among_106 : decode cX7_among 106 = .ok (.iload 4, 2) := by decide +kernel
theorem dX7_among_108 : decode cX7_among 108 = .ok (.iadd, 1) := by decide +kernel
theorem dX7_among_109 : decode cX7_among 109 = .ok (.aload_n 0, 1) := by decide +kernel
theorem dX7_among_110 : decode cX7_among 110 = .ok (.getfield 29, 3) := by decide +kernel
theorem dX7_among_113 : decode cX7_among 113 = .ok (.iconst 4, 1) := by decide +kernel
theorem dX7_among_114 : decode cX7_among 114 = .ok (.iload_n 3, 1) := by decide +kernel
theorem dX7_among_115 : decode cX7_among 115 = .ok (.imul, 1) := by decide +kernel
theorem dX7_among_116 : decode cX7_among 116 = .ok (.iload 4, 2) := by decide +kernel
theorem dX7_among_118 : decode cX7_among 118 = .ok (.iadd, 1) := by decide +kernel
theorem dX7_among_119 : decode cX7_among 119 = .ok (.iconst 1, 1) := by decide +kernel
theorem dX7_among_120 : decode cX7_among 120 = .ok (.isub, 1) := by decide +kernel
theorem dX7_among_121 : decode cX7_among 121 = .ok (.iaload, 1) := by decide +kernel
theorem dX7_among_122 : decode cX7_among 122 = .ok (.iastore, 1) := by decide +kernel
theorem dX7_among_123 : decode cX7_among 123 = .ok (.iinc 4 (-1), 3) := by decide +kernel
theorem dX7_among_126 : decode cX7_among 126 = .ok (.goto (-49), 3) := by decide +kernel
theorem dX7_among_129 : decode cX7_among 129 = .ok (.aload_n 0, 1) := by decide +kernel
theorem dX7_among_130 : decode cX7_among 130 = .ok (.getfield 29, 3) := by decide +kernel
theorem dX7_among_133 : decode cX7_among 133 = .ok (.iconst 4, 1) := by decide +kernel
theorem dX7_among_134 : decode cX7_among 134 = .ok (.iload_n 3, 1) := by decide +kernel
theorem dX7_among_135 : decode cX7_among 135 = .ok (.imul, 1) := by decide +kernel
theorem dX7_among_136 : decode cX7_among 136 = .ok (.iload 4, 2) := by decide +kernel
theorem dX7_among_138 : decode cX7_among 138 = .ok (.iadd, 1) := by decide +kernel
theorem dX7_among_139 : decode cX7_among 139 = .ok (.iload_n 2, 1) := by decide +kernel
theorem dX7_among_140 : decode cX7_among 140 = .ok (.iastore, 1) := by decide +kernel
theorem dX7_among_141 : decode cX7_among 141 = .ok (.aload_n 0, 1) := by decide +kernel
theorem dX7_among_142 : decode cX7_among 142 = .ok (.getfield 26, 3) := by decide +kernel
theorem dX7_among_145 : decode cX7_among 145 = .ok (.iload_n 3, 1) := by decide +kernel
theorem dX7_among_146 : decode cX7_among 146 = .ok (.dup2, 1) := by decide +kernel
theorem dX7_among_147 : decode cX7_among 147 = .ok (.iaload, 1) := by decide +kernel
theorem dX7_among_148 : decode cX7_among 148 = .ok (.iconst 1, 1) := by decide +kernel
theorem dX7_among_149 : decode cX7_among 149 = .ok (.iadd, 1) := by decide +kernel
theorem dX7_among_150 : decode cX7_among 150 = .ok (.iastore, 1) := by decide +kernel
theorem dX7_among_151 : decode cX7_among 151 = .ok (.iconst 1, 1) := by decide +kernel
theorem dX7_among_152 : decode cX7_among 152 = .ok (.ireturn, 1) := by decide +kernel
def B_Mo_among_129 (mc ms : Nat) (Rt : Option zAV → zMp → Prop) (g : Nat → zKT) : zKT :=
  (i_al 0 (i_gf 8 10 (i_ic 4 (i_il 3 (i_imul (i_il 4 (i_iadd (i_il 2 (i_ias (i_al 0 (i_gf 8 9 (i_il 3 (i_dup2 (i_ial (i_ic 1 (i_iadd (i_ias (i_ic 1 (i_zret mc ms Rt)))))))))))))))))))
set_option maxRecDepth 20000 in
theorem s_Mo_among_129 {X : zMa} {mc ms : Nat} {Rt : Option zAV → zMp → Prop} (hC : zCx X RX7 cX7_among 1 25 mc ms (some .boolean) false Rt) (hN : zNL X = 5) : zLe (B_Mo_among_129 mc ms Rt (zG X)) (zG X 129) :=
  (sd_al_n hC rfl dX7_among_129 ((sd_gf hC (ci := 8) (fk := 10) rfl wi_Mo (by decide) fl_Mo_29 (Or.inl rfl) dX7_among_130 ((sd_iconst hC (by decide) dX7_among_133 ((sd_il_n hC rfl dX7_among_134 ((sd_imul hC dX7_among_135 ((sd_il hC dX7_among_136 ((sd_iadd hC dX7_among_138 ((sd_il_n hC rfl dX7_among_139 ((sd_ias hC dX7_among_140 ((sd_al_n hC rfl dX7_among_141 ((sd_gf hC (ci := 8) (fk := 9) rfl wi_Mo (by decide) fl_Mo_26 (Or.inl rfl) dX7_among_142 ((sd_il_n hC rfl dX7_among_145 ((sd_dup2 hC dX7_among_146 ((sd_ial hC dX7_among_147 ((sd_iconst hC (by decide) dX7_among_148 ((sd_iadd hC dX7_among_149 ((sd_ias hC dX7_among_150 ((sd_iconst hC (by decide) dX7_among_151 ((sd_zret hC dX7_among_152)))))))))))))))))))))))))))))))))))))
def B_Mo_among_77 (mc ms : Nat) (Rt : Option zAV → zMp → Prop) (g : Nat → zKT) : zKT :=
  (i_il 4 (i_ifle (B_Mo_among_129 mc ms Rt g) (i_al 0 (i_gf 8 10 (i_ic 4 (i_il 3 (i_imul (i_il 4 (i_iadd (i_ic 1 (i_isub (i_ial (i_il 2 (i_icle (B_Mo_among_129 mc ms Rt g) (i_al 0 (i_gf 8 10 (i_ic 4 (i_il 3 (i_imul (i_il 4 (i_iadd (i_al 0 (i_gf 8 10 (i_ic 4 (i_il 3 (i_imul (i_il 4 (i_iadd (i_ic 1 (i_isub (i_ial (i_ias (i_inc 4 (-1) (g 77))))))))))))))))))))))))))))))))))
set_option maxRecDepth 20000 in
theorem s_Mo_among_77 {X : zMa} {mc ms : Nat} {Rt : Option zAV → zMp → Prop} (hC : zCx X RX7 cX7_among 1 25 mc ms (some .boolean) false Rt) (hN : zNL X = 5) : zLe (B_Mo_among_77 mc ms Rt (zG X)) (zG X 77) :=
  (sd_il hC dX7_among_77 ((sd_ifle hC (tgt := 129) (by decide) dX7_among_79 (s_Mo_among_129 hC hN) ((sd_al_n hC rfl dX7_among_82 ((sd_gf hC (ci := 8) (fk := 10) rfl wi_Mo (by decide) fl_Mo_29 (Or.inl rfl) dX7_among_83 ((sd_iconst hC (by decide) dX7_among_86 ((sd_il_n hC rfl dX7_among_87 ((sd_imul hC dX7_among_88 ((sd_il hC dX7_among_89 ((sd_iadd hC dX7_among_91 ((sd_iconst hC (by decide) dX7_among_92 ((sd_isub hC dX7_among_93 ((sd_ial hC dX7_among_94 ((sd_il_n hC rfl dX7_among_95 ((sd_icle hC (tgt := 129) (by decide) dX7_among_96 (s_Mo_among_129 hC hN) ((sd_al_n hC rfl dX7_among_99 ((sd_gf hC (ci := 8) (fk := 10) rfl wi_Mo (by decide) fl_Mo_29 (Or.inl rfl) dX7_among_100 ((sd_iconst hC (by decide) dX7_among_103 ((sd_il_n hC rfl dX7_among_104 ((sd_imul hC dX7_among_105 ((sd_il hC dX7_among_106 ((sd_iadd hC dX7_among_108 ((sd_al_n hC rfl dX7_among_109 ((sd_gf hC (ci := 8) (fk := 10) rfl wi_Mo (by decide) fl_Mo_29 (Or.inl rfl) dX7_among_110 ((sd_iconst hC (by decide) dX7_among_113 ((sd_il_n hC rfl dX7_among_114 ((sd_imul hC dX7_among_115 ((sd_il hC dX7_among_116 ((sd_iadd hC dX7_among_118 ((sd_iconst hC (by decide) dX7_among_119 ((sd_isub hC dX7_among_120 ((sd_ial hC dX7_among_121 ((sd_ias hC dX7_among_122 ((sd_inc hC (by decide) (by rw [hN]; decide) dX7_among_123 ((sd_goto hC (tgt := 77) (by decide) dX7_among_126 (zLe_rfl))))))))))))))))))))))))))))))))))))))))))))))))))))))))))))))))))))
def B_Mo_among_69 (mc ms : Nat) (Rt : Option zAV → zMp → Prop) (g : Nat → zKT) : zKT :=
  (i_al 0 (i_gf 8 9 (i_il 3 (i_ial (i_is 4 (g 77))))))
set_option maxRecDepth 20000 in
theorem s_Mo_among_69 {X : zMa} {mc ms : Nat} {Rt : Option zAV → zMp → Prop} (hC : zCx X RX7 cX7_among 1 25 mc ms (some .boolean) false Rt) (hN : zNL X = 5) : zLe (B_Mo_among_69 mc ms Rt (zG X)) (zG X 69) :=
  (sd_al_n hC rfl dX7_among_69 ((sd_gf hC (ci := 8) (fk := 9) rfl wi_Mo (by decide) fl_Mo_26 (Or.inl rfl) dX7_among_70 ((sd_il_n hC rfl dX7_among_73 ((sd_ial hC dX7_among_74 ((sd_is hC (by rw [hN]; decide) dX7_among_75 (zLe_rfl))))))))))
def B_Mo_among_67 (mc ms : Nat) (Rt : Option zAV → zMp → Prop) (g : Nat → zKT) : zKT :=
  (i_ic 0 (i_zret mc ms Rt))
set_option maxRecDepth 20000 in
theorem s_Mo_among_67 {X : zMa} {mc ms : Nat} {Rt : Option zAV → zMp → Prop} (hC : zCx X RX7 cX7_among 1 25 mc ms (some .boolean) false Rt) (hN : zNL X = 5) : zLe (B_Mo_among_67 mc ms Rt (zG X)) (zG X 67) :=
  (sd_iconst hC (by decide) dX7_among_67 ((sd_zret hC dX7_among_68)))
def B_Mo_among_39 (mc ms : Nat) (Rt : Option zAV → zMp → Prop) (g : Nat → zKT) : zKT :=
  (i_al 0 (i_gf 8 9 (i_il 3 (i_ial (i_ic 4 (i_iceq (B_Mo_among_67 mc ms Rt g) (i_al 0 (i_gf 8 9 (i_il 3 (i_ial (i_ifle (B_Mo_among_69 mc ms Rt g) (i_al 0 (i_il 3 (i_il 2 (i_callV mc ms 8 3 T_Mo_passes co_Mo_passes (i_ifeq (B_Mo_among_69 mc ms Rt g) (B_Mo_among_67 mc ms Rt g)))))))))))))))))
set_option maxRecDepth 20000 in
theorem s_Mo_among_39 {X : zMa} {mc ms : Nat} {Rt : Option zAV → zMp → Prop} (hC : zCx X RX7 cX7_among 1 25 mc ms (some .boolean) false Rt) (hN : zNL X = 5) : zLe (B_Mo_among_39 mc ms Rt (zG X)) (zG X 39) :=
  (sd_al_n hC rfl dX7_among_39 ((sd_gf hC (ci := 8) (fk := 9) rfl wi_Mo (by decide) fl_Mo_26 (Or.inl rfl) dX7_among_40 ((sd_il_n hC rfl dX7_among_43 ((sd_ial hC dX7_among_44 ((sd_iconst hC (by decide) dX7_among_45 ((sd_iceq hC (tgt := 67) (by decide) dX7_among_46 (s_Mo_among_67 hC hN) ((sd_al_n hC rfl dX7_among_49 ((sd_gf hC (ci := 8) (fk := 9) rfl wi_Mo (by decide) fl_Mo_26 (Or.inl rfl) dX7_among_50 ((sd_il_n hC rfl dX7_among_53 ((sd_ial hC dX7_among_54 ((sd_ifle hC (tgt := 69) (by decide) dX7_among_55 (s_Mo_among_69 hC hN) ((sd_al_n hC rfl dX7_among_58 ((sd_il_n hC rfl dX7_among_59 ((sd_il_n hC rfl dX7_among_60 ((sd_cV hC c_Mo_passes yv_Mo_passes (ci := 8) rfl rfl ml_Mo_98 (by decide) (by decide) dX7_among_61 ((sd_ifeq hC (tgt := 69) (by decide) dX7_among_64 (s_Mo_among_69 hC hN) (s_Mo_among_67 hC hN))))))))))))))))))))))))))))))))
def B_Mo_among_9 (mc ms : Nat) (Rt : Option zAV → zMp → Prop) (g : Nat → zKT) : zKT :=
  (i_ic 1200 (i_il 1 (i_iadd (i_is 3 (i_al 0 (i_gf 8 8 (i_il 3 (i_ial (i_ic 3 (i_iceq (B_Mo_among_39 mc ms Rt g) (i_al 0 (i_gf 8 8 (i_il 3 (i_ic 3 (i_ias (i_al 0 (i_gf 8 9 (i_il 3 (i_ic 0 (i_ias (B_Mo_among_39 mc ms Rt g)))))))))))))))))))))
set_option maxRecDepth 20000 in
theorem s_Mo_among_9 {X : zMa} {mc ms : Nat} {Rt : Option zAV → zMp → Prop} (hC : zCx X RX7 cX7_among 1 25 mc ms (some .boolean) false Rt) (hN : zNL X = 5) : zLe (B_Mo_among_9 mc ms Rt (zG X)) (zG X 9) :=
  (sd_sipush hC (by decide) dX7_among_9 ((sd_il_n hC rfl dX7_among_12 ((sd_iadd hC dX7_among_13 ((sd_is_n hC rfl (by rw [hN]; decide) dX7_among_14 ((sd_al_n hC rfl dX7_among_15 ((sd_gf hC (ci := 8) (fk := 8) rfl wi_Mo (by decide) fl_Mo_23 (Or.inl rfl) dX7_among_16 ((sd_il_n hC rfl dX7_among_19 ((sd_ial hC dX7_among_20 ((sd_iconst hC (by decide) dX7_among_21 ((sd_iceq hC (tgt := 39) (by decide) dX7_among_22 (s_Mo_among_39 hC hN) ((sd_al_n hC rfl dX7_among_25 ((sd_gf hC (ci := 8) (fk := 8) rfl wi_Mo (by decide) fl_Mo_23 (Or.inl rfl) dX7_among_26 ((sd_il_n hC rfl dX7_among_29 ((sd_iconst hC (by decide) dX7_among_30 ((sd_ias hC dX7_among_31 ((sd_al_n hC rfl dX7_among_32 ((sd_gf hC (ci := 8) (fk := 9) rfl wi_Mo (by decide) fl_Mo_26 (Or.inl rfl) dX7_among_33 ((sd_il_n hC rfl dX7_among_36 ((sd_iconst hC (by decide) dX7_among_37 ((sd_ias hC dX7_among_38 (s_Mo_among_39 hC hN))))))))))))))))))))))))))))))))))))))))
def B_Mo_among_0 (mc ms : Nat) (Rt : Option zAV → zMp → Prop) (g : Nat → zKT) : zKT :=
  (i_il 1 (i_call mc ms 1 T_Mo_isField co_Mo_isField (i_ifne (B_Mo_among_9 mc ms Rt g) (i_ic 0 (i_zret mc ms Rt)))))
set_option maxRecDepth 20000 in
theorem s_Mo_among_0 {X : zMa} {mc ms : Nat} {Rt : Option zAV → zMp → Prop} (hC : zCx X RX7 cX7_among 1 25 mc ms (some .boolean) false Rt) (hN : zNL X = 5) : zLe (B_Mo_among_0 mc ms Rt (zG X)) (zG X 0) :=
  (sd_il_n hC rfl dX7_among_0 ((sd_cS hC c_Mo_isField ys_Mo_isField ml_Mo_167 (by decide) (by decide) dX7_among_1 ((sd_ifne hC (tgt := 9) (by decide) dX7_among_4 (s_Mo_among_9 hC hN) ((sd_iconst hC (by decide) dX7_among_7 ((sd_zret hC dX7_among_8)))))))))
theorem c_Mo_among (l : Launch) : zCT l yX7_among cX7_among 5 (some .boolean) 1 25 T_Mo_among co_Mo_among := by
  intro As M Rt hT
  obtain ⟨y, f, v, rfl, rfl, hJ, hR0, hR1, hR2⟩ := hT
  refine zMet_of false (by decide +kernel) (fun h => by first | rfl | cases h) (Nat.le_of_ble_eq_true rfl) (fun X hN hC => ?_)
  show zG X 0 [some (.inr (30, 0, 0)), some (.inl (.int f)), some (.inl (.int v)), none, none] [] (mp y) 0 0
  refine s_Mo_among_0 hC hN _ _ _ _ _ ?_
  simp only [B_Mo_among_0, B_Mo_among_39, B_Mo_among_67, B_Mo_among_69, B_Mo_among_77, B_Mo_among_129, co_Mo_among, co_Mo_isField, co_Mo_passes, i_ic, i_lc, i_nul, i_il, i_ll, i_al, i_is, i_as, i_ls, i_inc, i_iadd, i_isub, i_imul, i_iand, i_ior, i_ixor, i_idiv, i_irem, i_ishl, i_ishr, i_ladd, i_lsub, i_land, i_lor, i_i2l, i_lushr, i_lshl, i_lshr, i_lcmp, i_dup, i_pop, i_dx1, i_dup2, i_ifeq, i_ifne, i_iflt, i_ifge, i_ifgt, i_ifle, i_iceq, i_icne, i_iclt, i_icge, i_icgt, i_icle, i_ifn, i_gf, i_pf, i_ial, i_bal, i_lal, i_aal, i_ias, i_las, i_bas, i_aas, i_alen, i_newa, i_new, i_anew, i_cast, i_oi, i_call, i_callV, i_callV2, i_callI, i_iret, i_zret, i_lret, i_vret, i_aret, i_mmx, i_mmn, i_gsE, i_aceq, i_no, i_acq, i_sw, zsw, zlg, zls, znl, zfg, zcs, zsp, zrc, zisn, zft, zc1, zto, Value.category, List.set_cons_zero, List.set_cons_succ, List.length_cons, List.length_nil, Option.toList, List.append, List.nil_append, List.cons_append, true_and, and_true, Nat.add_zero, Nat.zero_le, Nat.zero_add, Nat.le_refl, Nat.reduceAdd, Nat.reduceLeDiff, co0, z0, zn_0, zn_1, zn_2, zn_3, zn_4, zn_5, zn_8, zn_12, zn_24, zn_121, zn_144, zn_256, zn_300, zn_600, zn_720, zn_1204, zn_1280, zn_2400, zn_4816, zn_14400, zn_90000, q_main, m_main]
  refine ⟨f, rfl, ?_⟩
  simp only [B_Mo_among_0, B_Mo_among_39, B_Mo_among_67, B_Mo_among_69, B_Mo_among_77, B_Mo_among_129, co_Mo_among, co_Mo_isField, co_Mo_passes, i_ic, i_lc, i_nul, i_il, i_ll, i_al, i_is, i_as, i_ls, i_inc, i_iadd, i_isub, i_imul, i_iand, i_ior, i_ixor, i_idiv, i_irem, i_ishl, i_ishr, i_ladd, i_lsub, i_land, i_lor, i_i2l, i_lushr, i_lshl, i_lshr, i_lcmp, i_dup, i_pop, i_dx1, i_dup2, i_ifeq, i_ifne, i_iflt, i_ifge, i_ifgt, i_ifle, i_iceq, i_icne, i_iclt, i_icge, i_icgt, i_icle, i_ifn, i_gf, i_pf, i_ial, i_bal, i_lal, i_aal, i_ias, i_las, i_bas, i_aas, i_alen, i_newa, i_new, i_anew, i_cast, i_oi, i_call, i_callV, i_callV2, i_callI, i_iret, i_zret, i_lret, i_vret, i_aret, i_mmx, i_mmn, i_gsE, i_aceq, i_no, i_acq, i_sw, zsw, zlg, zls, znl, zfg, zcs, zsp, zrc, zisn, zft, zc1, zto, Value.category, List.set_cons_zero, List.set_cons_succ, List.length_cons, List.length_nil, Option.toList, List.append, List.nil_append, List.cons_append, true_and, and_true, Nat.add_zero, Nat.zero_le, Nat.zero_add, Nat.le_refl, Nat.reduceAdd, Nat.reduceLeDiff, co0, z0, zn_0, zn_1, zn_2, zn_3, zn_4, zn_5, zn_8, zn_12, zn_24, zn_121, zn_144, zn_256, zn_300, zn_600, zn_720, zn_1204, zn_1280, zn_2400, zn_4816, zn_14400, zn_90000, q_main, m_main]
  refine ⟨fun h => ?_, fun h => ⟨by decide, hR0 (zb_0.mp h)⟩⟩
  obtain ⟨i, hi, rfl⟩ := isn_t (by decide) (zb_n0 h)
  have hts := hJ.ts (1200 + i) (by omega)
  -- a number is put in
  have fin : ∀ (z : zMS) (n m : Nat), y_mn z (1200 + i) = m → m < 4 → n < 4 → Rt (some (.inl (.int 1))) (mp (v_mn (v_nu z (upd (y_nu z) (4 * (1200 + i) + n) v)) (va_up (y_mn z) (1200 + i) (m + 1)))) → B_Mo_among_129 0 0 Rt (zG X) [some (.inr (30, 0, 0)), some (.inl (.int (nI i))), some (.inl (.int v)), some (.inl (.int (nI (1200 + i)))), some (.inl (.int (nI n)))] [] (mp z) 0 0 := by
    intro z n m hm hm4 hn hr
    simp only [B_Mo_among_0, B_Mo_among_9, B_Mo_among_39, B_Mo_among_67, B_Mo_among_69, B_Mo_among_77, B_Mo_among_129, co_Mo_among, co_Mo_isField, co_Mo_passes, i_ic, i_lc, i_nul, i_il, i_ll, i_al, i_is, i_as, i_ls, i_inc, i_iadd, i_isub, i_imul, i_iand, i_ior, i_ixor, i_idiv, i_irem, i_ishl, i_ishr, i_ladd, i_lsub, i_land, i_lor, i_i2l, i_lushr, i_lshl, i_lshr, i_lcmp, i_dup, i_pop, i_dx1, i_dup2, i_ifeq, i_ifne, i_iflt, i_ifge, i_ifgt, i_ifle, i_iceq, i_icne, i_iclt, i_icge, i_icgt, i_icle, i_ifn, i_gf, i_pf, i_ial, i_bal, i_lal, i_aal, i_ias, i_las, i_bas, i_aas, i_alen, i_newa, i_new, i_anew, i_cast, i_oi, i_call, i_callV, i_callV2, i_callI, i_iret, i_zret, i_lret, i_vret, i_aret, i_mmx, i_mmn, i_gsE, i_aceq, i_no, i_acq, i_sw, zsw, zlg, zls, znl, zfg, zcs, zsp, zrc, zisn, zft, zc1, zto, Value.category, List.set_cons_zero, List.set_cons_succ, List.length_cons, List.length_nil, Option.toList, List.append, List.nil_append, List.cons_append, true_and, and_true, Nat.add_zero, Nat.zero_le, Nat.zero_add, Nat.le_refl, Nat.reduceAdd, Nat.reduceLeDiff, co0, z0, zn_0, zn_1, zn_2, zn_3, zn_4, zn_5, zn_8, zn_12, zn_24, zn_121, zn_144, zn_256, zn_300, zn_600, zn_720, zn_1204, zn_1280, zn_2400, zn_4816, zn_14400, zn_90000, q_main, m_main, q_nu, ar_4, ar_5, ar_12, ar_300, ar_600, ar_1200, ar_10, nI_add, ar_1, ar_2, ar_3, ar_2m]
    rw [nI_clamp (by omega), mu_nu]
    refine ⟨m_k (by decide), vp_in_nI (by omega) (by decide), ?_⟩
    have e : y_mn (v_nu z (upd (y_nu z) (4 * (1200 + i) + n) v)) = y_mn z := rfl
    simp only [i_ic, i_lc, i_nul, i_il, i_ll, i_al, i_is, i_as, i_ls, i_inc, i_iadd, i_isub, i_imul, i_iand, i_ior, i_ixor, i_idiv, i_irem, i_ishl, i_ishr, i_ladd, i_lsub, i_land, i_lor, i_i2l, i_lushr, i_lshl, i_lshr, i_lcmp, i_dup, i_pop, i_dx1, i_dup2, i_ifeq, i_ifne, i_iflt, i_ifge, i_ifgt, i_ifle, i_iceq, i_icne, i_iclt, i_icge, i_icgt, i_icle, i_ifn, i_gf, i_pf, i_ial, i_bal, i_lal, i_aal, i_ias, i_las, i_bas, i_aas, i_alen, i_newa, i_new, i_anew, i_cast, i_oi, i_call, i_callV, i_callV2, i_callI, i_iret, i_zret, i_lret, i_vret, i_aret, i_mmx, i_mmn, i_gsE, i_aceq, i_no, i_acq, i_sw, zsw, zlg, zls, znl, zfg, zcs, zsp, zrc, zisn, zft, zc1, zto, Value.category, List.set_cons_zero, List.set_cons_succ, List.length_cons, List.length_nil, Option.toList, List.append, List.nil_append, List.cons_append, true_and, and_true, Nat.add_zero, Nat.zero_le, Nat.zero_add, Nat.le_refl, Nat.reduceAdd, Nat.reduceLeDiff, co0, z0, zn_0, zn_1, zn_2, zn_3, zn_4, zn_5, zn_8, zn_12, zn_24, zn_121, zn_144, zn_256, zn_300, zn_600, zn_720, zn_1204, zn_1280, zn_2400, zn_4816, zn_14400, zn_90000, q_main, m_main, q_mn, ar_4, ar_5, ar_12, ar_300, ar_600, ar_1200, ar_10, nI_add, ar_1, ar_2, ar_3, ar_2m]
    rw [nI_clamp (by omega), e, hm, upd_nt, mu_mn]
    exact ⟨vp_in_nI (by omega) (by decide), m_k (by decide), vp_in_nI (by omega) (by decide), by decide, hr⟩
  have loop : ∀ (n : Nat) (z : zMS) (m : Nat), y_mn z (1200 + i) = m → m < 4 → n ≤ m → Rt (some (.inl (.int 1))) (mp (v_mn (v_nu z (am_ins v (4 * (1200 + i)) n (y_nu z))) (va_up (y_mn z) (1200 + i) (m + 1)))) → zG X 77 [some (.inr (30, 0, 0)), some (.inl (.int (nI i))), some (.inl (.int v)), some (.inl (.int (nI (1200 + i)))), some (.inl (.int (nI n)))] [] (mp z) 0 0 := by
    intro n
    induction n with
    | zero =>
      intro z m hm hm4 hn hr
      refine s_Mo_among_77 hC hN _ _ _ _ _ ?_
      simp only [B_Mo_among_0, B_Mo_among_9, B_Mo_among_39, B_Mo_among_67, B_Mo_among_69, B_Mo_among_77, co_Mo_among, co_Mo_isField, co_Mo_passes, i_ic, i_lc, i_nul, i_il, i_ll, i_al, i_is, i_as, i_ls, i_inc, i_iadd, i_isub, i_imul, i_iand, i_ior, i_ixor, i_idiv, i_irem, i_ishl, i_ishr, i_ladd, i_lsub, i_land, i_lor, i_i2l, i_lushr, i_lshl, i_lshr, i_lcmp, i_dup, i_pop, i_dx1, i_dup2, i_ifeq, i_ifne, i_iflt, i_ifge, i_ifgt, i_ifle, i_iceq, i_icne, i_iclt, i_icge, i_icgt, i_icle, i_ifn, i_gf, i_pf, i_ial, i_bal, i_lal, i_aal, i_ias, i_las, i_bas, i_aas, i_alen, i_newa, i_new, i_anew, i_cast, i_oi, i_call, i_callV, i_callV2, i_callI, i_iret, i_zret, i_lret, i_vret, i_aret, i_mmx, i_mmn, i_gsE, i_aceq, i_no, i_acq, i_sw, zsw, zlg, zls, znl, zfg, zcs, zsp, zrc, zisn, zft, zc1, zto, Value.category, List.set_cons_zero, List.set_cons_succ, List.length_cons, List.length_nil, Option.toList, List.append, List.nil_append, List.cons_append, true_and, and_true, Nat.add_zero, Nat.zero_le, Nat.zero_add, Nat.le_refl, Nat.reduceAdd, Nat.reduceLeDiff, co0, z0, zn_0, zn_1, zn_2, zn_3, zn_4, zn_5, zn_8, zn_12, zn_24, zn_121, zn_144, zn_256, zn_300, zn_600, zn_720, zn_1204, zn_1280, zn_2400, zn_4816, zn_14400, zn_90000, q_main, m_main, q_nu, ar_4, ar_5, ar_12, ar_300, ar_600, ar_1200, ar_10, nI_add, ar_1, ar_2, ar_3, ar_2m]
      exact ⟨fun _ => fin z 0 m hm hm4 (by decide) hr, fun h => absurd (by decide) h⟩
    | succ n ih =>
      intro z m hm hm4 hn hr
      refine s_Mo_among_77 hC hN _ _ _ _ _ ?_
      simp only [B_Mo_among_0, B_Mo_among_9, B_Mo_among_39, B_Mo_among_67, B_Mo_among_69, B_Mo_among_77, co_Mo_among, co_Mo_isField, co_Mo_passes, i_ic, i_lc, i_nul, i_il, i_ll, i_al, i_is, i_as, i_ls, i_inc, i_iadd, i_isub, i_imul, i_iand, i_ior, i_ixor, i_idiv, i_irem, i_ishl, i_ishr, i_ladd, i_lsub, i_land, i_lor, i_i2l, i_lushr, i_lshl, i_lshr, i_lcmp, i_dup, i_pop, i_dx1, i_dup2, i_ifeq, i_ifne, i_iflt, i_ifge, i_ifgt, i_ifle, i_iceq, i_icne, i_iclt, i_icge, i_icgt, i_icle, i_ifn, i_gf, i_pf, i_ial, i_bal, i_lal, i_aal, i_ias, i_las, i_bas, i_aas, i_alen, i_newa, i_new, i_anew, i_cast, i_oi, i_call, i_callV, i_callV2, i_callI, i_iret, i_zret, i_lret, i_vret, i_aret, i_mmx, i_mmn, i_gsE, i_aceq, i_no, i_acq, i_sw, zsw, zlg, zls, znl, zfg, zcs, zsp, zrc, zisn, zft, zc1, zto, Value.category, List.set_cons_zero, List.set_cons_succ, List.length_cons, List.length_nil, Option.toList, List.append, List.nil_append, List.cons_append, true_and, and_true, Nat.add_zero, Nat.zero_le, Nat.zero_add, Nat.le_refl, Nat.reduceAdd, Nat.reduceLeDiff, co0, z0, zn_0, zn_1, zn_2, zn_3, zn_4, zn_5, zn_8, zn_12, zn_24, zn_121, zn_144, zn_256, zn_300, zn_600, zn_720, zn_1204, zn_1280, zn_2400, zn_4816, zn_14400, zn_90000, q_main, m_main, q_nu, ar_4, ar_5, ar_12, ar_300, ar_600, ar_1200, ar_10, nI_add, ar_1, ar_2, ar_3, ar_2m]
      rw [show 4 * (1200 + i) + (n + 1) = 4 * (1200 + i) + n + 1 from rfl, nI_pred, nI_clamp (by omega), nI_clamp (by omega)]
      have em : nI (n + 1) + -1 = nI n := by rw [← Int32.sub_eq_add_neg, nI_pred]
      rw [em, mu_nu]
      simp only [am_ins] at hr
      refine ⟨fun h => absurd ((nI_leI (a := n + 1) (b := 0) (by omega) (by decide)).mp h) (by omega), fun _ => ⟨vp_in_nI (by omega) (by decide), fun h => ?_, fun h => ⟨vp_in_nI (by omega) (by decide), m_k (by decide), vp_in_nI (by omega) (by decide), ?_⟩⟩⟩
      · rw [if_neg (fun q => absurd q (Int32.not_lt.mpr h))] at hr
        exact fin z (n + 1) m hm hm4 (by omega) hr
      · rw [if_pos (Int32.not_le.mp h)] at hr
        exact ih _ m hm hm4 (by omega) hr
  -- is there room, and is the number new
  have mid : ∀ z : zMS, Jv z → y_kd z (1200 + i) = 3 → (ft_can 3 (y_mn z (1200 + i)) (y_g z (1200 + i)) v = false → Rt (some (.inl (.int 0))) (mp z)) → (ft_can 3 (y_mn z (1200 + i)) (y_g z (1200 + i)) v = true → Rt (some (.inl (.int 1))) (mp (v_mn (v_nu z (am_ins v (4 * (1200 + i)) (y_mn z (1200 + i)) (y_nu z))) (va_up (y_mn z) (1200 + i) (y_mn z (1200 + i) + 1))))) → B_Mo_among_39 0 0 Rt (zG X) [some (.inr (30, 0, 0)), some (.inl (.int (nI i))), some (.inl (.int v)), some (.inl (.int (nI (1200 + i)))), none] [] (mp z) 0 0 := by
    intro z hJz h3 hr0 hr1
    have hm4 := (hJz.ts (1200 + i) (by omega)).2
    have vi : vp_in (nI (1200 + i)) 1204 := vp_in_nI (by omega) (by decide)
    have ep : y_pass z (1200 + i) v = ft_has (y_mn z (1200 + i)) (y_g z (1200 + i)) v := by
      unfold y_pass ft_pass
      rw [h3, if_neg (by decide), if_neg (by decide), if_pos rfl]
    simp only [B_Mo_among_0, B_Mo_among_9, B_Mo_among_39, B_Mo_among_67, B_Mo_among_69, B_Mo_among_77, co_Mo_among, co_Mo_isField, co_Mo_passes, i_ic, i_lc, i_nul, i_il, i_ll, i_al, i_is, i_as, i_ls, i_inc, i_iadd, i_isub, i_imul, i_iand, i_ior, i_ixor, i_idiv, i_irem, i_ishl, i_ishr, i_ladd, i_lsub, i_land, i_lor, i_i2l, i_lushr, i_lshl, i_lshr, i_lcmp, i_dup, i_pop, i_dx1, i_dup2, i_ifeq, i_ifne, i_iflt, i_ifge, i_ifgt, i_ifle, i_iceq, i_icne, i_iclt, i_icge, i_icgt, i_icle, i_ifn, i_gf, i_pf, i_ial, i_bal, i_lal, i_aal, i_ias, i_las, i_bas, i_aas, i_alen, i_newa, i_new, i_anew, i_cast, i_oi, i_call, i_callV, i_callV2, i_callI, i_iret, i_zret, i_lret, i_vret, i_aret, i_mmx, i_mmn, i_gsE, i_aceq, i_no, i_acq, i_sw, zsw, zlg, zls, znl, zfg, zcs, zsp, zrc, zisn, zft, zc1, zto, Value.category, List.set_cons_zero, List.set_cons_succ, List.length_cons, List.length_nil, Option.toList, List.append, List.nil_append, List.cons_append, true_and, and_true, Nat.add_zero, Nat.zero_le, Nat.zero_add, Nat.le_refl, Nat.reduceAdd, Nat.reduceLeDiff, co0, z0, zn_0, zn_1, zn_2, zn_3, zn_4, zn_5, zn_8, zn_12, zn_24, zn_121, zn_144, zn_256, zn_300, zn_600, zn_720, zn_1204, zn_1280, zn_2400, zn_4816, zn_14400, zn_90000, q_main, m_main, q_mn, ar_4, ar_5, ar_12, ar_300, ar_600, ar_1200, ar_10, nI_add, ar_1, ar_2, ar_3, ar_2m]
    rw [nI_clamp (by omega)]
    refine ⟨vi, fun h4 => ⟨by decide, hr0 (zd_f (fun q => q.elim (fun w => w rfl) (fun w => by have := (zK (K := 4) (by decide) (n := y_mn z (1200 + i)) (by omega)).2.2.1.mp h4; omega)))⟩, fun h4 => ⟨vi, fun h5 => ?_, fun h5 => ⟨z, 1200 + i, v, rfl, rfl, by omega, hJz.ts _ (by omega), ?_⟩⟩⟩
    · have hm0 : y_mn z (1200 + i) = 0 := by have := (nI_leI (a := y_mn z (1200 + i)) (b := 0) (by omega) (by decide)).mp h5; omega
      refine ⟨vi, loop _ z _ rfl (by omega) (Nat.le_refl _) (hr1 (zd_t (Or.inr ⟨by omega, ?_⟩)))⟩
      rw [hm0, ft_has]
      exact zd_f (fun ⟨j, hj, _⟩ => Nat.not_lt_zero j hj)
    · simp only [B_Mo_among_0, B_Mo_among_9, B_Mo_among_39, B_Mo_among_67, B_Mo_among_69, B_Mo_among_77, co_Mo_among, co_Mo_isField, co_Mo_passes, i_ic, i_lc, i_nul, i_il, i_ll, i_al, i_is, i_as, i_ls, i_inc, i_iadd, i_isub, i_imul, i_iand, i_ior, i_ixor, i_idiv, i_irem, i_ishl, i_ishr, i_ladd, i_lsub, i_land, i_lor, i_i2l, i_lushr, i_lshl, i_lshr, i_lcmp, i_dup, i_pop, i_dx1, i_dup2, i_ifeq, i_ifne, i_iflt, i_ifge, i_ifgt, i_ifle, i_iceq, i_icne, i_iclt, i_icge, i_icgt, i_icle, i_ifn, i_gf, i_pf, i_ial, i_bal, i_lal, i_aal, i_ias, i_las, i_bas, i_aas, i_alen, i_newa, i_new, i_anew, i_cast, i_oi, i_call, i_callV, i_callV2, i_callI, i_iret, i_zret, i_lret, i_vret, i_aret, i_mmx, i_mmn, i_gsE, i_aceq, i_no, i_acq, i_sw, zsw, zlg, zls, znl, zfg, zcs, zsp, zrc, zisn, zft, zc1, zto, Value.category, List.set_cons_zero, List.set_cons_succ, List.length_cons, List.length_nil, Option.toList, List.append, List.nil_append, List.cons_append, true_and, and_true, Nat.add_zero, Nat.zero_le, Nat.zero_add, Nat.le_refl, Nat.reduceAdd, Nat.reduceLeDiff, co0, z0, zn_0, zn_1, zn_2, zn_3, zn_4, zn_5, zn_8, zn_12, zn_24, zn_121, zn_144, zn_256, zn_300, zn_600, zn_720, zn_1204, zn_1280, zn_2400, zn_4816, zn_14400, zn_90000, q_main, m_main, q_mn, ar_4, ar_5, ar_12, ar_300, ar_600, ar_1200, ar_10, nI_add, ar_1, ar_2, ar_3, ar_2m]
      rw [nI_clamp (by omega), ep]
      have hm : y_mn z (1200 + i) < 4 := by have : y_mn z (1200 + i) ≠ 4 := fun q => h4 (by rw [q]; rfl); omega
      exact ⟨fun h6 => ⟨vi, loop _ z _ rfl hm (Nat.le_refl _) (hr1 (zd_t (Or.inr ⟨hm, zb_0.mp h6⟩)))⟩, fun h6 => ⟨by decide, hr0 (zd_f (fun q => q.elim (fun w => w rfl) (fun w => by rw [zb_n0 h6] at w; cases w.2)))⟩⟩
  have r1 := hR1 i hi rfl
  have r2 := hR2 i hi rfl
  simp only [B_Mo_among_0, B_Mo_among_9, B_Mo_among_67, B_Mo_among_69, B_Mo_among_77, B_Mo_among_129, co_Mo_among, co_Mo_isField, co_Mo_passes, i_ic, i_lc, i_nul, i_il, i_ll, i_al, i_is, i_as, i_ls, i_inc, i_iadd, i_isub, i_imul, i_iand, i_ior, i_ixor, i_idiv, i_irem, i_ishl, i_ishr, i_ladd, i_lsub, i_land, i_lor, i_i2l, i_lushr, i_lshl, i_lshr, i_lcmp, i_dup, i_pop, i_dx1, i_dup2, i_ifeq, i_ifne, i_iflt, i_ifge, i_ifgt, i_ifle, i_iceq, i_icne, i_iclt, i_icge, i_icgt, i_icle, i_ifn, i_gf, i_pf, i_ial, i_bal, i_lal, i_aal, i_ias, i_las, i_bas, i_aas, i_alen, i_newa, i_new, i_anew, i_cast, i_oi, i_call, i_callV, i_callV2, i_callI, i_iret, i_zret, i_lret, i_vret, i_aret, i_mmx, i_mmn, i_gsE, i_aceq, i_no, i_acq, i_sw, zsw, zlg, zls, znl, zfg, zcs, zsp, zrc, zisn, zft, zc1, zto, Value.category, List.set_cons_zero, List.set_cons_succ, List.length_cons, List.length_nil, Option.toList, List.append, List.nil_append, List.cons_append, true_and, and_true, Nat.add_zero, Nat.zero_le, Nat.zero_add, Nat.le_refl, Nat.reduceAdd, Nat.reduceLeDiff, co0, z0, zn_0, zn_1, zn_2, zn_3, zn_4, zn_5, zn_8, zn_12, zn_24, zn_121, zn_144, zn_256, zn_300, zn_600, zn_720, zn_1204, zn_1280, zn_2400, zn_4816, zn_14400, zn_90000, q_main, m_main, q_kd, q_mn, ar_4, ar_5, ar_12, ar_300, ar_600, ar_1200, ar_10, nI_add, ar_1, ar_2, ar_3, ar_2m]
  rw [nI_clamp (by omega)]
  refine ⟨vp_in_nI (by omega) (by decide), fun h3 => ?_, fun h3 => ⟨m_k (by decide), vp_in_nI (by omega) (by decide), ?_⟩⟩
  · rw [h3] at r1 r2
    simp only [am_y, am_1, amk_n, h3, if_true] at r2
    exact mid y hJ h3 r1 r2
  · rw [mu_kd]
    simp only [i_ic, i_lc, i_nul, i_il, i_ll, i_al, i_is, i_as, i_ls, i_inc, i_iadd, i_isub, i_imul, i_iand, i_ior, i_ixor, i_idiv, i_irem, i_ishl, i_ishr, i_ladd, i_lsub, i_land, i_lor, i_i2l, i_lushr, i_lshl, i_lshr, i_lcmp, i_dup, i_pop, i_dx1, i_dup2, i_ifeq, i_ifne, i_iflt, i_ifge, i_ifgt, i_ifle, i_iceq, i_icne, i_iclt, i_icge, i_icgt, i_icle, i_ifn, i_gf, i_pf, i_ial, i_bal, i_lal, i_aal, i_ias, i_las, i_bas, i_aas, i_alen, i_newa, i_new, i_anew, i_cast, i_oi, i_call, i_callV, i_callV2, i_callI, i_iret, i_zret, i_lret, i_vret, i_aret, i_mmx, i_mmn, i_gsE, i_aceq, i_no, i_acq, i_sw, zsw, zlg, zls, znl, zfg, zcs, zsp, zrc, zisn, zft, zc1, zto, Value.category, List.set_cons_zero, List.set_cons_succ, List.length_cons, List.length_nil, Option.toList, List.append, List.nil_append, List.cons_append, true_and, and_true, Nat.add_zero, Nat.zero_le, Nat.zero_add, Nat.le_refl, Nat.reduceAdd, Nat.reduceLeDiff, co0, z0, zn_0, zn_1, zn_2, zn_3, zn_4, zn_5, zn_8, zn_12, zn_24, zn_121, zn_144, zn_256, zn_300, zn_600, zn_720, zn_1204, zn_1280, zn_2400, zn_4816, zn_14400, zn_90000, q_main, m_main, q_mn]
    have e0 : (0 : Int32) = nI 0 := rfl
    rw [nI_clamp (by omega), e0, upd_nt, mu_mn]
    refine ⟨m_k (by decide), vp_in_nI (by omega) (by decide), ?_⟩
    have r2' := r2 (zd_t (Or.inl h3))
    simp only [am_y, am_1, amk_n, h3, if_false] at r2'
    refine mid (v_mn (v_kd y (upd (y_kd y) (1200 + i) 3)) (va_up (y_mn y) (1200 + i) 0)) ?_ (upd_s' _ _ _) ?_ ?_
    · exact Jv_ts hJ (Or.inr (Or.inr (Or.inr rfl))) (by decide)
    · intro hf
      refine absurd (zd_t (Or.inr ⟨?_, ?_⟩)) (zd_n.mp hf |> fun q => fun w => q (zd_i.mp w))
      · show va_up (y_mn y) (1200 + i) 0 (1200 + i) < 4
        rw [va_ups']; decide
      · show ft_has (va_up (y_mn y) (1200 + i) 0 (1200 + i)) _ v = false
        rw [va_ups', ft_has]
        exact zd_f (fun ⟨j, hj, _⟩ => Nat.not_lt_zero j hj)
    · intro _
      have e : y_mn (v_mn (v_kd y (upd (y_kd y) (1200 + i) 3)) (va_up (y_mn y) (1200 + i) 0)) (1200 + i) = 0 := va_ups' _ _ _
      rw [e]
      exact r2'
/-! wish -/
/-- n of the values from c on are written from b on -/
def cpy {α : Type} (f : Nat → α) (b c n : Nat) : Nat → α := fun j => if b ≤ j ∧ j < b + n then f (c + (j - b)) else f j
theorem cpy_u {α : Type} (f : Nat → α) {b c n : Nat} (h : b + n ≤ c) : va_up (cpy f b c n) (b + n) (f (c + n)) = cpy f b c (n + 1) := by
  funext j
  simp only [va_up, cpy]
  by_cases e : j = b + n
  · rw [if_pos e, if_pos (by omega), e, Nat.add_sub_cancel_left]
  · rw [if_neg e]
    by_cases q : b ≤ j ∧ j < b + n
    · rw [if_pos q, if_pos (by omega)]
    · rw [if_neg q, if_neg (by omega)]
theorem cpy_o {α : Type} (f : Nat → α) {b c n j : Nat} (h : b + n ≤ j) : cpy f b c n j = f j := if_neg (by omega)
theorem cpy_0 {α : Type} (f : Nat → α) (b c : Nat) : cpy f b c 0 = f := by funext j; exact if_neg (by omega)
def wy_0 (y : zMS) (r : Nat) : zMS := v_al (v_ro (v_nw y (y_nw y + 1)) (va_up (y_ro y) (y_nw y) r)) (va_up (y_al y) (y_nw y) true)
/-- n tests and k numbers are copied -/
def wy_k (z : zMS) (w n k : Nat) : zMS := v_nu (v_mn (v_kd z (cpy (y_kd z) (4 * w) 1200 n)) (cpy (y_mn z) (4 * w) 1200 n)) (cpy (y_nu z) (16 * w) 4800 k)
noncomputable def cv_n (z : zMS) (w : Nat) : Nat → Nat → Bool
  | 0 => y_cv z
  | n + 1 => va_up (va_up (cv_n z w n) (300 * n + w) (y_cvd z n w)) (300 * w + n) (y_cvd z w n)
noncomputable def wy_c (z : zMS) (w : Nat) : zMS := v_cv z (cv_n z w (w + 1))
noncomputable def wy (y : zMS) (r : Nat) (lo hi : Nat → Int64) : zMS := un_x (ys (wy_c (wy_k (wy_0 y r) (y_nw y) 4 16) (y_nw y)) lo hi) 4
theorem Jv_wy0 {y : zMS} {r : Nat} (h : Jv y) (hw : y_nw y < 300) (hr : r < y_nr y) : Jv (wy_0 y r) := by
  refine ⟨h.dk, ⟨h.lim.1, hw, h.lim.2.2⟩, h.cp, h.rdr, fun w hw' => ?_, h.ts, h.ms, h.gb, h.hm⟩
  have hw2 : w < y_nw y + 1 := hw'
  show va_up (y_ro y) (y_nw y) r w < y_nr y
  by_cases e : w = y_nw y
  · rw [e, va_ups']; exact hr
  · rw [va_upo' _ _ e]; exact h.ro w (by omega)
theorem Jv_wyk {z : zMS} {w n k : Nat} (h : Jv z) (hn : n ≤ 4) : Jv (wy_k z w n k) := by
  refine ⟨h.dk, h.lim, h.cp, h.rdr, h.ro, fun t ht => ?_, h.ms, h.gb, h.hm⟩
  show (cpy (y_kd z) (4 * w) 1200 n t = 0 ∨ cpy (y_kd z) (4 * w) 1200 n t = 1 ∨ cpy (y_kd z) (4 * w) 1200 n t = 2 ∨ cpy (y_kd z) (4 * w) 1200 n t = 3) ∧ cpy (y_mn z) (4 * w) 1200 n t ≤ 4
  simp only [cpy]
  by_cases q : 4 * w ≤ t ∧ t < 4 * w + n
  · rw [if_pos q, if_pos q]; exact h.ts _ (by omega)
  · rw [if_neg q, if_neg q]; exact h.ts t ht
theorem Jv_cv {z : zMS} {f : Nat → Bool} (h : Jv z) : Jv (v_cv z f) := h
theorem Jv_ys {z : zMS} {a b : Nat → Int64} (h : Jv z) : Jv (ys z a b) := h
theorem Jv_un {z : zMS} (h : Jv z) : ∀ n, Jv (un_x z n)
  | 0 => h
  | n + 1 => Jv_ts (Jv_un h n) (Or.inl rfl) (by decide)
def T_Mo_wish (As : List zAV) (M : zMp) (Rt : Option zAV → zMp → Prop) (c1 c2 : Nat) : Prop := ∃ y d, As = [.inr (30, 0, 0), .inl (.int d)] ∧ M = mp y ∧ Jv y ∧ (isn (y_nr y) d = false → Rt (some (.inl (.int (-2)))) M) ∧ (isn (y_nr y) d = true → y_nw y = 300 → Rt (some (.inl (.int (-8)))) M) ∧ (∀ r, r < y_nr y → d = nI r → y_nw y < 300 → ∀ lo hi, tl_ok (wy y r lo hi) ∧ tl_c y (wy y r lo hi) c1 c2 ∧ Rt (some (.inl (.int (nI (y_nw y))))) (mp (tl (wy y r lo hi))))
theorem dX7_wish_0 : decode cX7_wish 0 = .ok (.aload_n 0, 1) := by decide +kernel
theorem dX7_wish_1 : decode cX7_wish 1 = .ok (.iload_n 1, 1) := by decide +kernel
theorem dX7_wish_2 : decode cX7_wish 2 = .ok (.invokevirtual 164, 3) := by decide +kernel
theorem dX7_wish_5 : decode cX7_wish 5 = .ok (.ifCond .ne 6, 3) := by decide +kernel
theorem dX7_wish_8 : decode cX7_wish 8 = .ok (.bipush (-2), 2) := by decide +kernel
theorem dX7_wish_10 : decode cX7_wish 10 = .ok (.ireturn, 1) := by decide +kernel
theorem dX7_wish_11 : decode cX7_wish 11 = .ok (.aload_n 0, 1) := by decide +kernel
theorem dX7_wish_12 : decode cX7_wish 12 = .ok (.getfield 95, 3) := by decide +kernel
theorem dX7_wish_15 : decode cX7_wish 15 = .ok (.sipush 300, 3) := by decide +kernel
theorem dX7_wish_18 : decode cX7_wish 18 = .ok (.if_icmp .ne 6, 3) := by decide +kernel
theorem dX7_wish_21 : decode cX7_wish 21 = .ok (.bipush (-8), 2) := by decide +kernel
theorem dX7_wish_23 : decode cX7_wish 23 = .ok (.ireturn, 1) := by decide +kernel
theorem dX7_wish_24 : decode cX7_wish 24 = .ok (.aload_n 0, 1) := by decide +kernel
theorem dX7_wish_25 : decode cX7_wish 25 = .ok (.getfield 95, 3) := by decide +kernel
theorem dX7_wish_28 : decode cX7_wish 28 = .ok (.istore_n 2, 1) := by decide +kernel
theorem dX7_wish_29 : decode cX7_wish 29 = .ok (.aload_n 0, 1) := by decide +kernel
theorem dX7_wish_30 : decode cX7_wish 30 = .ok (.dup, 1) := by decide +kernel
theorem dX7_wish_31 : decode cX7_wish 31 = .ok (.getfield 95, 3) := by decide +kernel
theorem dX7_wish_34 : decode cX7_wish 34 = .ok (.iconst 1, 1) := by decide +kernel
theorem dX7_wish_35 : decode cX7_wish 35 = .ok (.iadd, 1) := by decide +kernel
theorem dX7_wish_36 : decode cX7_wish 36 = .ok (.putfield 95, 3) := by decide +kernel
theorem dX7_wish_39 : decode cX7_wish 39 = .ok (.aload_n 0, 1) := by decide +kernel
theorem dX7_wish_40 : decode cX7_wish 40 = .ok (.getfield 17, 3) := by decide +kernel
theorem dX7_wish_43 : decode cX7_wish 43 = .ok (.iload_n 2, 1) := by decide +kernel
theorem dX7_wish_44 : decode cX7_wish 44 = .ok (.iload_n 1, 1) := by decide +kernel
theorem dX7_wish_45 : decode cX7_wish 45 = .ok (.iastore, 1) := by decide +kernel
theorem dX7_wish_46 : decode cX7_wish 46 = .ok (.aload_n 0, 1) := by decide +kernel
theorem dX7_wish_47 : decode cX7_wish 47 = .ok (.getfield 20, 3) := by decide +kernel
theorem dX7_wish_50 : decode cX7_wish 50 = .ok (.iload_n 2, 1) := by decide +kernel
theorem dX7_wish_51 : decode cX7_wish 51 = .ok (.iconst 1, 1) := by decide +kernel
theorem dX7_wish_52 : decode cX7_wish 52 = .ok (.bastore, 1) := by decide +kernel
theorem dX7_wish_53 : decode cX7_wish 53 = .ok (.iconst 0, 1) := by decide +kernel
theorem dX7_wish_54 : decode cX7_wish 54 = .ok (.istore_n 3, 1) := by decide +kernel
theorem dX7_wish_55 : decode cX7_wish 55 = .ok (.iload_n 3, 1) := by decide +kernel
theorem dX7_wish_56 : decode cX7_wish 56 = .ok (.iconst 4, 1) := by decide +kernel
theorem dX7_wish_57 : decode cX7_wish 57 = .ok (.if_icmp .ge 90, 3) := by decide +kernel
theorem dX7_wish_60 : decode cX7_wish 60 = .ok (.iconst 4, 1) := by decide +kernel
theorem dX7_wish_61 : decode cX7_wish 61 = .ok (.iload_n 2, 1) := by decide +kernel
theorem dX7_wish_62 : decode cX7_wish 62 = .ok (.imul, 1) := by decide +kernel
theorem dX7_wish_63 : decode cX7_wish 63 = .ok (.iload_n 3, 1) := by decide +kernel
theorem dX7_wish_64 : decode cX7_wish 64 = .ok (.iadd, 1) := by decide +kernel
theorem dX7_wish_65 : decode cX7_wish 65 = .ok (.istore 4, 2) := by decide +kernel
theorem dX7_wish_67 : decode cX7_wish 67 = .ok (.sipush 1200, 3) := by decide +kernel
theorem dX7_wish_70 : decode cX7_wish 70 = .ok (.iload_n 3, 1) := by decide +kernel
theorem dX7_wish_71 : decode cX7_wish 71 = .ok (.iadd, 1) := by decide +kernel
theorem dX7_wish_72 : decode cX7_wish 72 = .ok (.istore 5, 2) := by decide +kernel
theorem dX7_wish_74 : decode cX7_wish 74 = .ok (.aload_n 0, 1) := by decide +kernel
theorem dX7_wish_75 : decode cX7_wish 75 = .ok (.getfield 23, 3) := by decide +kernel
theorem dX7_wish_78 : decode cX7_wish 78 = .ok (.iload 4, 2) := by decide +kernel
theorem dX7_wish_80 : decode cX7_wish 80 = .ok (.aload_n 0, 1) := by decide +kernel
theorem dX7_wish_81 : decode cX7_wish 81 = .ok (.getfield 23, 3) := by decide +kernel
theorem dX7_wish_84 : decode cX7_wish 84 = .ok (.iload 5, 2) := by decide +kernel
theorem dX7_wish_86 : decode cX7_wish 86 = .ok (.iaload, 1) := by decide +kernel
theorem dX7_wish_87 : decode cX7_wish 87 = .ok (.iastore, 1) := by decide +kernel
theorem dX7_wish_88 : decode cX7_wish 88 = .ok (.aload_n 0, 1) := by decide +kernel
theorem dX7_wish_89 : decode cX7_wish 89 = .ok (.getfield 26, 3) := by decide +kernel
theorem dX7_wish_92 : decode cX7_wish 92 = .ok (.iload 4, 2) := by decide +kernel
theorem dX7_wish_94 : decode cX7_wish 94 = .ok (.aload_n 0, 1) := by decide +kernel
theorem dX7_wish_95 : decode cX7_wish 95 = .ok (.getfield 26, 3) := by decide +kernel
theorem dX7_wish_98 : decode cX7_wish 98 = .ok (.iload 5, 2) := by decide +kernel
theorem dX7_wish_100 : decode cX7_wish 100 = .ok (.iaload, 1) := by decide +kernel
theorem dX7_wish_101 : decode cX7_wish 101 = .ok (.iastore, 1) := by decide +kernel
theorem dX7_wish_102 : decode cX7_wish 102 = .ok (.iconst 0, 1) := by decide +kernel
theorem dX7_wish_103 : decode cX7_wish 103 = .ok (.istore 6, 2) := by decide +kernel
theorem dX7_wish_105 : decode cX7_wish 105 = .ok (.iload 6, 2) := by decide +kernel
theorem dX7_wish_107 : decode cX7_wish 107 = .ok (.iconst 4, 1) := by decide +kernel
theorem dX7_wish_108 : decode cX7_wish 108 = .ok (.if_icmp .ge 33, 3) := by decide +kernel
theorem dX7_wish_111 : decode cX7_wish 111 = .ok (.aload_n 0, 1) := by decide +kernel
theorem dX7_wish_112 : decode cX7_wish 112 = .ok (.getfield 29, 3) := by decide +kernel
theorem dX7_wish_115 : decode cX7_wish 115 = .ok (.iconst 4, 1) := by decide +kernel
theorem dX7_wish_116 : decode cX7_wish 116 = .ok (.iload 4, 2) := by decide +kernel
theorem dX7_wish_118 : decode cX7_wish 118 = .ok (.imul, 1) := by decide +kernel
theorem dX7_wish_119 : decode cX7_wish 119 = .ok (.iload 6, 2) := by decide +kernel
theorem dX7_wish_121 : decode cX7_wish 121 = .ok (.iadd, 1) := by decide +kernel
theorem dX7_wish_122 : decode cX7_wish 122 = .ok (.aload_n 0, 1) := by decide +kernel
theorem dX7_wish_123 : decode cX7_wish 123 = .ok (.getfield 29, 3) := by decide +kernel
theorem dX7_wish_126 : decode cX7_wish 126 = .ok (.iconst 4, 1) := by decide +kernel
theorem dX7_wish_127 : decode cX7_wish 127 = .ok (.iload 5, 2) := by decide +kernel
theorem dX7_wish_129 : decode cX7_wish 129 = .ok (.imul, 1) := by decide +kernel
theorem dX7_wish_130 : decode cX7_wish 130 = .ok (.iload 6, 2) := by decide +kernel
theorem dX7_wish_132 : decode cX7_wish 132 = .ok (.iadd, 1) := by decide +kernel
theorem dX7_wish_133 : decode cX7_wish 133 = .ok (.iaload, 1) := by decide +kernel
theorem dX7_wish_134 : decode cX7_wish 134 = .ok (.iastore, 1) := by decide +kernel
theorem dX7_wish_135 : decode cX7_wish 135 = .ok (.iinc 6 1, 3) := by decide +kernel
theorem dX7_wish_138 : decode cX7_wish 138 = .ok (.goto (-33), 3) := by decide +kernel
theorem dX7_wish_141 : decode cX7_wish 141 = .ok (.iinc 3 1, 3) := by decide +kernel
theorem dX7_wish_144 : decode cX7_wish 144 = .ok (.goto (-89), 3) := by decide +kernel
theorem dX7_wish_147 : decode cX7_wish 147 = .ok (.iconst 0, 1) := by decide +kernel
theorem dX7_wish_148 : decode cX7_wish 148 = .ok (.istore_n 3, 1) := by decide +kernel
theorem dX7_wish_149 : decode cX7_wish 149 = .ok (.iload_n 3, 1) := by decide +kernel
theorem dX7_wish_150 : decode cX7_wish 150 = .ok (.iload_n 2, 1) := by decide +kernel
theorem dX7_wish_151 : decode cX7_wish 151 = .ok (.if_icmp .gt 45, 3) := by decide +kernel
theorem dX7_wish_154 : decode cX7_wish 154 = .ok (.aload_n 0, 1) := by decide +kernel
theorem dX7_wish_155 : decode cX7_wish 155 = .ok (.getfield 76, 3) := by decide +kernel
theorem dX7_wish_158 : decode cX7_wish 158 = .ok (.sipush 300, 3) := by decide +kernel
theorem dX7_wish_161 : decode cX7_wish 161 = .ok (.iload_n 3, 1) := by decide +kernel
theorem dX7_wish_162 : decode cX7_wish 162 = .ok (.imul, 1) := by decide +kernel
theorem dX7_wish_163 : decode cX7_wish 163 = .ok (.iload_n 2, 1) := by decide +kernel
theorem dX7_wish_164 : decode cX7_wish 164 = .ok (.iadd, 1) := by decide +kernel
theorem dX7_wish_165 : decode cX7_wish 165 = .ok (.aload_n 0, 1) := by decide +kernel
theorem dX7_wish_166 : decode cX7_wish 166 = .ok (.iload_n 3, 1) := by decide +kernel
theorem dX7_wish_167 : decode cX7_wish 167 = .ok (.iload_n 2, 1) := by decide +kernel
theorem dX7_wish_168 : decode cX7_wish 168 = .ok (.invokevirtual 170, 3) := by decide +kernel
theorem dX7_wish_171 : decode cX7_wish 171 = .ok (.bastore, 1) := by decide +kernel
theorem dX7_wish_172 : decode cX7_wish 172 = .ok (.aload_n 0, 1) := by decide +kernel
theorem dX7_wish_173 : decode cX7_wish 173 = .ok (.getfield 76, 3) := by decide +kernel
theorem dX7_wish_176 : decode cX7_wish 176 = .ok (.sipush 300, 3) := by decide +kernel
theorem dX7_wish_179 : decode cX7_wish 179 = .ok (.iload_n 2, 1) := by decide +kernel
theorem dX7_wish_180 : decode cX7_wish 180 = .ok (.imul, 1) := by decide +kernel
theorem dX7_wish_181 : decode cX7_wish 181 = .ok (.iload_n 3, 1) := by decide +kernel
theorem dX7_wish_182 : decode cX7_wish 182 = .ok (.iadd, 1) := by decide +kernel
theorem dX7_wish_183 : decode cX7_wish 183 = .ok (.aload_n 0, 1) := by decide +kernel
theorem dX7_wish_184 : decode cX7_wish 184 = .ok (.iload_n 2, 1) := by decide +kernel
theorem dX7_wish_185 : decode cX7_wish 185 = .ok (.iload_n 3, 1) := by decide +kernel
theorem dX7_wish_186 : decode cX7_wish 186 = .ok (.invokevirtual 170, 3) := by decide +kernel
theorem dX7_wish_189 : decode cX7_wish 189 = .ok (.bastore, 1) := by decide +kernel
theorem dX7_wish_190 : decode cX7_wish 190 = .ok (.iinc 3 1, 3) := by decide +kernel
theorem dX7_wish_193 : decode cX7_wish 193 = .ok (.goto (-44), 3) := by decide +kernel
theorem dX7_wish_196 : decode cX7_wish 196 = .ok (.aload_n 0, 1) := by decide +kernel
theorem dX7_wish_197 : decode cX7_wish 197 = .ok (.invokevirtual 88, 3) := by decide +kernel
theorem dX7_wish_200 : decode cX7_wish 200 = .ok (.aload_n 0, 1) := by decide +kernel
theorem dX7_wish_201 : decode cX7_wish 201 = .ok (.invokevirtual 154, 3) := by decide +kernel
theorem dX7_wish_204 : decode cX7_wish 204 = .ok (.iload_n 2, 1) := by decide +kernel
theorem dX7_wish_205 : decode cX7_wish 205 = .ok (.ireturn, 1) := by decide +kernel
def B_Mo_wish_196 (mc ms : Nat) (Rt : Option zAV → zMp → Prop) (g : Nat → zKT) : zKT :=
  (i_al 0 (i_callV mc ms 8 1 T_Mo_unread co_Mo_unread (i_al 0 (i_callV2 mc ms 8 1 T_Mo_tells (i_il 2 (i_iret mc ms Rt))))))
set_option maxRecDepth 20000 in
theorem s_Mo_wish_196 {X : zMa} {mc ms : Nat} {Rt : Option zAV → zMp → Prop} (hC : zCx X RX7 cX7_wish 3 85 mc ms (some .int) false Rt) (hN : zNL X = 7) : zLe (B_Mo_wish_196 mc ms Rt (zG X)) (zG X 196) :=
  (sd_al_n hC rfl dX7_wish_196 ((sd_cV hC c_Mo_unread yv_Mo_unread (ci := 8) rfl rfl ml_Mo_88 (by decide) (by decide) dX7_wish_197 ((sd_al_n hC rfl dX7_wish_200 ((sd_cV2 hC c_Mo_tells yv_Mo_tells (ci := 8) rfl rfl ml_Mo_154 (by decide) (by decide) dX7_wish_201 ((sd_il_n hC rfl dX7_wish_204 ((sd_iret hC dX7_wish_205)))))))))))
def B_Mo_wish_149 (mc ms : Nat) (Rt : Option zAV → zMp → Prop) (g : Nat → zKT) : zKT :=
  (i_il 3 (i_il 2 (i_icgt (B_Mo_wish_196 mc ms Rt g) (i_al 0 (i_gf 8 29 (i_ic 300 (i_il 3 (i_imul (i_il 2 (i_iadd (i_al 0 (i_il 3 (i_il 2 (i_callV mc ms 8 3 T_Mo_isCovered co_Mo_isCovered (i_bas (i_al 0 (i_gf 8 29 (i_ic 300 (i_il 2 (i_imul (i_il 3 (i_iadd (i_al 0 (i_il 2 (i_il 3 (i_callV mc ms 8 3 T_Mo_isCovered co_Mo_isCovered (i_bas (i_inc 3 1 (g 149)))))))))))))))))))))))))))))
set_option maxRecDepth 20000 in
theorem s_Mo_wish_149 {X : zMa} {mc ms : Nat} {Rt : Option zAV → zMp → Prop} (hC : zCx X RX7 cX7_wish 3 85 mc ms (some .int) false Rt) (hN : zNL X = 7) : zLe (B_Mo_wish_149 mc ms Rt (zG X)) (zG X 149) :=
  (sd_il_n hC rfl dX7_wish_149 ((sd_il_n hC rfl dX7_wish_150 ((sd_icgt hC (tgt := 196) (by decide) dX7_wish_151 (s_Mo_wish_196 hC hN) ((sd_al_n hC rfl dX7_wish_154 ((sd_gf hC (ci := 8) (fk := 29) rfl wi_Mo (by decide) fl_Mo_76 (Or.inl rfl) dX7_wish_155 ((sd_sipush hC (by decide) dX7_wish_158 ((sd_il_n hC rfl dX7_wish_161 ((sd_imul hC dX7_wish_162 ((sd_il_n hC rfl dX7_wish_163 ((sd_iadd hC dX7_wish_164 ((sd_al_n hC rfl dX7_wish_165 ((sd_il_n hC rfl dX7_wish_166 ((sd_il_n hC rfl dX7_wish_167 ((sd_cV hC c_Mo_isCovered yv_Mo_isCovered (ci := 8) rfl rfl ml_Mo_170 (by decide) (by decide) dX7_wish_168 ((sd_bas hC dX7_wish_171 ((sd_al_n hC rfl dX7_wish_172 ((sd_gf hC (ci := 8) (fk := 29) rfl wi_Mo (by decide) fl_Mo_76 (Or.inl rfl) dX7_wish_173 ((sd_sipush hC (by decide) dX7_wish_176 ((sd_il_n hC rfl dX7_wish_179 ((sd_imul hC dX7_wish_180 ((sd_il_n hC rfl dX7_wish_181 ((sd_iadd hC dX7_wish_182 ((sd_al_n hC rfl dX7_wish_183 ((sd_il_n hC rfl dX7_wish_184 ((sd_il_n hC rfl dX7_wish_185 ((sd_cV hC c_Mo_isCovered yv_Mo_isCovered (ci := 8) rfl rfl ml_Mo_170 (by decide) (by decide) dX7_wish_186 ((sd_bas hC dX7_wish_189 ((sd_inc hC (by decide) (by rw [hN]; decide) dX7_wish_190 ((sd_goto hC (tgt := 149) (by decide) dX7_wish_193 (zLe_rfl))))))))))))))))))))))))))))))))))))))))))))))))))))))))))
def B_Mo_wish_147 (mc ms : Nat) (Rt : Option zAV → zMp → Prop) (g : Nat → zKT) : zKT :=
  (i_ic 0 (i_is 3 (g 149)))
set_option maxRecDepth 20000 in
theorem s_Mo_wish_147 {X : zMa} {mc ms : Nat} {Rt : Option zAV → zMp → Prop} (hC : zCx X RX7 cX7_wish 3 85 mc ms (some .int) false Rt) (hN : zNL X = 7) : zLe (B_Mo_wish_147 mc ms Rt (zG X)) (zG X 147) :=
  (sd_iconst hC (by decide) dX7_wish_147 ((sd_is_n hC rfl (by rw [hN]; decide) dX7_wish_148 (zLe_rfl))))
def B_Mo_wish_141 (mc ms : Nat) (Rt : Option zAV → zMp → Prop) (g : Nat → zKT) : zKT :=
  (i_inc 3 1 (g 55))
set_option maxRecDepth 20000 in
theorem s_Mo_wish_141 {X : zMa} {mc ms : Nat} {Rt : Option zAV → zMp → Prop} (hC : zCx X RX7 cX7_wish 3 85 mc ms (some .int) false Rt) (hN : zNL X = 7) : zLe (B_Mo_wish_141 mc ms Rt (zG X)) (zG X 141) :=
  (sd_inc hC (by decide) (by rw [hN]; decide) dX7_wish_141 ((sd_goto hC (tgt := 55) (by decide) dX7_wish_144 (zLe_rfl))))
def B_Mo_wish_105 (mc ms : Nat) (Rt : Option zAV → zMp → Prop) (g : Nat → zKT) : zKT :=
  (i_il 6 (i_ic 4 (i_icge (B_Mo_wish_141 mc ms Rt g) (i_al 0 (i_gf 8 10 (i_ic 4 (i_il 4 (i_imul (i_il 6 (i_iadd (i_al 0 (i_gf 8 10 (i_ic 4 (i_il 5 (i_imul (i_il 6 (i_iadd (i_ial (i_ias (i_inc 6 1 (g 105)))))))))))))))))))))
set_option maxRecDepth 20000 in
theorem s_Mo_wish_105 {X : zMa} {mc ms : Nat} {Rt : Option zAV → zMp → Prop} (hC : zCx X RX7 cX7_wish 3 85 mc ms (some .int) false Rt) (hN : zNL X = 7) : zLe (B_Mo_wish_105 mc ms Rt (zG X)) (zG X 105) :=
  (sd_il hC dX7_wish_105 ((sd_iconst hC (by decide) dX7_wish_107 ((sd_icge hC (tgt := 141) (by decide) dX7_wish_108 (s_Mo_wish_141 hC hN) ((sd_al_n hC rfl dX7_wish_111 ((sd_gf hC (ci := 8) (fk := 10) rfl wi_Mo (by decide) fl_Mo_29 (Or.inl rfl) dX7_wish_112 ((sd_iconst hC (by decide) dX7_wish_115 ((sd_il hC dX7_wish_116 ((sd_imul hC dX7_wish_118 ((sd_il hC dX7_wish_119 ((sd_iadd hC dX7_wish_121 ((sd_al_n hC rfl dX7_wish_122 ((sd_gf hC (ci := 8) (fk := 10) rfl wi_Mo (by decide) fl_Mo_29 (Or.inl rfl) dX7_wish_123 ((sd_iconst hC (by decide) dX7_wish_126 ((sd_il hC dX7_wish_127 ((sd_imul hC dX7_wish_129 ((sd_il hC dX7_wish_130 ((sd_iadd hC dX7_wish_132 ((sd_ial hC dX7_wish_133 ((sd_ias hC dX7_wish_134 ((sd_inc hC (by decide) (by rw [hN]; decide) dX7_wish_135 ((sd_goto hC (tgt := 105) (by decide) dX7_wish_138 (zLe_rfl))))))))))))))))))))))))))))))))))))))))))
def B_Mo_wish_55 (mc ms : Nat) (Rt : Option zAV → zMp → Prop) (g : Nat → zKT) : zKT :=
  (i_il 3 (i_ic 4 (i_icge (B_Mo_wish_147 mc ms Rt g) (i_ic 4 (i_il 2 (i_imul (i_il 3 (i_iadd (i_is 4 (i_ic 1200 (i_il 3 (i_iadd (i_is 5 (i_al 0 (i_gf 8 8 (i_il 4 (i_al 0 (i_gf 8 8 (i_il 5 (i_ial (i_ias (i_al 0 (i_gf 8 9 (i_il 4 (i_al 0 (i_gf 8 9 (i_il 5 (i_ial (i_ias (i_ic 0 (i_is 6 (g 105))))))))))))))))))))))))))))))))
set_option maxRecDepth 20000 in
theorem s_Mo_wish_55 {X : zMa} {mc ms : Nat} {Rt : Option zAV → zMp → Prop} (hC : zCx X RX7 cX7_wish 3 85 mc ms (some .int) false Rt) (hN : zNL X = 7) : zLe (B_Mo_wish_55 mc ms Rt (zG X)) (zG X 55) :=
  (sd_il_n hC rfl dX7_wish_55 ((sd_iconst hC (by decide) dX7_wish_56 ((sd_icge hC (tgt := 147) (by decide) dX7_wish_57 (s_Mo_wish_147 hC hN) ((sd_iconst hC (by decide) dX7_wish_60 ((sd_il_n hC rfl dX7_wish_61 ((sd_imul hC dX7_wish_62 ((sd_il_n hC rfl dX7_wish_63 ((sd_iadd hC dX7_wish_64 ((sd_is hC (by rw [hN]; decide) dX7_wish_65 ((sd_sipush hC (by decide) dX7_wish_67 ((sd_il_n hC rfl dX7_wish_70 ((sd_iadd hC dX7_wish_71 ((sd_is hC (by rw [hN]; decide) dX7_wish_72 ((sd_al_n hC rfl dX7_wish_74 ((sd_gf hC (ci := 8) (fk := 8) rfl wi_Mo (by decide) fl_Mo_23 (Or.inl rfl) dX7_wish_75 ((sd_il hC dX7_wish_78 ((sd_al_n hC rfl dX7_wish_80 ((sd_gf hC (ci := 8) (fk := 8) rfl wi_Mo (by decide) fl_Mo_23 (Or.inl rfl) dX7_wish_81 ((sd_il hC dX7_wish_84 ((sd_ial hC dX7_wish_86 ((sd_ias hC dX7_wish_87 ((sd_al_n hC rfl dX7_wish_88 ((sd_gf hC (ci := 8) (fk := 9) rfl wi_Mo (by decide) fl_Mo_26 (Or.inl rfl) dX7_wish_89 ((sd_il hC dX7_wish_92 ((sd_al_n hC rfl dX7_wish_94 ((sd_gf hC (ci := 8) (fk := 9) rfl wi_Mo (by decide) fl_Mo_26 (Or.inl rfl) dX7_wish_95 ((sd_il hC dX7_wish_98 ((sd_ial hC dX7_wish_100 ((sd_ias hC dX7_wish_101 ((sd_iconst hC (by decide) dX7_wish_102 ((sd_is hC (by rw [hN]; decide) dX7_wish_103 (zLe_rfl))))))))))))))))))))))))))))))))))))))))))))))))))))))))))))))
def B_Mo_wish_24 (mc ms : Nat) (Rt : Option zAV → zMp → Prop) (g : Nat → zKT) : zKT :=
  (i_al 0 (i_gf 8 2 (i_is 2 (i_al 0 (i_dup (i_gf 8 2 (i_ic 1 (i_iadd (i_pf 8 2 .int (i_al 0 (i_gf 8 6 (i_il 2 (i_il 1 (i_ias (i_al 0 (i_gf 8 7 (i_il 2 (i_ic 1 (i_bas (i_ic 0 (i_is 3 (g 55))))))))))))))))))))))
set_option maxRecDepth 20000 in
theorem s_Mo_wish_24 {X : zMa} {mc ms : Nat} {Rt : Option zAV → zMp → Prop} (hC : zCx X RX7 cX7_wish 3 85 mc ms (some .int) false Rt) (hN : zNL X = 7) : zLe (B_Mo_wish_24 mc ms Rt (zG X)) (zG X 24) :=
  (sd_al_n hC rfl dX7_wish_24 ((sd_gf hC (ci := 8) (fk := 2) rfl wi_Mo (by decide) fl_Mo_95 (Or.inl rfl) dX7_wish_25 ((sd_is_n hC rfl (by rw [hN]; decide) dX7_wish_28 ((sd_al_n hC rfl dX7_wish_29 ((sd_dup hC dX7_wish_30 ((sd_gf hC (ci := 8) (fk := 2) rfl wi_Mo (by decide) fl_Mo_95 (Or.inl rfl) dX7_wish_31 ((sd_iconst hC (by decide) dX7_wish_34 ((sd_iadd hC dX7_wish_35 ((sd_pf hC (ci := 8) (fk := 2) rfl wi_Mo tyX7 tyX7_ok nmX7 (by decide) fl_Mo_95 (Or.inl rfl) (Or.inl rfl) dX7_wish_36 ((sd_al_n hC rfl dX7_wish_39 ((sd_gf hC (ci := 8) (fk := 6) rfl wi_Mo (by decide) fl_Mo_17 (Or.inl rfl) dX7_wish_40 ((sd_il_n hC rfl dX7_wish_43 ((sd_il_n hC rfl dX7_wish_44 ((sd_ias hC dX7_wish_45 ((sd_al_n hC rfl dX7_wish_46 ((sd_gf hC (ci := 8) (fk := 7) rfl wi_Mo (by decide) fl_Mo_20 (Or.inl rfl) dX7_wish_47 ((sd_il_n hC rfl dX7_wish_50 ((sd_iconst hC (by decide) dX7_wish_51 ((sd_bas hC dX7_wish_52 ((sd_iconst hC (by decide) dX7_wish_53 ((sd_is_n hC rfl (by rw [hN]; decide) dX7_wish_54 (zLe_rfl))))))))))))))))))))))))))))))))))))))))))
def B_Mo_wish_11 (mc ms : Nat) (Rt : Option zAV → zMp → Prop) (g : Nat → zKT) : zKT :=
  (i_al 0 (i_gf 8 2 (i_ic 300 (i_icne (B_Mo_wish_24 mc ms Rt g) (i_ic (-8) (i_iret mc ms Rt))))))
set_option maxRecDepth 20000 in
theorem s_Mo_wish_11 {X : zMa} {mc ms : Nat} {Rt : Option zAV → zMp → Prop} (hC : zCx X RX7 cX7_wish 3 85 mc ms (some .int) false Rt) (hN : zNL X = 7) : zLe (B_Mo_wish_11 mc ms Rt (zG X)) (zG X 11) :=
  (sd_al_n hC rfl dX7_wish_11 ((sd_gf hC (ci := 8) (fk := 2) rfl wi_Mo (by decide) fl_Mo_95 (Or.inl rfl) dX7_wish_12 ((sd_sipush hC (by decide) dX7_wish_15 ((sd_icne hC (tgt := 24) (by decide) dX7_wish_18 (s_Mo_wish_24 hC hN) ((sd_bipush hC (by decide) dX7_wish_21 ((sd_iret hC dX7_wish_23)))))))))))
def B_Mo_wish_0 (mc ms : Nat) (Rt : Option zAV → zMp → Prop) (g : Nat → zKT) : zKT :=
  (i_al 0 (i_il 1 (i_callV mc ms 8 2 T_Mo_isReader co_Mo_isReader (i_ifne (B_Mo_wish_11 mc ms Rt g) (i_ic (-2) (i_iret mc ms Rt))))))
set_option maxRecDepth 20000 in
theorem s_Mo_wish_0 {X : zMa} {mc ms : Nat} {Rt : Option zAV → zMp → Prop} (hC : zCx X RX7 cX7_wish 3 85 mc ms (some .int) false Rt) (hN : zNL X = 7) : zLe (B_Mo_wish_0 mc ms Rt (zG X)) (zG X 0) :=
  (sd_al_n hC rfl dX7_wish_0 ((sd_il_n hC rfl dX7_wish_1 ((sd_cV hC c_Mo_isReader yv_Mo_isReader (ci := 8) rfl rfl ml_Mo_164 (by decide) (by decide) dX7_wish_2 ((sd_ifne hC (tgt := 11) (by decide) dX7_wish_5 (s_Mo_wish_11 hC hN) ((sd_bipush hC (by decide) dX7_wish_8 ((sd_iret hC dX7_wish_10)))))))))))
theorem un_cp (z : zMS) : ∀ n, y_cp (un_x z n) = y_cp z
  | 0 => rfl
  | n + 1 => un_cp z n
theorem c_Mo_wish (l : Launch) : zCT2 l yX7_wish cX7_wish 7 (some .int) 3 85 T_Mo_wish := by
  intro As M Rt c1 c2 hT
  obtain ⟨y, d, rfl, rfl, hJ, hR0, hR1, hR2⟩ := hT
  have hlim := hJ.lim
  refine zMet_of false (by decide +kernel) (fun h => by first | rfl | cases h) (Nat.le_of_ble_eq_true rfl) (fun X hN hC => ?_)
  show zG X 0 [some (.inr (30, 0, 0)), some (.inl (.int d)), none, none, none, none, none] [] (mp y) 0 0
  refine s_Mo_wish_0 hC hN _ _ _ _ _ ?_
  simp only [B_Mo_wish_0, B_Mo_wish_24, B_Mo_wish_55, B_Mo_wish_105, B_Mo_wish_141, B_Mo_wish_147, B_Mo_wish_149, B_Mo_wish_196, co_Mo_isCovered, co_Mo_isReader, co_Mo_unread, i_ic, i_lc, i_nul, i_il, i_ll, i_al, i_is, i_as, i_ls, i_inc, i_iadd, i_isub, i_imul, i_iand, i_ior, i_ixor, i_idiv, i_irem, i_ishl, i_ishr, i_ladd, i_lsub, i_land, i_lor, i_i2l, i_lushr, i_lshl, i_lshr, i_lcmp, i_dup, i_pop, i_dx1, i_dup2, i_ifeq, i_ifne, i_iflt, i_ifge, i_ifgt, i_ifle, i_iceq, i_icne, i_iclt, i_icge, i_icgt, i_icle, i_ifn, i_gf, i_pf, i_ial, i_bal, i_lal, i_aal, i_ias, i_las, i_bas, i_aas, i_alen, i_newa, i_new, i_anew, i_cast, i_oi, i_call, i_callV, i_callV2, i_callI, i_iret, i_zret, i_lret, i_vret, i_aret, i_mmx, i_mmn, i_gsE, i_aceq, i_no, i_acq, i_sw, zsw, zlg, zls, znl, zfg, zcs, zsp, zrc, zisn, zft, zc1, zto, Value.category, List.set_cons_zero, List.set_cons_succ, List.length_cons, List.length_nil, Option.toList, List.append, List.nil_append, List.cons_append, true_and, and_true, Nat.add_zero, Nat.zero_le, Nat.zero_add, Nat.le_refl, Nat.reduceAdd, Nat.reduceLeDiff, co0, z0, zn_0, zn_1, zn_2, zn_3, zn_4, zn_5, zn_8, zn_12, zn_24, zn_121, zn_144, zn_256, zn_300, zn_600, zn_720, zn_1204, zn_1280, zn_2400, zn_4816, zn_14400, zn_90000, q_main, m_main]
  refine ⟨y, d, rfl, rfl, ?_⟩
  simp only [B_Mo_wish_0, B_Mo_wish_11, B_Mo_wish_55, B_Mo_wish_105, B_Mo_wish_141, B_Mo_wish_147, B_Mo_wish_149, B_Mo_wish_196, co_Mo_isCovered, co_Mo_isReader, co_Mo_unread, i_ic, i_lc, i_nul, i_il, i_ll, i_al, i_is, i_as, i_ls, i_inc, i_iadd, i_isub, i_imul, i_iand, i_ior, i_ixor, i_idiv, i_irem, i_ishl, i_ishr, i_ladd, i_lsub, i_land, i_lor, i_i2l, i_lushr, i_lshl, i_lshr, i_lcmp, i_dup, i_pop, i_dx1, i_dup2, i_ifeq, i_ifne, i_iflt, i_ifge, i_ifgt, i_ifle, i_iceq, i_icne, i_iclt, i_icge, i_icgt, i_icle, i_ifn, i_gf, i_pf, i_ial, i_bal, i_lal, i_aal, i_ias, i_las, i_bas, i_aas, i_alen, i_newa, i_new, i_anew, i_cast, i_oi, i_call, i_callV, i_callV2, i_callI, i_iret, i_zret, i_lret, i_vret, i_aret, i_mmx, i_mmn, i_gsE, i_aceq, i_no, i_acq, i_sw, zsw, zlg, zls, znl, zfg, zcs, zsp, zrc, zisn, zft, zc1, zto, Value.category, List.set_cons_zero, List.set_cons_succ, List.length_cons, List.length_nil, Option.toList, List.append, List.nil_append, List.cons_append, true_and, and_true, Nat.add_zero, Nat.zero_le, Nat.zero_add, Nat.le_refl, Nat.reduceAdd, Nat.reduceLeDiff, co0, z0, zn_0, zn_1, zn_2, zn_3, zn_4, zn_5, zn_8, zn_12, zn_24, zn_121, zn_144, zn_256, zn_300, zn_600, zn_720, zn_1204, zn_1280, zn_2400, zn_4816, zn_14400, zn_90000, q_main, m_main]
  refine ⟨fun h => ?_, fun h => hR0 (zb_0.mp h)⟩
  refine ⟨fun h2 => ?_, fun h2 => hR1 (zb_n0 h) ((zK (K := 300) (by decide) (n := y_nw y) (by omega)).2.2.1.mp h2)⟩
  obtain ⟨r, hr, rfl⟩ := isn_t (by omega) (zb_n0 h)
  have hw : y_nw y < 300 := by have : y_nw y ≠ 300 := fun q => h2 (by rw [q]; rfl); omega
  have hR := hR2 r hr rfl hw
  have hJ0 := Jv_wy0 hJ hw hr
  unfold wy at hR
  obtain ⟨z, hz⟩ : ∃ z, z = wy_0 y r := ⟨_, rfl⟩
  obtain ⟨w, hw0⟩ : ∃ w, w = y_nw y := ⟨_, rfl⟩
  have hcz : y_cp z = y_cp y := by rw [hz]; rfl
  rw [← hz, ← hw0] at hR
  rw [← hz] at hJ0
  rw [← hw0] at hw
  -- which covers which
  have hJk : Jv (wy_k z w 4 16) := Jv_wyk hJ0 (by decide)
  have hcw : y_cp (wy_k z w 4 16) = y_cp y := hcz
  obtain ⟨x, hx⟩ : ∃ x, x = wy_k z w 4 16 := ⟨_, rfl⟩
  rw [← hx] at hR hJk hcw
  have cov := upto (N := w + 1) (P := fun n => ∀ (lo hi : Nat → Int64) (j4 j5 j6 : Option zAV), zG X 149 [some (.inr (30, 0, 0)), some (.inl (.int (nI r))), some (.inl (.int (nI w))), some (.inl (.int (nI n))), j4, j5, j6] [] (mp (ys (v_cv x (cv_n x w n)) lo hi)) 0 0) (fun n hn ih lo hi j4 j5 j6 => by
    refine s_Mo_wish_149 hC hN _ _ _ _ _ ?_
    simp only [B_Mo_wish_0, B_Mo_wish_11, B_Mo_wish_24, B_Mo_wish_55, B_Mo_wish_105, B_Mo_wish_141, B_Mo_wish_147, B_Mo_wish_149, B_Mo_wish_196, co_Mo_isCovered, co_Mo_isReader, co_Mo_unread, i_ic, i_lc, i_nul, i_il, i_ll, i_al, i_is, i_as, i_ls, i_inc, i_iadd, i_isub, i_imul, i_iand, i_ior, i_ixor, i_idiv, i_irem, i_ishl, i_ishr, i_ladd, i_lsub, i_land, i_lor, i_i2l, i_lushr, i_lshl, i_lshr, i_lcmp, i_dup, i_pop, i_dx1, i_dup2, i_ifeq, i_ifne, i_iflt, i_ifge, i_ifgt, i_ifle, i_iceq, i_icne, i_iclt, i_icge, i_icgt, i_icle, i_ifn, i_gf, i_pf, i_ial, i_bal, i_lal, i_aal, i_ias, i_las, i_bas, i_aas, i_alen, i_newa, i_new, i_anew, i_cast, i_oi, i_call, i_callV, i_callV2, i_callI, i_iret, i_zret, i_lret, i_vret, i_aret, i_mmx, i_mmn, i_gsE, i_aceq, i_no, i_acq, i_sw, zsw, zlg, zls, znl, zfg, zcs, zsp, zrc, zisn, zft, zc1, zto, Value.category, List.set_cons_zero, List.set_cons_succ, List.length_cons, List.length_nil, Option.toList, List.append, List.nil_append, List.cons_append, true_and, and_true, Nat.add_zero, Nat.zero_le, Nat.zero_add, Nat.le_refl, Nat.reduceAdd, Nat.reduceLeDiff, co0, z0, zn_0, zn_1, zn_2, zn_3, zn_4, zn_5, zn_8, zn_12, zn_24, zn_121, zn_144, zn_256, zn_300, zn_600, zn_720, zn_1204, zn_1280, zn_2400, zn_4816, zn_14400, zn_90000, q_main, m_main, q_cv, ar_4, ar_5, ar_12, ar_300, ar_600, ar_1200, ar_10, nI_add, ar_1, ar_2, ar_3, ar_2m]
    refine ⟨fun h => absurd ((nI_ltI (by omega) (by omega)).mp h) (by omega), fun _ => ⟨ys (v_cv x (cv_n x w n)) lo hi, n, w, rfl, rfl, by omega, by omega, hJk.ts, fun lo1 hi1 => ?_⟩⟩
    have e1 : y_cvd (ys (v_cv x (cv_n x w n)) lo hi) n w = y_cvd x n w := rfl
    have e2 : y_cv (ys (ys (v_cv x (cv_n x w n)) lo hi) lo1 hi1) = cv_n x w n := rfl
    simp only [B_Mo_wish_0, B_Mo_wish_11, B_Mo_wish_24, B_Mo_wish_55, B_Mo_wish_105, B_Mo_wish_141, B_Mo_wish_147, B_Mo_wish_149, B_Mo_wish_196, co_Mo_isCovered, co_Mo_isReader, co_Mo_unread, i_ic, i_lc, i_nul, i_il, i_ll, i_al, i_is, i_as, i_ls, i_inc, i_iadd, i_isub, i_imul, i_iand, i_ior, i_ixor, i_idiv, i_irem, i_ishl, i_ishr, i_ladd, i_lsub, i_land, i_lor, i_i2l, i_lushr, i_lshl, i_lshr, i_lcmp, i_dup, i_pop, i_dx1, i_dup2, i_ifeq, i_ifne, i_iflt, i_ifge, i_ifgt, i_ifle, i_iceq, i_icne, i_iclt, i_icge, i_icgt, i_icle, i_ifn, i_gf, i_pf, i_ial, i_bal, i_lal, i_aal, i_ias, i_las, i_bas, i_aas, i_alen, i_newa, i_new, i_anew, i_cast, i_oi, i_call, i_callV, i_callV2, i_callI, i_iret, i_zret, i_lret, i_vret, i_aret, i_mmx, i_mmn, i_gsE, i_aceq, i_no, i_acq, i_sw, zsw, zlg, zls, znl, zfg, zcs, zsp, zrc, zisn, zft, zc1, zto, Value.category, List.set_cons_zero, List.set_cons_succ, List.length_cons, List.length_nil, Option.toList, List.append, List.nil_append, List.cons_append, true_and, and_true, Nat.add_zero, Nat.zero_le, Nat.zero_add, Nat.le_refl, Nat.reduceAdd, Nat.reduceLeDiff, co0, z0, zn_0, zn_1, zn_2, zn_3, zn_4, zn_5, zn_8, zn_12, zn_24, zn_121, zn_144, zn_256, zn_300, zn_600, zn_720, zn_1204, zn_1280, zn_2400, zn_4816, zn_14400, zn_90000, q_main, m_main, q_cv, ar_4, ar_5, ar_12, ar_300, ar_600, ar_1200, ar_10, nI_add, ar_1, ar_2, ar_3, ar_2m]
    rw [nI_clamp (by omega), e1, e2, upd_bo, mu_cv]
    refine ⟨m_k (by decide), vp_in_nI (by omega) (by decide), zb_01 _, ?_⟩
    simp only [B_Mo_wish_0, B_Mo_wish_11, B_Mo_wish_24, B_Mo_wish_55, B_Mo_wish_105, B_Mo_wish_141, B_Mo_wish_147, B_Mo_wish_149, B_Mo_wish_196, co_Mo_isCovered, co_Mo_isReader, co_Mo_unread, i_ic, i_lc, i_nul, i_il, i_ll, i_al, i_is, i_as, i_ls, i_inc, i_iadd, i_isub, i_imul, i_iand, i_ior, i_ixor, i_idiv, i_irem, i_ishl, i_ishr, i_ladd, i_lsub, i_land, i_lor, i_i2l, i_lushr, i_lshl, i_lshr, i_lcmp, i_dup, i_pop, i_dx1, i_dup2, i_ifeq, i_ifne, i_iflt, i_ifge, i_ifgt, i_ifle, i_iceq, i_icne, i_iclt, i_icge, i_icgt, i_icle, i_ifn, i_gf, i_pf, i_ial, i_bal, i_lal, i_aal, i_ias, i_las, i_bas, i_aas, i_alen, i_newa, i_new, i_anew, i_cast, i_oi, i_call, i_callV, i_callV2, i_callI, i_iret, i_zret, i_lret, i_vret, i_aret, i_mmx, i_mmn, i_gsE, i_aceq, i_no, i_acq, i_sw, zsw, zlg, zls, znl, zfg, zcs, zsp, zrc, zisn, zft, zc1, zto, Value.category, List.set_cons_zero, List.set_cons_succ, List.length_cons, List.length_nil, Option.toList, List.append, List.nil_append, List.cons_append, true_and, and_true, Nat.add_zero, Nat.zero_le, Nat.zero_add, Nat.le_refl, Nat.reduceAdd, Nat.reduceLeDiff, co0, z0, zn_0, zn_1, zn_2, zn_3, zn_4, zn_5, zn_8, zn_12, zn_24, zn_121, zn_144, zn_256, zn_300, zn_600, zn_720, zn_1204, zn_1280, zn_2400, zn_4816, zn_14400, zn_90000, q_main, m_main, q_cv, ar_4, ar_5, ar_12, ar_300, ar_600, ar_1200, ar_10, nI_add, ar_1, ar_2, ar_3, ar_2m]
    refine ⟨v_cv (ys (ys (v_cv x (cv_n x w n)) lo hi) lo1 hi1) (va_up (cv_n x w n) (300 * n + w) (y_cvd x n w)), w, n, rfl, rfl, by omega, by omega, hJk.ts, fun lo2 hi2 => ?_⟩
    have e3 : y_cvd (v_cv (ys (ys (v_cv x (cv_n x w n)) lo hi) lo1 hi1) (va_up (cv_n x w n) (300 * n + w) (y_cvd x n w))) w n = y_cvd x w n := rfl
    have e4 : y_cv (ys (v_cv (ys (ys (v_cv x (cv_n x w n)) lo hi) lo1 hi1) (va_up (cv_n x w n) (300 * n + w) (y_cvd x n w))) lo2 hi2) = va_up (cv_n x w n) (300 * n + w) (y_cvd x n w) := rfl
    simp only [B_Mo_wish_0, B_Mo_wish_11, B_Mo_wish_24, B_Mo_wish_55, B_Mo_wish_105, B_Mo_wish_141, B_Mo_wish_147, B_Mo_wish_149, B_Mo_wish_196, co_Mo_isCovered, co_Mo_isReader, co_Mo_unread, i_ic, i_lc, i_nul, i_il, i_ll, i_al, i_is, i_as, i_ls, i_inc, i_iadd, i_isub, i_imul, i_iand, i_ior, i_ixor, i_idiv, i_irem, i_ishl, i_ishr, i_ladd, i_lsub, i_land, i_lor, i_i2l, i_lushr, i_lshl, i_lshr, i_lcmp, i_dup, i_pop, i_dx1, i_dup2, i_ifeq, i_ifne, i_iflt, i_ifge, i_ifgt, i_ifle, i_iceq, i_icne, i_iclt, i_icge, i_icgt, i_icle, i_ifn, i_gf, i_pf, i_ial, i_bal, i_lal, i_aal, i_ias, i_las, i_bas, i_aas, i_alen, i_newa, i_new, i_anew, i_cast, i_oi, i_call, i_callV, i_callV2, i_callI, i_iret, i_zret, i_lret, i_vret, i_aret, i_mmx, i_mmn, i_gsE, i_aceq, i_no, i_acq, i_sw, zsw, zlg, zls, znl, zfg, zcs, zsp, zrc, zisn, zft, zc1, zto, Value.category, List.set_cons_zero, List.set_cons_succ, List.length_cons, List.length_nil, Option.toList, List.append, List.nil_append, List.cons_append, true_and, and_true, Nat.add_zero, Nat.zero_le, Nat.zero_add, Nat.le_refl, Nat.reduceAdd, Nat.reduceLeDiff, co0, z0, zn_0, zn_1, zn_2, zn_3, zn_4, zn_5, zn_8, zn_12, zn_24, zn_121, zn_144, zn_256, zn_300, zn_600, zn_720, zn_1204, zn_1280, zn_2400, zn_4816, zn_14400, zn_90000, q_main, m_main, q_cv, ar_4, ar_5, ar_12, ar_300, ar_600, ar_1200, ar_10, nI_add, ar_1, ar_2, ar_3, ar_2m]
    rw [nI_clamp (by omega), e3, e4, upd_bo, mu_cv]
    exact ⟨m_k (by decide), vp_in_nI (by omega) (by decide), zb_01 _, ih lo2 hi2 _ _ _⟩) (fun lo hi j4 j5 j6 => by
    refine s_Mo_wish_149 hC hN _ _ _ _ _ ?_
    simp only [B_Mo_wish_0, B_Mo_wish_11, B_Mo_wish_24, B_Mo_wish_55, B_Mo_wish_105, B_Mo_wish_141, B_Mo_wish_147, B_Mo_wish_149, B_Mo_wish_196, co_Mo_isCovered, co_Mo_isReader, co_Mo_unread, i_ic, i_lc, i_nul, i_il, i_ll, i_al, i_is, i_as, i_ls, i_inc, i_iadd, i_isub, i_imul, i_iand, i_ior, i_ixor, i_idiv, i_irem, i_ishl, i_ishr, i_ladd, i_lsub, i_land, i_lor, i_i2l, i_lushr, i_lshl, i_lshr, i_lcmp, i_dup, i_pop, i_dx1, i_dup2, i_ifeq, i_ifne, i_iflt, i_ifge, i_ifgt, i_ifle, i_iceq, i_icne, i_iclt, i_icge, i_icgt, i_icle, i_ifn, i_gf, i_pf, i_ial, i_bal, i_lal, i_aal, i_ias, i_las, i_bas, i_aas, i_alen, i_newa, i_new, i_anew, i_cast, i_oi, i_call, i_callV, i_callV2, i_callI, i_iret, i_zret, i_lret, i_vret, i_aret, i_mmx, i_mmn, i_gsE, i_aceq, i_no, i_acq, i_sw, zsw, zlg, zls, znl, zfg, zcs, zsp, zrc, zisn, zft, zc1, zto, Value.category, List.set_cons_zero, List.set_cons_succ, List.length_cons, List.length_nil, Option.toList, List.append, List.nil_append, List.cons_append, true_and, and_true, Nat.add_zero, Nat.zero_le, Nat.zero_add, Nat.le_refl, Nat.reduceAdd, Nat.reduceLeDiff, co0, z0, zn_0, zn_1, zn_2, zn_3, zn_4, zn_5, zn_8, zn_12, zn_24, zn_121, zn_144, zn_256, zn_300, zn_600, zn_720, zn_1204, zn_1280, zn_2400, zn_4816, zn_14400, zn_90000, q_main, m_main]
    refine ⟨fun _ => ?_, fun h => absurd ((nI_ltI (by omega) (by omega)).mpr (Nat.lt_succ_self w)) h⟩
    refine ⟨ys (v_cv x (cv_n x w (w + 1))) lo hi, rfl, rfl, ?_⟩
    simp only [B_Mo_wish_0, B_Mo_wish_11, B_Mo_wish_24, B_Mo_wish_55, B_Mo_wish_105, B_Mo_wish_141, B_Mo_wish_147, B_Mo_wish_149, B_Mo_wish_196, co_Mo_isCovered, co_Mo_isReader, co_Mo_unread, i_ic, i_lc, i_nul, i_il, i_ll, i_al, i_is, i_as, i_ls, i_inc, i_iadd, i_isub, i_imul, i_iand, i_ior, i_ixor, i_idiv, i_irem, i_ishl, i_ishr, i_ladd, i_lsub, i_land, i_lor, i_i2l, i_lushr, i_lshl, i_lshr, i_lcmp, i_dup, i_pop, i_dx1, i_dup2, i_ifeq, i_ifne, i_iflt, i_ifge, i_ifgt, i_ifle, i_iceq, i_icne, i_iclt, i_icge, i_icgt, i_icle, i_ifn, i_gf, i_pf, i_ial, i_bal, i_lal, i_aal, i_ias, i_las, i_bas, i_aas, i_alen, i_newa, i_new, i_anew, i_cast, i_oi, i_call, i_callV, i_callV2, i_callI, i_iret, i_zret, i_lret, i_vret, i_aret, i_mmx, i_mmn, i_gsE, i_aceq, i_no, i_acq, i_sw, zsw, zlg, zls, znl, zfg, zcs, zsp, zrc, zisn, zft, zc1, zto, Value.category, List.set_cons_zero, List.set_cons_succ, List.length_cons, List.length_nil, Option.toList, List.append, List.nil_append, List.cons_append, true_and, and_true, Nat.add_zero, Nat.zero_le, Nat.zero_add, Nat.le_refl, Nat.reduceAdd, Nat.reduceLeDiff, co0, z0, zn_0, zn_1, zn_2, zn_3, zn_4, zn_5, zn_8, zn_12, zn_24, zn_121, zn_144, zn_256, zn_300, zn_600, zn_720, zn_1204, zn_1280, zn_2400, zn_4816, zn_14400, zn_90000, q_main, m_main]
    obtain ⟨hok, hc, hr⟩ := hR lo hi
    have ecp : y_cp (un_x (ys (v_cv x (cv_n x w (w + 1))) lo hi) 4) = y_cp y := (un_cp _ 4).trans hcw
    exact ⟨c1, c2, Nat.le_refl _, Nat.le_refl _, un_x (ys (v_cv x (cv_n x w (w + 1))) lo hi) 4, rfl, rfl, Jv_un (Jv_ys (Jv_cv hJk)) 4, hok, by rw [ecp]; exact hc.1, by rw [ecp]; exact hc.2, Nat.le_refl _, Nat.le_refl _, hr⟩) 0 (Nat.zero_le _)
  have cov0 : ∀ j4 j5 j6 : Option zAV, zG X 149 [some (.inr (30, 0, 0)), some (.inl (.int (nI r))), some (.inl (.int (nI w))), some (.inl (.int (nI 0))), j4, j5, j6] [] (mp (wy_k z w 4 16)) 0 0 := fun j4 j5 j6 => by
    rw [← hx]
    exact cov (y_lo x) (y_hi x) j4 j5 j6
  -- the tests are copied
  have cpt := upto (N := 4) (P := fun f => ∀ j4 j5 j6 : Option zAV, zG X 55 [some (.inr (30, 0, 0)), some (.inl (.int (nI r))), some (.inl (.int (nI w))), some (.inl (.int (nI f))), j4, j5, j6] [] (mp (wy_k z w f (4 * f))) 0 0) (fun f hf ih j4 j5 j6 => by
    have inner := upto (N := 4) (P := fun k => zG X 105 [some (.inr (30, 0, 0)), some (.inl (.int (nI r))), some (.inl (.int (nI w))), some (.inl (.int (nI f))), some (.inl (.int (nI (4 * w + f)))), some (.inl (.int (nI (1200 + f)))), some (.inl (.int (nI k)))] [] (mp (wy_k z w (f + 1) (4 * f + k))) 0 0) (fun k hk ihk => by
      refine s_Mo_wish_105 hC hN _ _ _ _ _ ?_
      have e1 : y_nu (wy_k z w (f + 1) (4 * f + k)) = cpy (y_nu z) (16 * w) 4800 (4 * f + k) := rfl
      simp only [B_Mo_wish_0, B_Mo_wish_11, B_Mo_wish_24, B_Mo_wish_55, B_Mo_wish_105, B_Mo_wish_141, B_Mo_wish_147, B_Mo_wish_149, B_Mo_wish_196, co_Mo_isCovered, co_Mo_isReader, co_Mo_unread, i_ic, i_lc, i_nul, i_il, i_ll, i_al, i_is, i_as, i_ls, i_inc, i_iadd, i_isub, i_imul, i_iand, i_ior, i_ixor, i_idiv, i_irem, i_ishl, i_ishr, i_ladd, i_lsub, i_land, i_lor, i_i2l, i_lushr, i_lshl, i_lshr, i_lcmp, i_dup, i_pop, i_dx1, i_dup2, i_ifeq, i_ifne, i_iflt, i_ifge, i_ifgt, i_ifle, i_iceq, i_icne, i_iclt, i_icge, i_icgt, i_icle, i_ifn, i_gf, i_pf, i_ial, i_bal, i_lal, i_aal, i_ias, i_las, i_bas, i_aas, i_alen, i_newa, i_new, i_anew, i_cast, i_oi, i_call, i_callV, i_callV2, i_callI, i_iret, i_zret, i_lret, i_vret, i_aret, i_mmx, i_mmn, i_gsE, i_aceq, i_no, i_acq, i_sw, zsw, zlg, zls, znl, zfg, zcs, zsp, zrc, zisn, zft, zc1, zto, Value.category, List.set_cons_zero, List.set_cons_succ, List.length_cons, List.length_nil, Option.toList, List.append, List.nil_append, List.cons_append, true_and, and_true, Nat.add_zero, Nat.zero_le, Nat.zero_add, Nat.le_refl, Nat.reduceAdd, Nat.reduceLeDiff, co0, z0, zn_0, zn_1, zn_2, zn_3, zn_4, zn_5, zn_8, zn_12, zn_24, zn_121, zn_144, zn_256, zn_300, zn_600, zn_720, zn_1204, zn_1280, zn_2400, zn_4816, zn_14400, zn_90000, q_main, m_main, q_nu, ar_4, ar_5, ar_12, ar_300, ar_600, ar_1200, ar_10, nI_add, ar_1, ar_2, ar_3, ar_2m]
      rw [nI_clamp (by omega), nI_clamp (by omega), e1, show 4 * (1200 + f) + k = 4800 + (4 * f + k) by omega, show 4 * (4 * w + f) + k = 16 * w + (4 * f + k) by omega, cpy_o _ (by omega), upd_va, cpy_u _ (by omega), mu_nu]
      exact ⟨fun h => absurd ((zK (K := 4) (by decide) (n := k) (by omega)).2.1.mp h) (by omega), fun _ => ⟨vp_in_nI (by omega) (by decide), m_k (by decide), vp_in_nI (by omega) (by decide), ihk⟩⟩) (by
      refine s_Mo_wish_105 hC hN _ _ _ _ _ ?_
      simp only [B_Mo_wish_0, B_Mo_wish_11, B_Mo_wish_24, B_Mo_wish_55, B_Mo_wish_105, B_Mo_wish_141, B_Mo_wish_147, B_Mo_wish_149, B_Mo_wish_196, co_Mo_isCovered, co_Mo_isReader, co_Mo_unread, i_ic, i_lc, i_nul, i_il, i_ll, i_al, i_is, i_as, i_ls, i_inc, i_iadd, i_isub, i_imul, i_iand, i_ior, i_ixor, i_idiv, i_irem, i_ishl, i_ishr, i_ladd, i_lsub, i_land, i_lor, i_i2l, i_lushr, i_lshl, i_lshr, i_lcmp, i_dup, i_pop, i_dx1, i_dup2, i_ifeq, i_ifne, i_iflt, i_ifge, i_ifgt, i_ifle, i_iceq, i_icne, i_iclt, i_icge, i_icgt, i_icle, i_ifn, i_gf, i_pf, i_ial, i_bal, i_lal, i_aal, i_ias, i_las, i_bas, i_aas, i_alen, i_newa, i_new, i_anew, i_cast, i_oi, i_call, i_callV, i_callV2, i_callI, i_iret, i_zret, i_lret, i_vret, i_aret, i_mmx, i_mmn, i_gsE, i_aceq, i_no, i_acq, i_sw, zsw, zlg, zls, znl, zfg, zcs, zsp, zrc, zisn, zft, zc1, zto, Value.category, List.set_cons_zero, List.set_cons_succ, List.length_cons, List.length_nil, Option.toList, List.append, List.nil_append, List.cons_append, true_and, and_true, Nat.add_zero, Nat.zero_le, Nat.zero_add, Nat.le_refl, Nat.reduceAdd, Nat.reduceLeDiff, co0, z0, zn_0, zn_1, zn_2, zn_3, zn_4, zn_5, zn_8, zn_12, zn_24, zn_121, zn_144, zn_256, zn_300, zn_600, zn_720, zn_1204, zn_1280, zn_2400, zn_4816, zn_14400, zn_90000, q_main, m_main, ar_4, ar_5, ar_12, ar_300, ar_600, ar_1200, ar_10, nI_add, ar_1, ar_2, ar_3, ar_2m]
      exact ⟨fun _ => ih _ _ _, fun h => absurd (by decide) h⟩) 0 (Nat.zero_le _)
    refine s_Mo_wish_55 hC hN _ _ _ _ _ ?_
    have e1 : y_kd (wy_k z w f (4 * f)) = cpy (y_kd z) (4 * w) 1200 f := rfl
    simp only [B_Mo_wish_0, B_Mo_wish_11, B_Mo_wish_24, B_Mo_wish_55, B_Mo_wish_105, B_Mo_wish_141, B_Mo_wish_147, B_Mo_wish_149, B_Mo_wish_196, co_Mo_isCovered, co_Mo_isReader, co_Mo_unread, i_ic, i_lc, i_nul, i_il, i_ll, i_al, i_is, i_as, i_ls, i_inc, i_iadd, i_isub, i_imul, i_iand, i_ior, i_ixor, i_idiv, i_irem, i_ishl, i_ishr, i_ladd, i_lsub, i_land, i_lor, i_i2l, i_lushr, i_lshl, i_lshr, i_lcmp, i_dup, i_pop, i_dx1, i_dup2, i_ifeq, i_ifne, i_iflt, i_ifge, i_ifgt, i_ifle, i_iceq, i_icne, i_iclt, i_icge, i_icgt, i_icle, i_ifn, i_gf, i_pf, i_ial, i_bal, i_lal, i_aal, i_ias, i_las, i_bas, i_aas, i_alen, i_newa, i_new, i_anew, i_cast, i_oi, i_call, i_callV, i_callV2, i_callI, i_iret, i_zret, i_lret, i_vret, i_aret, i_mmx, i_mmn, i_gsE, i_aceq, i_no, i_acq, i_sw, zsw, zlg, zls, znl, zfg, zcs, zsp, zrc, zisn, zft, zc1, zto, Value.category, List.set_cons_zero, List.set_cons_succ, List.length_cons, List.length_nil, Option.toList, List.append, List.nil_append, List.cons_append, true_and, and_true, Nat.add_zero, Nat.zero_le, Nat.zero_add, Nat.le_refl, Nat.reduceAdd, Nat.reduceLeDiff, co0, z0, zn_0, zn_1, zn_2, zn_3, zn_4, zn_5, zn_8, zn_12, zn_24, zn_121, zn_144, zn_256, zn_300, zn_600, zn_720, zn_1204, zn_1280, zn_2400, zn_4816, zn_14400, zn_90000, q_main, m_main, q_kd, ar_4, ar_5, ar_12, ar_300, ar_600, ar_1200, ar_10, nI_add, ar_1, ar_2, ar_3, ar_2m]
    rw [nI_clamp (by omega), nI_clamp (by omega), e1, cpy_o _ (show 4 * w + f ≤ 1200 + f by omega), upd_va, cpy_u _ (by omega), mu_kd]
    refine ⟨fun h => absurd ((zK (K := 4) (by decide) (n := f) (by omega)).2.1.mp h) (by omega), fun _ => ⟨vp_in_nI (by omega) (by decide), m_k (by decide), vp_in_nI (by omega) (by decide), ?_⟩⟩
    have e2 : y_mn (v_kd (wy_k z w f (4 * f)) (cpy (y_kd z) (4 * w) 1200 (f + 1))) = cpy (y_mn z) (4 * w) 1200 f := rfl
    simp only [i_ic, i_lc, i_nul, i_il, i_ll, i_al, i_is, i_as, i_ls, i_inc, i_iadd, i_isub, i_imul, i_iand, i_ior, i_ixor, i_idiv, i_irem, i_ishl, i_ishr, i_ladd, i_lsub, i_land, i_lor, i_i2l, i_lushr, i_lshl, i_lshr, i_lcmp, i_dup, i_pop, i_dx1, i_dup2, i_ifeq, i_ifne, i_iflt, i_ifge, i_ifgt, i_ifle, i_iceq, i_icne, i_iclt, i_icge, i_icgt, i_icle, i_ifn, i_gf, i_pf, i_ial, i_bal, i_lal, i_aal, i_ias, i_las, i_bas, i_aas, i_alen, i_newa, i_new, i_anew, i_cast, i_oi, i_call, i_callV, i_callV2, i_callI, i_iret, i_zret, i_lret, i_vret, i_aret, i_mmx, i_mmn, i_gsE, i_aceq, i_no, i_acq, i_sw, zsw, zlg, zls, znl, zfg, zcs, zsp, zrc, zisn, zft, zc1, zto, Value.category, List.set_cons_zero, List.set_cons_succ, List.length_cons, List.length_nil, Option.toList, List.append, List.nil_append, List.cons_append, true_and, and_true, Nat.add_zero, Nat.zero_le, Nat.zero_add, Nat.le_refl, Nat.reduceAdd, Nat.reduceLeDiff, co0, z0, zn_0, zn_1, zn_2, zn_3, zn_4, zn_5, zn_8, zn_12, zn_24, zn_121, zn_144, zn_256, zn_300, zn_600, zn_720, zn_1204, zn_1280, zn_2400, zn_4816, zn_14400, zn_90000, q_main, m_main, q_mn]
    rw [nI_clamp (by omega), nI_clamp (by omega), e2, cpy_o _ (show 4 * w + f ≤ 1200 + f by omega), upd_nt, cpy_u _ (by omega), mu_mn]
    exact ⟨vp_in_nI (by omega) (by decide), m_k (by decide), vp_in_nI (by omega) (by decide), inner⟩) (fun j4 j5 j6 => by
    refine s_Mo_wish_55 hC hN _ _ _ _ _ ?_
    simp only [B_Mo_wish_0, B_Mo_wish_11, B_Mo_wish_24, B_Mo_wish_55, B_Mo_wish_105, B_Mo_wish_141, B_Mo_wish_147, B_Mo_wish_149, B_Mo_wish_196, co_Mo_isCovered, co_Mo_isReader, co_Mo_unread, i_ic, i_lc, i_nul, i_il, i_ll, i_al, i_is, i_as, i_ls, i_inc, i_iadd, i_isub, i_imul, i_iand, i_ior, i_ixor, i_idiv, i_irem, i_ishl, i_ishr, i_ladd, i_lsub, i_land, i_lor, i_i2l, i_lushr, i_lshl, i_lshr, i_lcmp, i_dup, i_pop, i_dx1, i_dup2, i_ifeq, i_ifne, i_iflt, i_ifge, i_ifgt, i_ifle, i_iceq, i_icne, i_iclt, i_icge, i_icgt, i_icle, i_ifn, i_gf, i_pf, i_ial, i_bal, i_lal, i_aal, i_ias, i_las, i_bas, i_aas, i_alen, i_newa, i_new, i_anew, i_cast, i_oi, i_call, i_callV, i_callV2, i_callI, i_iret, i_zret, i_lret, i_vret, i_aret, i_mmx, i_mmn, i_gsE, i_aceq, i_no, i_acq, i_sw, zsw, zlg, zls, znl, zfg, zcs, zsp, zrc, zisn, zft, zc1, zto, Value.category, List.set_cons_zero, List.set_cons_succ, List.length_cons, List.length_nil, Option.toList, List.append, List.nil_append, List.cons_append, true_and, and_true, Nat.add_zero, Nat.zero_le, Nat.zero_add, Nat.le_refl, Nat.reduceAdd, Nat.reduceLeDiff, co0, z0, zn_0, zn_1, zn_2, zn_3, zn_4, zn_5, zn_8, zn_12, zn_24, zn_121, zn_144, zn_256, zn_300, zn_600, zn_720, zn_1204, zn_1280, zn_2400, zn_4816, zn_14400, zn_90000, q_main, m_main]
    exact ⟨fun _ => cov0 _ _ _, fun h => absurd (by decide) h⟩) 0 (Nat.zero_le _)
  have k0 : wy_k z w 0 (4 * 0) = z := by
    unfold wy_k
    rw [cpy_0, cpy_0, cpy_0]
    rfl
  rw [k0] at cpt
  have e4 := mu_nw y (y_nw y + 1)
  simp only [m_main, k_dk_nw, k_nr_nw, k_nw_nw, k_nn_nw, k_ms_nw, k_cp_nw, k_po_nw, k_ne_nw, k_td_nw, k_lk_nw, k_do_nw, k_ro_nw, k_al_nw, k_kd_nw, k_mn_nw, k_nu_nw, k_fi_nw, k_sa_nw, k_wt_nw, k_hh_nw, k_he_nw, k_hm_nw, k_tb_nw, k_to_nw, k_fr_nw, k_tt_nw, k_wh_nw, k_rw_nw, k_lo_nw, k_hi_nw, k_cv_nw, k_so_nw, k_me_nw, k_re_nw, k_gb_nw] at e4
  simp only [B_Mo_wish_0, B_Mo_wish_11, B_Mo_wish_24, B_Mo_wish_55, B_Mo_wish_105, B_Mo_wish_141, B_Mo_wish_147, B_Mo_wish_149, B_Mo_wish_196, co_Mo_isCovered, co_Mo_isReader, co_Mo_unread, i_ic, i_lc, i_nul, i_il, i_ll, i_al, i_is, i_as, i_ls, i_inc, i_iadd, i_isub, i_imul, i_iand, i_ior, i_ixor, i_idiv, i_irem, i_ishl, i_ishr, i_ladd, i_lsub, i_land, i_lor, i_i2l, i_lushr, i_lshl, i_lshr, i_lcmp, i_dup, i_pop, i_dx1, i_dup2, i_ifeq, i_ifne, i_iflt, i_ifge, i_ifgt, i_ifle, i_iceq, i_icne, i_iclt, i_icge, i_icgt, i_icle, i_ifn, i_gf, i_pf, i_ial, i_bal, i_lal, i_aal, i_ias, i_las, i_bas, i_aas, i_alen, i_newa, i_new, i_anew, i_cast, i_oi, i_call, i_callV, i_callV2, i_callI, i_iret, i_zret, i_lret, i_vret, i_aret, i_mmx, i_mmn, i_gsE, i_aceq, i_no, i_acq, i_sw, zsw, zlg, zls, znl, zfg, zcs, zsp, zrc, zisn, zft, zc1, zto, Value.category, List.set_cons_zero, List.set_cons_succ, List.length_cons, List.length_nil, Option.toList, List.append, List.nil_append, List.cons_append, true_and, and_true, Nat.add_zero, Nat.zero_le, Nat.zero_add, Nat.le_refl, Nat.reduceAdd, Nat.reduceLeDiff, co0, z0, zn_0, zn_1, zn_2, zn_3, zn_4, zn_5, zn_8, zn_12, zn_24, zn_121, zn_144, zn_256, zn_300, zn_600, zn_720, zn_1204, zn_1280, zn_2400, zn_4816, zn_14400, zn_90000, q_main, m_main]
  rw [nI_1, e4]
  refine ⟨m_k (by decide), by decide, ?_⟩
  simp only [i_ic, i_lc, i_nul, i_il, i_ll, i_al, i_is, i_as, i_ls, i_inc, i_iadd, i_isub, i_imul, i_iand, i_ior, i_ixor, i_idiv, i_irem, i_ishl, i_ishr, i_ladd, i_lsub, i_land, i_lor, i_i2l, i_lushr, i_lshl, i_lshr, i_lcmp, i_dup, i_pop, i_dx1, i_dup2, i_ifeq, i_ifne, i_iflt, i_ifge, i_ifgt, i_ifle, i_iceq, i_icne, i_iclt, i_icge, i_icgt, i_icle, i_ifn, i_gf, i_pf, i_ial, i_bal, i_lal, i_aal, i_ias, i_las, i_bas, i_aas, i_alen, i_newa, i_new, i_anew, i_cast, i_oi, i_call, i_callV, i_callV2, i_callI, i_iret, i_zret, i_lret, i_vret, i_aret, i_mmx, i_mmn, i_gsE, i_aceq, i_no, i_acq, i_sw, zsw, zlg, zls, znl, zfg, zcs, zsp, zrc, zisn, zft, zc1, zto, Value.category, List.set_cons_zero, List.set_cons_succ, List.length_cons, List.length_nil, Option.toList, List.append, List.nil_append, List.cons_append, true_and, and_true, Nat.add_zero, Nat.zero_le, Nat.zero_add, Nat.le_refl, Nat.reduceAdd, Nat.reduceLeDiff, co0, z0, zn_0, zn_1, zn_2, zn_3, zn_4, zn_5, zn_8, zn_12, zn_24, zn_121, zn_144, zn_256, zn_300, zn_600, zn_720, zn_1204, zn_1280, zn_2400, zn_4816, zn_14400, zn_90000, q_main, m_main, q_ro]
  rw [nI_clamp (by omega), upd_nt, mu_ro]
  refine ⟨m_k (by decide), vp_in_nI (by omega) (by decide), ?_⟩
  simp only [i_ic, i_lc, i_nul, i_il, i_ll, i_al, i_is, i_as, i_ls, i_inc, i_iadd, i_isub, i_imul, i_iand, i_ior, i_ixor, i_idiv, i_irem, i_ishl, i_ishr, i_ladd, i_lsub, i_land, i_lor, i_i2l, i_lushr, i_lshl, i_lshr, i_lcmp, i_dup, i_pop, i_dx1, i_dup2, i_ifeq, i_ifne, i_iflt, i_ifge, i_ifgt, i_ifle, i_iceq, i_icne, i_iclt, i_icge, i_icgt, i_icle, i_ifn, i_gf, i_pf, i_ial, i_bal, i_lal, i_aal, i_ias, i_las, i_bas, i_aas, i_alen, i_newa, i_new, i_anew, i_cast, i_oi, i_call, i_callV, i_callV2, i_callI, i_iret, i_zret, i_lret, i_vret, i_aret, i_mmx, i_mmn, i_gsE, i_aceq, i_no, i_acq, i_sw, zsw, zlg, zls, znl, zfg, zcs, zsp, zrc, zisn, zft, zc1, zto, Value.category, List.set_cons_zero, List.set_cons_succ, List.length_cons, List.length_nil, Option.toList, List.append, List.nil_append, List.cons_append, true_and, and_true, Nat.add_zero, Nat.zero_le, Nat.zero_add, Nat.le_refl, Nat.reduceAdd, Nat.reduceLeDiff, co0, z0, zn_0, zn_1, zn_2, zn_3, zn_4, zn_5, zn_8, zn_12, zn_24, zn_121, zn_144, zn_256, zn_300, zn_600, zn_720, zn_1204, zn_1280, zn_2400, zn_4816, zn_14400, zn_90000, q_main, m_main, q_al]
  rw [nI_clamp (by omega), upd_b1, mu_al]
  refine ⟨m_k (by decide), vp_in_nI (by omega) (by decide), Or.inr trivial, ?_⟩
  rw [hz, hw0] at cpt
  exact cpt _ _ _
