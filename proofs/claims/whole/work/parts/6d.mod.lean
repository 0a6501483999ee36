/-! the reference: what is asked -/
def T_Mo_covers (As : List zAV) (M : zMp) (Rt : Option zAV → zMp → Prop) : Prop := ∃ y a b, As = [.inr (30, 0, 0), .inl (.int a), .inl (.int b)] ∧ M = mp y ∧ Jv y ∧ (¬ (isn (y_nw y) a = true ∧ isn (y_nw y) b = true) → Rt (some (.inl (.int (-1)))) M) ∧ (∀ i j, i < y_nw y → j < y_nw y → a = nI i → b = nI j → Rt (some (.inl (.int (zb (y_cv y (300 * i + j)))))) M)
abbrev co_Mo_covers := co0
theorem dX7_covers_0 : decode cX7_covers 0 = .ok (.aload_n 0, 1) := by decide +kernel
theorem dX7_covers_1 : decode cX7_covers 1 = .ok (.iload_n 1, 1) := by decide +kernel
theorem dX7_covers_2 : decode cX7_covers 2 = .ok (.invokevirtual 173, 3) := by decide +kernel
theorem dX7_covers_5 : decode cX7_covers 5 = .ok (.ifCond .eq 11, 3) := by decide +kernel
theorem dX7_covers_8 : decode cX7_covers 8 = .ok (.aload_n 0, 1) := by decide +kernel
theorem dX7_covers_9 : decode cX7_covers 9 = .ok (.iload_n 2, 1) := by decide +kernel
theorem dX7_covers_10 : decode cX7_covers 10 = .ok (.invokevirtual 173, 3) := by decide +kernel
theorem dX7_covers_13 : decode cX7_covers 13 = .ok (.ifCond .ne 7, 3) := by decide +kernel
theorem dX7_covers_16 : decode cX7_covers 16 = .ok (.iconst (-1), 1) := by decide +kernel
theorem dX7_covers_17 : decode cX7_covers 17 = .ok (.goto 23, 3) := by decide +kernel
theorem dX7_covers_20 : decode cX7_covers 20 = .ok (.aload_n 0, 1) := by decide +kernel
theorem dX7_covers_21 : decode cX7_covers 21 = .ok (.getfield 76, 3) := by decide +kernel
theorem dX7_covers_24 : decode cX7_covers 24 = .ok (.sipush 300, 3) := by decide +kernel
theorem dX7_covers_27 : decode cX7_covers 27 = .ok (.iload_n 1, 1) := by decide +kernel
theorem dX7_covers_28 : decode cX7_covers 28 = .ok (.imul, 1) := by decide +kernel
theorem dX7_covers_29 : decode cX7_covers 29 = .ok (.iload_n 2, 1) := by decide +kernel
theorem dX7_covers_30 : decode cX7_covers 30 = .ok (.iadd, 1) := by decide +kernel
theorem dX7_covers_31 : decode cX7_covers 31 = .ok (.baload, 1) := by decide +kernel
theorem dX7_covers_32 : decode cX7_covers 32 = .ok (.ifCond .eq 7, 3) := by decide +kernel
theorem dX7_covers_35 : decode cX7_covers 35 = .ok (.iconst 1, 1) := by decide +kernel
theorem dX7_covers_36 : decode cX7_covers 36 = .ok (.goto 4, 3) := by decide +kernel
theorem dX7_covers_39 : decode cX7_covers 39 = .ok (.iconst 0, 1) := by decide +kernel
theorem dX7_covers_40 : decode cX7_covers 40 = .ok (.ireturn, 1) := by decide +kernel
def B_Mo_covers_40 (mc ms : Nat) (Rt : Option zAV → zMp → Prop) (g : Nat → zKT) : zKT :=
  (i_iret mc ms Rt)
set_option maxRecDepth 20000 in
theorem s_Mo_covers_40 {X : zMa} {mc ms : Nat} {Rt : Option zAV → zMp → Prop} (hC : zCx X RX7 cX7_covers 1 21 mc ms (some .int) false Rt) : zLe (B_Mo_covers_40 mc ms Rt (zG X)) (zG X 40) :=
  (sd_iret hC dX7_covers_40)
def B_Mo_covers_39 (mc ms : Nat) (Rt : Option zAV → zMp → Prop) (g : Nat → zKT) : zKT :=
  (i_ic 0 (B_Mo_covers_40 mc ms Rt g))
set_option maxRecDepth 20000 in
theorem s_Mo_covers_39 {X : zMa} {mc ms : Nat} {Rt : Option zAV → zMp → Prop} (hC : zCx X RX7 cX7_covers 1 21 mc ms (some .int) false Rt) : zLe (B_Mo_covers_39 mc ms Rt (zG X)) (zG X 39) :=
  (sd_iconst hC (by decide) dX7_covers_39 (s_Mo_covers_40 hC))
def B_Mo_covers_20 (mc ms : Nat) (Rt : Option zAV → zMp → Prop) (g : Nat → zKT) : zKT :=
  (i_al 0 (i_gf 8 29 (i_ic 300 (i_il 1 (i_imul (i_il 2 (i_iadd (i_bal (i_ifeq (B_Mo_covers_39 mc ms Rt g) (i_ic 1 (B_Mo_covers_40 mc ms Rt g)))))))))))
set_option maxRecDepth 20000 in
theorem s_Mo_covers_20 {X : zMa} {mc ms : Nat} {Rt : Option zAV → zMp → Prop} (hC : zCx X RX7 cX7_covers 1 21 mc ms (some .int) false Rt) : zLe (B_Mo_covers_20 mc ms Rt (zG X)) (zG X 20) :=
  (sd_al_n hC rfl dX7_covers_20 ((sd_gf hC (ci := 8) (fk := 29) rfl wi_Mo (by decide) fl_Mo_76 (Or.inl rfl) dX7_covers_21 ((sd_sipush hC (by decide) dX7_covers_24 ((sd_il_n hC rfl dX7_covers_27 ((sd_imul hC dX7_covers_28 ((sd_il_n hC rfl dX7_covers_29 ((sd_iadd hC dX7_covers_30 ((sd_bal hC dX7_covers_31 ((sd_ifeq hC (tgt := 39) (by decide) dX7_covers_32 (s_Mo_covers_39 hC) ((sd_iconst hC (by decide) dX7_covers_35 ((sd_goto hC (tgt := 40) (by decide) dX7_covers_36 (s_Mo_covers_40 hC))))))))))))))))))))))
def B_Mo_covers_16 (mc ms : Nat) (Rt : Option zAV → zMp → Prop) (g : Nat → zKT) : zKT :=
  (i_ic (-1) (B_Mo_covers_40 mc ms Rt g))
set_option maxRecDepth 20000 in
theorem s_Mo_covers_16 {X : zMa} {mc ms : Nat} {Rt : Option zAV → zMp → Prop} (hC : zCx X RX7 cX7_covers 1 21 mc ms (some .int) false Rt) : zLe (B_Mo_covers_16 mc ms Rt (zG X)) (zG X 16) :=
  (sd_iconst hC (by decide) dX7_covers_16 ((sd_goto hC (tgt := 40) (by decide) dX7_covers_17 (s_Mo_covers_40 hC))))
def B_Mo_covers_0 (mc ms : Nat) (Rt : Option zAV → zMp → Prop) (g : Nat → zKT) : zKT :=
  (i_al 0 (i_il 1 (i_callV mc ms 8 2 T_Mo_isWish co_Mo_isWish (i_ifeq (B_Mo_covers_16 mc ms Rt g) (i_al 0 (i_il 2 (i_callV mc ms 8 2 T_Mo_isWish co_Mo_isWish (i_ifne (B_Mo_covers_20 mc ms Rt g) (B_Mo_covers_16 mc ms Rt g)))))))))
set_option maxRecDepth 20000 in
theorem s_Mo_covers_0 {X : zMa} {mc ms : Nat} {Rt : Option zAV → zMp → Prop} (hC : zCx X RX7 cX7_covers 1 21 mc ms (some .int) false Rt) : zLe (B_Mo_covers_0 mc ms Rt (zG X)) (zG X 0) :=
  (sd_al_n hC rfl dX7_covers_0 ((sd_il_n hC rfl dX7_covers_1 ((sd_cV hC c_Mo_isWish yv_Mo_isWish (ci := 8) rfl rfl ml_Mo_173 (by decide) (by decide) dX7_covers_2 ((sd_ifeq hC (tgt := 16) (by decide) dX7_covers_5 (s_Mo_covers_16 hC) ((sd_al_n hC rfl dX7_covers_8 ((sd_il_n hC rfl dX7_covers_9 ((sd_cV hC c_Mo_isWish yv_Mo_isWish (ci := 8) rfl rfl ml_Mo_173 (by decide) (by decide) dX7_covers_10 ((sd_ifne hC (tgt := 20) (by decide) dX7_covers_13 (s_Mo_covers_20 hC) (s_Mo_covers_16 hC))))))))))))))))
theorem c_Mo_covers (l : Launch) : zCT l yX7_covers cX7_covers 3 (some .int) 1 21 T_Mo_covers co_Mo_covers := by
  intro As M Rt hT
  obtain ⟨y, a, b, rfl, rfl, hJ, hR0, hR1⟩ := hT
  have hlim := hJ.lim
  refine zMet_of false (by decide +kernel) (fun h => by first | rfl | cases h) (Nat.le_of_ble_eq_true rfl) (fun X hN hC => ?_)
  show zG X 0 [some (.inr (30, 0, 0)), some (.inl (.int a)), some (.inl (.int b))] [] (mp y) 0 0
  refine s_Mo_covers_0 hC _ _ _ _ _ ?_
  simp only [B_Mo_covers_0, B_Mo_covers_16, B_Mo_covers_20, B_Mo_covers_39, B_Mo_covers_40, co_Mo_covers, co_Mo_isWish, i_ic, i_lc, i_nul, i_il, i_ll, i_al, i_is, i_as, i_ls, i_inc, i_iadd, i_isub, i_imul, i_iand, i_ior, i_ixor, i_idiv, i_irem, i_ishl, i_ishr, i_ladd, i_lsub, i_land, i_lor, i_i2l, i_lushr, i_lshl, i_lshr, i_lcmp, i_dup, i_pop, i_dx1, i_dup2, i_ifeq, i_ifne, i_iflt, i_ifge, i_ifgt, i_ifle, i_iceq, i_icne, i_iclt, i_icge, i_icgt, i_icle, i_ifn, i_gf, i_pf, i_ial, i_bal, i_lal, i_aal, i_ias, i_las, i_bas, i_aas, i_alen, i_newa, i_new, i_anew, i_cast, i_oi, i_call, i_callV, i_callV2, i_callI, i_iret, i_zret, i_lret, i_vret, i_aret, i_mmx, i_mmn, i_gsE, i_aceq, i_no, i_acq, i_sw, zsw, zlg, zls, znl, zfg, zcs, zsp, zrc, zisn, zft, zc1, zto, Value.category, List.set_cons_zero, List.set_cons_succ, List.length_cons, List.length_nil, Option.toList, List.append, List.nil_append, List.cons_append, true_and, and_true, Nat.add_zero, Nat.zero_le, Nat.zero_add, Nat.le_refl, Nat.reduceAdd, Nat.reduceLeDiff, co0, z0, zn_0, zn_1, zn_2, zn_3, zn_4, zn_5, zn_8, zn_12, zn_24, zn_121, zn_144, zn_256, zn_300, zn_600, zn_720, zn_1204, zn_1280, zn_2400, zn_4816, zn_14400, zn_90000, q_main, m_main]
  refine ⟨y, a, rfl, rfl, ?_⟩
  simp only [B_Mo_covers_0, B_Mo_covers_16, B_Mo_covers_20, B_Mo_covers_39, B_Mo_covers_40, co_Mo_covers, co_Mo_isWish, i_ic, i_lc, i_nul, i_il, i_ll, i_al, i_is, i_as, i_ls, i_inc, i_iadd, i_isub, i_imul, i_iand, i_ior, i_ixor, i_idiv, i_irem, i_ishl, i_ishr, i_ladd, i_lsub, i_land, i_lor, i_i2l, i_lushr, i_lshl, i_lshr, i_lcmp, i_dup, i_pop, i_dx1, i_dup2, i_ifeq, i_ifne, i_iflt, i_ifge, i_ifgt, i_ifle, i_iceq, i_icne, i_iclt, i_icge, i_icgt, i_icle, i_ifn, i_gf, i_pf, i_ial, i_bal, i_lal, i_aal, i_ias, i_las, i_bas, i_aas, i_alen, i_newa, i_new, i_anew, i_cast, i_oi, i_call, i_callV, i_callV2, i_callI, i_iret, i_zret, i_lret, i_vret, i_aret, i_mmx, i_mmn, i_gsE, i_aceq, i_no, i_acq, i_sw, zsw, zlg, zls, znl, zfg, zcs, zsp, zrc, zisn, zft, zc1, zto, Value.category, List.set_cons_zero, List.set_cons_succ, List.length_cons, List.length_nil, Option.toList, List.append, List.nil_append, List.cons_append, true_and, and_true, Nat.add_zero, Nat.zero_le, Nat.zero_add, Nat.le_refl, Nat.reduceAdd, Nat.reduceLeDiff, co0, z0, zn_0, zn_1, zn_2, zn_3, zn_4, zn_5, zn_8, zn_12, zn_24, zn_121, zn_144, zn_256, zn_300, zn_600, zn_720, zn_1204, zn_1280, zn_2400, zn_4816, zn_14400, zn_90000, q_main, m_main]
  refine ⟨fun h => hR0 (fun q => by rw [q.1] at h; exact absurd h (by decide)), fun h => ⟨y, b, rfl, rfl, ?_⟩⟩
  simp only [B_Mo_covers_0, B_Mo_covers_16, B_Mo_covers_20, B_Mo_covers_39, B_Mo_covers_40, co_Mo_covers, co_Mo_isWish, i_ic, i_lc, i_nul, i_il, i_ll, i_al, i_is, i_as, i_ls, i_inc, i_iadd, i_isub, i_imul, i_iand, i_ior, i_ixor, i_idiv, i_irem, i_ishl, i_ishr, i_ladd, i_lsub, i_land, i_lor, i_i2l, i_lushr, i_lshl, i_lshr, i_lcmp, i_dup, i_pop, i_dx1, i_dup2, i_ifeq, i_ifne, i_iflt, i_ifge, i_ifgt, i_ifle, i_iceq, i_icne, i_iclt, i_icge, i_icgt, i_icle, i_ifn, i_gf, i_pf, i_ial, i_bal, i_lal, i_aal, i_ias, i_las, i_bas, i_aas, i_alen, i_newa, i_new, i_anew, i_cast, i_oi, i_call, i_callV, i_callV2, i_callI, i_iret, i_zret, i_lret, i_vret, i_aret, i_mmx, i_mmn, i_gsE, i_aceq, i_no, i_acq, i_sw, zsw, zlg, zls, znl, zfg, zcs, zsp, zrc, zisn, zft, zc1, zto, Value.category, List.set_cons_zero, List.set_cons_succ, List.length_cons, List.length_nil, Option.toList, List.append, List.nil_append, List.cons_append, true_and, and_true, Nat.add_zero, Nat.zero_le, Nat.zero_add, Nat.le_refl, Nat.reduceAdd, Nat.reduceLeDiff, co0, z0, zn_0, zn_1, zn_2, zn_3, zn_4, zn_5, zn_8, zn_12, zn_24, zn_121, zn_144, zn_256, zn_300, zn_600, zn_720, zn_1204, zn_1280, zn_2400, zn_4816, zn_14400, zn_90000, q_main, m_main, q_cv]
  refine ⟨fun h2 => ?_, fun h2 => hR0 (fun q => by rw [q.2] at h2; exact absurd h2 (by decide))⟩
  obtain ⟨i, hi, rfl⟩ := isn_t (by omega) (zb_n0 h)
  obtain ⟨j, hj, rfl⟩ := isn_t (by omega) (zb_n0 h2)
  have hR := hR1 i j hi hj rfl rfl
  simp only [ar_4, ar_5, ar_12, ar_300, ar_600, ar_1200, ar_10, nI_add, ar_1, ar_2, ar_3, ar_2m]
  rw [nI_clamp (by omega)]
  refine ⟨vp_in_nI (by omega) (by decide), fun h3 => ?_, fun h3 => ?_⟩
  · rw [zb_0.mp h3] at hR; exact hR
  · rw [zb_n0 h3] at hR; exact hR
def T_Mo_fits (As : List zAV) (M : zMp) (Rt : Option zAV → zMp → Prop) : Prop := ∃ y k a b c d, As = [.inr (30, 0, 0), .inl (.int k), .inl (.int a), .inl (.int b), .inl (.int c), .inl (.int d)] ∧ M = mp y ∧ Jv y ∧ (isn (y_nw y) k = false → Rt (some (.inl (.int (-1)))) M) ∧ (∀ w, w < y_nw y → k = nI w → Rt (some (.inl (.int (zb (y_fit y w (zf4 a b c d)))))) M)
abbrev co_Mo_fits := co0
theorem dX7_fits_0 : decode cX7_fits 0 = .ok (.aload_n 0, 1) := by decide +kernel
theorem dX7_fits_1 : decode cX7_fits 1 = .ok (.iload_n 1, 1) := by decide +kernel
theorem dX7_fits_2 : decode cX7_fits 2 = .ok (.invokevirtual 173, 3) := by decide +kernel
theorem dX7_fits_5 : decode cX7_fits 5 = .ok (.ifCond .ne 7, 3) := by decide +kernel
theorem dX7_fits_8 : decode cX7_fits 8 = .ok (.iconst (-1), 1) := by decide +kernel
theorem dX7_fits_9 : decode cX7_fits 9 = .ok (.goto 22, 3) := by decide +kernel
theorem dX7_fits_12 : decode cX7_fits 12 = .ok (.aload_n 0, 1) := by decide +kernel
theorem dX7_fits_13 : decode cX7_fits 13 = .ok (.iload_n 1, 1) := by decide +kernel
theorem dX7_fits_14 : decode cX7_fits 14 = .ok (.iload_n 2, 1) := by decide +kernel
theorem dX7_fits_15 : decode cX7_fits 15 = .ok (.iload_n 3, 1) := by decide +kernel
theorem dX7_fits_16 : decode cX7_fits 16 = .ok (.iload 4, 2) := by decide +kernel
theorem dX7_fits_18 : decode cX7_fits 18 = .ok (.iload 5, 2) := by decide +kernel
theorem dX7_fits_20 : decode cX7_fits 20 = .ok (.invokevirtual 102, 3) := by decide +kernel
theorem dX7_fits_23 : decode cX7_fits 23 = .ok (.ifCond .eq 7, 3) := by decide +kernel
theorem dX7_fits_26 : decode cX7_fits 26 = .ok (.iconst 1, 1) := by decide +kernel
theorem dX7_fits_27 : decode cX7_fits 27 = .ok (.goto 4, 3) := by decide +kernel
theorem dX7_fits_30 : decode cX7_fits 30 = .ok (.iconst 0, 1) := by decide +kernel
theorem dX7_fits_31 : decode cX7_fits 31 = .ok (.ireturn, 1) := by decide +kernel
def B_Mo_fits_31 (mc ms : Nat) (Rt : Option zAV → zMp → Prop) (g : Nat → zKT) : zKT :=
  (i_iret mc ms Rt)
set_option maxRecDepth 20000 in
theorem s_Mo_fits_31 {X : zMa} {mc ms : Nat} {Rt : Option zAV → zMp → Prop} (hC : zCx X RX7 cX7_fits 2 50 mc ms (some .int) false Rt) : zLe (B_Mo_fits_31 mc ms Rt (zG X)) (zG X 31) :=
  (sd_iret hC dX7_fits_31)
def B_Mo_fits_30 (mc ms : Nat) (Rt : Option zAV → zMp → Prop) (g : Nat → zKT) : zKT :=
  (i_ic 0 (B_Mo_fits_31 mc ms Rt g))
set_option maxRecDepth 20000 in
theorem s_Mo_fits_30 {X : zMa} {mc ms : Nat} {Rt : Option zAV → zMp → Prop} (hC : zCx X RX7 cX7_fits 2 50 mc ms (some .int) false Rt) : zLe (B_Mo_fits_30 mc ms Rt (zG X)) (zG X 30) :=
  (sd_iconst hC (by decide) dX7_fits_30 (s_Mo_fits_31 hC))
def B_Mo_fits_12 (mc ms : Nat) (Rt : Option zAV → zMp → Prop) (g : Nat → zKT) : zKT :=
  (i_al 0 (i_il 1 (i_il 2 (i_il 3 (i_il 4 (i_il 5 (i_callV mc ms 8 6 T_Mo_isFit co_Mo_isFit (i_ifeq (B_Mo_fits_30 mc ms Rt g) (i_ic 1 (B_Mo_fits_31 mc ms Rt g))))))))))
set_option maxRecDepth 20000 in
theorem s_Mo_fits_12 {X : zMa} {mc ms : Nat} {Rt : Option zAV → zMp → Prop} (hC : zCx X RX7 cX7_fits 2 50 mc ms (some .int) false Rt) : zLe (B_Mo_fits_12 mc ms Rt (zG X)) (zG X 12) :=
  (sd_al_n hC rfl dX7_fits_12 ((sd_il_n hC rfl dX7_fits_13 ((sd_il_n hC rfl dX7_fits_14 ((sd_il_n hC rfl dX7_fits_15 ((sd_il hC dX7_fits_16 ((sd_il hC dX7_fits_18 ((sd_cV hC c_Mo_isFit yv_Mo_isFit (ci := 8) rfl rfl ml_Mo_102 (by decide) (by decide) dX7_fits_20 ((sd_ifeq hC (tgt := 30) (by decide) dX7_fits_23 (s_Mo_fits_30 hC) ((sd_iconst hC (by decide) dX7_fits_26 ((sd_goto hC (tgt := 31) (by decide) dX7_fits_27 (s_Mo_fits_31 hC))))))))))))))))))))
def B_Mo_fits_0 (mc ms : Nat) (Rt : Option zAV → zMp → Prop) (g : Nat → zKT) : zKT :=
  (i_al 0 (i_il 1 (i_callV mc ms 8 2 T_Mo_isWish co_Mo_isWish (i_ifne (B_Mo_fits_12 mc ms Rt g) (i_ic (-1) (B_Mo_fits_31 mc ms Rt g))))))
set_option maxRecDepth 20000 in
theorem s_Mo_fits_0 {X : zMa} {mc ms : Nat} {Rt : Option zAV → zMp → Prop} (hC : zCx X RX7 cX7_fits 2 50 mc ms (some .int) false Rt) : zLe (B_Mo_fits_0 mc ms Rt (zG X)) (zG X 0) :=
  (sd_al_n hC rfl dX7_fits_0 ((sd_il_n hC rfl dX7_fits_1 ((sd_cV hC c_Mo_isWish yv_Mo_isWish (ci := 8) rfl rfl ml_Mo_173 (by decide) (by decide) dX7_fits_2 ((sd_ifne hC (tgt := 12) (by decide) dX7_fits_5 (s_Mo_fits_12 hC) ((sd_iconst hC (by decide) dX7_fits_8 ((sd_goto hC (tgt := 31) (by decide) dX7_fits_9 (s_Mo_fits_31 hC))))))))))))
theorem c_Mo_fits (l : Launch) : zCT l yX7_fits cX7_fits 6 (some .int) 2 50 T_Mo_fits co_Mo_fits := by
  intro As M Rt hT
  obtain ⟨y, k, a, b, c, d, rfl, rfl, hJ, hR0, hR1⟩ := hT
  have hlim := hJ.lim
  refine zMet_of false (by decide +kernel) (fun h => by first | rfl | cases h) (Nat.le_of_ble_eq_true rfl) (fun X hN hC => ?_)
  show zG X 0 [some (.inr (30, 0, 0)), some (.inl (.int k)), some (.inl (.int a)), some (.inl (.int b)), some (.inl (.int c)), some (.inl (.int d))] [] (mp y) 0 0
  refine s_Mo_fits_0 hC _ _ _ _ _ ?_
  simp only [B_Mo_fits_0, B_Mo_fits_12, B_Mo_fits_30, B_Mo_fits_31, co_Mo_fits, co_Mo_isFit, co_Mo_isWish, i_ic, i_lc, i_nul, i_il, i_ll, i_al, i_is, i_as, i_ls, i_inc, i_iadd, i_isub, i_imul, i_iand, i_ior, i_ixor, i_idiv, i_irem, i_ishl, i_ishr, i_ladd, i_lsub, i_land, i_lor, i_i2l, i_lushr, i_lshl, i_lshr, i_lcmp, i_dup, i_pop, i_dx1, i_dup2, i_ifeq, i_ifne, i_iflt, i_ifge, i_ifgt, i_ifle, i_iceq, i_icne, i_iclt, i_icge, i_icgt, i_icle, i_ifn, i_gf, i_pf, i_ial, i_bal, i_lal, i_aal, i_ias, i_las, i_bas, i_aas, i_alen, i_newa, i_new, i_anew, i_cast, i_oi, i_call, i_callV, i_callV2, i_callI, i_iret, i_zret, i_lret, i_vret, i_aret, i_mmx, i_mmn, i_gsE, i_aceq, i_no, i_acq, i_sw, zsw, zlg, zls, znl, zfg, zcs, zsp, zrc, zisn, zft, zc1, zto, Value.category, List.set_cons_zero, List.set_cons_succ, List.length_cons, List.length_nil, Option.toList, List.append, List.nil_append, List.cons_append, true_and, and_true, Nat.add_zero, Nat.zero_le, Nat.zero_add, Nat.le_refl, Nat.reduceAdd, Nat.reduceLeDiff, co0, z0, zn_0, zn_1, zn_2, zn_3, zn_4, zn_5, zn_8, zn_12, zn_24, zn_121, zn_144, zn_256, zn_300, zn_600, zn_720, zn_1204, zn_1280, zn_2400, zn_4816, zn_14400, zn_90000, q_main, m_main]
  refine ⟨y, k, rfl, rfl, ?_⟩
  simp only [B_Mo_fits_0, B_Mo_fits_12, B_Mo_fits_30, B_Mo_fits_31, co_Mo_fits, co_Mo_isFit, co_Mo_isWish, i_ic, i_lc, i_nul, i_il, i_ll, i_al, i_is, i_as, i_ls, i_inc, i_iadd, i_isub, i_imul, i_iand, i_ior, i_ixor, i_idiv, i_irem, i_ishl, i_ishr, i_ladd, i_lsub, i_land, i_lor, i_i2l, i_lushr, i_lshl, i_lshr, i_lcmp, i_dup, i_pop, i_dx1, i_dup2, i_ifeq, i_ifne, i_iflt, i_ifge, i_ifgt, i_ifle, i_iceq, i_icne, i_iclt, i_icge, i_icgt, i_icle, i_ifn, i_gf, i_pf, i_ial, i_bal, i_lal, i_aal, i_ias, i_las, i_bas, i_aas, i_alen, i_newa, i_new, i_anew, i_cast, i_oi, i_call, i_callV, i_callV2, i_callI, i_iret, i_zret, i_lret, i_vret, i_aret, i_mmx, i_mmn, i_gsE, i_aceq, i_no, i_acq, i_sw, zsw, zlg, zls, znl, zfg, zcs, zsp, zrc, zisn, zft, zc1, zto, Value.category, List.set_cons_zero, List.set_cons_succ, List.length_cons, List.length_nil, Option.toList, List.append, List.nil_append, List.cons_append, true_and, and_true, Nat.add_zero, Nat.zero_le, Nat.zero_add, Nat.le_refl, Nat.reduceAdd, Nat.reduceLeDiff, co0, z0, zn_0, zn_1, zn_2, zn_3, zn_4, zn_5, zn_8, zn_12, zn_24, zn_121, zn_144, zn_256, zn_300, zn_600, zn_720, zn_1204, zn_1280, zn_2400, zn_4816, zn_14400, zn_90000, q_main, m_main]
  refine ⟨fun h => ?_, fun h => hR0 (zb_0.mp h)⟩
  obtain ⟨w, hw, rfl⟩ := isn_t (by omega) (zb_n0 h)
  have hR := hR1 w hw rfl
  refine ⟨y, w, a, b, c, d, rfl, rfl, by omega, hJ, ?_⟩
  simp only [B_Mo_fits_0, B_Mo_fits_12, B_Mo_fits_30, B_Mo_fits_31, co_Mo_fits, co_Mo_isFit, co_Mo_isWish, i_ic, i_lc, i_nul, i_il, i_ll, i_al, i_is, i_as, i_ls, i_inc, i_iadd, i_isub, i_imul, i_iand, i_ior, i_ixor, i_idiv, i_irem, i_ishl, i_ishr, i_ladd, i_lsub, i_land, i_lor, i_i2l, i_lushr, i_lshl, i_lshr, i_lcmp, i_dup, i_pop, i_dx1, i_dup2, i_ifeq, i_ifne, i_iflt, i_ifge, i_ifgt, i_ifle, i_iceq, i_icne, i_iclt, i_icge, i_icgt, i_icle, i_ifn, i_gf, i_pf, i_ial, i_bal, i_lal, i_aal, i_ias, i_las, i_bas, i_aas, i_alen, i_newa, i_new, i_anew, i_cast, i_oi, i_call, i_callV, i_callV2, i_callI, i_iret, i_zret, i_lret, i_vret, i_aret, i_mmx, i_mmn, i_gsE, i_aceq, i_no, i_acq, i_sw, zsw, zlg, zls, znl, zfg, zcs, zsp, zrc, zisn, zft, zc1, zto, Value.category, List.set_cons_zero, List.set_cons_succ, List.length_cons, List.length_nil, Option.toList, List.append, List.nil_append, List.cons_append, true_and, and_true, Nat.add_zero, Nat.zero_le, Nat.zero_add, Nat.le_refl, Nat.reduceAdd, Nat.reduceLeDiff, co0, z0, zn_0, zn_1, zn_2, zn_3, zn_4, zn_5, zn_8, zn_12, zn_24, zn_121, zn_144, zn_256, zn_300, zn_600, zn_720, zn_1204, zn_1280, zn_2400, zn_4816, zn_14400, zn_90000, q_main, m_main]
  refine ⟨fun h3 => ?_, fun h3 => ?_⟩
  · rw [zb_0.mp h3] at hR; exact hR
  · rw [zb_n0 h3] at hR; exact hR
/-! rows -/
def nthY (f : Nat → Int64) : Nat → Nat → Int32 → Int32
  | 0, _, _ => -1
  | n + 1, w, b => if zbit f w = true then (if b = 0 then nI w else nthY f n (w + 1) (b - 1)) else nthY f n (w + 1) b
def T_Mo_inRow (As : List zAV) (M : zMp) (Rt : Option zAV → zMp → Prop) : Prop := ∃ y q f u v i, As = [.inr (30, 0, 0), .inr q, .inl (.int u), .inl (.int v), .inl (.int i)] ∧ M = mp y ∧ mp y q = some (zll 720 f) ∧ Jv y ∧ (¬ (isn (y_dk y) u = true ∧ isn (y_dk y) v = true ∧ ¬ i < 0) → Rt (some (.inl (.int (-1)))) M) ∧ (∀ a b, a < y_dk y → b < y_dk y → u = nI a → v = nI b → ¬ i < 0 → Rt (some (.inl (.int (nthY (sh f (5 * (12 * a + b))) (y_nw y) 0 i)))) M)
abbrev co_Mo_inRow := co0
theorem dX7_inRow_0 : decode cX7_inRow 0 = .ok (.aload_n 0, 1) := by decide +kernel
theorem dX7_inRow_1 : decode cX7_inRow 1 = .ok (.iload_n 2, 1) := by decide +kernel
theorem dX7_inRow_2 : decode cX7_inRow 2 = .ok (.invokevirtual 143, 3) := by decide +kernel
theorem dX7_inRow_5 : decode cX7_inRow 5 = .ok (.ifCond .eq 16, 3) := by decide +kernel
theorem dX7_inRow_8 : decode cX7_inRow 8 = .ok (.aload_n 0, 1) := by decide +kernel
theorem dX7_inRow_9 : decode cX7_inRow 9 = .ok (.iload_n 3, 1) := by decide +kernel
theorem dX7_inRow_10 : decode cX7_inRow 10 = .ok (.invokevirtual 143, 3) := by decide +kernel
theorem dX7_inRow_13 : decode cX7_inRow 13 = .ok (.ifCond .eq 8, 3) := by decide +kernel
theorem dX7_inRow_16 : decode cX7_inRow 16 = .ok (.iload 4, 2) := by decide +kernel
theorem dX7_inRow_18 : decode cX7_inRow 18 = .ok (.ifCond .ge 5, 3) := by decide +kernel
theorem dX7_inRow_21 : decode cX7_inRow 21 = .ok (.iconst (-1), 1) := by decide +kernel
theorem dX7_inRow_22 : decode cX7_inRow 22 = .ok (.ireturn, 1) := by decide +kernel
theorem dX7_inRow_23 : decode cX7_inRow 23 = .ok (.iload 4, 2) := by decide +kernel
theorem dX7_inRow_25 : decode cX7_inRow 25 = .ok (.istore 5, 2) := by decide +kernel
theorem dX7_inRow_27 : decode cX7_inRow 27 = .ok (.iconst 0, 1) := by decide +kernel
theorem dX7_inRow_28 : decode cX7_inRow 28 = .ok (.istore 6, 2) := by decide +kernel
theorem dX7_inRow_30 : decode cX7_inRow 30 = .ok (.iload 6, 2) := by decide +kernel
theorem dX7_inRow_32 : decode cX7_inRow 32 = .ok (.aload_n 0, 1) := by decide +kernel
theorem dX7_inRow_33 : decode cX7_inRow 33 = .ok (.getfield 95, 3) := by decide +kernel
theorem dX7_inRow_36 : decode cX7_inRow 36 = .ok (.if_icmp .ge 34, 3) := by decide +kernel
theorem dX7_inRow_39 : decode cX7_inRow 39 = .ok (.aload_n 1, 1) := by decide +kernel
theorem dX7_inRow_40 : decode cX7_inRow 40 = .ok (.iload_n 2, 1) := by decide +kernel
theorem dX7_inRow_41 : decode cX7_inRow 41 = .ok (.iload_n 3, 1) := by decide +kernel
theorem dX7_inRow_42 : decode cX7_inRow 42 = .ok (.invokestatic 122, 3) := by decide +kernel
theorem dX7_inRow_45 : decode cX7_inRow 45 = .ok (.iload 6, 2) := by decide +kernel
theorem dX7_inRow_47 : decode cX7_inRow 47 = .ok (.invokestatic 125, 3) := by decide +kernel
theorem dX7_inRow_50 : decode cX7_inRow 50 = .ok (.ifCond .eq 14, 3) := by decide +kernel
theorem dX7_inRow_53 : decode cX7_inRow 53 = .ok (.iload 5, 2) := by decide +kernel
theorem dX7_inRow_55 : decode cX7_inRow 55 = .ok (.ifCond .ne 6, 3) := by decide +kernel
theorem dX7_inRow_58 : decode cX7_inRow 58 = .ok (.iload 6, 2) := by decide +kernel
theorem dX7_inRow_60 : decode cX7_inRow 60 = .ok (.ireturn, 1) := by decide +kernel
theorem dX7_inRow_61 : decode cX7_inRow 61 = .ok (.iinc 5 (-1), 3) := by decide +kernel
theorem dX7_inRow_64 : decode cX7_inRow 64 = .ok (.iinc 6 1, 3) := by decide +kernel
theorem dX7_inRow_67 : decode cX7_inRow 67 = .ok (.goto (-37), 3) := by decide +kernel
theorem dX7_inRow_70 : decode cX7_inRow 70 = .ok (.iconst (-1), 1) := by decide +kernel
theorem dX7_inRow_71 : decode cX7_inRow 71 = .ok (.ireturn, 1) := by decide +kernel
def B_Mo_inRow_70 (mc ms : Nat) (Rt : Option zAV → zMp → Prop) (g : Nat → zKT) : zKT :=
  (i_ic (-1) (i_iret mc ms Rt))
set_option maxRecDepth 20000 in
theorem s_Mo_inRow_70 {X : zMa} {mc ms : Nat} {Rt : Option zAV → zMp → Prop} (hC : zCx X RX7 cX7_inRow 1 22 mc ms (some .int) false Rt) (hN : zNL X = 7) : zLe (B_Mo_inRow_70 mc ms Rt (zG X)) (zG X 70) :=
  (sd_iconst hC (by decide) dX7_inRow_70 ((sd_iret hC dX7_inRow_71)))
def B_Mo_inRow_64 (mc ms : Nat) (Rt : Option zAV → zMp → Prop) (g : Nat → zKT) : zKT :=
  (i_inc 6 1 (g 30))
set_option maxRecDepth 20000 in
theorem s_Mo_inRow_64 {X : zMa} {mc ms : Nat} {Rt : Option zAV → zMp → Prop} (hC : zCx X RX7 cX7_inRow 1 22 mc ms (some .int) false Rt) (hN : zNL X = 7) : zLe (B_Mo_inRow_64 mc ms Rt (zG X)) (zG X 64) :=
  (sd_inc hC (by decide) (by rw [hN]; decide) dX7_inRow_64 ((sd_goto hC (tgt := 30) (by decide) dX7_inRow_67 (zLe_rfl))))
def B_Mo_inRow_61 (mc ms : Nat) (Rt : Option zAV → zMp → Prop) (g : Nat → zKT) : zKT :=
  (i_inc 5 (-1) (B_Mo_inRow_64 mc ms Rt g))
set_option maxRecDepth 20000 in
theorem s_Mo_inRow_61 {X : zMa} {mc ms : Nat} {Rt : Option zAV → zMp → Prop} (hC : zCx X RX7 cX7_inRow 1 22 mc ms (some .int) false Rt) (hN : zNL X = 7) : zLe (B_Mo_inRow_61 mc ms Rt (zG X)) (zG X 61) :=
  (sd_inc hC (by decide) (by rw [hN]; decide) dX7_inRow_61 (s_Mo_inRow_64 hC hN))
def B_Mo_inRow_30 (mc ms : Nat) (Rt : Option zAV → zMp → Prop) (g : Nat → zKT) : zKT :=
  (i_il 6 (i_al 0 (i_gf 8 2 (i_icge (B_Mo_inRow_70 mc ms Rt g) (i_al 1 (i_il 2 (i_il 3 (i_call mc ms 2 T_Mo_rowOf co_Mo_rowOf (i_il 6 (i_call mc ms 3 T_Mo_has co_Mo_has (i_ifeq (B_Mo_inRow_64 mc ms Rt g) (i_il 5 (i_ifne (B_Mo_inRow_61 mc ms Rt g) (i_il 6 (i_iret mc ms Rt)))))))))))))))
set_option maxRecDepth 20000 in
theorem s_Mo_inRow_30 {X : zMa} {mc ms : Nat} {Rt : Option zAV → zMp → Prop} (hC : zCx X RX7 cX7_inRow 1 22 mc ms (some .int) false Rt) (hN : zNL X = 7) : zLe (B_Mo_inRow_30 mc ms Rt (zG X)) (zG X 30) :=
  (sd_il hC dX7_inRow_30 ((sd_al_n hC rfl dX7_inRow_32 ((sd_gf hC (ci := 8) (fk := 2) rfl wi_Mo (by decide) fl_Mo_95 (Or.inl rfl) dX7_inRow_33 ((sd_icge hC (tgt := 70) (by decide) dX7_inRow_36 (s_Mo_inRow_70 hC hN) ((sd_al_n hC rfl dX7_inRow_39 ((sd_il_n hC rfl dX7_inRow_40 ((sd_il_n hC rfl dX7_inRow_41 ((sd_cS hC c_Mo_rowOf ys_Mo_rowOf ml_Mo_122 (by decide) (by decide) dX7_inRow_42 ((sd_il hC dX7_inRow_45 ((sd_cS hC c_Mo_has ys_Mo_has ml_Mo_125 (by decide) (by decide) dX7_inRow_47 ((sd_ifeq hC (tgt := 64) (by decide) dX7_inRow_50 (s_Mo_inRow_64 hC hN) ((sd_il hC dX7_inRow_53 ((sd_ifne hC (tgt := 61) (by decide) dX7_inRow_55 (s_Mo_inRow_61 hC hN) ((sd_il hC dX7_inRow_58 ((sd_iret hC dX7_inRow_60)))))))))))))))))))))))))))))
def B_Mo_inRow_23 (mc ms : Nat) (Rt : Option zAV → zMp → Prop) (g : Nat → zKT) : zKT :=
  (i_il 4 (i_is 5 (i_ic 0 (i_is 6 (g 30)))))
set_option maxRecDepth 20000 in
theorem s_Mo_inRow_23 {X : zMa} {mc ms : Nat} {Rt : Option zAV → zMp → Prop} (hC : zCx X RX7 cX7_inRow 1 22 mc ms (some .int) false Rt) (hN : zNL X = 7) : zLe (B_Mo_inRow_23 mc ms Rt (zG X)) (zG X 23) :=
  (sd_il hC dX7_inRow_23 ((sd_is hC (by rw [hN]; decide) dX7_inRow_25 ((sd_iconst hC (by decide) dX7_inRow_27 ((sd_is hC (by rw [hN]; decide) dX7_inRow_28 (zLe_rfl))))))))
def B_Mo_inRow_21 (mc ms : Nat) (Rt : Option zAV → zMp → Prop) (g : Nat → zKT) : zKT :=
  (i_ic (-1) (i_iret mc ms Rt))
set_option maxRecDepth 20000 in
theorem s_Mo_inRow_21 {X : zMa} {mc ms : Nat} {Rt : Option zAV → zMp → Prop} (hC : zCx X RX7 cX7_inRow 1 22 mc ms (some .int) false Rt) (hN : zNL X = 7) : zLe (B_Mo_inRow_21 mc ms Rt (zG X)) (zG X 21) :=
  (sd_iconst hC (by decide) dX7_inRow_21 ((sd_iret hC dX7_inRow_22)))
def B_Mo_inRow_0 (mc ms : Nat) (Rt : Option zAV → zMp → Prop) (g : Nat → zKT) : zKT :=
  (i_al 0 (i_il 2 (i_callV mc ms 8 2 T_Mo_isDesk co_Mo_isDesk (i_ifeq (B_Mo_inRow_21 mc ms Rt g) (i_al 0 (i_il 3 (i_callV mc ms 8 2 T_Mo_isDesk co_Mo_isDesk (i_ifeq (B_Mo_inRow_21 mc ms Rt g) (i_il 4 (i_ifge (B_Mo_inRow_23 mc ms Rt g) (B_Mo_inRow_21 mc ms Rt g)))))))))))
set_option maxRecDepth 20000 in
theorem s_Mo_inRow_0 {X : zMa} {mc ms : Nat} {Rt : Option zAV → zMp → Prop} (hC : zCx X RX7 cX7_inRow 1 22 mc ms (some .int) false Rt) (hN : zNL X = 7) : zLe (B_Mo_inRow_0 mc ms Rt (zG X)) (zG X 0) :=
  (sd_al_n hC rfl dX7_inRow_0 ((sd_il_n hC rfl dX7_inRow_1 ((sd_cV hC c_Mo_isDesk yv_Mo_isDesk (ci := 8) rfl rfl ml_Mo_143 (by decide) (by decide) dX7_inRow_2 ((sd_ifeq hC (tgt := 21) (by decide) dX7_inRow_5 (s_Mo_inRow_21 hC hN) ((sd_al_n hC rfl dX7_inRow_8 ((sd_il_n hC rfl dX7_inRow_9 ((sd_cV hC c_Mo_isDesk yv_Mo_isDesk (ci := 8) rfl rfl ml_Mo_143 (by decide) (by decide) dX7_inRow_10 ((sd_ifeq hC (tgt := 21) (by decide) dX7_inRow_13 (s_Mo_inRow_21 hC hN) ((sd_il hC dX7_inRow_16 ((sd_ifge hC (tgt := 23) (by decide) dX7_inRow_18 (s_Mo_inRow_23 hC hN) (s_Mo_inRow_21 hC hN))))))))))))))))))))
theorem c_Mo_inRow (l : Launch) : zCT l yX7_inRow cX7_inRow 7 (some .int) 1 22 T_Mo_inRow co_Mo_inRow := by
  intro As M Rt hT
  obtain ⟨y, q, f, u, v, i, rfl, rfl, hq, hJ, hR0, hR1⟩ := hT
  have hlim := hJ.lim
  have hdk := hJ.dk
  refine zMet_of false (by decide +kernel) (fun h => by first | rfl | cases h) (Nat.le_of_ble_eq_true rfl) (fun X hN hC => ?_)
  show zG X 0 [some (.inr (30, 0, 0)), some (.inr q), some (.inl (.int u)), some (.inl (.int v)), some (.inl (.int i)), none, none] [] (mp y) 0 0
  refine s_Mo_inRow_0 hC hN _ _ _ _ _ ?_
  simp only [B_Mo_inRow_0, B_Mo_inRow_21, B_Mo_inRow_23, B_Mo_inRow_30, B_Mo_inRow_61, B_Mo_inRow_64, B_Mo_inRow_70, co_Mo_has, co_Mo_inRow, co_Mo_isDesk, co_Mo_rowOf, i_ic, i_lc, i_nul, i_il, i_ll, i_al, i_is, i_as, i_ls, i_inc, i_iadd, i_isub, i_imul, i_iand, i_ior, i_ixor, i_idiv, i_irem, i_ishl, i_ishr, i_ladd, i_lsub, i_land, i_lor, i_i2l, i_lushr, i_lshl, i_lshr, i_lcmp, i_dup, i_pop, i_dx1, i_dup2, i_ifeq, i_ifne, i_iflt, i_ifge, i_ifgt, i_ifle, i_iceq, i_icne, i_iclt, i_icge, i_icgt, i_icle, i_ifn, i_gf, i_pf, i_ial, i_bal, i_lal, i_aal, i_ias, i_las, i_bas, i_aas, i_alen, i_newa, i_new, i_anew, i_cast, i_oi, i_call, i_callV, i_callV2, i_callI, i_iret, i_zret, i_lret, i_vret, i_aret, i_mmx, i_mmn, i_gsE, i_aceq, i_no, i_acq, i_sw, zsw, zlg, zls, znl, zfg, zcs, zsp, zrc, zisn, zft, zc1, zto, Value.category, List.set_cons_zero, List.set_cons_succ, List.length_cons, List.length_nil, Option.toList, List.append, List.nil_append, List.cons_append, true_and, and_true, Nat.add_zero, Nat.zero_le, Nat.zero_add, Nat.le_refl, Nat.reduceAdd, Nat.reduceLeDiff, co0, z0, zn_0, zn_1, zn_2, zn_3, zn_4, zn_5, zn_8, zn_12, zn_24, zn_121, zn_144, zn_256, zn_300, zn_600, zn_720, zn_1204, zn_1280, zn_2400, zn_4816, zn_14400, zn_90000, q_main, m_main]
  refine ⟨y, u, rfl, rfl, ?_⟩
  simp only [B_Mo_inRow_0, B_Mo_inRow_21, B_Mo_inRow_23, B_Mo_inRow_30, B_Mo_inRow_61, B_Mo_inRow_64, B_Mo_inRow_70, co_Mo_has, co_Mo_inRow, co_Mo_isDesk, co_Mo_rowOf, i_ic, i_lc, i_nul, i_il, i_ll, i_al, i_is, i_as, i_ls, i_inc, i_iadd, i_isub, i_imul, i_iand, i_ior, i_ixor, i_idiv, i_irem, i_ishl, i_ishr, i_ladd, i_lsub, i_land, i_lor, i_i2l, i_lushr, i_lshl, i_lshr, i_lcmp, i_dup, i_pop, i_dx1, i_dup2, i_ifeq, i_ifne, i_iflt, i_ifge, i_ifgt, i_ifle, i_iceq, i_icne, i_iclt, i_icge, i_icgt, i_icle, i_ifn, i_gf, i_pf, i_ial, i_bal, i_lal, i_aal, i_ias, i_las, i_bas, i_aas, i_alen, i_newa, i_new, i_anew, i_cast, i_oi, i_call, i_callV, i_callV2, i_callI, i_iret, i_zret, i_lret, i_vret, i_aret, i_mmx, i_mmn, i_gsE, i_aceq, i_no, i_acq, i_sw, zsw, zlg, zls, znl, zfg, zcs, zsp, zrc, zisn, zft, zc1, zto, Value.category, List.set_cons_zero, List.set_cons_succ, List.length_cons, List.length_nil, Option.toList, List.append, List.nil_append, List.cons_append, true_and, and_true, Nat.add_zero, Nat.zero_le, Nat.zero_add, Nat.le_refl, Nat.reduceAdd, Nat.reduceLeDiff, co0, z0, zn_0, zn_1, zn_2, zn_3, zn_4, zn_5, zn_8, zn_12, zn_24, zn_121, zn_144, zn_256, zn_300, zn_600, zn_720, zn_1204, zn_1280, zn_2400, zn_4816, zn_14400, zn_90000, q_main, m_main]
  refine ⟨fun h => hR0 (fun w => by rw [w.1] at h; exact absurd h (by decide)), fun h => ⟨y, v, rfl, rfl, ?_⟩⟩
  simp only [B_Mo_inRow_0, B_Mo_inRow_21, B_Mo_inRow_23, B_Mo_inRow_30, B_Mo_inRow_61, B_Mo_inRow_64, B_Mo_inRow_70, co_Mo_has, co_Mo_inRow, co_Mo_isDesk, co_Mo_rowOf, i_ic, i_lc, i_nul, i_il, i_ll, i_al, i_is, i_as, i_ls, i_inc, i_iadd, i_isub, i_imul, i_iand, i_ior, i_ixor, i_idiv, i_irem, i_ishl, i_ishr, i_ladd, i_lsub, i_land, i_lor, i_i2l, i_lushr, i_lshl, i_lshr, i_lcmp, i_dup, i_pop, i_dx1, i_dup2, i_ifeq, i_ifne, i_iflt, i_ifge, i_ifgt, i_ifle, i_iceq, i_icne, i_iclt, i_icge, i_icgt, i_icle, i_ifn, i_gf, i_pf, i_ial, i_bal, i_lal, i_aal, i_ias, i_las, i_bas, i_aas, i_alen, i_newa, i_new, i_anew, i_cast, i_oi, i_call, i_callV, i_callV2, i_callI, i_iret, i_zret, i_lret, i_vret, i_aret, i_mmx, i_mmn, i_gsE, i_aceq, i_no, i_acq, i_sw, zsw, zlg, zls, znl, zfg, zcs, zsp, zrc, zisn, zft, zc1, zto, Value.category, List.set_cons_zero, List.set_cons_succ, List.length_cons, List.length_nil, Option.toList, List.append, List.nil_append, List.cons_append, true_and, and_true, Nat.add_zero, Nat.zero_le, Nat.zero_add, Nat.le_refl, Nat.reduceAdd, Nat.reduceLeDiff, co0, z0, zn_0, zn_1, zn_2, zn_3, zn_4, zn_5, zn_8, zn_12, zn_24, zn_121, zn_144, zn_256, zn_300, zn_600, zn_720, zn_1204, zn_1280, zn_2400, zn_4816, zn_14400, zn_90000, q_main, m_main]
  refine ⟨fun h2 => hR0 (fun w => by rw [w.2.1] at h2; exact absurd h2 (by decide)), fun h2 => ⟨fun h3 => ?_, fun h3 => hR0 (fun w => w.2.2 (Int32.not_le.mp h3))⟩⟩
  obtain ⟨a, ha, rfl⟩ := isn_t (by omega) (zb_n0 h)
  obtain ⟨b, hb, rfl⟩ := isn_t (by omega) (zb_n0 h2)
  have hR := hR1 a b ha hb rfl rfl (Int32.not_lt.mpr h3)
  have loop : ∀ n w left, w + n = y_nw y → Rt (some (.inl (.int (nthY (sh f (5 * (12 * a + b))) n w left)))) (mp y) → zG X 30 [some (.inr (30, 0, 0)), some (.inr q), some (.inl (.int (nI a))), some (.inl (.int (nI b))), some (.inl (.int i)), some (.inl (.int left)), some (.inl (.int (nI w)))] [] (mp y) 0 0 := by
    intro n
    induction n with
    | zero =>
      intro w left hw hr
      refine s_Mo_inRow_30 hC hN _ _ _ _ _ ?_
      simp only [B_Mo_inRow_0, B_Mo_inRow_21, B_Mo_inRow_23, B_Mo_inRow_30, B_Mo_inRow_61, B_Mo_inRow_64, B_Mo_inRow_70, co_Mo_has, co_Mo_inRow, co_Mo_isDesk, co_Mo_rowOf, i_ic, i_lc, i_nul, i_il, i_ll, i_al, i_is, i_as, i_ls, i_inc, i_iadd, i_isub, i_imul, i_iand, i_ior, i_ixor, i_idiv, i_irem, i_ishl, i_ishr, i_ladd, i_lsub, i_land, i_lor, i_i2l, i_lushr, i_lshl, i_lshr, i_lcmp, i_dup, i_pop, i_dx1, i_dup2, i_ifeq, i_ifne, i_iflt, i_ifge, i_ifgt, i_ifle, i_iceq, i_icne, i_iclt, i_icge, i_icgt, i_icle, i_ifn, i_gf, i_pf, i_ial, i_bal, i_lal, i_aal, i_ias, i_las, i_bas, i_aas, i_alen, i_newa, i_new, i_anew, i_cast, i_oi, i_call, i_callV, i_callV2, i_callI, i_iret, i_zret, i_lret, i_vret, i_aret, i_mmx, i_mmn, i_gsE, i_aceq, i_no, i_acq, i_sw, zsw, zlg, zls, znl, zfg, zcs, zsp, zrc, zisn, zft, zc1, zto, Value.category, List.set_cons_zero, List.set_cons_succ, List.length_cons, List.length_nil, Option.toList, List.append, List.nil_append, List.cons_append, true_and, and_true, Nat.add_zero, Nat.zero_le, Nat.zero_add, Nat.le_refl, Nat.reduceAdd, Nat.reduceLeDiff, co0, z0, zn_0, zn_1, zn_2, zn_3, zn_4, zn_5, zn_8, zn_12, zn_24, zn_121, zn_144, zn_256, zn_300, zn_600, zn_720, zn_1204, zn_1280, zn_2400, zn_4816, zn_14400, zn_90000, q_main, m_main]
      exact ⟨fun _ => hr, fun h => absurd ((zK (K := y_nw y) (by omega) (n := w) (by omega)).2.1.mpr (by omega)) h⟩
    | succ n ih =>
      intro w left hw hr
      simp only [nthY] at hr
      refine s_Mo_inRow_30 hC hN _ _ _ _ _ ?_
      simp only [B_Mo_inRow_0, B_Mo_inRow_21, B_Mo_inRow_23, B_Mo_inRow_30, B_Mo_inRow_61, B_Mo_inRow_64, B_Mo_inRow_70, co_Mo_has, co_Mo_inRow, co_Mo_isDesk, co_Mo_rowOf, i_ic, i_lc, i_nul, i_il, i_ll, i_al, i_is, i_as, i_ls, i_inc, i_iadd, i_isub, i_imul, i_iand, i_ior, i_ixor, i_idiv, i_irem, i_ishl, i_ishr, i_ladd, i_lsub, i_land, i_lor, i_i2l, i_lushr, i_lshl, i_lshr, i_lcmp, i_dup, i_pop, i_dx1, i_dup2, i_ifeq, i_ifne, i_iflt, i_ifge, i_ifgt, i_ifle, i_iceq, i_icne, i_iclt, i_icge, i_icgt, i_icle, i_ifn, i_gf, i_pf, i_ial, i_bal, i_lal, i_aal, i_ias, i_las, i_bas, i_aas, i_alen, i_newa, i_new, i_anew, i_cast, i_oi, i_call, i_callV, i_callV2, i_callI, i_iret, i_zret, i_lret, i_vret, i_aret, i_mmx, i_mmn, i_gsE, i_aceq, i_no, i_acq, i_sw, zsw, zlg, zls, znl, zfg, zcs, zsp, zrc, zisn, zft, zc1, zto, Value.category, List.set_cons_zero, List.set_cons_succ, List.length_cons, List.length_nil, Option.toList, List.append, List.nil_append, List.cons_append, true_and, and_true, Nat.add_zero, Nat.zero_le, Nat.zero_add, Nat.le_refl, Nat.reduceAdd, Nat.reduceLeDiff, co0, z0, zn_0, zn_1, zn_2, zn_3, zn_4, zn_5, zn_8, zn_12, zn_24, zn_121, zn_144, zn_256, zn_300, zn_600, zn_720, zn_1204, zn_1280, zn_2400, zn_4816, zn_14400, zn_90000, q_main, m_main]
      refine ⟨fun h => absurd ((zK (K := y_nw y) (by omega) (n := w) (by omega)).2.1.mp h) (by omega), fun _ => ⟨a, b, rfl, ?_⟩⟩
      simp only [B_Mo_inRow_0, B_Mo_inRow_21, B_Mo_inRow_23, B_Mo_inRow_30, B_Mo_inRow_61, B_Mo_inRow_64, B_Mo_inRow_70, co_Mo_has, co_Mo_inRow, co_Mo_isDesk, co_Mo_rowOf, i_ic, i_lc, i_nul, i_il, i_ll, i_al, i_is, i_as, i_ls, i_inc, i_iadd, i_isub, i_imul, i_iand, i_ior, i_ixor, i_idiv, i_irem, i_ishl, i_ishr, i_ladd, i_lsub, i_land, i_lor, i_i2l, i_lushr, i_lshl, i_lshr, i_lcmp, i_dup, i_pop, i_dx1, i_dup2, i_ifeq, i_ifne, i_iflt, i_ifge, i_ifgt, i_ifle, i_iceq, i_icne, i_iclt, i_icge, i_icgt, i_icle, i_ifn, i_gf, i_pf, i_ial, i_bal, i_lal, i_aal, i_ias, i_las, i_bas, i_aas, i_alen, i_newa, i_new, i_anew, i_cast, i_oi, i_call, i_callV, i_callV2, i_callI, i_iret, i_zret, i_lret, i_vret, i_aret, i_mmx, i_mmn, i_gsE, i_aceq, i_no, i_acq, i_sw, zsw, zlg, zls, znl, zfg, zcs, zsp, zrc, zisn, zft, zc1, zto, Value.category, List.set_cons_zero, List.set_cons_succ, List.length_cons, List.length_nil, Option.toList, List.append, List.nil_append, List.cons_append, true_and, and_true, Nat.add_zero, Nat.zero_le, Nat.zero_add, Nat.le_refl, Nat.reduceAdd, Nat.reduceLeDiff, co0, z0, zn_0, zn_1, zn_2, zn_3, zn_4, zn_5, zn_8, zn_12, zn_24, zn_121, zn_144, zn_256, zn_300, zn_600, zn_720, zn_1204, zn_1280, zn_2400, zn_4816, zn_14400, zn_90000, q_main, m_main]
      refine ⟨q, 720, f, 5 * (12 * a + b), w, rfl, hq, by omega, by omega, by omega, ?_⟩
      simp only [B_Mo_inRow_0, B_Mo_inRow_21, B_Mo_inRow_23, B_Mo_inRow_30, B_Mo_inRow_61, B_Mo_inRow_64, B_Mo_inRow_70, co_Mo_has, co_Mo_inRow, co_Mo_isDesk, co_Mo_rowOf, i_ic, i_lc, i_nul, i_il, i_ll, i_al, i_is, i_as, i_ls, i_inc, i_iadd, i_isub, i_imul, i_iand, i_ior, i_ixor, i_idiv, i_irem, i_ishl, i_ishr, i_ladd, i_lsub, i_land, i_lor, i_i2l, i_lushr, i_lshl, i_lshr, i_lcmp, i_dup, i_pop, i_dx1, i_dup2, i_ifeq, i_ifne, i_iflt, i_ifge, i_ifgt, i_ifle, i_iceq, i_icne, i_iclt, i_icge, i_icgt, i_icle, i_ifn, i_gf, i_pf, i_ial, i_bal, i_lal, i_aal, i_ias, i_las, i_bas, i_aas, i_alen, i_newa, i_new, i_anew, i_cast, i_oi, i_call, i_callV, i_callV2, i_callI, i_iret, i_zret, i_lret, i_vret, i_aret, i_mmx, i_mmn, i_gsE, i_aceq, i_no, i_acq, i_sw, zsw, zlg, zls, znl, zfg, zcs, zsp, zrc, zisn, zft, zc1, zto, Value.category, List.set_cons_zero, List.set_cons_succ, List.length_cons, List.length_nil, Option.toList, List.append, List.nil_append, List.cons_append, true_and, and_true, Nat.add_zero, Nat.zero_le, Nat.zero_add, Nat.le_refl, Nat.reduceAdd, Nat.reduceLeDiff, co0, z0, zn_0, zn_1, zn_2, zn_3, zn_4, zn_5, zn_8, zn_12, zn_24, zn_121, zn_144, zn_256, zn_300, zn_600, zn_720, zn_1204, zn_1280, zn_2400, zn_4816, zn_14400, zn_90000, q_main, m_main, ar_4, ar_5, ar_12, ar_300, ar_600, ar_1200, ar_10, nI_add, ar_1, ar_2, ar_3, ar_2m]
      rw [← Int32.sub_eq_add_neg]
      refine ⟨fun h1 => ?_, fun h1 => ⟨fun h4 => ?_, fun h4 => ?_⟩⟩
      · rw [if_neg (by rw [zb_0.mp h1]; decide)] at hr
        exact ih (w + 1) left (by omega) hr
      · rw [if_pos (zb_n0 h1), if_neg h4] at hr
        exact ih (w + 1) (left - 1) (by omega) hr
      · rw [if_pos (zb_n0 h1), if_pos h4] at hr
        exact hr
  exact loop _ 0 i (by omega) hR
def T_Mo_table (As : List zAV) (M : zMp) (Rt : Option zAV → zMp → Prop) : Prop := ∃ y u v i, As = [.inr (30, 0, 0), .inl (.int u), .inl (.int v), .inl (.int i)] ∧ M = mp y ∧ Jv y ∧ (¬ (isn (y_dk y) u = true ∧ isn (y_dk y) v = true ∧ ¬ i < 0) → Rt (some (.inl (.int (-1)))) M) ∧ (∀ a b, a < y_dk y → b < y_dk y → u = nI a → v = nI b → ¬ i < 0 → Rt (some (.inl (.int (nthY (sh (y_tb y) (5 * (12 * a + b))) (y_nw y) 0 i)))) M)
abbrev co_Mo_table := co0
theorem dX7_table_0 : decode cX7_table 0 = .ok (.aload_n 0, 1) := by decide +kernel
theorem dX7_table_1 : decode cX7_table 1 = .ok (.aload_n 0, 1) := by decide +kernel
theorem dX7_table_2 : decode cX7_table 2 = .ok (.getfield 50, 3) := by decide +kernel
theorem dX7_table_5 : decode cX7_table 5 = .ok (.iload_n 1, 1) := by decide +kernel
theorem dX7_table_6 : decode cX7_table 6 = .ok (.iload_n 2, 1) := by decide +kernel
theorem dX7_table_7 : decode cX7_table 7 = .ok (.iload_n 3, 1) := by decide +kernel
theorem dX7_table_8 : decode cX7_table 8 = .ok (.invokevirtual 215, 3) := by decide +kernel
theorem dX7_table_11 : decode cX7_table 11 = .ok (.ireturn, 1) := by decide +kernel
def B_Mo_table_0 (mc ms : Nat) (Rt : Option zAV → zMp → Prop) (g : Nat → zKT) : zKT :=
  (i_al 0 (i_al 0 (i_gf 8 17 (i_il 1 (i_il 2 (i_il 3 (i_callV mc ms 8 5 T_Mo_inRow co_Mo_inRow (i_iret mc ms Rt))))))))
set_option maxRecDepth 20000 in
theorem s_Mo_table_0 {X : zMa} {mc ms : Nat} {Rt : Option zAV → zMp → Prop} (hC : zCx X RX7 cX7_table 2 48 mc ms (some .int) false Rt) : zLe (B_Mo_table_0 mc ms Rt (zG X)) (zG X 0) :=
  (sd_al_n hC rfl dX7_table_0 ((sd_al_n hC rfl dX7_table_1 ((sd_gf hC (ci := 8) (fk := 17) rfl wi_Mo (by decide) fl_Mo_50 (Or.inl rfl) dX7_table_2 ((sd_il_n hC rfl dX7_table_5 ((sd_il_n hC rfl dX7_table_6 ((sd_il_n hC rfl dX7_table_7 ((sd_cV hC c_Mo_inRow yv_Mo_inRow (ci := 8) rfl rfl ml_Mo_215 (by decide) (by decide) dX7_table_8 ((sd_iret hC dX7_table_11)))))))))))))))
theorem c_Mo_table (l : Launch) : zCT l yX7_table cX7_table 4 (some .int) 2 48 T_Mo_table co_Mo_table := by
  intro As M Rt hT
  obtain ⟨y, u, v, i, rfl, rfl, hJ, hR0, hR1⟩ := hT
  refine zMet_of false (by decide +kernel) (fun h => by first | rfl | cases h) (Nat.le_of_ble_eq_true rfl) (fun X hN hC => ?_)
  show zG X 0 [some (.inr (30, 0, 0)), some (.inl (.int u)), some (.inl (.int v)), some (.inl (.int i))] [] (mp y) 0 0
  refine s_Mo_table_0 hC _ _ _ _ _ ?_
  simp only [B_Mo_table_0, co_Mo_inRow, co_Mo_table, i_ic, i_lc, i_nul, i_il, i_ll, i_al, i_is, i_as, i_ls, i_inc, i_iadd, i_isub, i_imul, i_iand, i_ior, i_ixor, i_idiv, i_irem, i_ishl, i_ishr, i_ladd, i_lsub, i_land, i_lor, i_i2l, i_lushr, i_lshl, i_lshr, i_lcmp, i_dup, i_pop, i_dx1, i_dup2, i_ifeq, i_ifne, i_iflt, i_ifge, i_ifgt, i_ifle, i_iceq, i_icne, i_iclt, i_icge, i_icgt, i_icle, i_ifn, i_gf, i_pf, i_ial, i_bal, i_lal, i_aal, i_ias, i_las, i_bas, i_aas, i_alen, i_newa, i_new, i_anew, i_cast, i_oi, i_call, i_callV, i_callV2, i_callI, i_iret, i_zret, i_lret, i_vret, i_aret, i_mmx, i_mmn, i_gsE, i_aceq, i_no, i_acq, i_sw, zsw, zlg, zls, znl, zfg, zcs, zsp, zrc, zisn, zft, zc1, zto, Value.category, List.set_cons_zero, List.set_cons_succ, List.length_cons, List.length_nil, Option.toList, List.append, List.nil_append, List.cons_append, true_and, and_true, Nat.add_zero, Nat.zero_le, Nat.zero_add, Nat.le_refl, Nat.reduceAdd, Nat.reduceLeDiff, co0, z0, zn_0, zn_1, zn_2, zn_3, zn_4, zn_5, zn_8, zn_12, zn_24, zn_121, zn_144, zn_256, zn_300, zn_600, zn_720, zn_1204, zn_1280, zn_2400, zn_4816, zn_14400, zn_90000, q_main, m_main]
  exact ⟨y, (31, 17, 0), y_tb y, u, v, i, rfl, rfl, q_tb y, hJ, hR0, hR1⟩
def T_Mo_told (As : List zAV) (M : zMp) (Rt : Option zAV → zMp → Prop) : Prop := ∃ y u v i, As = [.inr (30, 0, 0), .inl (.int u), .inl (.int v), .inl (.int i)] ∧ M = mp y ∧ Jv y ∧ (¬ (isn (y_dk y) u = true ∧ isn (y_dk y) v = true ∧ ¬ i < 0) → Rt (some (.inl (.int (-1)))) M) ∧ (∀ a b, a < y_dk y → b < y_dk y → u = nI a → v = nI b → ¬ i < 0 → Rt (some (.inl (.int (nthY (sh (y_to y) (5 * (12 * a + b))) (y_nw y) 0 i)))) M)
abbrev co_Mo_told := co0
theorem dX7_told_0 : decode cX7_told 0 = .ok (.aload_n 0, 1) := by decide +kernel
theorem dX7_told_1 : decode cX7_told 1 = .ok (.aload_n 0, 1) := by decide +kernel
theorem dX7_told_2 : decode cX7_told 2 = .ok (.getfield 54, 3) := by decide +kernel
theorem dX7_told_5 : decode cX7_told 5 = .ok (.iload_n 1, 1) := by decide +kernel
theorem dX7_told_6 : decode cX7_told 6 = .ok (.iload_n 2, 1) := by decide +kernel
theorem dX7_told_7 : decode cX7_told 7 = .ok (.iload_n 3, 1) := by decide +kernel
theorem dX7_told_8 : decode cX7_told 8 = .ok (.invokevirtual 215, 3) := by decide +kernel
theorem dX7_told_11 : decode cX7_told 11 = .ok (.ireturn, 1) := by decide +kernel
def B_Mo_told_0 (mc ms : Nat) (Rt : Option zAV → zMp → Prop) (g : Nat → zKT) : zKT :=
  (i_al 0 (i_al 0 (i_gf 8 18 (i_il 1 (i_il 2 (i_il 3 (i_callV mc ms 8 5 T_Mo_inRow co_Mo_inRow (i_iret mc ms Rt))))))))
set_option maxRecDepth 20000 in
theorem s_Mo_told_0 {X : zMa} {mc ms : Nat} {Rt : Option zAV → zMp → Prop} (hC : zCx X RX7 cX7_told 2 48 mc ms (some .int) false Rt) : zLe (B_Mo_told_0 mc ms Rt (zG X)) (zG X 0) :=
  (sd_al_n hC rfl dX7_told_0 ((sd_al_n hC rfl dX7_told_1 ((sd_gf hC (ci := 8) (fk := 18) rfl wi_Mo (by decide) fl_Mo_54 (Or.inl rfl) dX7_told_2 ((sd_il_n hC rfl dX7_told_5 ((sd_il_n hC rfl dX7_told_6 ((sd_il_n hC rfl dX7_told_7 ((sd_cV hC c_Mo_inRow yv_Mo_inRow (ci := 8) rfl rfl ml_Mo_215 (by decide) (by decide) dX7_told_8 ((sd_iret hC dX7_told_11)))))))))))))))
theorem c_Mo_told (l : Launch) : zCT l yX7_told cX7_told 4 (some .int) 2 48 T_Mo_told co_Mo_told := by
  intro As M Rt hT
  obtain ⟨y, u, v, i, rfl, rfl, hJ, hR0, hR1⟩ := hT
  refine zMet_of false (by decide +kernel) (fun h => by first | rfl | cases h) (Nat.le_of_ble_eq_true rfl) (fun X hN hC => ?_)
  show zG X 0 [some (.inr (30, 0, 0)), some (.inl (.int u)), some (.inl (.int v)), some (.inl (.int i))] [] (mp y) 0 0
  refine s_Mo_told_0 hC _ _ _ _ _ ?_
  simp only [B_Mo_told_0, co_Mo_inRow, co_Mo_told, i_ic, i_lc, i_nul, i_il, i_ll, i_al, i_is, i_as, i_ls, i_inc, i_iadd, i_isub, i_imul, i_iand, i_ior, i_ixor, i_idiv, i_irem, i_ishl, i_ishr, i_ladd, i_lsub, i_land, i_lor, i_i2l, i_lushr, i_lshl, i_lshr, i_lcmp, i_dup, i_pop, i_dx1, i_dup2, i_ifeq, i_ifne, i_iflt, i_ifge, i_ifgt, i_ifle, i_iceq, i_icne, i_iclt, i_icge, i_icgt, i_icle, i_ifn, i_gf, i_pf, i_ial, i_bal, i_lal, i_aal, i_ias, i_las, i_bas, i_aas, i_alen, i_newa, i_new, i_anew, i_cast, i_oi, i_call, i_callV, i_callV2, i_callI, i_iret, i_zret, i_lret, i_vret, i_aret, i_mmx, i_mmn, i_gsE, i_aceq, i_no, i_acq, i_sw, zsw, zlg, zls, znl, zfg, zcs, zsp, zrc, zisn, zft, zc1, zto, Value.category, List.set_cons_zero, List.set_cons_succ, List.length_cons, List.length_nil, Option.toList, List.append, List.nil_append, List.cons_append, true_and, and_true, Nat.add_zero, Nat.zero_le, Nat.zero_add, Nat.le_refl, Nat.reduceAdd, Nat.reduceLeDiff, co0, z0, zn_0, zn_1, zn_2, zn_3, zn_4, zn_5, zn_8, zn_12, zn_24, zn_121, zn_144, zn_256, zn_300, zn_600, zn_720, zn_1204, zn_1280, zn_2400, zn_4816, zn_14400, zn_90000, q_main, m_main]
  exact ⟨y, (31, 18, 0), y_to y, u, v, i, rfl, rfl, q_to y, hJ, hR0, hR1⟩
/-! message, heard, notice, look -/
def msY (y : zMS) (u v : Int32) : Nat → Nat → Int32 → Int32
  | 0, _, _ => -1
  | n + 1, m, b => if nI (y_fr y m) = u ∧ nI (y_tt y m) = v then (if b = 0 then y_wh y m else msY y u v n (m + 1) (b - 1)) else msY y u v n (m + 1) b
def T_Mo_message (As : List zAV) (M : zMp) (Rt : Option zAV → zMp → Prop) : Prop := ∃ y u v i, As = [.inr (30, 0, 0), .inl (.int u), .inl (.int v), .inl (.int i)] ∧ M = mp y ∧ Jv y ∧ (i < 0 → Rt (some (.inl (.int (-1)))) M) ∧ (¬ i < 0 → Rt (some (.inl (.int (msY y u v (y_ms y) 0 i)))) M)
abbrev co_Mo_message := co0
theorem dX7_message_0 : decode cX7_message 0 = .ok (.iload_n 3, 1) := by decide +kernel
theorem dX7_message_1 : decode cX7_message 1 = .ok (.istore 4, 2) := by decide +kernel
theorem dX7_message_3 : decode cX7_message 3 = .ok (.iconst 0, 1) := by decide +kernel
theorem dX7_message_4 : decode cX7_message 4 = .ok (.istore 5, 2) := by decide +kernel
theorem dX7_message_6 : decode cX7_message 6 = .ok (.iload 5, 2) := by decide +kernel
theorem dX7_message_8 : decode cX7_message 8 = .ok (.aload_n 0, 1) := by decide +kernel
theorem dX7_message_9 : decode cX7_message 9 = .ok (.getfield 129, 3) := by decide +kernel
theorem dX7_message_12 : decode cX7_message 12 = .ok (.if_icmp .ge 51, 3) := by decide +kernel
theorem dX7_message_15 : decode cX7_message 15 = .ok (.iload_n 3, 1) := by decide +kernel
theorem dX7_message_16 : decode cX7_message 16 = .ok (.ifCond .lt 47, 3) := by decide +kernel
theorem dX7_message_19 : decode cX7_message 19 = .ok (.aload_n 0, 1) := by decide +kernel
theorem dX7_message_20 : decode cX7_message 20 = .ok (.getfield 57, 3) := by decide +kernel
theorem dX7_message_23 : decode cX7_message 23 = .ok (.iload 5, 2) := by decide +kernel
theorem dX7_message_25 : decode cX7_message 25 = .ok (.iaload, 1) := by decide +kernel
theorem dX7_message_26 : decode cX7_message 26 = .ok (.iload_n 1, 1) := by decide +kernel
theorem dX7_message_27 : decode cX7_message 27 = .ok (.if_icmp .ne 30, 3) := by decide +kernel
theorem dX7_message_30 : decode cX7_message 30 = .ok (.aload_n 0, 1) := by decide +kernel
theorem dX7_message_31 : decode cX7_message 31 = .ok (.getfield 60, 3) := by decide +kernel
theorem dX7_message_34 : decode cX7_message 34 = .ok (.iload 5, 2) := by decide +kernel
theorem dX7_message_36 : decode cX7_message 36 = .ok (.iaload, 1) := by decide +kernel
theorem dX7_message_37 : decode cX7_message 37 = .ok (.iload_n 2, 1) := by decide +kernel
theorem dX7_message_38 : decode cX7_message 38 = .ok (.if_icmp .ne 19, 3) := by decide +kernel
theorem dX7_message_41 : decode cX7_message 41 = .ok (.iload 4, 2) := by decide +kernel
theorem dX7_message_43 : decode cX7_message 43 = .ok (.ifCond .ne 11, 3) := by decide +kernel
theorem dX7_message_46 : decode cX7_message 46 = .ok (.aload_n 0, 1) := by decide +kernel
theorem dX7_message_47 : decode cX7_message 47 = .ok (.getfield 63, 3) := by decide +kernel
theorem dX7_message_50 : decode cX7_message 50 = .ok (.iload 5, 2) := by decide +kernel
theorem dX7_message_52 : decode cX7_message 52 = .ok (.iaload, 1) := by decide +kernel
theorem dX7_message_53 : decode cX7_message 53 = .ok (.ireturn, 1) := by decide +kernel
theorem dX7_message_54 : decode cX7_message 54 = .ok (.iinc 4 (-1), 3) := by decide +kernel
theorem dX7_message_57 : decode cX7_message 57 = .ok (.iinc 5 1, 3) := by decide +kernel
theorem dX7_message_60 : decode cX7_message 60 = .ok (.goto (-54), 3) := by decide +kernel
theorem dX7_message_63 : decode cX7_message 63 = .ok (.iconst (-1), 1) := by decide +kernel
theorem dX7_message_64 : decode cX7_message 64 = .ok (.ireturn, 1) := by decide +kernel
def B_Mo_message_63 (mc ms : Nat) (Rt : Option zAV → zMp → Prop) (g : Nat → zKT) : zKT :=
  (i_ic (-1) (i_iret mc ms Rt))
set_option maxRecDepth 20000 in
theorem s_Mo_message_63 {X : zMa} {mc ms : Nat} {Rt : Option zAV → zMp → Prop} (hC : zCx X RX7 cX7_message 0 0 mc ms (some .int) false Rt) (hN : zNL X = 6) : zLe (B_Mo_message_63 mc ms Rt (zG X)) (zG X 63) :=
  (sd_iconst hC (by decide) dX7_message_63 ((sd_iret hC dX7_message_64)))
def B_Mo_message_57 (mc ms : Nat) (Rt : Option zAV → zMp → Prop) (g : Nat → zKT) : zKT :=
  (i_inc 5 1 (g 6))
set_option maxRecDepth 20000 in
theorem s_Mo_message_57 {X : zMa} {mc ms : Nat} {Rt : Option zAV → zMp → Prop} (hC : zCx X RX7 cX7_message 0 0 mc ms (some .int) false Rt) (hN : zNL X = 6) : zLe (B_Mo_message_57 mc ms Rt (zG X)) (zG X 57) :=
  (sd_inc hC (by decide) (by rw [hN]; decide) dX7_message_57 ((sd_goto hC (tgt := 6) (by decide) dX7_message_60 (zLe_rfl))))
def B_Mo_message_54 (mc ms : Nat) (Rt : Option zAV → zMp → Prop) (g : Nat → zKT) : zKT :=
  (i_inc 4 (-1) (B_Mo_message_57 mc ms Rt g))
set_option maxRecDepth 20000 in
theorem s_Mo_message_54 {X : zMa} {mc ms : Nat} {Rt : Option zAV → zMp → Prop} (hC : zCx X RX7 cX7_message 0 0 mc ms (some .int) false Rt) (hN : zNL X = 6) : zLe (B_Mo_message_54 mc ms Rt (zG X)) (zG X 54) :=
  (sd_inc hC (by decide) (by rw [hN]; decide) dX7_message_54 (s_Mo_message_57 hC hN))
def B_Mo_message_6 (mc ms : Nat) (Rt : Option zAV → zMp → Prop) (g : Nat → zKT) : zKT :=
  (i_il 5 (i_al 0 (i_gf 8 19 (i_icge (B_Mo_message_63 mc ms Rt g) (i_il 3 (i_iflt (B_Mo_message_63 mc ms Rt g) (i_al 0 (i_gf 8 20 (i_il 5 (i_ial (i_il 1 (i_icne (B_Mo_message_57 mc ms Rt g) (i_al 0 (i_gf 8 21 (i_il 5 (i_ial (i_il 2 (i_icne (B_Mo_message_57 mc ms Rt g) (i_il 4 (i_ifne (B_Mo_message_54 mc ms Rt g) (i_al 0 (i_gf 8 22 (i_il 5 (i_ial (i_iret mc ms Rt)))))))))))))))))))))))))
set_option maxRecDepth 20000 in
theorem s_Mo_message_6 {X : zMa} {mc ms : Nat} {Rt : Option zAV → zMp → Prop} (hC : zCx X RX7 cX7_message 0 0 mc ms (some .int) false Rt) (hN : zNL X = 6) : zLe (B_Mo_message_6 mc ms Rt (zG X)) (zG X 6) :=
  (sd_il hC dX7_message_6 ((sd_al_n hC rfl dX7_message_8 ((sd_gf hC (ci := 8) (fk := 19) rfl wi_Mo (by decide) fl_Mo_129 (Or.inl rfl) dX7_message_9 ((sd_icge hC (tgt := 63) (by decide) dX7_message_12 (s_Mo_message_63 hC hN) ((sd_il_n hC rfl dX7_message_15 ((sd_iflt hC (tgt := 63) (by decide) dX7_message_16 (s_Mo_message_63 hC hN) ((sd_al_n hC rfl dX7_message_19 ((sd_gf hC (ci := 8) (fk := 20) rfl wi_Mo (by decide) fl_Mo_57 (Or.inl rfl) dX7_message_20 ((sd_il hC dX7_message_23 ((sd_ial hC dX7_message_25 ((sd_il_n hC rfl dX7_message_26 ((sd_icne hC (tgt := 57) (by decide) dX7_message_27 (s_Mo_message_57 hC hN) ((sd_al_n hC rfl dX7_message_30 ((sd_gf hC (ci := 8) (fk := 21) rfl wi_Mo (by decide) fl_Mo_60 (Or.inl rfl) dX7_message_31 ((sd_il hC dX7_message_34 ((sd_ial hC dX7_message_36 ((sd_il_n hC rfl dX7_message_37 ((sd_icne hC (tgt := 57) (by decide) dX7_message_38 (s_Mo_message_57 hC hN) ((sd_il hC dX7_message_41 ((sd_ifne hC (tgt := 54) (by decide) dX7_message_43 (s_Mo_message_54 hC hN) ((sd_al_n hC rfl dX7_message_46 ((sd_gf hC (ci := 8) (fk := 22) rfl wi_Mo (by decide) fl_Mo_63 (Or.inl rfl) dX7_message_47 ((sd_il hC dX7_message_50 ((sd_ial hC dX7_message_52 ((sd_iret hC dX7_message_53)))))))))))))))))))))))))))))))))))))))))))))))))
def B_Mo_message_0 (mc ms : Nat) (Rt : Option zAV → zMp → Prop) (g : Nat → zKT) : zKT :=
  (i_il 3 (i_is 4 (i_ic 0 (i_is 5 (g 6)))))
set_option maxRecDepth 20000 in
theorem s_Mo_message_0 {X : zMa} {mc ms : Nat} {Rt : Option zAV → zMp → Prop} (hC : zCx X RX7 cX7_message 0 0 mc ms (some .int) false Rt) (hN : zNL X = 6) : zLe (B_Mo_message_0 mc ms Rt (zG X)) (zG X 0) :=
  (sd_il_n hC rfl dX7_message_0 ((sd_is hC (by rw [hN]; decide) dX7_message_1 ((sd_iconst hC (by decide) dX7_message_3 ((sd_is hC (by rw [hN]; decide) dX7_message_4 (zLe_rfl))))))))
theorem c_Mo_message (l : Launch) : zCT l yX7_message cX7_message 6 (some .int) 0 0 T_Mo_message co_Mo_message := by
  intro As M Rt hT
  obtain ⟨y, u, v, i, rfl, rfl, hJ, hR0, hR1⟩ := hT
  have hcp := hJ.cp
  refine zMet_of false (by decide +kernel) (fun h => by first | rfl | cases h) (Nat.le_of_ble_eq_true rfl) (fun X hN hC => ?_)
  show zG X 0 [some (.inr (30, 0, 0)), some (.inl (.int u)), some (.inl (.int v)), some (.inl (.int i)), none, none] [] (mp y) 0 0
  have loop : ∀ n m left, m + n = y_ms y → (i < 0 → m = 0) → (¬ i < 0 → Rt (some (.inl (.int (msY y u v n m left)))) (mp y)) → zG X 6 [some (.inr (30, 0, 0)), some (.inl (.int u)), some (.inl (.int v)), some (.inl (.int i)), some (.inl (.int left)), some (.inl (.int (nI m)))] [] (mp y) 0 0 := by
    intro n
    induction n with
    | zero =>
      intro m left hm h0 hr
      refine s_Mo_message_6 hC hN _ _ _ _ _ ?_
      simp only [B_Mo_message_0, B_Mo_message_6, B_Mo_message_54, B_Mo_message_57, B_Mo_message_63, co_Mo_message, i_ic, i_lc, i_nul, i_il, i_ll, i_al, i_is, i_as, i_ls, i_inc, i_iadd, i_isub, i_imul, i_iand, i_ior, i_ixor, i_idiv, i_irem, i_ishl, i_ishr, i_ladd, i_lsub, i_land, i_lor, i_i2l, i_lushr, i_lshl, i_lshr, i_lcmp, i_dup, i_pop, i_dx1, i_dup2, i_ifeq, i_ifne, i_iflt, i_ifge, i_ifgt, i_ifle, i_iceq, i_icne, i_iclt, i_icge, i_icgt, i_icle, i_ifn, i_gf, i_pf, i_ial, i_bal, i_lal, i_aal, i_ias, i_las, i_bas, i_aas, i_alen, i_newa, i_new, i_anew, i_cast, i_oi, i_call, i_callV, i_callV2, i_callI, i_iret, i_zret, i_lret, i_vret, i_aret, i_mmx, i_mmn, i_gsE, i_aceq, i_no, i_acq, i_sw, zsw, zlg, zls, znl, zfg, zcs, zsp, zrc, zisn, zft, zc1, zto, Value.category, List.set_cons_zero, List.set_cons_succ, List.length_cons, List.length_nil, Option.toList, List.append, List.nil_append, List.cons_append, true_and, and_true, Nat.add_zero, Nat.zero_le, Nat.zero_add, Nat.le_refl, Nat.reduceAdd, Nat.reduceLeDiff, co0, z0, zn_0, zn_1, zn_2, zn_3, zn_4, zn_5, zn_8, zn_12, zn_24, zn_121, zn_144, zn_256, zn_300, zn_600, zn_720, zn_1204, zn_1280, zn_2400, zn_4816, zn_14400, zn_90000, q_main, m_main]
      refine ⟨fun _ => ?_, fun h => absurd ((zK (K := y_ms y) (by omega) (n := m) (by omega)).2.1.mpr (by omega)) h⟩
      by_cases hi : i < 0
      · exact hR0 hi
      · exact hr hi
    | succ n ih =>
      intro m left hm h0 hr
      simp only [msY] at hr
      refine s_Mo_message_6 hC hN _ _ _ _ _ ?_
      simp only [B_Mo_message_0, B_Mo_message_6, B_Mo_message_54, B_Mo_message_57, B_Mo_message_63, co_Mo_message, i_ic, i_lc, i_nul, i_il, i_ll, i_al, i_is, i_as, i_ls, i_inc, i_iadd, i_isub, i_imul, i_iand, i_ior, i_ixor, i_idiv, i_irem, i_ishl, i_ishr, i_ladd, i_lsub, i_land, i_lor, i_i2l, i_lushr, i_lshl, i_lshr, i_lcmp, i_dup, i_pop, i_dx1, i_dup2, i_ifeq, i_ifne, i_iflt, i_ifge, i_ifgt, i_ifle, i_iceq, i_icne, i_iclt, i_icge, i_icgt, i_icle, i_ifn, i_gf, i_pf, i_ial, i_bal, i_lal, i_aal, i_ias, i_las, i_bas, i_aas, i_alen, i_newa, i_new, i_anew, i_cast, i_oi, i_call, i_callV, i_callV2, i_callI, i_iret, i_zret, i_lret, i_vret, i_aret, i_mmx, i_mmn, i_gsE, i_aceq, i_no, i_acq, i_sw, zsw, zlg, zls, znl, zfg, zcs, zsp, zrc, zisn, zft, zc1, zto, Value.category, List.set_cons_zero, List.set_cons_succ, List.length_cons, List.length_nil, Option.toList, List.append, List.nil_append, List.cons_append, true_and, and_true, Nat.add_zero, Nat.zero_le, Nat.zero_add, Nat.le_refl, Nat.reduceAdd, Nat.reduceLeDiff, co0, z0, zn_0, zn_1, zn_2, zn_3, zn_4, zn_5, zn_8, zn_12, zn_24, zn_121, zn_144, zn_256, zn_300, zn_600, zn_720, zn_1204, zn_1280, zn_2400, zn_4816, zn_14400, zn_90000, q_main, m_main, q_fr, q_tt, q_wh, ar_4, ar_5, ar_12, ar_300, ar_600, ar_1200, ar_10, nI_add, ar_1, ar_2, ar_3, ar_2m]
      rw [← Int32.sub_eq_add_neg, nI_clamp (by omega)]
      have V : vp_in (nI m) (y_cp y) := vp_in_nI (by omega) (by omega)
      refine ⟨fun h => absurd ((zK (K := y_ms y) (by omega) (n := m) (by omega)).2.1.mp h) (by omega), fun _ => ⟨fun hi => hR0 hi, fun hi => ⟨V, fun h1 => ?_, fun h1 => ⟨V, fun h2 => ?_, fun h2 => ⟨fun h3 => ?_, fun h3 => ⟨V, ?_⟩⟩⟩⟩⟩⟩
      · have hr' := hr hi
        rw [if_neg (fun q => h1 q.1)] at hr'
        exact ih (m + 1) left (by omega) (fun q => absurd q hi) (fun _ => hr')
      · have hr' := hr hi
        rw [if_neg (fun q => h2 q.2)] at hr'
        exact ih (m + 1) left (by omega) (fun q => absurd q hi) (fun _ => hr')
      · have hr' := hr hi
        rw [if_pos ⟨h1, h2⟩, if_neg h3] at hr'
        exact ih (m + 1) (left - 1) (by omega) (fun q => absurd q hi) (fun _ => hr')
      · have hr' := hr hi
        rw [if_pos ⟨h1, h2⟩, if_pos h3] at hr'
        exact hr'
  refine s_Mo_message_0 hC hN _ _ _ _ _ ?_
  simp only [B_Mo_message_0, B_Mo_message_6, B_Mo_message_54, B_Mo_message_57, B_Mo_message_63, co_Mo_message, i_ic, i_lc, i_nul, i_il, i_ll, i_al, i_is, i_as, i_ls, i_inc, i_iadd, i_isub, i_imul, i_iand, i_ior, i_ixor, i_idiv, i_irem, i_ishl, i_ishr, i_ladd, i_lsub, i_land, i_lor, i_i2l, i_lushr, i_lshl, i_lshr, i_lcmp, i_dup, i_pop, i_dx1, i_dup2, i_ifeq, i_ifne, i_iflt, i_ifge, i_ifgt, i_ifle, i_iceq, i_icne, i_iclt, i_icge, i_icgt, i_icle, i_ifn, i_gf, i_pf, i_ial, i_bal, i_lal, i_aal, i_ias, i_las, i_bas, i_aas, i_alen, i_newa, i_new, i_anew, i_cast, i_oi, i_call, i_callV, i_callV2, i_callI, i_iret, i_zret, i_lret, i_vret, i_aret, i_mmx, i_mmn, i_gsE, i_aceq, i_no, i_acq, i_sw, zsw, zlg, zls, znl, zfg, zcs, zsp, zrc, zisn, zft, zc1, zto, Value.category, List.set_cons_zero, List.set_cons_succ, List.length_cons, List.length_nil, Option.toList, List.append, List.nil_append, List.cons_append, true_and, and_true, Nat.add_zero, Nat.zero_le, Nat.zero_add, Nat.le_refl, Nat.reduceAdd, Nat.reduceLeDiff, co0, z0, zn_0, zn_1, zn_2, zn_3, zn_4, zn_5, zn_8, zn_12, zn_24, zn_121, zn_144, zn_256, zn_300, zn_600, zn_720, zn_1204, zn_1280, zn_2400, zn_4816, zn_14400, zn_90000]
  exact loop _ 0 i (by omega) (fun _ => rfl) hR1
def T_Mo_heard (As : List zAV) (M : zMp) (Rt : Option zAV → zMp → Prop) : Prop := ∃ y r i, As = [.inr (30, 0, 0), .inl (.int r), .inl (.int i)] ∧ M = mp y ∧ Jv y ∧ (isn (y_nr y) r = false → Rt (some (.inl (.int (-1)))) M) ∧ (∀ k, k < y_nr y → r = nI k → Rt (some (.inl (.int (if ¬ i < 0 ∧ i < nI (y_hm y k) then y_he y (600 * k + i.toNatClampNeg) else -1)))) M)
abbrev co_Mo_heard := co0
theorem dX7_heard_0 : decode cX7_heard 0 = .ok (.aload_n 0, 1) := by decide +kernel
theorem dX7_heard_1 : decode cX7_heard 1 = .ok (.iload_n 1, 1) := by decide +kernel
theorem dX7_heard_2 : decode cX7_heard 2 = .ok (.invokevirtual 164, 3) := by decide +kernel
theorem dX7_heard_5 : decode cX7_heard 5 = .ok (.ifCond .eq 17, 3) := by decide +kernel
theorem dX7_heard_8 : decode cX7_heard 8 = .ok (.iload_n 2, 1) := by decide +kernel
theorem dX7_heard_9 : decode cX7_heard 9 = .ok (.ifCond .lt 13, 3) := by decide +kernel
theorem dX7_heard_12 : decode cX7_heard 12 = .ok (.iload_n 2, 1) := by decide +kernel
theorem dX7_heard_13 : decode cX7_heard 13 = .ok (.aload_n 0, 1) := by decide +kernel
theorem dX7_heard_14 : decode cX7_heard 14 = .ok (.getfield 47, 3) := by decide +kernel
theorem dX7_heard_17 : decode cX7_heard 17 = .ok (.iload_n 1, 1) := by decide +kernel
theorem dX7_heard_18 : decode cX7_heard 18 = .ok (.iaload, 1) := by decide +kernel
theorem dX7_heard_19 : decode cX7_heard 19 = .ok (.if_icmp .lt 7, 3) := by decide +kernel
theorem dX7_heard_22 : decode cX7_heard 22 = .ok (.iconst (-1), 1) := by decide +kernel
theorem dX7_heard_23 : decode cX7_heard 23 = .ok (.goto 15, 3) := by decide +kernel
theorem dX7_heard_26 : decode cX7_heard 26 = .ok (.aload_n 0, 1) := by decide +kernel
theorem dX7_heard_27 : decode cX7_heard 27 = .ok (.getfield 44, 3) := by decide +kernel
theorem dX7_heard_30 : decode cX7_heard 30 = .ok (.sipush 600, 3) := by decide +kernel
theorem dX7_heard_33 : decode cX7_heard 33 = .ok (.iload_n 1, 1) := by decide +kernel
theorem dX7_heard_34 : decode cX7_heard 34 = .ok (.imul, 1) := by decide +kernel
theorem dX7_heard_35 : decode cX7_heard 35 = .ok (.iload_n 2, 1) := by decide +kernel
theorem dX7_heard_36 : decode cX7_heard 36 = .ok (.iadd, 1) := by decide +kernel
theorem dX7_heard_37 : decode cX7_heard 37 = .ok (.iaload, 1) := by decide +kernel
theorem dX7_heard_38 : decode cX7_heard 38 = .ok (.ireturn, 1) := by decide +kernel
def B_Mo_heard_38 (mc ms : Nat) (Rt : Option zAV → zMp → Prop) (g : Nat → zKT) : zKT :=
  (i_iret mc ms Rt)
set_option maxRecDepth 20000 in
theorem s_Mo_heard_38 {X : zMa} {mc ms : Nat} {Rt : Option zAV → zMp → Prop} (hC : zCx X RX7 cX7_heard 1 21 mc ms (some .int) false Rt) : zLe (B_Mo_heard_38 mc ms Rt (zG X)) (zG X 38) :=
  (sd_iret hC dX7_heard_38)
def B_Mo_heard_26 (mc ms : Nat) (Rt : Option zAV → zMp → Prop) (g : Nat → zKT) : zKT :=
  (i_al 0 (i_gf 8 15 (i_ic 600 (i_il 1 (i_imul (i_il 2 (i_iadd (i_ial (B_Mo_heard_38 mc ms Rt g)))))))))
set_option maxRecDepth 20000 in
theorem s_Mo_heard_26 {X : zMa} {mc ms : Nat} {Rt : Option zAV → zMp → Prop} (hC : zCx X RX7 cX7_heard 1 21 mc ms (some .int) false Rt) : zLe (B_Mo_heard_26 mc ms Rt (zG X)) (zG X 26) :=
  (sd_al_n hC rfl dX7_heard_26 ((sd_gf hC (ci := 8) (fk := 15) rfl wi_Mo (by decide) fl_Mo_44 (Or.inl rfl) dX7_heard_27 ((sd_sipush hC (by decide) dX7_heard_30 ((sd_il_n hC rfl dX7_heard_33 ((sd_imul hC dX7_heard_34 ((sd_il_n hC rfl dX7_heard_35 ((sd_iadd hC dX7_heard_36 ((sd_ial hC dX7_heard_37 (s_Mo_heard_38 hC))))))))))))))))
def B_Mo_heard_22 (mc ms : Nat) (Rt : Option zAV → zMp → Prop) (g : Nat → zKT) : zKT :=
  (i_ic (-1) (B_Mo_heard_38 mc ms Rt g))
set_option maxRecDepth 20000 in
theorem s_Mo_heard_22 {X : zMa} {mc ms : Nat} {Rt : Option zAV → zMp → Prop} (hC : zCx X RX7 cX7_heard 1 21 mc ms (some .int) false Rt) : zLe (B_Mo_heard_22 mc ms Rt (zG X)) (zG X 22) :=
  (sd_iconst hC (by decide) dX7_heard_22 ((sd_goto hC (tgt := 38) (by decide) dX7_heard_23 (s_Mo_heard_38 hC))))
def B_Mo_heard_0 (mc ms : Nat) (Rt : Option zAV → zMp → Prop) (g : Nat → zKT) : zKT :=
  (i_al 0 (i_il 1 (i_callV mc ms 8 2 T_Mo_isReader co_Mo_isReader (i_ifeq (B_Mo_heard_22 mc ms Rt g) (i_il 2 (i_iflt (B_Mo_heard_22 mc ms Rt g) (i_il 2 (i_al 0 (i_gf 8 16 (i_il 1 (i_ial (i_iclt (B_Mo_heard_26 mc ms Rt g) (B_Mo_heard_22 mc ms Rt g)))))))))))))
set_option maxRecDepth 20000 in
theorem s_Mo_heard_0 {X : zMa} {mc ms : Nat} {Rt : Option zAV → zMp → Prop} (hC : zCx X RX7 cX7_heard 1 21 mc ms (some .int) false Rt) : zLe (B_Mo_heard_0 mc ms Rt (zG X)) (zG X 0) :=
  (sd_al_n hC rfl dX7_heard_0 ((sd_il_n hC rfl dX7_heard_1 ((sd_cV hC c_Mo_isReader yv_Mo_isReader (ci := 8) rfl rfl ml_Mo_164 (by decide) (by decide) dX7_heard_2 ((sd_ifeq hC (tgt := 22) (by decide) dX7_heard_5 (s_Mo_heard_22 hC) ((sd_il_n hC rfl dX7_heard_8 ((sd_iflt hC (tgt := 22) (by decide) dX7_heard_9 (s_Mo_heard_22 hC) ((sd_il_n hC rfl dX7_heard_12 ((sd_al_n hC rfl dX7_heard_13 ((sd_gf hC (ci := 8) (fk := 16) rfl wi_Mo (by decide) fl_Mo_47 (Or.inl rfl) dX7_heard_14 ((sd_il_n hC rfl dX7_heard_17 ((sd_ial hC dX7_heard_18 ((sd_iclt hC (tgt := 26) (by decide) dX7_heard_19 (s_Mo_heard_26 hC) (s_Mo_heard_22 hC))))))))))))))))))))))))
theorem c_Mo_heard (l : Launch) : zCT l yX7_heard cX7_heard 3 (some .int) 1 21 T_Mo_heard co_Mo_heard := by
  intro As M Rt hT
  obtain ⟨y, r, i, rfl, rfl, hJ, hR0, hR1⟩ := hT
  have hlim := hJ.lim
  refine zMet_of false (by decide +kernel) (fun h => by first | rfl | cases h) (Nat.le_of_ble_eq_true rfl) (fun X hN hC => ?_)
  show zG X 0 [some (.inr (30, 0, 0)), some (.inl (.int r)), some (.inl (.int i))] [] (mp y) 0 0
  refine s_Mo_heard_0 hC _ _ _ _ _ ?_
  simp only [B_Mo_heard_0, B_Mo_heard_22, B_Mo_heard_26, B_Mo_heard_38, co_Mo_heard, co_Mo_isReader, i_ic, i_lc, i_nul, i_il, i_ll, i_al, i_is, i_as, i_ls, i_inc, i_iadd, i_isub, i_imul, i_iand, i_ior, i_ixor, i_idiv, i_irem, i_ishl, i_ishr, i_ladd, i_lsub, i_land, i_lor, i_i2l, i_lushr, i_lshl, i_lshr, i_lcmp, i_dup, i_pop, i_dx1, i_dup2, i_ifeq, i_ifne, i_iflt, i_ifge, i_ifgt, i_ifle, i_iceq, i_icne, i_iclt, i_icge, i_icgt, i_icle, i_ifn, i_gf, i_pf, i_ial, i_bal, i_lal, i_aal, i_ias, i_las, i_bas, i_aas, i_alen, i_newa, i_new, i_anew, i_cast, i_oi, i_call, i_callV, i_callV2, i_callI, i_iret, i_zret, i_lret, i_vret, i_aret, i_mmx, i_mmn, i_gsE, i_aceq, i_no, i_acq, i_sw, zsw, zlg, zls, znl, zfg, zcs, zsp, zrc, zisn, zft, zc1, zto, Value.category, List.set_cons_zero, List.set_cons_succ, List.length_cons, List.length_nil, Option.toList, List.append, List.nil_append, List.cons_append, true_and, and_true, Nat.add_zero, Nat.zero_le, Nat.zero_add, Nat.le_refl, Nat.reduceAdd, Nat.reduceLeDiff, co0, z0, zn_0, zn_1, zn_2, zn_3, zn_4, zn_5, zn_8, zn_12, zn_24, zn_121, zn_144, zn_256, zn_300, zn_600, zn_720, zn_1204, zn_1280, zn_2400, zn_4816, zn_14400, zn_90000, q_main, m_main]
  refine ⟨y, r, rfl, rfl, ?_⟩
  simp only [B_Mo_heard_0, B_Mo_heard_22, B_Mo_heard_26, B_Mo_heard_38, co_Mo_heard, co_Mo_isReader, i_ic, i_lc, i_nul, i_il, i_ll, i_al, i_is, i_as, i_ls, i_inc, i_iadd, i_isub, i_imul, i_iand, i_ior, i_ixor, i_idiv, i_irem, i_ishl, i_ishr, i_ladd, i_lsub, i_land, i_lor, i_i2l, i_lushr, i_lshl, i_lshr, i_lcmp, i_dup, i_pop, i_dx1, i_dup2, i_ifeq, i_ifne, i_iflt, i_ifge, i_ifgt, i_ifle, i_iceq, i_icne, i_iclt, i_icge, i_icgt, i_icle, i_ifn, i_gf, i_pf, i_ial, i_bal, i_lal, i_aal, i_ias, i_las, i_bas, i_aas, i_alen, i_newa, i_new, i_anew, i_cast, i_oi, i_call, i_callV, i_callV2, i_callI, i_iret, i_zret, i_lret, i_vret, i_aret, i_mmx, i_mmn, i_gsE, i_aceq, i_no, i_acq, i_sw, zsw, zlg, zls, znl, zfg, zcs, zsp, zrc, zisn, zft, zc1, zto, Value.category, List.set_cons_zero, List.set_cons_succ, List.length_cons, List.length_nil, Option.toList, List.append, List.nil_append, List.cons_append, true_and, and_true, Nat.add_zero, Nat.zero_le, Nat.zero_add, Nat.le_refl, Nat.reduceAdd, Nat.reduceLeDiff, co0, z0, zn_0, zn_1, zn_2, zn_3, zn_4, zn_5, zn_8, zn_12, zn_24, zn_121, zn_144, zn_256, zn_300, zn_600, zn_720, zn_1204, zn_1280, zn_2400, zn_4816, zn_14400, zn_90000, q_main, m_main, q_hm, q_he]
  refine ⟨fun h => hR0 (zb_0.mp h), fun h => ?_⟩
  obtain ⟨k, hk, rfl⟩ := isn_t (by omega) (zb_n0 h)
  have hR := hR1 k hk rfl
  have hm := hJ.hm k (by omega)
  rw [nI_clamp (by omega)]
  refine ⟨fun h1 => ?_, fun h1 => ⟨vp_in_nI (by omega) (by decide), fun h2 => ?_, fun h2 => ?_⟩⟩
  · rw [if_neg (fun q => q.1 h1)] at hR; exact hR
  · rw [if_pos ⟨h1, h2⟩] at hR
    obtain ⟨j, hj, rfl⟩ := nI_of h1
    have hj2 := (nI_ltI hj (by omega)).mp h2
    simp only [ar_4, ar_5, ar_12, ar_300, ar_600, ar_1200, ar_10, nI_add, ar_1, ar_2, ar_3, ar_2m]
    rw [nI_clamp (by omega)] at hR
    rw [nI_clamp (by omega)]
    exact ⟨vp_in_nI (by omega) (by decide), hR⟩
  · rw [if_neg (fun q => h2 q.2)] at hR; exact hR
noncomputable def y_ntq (y : zMS) (k : Nat) (w : Int32) : Int32 := if isn 4 w = true then y_fi y (4 * k + w.toNatClampNeg) else if w = 4 then y_sa y k else if w = 5 then nI (y_mo y (nI k) (y_ms y)) else 0
def T_Mo_notice (As : List zAV) (M : zMp) (Rt : Option zAV → zMp → Prop) : Prop := ∃ y k w, As = [.inr (30, 0, 0), .inl (.int k), .inl (.int w)] ∧ M = mp y ∧ Jv y ∧ (isn (y_nn y) k = false → Rt (some (.inl (.int 0))) M) ∧ (∀ i, i < y_nn y → k = nI i → Rt (some (.inl (.int (y_ntq y i w)))) M)
abbrev co_Mo_notice := co0
theorem dX7_notice_0 : decode cX7_notice 0 = .ok (.iload_n 1, 1) := by decide +kernel
theorem dX7_notice_1 : decode cX7_notice 1 = .ok (.ifCond .lt 11, 3) := by decide +kernel
theorem dX7_notice_4 : decode cX7_notice 4 = .ok (.iload_n 1, 1) := by decide +kernel
theorem dX7_notice_5 : decode cX7_notice 5 = .ok (.aload_n 0, 1) := by decide +kernel
theorem dX7_notice_6 : decode cX7_notice 6 = .ok (.getfield 191, 3) := by decide +kernel
theorem dX7_notice_9 : decode cX7_notice 9 = .ok (.if_icmp .lt 5, 3) := by decide +kernel
theorem dX7_notice_12 : decode cX7_notice 12 = .ok (.iconst 0, 1) := by decide +kernel
theorem dX7_notice_13 : decode cX7_notice 13 = .ok (.ireturn, 1) := by decide +kernel
theorem dX7_notice_14 : decode cX7_notice 14 = .ok (.iload_n 2, 1) := by decide +kernel
theorem dX7_notice_15 : decode cX7_notice 15 = .ok (.ifCond .lt 21, 3) := by decide +kernel
theorem dX7_notice_18 : decode cX7_notice 18 = .ok (.iload_n 2, 1) := by decide +kernel
theorem dX7_notice_19 : decode cX7_notice 19 = .ok (.iconst 3, 1) := by decide +kernel
theorem dX7_notice_20 : decode cX7_notice 20 = .ok (.if_icmp .gt 16, 3) := by decide +kernel
theorem dX7_notice_23 : decode cX7_notice 23 = .ok (.aload_n 0, 1) := by decide +kernel
theorem dX7_notice_24 : decode cX7_notice 24 = .ok (.getfield 32, 3) := by decide +kernel
theorem dX7_notice_27 : decode cX7_notice 27 = .ok (.iconst 4, 1) := by decide +kernel
theorem dX7_notice_28 : decode cX7_notice 28 = .ok (.iload_n 1, 1) := by decide +kernel
theorem dX7_notice_29 : decode cX7_notice 29 = .ok (.imul, 1) := by decide +kernel
theorem dX7_notice_30 : decode cX7_notice 30 = .ok (.iload_n 2, 1) := by decide +kernel
theorem dX7_notice_31 : decode cX7_notice 31 = .ok (.iadd, 1) := by decide +kernel
theorem dX7_notice_32 : decode cX7_notice 32 = .ok (.iaload, 1) := by decide +kernel
theorem dX7_notice_33 : decode cX7_notice 33 = .ok (.goto 31, 3) := by decide +kernel
theorem dX7_notice_36 : decode cX7_notice 36 = .ok (.iload_n 2, 1) := by decide +kernel
theorem dX7_notice_37 : decode cX7_notice 37 = .ok (.iconst 4, 1) := by decide +kernel
theorem dX7_notice_38 : decode cX7_notice 38 = .ok (.if_icmp .ne 12, 3) := by decide +kernel
theorem dX7_notice_41 : decode cX7_notice 41 = .ok (.aload_n 0, 1) := by decide +kernel
theorem dX7_notice_42 : decode cX7_notice 42 = .ok (.getfield 35, 3) := by decide +kernel
theorem dX7_notice_45 : decode cX7_notice 45 = .ok (.iload_n 1, 1) := by decide +kernel
theorem dX7_notice_46 : decode cX7_notice 46 = .ok (.iaload, 1) := by decide +kernel
theorem dX7_notice_47 : decode cX7_notice 47 = .ok (.goto 17, 3) := by decide +kernel
theorem dX7_notice_50 : decode cX7_notice 50 = .ok (.iload_n 2, 1) := by decide +kernel
theorem dX7_notice_51 : decode cX7_notice 51 = .ok (.iconst 5, 1) := by decide +kernel
theorem dX7_notice_52 : decode cX7_notice 52 = .ok (.if_icmp .ne 11, 3) := by decide +kernel
theorem dX7_notice_55 : decode cX7_notice 55 = .ok (.aload_n 0, 1) := by decide +kernel
theorem dX7_notice_56 : decode cX7_notice 56 = .ok (.iload_n 1, 1) := by decide +kernel
theorem dX7_notice_57 : decode cX7_notice 57 = .ok (.invokevirtual 194, 3) := by decide +kernel
theorem dX7_notice_60 : decode cX7_notice 60 = .ok (.goto 4, 3) := by decide +kernel
theorem dX7_notice_63 : decode cX7_notice 63 = .ok (.iconst 0, 1) := by decide +kernel
theorem dX7_notice_64 : decode cX7_notice 64 = .ok (.ireturn, 1) := by decide +kernel
def B_Mo_notice_64 (mc ms : Nat) (Rt : Option zAV → zMp → Prop) (g : Nat → zKT) : zKT :=
  (i_iret mc ms Rt)
set_option maxRecDepth 20000 in
theorem s_Mo_notice_64 {X : zMa} {mc ms : Nat} {Rt : Option zAV → zMp → Prop} (hC : zCx X RX7 cX7_notice 1 23 mc ms (some .int) false Rt) : zLe (B_Mo_notice_64 mc ms Rt (zG X)) (zG X 64) :=
  (sd_iret hC dX7_notice_64)
def B_Mo_notice_63 (mc ms : Nat) (Rt : Option zAV → zMp → Prop) (g : Nat → zKT) : zKT :=
  (i_ic 0 (B_Mo_notice_64 mc ms Rt g))
set_option maxRecDepth 20000 in
theorem s_Mo_notice_63 {X : zMa} {mc ms : Nat} {Rt : Option zAV → zMp → Prop} (hC : zCx X RX7 cX7_notice 1 23 mc ms (some .int) false Rt) : zLe (B_Mo_notice_63 mc ms Rt (zG X)) (zG X 63) :=
  (sd_iconst hC (by decide) dX7_notice_63 (s_Mo_notice_64 hC))
def B_Mo_notice_50 (mc ms : Nat) (Rt : Option zAV → zMp → Prop) (g : Nat → zKT) : zKT :=
  (i_il 2 (i_ic 5 (i_icne (B_Mo_notice_63 mc ms Rt g) (i_al 0 (i_il 1 (i_callV mc ms 8 2 T_Mo_messagesOf co_Mo_messagesOf (B_Mo_notice_64 mc ms Rt g)))))))
set_option maxRecDepth 20000 in
theorem s_Mo_notice_50 {X : zMa} {mc ms : Nat} {Rt : Option zAV → zMp → Prop} (hC : zCx X RX7 cX7_notice 1 23 mc ms (some .int) false Rt) : zLe (B_Mo_notice_50 mc ms Rt (zG X)) (zG X 50) :=
  (sd_il_n hC rfl dX7_notice_50 ((sd_iconst hC (by decide) dX7_notice_51 ((sd_icne hC (tgt := 63) (by decide) dX7_notice_52 (s_Mo_notice_63 hC) ((sd_al_n hC rfl dX7_notice_55 ((sd_il_n hC rfl dX7_notice_56 ((sd_cV hC c_Mo_messagesOf yv_Mo_messagesOf (ci := 8) rfl rfl ml_Mo_194 (by decide) (by decide) dX7_notice_57 ((sd_goto hC (tgt := 64) (by decide) dX7_notice_60 (s_Mo_notice_64 hC))))))))))))))
def B_Mo_notice_36 (mc ms : Nat) (Rt : Option zAV → zMp → Prop) (g : Nat → zKT) : zKT :=
  (i_il 2 (i_ic 4 (i_icne (B_Mo_notice_50 mc ms Rt g) (i_al 0 (i_gf 8 12 (i_il 1 (i_ial (B_Mo_notice_64 mc ms Rt g))))))))
set_option maxRecDepth 20000 in
theorem s_Mo_notice_36 {X : zMa} {mc ms : Nat} {Rt : Option zAV → zMp → Prop} (hC : zCx X RX7 cX7_notice 1 23 mc ms (some .int) false Rt) : zLe (B_Mo_notice_36 mc ms Rt (zG X)) (zG X 36) :=
  (sd_il_n hC rfl dX7_notice_36 ((sd_iconst hC (by decide) dX7_notice_37 ((sd_icne hC (tgt := 50) (by decide) dX7_notice_38 (s_Mo_notice_50 hC) ((sd_al_n hC rfl dX7_notice_41 ((sd_gf hC (ci := 8) (fk := 12) rfl wi_Mo (by decide) fl_Mo_35 (Or.inl rfl) dX7_notice_42 ((sd_il_n hC rfl dX7_notice_45 ((sd_ial hC dX7_notice_46 ((sd_goto hC (tgt := 64) (by decide) dX7_notice_47 (s_Mo_notice_64 hC))))))))))))))))
def B_Mo_notice_14 (mc ms : Nat) (Rt : Option zAV → zMp → Prop) (g : Nat → zKT) : zKT :=
  (i_il 2 (i_iflt (B_Mo_notice_36 mc ms Rt g) (i_il 2 (i_ic 3 (i_icgt (B_Mo_notice_36 mc ms Rt g) (i_al 0 (i_gf 8 11 (i_ic 4 (i_il 1 (i_imul (i_il 2 (i_iadd (i_ial (B_Mo_notice_64 mc ms Rt g))))))))))))))
set_option maxRecDepth 20000 in
theorem s_Mo_notice_14 {X : zMa} {mc ms : Nat} {Rt : Option zAV → zMp → Prop} (hC : zCx X RX7 cX7_notice 1 23 mc ms (some .int) false Rt) : zLe (B_Mo_notice_14 mc ms Rt (zG X)) (zG X 14) :=
  (sd_il_n hC rfl dX7_notice_14 ((sd_iflt hC (tgt := 36) (by decide) dX7_notice_15 (s_Mo_notice_36 hC) ((sd_il_n hC rfl dX7_notice_18 ((sd_iconst hC (by decide) dX7_notice_19 ((sd_icgt hC (tgt := 36) (by decide) dX7_notice_20 (s_Mo_notice_36 hC) ((sd_al_n hC rfl dX7_notice_23 ((sd_gf hC (ci := 8) (fk := 11) rfl wi_Mo (by decide) fl_Mo_32 (Or.inl rfl) dX7_notice_24 ((sd_iconst hC (by decide) dX7_notice_27 ((sd_il_n hC rfl dX7_notice_28 ((sd_imul hC dX7_notice_29 ((sd_il_n hC rfl dX7_notice_30 ((sd_iadd hC dX7_notice_31 ((sd_ial hC dX7_notice_32 ((sd_goto hC (tgt := 64) (by decide) dX7_notice_33 (s_Mo_notice_64 hC))))))))))))))))))))))))))))
def B_Mo_notice_12 (mc ms : Nat) (Rt : Option zAV → zMp → Prop) (g : Nat → zKT) : zKT :=
  (i_ic 0 (i_iret mc ms Rt))
set_option maxRecDepth 20000 in
theorem s_Mo_notice_12 {X : zMa} {mc ms : Nat} {Rt : Option zAV → zMp → Prop} (hC : zCx X RX7 cX7_notice 1 23 mc ms (some .int) false Rt) : zLe (B_Mo_notice_12 mc ms Rt (zG X)) (zG X 12) :=
  (sd_iconst hC (by decide) dX7_notice_12 ((sd_iret hC dX7_notice_13)))
def B_Mo_notice_0 (mc ms : Nat) (Rt : Option zAV → zMp → Prop) (g : Nat → zKT) : zKT :=
  (i_il 1 (i_iflt (B_Mo_notice_12 mc ms Rt g) (i_il 1 (i_al 0 (i_gf 8 3 (i_iclt (B_Mo_notice_14 mc ms Rt g) (B_Mo_notice_12 mc ms Rt g)))))))
set_option maxRecDepth 20000 in
theorem s_Mo_notice_0 {X : zMa} {mc ms : Nat} {Rt : Option zAV → zMp → Prop} (hC : zCx X RX7 cX7_notice 1 23 mc ms (some .int) false Rt) : zLe (B_Mo_notice_0 mc ms Rt (zG X)) (zG X 0) :=
  (sd_il_n hC rfl dX7_notice_0 ((sd_iflt hC (tgt := 12) (by decide) dX7_notice_1 (s_Mo_notice_12 hC) ((sd_il_n hC rfl dX7_notice_4 ((sd_al_n hC rfl dX7_notice_5 ((sd_gf hC (ci := 8) (fk := 3) rfl wi_Mo (by decide) fl_Mo_191 (Or.inl rfl) dX7_notice_6 ((sd_iclt hC (tgt := 14) (by decide) dX7_notice_9 (s_Mo_notice_14 hC) (s_Mo_notice_12 hC))))))))))))
theorem c_Mo_notice (l : Launch) : zCT l yX7_notice cX7_notice 3 (some .int) 1 23 T_Mo_notice co_Mo_notice := by
  intro As M Rt hT
  obtain ⟨y, k, w, rfl, rfl, hJ, hR0, hR1⟩ := hT
  have hlim := hJ.lim
  refine zMet_of false (by decide +kernel) (fun h => by first | rfl | cases h) (Nat.le_of_ble_eq_true rfl) (fun X hN hC => ?_)
  show zG X 0 [some (.inr (30, 0, 0)), some (.inl (.int k)), some (.inl (.int w))] [] (mp y) 0 0
  refine s_Mo_notice_0 hC _ _ _ _ _ ?_
  simp only [B_Mo_notice_0, B_Mo_notice_12, B_Mo_notice_14, B_Mo_notice_36, B_Mo_notice_50, B_Mo_notice_63, B_Mo_notice_64, co_Mo_messagesOf, co_Mo_notice, i_ic, i_lc, i_nul, i_il, i_ll, i_al, i_is, i_as, i_ls, i_inc, i_iadd, i_isub, i_imul, i_iand, i_ior, i_ixor, i_idiv, i_irem, i_ishl, i_ishr, i_ladd, i_lsub, i_land, i_lor, i_i2l, i_lushr, i_lshl, i_lshr, i_lcmp, i_dup, i_pop, i_dx1, i_dup2, i_ifeq, i_ifne, i_iflt, i_ifge, i_ifgt, i_ifle, i_iceq, i_icne, i_iclt, i_icge, i_icgt, i_icle, i_ifn, i_gf, i_pf, i_ial, i_bal, i_lal, i_aal, i_ias, i_las, i_bas, i_aas, i_alen, i_newa, i_new, i_anew, i_cast, i_oi, i_call, i_callV, i_callV2, i_callI, i_iret, i_zret, i_lret, i_vret, i_aret, i_mmx, i_mmn, i_gsE, i_aceq, i_no, i_acq, i_sw, zsw, zlg, zls, znl, zfg, zcs, zsp, zrc, zisn, zft, zc1, zto, Value.category, List.set_cons_zero, List.set_cons_succ, List.length_cons, List.length_nil, Option.toList, List.append, List.nil_append, List.cons_append, true_and, and_true, Nat.add_zero, Nat.zero_le, Nat.zero_add, Nat.le_refl, Nat.reduceAdd, Nat.reduceLeDiff, co0, z0, zn_0, zn_1, zn_2, zn_3, zn_4, zn_5, zn_8, zn_12, zn_24, zn_121, zn_144, zn_256, zn_300, zn_600, zn_720, zn_1204, zn_1280, zn_2400, zn_4816, zn_14400, zn_90000, q_main, m_main, q_fi, q_sa]
  refine ⟨fun h => hR0 (zd_f (fun q => q.1 h)), fun h => ⟨fun h2 => ?_, fun h2 => hR0 (zd_f (fun q => h2 q.2))⟩⟩
  obtain ⟨i, hi, rfl⟩ := isn_t (by omega) (zd_t ⟨h, h2⟩)
  have hR := hR1 i hi rfl
  have tail : ¬ isn 4 w = true → (¬ w = 4 → (¬ w = 5 → Rt (some (.inl (.int 0))) (mp y)) ∧ (w = 5 → T_Mo_messagesOf [.inr (30, 0, 0), .inl (.int (nI i))] (mp y) (fun v M' => match (match v with | none => [] | some a => [a]) ++ ([] : List zAV) with | [.inl (.int x)] => Rt (some (.inl (.int x))) M' | _ => False))) ∧ (w = 4 → vp_in (nI i) 600 ∧ Rt (some (.inl (.int (y_sa y (nI i).toNatClampNeg)))) (mp y)) := by
    intro hn
    unfold y_ntq at hR
    rw [if_neg hn] at hR
    refine ⟨fun h4 => ?_, fun h4 => ?_⟩
    · rw [if_neg h4] at hR
      refine ⟨fun h5 => ?_, fun h5 => ?_⟩
      · rw [if_neg h5] at hR; exact hR
      · rw [if_pos h5] at hR; exact ⟨y, nI i, rfl, rfl, hJ, hR⟩
    · rw [if_pos h4] at hR
      rw [nI_clamp (by omega)]
      exact ⟨vp_in_nI (by omega) (by decide), hR⟩
  refine ⟨fun h3 => ?_, fun h3 => ⟨fun h4 => ?_, fun h4 => ?_⟩⟩
  · exact tail (fun q => (zd_i.mp q).1 h3)
  · exact tail (fun q => le3_lt4.mpr (zd_i.mp q).2 h4)
  · have h5 : isn 4 w = true := zd_t ⟨h3, le3_lt4.mp h4⟩
    obtain ⟨j, hj, rfl⟩ := isn_t (by decide) h5
    unfold y_ntq at hR
    rw [if_pos h5, nI_clamp (by omega)] at hR
    simp only [ar_4, ar_5, ar_12, ar_300, ar_600, ar_1200, ar_10, nI_add, ar_1, ar_2, ar_3, ar_2m]
    rw [nI_clamp (by omega)]
    exact ⟨vp_in_nI (by omega) (by decide), hR⟩
