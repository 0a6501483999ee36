/-! the reference: isCovered, means -/
noncomputable def y_cvd (y : zMS) (a b : Nat) : Bool := zd ((∃ f, f < 4 ∧ sN (y_kd y (4 * b + f)) (y_mn y (4 * b + f)) (y_g y (4 * b + f)) = 0) ∨ ∀ f, f < 4 → y_hold y (4 * a + f) (4 * b + f) = true)
def T_Mo_isCovered (As : List zAV) (M : zMp) (Rt : Option zAV → zMp → Prop) : Prop := ∃ y a b, As = [.inr (30, 0, 0), .inl (.int (nI a)), .inl (.int (nI b))] ∧ M = mp y ∧ a < 300 ∧ b < 300 ∧ (∀ t, t < 1204 → y_tok y t) ∧ ∀ lo hi, Rt (some (.inl (.int (zb (y_cvd y a b))))) (mp (ys y lo hi))
abbrev co_Mo_isCovered := co0
theorem dX7_isCovered_0 : decode cX7_isCovered 0 = .ok (.iconst 0, 1) := by decide +kernel
theorem dX7_isCovered_1 : decode cX7_isCovered 1 = .ok (.istore_n 3, 1) := by decide +kernel
theorem dX7_isCovered_2 : decode cX7_isCovered 2 = .ok (.iload_n 3, 1) := by decide +kernel
theorem dX7_isCovered_3 : decode cX7_isCovered 3 = .ok (.iconst 4, 1) := by decide +kernel
theorem dX7_isCovered_4 : decode cX7_isCovered 4 = .ok (.if_icmp .ge 24, 3) := by decide +kernel
theorem dX7_isCovered_7 : decode cX7_isCovered 7 = .ok (.aload_n 0, 1) := by decide +kernel
theorem dX7_isCovered_8 : decode cX7_isCovered 8 = .ok (.iconst 4, 1) := by decide +kernel
theorem dX7_isCovered_9 : decode cX7_isCovered 9 = .ok (.iload_n 2, 1) := by decide +kernel
theorem dX7_isCovered_10 : decode cX7_isCovered 10 = .ok (.imul, 1) := by decide +kernel
theorem dX7_isCovered_11 : decode cX7_isCovered 11 = .ok (.iload_n 3, 1) := by decide +kernel
theorem dX7_isCovered_12 : decode cX7_isCovered 12 = .ok (.iadd, 1) := by decide +kernel
theorem dX7_isCovered_13 : decode cX7_isCovered 13 = .ok (.iconst 0, 1) := by decide +kernel
theorem dX7_isCovered_14 : decode cX7_isCovered 14 = .ok (.invokevirtual 112, 3) := by decide +kernel
theorem dX7_isCovered_17 : decode cX7_isCovered 17 = .ok (.ifCond .ne 5, 3) := by decide +kernel
theorem dX7_isCovered_20 : decode cX7_isCovered 20 = .ok (.iconst 1, 1) := by decide +kernel
theorem dX7_isCovered_21 : decode cX7_isCovered 21 = .ok (.ireturn, 1) := by decide +kernel
theorem dX7_isCovered_22 : decode cX7_isCovered 22 = .ok (.iinc 3 1, 3) := by decide +kernel
theorem dX7_isCovered_25 : decode cX7_isCovered 25 = .ok (.goto (-23), 3) := by decide +kernel
theorem dX7_isCovered_28 : decode cX7_isCovered 28 = .ok (.iconst 0, 1) := by decide +kernel
theorem dX7_isCovered_29 : decode cX7_isCovered 29 = .ok (.istore_n 3, 1) := by decide +kernel
theorem dX7_isCovered_30 : decode cX7_isCovered 30 = .ok (.iload_n 3, 1) := by decide +kernel
theorem dX7_isCovered_31 : decode cX7_isCovered 31 = .ok (.iconst 4, 1) := by decide +kernel
theorem dX7_isCovered_32 : decode cX7_isCovered 32 = .ok (.if_icmp .ge 28, 3) := by decide +kernel
theorem dX7_isCovered_35 : decode cX7_isCovered 35 = .ok (.aload_n 0, 1) := by decide +kernel
theorem dX7_isCovered_36 : decode cX7_isCovered 36 = .ok (.iconst 4, 1) := by decide +kernel
theorem dX7_isCovered_37 : decode cX7_isCovered 37 = .ok (.iload_n 1, 1) := by decide +kernel
theorem dX7_isCovered_38 : decode cX7_isCovered 38 = .ok (.imul, 1) := by decide +kernel
theorem dX7_isCovered_39 : decode cX7_isCovered 39 = .ok (.iload_n 3, 1) := by decide +kernel
theorem dX7_isCovered_40 : decode cX7_isCovered 40 = .ok (.iadd, 1) := by decide +kernel
theorem dX7_isCovered_41 : decode cX7_isCovered 41 = .ok (.iconst 4, 1) := by decide +kernel
theorem dX7_isCovered_42 : decode cX7_isCovered 42 = .ok (.iload_n 2, 1) := by decide +kernel
theorem dX7_isCovered_43 : decode cX7_isCovered 43 = .ok (.imul, 1) := by decide +kernel
theorem dX7_isCovered_44 : decode cX7_isCovered 44 = .ok (.iload_n 3, 1) := by decide +kernel
theorem dX7_isCovered_45 : decode cX7_isCovered 45 = .ok (.iadd, 1) := by decide +kernel
theorem dX7_isCovered_46 : decode cX7_isCovered 46 = .ok (.invokevirtual 116, 3) := by decide +kernel
theorem dX7_isCovered_49 : decode cX7_isCovered 49 = .ok (.ifCond .ne 5, 3) := by decide +kernel
theorem dX7_isCovered_52 : decode cX7_isCovered 52 = .ok (.iconst 0, 1) := by decide +kernel
theorem dX7_isCovered_53 : decode cX7_isCovered 53 = .ok (.ireturn, 1) := by decide +kernel
theorem dX7_isCovered_54 : decode cX7_isCovered 54 = .ok (.iinc 3 1, 3) := by decide +kernel
theorem dX7_isCovered_57 : decode cX7_isCovered 57 = .ok (.goto (-27), 3) := by decide +kernel
theorem dX7_isCovered_60 : decode cX7_isCovered 60 = .ok (.iconst 1, 1) := by decide +kernel
theorem dX7_isCovered_61 : decode cX7_isCovered 61 = .ok (.ireturn, 1) := by decide +kernel
def B_Mo_isCovered_60 (mc ms : Nat) (Rt : Option zAV → zMp → Prop) (g : Nat → zKT) : zKT :=
  (i_ic 1 (i_zret mc ms Rt))
set_option maxRecDepth 20000 in
theorem s_Mo_isCovered_60 {X : zMa} {mc ms : Nat} {Rt : Option zAV → zMp → Prop} (hC : zCx X RX7 cX7_isCovered 2 62 mc ms (some .boolean) false Rt) (hN : zNL X = 4) : zLe (B_Mo_isCovered_60 mc ms Rt (zG X)) (zG X 60) :=
  (sd_iconst hC (by decide) dX7_isCovered_60 ((sd_zret hC dX7_isCovered_61)))
def B_Mo_isCovered_54 (mc ms : Nat) (Rt : Option zAV → zMp → Prop) (g : Nat → zKT) : zKT :=
  (i_inc 3 1 (g 30))
set_option maxRecDepth 20000 in
theorem s_Mo_isCovered_54 {X : zMa} {mc ms : Nat} {Rt : Option zAV → zMp → Prop} (hC : zCx X RX7 cX7_isCovered 2 62 mc ms (some .boolean) false Rt) (hN : zNL X = 4) : zLe (B_Mo_isCovered_54 mc ms Rt (zG X)) (zG X 54) :=
  (sd_inc hC (by decide) (by rw [hN]; decide) dX7_isCovered_54 ((sd_goto hC (tgt := 30) (by decide) dX7_isCovered_57 (zLe_rfl))))
def B_Mo_isCovered_30 (mc ms : Nat) (Rt : Option zAV → zMp → Prop) (g : Nat → zKT) : zKT :=
  (i_il 3 (i_ic 4 (i_icge (B_Mo_isCovered_60 mc ms Rt g) (i_al 0 (i_ic 4 (i_il 1 (i_imul (i_il 3 (i_iadd (i_ic 4 (i_il 2 (i_imul (i_il 3 (i_iadd (i_callV mc ms 8 3 T_Mo_holds co_Mo_holds (i_ifne (B_Mo_isCovered_54 mc ms Rt g) (i_ic 0 (i_zret mc ms Rt))))))))))))))))))
set_option maxRecDepth 20000 in
theorem s_Mo_isCovered_30 {X : zMa} {mc ms : Nat} {Rt : Option zAV → zMp → Prop} (hC : zCx X RX7 cX7_isCovered 2 62 mc ms (some .boolean) false Rt) (hN : zNL X = 4) : zLe (B_Mo_isCovered_30 mc ms Rt (zG X)) (zG X 30) :=
  (sd_il_n hC rfl dX7_isCovered_30 ((sd_iconst hC (by decide) dX7_isCovered_31 ((sd_icge hC (tgt := 60) (by decide) dX7_isCovered_32 (s_Mo_isCovered_60 hC hN) ((sd_al_n hC rfl dX7_isCovered_35 ((sd_iconst hC (by decide) dX7_isCovered_36 ((sd_il_n hC rfl dX7_isCovered_37 ((sd_imul hC dX7_isCovered_38 ((sd_il_n hC rfl dX7_isCovered_39 ((sd_iadd hC dX7_isCovered_40 ((sd_iconst hC (by decide) dX7_isCovered_41 ((sd_il_n hC rfl dX7_isCovered_42 ((sd_imul hC dX7_isCovered_43 ((sd_il_n hC rfl dX7_isCovered_44 ((sd_iadd hC dX7_isCovered_45 ((sd_cV hC c_Mo_holds yv_Mo_holds (ci := 8) rfl rfl ml_Mo_116 (by decide) (by decide) dX7_isCovered_46 ((sd_ifne hC (tgt := 54) (by decide) dX7_isCovered_49 (s_Mo_isCovered_54 hC hN) ((sd_iconst hC (by decide) dX7_isCovered_52 ((sd_zret hC dX7_isCovered_53)))))))))))))))))))))))))))))))))))
def B_Mo_isCovered_28 (mc ms : Nat) (Rt : Option zAV → zMp → Prop) (g : Nat → zKT) : zKT :=
  (i_ic 0 (i_is 3 (g 30)))
set_option maxRecDepth 20000 in
theorem s_Mo_isCovered_28 {X : zMa} {mc ms : Nat} {Rt : Option zAV → zMp → Prop} (hC : zCx X RX7 cX7_isCovered 2 62 mc ms (some .boolean) false Rt) (hN : zNL X = 4) : zLe (B_Mo_isCovered_28 mc ms Rt (zG X)) (zG X 28) :=
  (sd_iconst hC (by decide) dX7_isCovered_28 ((sd_is_n hC rfl (by rw [hN]; decide) dX7_isCovered_29 (zLe_rfl))))
def B_Mo_isCovered_22 (mc ms : Nat) (Rt : Option zAV → zMp → Prop) (g : Nat → zKT) : zKT :=
  (i_inc 3 1 (g 2))
set_option maxRecDepth 20000 in
theorem s_Mo_isCovered_22 {X : zMa} {mc ms : Nat} {Rt : Option zAV → zMp → Prop} (hC : zCx X RX7 cX7_isCovered 2 62 mc ms (some .boolean) false Rt) (hN : zNL X = 4) : zLe (B_Mo_isCovered_22 mc ms Rt (zG X)) (zG X 22) :=
  (sd_inc hC (by decide) (by rw [hN]; decide) dX7_isCovered_22 ((sd_goto hC (tgt := 2) (by decide) dX7_isCovered_25 (zLe_rfl))))
def B_Mo_isCovered_2 (mc ms : Nat) (Rt : Option zAV → zMp → Prop) (g : Nat → zKT) : zKT :=
  (i_il 3 (i_ic 4 (i_icge (B_Mo_isCovered_28 mc ms Rt g) (i_al 0 (i_ic 4 (i_il 2 (i_imul (i_il 3 (i_iadd (i_ic 0 (i_callV mc ms 8 3 T_Mo_spans co_Mo_spans (i_ifne (B_Mo_isCovered_22 mc ms Rt g) (i_ic 1 (i_zret mc ms Rt))))))))))))))
set_option maxRecDepth 20000 in
theorem s_Mo_isCovered_2 {X : zMa} {mc ms : Nat} {Rt : Option zAV → zMp → Prop} (hC : zCx X RX7 cX7_isCovered 2 62 mc ms (some .boolean) false Rt) (hN : zNL X = 4) : zLe (B_Mo_isCovered_2 mc ms Rt (zG X)) (zG X 2) :=
  (sd_il_n hC rfl dX7_isCovered_2 ((sd_iconst hC (by decide) dX7_isCovered_3 ((sd_icge hC (tgt := 28) (by decide) dX7_isCovered_4 (s_Mo_isCovered_28 hC hN) ((sd_al_n hC rfl dX7_isCovered_7 ((sd_iconst hC (by decide) dX7_isCovered_8 ((sd_il_n hC rfl dX7_isCovered_9 ((sd_imul hC dX7_isCovered_10 ((sd_il_n hC rfl dX7_isCovered_11 ((sd_iadd hC dX7_isCovered_12 ((sd_iconst hC (by decide) dX7_isCovered_13 ((sd_cV hC c_Mo_spans yv_Mo_spans (ci := 8) rfl rfl ml_Mo_112 (by decide) (by decide) dX7_isCovered_14 ((sd_ifne hC (tgt := 22) (by decide) dX7_isCovered_17 (s_Mo_isCovered_22 hC hN) ((sd_iconst hC (by decide) dX7_isCovered_20 ((sd_zret hC dX7_isCovered_21)))))))))))))))))))))))))))
def B_Mo_isCovered_0 (mc ms : Nat) (Rt : Option zAV → zMp → Prop) (g : Nat → zKT) : zKT :=
  (i_ic 0 (i_is 3 (g 2)))
set_option maxRecDepth 20000 in
theorem s_Mo_isCovered_0 {X : zMa} {mc ms : Nat} {Rt : Option zAV → zMp → Prop} (hC : zCx X RX7 cX7_isCovered 2 62 mc ms (some .boolean) false Rt) (hN : zNL X = 4) : zLe (B_Mo_isCovered_0 mc ms Rt (zG X)) (zG X 0) :=
  (sd_iconst hC (by decide) dX7_isCovered_0 ((sd_is_n hC rfl (by rw [hN]; decide) dX7_isCovered_1 (zLe_rfl))))
theorem c_Mo_isCovered (l : Launch) : zCT l yX7_isCovered cX7_isCovered 4 (some .boolean) 2 62 T_Mo_isCovered co_Mo_isCovered := by
  intro As M Rt hT
  obtain ⟨y, a, b, rfl, rfl, ha, hb, hk, hR⟩ := hT
  unfold y_cvd at hR
  refine zMet_of false (by decide +kernel) (fun h => by first | rfl | cases h) (Nat.le_of_ble_eq_true rfl) (fun X hN hC => ?_)
  show zG X 0 [some (.inr (30, 0, 0)), some (.inl (.int (nI a))), some (.inl (.int (nI b))), none] [] (mp y) 0 0
  have loop2 : (∀ f, f < 4 → ¬ sN (y_kd y (4 * b + f)) (y_mn y (4 * b + f)) (y_g y (4 * b + f)) = 0) → ∀ lo hi, zG X 30 [some (.inr (30, 0, 0)), some (.inl (.int (nI a))), some (.inl (.int (nI b))), some (.inl (.int (nI 0)))] [] (mp (ys y lo hi)) 0 0 := by
    intro hno
    refine fun lo hi => upto (N := 4) (P := fun i => ∀ lo hi, (∀ j, j < i → y_hold y (4 * a + j) (4 * b + j) = true) → zG X 30 [some (.inr (30, 0, 0)), some (.inl (.int (nI a))), some (.inl (.int (nI b))), some (.inl (.int (nI i)))] [] (mp (ys y lo hi)) 0 0) (fun i hi' ih lo hi hp => ?_) (fun lo hi hp => ?_) 0 (Nat.zero_le _) lo hi (fun j hj => absurd hj (Nat.not_lt_zero j))
    · refine s_Mo_isCovered_30 hC hN _ _ _ _ _ ?_
      simp only [B_Mo_isCovered_0, B_Mo_isCovered_2, B_Mo_isCovered_22, B_Mo_isCovered_28, B_Mo_isCovered_30, B_Mo_isCovered_54, B_Mo_isCovered_60, co_Mo_holds, co_Mo_isCovered, co_Mo_spans, i_ic, i_lc, i_nul, i_il, i_ll, i_al, i_is, i_as, i_ls, i_inc, i_iadd, i_isub, i_imul, i_iand, i_ior, i_ixor, i_idiv, i_irem, i_ishl, i_ishr, i_ladd, i_lsub, i_land, i_lor, i_i2l, i_lushr, i_lshl, i_lshr, i_lcmp, i_dup, i_pop, i_dx1, i_dup2, i_ifeq, i_ifne, i_iflt, i_ifge, i_ifgt, i_ifle, i_iceq, i_icne, i_iclt, i_icge, i_icgt, i_icle, i_ifn, i_gf, i_pf, i_ial, i_bal, i_lal, i_aal, i_ias, i_las, i_bas, i_aas, i_alen, i_newa, i_new, i_anew, i_cast, i_oi, i_call, i_callV, i_callV2, i_callI, i_iret, i_zret, i_lret, i_vret, i_aret, i_mmx, i_mmn, i_gsE, i_aceq, i_no, i_acq, i_sw, zsw, zlg, zls, znl, zfg, zcs, zsp, zrc, zisn, zft, zc1, zto, Value.category, List.set_cons_zero, List.set_cons_succ, List.length_cons, List.length_nil, Option.toList, List.append, List.nil_append, List.cons_append, true_and, and_true, Nat.add_zero, Nat.zero_le, Nat.zero_add, Nat.le_refl, Nat.reduceAdd, Nat.reduceLeDiff, co0, z0, zn_0, zn_1, zn_2, zn_3, zn_4, zn_5, zn_8, zn_12, zn_24, zn_121, zn_144, zn_256, zn_300, zn_600, zn_720, zn_1204, zn_1280, zn_2400, zn_4816, zn_14400, zn_90000, q_main, m_main, ar_4, ar_5, ar_12, ar_300, ar_600, ar_1200, ar_10, nI_add, ar_1, ar_2, ar_3, ar_2m]
      refine ⟨fun h => absurd ((zK (K := 4) (by decide) (n := i) (by omega)).2.1.mp h) (by omega), fun _ => ⟨ys y lo hi, 4 * a + i, 4 * b + i, rfl, rfl, by omega, by omega, hk _ (by omega), hk _ (by omega), fun lo' hi'' => ?_⟩⟩
      have e : y_hold (ys y lo hi) (4 * a + i) (4 * b + i) = y_hold y (4 * a + i) (4 * b + i) := rfl
      rw [e, show ys (ys y lo hi) lo' hi'' = ys y lo' hi'' from rfl]
      refine ⟨fun h => ih lo' hi'' (fun j hj => ?_), fun h => ⟨by decide, ?_⟩⟩
      · by_cases ej : j = i
        · rw [ej]; exact zb_n0 h
        · exact hp j (by omega)
      · have hr := hR lo' hi''
        rw [zd_f (fun q => q.elim (fun ⟨f, hf, z⟩ => hno f hf z) (fun z => by have := z i hi'; rw [zb_0.mp h] at this; cases this))] at hr
        exact hr
    · refine s_Mo_isCovered_30 hC hN _ _ _ _ _ ?_
      simp only [B_Mo_isCovered_0, B_Mo_isCovered_2, B_Mo_isCovered_22, B_Mo_isCovered_28, B_Mo_isCovered_30, B_Mo_isCovered_54, B_Mo_isCovered_60, co_Mo_holds, co_Mo_isCovered, co_Mo_spans, i_ic, i_lc, i_nul, i_il, i_ll, i_al, i_is, i_as, i_ls, i_inc, i_iadd, i_isub, i_imul, i_iand, i_ior, i_ixor, i_idiv, i_irem, i_ishl, i_ishr, i_ladd, i_lsub, i_land, i_lor, i_i2l, i_lushr, i_lshl, i_lshr, i_lcmp, i_dup, i_pop, i_dx1, i_dup2, i_ifeq, i_ifne, i_iflt, i_ifge, i_ifgt, i_ifle, i_iceq, i_icne, i_iclt, i_icge, i_icgt, i_icle, i_ifn, i_gf, i_pf, i_ial, i_bal, i_lal, i_aal, i_ias, i_las, i_bas, i_aas, i_alen, i_newa, i_new, i_anew, i_cast, i_oi, i_call, i_callV, i_callV2, i_callI, i_iret, i_zret, i_lret, i_vret, i_aret, i_mmx, i_mmn, i_gsE, i_aceq, i_no, i_acq, i_sw, zsw, zlg, zls, znl, zfg, zcs, zsp, zrc, zisn, zft, zc1, zto, Value.category, List.set_cons_zero, List.set_cons_succ, List.length_cons, List.length_nil, Option.toList, List.append, List.nil_append, List.cons_append, true_and, and_true, Nat.add_zero, Nat.zero_le, Nat.zero_add, Nat.le_refl, Nat.reduceAdd, Nat.reduceLeDiff, co0, z0, zn_0, zn_1, zn_2, zn_3, zn_4, zn_5, zn_8, zn_12, zn_24, zn_121, zn_144, zn_256, zn_300, zn_600, zn_720, zn_1204, zn_1280, zn_2400, zn_4816, zn_14400, zn_90000]
      refine ⟨fun _ => ⟨by decide, ?_⟩, fun h => absurd (by decide) h⟩
      have hr := hR lo hi
      rw [zd_t (Or.inr hp)] at hr
      exact hr
  have loop1 := upto (N := 4) (P := fun i => ∀ lo hi, (∀ j, j < i → ¬ sN (y_kd y (4 * b + j)) (y_mn y (4 * b + j)) (y_g y (4 * b + j)) = 0) → zG X 2 [some (.inr (30, 0, 0)), some (.inl (.int (nI a))), some (.inl (.int (nI b))), some (.inl (.int (nI i)))] [] (mp (ys y lo hi)) 0 0) (fun i hi' ih lo hi hp => by
    refine s_Mo_isCovered_2 hC hN _ _ _ _ _ ?_
    simp only [B_Mo_isCovered_0, B_Mo_isCovered_2, B_Mo_isCovered_22, B_Mo_isCovered_54, B_Mo_isCovered_60, co_Mo_holds, co_Mo_isCovered, co_Mo_spans, i_ic, i_lc, i_nul, i_il, i_ll, i_al, i_is, i_as, i_ls, i_inc, i_iadd, i_isub, i_imul, i_iand, i_ior, i_ixor, i_idiv, i_irem, i_ishl, i_ishr, i_ladd, i_lsub, i_land, i_lor, i_i2l, i_lushr, i_lshl, i_lshr, i_lcmp, i_dup, i_pop, i_dx1, i_dup2, i_ifeq, i_ifne, i_iflt, i_ifge, i_ifgt, i_ifle, i_iceq, i_icne, i_iclt, i_icge, i_icgt, i_icle, i_ifn, i_gf, i_pf, i_ial, i_bal, i_lal, i_aal, i_ias, i_las, i_bas, i_aas, i_alen, i_newa, i_new, i_anew, i_cast, i_oi, i_call, i_callV, i_callV2, i_callI, i_iret, i_zret, i_lret, i_vret, i_aret, i_mmx, i_mmn, i_gsE, i_aceq, i_no, i_acq, i_sw, zsw, zlg, zls, znl, zfg, zcs, zsp, zrc, zisn, zft, zc1, zto, Value.category, List.set_cons_zero, List.set_cons_succ, List.length_cons, List.length_nil, Option.toList, List.append, List.nil_append, List.cons_append, true_and, and_true, Nat.add_zero, Nat.zero_le, Nat.zero_add, Nat.le_refl, Nat.reduceAdd, Nat.reduceLeDiff, co0, z0, zn_0, zn_1, zn_2, zn_3, zn_4, zn_5, zn_8, zn_12, zn_24, zn_121, zn_144, zn_256, zn_300, zn_600, zn_720, zn_1204, zn_1280, zn_2400, zn_4816, zn_14400, zn_90000, q_main, m_main, ar_4, ar_5, ar_12, ar_300, ar_600, ar_1200, ar_10, nI_add, ar_1, ar_2, ar_3, ar_2m]
    refine ⟨fun h => absurd ((zK (K := 4) (by decide) (n := i) (by omega)).2.1.mp h) (by omega), fun _ => ⟨ys y lo hi, 4 * b + i, 0, rfl, rfl, by omega, by decide, hk _ (by omega), fun lo' hi'' _ => ?_⟩⟩
    have hs := sN_le (kd := y_kd y (4 * b + i)) (g := y_g y (4 * b + i)) (hk _ (show 4 * b + i < 1204 by omega)).2
    rw [show sN (y_kd (ys y lo hi) (4 * b + i)) (y_mn (ys y lo hi) (4 * b + i)) (y_g (ys y lo hi) (4 * b + i)) = sN (y_kd y (4 * b + i)) (y_mn y (4 * b + i)) (y_g y (4 * b + i)) from rfl, show ys (ys y lo hi) lo' hi'' = ys y lo' hi'' from rfl]
    refine ⟨fun h => ih lo' hi'' (fun j hj => ?_), fun h => ⟨by decide, ?_⟩⟩
    · by_cases ej : j = i
      · rw [ej]; exact fun q => h ((nI_z (by omega)).mpr q)
      · exact hp j (by omega)
    · have hr := hR lo' hi''
      rw [zd_t (Or.inl ⟨i, hi', (nI_z (by omega)).mp h⟩)] at hr
      exact hr) (fun lo hi hp => by
    refine s_Mo_isCovered_2 hC hN _ _ _ _ _ ?_
    simp only [B_Mo_isCovered_0, B_Mo_isCovered_2, B_Mo_isCovered_22, B_Mo_isCovered_28, B_Mo_isCovered_30, B_Mo_isCovered_54, B_Mo_isCovered_60, co_Mo_holds, co_Mo_isCovered, co_Mo_spans, i_ic, i_lc, i_nul, i_il, i_ll, i_al, i_is, i_as, i_ls, i_inc, i_iadd, i_isub, i_imul, i_iand, i_ior, i_ixor, i_idiv, i_irem, i_ishl, i_ishr, i_ladd, i_lsub, i_land, i_lor, i_i2l, i_lushr, i_lshl, i_lshr, i_lcmp, i_dup, i_pop, i_dx1, i_dup2, i_ifeq, i_ifne, i_iflt, i_ifge, i_ifgt, i_ifle, i_iceq, i_icne, i_iclt, i_icge, i_icgt, i_icle, i_ifn, i_gf, i_pf, i_ial, i_bal, i_lal, i_aal, i_ias, i_las, i_bas, i_aas, i_alen, i_newa, i_new, i_anew, i_cast, i_oi, i_call, i_callV, i_callV2, i_callI, i_iret, i_zret, i_lret, i_vret, i_aret, i_mmx, i_mmn, i_gsE, i_aceq, i_no, i_acq, i_sw, zsw, zlg, zls, znl, zfg, zcs, zsp, zrc, zisn, zft, zc1, zto, Value.category, List.set_cons_zero, List.set_cons_succ, List.length_cons, List.length_nil, Option.toList, List.append, List.nil_append, List.cons_append, true_and, and_true, Nat.add_zero, Nat.zero_le, Nat.zero_add, Nat.le_refl, Nat.reduceAdd, Nat.reduceLeDiff, co0, z0, zn_0, zn_1, zn_2, zn_3, zn_4, zn_5, zn_8, zn_12, zn_24, zn_121, zn_144, zn_256, zn_300, zn_600, zn_720, zn_1204, zn_1280, zn_2400, zn_4816, zn_14400, zn_90000]
    refine ⟨fun _ => loop2 hp lo hi, fun h => absurd (by decide) h⟩) 0 (Nat.zero_le _)
  refine s_Mo_isCovered_0 hC hN _ _ _ _ _ ?_
  simp only [B_Mo_isCovered_0, B_Mo_isCovered_2, B_Mo_isCovered_22, B_Mo_isCovered_28, B_Mo_isCovered_30, B_Mo_isCovered_54, B_Mo_isCovered_60, co_Mo_holds, co_Mo_isCovered, co_Mo_spans, i_ic, i_lc, i_nul, i_il, i_ll, i_al, i_is, i_as, i_ls, i_inc, i_iadd, i_isub, i_imul, i_iand, i_ior, i_ixor, i_idiv, i_irem, i_ishl, i_ishr, i_ladd, i_lsub, i_land, i_lor, i_i2l, i_lushr, i_lshl, i_lshr, i_lcmp, i_dup, i_pop, i_dx1, i_dup2, i_ifeq, i_ifne, i_iflt, i_ifge, i_ifgt, i_ifle, i_iceq, i_icne, i_iclt, i_icge, i_icgt, i_icle, i_ifn, i_gf, i_pf, i_ial, i_bal, i_lal, i_aal, i_ias, i_las, i_bas, i_aas, i_alen, i_newa, i_new, i_anew, i_cast, i_oi, i_call, i_callV, i_callV2, i_callI, i_iret, i_zret, i_lret, i_vret, i_aret, i_mmx, i_mmn, i_gsE, i_aceq, i_no, i_acq, i_sw, zsw, zlg, zls, znl, zfg, zcs, zsp, zrc, zisn, zft, zc1, zto, Value.category, List.set_cons_zero, List.set_cons_succ, List.length_cons, List.length_nil, Option.toList, List.append, List.nil_append, List.cons_append, true_and, and_true, Nat.add_zero, Nat.zero_le, Nat.zero_add, Nat.le_refl, Nat.reduceAdd, Nat.reduceLeDiff, co0, z0, zn_0, zn_1, zn_2, zn_3, zn_4, zn_5, zn_8, zn_12, zn_24, zn_121, zn_144, zn_256, zn_300, zn_600, zn_720, zn_1204, zn_1280, zn_2400, zn_4816, zn_14400, zn_90000]
  exact loop1 (y_lo y) (y_hi y) (fun j hj => absurd hj (Nat.not_lt_zero j))
/-! means -/
def ym (y : zMS) (so me : Nat → Int64) : zMS := v_me (v_so y so) me
noncomputable def mn_A (y : zMS) (u : Int32) : Nat → Nat → Int64
  | 0 => rw_clr (y_so y)
  | n + 1 => if y_al y n = true ∧ y_do y (y_ro y n) = u then rw_add (mn_A y u n) n else mn_A y u n
noncomputable def mn_B (y : zMS) (u v : Nat) : Nat → Nat → Int64
  | 0 => mn_A y (nI u) (y_nw y)
  | n + 1 => if ¬ n = v ∧ y_lk y (12 * u + n) = true then rw_or (mn_B y u v n) (sh (y_tb y) (5 * (12 * u + n))) else mn_B y u v n
/-- a wish stays: no other known one outdoes it -/
noncomputable def m_st (y : zMS) (so : Nat → Int64) (w : Nat) : Bool := zd (zbit so w = true ∧ ∀ j, j < y_nw y → ¬ j = w → zbit so j = true → y_cv y (300 * j + w) = true → y_cv y (300 * w + j) = true ∧ w < j)
noncomputable def ms_p (y : zMS) (so : Nat → Int64) (w n : Nat) : Bool := zd (zbit so w = true ∧ ∀ j, j < n → ¬ j = w → zbit so j = true → y_cv y (300 * j + w) = true → y_cv y (300 * w + j) = true ∧ w < j)
noncomputable def mn_C (y : zMS) (so : Nat → Int64) : Nat → Nat → Int64
  | 0 => rw_clr (y_me y)
  | n + 1 => if m_st y so n = true then rw_add (mn_C y so n) n else mn_C y so n
noncomputable def mn_x (y : zMS) (u v : Nat) : zMS := ym y (mn_B y u v (y_dk y)) (mn_C y (mn_B y u v (y_dk y)) (y_nw y))
def T_Mo_means (As : List zAV) (M : zMp) (Rt : Option zAV → zMp → Prop) : Prop := ∃ y u v, As = [.inr (30, 0, 0), .inl (.int (nI u)), .inl (.int (nI v))] ∧ M = mp y ∧ u < 12 ∧ v < 12 ∧ Jv y ∧ Rt none (mp (mn_x y u v))
abbrev co_Mo_means := co0
theorem dX7_means_0 : decode cX7_means 0 = .ok (.iconst 0, 1) := by decide +kernel
theorem dX7_means_1 : decode cX7_means 1 = .ok (.istore_n 3, 1) := by decide +kernel
theorem dX7_means_2 : decode cX7_means 2 = .ok (.iload_n 3, 1) := by decide +kernel
theorem dX7_means_3 : decode cX7_means 3 = .ok (.iconst 5, 1) := by decide +kernel
theorem dX7_means_4 : decode cX7_means 4 = .ok (.if_icmp .ge 23, 3) := by decide +kernel
theorem dX7_means_7 : decode cX7_means 7 = .ok (.aload_n 0, 1) := by decide +kernel
theorem dX7_means_8 : decode cX7_means 8 = .ok (.getfield 79, 3) := by decide +kernel
theorem dX7_means_11 : decode cX7_means 11 = .ok (.iload_n 3, 1) := by decide +kernel
theorem dX7_means_12 : decode cX7_means 12 = .ok (.lconst 0, 1) := by decide +kernel
theorem dX7_means_13 : decode cX7_means 13 = .ok (.lastore, 1) := by decide +kernel
theorem dX7_means_14 : decode cX7_means 14 = .ok (.aload_n 0, 1) := by decide +kernel
theorem dX7_means_15 : decode cX7_means 15 = .ok (.getfield 82, 3) := by decide +kernel
theorem dX7_means_18 : decode cX7_means 18 = .ok (.iload_n 3, 1) := by decide +kernel
theorem dX7_means_19 : decode cX7_means 19 = .ok (.lconst 0, 1) := by decide +kernel
theorem dX7_means_20 : decode cX7_means 20 = .ok (.lastore, 1) := by decide +kernel
theorem dX7_means_21 : decode cX7_means 21 = .ok (.iinc 3 1, 3) := by decide +kernel
theorem dX7_means_24 : decode cX7_means 24 = .ok (.goto (-22), 3) := by decide +kernel
theorem dX7_means_27 : decode cX7_means 27 = .ok (.iconst 0, 1) := by decide +kernel
theorem dX7_means_28 : decode cX7_means 28 = .ok (.istore_n 3, 1) := by decide +kernel
theorem dX7_means_29 : decode cX7_means 29 = .ok (.iload_n 3, 1) := by decide +kernel
theorem dX7_means_30 : decode cX7_means 30 = .ok (.aload_n 0, 1) := by decide +kernel
theorem dX7_means_31 : decode cX7_means 31 = .ok (.getfield 95, 3) := by decide +kernel
theorem dX7_means_34 : decode cX7_means 34 = .ok (.if_icmp .ge 51, 3) := by decide +kernel
theorem dX7_means_37 : decode cX7_means 37 = .ok (.aload_n 0, 1) := by decide +kernel
theorem dX7_means_38 : decode cX7_means 38 = .ok (.getfield 20, 3) := by decide +kernel
theorem dX7_means_41 : decode cX7_means 41 = .ok (.iload_n 3, 1) := by decide +kernel
theorem dX7_means_42 : decode cX7_means 42 = .ok (.baload, 1) := by decide +kernel
theorem dX7_means_43 : decode cX7_means 43 = .ok (.ifCond .eq 36, 3) := by decide +kernel
theorem dX7_means_46 : decode cX7_means 46 = .ok (.aload_n 0, 1) := by decide +kernel
theorem dX7_means_47 : decode cX7_means 47 = .ok (.getfield 13, 3) := by decide +kernel
theorem dX7_means_50 : decode cX7_means 50 = .ok (.aload_n 0, 1) := by decide +kernel
theorem dX7_means_51 : decode cX7_means 51 = .ok (.getfield 17, 3) := by decide +kernel
theorem dX7_means_54 : decode cX7_means 54 = .ok (.iload_n 3, 1) := by decide +kernel
theorem dX7_means_55 : decode cX7_means 55 = .ok (.iaload, 1) := by decide +kernel
theorem dX7_means_56 : decode cX7_means 56 = .ok (.iaload, 1) := by decide +kernel
theorem dX7_means_57 : decode cX7_means 57 = .ok (.iload_n 1, 1) := by decide +kernel
theorem dX7_means_58 : decode cX7_means 58 = .ok (.if_icmp .ne 21, 3) := by decide +kernel
theorem dX7_means_61 : decode cX7_means 61 = .ok (.aload_n 0, 1) := by decide +kernel
theorem dX7_means_62 : decode cX7_means 62 = .ok (.getfield 79, 3) := by decide +kernel
theorem dX7_means_65 : decode cX7_means 65 = .ok (.iload_n 3, 1) := by decide +kernel
theorem dX7_means_66 : decode cX7_means 66 = .ok (.bipush 64, 2) := by decide +kernel
theorem dX7_means_68 : decode cX7_means 68 = .ok (.idiv, 1) := by decide +kernel
theorem dX7_means_69 : decode cX7_means 69 = .ok (.dup2, 1) := by decide +kernel
theorem dX7_means_70 : decode cX7_means 70 = .ok (.laload, 1) := by decide +kernel
theorem dX7_means_71 : decode cX7_means 71 = .ok (.lconst 1, 1) := by decide +kernel
theorem dX7_means_72 : decode cX7_means 72 = .ok (.iload_n 3, 1) := by decide +kernel
theorem dX7_means_73 : decode cX7_means 73 = .ok (.bipush 64, 2) := by decide +kernel
theorem dX7_means_75 : decode cX7_means 75 = .ok (.irem, 1) := by decide +kernel
theorem dX7_means_76 : decode cX7_means 76 = .ok (.lshl, 1) := by decide +kernel
theorem dX7_means_77 : decode cX7_means 77 = .ok (.lor, 1) := by decide +kernel
theorem dX7_means_78 : decode cX7_means 78 = .ok (.lastore, 1) := by decide +kernel
theorem dX7_means_79 : decode cX7_means 79 = .ok (.iinc 3 1, 3) := by decide +kernel
theorem dX7_means_82 : decode cX7_means 82 = .ok (.goto (-53), 3) := by decide +kernel
theorem dX7_means_85 : decode cX7_means 85 = .ok (.iconst 0, 1) := by decide +kernel
theorem dX7_means_86 : decode cX7_means 86 = .ok (.istore_n 3, 1) := by decide +kernel
theorem dX7_means_87 : decode cX7_means 87 = .ok (.iload_n 3, 1) := by decide +kernel
theorem dX7_means_88 : decode cX7_means 88 = .ok (.aload_n 0, 1) := by decide +kernel
theorem dX7_means_89 : decode cX7_means 89 = .ok (.getfield 91, 3) := by decide +kernel
theorem dX7_means_92 : decode cX7_means 92 = .ok (.if_icmp .ge 61, 3) := by decide +kernel
theorem dX7_means_95 : decode cX7_means 95 = .ok (.iconst 0, 1) := by decide +kernel
theorem dX7_means_96 : decode cX7_means 96 = .ok (.istore 4, 2) := by decide +kernel
theorem dX7_means_98 : decode cX7_means 98 = .ok (.iload 4, 2) := by decide +kernel
theorem dX7_means_100 : decode cX7_means 100 = .ok (.iconst 5, 1) := by decide +kernel
theorem dX7_means_101 : decode cX7_means 101 = .ok (.if_icmp .ge 46, 3) := by decide +kernel
theorem dX7_means_104 : decode cX7_means 104 = .ok (.iload_n 3, 1) := by decide +kernel
theorem dX7_means_105 : decode cX7_means 105 = .ok (.iload_n 2, 1) := by decide +kernel
theorem dX7_means_106 : decode cX7_means 106 = .ok (.if_icmp .eq 41, 3) := by decide +kernel
theorem dX7_means_109 : decode cX7_means 109 = .ok (.aload_n 0, 1) := by decide +kernel
theorem dX7_means_110 : decode cX7_means 110 = .ok (.iload_n 1, 1) := by decide +kernel
theorem dX7_means_111 : decode cX7_means 111 = .ok (.iload_n 3, 1) := by decide +kernel
theorem dX7_means_112 : decode cX7_means 112 = .ok (.invokevirtual 119, 3) := by decide +kernel
theorem dX7_means_115 : decode cX7_means 115 = .ok (.ifCond .eq 32, 3) := by decide +kernel
theorem dX7_means_118 : decode cX7_means 118 = .ok (.aload_n 0, 1) := by decide +kernel
theorem dX7_means_119 : decode cX7_means 119 = .ok (.getfield 79, 3) := by decide +kernel
theorem dX7_means_122 : decode cX7_means 122 = .ok (.iload 4, 2) := by decide +kernel
theorem dX7_means_124 : decode cX7_means 124 = .ok (.dup2, 1) := by decide +kernel
theorem dX7_means_125 : decode cX7_means 125 = .ok (.laload, 1) := by decide +kernel
theorem dX7_means_126 : decode cX7_means 126 = .ok (.aload_n 0, 1) := by decide +kernel
theorem dX7_means_127 : decode cX7_means 127 = .ok (.getfield 50, 3) := by decide +kernel
theorem dX7_means_130 : decode cX7_means 130 = .ok (.iload_n 1, 1) := by decide +kernel
theorem dX7_means_131 : decode cX7_means 131 = .ok (.iload_n 3, 1) := by decide +kernel
theorem dX7_means_132 : decode cX7_means 132 = .ok (.invokestatic 122, 3) := by decide +kernel
theorem dX7_means_135 : decode cX7_means 135 = .ok (.iload 4, 2) := by decide +kernel
theorem dX7_means_137 : decode cX7_means 137 = .ok (.iadd, 1) := by decide +kernel
theorem dX7_means_138 : decode cX7_means 138 = .ok (.laload, 1) := by decide +kernel
theorem dX7_means_139 : decode cX7_means 139 = .ok (.lor, 1) := by decide +kernel
theorem dX7_means_140 : decode cX7_means 140 = .ok (.lastore, 1) := by decide +kernel
theorem dX7_means_141 : decode cX7_means 141 = .ok (.iinc 4 1, 3) := by decide +kernel
theorem dX7_means_144 : decode cX7_means 144 = .ok (.goto (-46), 3) := by decide +kernel
theorem dX7_means_147 : decode cX7_means 147 = .ok (.iinc 3 1, 3) := by decide +kernel
theorem dX7_means_150 : decode cX7_means 150 = .ok (.goto (-63), 3) := by decide +kernel
theorem dX7_means_153 : decode cX7_means 153 = .ok (.iconst 0, 1) := by decide +kernel
theorem dX7_means_154 : decode cX7_means 154 = .ok (.istore_n 3, 1) := by decide +kernel
theorem dX7_means_155 : decode cX7_means 155 = .ok (.iload_n 3, 1) := by decide +kernel
theorem dX7_means_156 : decode cX7_means 156 = .ok (.aload_n 0, 1) := by decide +kernel
theorem dX7_means_157 : decode cX7_means 157 = .ok (.getfield 95, 3) := by decide +kernel
theorem dX7_means_160 : decode cX7_means 160 = .ok (.if_icmp .ge 130, 3) := by decide +kernel
theorem dX7_means_163 : decode cX7_means 163 = .ok (.aload_n 0, 1) := by decide +kernel
theorem dX7_means_164 : decode cX7_means 164 = .ok (.getfield 79, 3) := by decide +kernel
theorem dX7_means_167 : decode cX7_means 167 = .ok (.iconst 0, 1) := by decide +kernel
theorem dX7_means_168 : decode cX7_means 168 = .ok (.iload_n 3, 1) := by decide +kernel
theorem dX7_means_169 : decode cX7_means 169 = .ok (.invokestatic 125, 3) := by decide +kernel
theorem dX7_means_172 : decode cX7_means 172 = .ok (.istore 4, 2) := by decide +kernel
theorem dX7_means_174 : decode cX7_means 174 = .ok (.iconst 0, 1) := by decide +kernel
theorem dX7_means_175 : decode cX7_means 175 = .ok (.istore 5, 2) := by decide +kernel
theorem dX7_means_177 : decode cX7_means 177 = .ok (.iload 5, 2) := by decide +kernel
theorem dX7_means_179 : decode cX7_means 179 = .ok (.aload_n 0, 1) := by decide +kernel
theorem dX7_means_180 : decode cX7_means 180 = .ok (.getfield 95, 3) := by decide +kernel
theorem dX7_means_183 : decode cX7_means 183 = .ok (.if_icmp .ge 78, 3) := by decide +kernel
theorem dX7_means_186 : decode cX7_means 186 = .ok (.iload 4, 2) := by decide +kernel
theorem dX7_means_188 : decode cX7_means 188 = .ok (.ifCond .eq 73, 3) := by decide +kernel
theorem dX7_means_191 : decode cX7_means 191 = .ok (.iload 5, 2) := by decide +kernel
theorem dX7_means_193 : decode cX7_means 193 = .ok (.iload_n 3, 1) := by decide +kernel
theorem dX7_means_194 : decode cX7_means 194 = .ok (.if_icmp .eq 61, 3) := by decide +kernel
theorem dX7_means_197 : decode cX7_means 197 = .ok (.aload_n 0, 1) := by decide +kernel
theorem dX7_means_198 : decode cX7_means 198 = .ok (.getfield 79, 3) := by decide +kernel
theorem dX7_means_201 : decode cX7_means 201 = .ok (.iconst 0, 1) := by decide +kernel
theorem dX7_means_202 : decode cX7_means 202 = .ok (.iload 5, 2) := by decide +kernel
theorem dX7_means_204 : decode cX7_means 204 = .ok (.invokestatic 125, 3) := by decide +kernel
theorem dX7_means_207 : decode cX7_means 207 = .ok (.ifCond .eq 48, 3) := by decide +kernel
theorem dX7_means_210 : decode cX7_means 210 = .ok (.aload_n 0, 1) := by decide +kernel
theorem dX7_means_211 : decode cX7_means 211 = .ok (.getfield 76, 3) := by decide +kernel
theorem dX7_means_214 : decode cX7_means 214 = .ok (.sipush 300, 3) := by decide +kernel
theorem dX7_means_217 : decode cX7_means 217 = .ok (.iload 5, 2) := by decide +kernel
theorem dX7_means_219 : decode cX7_means 219 = .ok (.imul, 1) := by decide +kernel
theorem dX7_means_220 : decode cX7_means 220 = .ok (.iload_n 3, 1) := by decide +kernel
theorem dX7_means_221 : decode cX7_means 221 = .ok (.iadd, 1) := by decide +kernel
theorem dX7_means_222 : decode cX7_means 222 = .ok (.baload, 1) := by decide +kernel
theorem dX7_means_223 : decode cX7_means 223 = .ok (.ifCond .eq 32, 3) := by decide +kernel
theorem dX7_means_226 : decode cX7_means 226 = .ok (.aload_n 0, 1) := by decide +kernel
theorem dX7_means_227 : decode cX7_means 227 = .ok (.getfield 76, 3) := by decide +kernel
theorem dX7_means_230 : decode cX7_means 230 = .ok (.sipush 300, 3) := by decide +kernel
theorem dX7_means_233 : decode cX7_means 233 = .ok (.iload_n 3, 1) := by decide +kernel
theorem dX7_means_234 : decode cX7_means 234 = .ok (.imul, 1) := by decide +kernel
theorem dX7_means_235 : decode cX7_means 235 = .ok (.iload 5, 2) := by decide +kernel
theorem dX7_means_237 : decode cX7_means 237 = .ok (.iadd, 1) := by decide +kernel
theorem dX7_means_238 : decode cX7_means 238 = .ok (.baload, 1) := by decide +kernel
theorem dX7_means_239 : decode cX7_means 239 = .ok (.ifCond .eq 13, 3) := by decide +kernel
theorem dX7_means_242 : decode cX7_means 242 = .ok (.iload_n 3, 1) := by decide +kernel
theorem dX7_means_243 : decode cX7_means 243 = .ok (.iload 5, 2) := by decide +kernel
theorem dX7_means_245 : decode cX7_means 245 = .ok (.if_icmp .ge 7, 3) := by decide +kernel
theorem dX7_means_248 : decode cX7_means 248 = .ok (.iconst 1, 1) := by decide +kernel
theorem dX7_means_249 : decode cX7_means 249 = .ok (.goto 4, 3) := by decide +kernel
theorem dX7_means_252 : decode cX7_means 252 = .ok (.iconst 0, 1) := by decide +kernel
theorem dX7_means_253 : decode cX7_means 253 = .ok (.istore 4, 2) := by decide +kernel
theorem dX7_means_255 : decode cX7_means 255 = .ok (.iinc 5 1, 3) := by decide +kernel
theorem dX7_means_258 : decode cX7_means 258 = .ok (.goto (-81), 3) := by decide +kernel
theorem dX7_means_261 : decode cX7_means 261 = .ok (.iload 4, 2) := by decide +kernel
theorem dX7_means_263 : decode cX7_means 263 = .ok (.ifCond .eq 21, 3) := by decide +kernel
theorem dX7_means_266 : decode cX7_means 266 = .ok (.aload_n 0, 1) := by decide +kernel
theorem dX7_means_267 : decode cX7_means 267 = .ok (.getfield 82, 3) := by decide +kernel
theorem dX7_means_270 : decode cX7_means 270 = .ok (.iload_n 3, 1) := by decide +kernel
theorem dX7_means_271 : decode cX7_means 271 = .ok (.bipush 64, 2) := by decide +kernel
theorem dX7_means_273 : decode cX7_means 273 = .ok (.idiv, 1) := by decide +kernel
theorem dX7_means_274 : decode cX7_means 274 = .ok (.dup2, 1) := by decide +kernel
theorem dX7_means_275 : decode cX7_means 275 = .ok (.laload, 1) := by decide +kernel
theorem dX7_means_276 : decode cX7_means 276 = .ok (.lconst 1, 1) := by decide +kernel
theorem dX7_means_277 : decode cX7_means 277 = .ok (.iload_n 3, 1) := by decide +kernel
theorem dX7_means_278 : decode cX7_means 278 = .ok (.bipush 64, 2) := by decide +kernel
theorem dX7_means_280 : decode cX7_means 280 = .ok (.irem, 1) := by decide +kernel
theorem dX7_means_281 : decode cX7_means 281 = .ok (.lshl, 1) := by decide +kernel
theorem dX7_means_282 : decode cX7_means 282 = .ok (.lor, 1) := by decide +kernel
theorem dX7_means_283 : decode cX7_means 283 = .ok (.lastore, 1) := by decide +kernel
theorem dX7_means_284 : decode cX7_means 284 = .ok (.iinc 3 1, 3) := by decide +kernel
theorem dX7_means_287 : decode cX7_means 287 = .ok (.goto (-132), 3) := by decide +kernel
theorem dX7_means_290 : decode cX7_means 290 = .ok (.return_, 1) := by decide +kernel
def B_Mo_means_290 (mc ms : Nat) (Rt : Option zAV → zMp → Prop) (g : Nat → zKT) : zKT :=
  (i_vret mc ms Rt)
set_option maxRecDepth 20000 in
theorem s_Mo_means_290 {X : zMa} {mc ms : Nat} {Rt : Option zAV → zMp → Prop} (hC : zCx X RX7 cX7_means 1 22 mc ms (none) false Rt) (hN : zNL X = 6) : zLe (B_Mo_means_290 mc ms Rt (zG X)) (zG X 290) :=
  (sd_vret hC dX7_means_290)
def B_Mo_means_284 (mc ms : Nat) (Rt : Option zAV → zMp → Prop) (g : Nat → zKT) : zKT :=
  (i_inc 3 1 (g 155))
set_option maxRecDepth 20000 in
theorem s_Mo_means_284 {X : zMa} {mc ms : Nat} {Rt : Option zAV → zMp → Prop} (hC : zCx X RX7 cX7_means 1 22 mc ms (none) false Rt) (hN : zNL X = 6) : zLe (B_Mo_means_284 mc ms Rt (zG X)) (zG X 284) :=
  (sd_inc hC (by decide) (by rw [hN]; decide) dX7_means_284 ((sd_goto hC (tgt := 155) (by decide) dX7_means_287 (zLe_rfl))))
def B_Mo_means_261 (mc ms : Nat) (Rt : Option zAV → zMp → Prop) (g : Nat → zKT) : zKT :=
  (i_il 4 (i_ifeq (B_Mo_means_284 mc ms Rt g) (i_al 0 (i_gf 8 31 (i_il 3 (i_ic 64 (i_idiv (i_dup2 (i_lal (i_lc 1 (i_il 3 (i_ic 64 (i_irem (i_lshl (i_lor (i_las (B_Mo_means_284 mc ms Rt g)))))))))))))))))
set_option maxRecDepth 20000 in
theorem s_Mo_means_261 {X : zMa} {mc ms : Nat} {Rt : Option zAV → zMp → Prop} (hC : zCx X RX7 cX7_means 1 22 mc ms (none) false Rt) (hN : zNL X = 6) : zLe (B_Mo_means_261 mc ms Rt (zG X)) (zG X 261) :=
  (sd_il hC dX7_means_261 ((sd_ifeq hC (tgt := 284) (by decide) dX7_means_263 (s_Mo_means_284 hC hN) ((sd_al_n hC rfl dX7_means_266 ((sd_gf hC (ci := 8) (fk := 31) rfl wi_Mo (by decide) fl_Mo_82 (Or.inl rfl) dX7_means_267 ((sd_il_n hC rfl dX7_means_270 ((sd_bipush hC (by decide) dX7_means_271 ((sd_idiv hC dX7_means_273 ((sd_dup2 hC dX7_means_274 ((sd_lal hC dX7_means_275 ((sd_lconst hC (by decide) dX7_means_276 ((sd_il_n hC rfl dX7_means_277 ((sd_bipush hC (by decide) dX7_means_278 ((sd_irem hC dX7_means_280 ((sd_lshl hC dX7_means_281 ((sd_lor hC dX7_means_282 ((sd_las hC dX7_means_283 (s_Mo_means_284 hC hN))))))))))))))))))))))))))))))))
def B_Mo_means_255 (mc ms : Nat) (Rt : Option zAV → zMp → Prop) (g : Nat → zKT) : zKT :=
  (i_inc 5 1 (g 177))
set_option maxRecDepth 20000 in
theorem s_Mo_means_255 {X : zMa} {mc ms : Nat} {Rt : Option zAV → zMp → Prop} (hC : zCx X RX7 cX7_means 1 22 mc ms (none) false Rt) (hN : zNL X = 6) : zLe (B_Mo_means_255 mc ms Rt (zG X)) (zG X 255) :=
  (sd_inc hC (by decide) (by rw [hN]; decide) dX7_means_255 ((sd_goto hC (tgt := 177) (by decide) dX7_means_258 (zLe_rfl))))
def B_Mo_means_253 (mc ms : Nat) (Rt : Option zAV → zMp → Prop) (g : Nat → zKT) : zKT :=
  (i_is 4 (B_Mo_means_255 mc ms Rt g))
set_option maxRecDepth 20000 in
theorem s_Mo_means_253 {X : zMa} {mc ms : Nat} {Rt : Option zAV → zMp → Prop} (hC : zCx X RX7 cX7_means 1 22 mc ms (none) false Rt) (hN : zNL X = 6) : zLe (B_Mo_means_253 mc ms Rt (zG X)) (zG X 253) :=
  (sd_is hC (by rw [hN]; decide) dX7_means_253 (s_Mo_means_255 hC hN))
def B_Mo_means_252 (mc ms : Nat) (Rt : Option zAV → zMp → Prop) (g : Nat → zKT) : zKT :=
  (i_ic 0 (B_Mo_means_253 mc ms Rt g))
set_option maxRecDepth 20000 in
theorem s_Mo_means_252 {X : zMa} {mc ms : Nat} {Rt : Option zAV → zMp → Prop} (hC : zCx X RX7 cX7_means 1 22 mc ms (none) false Rt) (hN : zNL X = 6) : zLe (B_Mo_means_252 mc ms Rt (zG X)) (zG X 252) :=
  (sd_iconst hC (by decide) dX7_means_252 (s_Mo_means_253 hC hN))
def B_Mo_means_177 (mc ms : Nat) (Rt : Option zAV → zMp → Prop) (g : Nat → zKT) : zKT :=
  (i_il 5 (i_al 0 (i_gf 8 2 (i_icge (B_Mo_means_261 mc ms Rt g) (i_il 4 (i_ifeq (B_Mo_means_261 mc ms Rt g) (i_il 5 (i_il 3 (i_iceq (B_Mo_means_255 mc ms Rt g) (i_al 0 (i_gf 8 30 (i_ic 0 (i_il 5 (i_call mc ms 3 T_Mo_has co_Mo_has (i_ifeq (B_Mo_means_255 mc ms Rt g) (i_al 0 (i_gf 8 29 (i_ic 300 (i_il 5 (i_imul (i_il 3 (i_iadd (i_bal (i_ifeq (B_Mo_means_255 mc ms Rt g) (i_al 0 (i_gf 8 29 (i_ic 300 (i_il 3 (i_imul (i_il 5 (i_iadd (i_bal (i_ifeq (B_Mo_means_252 mc ms Rt g) (i_il 3 (i_il 5 (i_icge (B_Mo_means_252 mc ms Rt g) (i_ic 1 (B_Mo_means_253 mc ms Rt g))))))))))))))))))))))))))))))))))))))
set_option maxRecDepth 20000 in
theorem s_Mo_means_177 {X : zMa} {mc ms : Nat} {Rt : Option zAV → zMp → Prop} (hC : zCx X RX7 cX7_means 1 22 mc ms (none) false Rt) (hN : zNL X = 6) : zLe (B_Mo_means_177 mc ms Rt (zG X)) (zG X 177) :=
  (sd_il hC dX7_means_177 ((sd_al_n hC rfl dX7_means_179 ((sd_gf hC (ci := 8) (fk := 2) rfl wi_Mo (by decide) fl_Mo_95 (Or.inl rfl) dX7_means_180 ((sd_icge hC (tgt := 261) (by decide) dX7_means_183 (s_Mo_means_261 hC hN) ((sd_il hC dX7_means_186 ((sd_ifeq hC (tgt := 261) (by decide) dX7_means_188 (s_Mo_means_261 hC hN) ((sd_il hC dX7_means_191 ((sd_il_n hC rfl dX7_means_193 ((sd_iceq hC (tgt := 255) (by decide) dX7_means_194 (s_Mo_means_255 hC hN) ((sd_al_n hC rfl dX7_means_197 ((sd_gf hC (ci := 8) (fk := 30) rfl wi_Mo (by decide) fl_Mo_79 (Or.inl rfl) dX7_means_198 ((sd_iconst hC (by decide) dX7_means_201 ((sd_il hC dX7_means_202 ((sd_cS hC c_Mo_has ys_Mo_has ml_Mo_125 (by decide) (by decide) dX7_means_204 ((sd_ifeq hC (tgt := 255) (by decide) dX7_means_207 (s_Mo_means_255 hC hN) ((sd_al_n hC rfl dX7_means_210 ((sd_gf hC (ci := 8) (fk := 29) rfl wi_Mo (by decide) fl_Mo_76 (Or.inl rfl) dX7_means_211 ((sd_sipush hC (by decide) dX7_means_214 ((sd_il hC dX7_means_217 ((sd_imul hC dX7_means_219 ((sd_il_n hC rfl dX7_means_220 ((sd_iadd hC dX7_means_221 ((sd_bal hC dX7_means_222 ((sd_ifeq hC (tgt := 255) (by decide) dX7_means_223 (s_Mo_means_255 hC hN) ((sd_al_n hC rfl dX7_means_226 ((sd_gf hC (ci := 8) (fk := 29) rfl wi_Mo (by decide) fl_Mo_76 (Or.inl rfl) dX7_means_227 ((sd_sipush hC (by decide) dX7_means_230 ((sd_il_n hC rfl dX7_means_233 ((sd_imul hC dX7_means_234 ((sd_il hC dX7_means_235 ((sd_iadd hC dX7_means_237 ((sd_bal hC dX7_means_238 ((sd_ifeq hC (tgt := 252) (by decide) dX7_means_239 (s_Mo_means_252 hC hN) ((sd_il_n hC rfl dX7_means_242 ((sd_il hC dX7_means_243 ((sd_icge hC (tgt := 252) (by decide) dX7_means_245 (s_Mo_means_252 hC hN) ((sd_iconst hC (by decide) dX7_means_248 ((sd_goto hC (tgt := 253) (by decide) dX7_means_249 (s_Mo_means_253 hC hN))))))))))))))))))))))))))))))))))))))))))))))))))))))))))))))))))))))))))))
def B_Mo_means_155 (mc ms : Nat) (Rt : Option zAV → zMp → Prop) (g : Nat → zKT) : zKT :=
  (i_il 3 (i_al 0 (i_gf 8 2 (i_icge (B_Mo_means_290 mc ms Rt g) (i_al 0 (i_gf 8 30 (i_ic 0 (i_il 3 (i_call mc ms 3 T_Mo_has co_Mo_has (i_is 4 (i_ic 0 (i_is 5 (g 177)))))))))))))
set_option maxRecDepth 20000 in
theorem s_Mo_means_155 {X : zMa} {mc ms : Nat} {Rt : Option zAV → zMp → Prop} (hC : zCx X RX7 cX7_means 1 22 mc ms (none) false Rt) (hN : zNL X = 6) : zLe (B_Mo_means_155 mc ms Rt (zG X)) (zG X 155) :=
  (sd_il_n hC rfl dX7_means_155 ((sd_al_n hC rfl dX7_means_156 ((sd_gf hC (ci := 8) (fk := 2) rfl wi_Mo (by decide) fl_Mo_95 (Or.inl rfl) dX7_means_157 ((sd_icge hC (tgt := 290) (by decide) dX7_means_160 (s_Mo_means_290 hC hN) ((sd_al_n hC rfl dX7_means_163 ((sd_gf hC (ci := 8) (fk := 30) rfl wi_Mo (by decide) fl_Mo_79 (Or.inl rfl) dX7_means_164 ((sd_iconst hC (by decide) dX7_means_167 ((sd_il_n hC rfl dX7_means_168 ((sd_cS hC c_Mo_has ys_Mo_has ml_Mo_125 (by decide) (by decide) dX7_means_169 ((sd_is hC (by rw [hN]; decide) dX7_means_172 ((sd_iconst hC (by decide) dX7_means_174 ((sd_is hC (by rw [hN]; decide) dX7_means_175 (zLe_rfl))))))))))))))))))))))))
def B_Mo_means_153 (mc ms : Nat) (Rt : Option zAV → zMp → Prop) (g : Nat → zKT) : zKT :=
  (i_ic 0 (i_is 3 (g 155)))
set_option maxRecDepth 20000 in
theorem s_Mo_means_153 {X : zMa} {mc ms : Nat} {Rt : Option zAV → zMp → Prop} (hC : zCx X RX7 cX7_means 1 22 mc ms (none) false Rt) (hN : zNL X = 6) : zLe (B_Mo_means_153 mc ms Rt (zG X)) (zG X 153) :=
  (sd_iconst hC (by decide) dX7_means_153 ((sd_is_n hC rfl (by rw [hN]; decide) dX7_means_154 (zLe_rfl))))
def B_Mo_means_147 (mc ms : Nat) (Rt : Option zAV → zMp → Prop) (g : Nat → zKT) : zKT :=
  (i_inc 3 1 (g 87))
set_option maxRecDepth 20000 in
theorem s_Mo_means_147 {X : zMa} {mc ms : Nat} {Rt : Option zAV → zMp → Prop} (hC : zCx X RX7 cX7_means 1 22 mc ms (none) false Rt) (hN : zNL X = 6) : zLe (B_Mo_means_147 mc ms Rt (zG X)) (zG X 147) :=
  (sd_inc hC (by decide) (by rw [hN]; decide) dX7_means_147 ((sd_goto hC (tgt := 87) (by decide) dX7_means_150 (zLe_rfl))))
def B_Mo_means_98 (mc ms : Nat) (Rt : Option zAV → zMp → Prop) (g : Nat → zKT) : zKT :=
  (i_il 4 (i_ic 5 (i_icge (B_Mo_means_147 mc ms Rt g) (i_il 3 (i_il 2 (i_iceq (B_Mo_means_147 mc ms Rt g) (i_al 0 (i_il 1 (i_il 3 (i_callV mc ms 8 3 T_Mo_isLinked co_Mo_isLinked (i_ifeq (B_Mo_means_147 mc ms Rt g) (i_al 0 (i_gf 8 30 (i_il 4 (i_dup2 (i_lal (i_al 0 (i_gf 8 17 (i_il 1 (i_il 3 (i_call mc ms 2 T_Mo_rowOf co_Mo_rowOf (i_il 4 (i_iadd (i_lal (i_lor (i_las (i_inc 4 1 (g 98))))))))))))))))))))))))))))
set_option maxRecDepth 20000 in
theorem s_Mo_means_98 {X : zMa} {mc ms : Nat} {Rt : Option zAV → zMp → Prop} (hC : zCx X RX7 cX7_means 1 22 mc ms (none) false Rt) (hN : zNL X = 6) : zLe (B_Mo_means_98 mc ms Rt (zG X)) (zG X 98) :=
  (sd_il hC dX7_means_98 ((sd_iconst hC (by decide) dX7_means_100 ((sd_icge hC (tgt := 147) (by decide) dX7_means_101 (s_Mo_means_147 hC hN) ((sd_il_n hC rfl dX7_means_104 ((sd_il_n hC rfl dX7_means_105 ((sd_iceq hC (tgt := 147) (by decide) dX7_means_106 (s_Mo_means_147 hC hN) ((sd_al_n hC rfl dX7_means_109 ((sd_il_n hC rfl dX7_means_110 ((sd_il_n hC rfl dX7_means_111 ((sd_cV hC c_Mo_isLinked yv_Mo_isLinked (ci := 8) rfl rfl ml_Mo_119 (by decide) (by decide) dX7_means_112 ((sd_ifeq hC (tgt := 147) (by decide) dX7_means_115 (s_Mo_means_147 hC hN) ((sd_al_n hC rfl dX7_means_118 ((sd_gf hC (ci := 8) (fk := 30) rfl wi_Mo (by decide) fl_Mo_79 (Or.inl rfl) dX7_means_119 ((sd_il hC dX7_means_122 ((sd_dup2 hC dX7_means_124 ((sd_lal hC dX7_means_125 ((sd_al_n hC rfl dX7_means_126 ((sd_gf hC (ci := 8) (fk := 17) rfl wi_Mo (by decide) fl_Mo_50 (Or.inl rfl) dX7_means_127 ((sd_il_n hC rfl dX7_means_130 ((sd_il_n hC rfl dX7_means_131 ((sd_cS hC c_Mo_rowOf ys_Mo_rowOf ml_Mo_122 (by decide) (by decide) dX7_means_132 ((sd_il hC dX7_means_135 ((sd_iadd hC dX7_means_137 ((sd_lal hC dX7_means_138 ((sd_lor hC dX7_means_139 ((sd_las hC dX7_means_140 ((sd_inc hC (by decide) (by rw [hN]; decide) dX7_means_141 ((sd_goto hC (tgt := 98) (by decide) dX7_means_144 (zLe_rfl))))))))))))))))))))))))))))))))))))))))))))))))))))))))
def B_Mo_means_87 (mc ms : Nat) (Rt : Option zAV → zMp → Prop) (g : Nat → zKT) : zKT :=
  (i_il 3 (i_al 0 (i_gf 8 0 (i_icge (B_Mo_means_153 mc ms Rt g) (i_ic 0 (i_is 4 (g 98)))))))
set_option maxRecDepth 20000 in
theorem s_Mo_means_87 {X : zMa} {mc ms : Nat} {Rt : Option zAV → zMp → Prop} (hC : zCx X RX7 cX7_means 1 22 mc ms (none) false Rt) (hN : zNL X = 6) : zLe (B_Mo_means_87 mc ms Rt (zG X)) (zG X 87) :=
  (sd_il_n hC rfl dX7_means_87 ((sd_al_n hC rfl dX7_means_88 ((sd_gf hC (ci := 8) (fk := 0) rfl wi_Mo (by decide) fl_Mo_91 (Or.inl rfl) dX7_means_89 ((sd_icge hC (tgt := 153) (by decide) dX7_means_92 (s_Mo_means_153 hC hN) ((sd_iconst hC (by decide) dX7_means_95 ((sd_is hC (by rw [hN]; decide) dX7_means_96 (zLe_rfl))))))))))))
def B_Mo_means_85 (mc ms : Nat) (Rt : Option zAV → zMp → Prop) (g : Nat → zKT) : zKT :=
  (i_ic 0 (i_is 3 (g 87)))
set_option maxRecDepth 20000 in
theorem s_Mo_means_85 {X : zMa} {mc ms : Nat} {Rt : Option zAV → zMp → Prop} (hC : zCx X RX7 cX7_means 1 22 mc ms (none) false Rt) (hN : zNL X = 6) : zLe (B_Mo_means_85 mc ms Rt (zG X)) (zG X 85) :=
  (sd_iconst hC (by decide) dX7_means_85 ((sd_is_n hC rfl (by rw [hN]; decide) dX7_means_86 (zLe_rfl))))
def B_Mo_means_79 (mc ms : Nat) (Rt : Option zAV → zMp → Prop) (g : Nat → zKT) : zKT :=
  (i_inc 3 1 (g 29))
set_option maxRecDepth 20000 in
theorem s_Mo_means_79 {X : zMa} {mc ms : Nat} {Rt : Option zAV → zMp → Prop} (hC : zCx X RX7 cX7_means 1 22 mc ms (none) false Rt) (hN : zNL X = 6) : zLe (B_Mo_means_79 mc ms Rt (zG X)) (zG X 79) :=
  (sd_inc hC (by decide) (by rw [hN]; decide) dX7_means_79 ((sd_goto hC (tgt := 29) (by decide) dX7_means_82 (zLe_rfl))))
def B_Mo_means_29 (mc ms : Nat) (Rt : Option zAV → zMp → Prop) (g : Nat → zKT) : zKT :=
  (i_il 3 (i_al 0 (i_gf 8 2 (i_icge (B_Mo_means_85 mc ms Rt g) (i_al 0 (i_gf 8 7 (i_il 3 (i_bal (i_ifeq (B_Mo_means_79 mc ms Rt g) (i_al 0 (i_gf 8 5 (i_al 0 (i_gf 8 6 (i_il 3 (i_ial (i_ial (i_il 1 (i_icne (B_Mo_means_79 mc ms Rt g) (i_al 0 (i_gf 8 30 (i_il 3 (i_ic 64 (i_idiv (i_dup2 (i_lal (i_lc 1 (i_il 3 (i_ic 64 (i_irem (i_lshl (i_lor (i_las (B_Mo_means_79 mc ms Rt g)))))))))))))))))))))))))))))))))
set_option maxRecDepth 20000 in
theorem s_Mo_means_29 {X : zMa} {mc ms : Nat} {Rt : Option zAV → zMp → Prop} (hC : zCx X RX7 cX7_means 1 22 mc ms (none) false Rt) (hN : zNL X = 6) : zLe (B_Mo_means_29 mc ms Rt (zG X)) (zG X 29) :=
  (sd_il_n hC rfl dX7_means_29 ((sd_al_n hC rfl dX7_means_30 ((sd_gf hC (ci := 8) (fk := 2) rfl wi_Mo (by decide) fl_Mo_95 (Or.inl rfl) dX7_means_31 ((sd_icge hC (tgt := 85) (by decide) dX7_means_34 (s_Mo_means_85 hC hN) ((sd_al_n hC rfl dX7_means_37 ((sd_gf hC (ci := 8) (fk := 7) rfl wi_Mo (by decide) fl_Mo_20 (Or.inl rfl) dX7_means_38 ((sd_il_n hC rfl dX7_means_41 ((sd_bal hC dX7_means_42 ((sd_ifeq hC (tgt := 79) (by decide) dX7_means_43 (s_Mo_means_79 hC hN) ((sd_al_n hC rfl dX7_means_46 ((sd_gf hC (ci := 8) (fk := 5) rfl wi_Mo (by decide) fl_Mo_13 (Or.inl rfl) dX7_means_47 ((sd_al_n hC rfl dX7_means_50 ((sd_gf hC (ci := 8) (fk := 6) rfl wi_Mo (by decide) fl_Mo_17 (Or.inl rfl) dX7_means_51 ((sd_il_n hC rfl dX7_means_54 ((sd_ial hC dX7_means_55 ((sd_ial hC dX7_means_56 ((sd_il_n hC rfl dX7_means_57 ((sd_icne hC (tgt := 79) (by decide) dX7_means_58 (s_Mo_means_79 hC hN) ((sd_al_n hC rfl dX7_means_61 ((sd_gf hC (ci := 8) (fk := 30) rfl wi_Mo (by decide) fl_Mo_79 (Or.inl rfl) dX7_means_62 ((sd_il_n hC rfl dX7_means_65 ((sd_bipush hC (by decide) dX7_means_66 ((sd_idiv hC dX7_means_68 ((sd_dup2 hC dX7_means_69 ((sd_lal hC dX7_means_70 ((sd_lconst hC (by decide) dX7_means_71 ((sd_il_n hC rfl dX7_means_72 ((sd_bipush hC (by decide) dX7_means_73 ((sd_irem hC dX7_means_75 ((sd_lshl hC dX7_means_76 ((sd_lor hC dX7_means_77 ((sd_las hC dX7_means_78 (s_Mo_means_79 hC hN))))))))))))))))))))))))))))))))))))))))))))))))))))))))))))))))
def B_Mo_means_27 (mc ms : Nat) (Rt : Option zAV → zMp → Prop) (g : Nat → zKT) : zKT :=
  (i_ic 0 (i_is 3 (g 29)))
set_option maxRecDepth 20000 in
theorem s_Mo_means_27 {X : zMa} {mc ms : Nat} {Rt : Option zAV → zMp → Prop} (hC : zCx X RX7 cX7_means 1 22 mc ms (none) false Rt) (hN : zNL X = 6) : zLe (B_Mo_means_27 mc ms Rt (zG X)) (zG X 27) :=
  (sd_iconst hC (by decide) dX7_means_27 ((sd_is_n hC rfl (by rw [hN]; decide) dX7_means_28 (zLe_rfl))))
def B_Mo_means_2 (mc ms : Nat) (Rt : Option zAV → zMp → Prop) (g : Nat → zKT) : zKT :=
  (i_il 3 (i_ic 5 (i_icge (B_Mo_means_27 mc ms Rt g) (i_al 0 (i_gf 8 30 (i_il 3 (i_lc 0 (i_las (i_al 0 (i_gf 8 31 (i_il 3 (i_lc 0 (i_las (i_inc 3 1 (g 2)))))))))))))))
set_option maxRecDepth 20000 in
theorem s_Mo_means_2 {X : zMa} {mc ms : Nat} {Rt : Option zAV → zMp → Prop} (hC : zCx X RX7 cX7_means 1 22 mc ms (none) false Rt) (hN : zNL X = 6) : zLe (B_Mo_means_2 mc ms Rt (zG X)) (zG X 2) :=
  (sd_il_n hC rfl dX7_means_2 ((sd_iconst hC (by decide) dX7_means_3 ((sd_icge hC (tgt := 27) (by decide) dX7_means_4 (s_Mo_means_27 hC hN) ((sd_al_n hC rfl dX7_means_7 ((sd_gf hC (ci := 8) (fk := 30) rfl wi_Mo (by decide) fl_Mo_79 (Or.inl rfl) dX7_means_8 ((sd_il_n hC rfl dX7_means_11 ((sd_lconst hC (by decide) dX7_means_12 ((sd_las hC dX7_means_13 ((sd_al_n hC rfl dX7_means_14 ((sd_gf hC (ci := 8) (fk := 31) rfl wi_Mo (by decide) fl_Mo_82 (Or.inl rfl) dX7_means_15 ((sd_il_n hC rfl dX7_means_18 ((sd_lconst hC (by decide) dX7_means_19 ((sd_las hC dX7_means_20 ((sd_inc hC (by decide) (by rw [hN]; decide) dX7_means_21 ((sd_goto hC (tgt := 2) (by decide) dX7_means_24 (zLe_rfl))))))))))))))))))))))))))))))
def B_Mo_means_0 (mc ms : Nat) (Rt : Option zAV → zMp → Prop) (g : Nat → zKT) : zKT :=
  (i_ic 0 (i_is 3 (g 2)))
set_option maxRecDepth 20000 in
theorem s_Mo_means_0 {X : zMa} {mc ms : Nat} {Rt : Option zAV → zMp → Prop} (hC : zCx X RX7 cX7_means 1 22 mc ms (none) false Rt) (hN : zNL X = 6) : zLe (B_Mo_means_0 mc ms Rt (zG X)) (zG X 0) :=
  (sd_iconst hC (by decide) dX7_means_0 ((sd_is_n hC rfl (by rw [hN]; decide) dX7_means_1 (zLe_rfl))))
theorem rw_clr_e (f : Nat → Int64) : (fun j => if j < 5 then (fun _ => (0 : Int64)) j else f j) = rw_clr f := rfl
theorem c_Mo_means (l : Launch) : zCT l yX7_means cX7_means 6 (none) 1 22 T_Mo_means co_Mo_means := by
  intro As M Rt hT
  obtain ⟨y, u, v, rfl, rfl, hu, hv, hJ, hR⟩ := hT
  have hd := hJ.dk
  have hlim := hJ.lim
  refine zMet_of false (by decide +kernel) (fun h => by first | rfl | cases h) (Nat.le_of_ble_eq_true rfl) (fun X hN hC => ?_)
  show zG X 0 [some (.inr (30, 0, 0)), some (.inl (.int (nI u))), some (.inl (.int (nI v))), none, none, none] [] (mp y) 0 0
  have gt1 : ∀ so me, y_nw (ym y so me) = y_nw y ∧ y_al (ym y so me) = y_al y ∧ y_do (ym y so me) = y_do y ∧ y_ro (ym y so me) = y_ro y ∧ y_dk (ym y so me) = y_dk y ∧ y_tb (ym y so me) = y_tb y ∧ y_lk (ym y so me) = y_lk y ∧ y_cv (ym y so me) = y_cv y := fun _ _ => ⟨rfl, rfl, rfl, rfl, rfl, rfl, rfl, rfl⟩
  have gso : ∀ so me, y_so (ym y so me) = so := fun _ _ => rfl
  have gme : ∀ so me, y_me (ym y so me) = me := fun _ _ => rfl
  -- the last loop: which wishes stay
  unfold mn_x at hR
  generalize hS : mn_B y u v (y_dk y) = so at hR
  have loop4 := upto (N := y_nw y) (P := fun w => ∀ j4 j5 : Option zAV, zG X 155 [some (.inr (30, 0, 0)), some (.inl (.int (nI u))), some (.inl (.int (nI v))), some (.inl (.int (nI w))), j4, j5] [] (mp (ym y so (mn_C y so w))) 0 0) (fun w hw ih j4 j5 => by
    refine s_Mo_means_155 hC hN _ _ _ _ _ ?_
    obtain ⟨t1, t2, t3, t4, t5, t6, t7, t8⟩ := gt1 so (mn_C y so w)
    simp only [B_Mo_means_0, B_Mo_means_2, B_Mo_means_27, B_Mo_means_29, B_Mo_means_79, B_Mo_means_85, B_Mo_means_87, B_Mo_means_98, B_Mo_means_147, B_Mo_means_153, B_Mo_means_155, B_Mo_means_252, B_Mo_means_253, B_Mo_means_255, B_Mo_means_284, B_Mo_means_290, co_Mo_has, co_Mo_isLinked, co_Mo_means, co_Mo_rowOf, i_ic, i_lc, i_nul, i_il, i_ll, i_al, i_is, i_as, i_ls, i_inc, i_iadd, i_isub, i_imul, i_iand, i_ior, i_ixor, i_idiv, i_irem, i_ishl, i_ishr, i_ladd, i_lsub, i_land, i_lor, i_i2l, i_lushr, i_lshl, i_lshr, i_lcmp, i_dup, i_pop, i_dx1, i_dup2, i_ifeq, i_ifne, i_iflt, i_ifge, i_ifgt, i_ifle, i_iceq, i_icne, i_iclt, i_icge, i_icgt, i_icle, i_ifn, i_gf, i_pf, i_ial, i_bal, i_lal, i_aal, i_ias, i_las, i_bas, i_aas, i_alen, i_newa, i_new, i_anew, i_cast, i_oi, i_call, i_callV, i_callV2, i_callI, i_iret, i_zret, i_lret, i_vret, i_aret, i_mmx, i_mmn, i_gsE, i_aceq, i_no, i_acq, i_sw, zsw, zlg, zls, znl, zfg, zcs, zsp, zrc, zisn, zft, zc1, zto, Value.category, List.set_cons_zero, List.set_cons_succ, List.length_cons, List.length_nil, Option.toList, List.append, List.nil_append, List.cons_append, true_and, and_true, Nat.add_zero, Nat.zero_le, Nat.zero_add, Nat.le_refl, Nat.reduceAdd, Nat.reduceLeDiff, co0, z0, zn_0, zn_1, zn_2, zn_3, zn_4, zn_5, zn_8, zn_12, zn_24, zn_121, zn_144, zn_256, zn_300, zn_600, zn_720, zn_1204, zn_1280, zn_2400, zn_4816, zn_14400, zn_90000, q_main, m_main, q_so, t1, gso]
    refine ⟨fun h => absurd ((zK (K := y_nw y) (by omega) (n := w) (by omega)).2.1.mp h) (by omega), fun _ => ⟨(31, 30, 0), 5, so, 0, w, rfl, q_so _, by omega, by decide, by decide, ?_⟩⟩
    have e0 : sh so 0 = so := by funext k; simp [sh]
    rw [e0]
    -- once it is known whether the wish stays
    have fin : ∀ b : Bool, b = m_st y so w → ∀ j5 : Option zAV, B_Mo_means_261 0 0 Rt (zG X) [some (.inr (30, 0, 0)), some (.inl (.int (nI u))), some (.inl (.int (nI v))), some (.inl (.int (nI w))), some (.inl (.int (zb b))), j5] [] (mp (ym y so (mn_C y so w))) 0 0 := by
      intro b hb j5
      simp only [B_Mo_means_0, B_Mo_means_2, B_Mo_means_27, B_Mo_means_29, B_Mo_means_79, B_Mo_means_85, B_Mo_means_87, B_Mo_means_98, B_Mo_means_147, B_Mo_means_153, B_Mo_means_155, B_Mo_means_177, B_Mo_means_252, B_Mo_means_253, B_Mo_means_255, B_Mo_means_261, B_Mo_means_284, B_Mo_means_290, co_Mo_has, co_Mo_isLinked, co_Mo_means, co_Mo_rowOf, i_ic, i_lc, i_nul, i_il, i_ll, i_al, i_is, i_as, i_ls, i_inc, i_iadd, i_isub, i_imul, i_iand, i_ior, i_ixor, i_idiv, i_irem, i_ishl, i_ishr, i_ladd, i_lsub, i_land, i_lor, i_i2l, i_lushr, i_lshl, i_lshr, i_lcmp, i_dup, i_pop, i_dx1, i_dup2, i_ifeq, i_ifne, i_iflt, i_ifge, i_ifgt, i_ifle, i_iceq, i_icne, i_iclt, i_icge, i_icgt, i_icle, i_ifn, i_gf, i_pf, i_ial, i_bal, i_lal, i_aal, i_ias, i_las, i_bas, i_aas, i_alen, i_newa, i_new, i_anew, i_cast, i_oi, i_call, i_callV, i_callV2, i_callI, i_iret, i_zret, i_lret, i_vret, i_aret, i_mmx, i_mmn, i_gsE, i_aceq, i_no, i_acq, i_sw, zsw, zlg, zls, znl, zfg, zcs, zsp, zrc, zisn, zft, zc1, zto, Value.category, List.set_cons_zero, List.set_cons_succ, List.length_cons, List.length_nil, Option.toList, List.append, List.nil_append, List.cons_append, true_and, and_true, Nat.add_zero, Nat.zero_le, Nat.zero_add, Nat.le_refl, Nat.reduceAdd, Nat.reduceLeDiff, co0, z0, zn_0, zn_1, zn_2, zn_3, zn_4, zn_5, zn_8, zn_12, zn_24, zn_121, zn_144, zn_256, zn_300, zn_600, zn_720, zn_1204, zn_1280, zn_2400, zn_4816, zn_14400, zn_90000, q_main, m_main, q_me, gme]
      simp only [mn_C, ← hb] at ih
      rw [nI_1]
      refine ⟨fun h => ?_, fun h => ?_⟩
      · rw [zb_0.mp h] at ih
        exact ih _ _
      · have hbt := zb_n0 h
        rw [hbt, if_pos rfl] at ih
        rw [nI_d64 (by omega), nI_r64 (by omega), nI_clamp (by omega)]
        refine ⟨by decide, vp_in_nI (by omega) (by decide), by decide, m_k (by decide), vp_in_nI (by omega) (by decide), ?_⟩
        have hw := mu_me (ym y so (mn_C y so w)) (rw_add (mn_C y so w) w)
        rw [show v_me (ym y so (mn_C y so w)) (rw_add (mn_C y so w) w) = ym y so (rw_add (mn_C y so w) w) from rfl] at hw
        rw [← hw] at ih
        exact ih _ _
    have inner := upto (N := y_nw y) (P := fun j => ∀ b : Bool, b = ms_p y so w j → zG X 177 [some (.inr (30, 0, 0)), some (.inl (.int (nI u))), some (.inl (.int (nI v))), some (.inl (.int (nI w))), some (.inl (.int (zb b))), some (.inl (.int (nI j)))] [] (mp (ym y so (mn_C y so w))) 0 0) (fun j hj ihj b hb => by
      refine s_Mo_means_177 hC hN _ _ _ _ _ ?_
      simp only [B_Mo_means_0, B_Mo_means_2, B_Mo_means_27, B_Mo_means_29, B_Mo_means_79, B_Mo_means_85, B_Mo_means_87, B_Mo_means_98, B_Mo_means_147, B_Mo_means_153, B_Mo_means_155, B_Mo_means_177, B_Mo_means_252, B_Mo_means_253, B_Mo_means_255, B_Mo_means_284, B_Mo_means_290, co_Mo_has, co_Mo_isLinked, co_Mo_means, co_Mo_rowOf, i_ic, i_lc, i_nul, i_il, i_ll, i_al, i_is, i_as, i_ls, i_inc, i_iadd, i_isub, i_imul, i_iand, i_ior, i_ixor, i_idiv, i_irem, i_ishl, i_ishr, i_ladd, i_lsub, i_land, i_lor, i_i2l, i_lushr, i_lshl, i_lshr, i_lcmp, i_dup, i_pop, i_dx1, i_dup2, i_ifeq, i_ifne, i_iflt, i_ifge, i_ifgt, i_ifle, i_iceq, i_icne, i_iclt, i_icge, i_icgt, i_icle, i_ifn, i_gf, i_pf, i_ial, i_bal, i_lal, i_aal, i_ias, i_las, i_bas, i_aas, i_alen, i_newa, i_new, i_anew, i_cast, i_oi, i_call, i_callV, i_callV2, i_callI, i_iret, i_zret, i_lret, i_vret, i_aret, i_mmx, i_mmn, i_gsE, i_aceq, i_no, i_acq, i_sw, zsw, zlg, zls, znl, zfg, zcs, zsp, zrc, zisn, zft, zc1, zto, Value.category, List.set_cons_zero, List.set_cons_succ, List.length_cons, List.length_nil, Option.toList, List.append, List.nil_append, List.cons_append, true_and, and_true, Nat.add_zero, Nat.zero_le, Nat.zero_add, Nat.le_refl, Nat.reduceAdd, Nat.reduceLeDiff, co0, z0, zn_0, zn_1, zn_2, zn_3, zn_4, zn_5, zn_8, zn_12, zn_24, zn_121, zn_144, zn_256, zn_300, zn_600, zn_720, zn_1204, zn_1280, zn_2400, zn_4816, zn_14400, zn_90000, q_main, m_main, q_so, q_cv, t1, t8, gso, ar_4, ar_5, ar_12, ar_300, ar_600, ar_1200, ar_10, nI_add, ar_1, ar_2, ar_3, ar_2m]
      refine ⟨fun h => absurd ((zK (K := y_nw y) (by omega) (n := j) (by omega)).2.1.mp h) (by omega), fun _ => ⟨fun h0 => fin b ?_ _, fun h0 => ?_⟩⟩
      · rw [hb]
        have hf : ms_p y so w j = false := by rw [← hb]; exact zb_0.mp h0
        rw [hf, m_st]
        exact (zd_f (fun q => zd_n.mp hf ⟨q.1, fun i hi => q.2 i (by omega)⟩)).symm
      · have hbt := zb_n0 h0
        have hp := zd_i.mp (hb.symm.trans hbt)
        have next : (¬ j = w → zbit so j = true → y_cv y (300 * j + w) = true → y_cv y (300 * w + j) = true ∧ w < j) → zG X 177 [some (.inr (30, 0, 0)), some (.inl (.int (nI u))), some (.inl (.int (nI v))), some (.inl (.int (nI w))), some (.inl (.int (zb b))), some (.inl (.int (nI (j + 1))))] [] (mp (ym y so (mn_C y so w))) 0 0 := fun hc => ihj b (by
          rw [hbt]
          exact (zd_t ⟨hp.1, fun i hi => by
            by_cases e : i = j
            · rw [e]; exact hc
            · exact hp.2 i (by omega)⟩).symm)
        have stop : ¬ j = w → zbit so j = true → y_cv y (300 * j + w) = true → ¬ (y_cv y (300 * w + j) = true ∧ w < j) → zG X 177 [some (.inr (30, 0, 0)), some (.inl (.int (nI u))), some (.inl (.int (nI v))), some (.inl (.int (nI w))), some (.inl (.int 0)), some (.inl (.int (nI (j + 1))))] [] (mp (ym y so (mn_C y so w))) 0 0 := fun c1 c2 c3 c4 => ihj false (zd_f (fun q => c4 (q.2 j (by omega) c1 c2 c3))).symm
        have eb : zb b = 1 := by rw [hbt]; rfl
        refine ⟨fun e => next (fun q => absurd ((nI_eq (by omega) (by omega)).mp e) q), fun ne => ⟨(31, 30, 0), 5, so, 0, j, rfl, q_so _, by omega, by decide, by decide, ?_⟩⟩
        rw [e0]
        refine ⟨fun h => next (fun _ q => by rw [zb_0.mp h] at q; cases q), fun h => ?_⟩
        simp only [B_Mo_means_0, B_Mo_means_2, B_Mo_means_27, B_Mo_means_29, B_Mo_means_79, B_Mo_means_85, B_Mo_means_87, B_Mo_means_98, B_Mo_means_147, B_Mo_means_153, B_Mo_means_155, B_Mo_means_177, B_Mo_means_252, B_Mo_means_253, B_Mo_means_255, B_Mo_means_284, B_Mo_means_290, co_Mo_has, co_Mo_isLinked, co_Mo_means, co_Mo_rowOf, i_ic, i_lc, i_nul, i_il, i_ll, i_al, i_is, i_as, i_ls, i_inc, i_iadd, i_isub, i_imul, i_iand, i_ior, i_ixor, i_idiv, i_irem, i_ishl, i_ishr, i_ladd, i_lsub, i_land, i_lor, i_i2l, i_lushr, i_lshl, i_lshr, i_lcmp, i_dup, i_pop, i_dx1, i_dup2, i_ifeq, i_ifne, i_iflt, i_ifge, i_ifgt, i_ifle, i_iceq, i_icne, i_iclt, i_icge, i_icgt, i_icle, i_ifn, i_gf, i_pf, i_ial, i_bal, i_lal, i_aal, i_ias, i_las, i_bas, i_aas, i_alen, i_newa, i_new, i_anew, i_cast, i_oi, i_call, i_callV, i_callV2, i_callI, i_iret, i_zret, i_lret, i_vret, i_aret, i_mmx, i_mmn, i_gsE, i_aceq, i_no, i_acq, i_sw, zsw, zlg, zls, znl, zfg, zcs, zsp, zrc, zisn, zft, zc1, zto, Value.category, List.set_cons_zero, List.set_cons_succ, List.length_cons, List.length_nil, Option.toList, List.append, List.nil_append, List.cons_append, true_and, and_true, Nat.add_zero, Nat.zero_le, Nat.zero_add, Nat.le_refl, Nat.reduceAdd, Nat.reduceLeDiff, co0, z0, zn_0, zn_1, zn_2, zn_3, zn_4, zn_5, zn_8, zn_12, zn_24, zn_121, zn_144, zn_256, zn_300, zn_600, zn_720, zn_1204, zn_1280, zn_2400, zn_4816, zn_14400, zn_90000, q_main, m_main, q_cv, t8, ar_4, ar_5, ar_12, ar_300, ar_600, ar_1200, ar_10, nI_add, ar_1, ar_2, ar_3, ar_2m]
        rw [nI_clamp (by omega), nI_clamp (by omega)]
        have hz := zb_n0 h
        have nj : ¬ j = w := fun q => ne (by rw [q])
        refine ⟨vp_in_nI (by omega) (by decide), fun h1 => next (fun _ _ q => by rw [zb_0.mp h1] at q; cases q), fun h1 => ⟨vp_in_nI (by omega) (by decide), fun h2 => ?_, fun h2 => ⟨fun h3 => ?_, fun h3 => ?_⟩⟩⟩
        · exact stop nj hz (zb_n0 h1) (fun q => by rw [zb_0.mp h2] at q; cases q.1)
        · exact stop nj hz (zb_n0 h1) (fun q => absurd ((nI_leI (by omega) (by omega)).mp h3) (by omega))
        · rw [← eb]
          exact next (fun _ _ _ => ⟨zb_n0 h2, Nat.lt_of_not_le (fun q => h3 ((nI_leI (by omega) (by omega)).mpr q))⟩)) (fun b hb => by
      refine s_Mo_means_177 hC hN _ _ _ _ _ ?_
      simp only [B_Mo_means_0, B_Mo_means_2, B_Mo_means_27, B_Mo_means_29, B_Mo_means_79, B_Mo_means_85, B_Mo_means_87, B_Mo_means_98, B_Mo_means_147, B_Mo_means_153, B_Mo_means_155, B_Mo_means_177, B_Mo_means_252, B_Mo_means_253, B_Mo_means_255, B_Mo_means_284, B_Mo_means_290, co_Mo_has, co_Mo_isLinked, co_Mo_means, co_Mo_rowOf, i_ic, i_lc, i_nul, i_il, i_ll, i_al, i_is, i_as, i_ls, i_inc, i_iadd, i_isub, i_imul, i_iand, i_ior, i_ixor, i_idiv, i_irem, i_ishl, i_ishr, i_ladd, i_lsub, i_land, i_lor, i_i2l, i_lushr, i_lshl, i_lshr, i_lcmp, i_dup, i_pop, i_dx1, i_dup2, i_ifeq, i_ifne, i_iflt, i_ifge, i_ifgt, i_ifle, i_iceq, i_icne, i_iclt, i_icge, i_icgt, i_icle, i_ifn, i_gf, i_pf, i_ial, i_bal, i_lal, i_aal, i_ias, i_las, i_bas, i_aas, i_alen, i_newa, i_new, i_anew, i_cast, i_oi, i_call, i_callV, i_callV2, i_callI, i_iret, i_zret, i_lret, i_vret, i_aret, i_mmx, i_mmn, i_gsE, i_aceq, i_no, i_acq, i_sw, zsw, zlg, zls, znl, zfg, zcs, zsp, zrc, zisn, zft, zc1, zto, Value.category, List.set_cons_zero, List.set_cons_succ, List.length_cons, List.length_nil, Option.toList, List.append, List.nil_append, List.cons_append, true_and, and_true, Nat.add_zero, Nat.zero_le, Nat.zero_add, Nat.le_refl, Nat.reduceAdd, Nat.reduceLeDiff, co0, z0, zn_0, zn_1, zn_2, zn_3, zn_4, zn_5, zn_8, zn_12, zn_24, zn_121, zn_144, zn_256, zn_300, zn_600, zn_720, zn_1204, zn_1280, zn_2400, zn_4816, zn_14400, zn_90000, q_main, m_main, q_so, q_cv, t1, t8, gso, ar_4, ar_5, ar_12, ar_300, ar_600, ar_1200, ar_10, nI_add, ar_1, ar_2, ar_3, ar_2m]
      refine ⟨fun _ => fin b hb _, fun h => absurd ((zK (K := y_nw y) (by omega) (n := y_nw y) (by omega)).2.1.mpr (Nat.le_refl _)) h⟩) 0 (Nat.zero_le _)
    refine inner _ ?_
    rw [ms_p]
    cases hz : zbit so w with
    | true => exact (zd_t ⟨rfl, fun j hj => absurd hj (Nat.not_lt_zero j)⟩).symm
    | false => exact (zd_f (fun q => by cases q.1)).symm) (fun j4 j5 => by
    refine s_Mo_means_155 hC hN _ _ _ _ _ ?_
    obtain ⟨t1, t2, t3, t4, t5, t6, t7, t8⟩ := gt1 so (mn_C y so (y_nw y))
    simp only [B_Mo_means_0, B_Mo_means_2, B_Mo_means_27, B_Mo_means_29, B_Mo_means_79, B_Mo_means_85, B_Mo_means_87, B_Mo_means_98, B_Mo_means_147, B_Mo_means_153, B_Mo_means_155, B_Mo_means_177, B_Mo_means_252, B_Mo_means_253, B_Mo_means_255, B_Mo_means_261, B_Mo_means_284, B_Mo_means_290, co_Mo_has, co_Mo_isLinked, co_Mo_means, co_Mo_rowOf, i_ic, i_lc, i_nul, i_il, i_ll, i_al, i_is, i_as, i_ls, i_inc, i_iadd, i_isub, i_imul, i_iand, i_ior, i_ixor, i_idiv, i_irem, i_ishl, i_ishr, i_ladd, i_lsub, i_land, i_lor, i_i2l, i_lushr, i_lshl, i_lshr, i_lcmp, i_dup, i_pop, i_dx1, i_dup2, i_ifeq, i_ifne, i_iflt, i_ifge, i_ifgt, i_ifle, i_iceq, i_icne, i_iclt, i_icge, i_icgt, i_icle, i_ifn, i_gf, i_pf, i_ial, i_bal, i_lal, i_aal, i_ias, i_las, i_bas, i_aas, i_alen, i_newa, i_new, i_anew, i_cast, i_oi, i_call, i_callV, i_callV2, i_callI, i_iret, i_zret, i_lret, i_vret, i_aret, i_mmx, i_mmn, i_gsE, i_aceq, i_no, i_acq, i_sw, zsw, zlg, zls, znl, zfg, zcs, zsp, zrc, zisn, zft, zc1, zto, Value.category, List.set_cons_zero, List.set_cons_succ, List.length_cons, List.length_nil, Option.toList, List.append, List.nil_append, List.cons_append, true_and, and_true, Nat.add_zero, Nat.zero_le, Nat.zero_add, Nat.le_refl, Nat.reduceAdd, Nat.reduceLeDiff, co0, z0, zn_0, zn_1, zn_2, zn_3, zn_4, zn_5, zn_8, zn_12, zn_24, zn_121, zn_144, zn_256, zn_300, zn_600, zn_720, zn_1204, zn_1280, zn_2400, zn_4816, zn_14400, zn_90000, q_main, m_main, t1]
    exact ⟨fun _ => hR, fun h => absurd ((zK (K := y_nw y) (by omega) (n := y_nw y) (by omega)).2.1.mpr (Nat.le_refl _)) h⟩) 0 (Nat.zero_le _)
  -- what the neighbours told
  have me0 : mn_C y so 0 = rw_clr (y_me y) := rfl
  rw [me0] at loop4
  have loop3 := upto (N := y_dk y) (P := fun x => ∀ j4 j5 : Option zAV, zG X 87 [some (.inr (30, 0, 0)), some (.inl (.int (nI u))), some (.inl (.int (nI v))), some (.inl (.int (nI x))), j4, j5] [] (mp (ym y (mn_B y u v x) (rw_clr (y_me y)))) 0 0) (fun x hx ih j4 j5 => by
    have hin : ∀ k, zG X 98 [some (.inr (30, 0, 0)), some (.inl (.int (nI u))), some (.inl (.int (nI v))), some (.inl (.int (nI x))), some (.inl (.int (nI 0))), k] [] (mp (ym y (mn_B y u v x) (rw_clr (y_me y)))) 0 0 := by
      intro j5
      by_cases hc : ¬ x = v ∧ y_lk y (12 * u + x) = true
      · simp only [mn_B] at ih
        rw [if_pos hc] at ih
        generalize mn_B y u v x = f at ih
        have e0 : (fun j => if j < 0 then f j ||| sh (y_tb y) (5 * (12 * u + x)) j else f j) = f := by funext j; rw [if_neg (Nat.not_lt_zero j)]
        have := five (P := fun k => zG X 98 [some (.inr (30, 0, 0)), some (.inl (.int (nI u))), some (.inl (.int (nI v))), some (.inl (.int (nI x))), some (.inl (.int (nI k))), j5] [] (mp (ym y (fun j => if j < k then f j ||| sh (y_tb y) (5 * (12 * u + x)) j else f j) (rw_clr (y_me y)))) 0 0) (fun k hk ihk => by
          refine s_Mo_means_98 hC hN _ _ _ _ _ ?_
          simp only [B_Mo_means_0, B_Mo_means_2, B_Mo_means_27, B_Mo_means_29, B_Mo_means_79, B_Mo_means_85, B_Mo_means_87, B_Mo_means_98, B_Mo_means_147, B_Mo_means_153, B_Mo_means_155, B_Mo_means_177, B_Mo_means_252, B_Mo_means_253, B_Mo_means_255, B_Mo_means_261, B_Mo_means_284, B_Mo_means_290, co_Mo_has, co_Mo_isLinked, co_Mo_means, co_Mo_rowOf, i_ic, i_lc, i_nul, i_il, i_ll, i_al, i_is, i_as, i_ls, i_inc, i_iadd, i_isub, i_imul, i_iand, i_ior, i_ixor, i_idiv, i_irem, i_ishl, i_ishr, i_ladd, i_lsub, i_land, i_lor, i_i2l, i_lushr, i_lshl, i_lshr, i_lcmp, i_dup, i_pop, i_dx1, i_dup2, i_ifeq, i_ifne, i_iflt, i_ifge, i_ifgt, i_ifle, i_iceq, i_icne, i_iclt, i_icge, i_icgt, i_icle, i_ifn, i_gf, i_pf, i_ial, i_bal, i_lal, i_aal, i_ias, i_las, i_bas, i_aas, i_alen, i_newa, i_new, i_anew, i_cast, i_oi, i_call, i_callV, i_callV2, i_callI, i_iret, i_zret, i_lret, i_vret, i_aret, i_mmx, i_mmn, i_gsE, i_aceq, i_no, i_acq, i_sw, zsw, zlg, zls, znl, zfg, zcs, zsp, zrc, zisn, zft, zc1, zto, Value.category, List.set_cons_zero, List.set_cons_succ, List.length_cons, List.length_nil, Option.toList, List.append, List.nil_append, List.cons_append, true_and, and_true, Nat.add_zero, Nat.zero_le, Nat.zero_add, Nat.le_refl, Nat.reduceAdd, Nat.reduceLeDiff, co0, z0, zn_0, zn_1, zn_2, zn_3, zn_4, zn_5, zn_8, zn_12, zn_24, zn_121, zn_144, zn_256, zn_300, zn_600, zn_720, zn_1204, zn_1280, zn_2400, zn_4816, zn_14400, zn_90000, q_main, m_main, q_so, q_tb, gso]
          refine ⟨fun h => absurd ((zK (K := 5) (by decide) (n := k) (by omega)).2.1.mp h) (by omega), fun _ => ⟨fun h => absurd ((nI_eq (by omega) (by omega)).mp h) hc.1, fun _ => ⟨ym y _ _, u, x, rfl, rfl, hu, by omega, ?_⟩⟩⟩
          simp only [B_Mo_means_0, B_Mo_means_2, B_Mo_means_27, B_Mo_means_29, B_Mo_means_79, B_Mo_means_85, B_Mo_means_87, B_Mo_means_98, B_Mo_means_147, B_Mo_means_153, B_Mo_means_155, B_Mo_means_177, B_Mo_means_252, B_Mo_means_253, B_Mo_means_255, B_Mo_means_261, B_Mo_means_284, B_Mo_means_290, co_Mo_has, co_Mo_isLinked, co_Mo_means, co_Mo_rowOf, i_ic, i_lc, i_nul, i_il, i_ll, i_al, i_is, i_as, i_ls, i_inc, i_iadd, i_isub, i_imul, i_iand, i_ior, i_ixor, i_idiv, i_irem, i_ishl, i_ishr, i_ladd, i_lsub, i_land, i_lor, i_i2l, i_lushr, i_lshl, i_lshr, i_lcmp, i_dup, i_pop, i_dx1, i_dup2, i_ifeq, i_ifne, i_iflt, i_ifge, i_ifgt, i_ifle, i_iceq, i_icne, i_iclt, i_icge, i_icgt, i_icle, i_ifn, i_gf, i_pf, i_ial, i_bal, i_lal, i_aal, i_ias, i_las, i_bas, i_aas, i_alen, i_newa, i_new, i_anew, i_cast, i_oi, i_call, i_callV, i_callV2, i_callI, i_iret, i_zret, i_lret, i_vret, i_aret, i_mmx, i_mmn, i_gsE, i_aceq, i_no, i_acq, i_sw, zsw, zlg, zls, znl, zfg, zcs, zsp, zrc, zisn, zft, zc1, zto, Value.category, List.set_cons_zero, List.set_cons_succ, List.length_cons, List.length_nil, Option.toList, List.append, List.nil_append, List.cons_append, true_and, and_true, Nat.add_zero, Nat.zero_le, Nat.zero_add, Nat.le_refl, Nat.reduceAdd, Nat.reduceLeDiff, co0, z0, zn_0, zn_1, zn_2, zn_3, zn_4, zn_5, zn_8, zn_12, zn_24, zn_121, zn_144, zn_256, zn_300, zn_600, zn_720, zn_1204, zn_1280, zn_2400, zn_4816, zn_14400, zn_90000, q_main, m_main, q_so, q_tb, gso]
          refine ⟨fun h => by rw [show y_lk (ym y (fun j => if j < k then f j ||| sh (y_tb y) (5 * (12 * u + x)) j else f j) (rw_clr (y_me y))) = y_lk y from rfl, hc.2] at h; exact absurd h (by decide), fun _ => ?_⟩
          refine ⟨vp_in_nI (by omega) (by decide), u, x, rfl, ?_⟩
          simp only [B_Mo_means_0, B_Mo_means_2, B_Mo_means_27, B_Mo_means_29, B_Mo_means_79, B_Mo_means_85, B_Mo_means_87, B_Mo_means_98, B_Mo_means_147, B_Mo_means_153, B_Mo_means_155, B_Mo_means_177, B_Mo_means_252, B_Mo_means_253, B_Mo_means_255, B_Mo_means_261, B_Mo_means_284, B_Mo_means_290, co_Mo_has, co_Mo_isLinked, co_Mo_means, co_Mo_rowOf, i_ic, i_lc, i_nul, i_il, i_ll, i_al, i_is, i_as, i_ls, i_inc, i_iadd, i_isub, i_imul, i_iand, i_ior, i_ixor, i_idiv, i_irem, i_ishl, i_ishr, i_ladd, i_lsub, i_land, i_lor, i_i2l, i_lushr, i_lshl, i_lshr, i_lcmp, i_dup, i_pop, i_dx1, i_dup2, i_ifeq, i_ifne, i_iflt, i_ifge, i_ifgt, i_ifle, i_iceq, i_icne, i_iclt, i_icge, i_icgt, i_icle, i_ifn, i_gf, i_pf, i_ial, i_bal, i_lal, i_aal, i_ias, i_las, i_bas, i_aas, i_alen, i_newa, i_new, i_anew, i_cast, i_oi, i_call, i_callV, i_callV2, i_callI, i_iret, i_zret, i_lret, i_vret, i_aret, i_mmx, i_mmn, i_gsE, i_aceq, i_no, i_acq, i_sw, zsw, zlg, zls, znl, zfg, zcs, zsp, zrc, zisn, zft, zc1, zto, Value.category, List.set_cons_zero, List.set_cons_succ, List.length_cons, List.length_nil, Option.toList, List.append, List.nil_append, List.cons_append, true_and, and_true, Nat.add_zero, Nat.zero_le, Nat.zero_add, Nat.le_refl, Nat.reduceAdd, Nat.reduceLeDiff, co0, z0, zn_0, zn_1, zn_2, zn_3, zn_4, zn_5, zn_8, zn_12, zn_24, zn_121, zn_144, zn_256, zn_300, zn_600, zn_720, zn_1204, zn_1280, zn_2400, zn_4816, zn_14400, zn_90000, q_main, m_main, q_so, q_tb, gso, ar_4, ar_5, ar_12, ar_300, ar_600, ar_1200, ar_10, nI_add, ar_1, ar_2, ar_3, ar_2m]
          rw [nI_clamp (by omega), nI_clamp (by omega), if_neg (Nat.lt_irrefl k)]
          refine ⟨vp_in_nI (by omega) (by decide), m_k (by decide), vp_in_nI (by omega) (by decide), ?_⟩
          rw [zul (g := fun j => f j ||| sh (y_tb y) (5 * (12 * u + x)) j) (x := f k ||| y_tb (ym y (fun j => if j < k then f j ||| sh (y_tb y) (5 * (12 * u + x)) j else f j) (rw_clr (y_me y))) (5 * (12 * u + x) + k)) rfl, mu_so]
          exact ihk) (by
          refine s_Mo_means_98 hC hN _ _ _ _ _ ?_
          simp only [B_Mo_means_0, B_Mo_means_2, B_Mo_means_27, B_Mo_means_29, B_Mo_means_79, B_Mo_means_85, B_Mo_means_87, B_Mo_means_98, B_Mo_means_147, B_Mo_means_153, B_Mo_means_155, B_Mo_means_177, B_Mo_means_252, B_Mo_means_253, B_Mo_means_255, B_Mo_means_261, B_Mo_means_284, B_Mo_means_290, co_Mo_has, co_Mo_isLinked, co_Mo_means, co_Mo_rowOf, i_ic, i_lc, i_nul, i_il, i_ll, i_al, i_is, i_as, i_ls, i_inc, i_iadd, i_isub, i_imul, i_iand, i_ior, i_ixor, i_idiv, i_irem, i_ishl, i_ishr, i_ladd, i_lsub, i_land, i_lor, i_i2l, i_lushr, i_lshl, i_lshr, i_lcmp, i_dup, i_pop, i_dx1, i_dup2, i_ifeq, i_ifne, i_iflt, i_ifge, i_ifgt, i_ifle, i_iceq, i_icne, i_iclt, i_icge, i_icgt, i_icle, i_ifn, i_gf, i_pf, i_ial, i_bal, i_lal, i_aal, i_ias, i_las, i_bas, i_aas, i_alen, i_newa, i_new, i_anew, i_cast, i_oi, i_call, i_callV, i_callV2, i_callI, i_iret, i_zret, i_lret, i_vret, i_aret, i_mmx, i_mmn, i_gsE, i_aceq, i_no, i_acq, i_sw, zsw, zlg, zls, znl, zfg, zcs, zsp, zrc, zisn, zft, zc1, zto, Value.category, List.set_cons_zero, List.set_cons_succ, List.length_cons, List.length_nil, Option.toList, List.append, List.nil_append, List.cons_append, true_and, and_true, Nat.add_zero, Nat.zero_le, Nat.zero_add, Nat.le_refl, Nat.reduceAdd, Nat.reduceLeDiff, co0, z0, zn_0, zn_1, zn_2, zn_3, zn_4, zn_5, zn_8, zn_12, zn_24, zn_121, zn_144, zn_256, zn_300, zn_600, zn_720, zn_1204, zn_1280, zn_2400, zn_4816, zn_14400, zn_90000, q_main, m_main]
          rw [nI_1]
          exact ⟨fun _ => ih _ _, fun h => absurd (by decide) h⟩)
        rw [e0] at this
        exact this
      · simp only [mn_B] at ih
        rw [if_neg hc] at ih
        refine s_Mo_means_98 hC hN _ _ _ _ _ ?_
        simp only [B_Mo_means_0, B_Mo_means_2, B_Mo_means_27, B_Mo_means_29, B_Mo_means_79, B_Mo_means_85, B_Mo_means_87, B_Mo_means_98, B_Mo_means_147, B_Mo_means_153, B_Mo_means_155, B_Mo_means_177, B_Mo_means_252, B_Mo_means_253, B_Mo_means_255, B_Mo_means_261, B_Mo_means_284, B_Mo_means_290, co_Mo_has, co_Mo_isLinked, co_Mo_means, co_Mo_rowOf, i_ic, i_lc, i_nul, i_il, i_ll, i_al, i_is, i_as, i_ls, i_inc, i_iadd, i_isub, i_imul, i_iand, i_ior, i_ixor, i_idiv, i_irem, i_ishl, i_ishr, i_ladd, i_lsub, i_land, i_lor, i_i2l, i_lushr, i_lshl, i_lshr, i_lcmp, i_dup, i_pop, i_dx1, i_dup2, i_ifeq, i_ifne, i_iflt, i_ifge, i_ifgt, i_ifle, i_iceq, i_icne, i_iclt, i_icge, i_icgt, i_icle, i_ifn, i_gf, i_pf, i_ial, i_bal, i_lal, i_aal, i_ias, i_las, i_bas, i_aas, i_alen, i_newa, i_new, i_anew, i_cast, i_oi, i_call, i_callV, i_callV2, i_callI, i_iret, i_zret, i_lret, i_vret, i_aret, i_mmx, i_mmn, i_gsE, i_aceq, i_no, i_acq, i_sw, zsw, zlg, zls, znl, zfg, zcs, zsp, zrc, zisn, zft, zc1, zto, Value.category, List.set_cons_zero, List.set_cons_succ, List.length_cons, List.length_nil, Option.toList, List.append, List.nil_append, List.cons_append, true_and, and_true, Nat.add_zero, Nat.zero_le, Nat.zero_add, Nat.le_refl, Nat.reduceAdd, Nat.reduceLeDiff, co0, z0, zn_0, zn_1, zn_2, zn_3, zn_4, zn_5, zn_8, zn_12, zn_24, zn_121, zn_144, zn_256, zn_300, zn_600, zn_720, zn_1204, zn_1280, zn_2400, zn_4816, zn_14400, zn_90000, q_main, m_main, q_so, q_tb, gso]
        rw [nI_1]
        refine ⟨fun h => absurd h (by decide), fun _ => ⟨fun _ => ih _ _, fun hne => ⟨ym y _ _, u, x, rfl, rfl, hu, by omega, ?_⟩⟩⟩
        simp only [B_Mo_means_0, B_Mo_means_2, B_Mo_means_27, B_Mo_means_29, B_Mo_means_79, B_Mo_means_85, B_Mo_means_87, B_Mo_means_98, B_Mo_means_147, B_Mo_means_153, B_Mo_means_155, B_Mo_means_177, B_Mo_means_252, B_Mo_means_253, B_Mo_means_255, B_Mo_means_261, B_Mo_means_284, B_Mo_means_290, co_Mo_has, co_Mo_isLinked, co_Mo_means, co_Mo_rowOf, i_ic, i_lc, i_nul, i_il, i_ll, i_al, i_is, i_as, i_ls, i_inc, i_iadd, i_isub, i_imul, i_iand, i_ior, i_ixor, i_idiv, i_irem, i_ishl, i_ishr, i_ladd, i_lsub, i_land, i_lor, i_i2l, i_lushr, i_lshl, i_lshr, i_lcmp, i_dup, i_pop, i_dx1, i_dup2, i_ifeq, i_ifne, i_iflt, i_ifge, i_ifgt, i_ifle, i_iceq, i_icne, i_iclt, i_icge, i_icgt, i_icle, i_ifn, i_gf, i_pf, i_ial, i_bal, i_lal, i_aal, i_ias, i_las, i_bas, i_aas, i_alen, i_newa, i_new, i_anew, i_cast, i_oi, i_call, i_callV, i_callV2, i_callI, i_iret, i_zret, i_lret, i_vret, i_aret, i_mmx, i_mmn, i_gsE, i_aceq, i_no, i_acq, i_sw, zsw, zlg, zls, znl, zfg, zcs, zsp, zrc, zisn, zft, zc1, zto, Value.category, List.set_cons_zero, List.set_cons_succ, List.length_cons, List.length_nil, Option.toList, List.append, List.nil_append, List.cons_append, true_and, and_true, Nat.add_zero, Nat.zero_le, Nat.zero_add, Nat.le_refl, Nat.reduceAdd, Nat.reduceLeDiff, co0, z0, zn_0, zn_1, zn_2, zn_3, zn_4, zn_5, zn_8, zn_12, zn_24, zn_121, zn_144, zn_256, zn_300, zn_600, zn_720, zn_1204, zn_1280, zn_2400, zn_4816, zn_14400, zn_90000, q_main, m_main, q_so, q_tb, gso]
        rw [nI_1]
        refine ⟨fun _ => ih _ _, fun h => absurd ⟨fun q => hne (by rw [q]), zb_n0 h⟩ hc⟩
    refine s_Mo_means_87 hC hN _ _ _ _ _ ?_
    obtain ⟨t1, t2, t3, t4, t5, t6, t7, t8⟩ := gt1 (mn_B y u v x) (rw_clr (y_me y))
    simp only [B_Mo_means_0, B_Mo_means_2, B_Mo_means_27, B_Mo_means_29, B_Mo_means_79, B_Mo_means_85, B_Mo_means_87, B_Mo_means_98, B_Mo_means_147, B_Mo_means_153, B_Mo_means_155, B_Mo_means_177, B_Mo_means_252, B_Mo_means_253, B_Mo_means_255, B_Mo_means_261, B_Mo_means_284, B_Mo_means_290, co_Mo_has, co_Mo_isLinked, co_Mo_means, co_Mo_rowOf, i_ic, i_lc, i_nul, i_il, i_ll, i_al, i_is, i_as, i_ls, i_inc, i_iadd, i_isub, i_imul, i_iand, i_ior, i_ixor, i_idiv, i_irem, i_ishl, i_ishr, i_ladd, i_lsub, i_land, i_lor, i_i2l, i_lushr, i_lshl, i_lshr, i_lcmp, i_dup, i_pop, i_dx1, i_dup2, i_ifeq, i_ifne, i_iflt, i_ifge, i_ifgt, i_ifle, i_iceq, i_icne, i_iclt, i_icge, i_icgt, i_icle, i_ifn, i_gf, i_pf, i_ial, i_bal, i_lal, i_aal, i_ias, i_las, i_bas, i_aas, i_alen, i_newa, i_new, i_anew, i_cast, i_oi, i_call, i_callV, i_callV2, i_callI, i_iret, i_zret, i_lret, i_vret, i_aret, i_mmx, i_mmn, i_gsE, i_aceq, i_no, i_acq, i_sw, zsw, zlg, zls, znl, zfg, zcs, zsp, zrc, zisn, zft, zc1, zto, Value.category, List.set_cons_zero, List.set_cons_succ, List.length_cons, List.length_nil, Option.toList, List.append, List.nil_append, List.cons_append, true_and, and_true, Nat.add_zero, Nat.zero_le, Nat.zero_add, Nat.le_refl, Nat.reduceAdd, Nat.reduceLeDiff, co0, z0, zn_0, zn_1, zn_2, zn_3, zn_4, zn_5, zn_8, zn_12, zn_24, zn_121, zn_144, zn_256, zn_300, zn_600, zn_720, zn_1204, zn_1280, zn_2400, zn_4816, zn_14400, zn_90000, q_main, m_main, t5]
    exact ⟨fun h => absurd ((zK (K := y_dk y) (by omega) (n := x) (by omega)).2.1.mp h) (by omega), fun _ => hin _⟩) (fun j4 j5 => by
    refine s_Mo_means_87 hC hN _ _ _ _ _ ?_
    obtain ⟨t1, t2, t3, t4, t5, t6, t7, t8⟩ := gt1 (mn_B y u v (y_dk y)) (rw_clr (y_me y))
    simp only [B_Mo_means_0, B_Mo_means_2, B_Mo_means_27, B_Mo_means_29, B_Mo_means_79, B_Mo_means_85, B_Mo_means_87, B_Mo_means_98, B_Mo_means_147, B_Mo_means_153, B_Mo_means_155, B_Mo_means_177, B_Mo_means_252, B_Mo_means_253, B_Mo_means_255, B_Mo_means_261, B_Mo_means_284, B_Mo_means_290, co_Mo_has, co_Mo_isLinked, co_Mo_means, co_Mo_rowOf, i_ic, i_lc, i_nul, i_il, i_ll, i_al, i_is, i_as, i_ls, i_inc, i_iadd, i_isub, i_imul, i_iand, i_ior, i_ixor, i_idiv, i_irem, i_ishl, i_ishr, i_ladd, i_lsub, i_land, i_lor, i_i2l, i_lushr, i_lshl, i_lshr, i_lcmp, i_dup, i_pop, i_dx1, i_dup2, i_ifeq, i_ifne, i_iflt, i_ifge, i_ifgt, i_ifle, i_iceq, i_icne, i_iclt, i_icge, i_icgt, i_icle, i_ifn, i_gf, i_pf, i_ial, i_bal, i_lal, i_aal, i_ias, i_las, i_bas, i_aas, i_alen, i_newa, i_new, i_anew, i_cast, i_oi, i_call, i_callV, i_callV2, i_callI, i_iret, i_zret, i_lret, i_vret, i_aret, i_mmx, i_mmn, i_gsE, i_aceq, i_no, i_acq, i_sw, zsw, zlg, zls, znl, zfg, zcs, zsp, zrc, zisn, zft, zc1, zto, Value.category, List.set_cons_zero, List.set_cons_succ, List.length_cons, List.length_nil, Option.toList, List.append, List.nil_append, List.cons_append, true_and, and_true, Nat.add_zero, Nat.zero_le, Nat.zero_add, Nat.le_refl, Nat.reduceAdd, Nat.reduceLeDiff, co0, z0, zn_0, zn_1, zn_2, zn_3, zn_4, zn_5, zn_8, zn_12, zn_24, zn_121, zn_144, zn_256, zn_300, zn_600, zn_720, zn_1204, zn_1280, zn_2400, zn_4816, zn_14400, zn_90000, q_main, m_main, t5]
    refine ⟨fun _ => ?_, fun h => absurd ((zK (K := y_dk y) (by omega) (n := y_dk y) (by omega)).2.1.mpr (Nat.le_refl _)) h⟩
    rw [hS]
    exact loop4 _ _) 0 (Nat.zero_le _)
  -- the own wishes
  have loop2 := upto (N := y_nw y) (P := fun w => ∀ j4 j5 : Option zAV, zG X 29 [some (.inr (30, 0, 0)), some (.inl (.int (nI u))), some (.inl (.int (nI v))), some (.inl (.int (nI w))), j4, j5] [] (mp (ym y (mn_A y (nI u) w) (rw_clr (y_me y)))) 0 0) (fun w hw ih j4 j5 => by
    refine s_Mo_means_29 hC hN _ _ _ _ _ ?_
    obtain ⟨t1, t2, t3, t4, t5, t6, t7, t8⟩ := gt1 (mn_A y (nI u) w) (rw_clr (y_me y))
    simp only [B_Mo_means_0, B_Mo_means_2, B_Mo_means_27, B_Mo_means_29, B_Mo_means_79, B_Mo_means_85, B_Mo_means_87, B_Mo_means_98, B_Mo_means_147, B_Mo_means_153, B_Mo_means_155, B_Mo_means_177, B_Mo_means_252, B_Mo_means_253, B_Mo_means_255, B_Mo_means_261, B_Mo_means_284, B_Mo_means_290, co_Mo_has, co_Mo_isLinked, co_Mo_means, co_Mo_rowOf, i_ic, i_lc, i_nul, i_il, i_ll, i_al, i_is, i_as, i_ls, i_inc, i_iadd, i_isub, i_imul, i_iand, i_ior, i_ixor, i_idiv, i_irem, i_ishl, i_ishr, i_ladd, i_lsub, i_land, i_lor, i_i2l, i_lushr, i_lshl, i_lshr, i_lcmp, i_dup, i_pop, i_dx1, i_dup2, i_ifeq, i_ifne, i_iflt, i_ifge, i_ifgt, i_ifle, i_iceq, i_icne, i_iclt, i_icge, i_icgt, i_icle, i_ifn, i_gf, i_pf, i_ial, i_bal, i_lal, i_aal, i_ias, i_las, i_bas, i_aas, i_alen, i_newa, i_new, i_anew, i_cast, i_oi, i_call, i_callV, i_callV2, i_callI, i_iret, i_zret, i_lret, i_vret, i_aret, i_mmx, i_mmn, i_gsE, i_aceq, i_no, i_acq, i_sw, zsw, zlg, zls, znl, zfg, zcs, zsp, zrc, zisn, zft, zc1, zto, Value.category, List.set_cons_zero, List.set_cons_succ, List.length_cons, List.length_nil, Option.toList, List.append, List.nil_append, List.cons_append, true_and, and_true, Nat.add_zero, Nat.zero_le, Nat.zero_add, Nat.le_refl, Nat.reduceAdd, Nat.reduceLeDiff, co0, z0, zn_0, zn_1, zn_2, zn_3, zn_4, zn_5, zn_8, zn_12, zn_24, zn_121, zn_144, zn_256, zn_300, zn_600, zn_720, zn_1204, zn_1280, zn_2400, zn_4816, zn_14400, zn_90000, q_main, m_main, q_al, q_do, q_ro, q_so, t1, t2, t3, t4, gso]
    have hro := hJ.ro w hw
    rw [nI_clamp (by omega), nI_clamp (by omega), nI_1]
    simp only [mn_A] at ih
    refine ⟨fun h => absurd ((zK (K := y_nw y) (by omega) (n := w) (by omega)).2.1.mp h) (by omega), fun _ => ⟨vp_in_nI (by omega) (by decide), fun h => ?_, fun h => ⟨vp_in_nI (by omega) (by decide), vp_in_nI (by omega) (by decide), fun h2 => ?_, fun h2 => ?_⟩⟩⟩
    · rw [if_neg (fun q => by rw [zb_0.mp h] at q; cases q.1)] at ih
      exact ih _ _
    · rw [if_neg (fun q => h2 q.2)] at ih
      exact ih _ _
    · rw [if_pos ⟨zb_n0 h, h2⟩] at ih
      rw [nI_d64 (by omega), nI_r64 (by omega), nI_clamp (by omega)]
      refine ⟨by decide, vp_in_nI (by omega) (by decide), by decide, m_k (by decide), vp_in_nI (by omega) (by decide), ?_⟩
      have hw2 := mu_so (ym y (mn_A y (nI u) w) (rw_clr (y_me y))) (rw_add (mn_A y (nI u) w) w)
      rw [show v_so (ym y (mn_A y (nI u) w) (rw_clr (y_me y))) (rw_add (mn_A y (nI u) w) w) = ym y (rw_add (mn_A y (nI u) w) w) (rw_clr (y_me y)) from rfl] at hw2
      rw [← hw2] at ih
      exact ih _ _) (fun j4 j5 => by
    refine s_Mo_means_29 hC hN _ _ _ _ _ ?_
    obtain ⟨t1, t2, t3, t4, t5, t6, t7, t8⟩ := gt1 (mn_A y (nI u) (y_nw y)) (rw_clr (y_me y))
    simp only [B_Mo_means_0, B_Mo_means_2, B_Mo_means_27, B_Mo_means_29, B_Mo_means_79, B_Mo_means_85, B_Mo_means_87, B_Mo_means_98, B_Mo_means_147, B_Mo_means_153, B_Mo_means_155, B_Mo_means_177, B_Mo_means_252, B_Mo_means_253, B_Mo_means_255, B_Mo_means_261, B_Mo_means_284, B_Mo_means_290, co_Mo_has, co_Mo_isLinked, co_Mo_means, co_Mo_rowOf, i_ic, i_lc, i_nul, i_il, i_ll, i_al, i_is, i_as, i_ls, i_inc, i_iadd, i_isub, i_imul, i_iand, i_ior, i_ixor, i_idiv, i_irem, i_ishl, i_ishr, i_ladd, i_lsub, i_land, i_lor, i_i2l, i_lushr, i_lshl, i_lshr, i_lcmp, i_dup, i_pop, i_dx1, i_dup2, i_ifeq, i_ifne, i_iflt, i_ifge, i_ifgt, i_ifle, i_iceq, i_icne, i_iclt, i_icge, i_icgt, i_icle, i_ifn, i_gf, i_pf, i_ial, i_bal, i_lal, i_aal, i_ias, i_las, i_bas, i_aas, i_alen, i_newa, i_new, i_anew, i_cast, i_oi, i_call, i_callV, i_callV2, i_callI, i_iret, i_zret, i_lret, i_vret, i_aret, i_mmx, i_mmn, i_gsE, i_aceq, i_no, i_acq, i_sw, zsw, zlg, zls, znl, zfg, zcs, zsp, zrc, zisn, zft, zc1, zto, Value.category, List.set_cons_zero, List.set_cons_succ, List.length_cons, List.length_nil, Option.toList, List.append, List.nil_append, List.cons_append, true_and, and_true, Nat.add_zero, Nat.zero_le, Nat.zero_add, Nat.le_refl, Nat.reduceAdd, Nat.reduceLeDiff, co0, z0, zn_0, zn_1, zn_2, zn_3, zn_4, zn_5, zn_8, zn_12, zn_24, zn_121, zn_144, zn_256, zn_300, zn_600, zn_720, zn_1204, zn_1280, zn_2400, zn_4816, zn_14400, zn_90000, q_main, m_main, t1]
    exact ⟨fun _ => loop3 _ _, fun h => absurd ((zK (K := y_nw y) (by omega) (n := y_nw y) (by omega)).2.1.mpr (Nat.le_refl _)) h⟩) 0 (Nat.zero_le _)
  -- clean rows
  have z0 : ∀ f : Nat → Int64, (fun j => if j < 0 then (0 : Int64) else f j) = f := fun f => by funext j; rw [if_neg (Nat.not_lt_zero j)]
  have loop1 := five (P := fun i => ∀ j4 j5 : Option zAV, zG X 2 [some (.inr (30, 0, 0)), some (.inl (.int (nI u))), some (.inl (.int (nI v))), some (.inl (.int (nI i))), j4, j5] [] (mp (ym y (fun j => if j < i then 0 else y_so y j) (fun j => if j < i then 0 else y_me y j))) 0 0) (fun i hi ih j4 j5 => by
    refine s_Mo_means_2 hC hN _ _ _ _ _ ?_
    simp only [B_Mo_means_0, B_Mo_means_2, B_Mo_means_27, B_Mo_means_29, B_Mo_means_79, B_Mo_means_85, B_Mo_means_87, B_Mo_means_98, B_Mo_means_147, B_Mo_means_153, B_Mo_means_155, B_Mo_means_177, B_Mo_means_252, B_Mo_means_253, B_Mo_means_255, B_Mo_means_261, B_Mo_means_284, B_Mo_means_290, co_Mo_has, co_Mo_isLinked, co_Mo_means, co_Mo_rowOf, i_ic, i_lc, i_nul, i_il, i_ll, i_al, i_is, i_as, i_ls, i_inc, i_iadd, i_isub, i_imul, i_iand, i_ior, i_ixor, i_idiv, i_irem, i_ishl, i_ishr, i_ladd, i_lsub, i_land, i_lor, i_i2l, i_lushr, i_lshl, i_lshr, i_lcmp, i_dup, i_pop, i_dx1, i_dup2, i_ifeq, i_ifne, i_iflt, i_ifge, i_ifgt, i_ifle, i_iceq, i_icne, i_iclt, i_icge, i_icgt, i_icle, i_ifn, i_gf, i_pf, i_ial, i_bal, i_lal, i_aal, i_ias, i_las, i_bas, i_aas, i_alen, i_newa, i_new, i_anew, i_cast, i_oi, i_call, i_callV, i_callV2, i_callI, i_iret, i_zret, i_lret, i_vret, i_aret, i_mmx, i_mmn, i_gsE, i_aceq, i_no, i_acq, i_sw, zsw, zlg, zls, znl, zfg, zcs, zsp, zrc, zisn, zft, zc1, zto, Value.category, List.set_cons_zero, List.set_cons_succ, List.length_cons, List.length_nil, Option.toList, List.append, List.nil_append, List.cons_append, true_and, and_true, Nat.add_zero, Nat.zero_le, Nat.zero_add, Nat.le_refl, Nat.reduceAdd, Nat.reduceLeDiff, co0, z0, zn_0, zn_1, zn_2, zn_3, zn_4, zn_5, zn_8, zn_12, zn_24, zn_121, zn_144, zn_256, zn_300, zn_600, zn_720, zn_1204, zn_1280, zn_2400, zn_4816, zn_14400, zn_90000, q_main, m_main, q_so, q_me, gso, gme]
    rw [nI_clamp (by omega), nI_1]
    refine ⟨fun h => absurd ((zK (K := 5) (by decide) (n := i) (by omega)).2.1.mp h) (by omega), fun _ => ⟨m_k (by decide), vp_in_nI (by omega) (by decide), ?_⟩⟩
    rw [zul (g := fun _ => 0) rfl, mu_so]
    simp only [i_ic, i_lc, i_nul, i_il, i_ll, i_al, i_is, i_as, i_ls, i_inc, i_iadd, i_isub, i_imul, i_iand, i_ior, i_ixor, i_idiv, i_irem, i_ishl, i_ishr, i_ladd, i_lsub, i_land, i_lor, i_i2l, i_lushr, i_lshl, i_lshr, i_lcmp, i_dup, i_pop, i_dx1, i_dup2, i_ifeq, i_ifne, i_iflt, i_ifge, i_ifgt, i_ifle, i_iceq, i_icne, i_iclt, i_icge, i_icgt, i_icle, i_ifn, i_gf, i_pf, i_ial, i_bal, i_lal, i_aal, i_ias, i_las, i_bas, i_aas, i_alen, i_newa, i_new, i_anew, i_cast, i_oi, i_call, i_callV, i_callV2, i_callI, i_iret, i_zret, i_lret, i_vret, i_aret, i_mmx, i_mmn, i_gsE, i_aceq, i_no, i_acq, i_sw, zsw, zlg, zls, znl, zfg, zcs, zsp, zrc, zisn, zft, zc1, zto, Value.category, List.set_cons_zero, List.set_cons_succ, List.length_cons, List.length_nil, Option.toList, List.append, List.nil_append, List.cons_append, true_and, and_true, Nat.add_zero, Nat.zero_le, Nat.zero_add, Nat.le_refl, Nat.reduceAdd, Nat.reduceLeDiff, co0, z0, zn_0, zn_1, zn_2, zn_3, zn_4, zn_5, zn_8, zn_12, zn_24, zn_121, zn_144, zn_256, zn_300, zn_600, zn_720, zn_1204, zn_1280, zn_2400, zn_4816, zn_14400, zn_90000, q_main, m_main, q_me]
    refine ⟨m_k (by decide), vp_in_nI (by omega) (by decide), ?_⟩
    rw [show y_me (v_so (ym y (fun j => if j < i then 0 else y_so y j) (fun j => if j < i then 0 else y_me y j)) (fun j => if j < i + 1 then 0 else y_so y j)) = (fun j => if j < i then 0 else y_me y j) from rfl, nI_clamp (by omega), zul (g := fun _ => 0) rfl, mu_me]
    exact ih _ _) (fun j4 j5 => by
    refine s_Mo_means_2 hC hN _ _ _ _ _ ?_
    simp only [B_Mo_means_0, B_Mo_means_2, B_Mo_means_27, B_Mo_means_29, B_Mo_means_79, B_Mo_means_85, B_Mo_means_87, B_Mo_means_98, B_Mo_means_147, B_Mo_means_153, B_Mo_means_155, B_Mo_means_177, B_Mo_means_252, B_Mo_means_253, B_Mo_means_255, B_Mo_means_261, B_Mo_means_284, B_Mo_means_290, co_Mo_has, co_Mo_isLinked, co_Mo_means, co_Mo_rowOf, i_ic, i_lc, i_nul, i_il, i_ll, i_al, i_is, i_as, i_ls, i_inc, i_iadd, i_isub, i_imul, i_iand, i_ior, i_ixor, i_idiv, i_irem, i_ishl, i_ishr, i_ladd, i_lsub, i_land, i_lor, i_i2l, i_lushr, i_lshl, i_lshr, i_lcmp, i_dup, i_pop, i_dx1, i_dup2, i_ifeq, i_ifne, i_iflt, i_ifge, i_ifgt, i_ifle, i_iceq, i_icne, i_iclt, i_icge, i_icgt, i_icle, i_ifn, i_gf, i_pf, i_ial, i_bal, i_lal, i_aal, i_ias, i_las, i_bas, i_aas, i_alen, i_newa, i_new, i_anew, i_cast, i_oi, i_call, i_callV, i_callV2, i_callI, i_iret, i_zret, i_lret, i_vret, i_aret, i_mmx, i_mmn, i_gsE, i_aceq, i_no, i_acq, i_sw, zsw, zlg, zls, znl, zfg, zcs, zsp, zrc, zisn, zft, zc1, zto, Value.category, List.set_cons_zero, List.set_cons_succ, List.length_cons, List.length_nil, Option.toList, List.append, List.nil_append, List.cons_append, true_and, and_true, Nat.add_zero, Nat.zero_le, Nat.zero_add, Nat.le_refl, Nat.reduceAdd, Nat.reduceLeDiff, co0, z0, zn_0, zn_1, zn_2, zn_3, zn_4, zn_5, zn_8, zn_12, zn_24, zn_121, zn_144, zn_256, zn_300, zn_600, zn_720, zn_1204, zn_1280, zn_2400, zn_4816, zn_14400, zn_90000]
    exact ⟨fun _ => loop2 _ _, fun h => absurd (by decide) h⟩)
  refine s_Mo_means_0 hC hN _ _ _ _ _ ?_
  simp only [B_Mo_means_0, B_Mo_means_2, B_Mo_means_27, B_Mo_means_29, B_Mo_means_79, B_Mo_means_85, B_Mo_means_87, B_Mo_means_98, B_Mo_means_147, B_Mo_means_153, B_Mo_means_155, B_Mo_means_177, B_Mo_means_252, B_Mo_means_253, B_Mo_means_255, B_Mo_means_261, B_Mo_means_284, B_Mo_means_290, co_Mo_has, co_Mo_isLinked, co_Mo_means, co_Mo_rowOf, i_ic, i_lc, i_nul, i_il, i_ll, i_al, i_is, i_as, i_ls, i_inc, i_iadd, i_isub, i_imul, i_iand, i_ior, i_ixor, i_idiv, i_irem, i_ishl, i_ishr, i_ladd, i_lsub, i_land, i_lor, i_i2l, i_lushr, i_lshl, i_lshr, i_lcmp, i_dup, i_pop, i_dx1, i_dup2, i_ifeq, i_ifne, i_iflt, i_ifge, i_ifgt, i_ifle, i_iceq, i_icne, i_iclt, i_icge, i_icgt, i_icle, i_ifn, i_gf, i_pf, i_ial, i_bal, i_lal, i_aal, i_ias, i_las, i_bas, i_aas, i_alen, i_newa, i_new, i_anew, i_cast, i_oi, i_call, i_callV, i_callV2, i_callI, i_iret, i_zret, i_lret, i_vret, i_aret, i_mmx, i_mmn, i_gsE, i_aceq, i_no, i_acq, i_sw, zsw, zlg, zls, znl, zfg, zcs, zsp, zrc, zisn, zft, zc1, zto, Value.category, List.set_cons_zero, List.set_cons_succ, List.length_cons, List.length_nil, Option.toList, List.append, List.nil_append, List.cons_append, true_and, and_true, Nat.add_zero, Nat.zero_le, Nat.zero_add, Nat.le_refl, Nat.reduceAdd, Nat.reduceLeDiff, co0, z0, zn_0, zn_1, zn_2, zn_3, zn_4, zn_5, zn_8, zn_12, zn_24, zn_121, zn_144, zn_256, zn_300, zn_600, zn_720, zn_1204, zn_1280, zn_2400, zn_4816, zn_14400, zn_90000]
  have := loop1 none none
  rw [z0, z0] at this
  exact this
