/-! WishRoutes: counting -/
theorem lnm_n {x : zSt} {p : Nat} (h : x_ln x p = none) : Option.map (fun l => ((16, l, 0) : zNm)) (x_ln x p) = none := by rw [h]; rfl
theorem lnm_s {x : zSt} {p l : Nat} (h : x_ln x p = some l) : Option.map (fun l => ((16, l, 0) : zNm)) (x_ln x p) = some (16, l, 0) := by rw [h]; rfl
/-- how many of the first n notices are under way -/
noncomputable def x_uw (x : zSt) : Nat → Nat
  | 0 => 0
  | n + 1 => x_uw x n + (if 0 < x_nm x n then 1 else 0)
theorem x_uw_le (x : zSt) : ∀ n, x_uw x n ≤ n
  | 0 => Nat.le_refl _
  | n + 1 => by
    have := x_uw_le x n
    simp only [x_uw]
    split <;> omega
def T_WR_underWay (As : List zAV) (M : zMp) (Rt : Option zAV → zMp → Prop) : Prop := ∃ x, As = [.inr (0, 0, 0)] ∧ M = pic x ∧ Iv x ∧ Rt (some (.inl (.int (nI (x_uw x (x_nn x)))))) M
abbrev co_WR_underWay := co0
theorem dX6_underWay_0 : decode cX6_underWay 0 = .ok (.iconst 0, 1) := by decide +kernel
theorem dX6_underWay_1 : decode cX6_underWay 1 = .ok (.istore_n 1, 1) := by decide +kernel
theorem dX6_underWay_2 : decode cX6_underWay 2 = .ok (.iconst 0, 1) := by decide +kernel
theorem dX6_underWay_3 : decode cX6_underWay 3 = .ok (.istore_n 2, 1) := by decide +kernel
theorem dX6_underWay_4 : decode cX6_underWay 4 = .ok (.iload_n 2, 1) := by decide +kernel
theorem dX6_underWay_5 : decode cX6_underWay 5 = .ok (.aload_n 0, 1) := by decide +kernel
theorem dX6_underWay_6 : decode cX6_underWay 6 = .ok (.getfield 19, 3) := by decide +kernel
theorem dX6_underWay_9 : decode cX6_underWay 9 = .ok (.invokevirtual 96, 3) := by decide +kernel
theorem dX6_underWay_12 : decode cX6_underWay 12 = .ok (.if_icmp .ge 29, 3) := by decide +kernel
theorem dX6_underWay_15 : decode cX6_underWay 15 = .ok (.aload_n 0, 1) := by decide +kernel
theorem dX6_underWay_16 : decode cX6_underWay 16 = .ok (.getfield 19, 3) := by decide +kernel
theorem dX6_underWay_19 : decode cX6_underWay 19 = .ok (.iload_n 2, 1) := by decide +kernel
theorem dX6_underWay_20 : decode cX6_underWay 20 = .ok (.invokevirtual 227, 3) := by decide +kernel
theorem dX6_underWay_23 : decode cX6_underWay 23 = .ok (.checkcast 151, 3) := by decide +kernel
theorem dX6_underWay_26 : decode cX6_underWay 26 = .ok (.getfield 205, 3) := by decide +kernel
theorem dX6_underWay_29 : decode cX6_underWay 29 = .ok (.ifCond .le 6, 3) := by decide +kernel
theorem dX6_underWay_32 : decode cX6_underWay 32 = .ok (.iinc 1 1, 3) := by decide +kernel
theorem dX6_underWay_35 : decode cX6_underWay 35 = .ok (.iinc 2 1, 3) := by decide +kernel
theorem dX6_underWay_38 : decode cX6_underWay 38 = .ok (.goto (-34), 3) := by decide +kernel
theorem dX6_underWay_41 : decode cX6_underWay 41 = .ok (.iload_n 1, 1) := by decide +kernel
theorem dX6_underWay_42 : decode cX6_underWay 42 = .ok (.ireturn, 1) := by decide +kernel
def B_WR_underWay_41 (mc ms : Nat) (Rt : Option zAV → zMp → Prop) (g : Nat → zKT) : zKT :=
  (i_il 1 (i_iret mc ms Rt))
set_option maxRecDepth 20000 in
theorem s_WR_underWay_41 {X : zMa} {mc ms : Nat} {Rt : Option zAV → zMp → Prop} (hC : zCx X RX6 cX6_underWay 3 64 mc ms (some .int) false Rt) (hN : zNL X = 3) : zLe (B_WR_underWay_41 mc ms Rt (zG X)) (zG X 41) :=
  (sd_il_n hC rfl dX6_underWay_41 ((sd_iret hC dX6_underWay_42)))
def B_WR_underWay_35 (mc ms : Nat) (Rt : Option zAV → zMp → Prop) (g : Nat → zKT) : zKT :=
  (i_inc 2 1 (g 4))
set_option maxRecDepth 20000 in
theorem s_WR_underWay_35 {X : zMa} {mc ms : Nat} {Rt : Option zAV → zMp → Prop} (hC : zCx X RX6 cX6_underWay 3 64 mc ms (some .int) false Rt) (hN : zNL X = 3) : zLe (B_WR_underWay_35 mc ms Rt (zG X)) (zG X 35) :=
  (sd_inc hC (by decide) (by rw [hN]; decide) dX6_underWay_35 ((sd_goto hC (tgt := 4) (by decide) dX6_underWay_38 (zLe_rfl))))
def B_WR_underWay_4 (mc ms : Nat) (Rt : Option zAV → zMp → Prop) (g : Nat → zKT) : zKT :=
  (i_il 2 (i_al 0 (i_gf 7 2 (i_callV mc ms 0 1 T_AL_size co_AL_size (i_icge (B_WR_underWay_41 mc ms Rt g) (i_al 0 (i_gf 7 2 (i_il 2 (i_callV mc ms 0 2 T_AL_get co_AL_get (i_cast "WishRoutes$Notice" (i_gf 3 3 (i_ifle (B_WR_underWay_35 mc ms Rt g) (i_inc 1 1 (B_WR_underWay_35 mc ms Rt g))))))))))))))
set_option maxRecDepth 20000 in
theorem s_WR_underWay_4 {X : zMa} {mc ms : Nat} {Rt : Option zAV → zMp → Prop} (hC : zCx X RX6 cX6_underWay 3 64 mc ms (some .int) false Rt) (hN : zNL X = 3) : zLe (B_WR_underWay_4 mc ms Rt (zG X)) (zG X 4) :=
  (sd_il_n hC rfl dX6_underWay_4 ((sd_al_n hC rfl dX6_underWay_5 ((sd_gf hC (ci := 7) (fk := 2) rfl wi_WR (by decide) fl_WR_19 (Or.inl rfl) dX6_underWay_6 ((sd_cV hC c_AL_size yv_AL_size (ci := 0) rfl rfl ml_WR_96 (by decide) (by decide) dX6_underWay_9 ((sd_icge hC (tgt := 41) (by decide) dX6_underWay_12 (s_WR_underWay_41 hC hN) ((sd_al_n hC rfl dX6_underWay_15 ((sd_gf hC (ci := 7) (fk := 2) rfl wi_WR (by decide) fl_WR_19 (Or.inl rfl) dX6_underWay_16 ((sd_il_n hC rfl dX6_underWay_19 ((sd_cV hC c_AL_get yv_AL_get (ci := 0) rfl rfl ml_WR_227 (by decide) (by decide) dX6_underWay_20 ((sd_cast hC cl_WR_151 dX6_underWay_23 ((sd_gf hC (ci := 3) (fk := 3) rfl wi_Not (by decide) fl_WR_205 (Or.inl rfl) dX6_underWay_26 ((sd_ifle hC (tgt := 35) (by decide) dX6_underWay_29 (s_WR_underWay_35 hC hN) ((sd_inc hC (by decide) (by rw [hN]; decide) dX6_underWay_32 (s_WR_underWay_35 hC hN))))))))))))))))))))))))))
def B_WR_underWay_0 (mc ms : Nat) (Rt : Option zAV → zMp → Prop) (g : Nat → zKT) : zKT :=
  (i_ic 0 (i_is 1 (i_ic 0 (i_is 2 (g 4)))))
set_option maxRecDepth 20000 in
theorem s_WR_underWay_0 {X : zMa} {mc ms : Nat} {Rt : Option zAV → zMp → Prop} (hC : zCx X RX6 cX6_underWay 3 64 mc ms (some .int) false Rt) (hN : zNL X = 3) : zLe (B_WR_underWay_0 mc ms Rt (zG X)) (zG X 0) :=
  (sd_iconst hC (by decide) dX6_underWay_0 ((sd_is_n hC rfl (by rw [hN]; decide) dX6_underWay_1 ((sd_iconst hC (by decide) dX6_underWay_2 ((sd_is_n hC rfl (by rw [hN]; decide) dX6_underWay_3 (zLe_rfl))))))))
theorem c_WR_underWay (l : Launch) : zCT l yX6_underWay cX6_underWay 3 (some .int) 3 64 T_WR_underWay co_WR_underWay := by
  intro As M Rt hT
  obtain ⟨x, rfl, rfl, hI, hR⟩ := hT
  have hlim := hI.lim
  have hcap := hI.cap 2 (by decide)
  have hsz : x_sz x 2 = x_nn x := rfl
  rw [hsz] at hcap
  refine zMet_of false (by decide +kernel) (fun h => by first | rfl | cases h) (Nat.le_of_ble_eq_true rfl) (fun X hN hC => ?_)
  show zG X 0 [some (.inr (0, 0, 0)), none, none] [] (pic x) 0 0
  have loop := upto (N := x_nn x) (P := fun i => zG X 4 [some (.inr (0, 0, 0)), some (.inl (.int (nI (x_uw x i)))), some (.inl (.int (nI i)))] [] (pic x) 0 0) (fun i hi ih => by
    refine s_WR_underWay_4 hC hN _ _ _ _ _ ?_
    simp only [B_WR_underWay_0, B_WR_underWay_4, B_WR_underWay_35, B_WR_underWay_41, co_AL_get, co_AL_size, co_WR_underWay, i_ic, i_lc, i_nul, i_il, i_ll, i_al, i_is, i_as, i_ls, i_inc, i_iadd, i_isub, i_imul, i_iand, i_ior, i_ixor, i_idiv, i_irem, i_ishl, i_ishr, i_ladd, i_lsub, i_land, i_lor, i_i2l, i_lushr, i_lshl, i_lshr, i_lcmp, i_dup, i_pop, i_dx1, i_dup2, i_ifeq, i_ifne, i_iflt, i_ifge, i_ifgt, i_ifle, i_iceq, i_icne, i_iclt, i_icge, i_icgt, i_icle, i_ifn, i_gf, i_pf, i_ial, i_bal, i_lal, i_aal, i_ias, i_las, i_bas, i_aas, i_alen, i_newa, i_new, i_anew, i_cast, i_oi, i_call, i_callV, i_callV2, i_callI, i_iret, i_zret, i_lret, i_vret, i_aret, i_mmx, i_mmn, i_gsE, i_aceq, i_no, i_acq, i_sw, zsw, zlg, zls, znl, zfg, zcs, zsp, zrc, zisn, zft, zc1, zto, Value.category, List.set_cons_zero, List.set_cons_succ, List.length_cons, List.length_nil, Option.toList, List.append, List.nil_append, List.cons_append, true_and, and_true, Nat.add_zero, Nat.zero_le, Nat.zero_add, Nat.le_refl, Nat.reduceAdd, Nat.reduceLeDiff, co0, z0, zn_0, zn_1, zn_2, zn_3, zn_4, zn_5, zn_8, zn_12, zn_24, zn_121, zn_144, zn_256, zn_300, zn_600, zn_720, zn_1204, zn_1280, zn_2400, zn_4816, zn_14400, zn_90000, p_main, x_main, p_list (i := 2) (by decide)]
    refine ⟨(1, 2, 0), _, _, _, rfl, p_list (by decide), ?_⟩
    rw [hsz]
    simp only [p_main, x_main, p_list (i := 2) (by decide), i_ic, i_lc, i_nul, i_il, i_ll, i_al, i_is, i_as, i_ls, i_inc, i_iadd, i_isub, i_imul, i_iand, i_ior, i_ixor, i_idiv, i_irem, i_ishl, i_ishr, i_ladd, i_lsub, i_land, i_lor, i_i2l, i_lushr, i_lshl, i_lshr, i_lcmp, i_dup, i_pop, i_dx1, i_dup2, i_ifeq, i_ifne, i_iflt, i_ifge, i_ifgt, i_ifle, i_iceq, i_icne, i_iclt, i_icge, i_icgt, i_icle, i_ifn, i_gf, i_pf, i_ial, i_bal, i_lal, i_aal, i_ias, i_las, i_bas, i_aas, i_alen, i_newa, i_new, i_anew, i_cast, i_oi, i_call, i_callV, i_callV2, i_callI, i_iret, i_zret, i_lret, i_vret, i_aret, i_mmx, i_mmn, i_gsE, i_aceq, i_no, i_acq, i_sw, zsw, zlg, zls, znl, zfg, zcs, zsp, zrc, zisn, zft, zc1, zto, Value.category, List.set_cons_zero, List.set_cons_succ, List.length_cons, List.length_nil, Option.toList, List.append, List.nil_append, List.cons_append, true_and, and_true, Nat.add_zero, Nat.zero_le, Nat.zero_add, Nat.le_refl, Nat.reduceAdd, Nat.reduceLeDiff, co0, z0, zn_0, zn_1, zn_2, zn_3, zn_4, zn_5, zn_8, zn_12, zn_24, zn_121, zn_144, zn_256, zn_300, zn_600, zn_720, zn_1204, zn_1280, zn_2400, zn_4816, zn_14400, zn_90000]
    refine ⟨fun h => absurd ((zK (K := x_nn x) (by omega) (n := i) (by omega)).2.1.mp h) (by omega), fun _ => ⟨(1, 2, 0), _, _, _, _, _, i, rfl, p_list (by decide), p_dat (by decide) (by omega), by rw [hsz]; exact hi, by rw [hsz]; exact hcap.1, by omega, ?_⟩⟩
    have ek : x_el x 2 i = some (12, i, 0) := if_pos hi
    have hkk : i < x_on x := Nat.lt_of_lt_of_le hi hI.cnt.2.2
    rw [ek]
    simp only [zov, zok, p_ntc hkk, x_ntc, i_ic, i_lc, i_nul, i_il, i_ll, i_al, i_is, i_as, i_ls, i_inc, i_iadd, i_isub, i_imul, i_iand, i_ior, i_ixor, i_idiv, i_irem, i_ishl, i_ishr, i_ladd, i_lsub, i_land, i_lor, i_i2l, i_lushr, i_lshl, i_lshr, i_lcmp, i_dup, i_pop, i_dx1, i_dup2, i_ifeq, i_ifne, i_iflt, i_ifge, i_ifgt, i_ifle, i_iceq, i_icne, i_iclt, i_icge, i_icgt, i_icle, i_ifn, i_gf, i_pf, i_ial, i_bal, i_lal, i_aal, i_ias, i_las, i_bas, i_aas, i_alen, i_newa, i_new, i_anew, i_cast, i_oi, i_call, i_callV, i_callV2, i_callI, i_iret, i_zret, i_lret, i_vret, i_aret, i_mmx, i_mmn, i_gsE, i_aceq, i_no, i_acq, i_sw, zsw, zlg, zls, znl, zfg, zcs, zsp, zrc, zisn, zft, zc1, zto, Value.category, List.set_cons_zero, List.set_cons_succ, List.length_cons, List.length_nil, Option.toList, List.append, List.nil_append, List.cons_append, true_and, and_true, Nat.add_zero, Nat.zero_le, Nat.zero_add, Nat.le_refl, Nat.reduceAdd, Nat.reduceLeDiff, co0, z0, zn_0, zn_1, zn_2, zn_3, zn_4, zn_5, zn_8, zn_12, zn_24, zn_121, zn_144, zn_256, zn_300, zn_600, zn_720, zn_1204, zn_1280, zn_2400, zn_4816, zn_14400, zn_90000]
    rw [nI_1, nI_1]
    simp only [x_uw] at ih
    refine ⟨zk_Not_Not, fun h => ?_, fun h => ?_⟩
    · rw [if_neg (Int32.not_lt.mpr h)] at ih; exact ih
    · rw [if_pos (Int32.not_le.mp h)] at ih; exact ih) (by
    refine s_WR_underWay_4 hC hN _ _ _ _ _ ?_
    simp only [B_WR_underWay_0, B_WR_underWay_4, B_WR_underWay_35, B_WR_underWay_41, co_AL_get, co_AL_size, co_WR_underWay, i_ic, i_lc, i_nul, i_il, i_ll, i_al, i_is, i_as, i_ls, i_inc, i_iadd, i_isub, i_imul, i_iand, i_ior, i_ixor, i_idiv, i_irem, i_ishl, i_ishr, i_ladd, i_lsub, i_land, i_lor, i_i2l, i_lushr, i_lshl, i_lshr, i_lcmp, i_dup, i_pop, i_dx1, i_dup2, i_ifeq, i_ifne, i_iflt, i_ifge, i_ifgt, i_ifle, i_iceq, i_icne, i_iclt, i_icge, i_icgt, i_icle, i_ifn, i_gf, i_pf, i_ial, i_bal, i_lal, i_aal, i_ias, i_las, i_bas, i_aas, i_alen, i_newa, i_new, i_anew, i_cast, i_oi, i_call, i_callV, i_callV2, i_callI, i_iret, i_zret, i_lret, i_vret, i_aret, i_mmx, i_mmn, i_gsE, i_aceq, i_no, i_acq, i_sw, zsw, zlg, zls, znl, zfg, zcs, zsp, zrc, zisn, zft, zc1, zto, Value.category, List.set_cons_zero, List.set_cons_succ, List.length_cons, List.length_nil, Option.toList, List.append, List.nil_append, List.cons_append, true_and, and_true, Nat.add_zero, Nat.zero_le, Nat.zero_add, Nat.le_refl, Nat.reduceAdd, Nat.reduceLeDiff, co0, z0, zn_0, zn_1, zn_2, zn_3, zn_4, zn_5, zn_8, zn_12, zn_24, zn_121, zn_144, zn_256, zn_300, zn_600, zn_720, zn_1204, zn_1280, zn_2400, zn_4816, zn_14400, zn_90000, p_main, x_main, p_list (i := 2) (by decide)]
    refine ⟨(1, 2, 0), _, _, _, rfl, p_list (by decide), ?_⟩
    rw [hsz]
    exact ⟨fun _ => hR, fun h => absurd ((zK (K := x_nn x) (by omega) (n := x_nn x) (by omega)).2.1.mpr (Nat.le_refl _)) h⟩) 0 (Nat.zero_le _)
  refine s_WR_underWay_0 hC hN _ _ _ _ _ ?_
  simp only [B_WR_underWay_0, B_WR_underWay_4, B_WR_underWay_35, B_WR_underWay_41, co_AL_get, co_AL_size, co_WR_underWay, i_ic, i_lc, i_nul, i_il, i_ll, i_al, i_is, i_as, i_ls, i_inc, i_iadd, i_isub, i_imul, i_iand, i_ior, i_ixor, i_idiv, i_irem, i_ishl, i_ishr, i_ladd, i_lsub, i_land, i_lor, i_i2l, i_lushr, i_lshl, i_lshr, i_lcmp, i_dup, i_pop, i_dx1, i_dup2, i_ifeq, i_ifne, i_iflt, i_ifge, i_ifgt, i_ifle, i_iceq, i_icne, i_iclt, i_icge, i_icgt, i_icle, i_ifn, i_gf, i_pf, i_ial, i_bal, i_lal, i_aal, i_ias, i_las, i_bas, i_aas, i_alen, i_newa, i_new, i_anew, i_cast, i_oi, i_call, i_callV, i_callV2, i_callI, i_iret, i_zret, i_lret, i_vret, i_aret, i_mmx, i_mmn, i_gsE, i_aceq, i_no, i_acq, i_sw, zsw, zlg, zls, znl, zfg, zcs, zsp, zrc, zisn, zft, zc1, zto, Value.category, List.set_cons_zero, List.set_cons_succ, List.length_cons, List.length_nil, Option.toList, List.append, List.nil_append, List.cons_append, true_and, and_true, Nat.add_zero, Nat.zero_le, Nat.zero_add, Nat.le_refl, Nat.reduceAdd, Nat.reduceLeDiff, co0, z0, zn_0, zn_1, zn_2, zn_3, zn_4, zn_5, zn_8, zn_12, zn_24, zn_121, zn_144, zn_256, zn_300, zn_600, zn_720, zn_1204, zn_1280, zn_2400, zn_4816, zn_14400, zn_90000]
  exact loop
/-- messages in the first n places' lanes -/
def x_ml (x : zSt) : Nat → Nat
  | 0 => 0
  | n + 1 => x_ml x n + (match x_ln x n with | some l => x_lz x l | none => 0)
def T_WR_messagesInLanes (As : List zAV) (M : zMp) (Rt : Option zAV → zMp → Prop) : Prop := ∃ x, As = [.inr (0, 0, 0)] ∧ M = pic x ∧ Iv x ∧ Rt (some (.inl (.int (nI (x_ml x 144))))) M
abbrev co_WR_messagesInLanes := co0
theorem dX6_messagesInLanes_0 : decode cX6_messagesInLanes 0 = .ok (.iconst 0, 1) := by decide +kernel
theorem dX6_messagesInLanes_1 : decode cX6_messagesInLanes 1 = .ok (.istore_n 1, 1) := by decide +kernel
theorem dX6_messagesInLanes_2 : decode cX6_messagesInLanes 2 = .ok (.iconst 0, 1) := by decide +kernel
theorem dX6_messagesInLanes_3 : decode cX6_messagesInLanes 3 = .ok (.istore_n 2, 1) := by decide +kernel
theorem dX6_messagesInLanes_4 : decode cX6_messagesInLanes 4 = .ok (.iload_n 2, 1) := by decide +kernel
theorem dX6_messagesInLanes_5 : decode cX6_messagesInLanes 5 = .ok (.aload_n 0, 1) := by decide +kernel
theorem dX6_messagesInLanes_6 : decode cX6_messagesInLanes 6 = .ok (.getfield 28, 3) := by decide +kernel
theorem dX6_messagesInLanes_9 : decode cX6_messagesInLanes 9 = .ok (.arraylength, 1) := by decide +kernel
theorem dX6_messagesInLanes_10 : decode cX6_messagesInLanes 10 = .ok (.if_icmp .ge 30, 3) := by decide +kernel
theorem dX6_messagesInLanes_13 : decode cX6_messagesInLanes 13 = .ok (.aload_n 0, 1) := by decide +kernel
theorem dX6_messagesInLanes_14 : decode cX6_messagesInLanes 14 = .ok (.getfield 28, 3) := by decide +kernel
theorem dX6_messagesInLanes_17 : decode cX6_messagesInLanes 17 = .ok (.iload_n 2, 1) := by decide +kernel
theorem dX6_messagesInLanes_18 : decode cX6_messagesInLanes 18 = .ok (.aaload, 1) := by decide +kernel
theorem dX6_messagesInLanes_19 : decode cX6_messagesInLanes 19 = .ok (.ifnull 15, 3) := by decide +kernel
theorem dX6_messagesInLanes_22 : decode cX6_messagesInLanes 22 = .ok (.iload_n 1, 1) := by decide +kernel
theorem dX6_messagesInLanes_23 : decode cX6_messagesInLanes 23 = .ok (.aload_n 0, 1) := by decide +kernel
theorem dX6_messagesInLanes_24 : decode cX6_messagesInLanes 24 = .ok (.getfield 28, 3) := by decide +kernel
theorem dX6_messagesInLanes_27 : decode cX6_messagesInLanes 27 = .ok (.iload_n 2, 1) := by decide +kernel
theorem dX6_messagesInLanes_28 : decode cX6_messagesInLanes 28 = .ok (.aaload, 1) := by decide +kernel
theorem dX6_messagesInLanes_29 : decode cX6_messagesInLanes 29 = .ok (.getfield 165, 3) := by decide +kernel
theorem dX6_messagesInLanes_32 : decode cX6_messagesInLanes 32 = .ok (.iadd, 1) := by decide +kernel
theorem dX6_messagesInLanes_33 : decode cX6_messagesInLanes 33 = .ok (.istore_n 1, 1) := by decide +kernel
theorem dX6_messagesInLanes_34 : decode cX6_messagesInLanes 34 = .ok (.iinc 2 1, 3) := by decide +kernel
theorem dX6_messagesInLanes_37 : decode cX6_messagesInLanes 37 = .ok (.goto (-33), 3) := by decide +kernel
theorem dX6_messagesInLanes_40 : decode cX6_messagesInLanes 40 = .ok (.iload_n 1, 1) := by decide +kernel
theorem dX6_messagesInLanes_41 : decode cX6_messagesInLanes 41 = .ok (.ireturn, 1) := by decide +kernel
def B_WR_messagesInLanes_40 (mc ms : Nat) (Rt : Option zAV → zMp → Prop) (g : Nat → zKT) : zKT :=
  (i_il 1 (i_iret mc ms Rt))
set_option maxRecDepth 20000 in
theorem s_WR_messagesInLanes_40 {X : zMa} {mc ms : Nat} {Rt : Option zAV → zMp → Prop} (hC : zCx X RX6 cX6_messagesInLanes 0 0 mc ms (some .int) false Rt) (hN : zNL X = 3) : zLe (B_WR_messagesInLanes_40 mc ms Rt (zG X)) (zG X 40) :=
  (sd_il_n hC rfl dX6_messagesInLanes_40 ((sd_iret hC dX6_messagesInLanes_41)))
def B_WR_messagesInLanes_34 (mc ms : Nat) (Rt : Option zAV → zMp → Prop) (g : Nat → zKT) : zKT :=
  (i_inc 2 1 (g 4))
set_option maxRecDepth 20000 in
theorem s_WR_messagesInLanes_34 {X : zMa} {mc ms : Nat} {Rt : Option zAV → zMp → Prop} (hC : zCx X RX6 cX6_messagesInLanes 0 0 mc ms (some .int) false Rt) (hN : zNL X = 3) : zLe (B_WR_messagesInLanes_34 mc ms Rt (zG X)) (zG X 34) :=
  (sd_inc hC (by decide) (by rw [hN]; decide) dX6_messagesInLanes_34 ((sd_goto hC (tgt := 4) (by decide) dX6_messagesInLanes_37 (zLe_rfl))))
def B_WR_messagesInLanes_4 (mc ms : Nat) (Rt : Option zAV → zMp → Prop) (g : Nat → zKT) : zKT :=
  (i_il 2 (i_al 0 (i_gf 7 4 (i_alen (i_icge (B_WR_messagesInLanes_40 mc ms Rt g) (i_al 0 (i_gf 7 4 (i_il 2 (i_aal "WishRoutes$Lane" (i_ifn (B_WR_messagesInLanes_34 mc ms Rt g) (i_il 1 (i_al 0 (i_gf 7 4 (i_il 2 (i_aal "WishRoutes$Lane" (i_gf 2 2 (i_iadd (i_is 1 (B_WR_messagesInLanes_34 mc ms Rt g)))))))))))))))))))
set_option maxRecDepth 20000 in
theorem s_WR_messagesInLanes_4 {X : zMa} {mc ms : Nat} {Rt : Option zAV → zMp → Prop} (hC : zCx X RX6 cX6_messagesInLanes 0 0 mc ms (some .int) false Rt) (hN : zNL X = 3) : zLe (B_WR_messagesInLanes_4 mc ms Rt (zG X)) (zG X 4) :=
  (sd_il_n hC rfl dX6_messagesInLanes_4 ((sd_al_n hC rfl dX6_messagesInLanes_5 ((sd_gf hC (ci := 7) (fk := 4) rfl wi_WR (by decide) fl_WR_28 (Or.inl rfl) dX6_messagesInLanes_6 ((sd_alen hC dX6_messagesInLanes_9 ((sd_icge hC (tgt := 40) (by decide) dX6_messagesInLanes_10 (s_WR_messagesInLanes_40 hC hN) ((sd_al_n hC rfl dX6_messagesInLanes_13 ((sd_gf hC (ci := 7) (fk := 4) rfl wi_WR (by decide) fl_WR_28 (Or.inl rfl) dX6_messagesInLanes_14 ((sd_il_n hC rfl dX6_messagesInLanes_17 ((sd_aal hC dX6_messagesInLanes_18 ((sd_ifnull hC (tgt := 34) (by decide) dX6_messagesInLanes_19 (s_WR_messagesInLanes_34 hC hN) ((sd_il_n hC rfl dX6_messagesInLanes_22 ((sd_al_n hC rfl dX6_messagesInLanes_23 ((sd_gf hC (ci := 7) (fk := 4) rfl wi_WR (by decide) fl_WR_28 (Or.inl rfl) dX6_messagesInLanes_24 ((sd_il_n hC rfl dX6_messagesInLanes_27 ((sd_aal hC dX6_messagesInLanes_28 ((sd_gf hC (ci := 2) (fk := 2) rfl wi_Lane (by decide) fl_WR_165 (Or.inl rfl) dX6_messagesInLanes_29 ((sd_iadd hC dX6_messagesInLanes_32 ((sd_is_n hC rfl (by rw [hN]; decide) dX6_messagesInLanes_33 (s_WR_messagesInLanes_34 hC hN))))))))))))))))))))))))))))))))))))
def B_WR_messagesInLanes_0 (mc ms : Nat) (Rt : Option zAV → zMp → Prop) (g : Nat → zKT) : zKT :=
  (i_ic 0 (i_is 1 (i_ic 0 (i_is 2 (g 4)))))
set_option maxRecDepth 20000 in
theorem s_WR_messagesInLanes_0 {X : zMa} {mc ms : Nat} {Rt : Option zAV → zMp → Prop} (hC : zCx X RX6 cX6_messagesInLanes 0 0 mc ms (some .int) false Rt) (hN : zNL X = 3) : zLe (B_WR_messagesInLanes_0 mc ms Rt (zG X)) (zG X 0) :=
  (sd_iconst hC (by decide) dX6_messagesInLanes_0 ((sd_is_n hC rfl (by rw [hN]; decide) dX6_messagesInLanes_1 ((sd_iconst hC (by decide) dX6_messagesInLanes_2 ((sd_is_n hC rfl (by rw [hN]; decide) dX6_messagesInLanes_3 (zLe_rfl))))))))
theorem c_WR_messagesInLanes (l : Launch) : zCT l yX6_messagesInLanes cX6_messagesInLanes 3 (some .int) 0 0 T_WR_messagesInLanes co_WR_messagesInLanes := by
  intro As M Rt hT
  obtain ⟨x, rfl, rfl, hI, hR⟩ := hT
  refine zMet_of false (by decide +kernel) (fun h => by first | rfl | cases h) (Nat.le_of_ble_eq_true rfl) (fun X hN hC => ?_)
  show zG X 0 [some (.inr (0, 0, 0)), none, none] [] (pic x) 0 0
  have loop := upto (N := 144) (P := fun i => zG X 4 [some (.inr (0, 0, 0)), some (.inl (.int (nI (x_ml x i)))), some (.inl (.int (nI i)))] [] (pic x) 0 0) (fun i hi ih => by
    refine s_WR_messagesInLanes_4 hC hN _ _ _ _ _ ?_
    simp only [B_WR_messagesInLanes_0, B_WR_messagesInLanes_4, B_WR_messagesInLanes_34, B_WR_messagesInLanes_40, co_WR_messagesInLanes, i_ic, i_lc, i_nul, i_il, i_ll, i_al, i_is, i_as, i_ls, i_inc, i_iadd, i_isub, i_imul, i_iand, i_ior, i_ixor, i_idiv, i_irem, i_ishl, i_ishr, i_ladd, i_lsub, i_land, i_lor, i_i2l, i_lushr, i_lshl, i_lshr, i_lcmp, i_dup, i_pop, i_dx1, i_dup2, i_ifeq, i_ifne, i_iflt, i_ifge, i_ifgt, i_ifle, i_iceq, i_icne, i_iclt, i_icge, i_icgt, i_icle, i_ifn, i_gf, i_pf, i_ial, i_bal, i_lal, i_aal, i_ias, i_las, i_bas, i_aas, i_alen, i_newa, i_new, i_anew, i_cast, i_oi, i_call, i_callV, i_callV2, i_callI, i_iret, i_zret, i_lret, i_vret, i_aret, i_mmx, i_mmn, i_gsE, i_aceq, i_no, i_acq, i_sw, zsw, zlg, zls, znl, zfg, zcs, zsp, zrc, zisn, zft, zc1, zto, Value.category, List.set_cons_zero, List.set_cons_succ, List.length_cons, List.length_nil, Option.toList, List.append, List.nil_append, List.cons_append, true_and, and_true, Nat.add_zero, Nat.zero_le, Nat.zero_add, Nat.le_refl, Nat.reduceAdd, Nat.reduceLeDiff, co0, z0, zn_0, zn_1, zn_2, zn_3, zn_4, zn_5, zn_8, zn_12, zn_24, zn_121, zn_144, zn_256, zn_300, zn_600, zn_720, zn_1204, zn_1280, zn_2400, zn_4816, zn_14400, zn_90000, p_main, x_main, p_ln]
    have hin : vp_in (nI i) 144 := vp_in_nI hi (by decide)
    rw [nI_clamp (by omega)]
    refine ⟨fun h => absurd ((nI_leI (by decide) (by omega)).mp h) (by omega), fun _ => ⟨hin, ?_⟩⟩
    simp only [x_ml] at ih
    cases hl : x_ln x i with
    | none =>
      rw [hl] at ih
      simp only [Option.map_none, zov, i_ic, i_lc, i_nul, i_il, i_ll, i_al, i_is, i_as, i_ls, i_inc, i_iadd, i_isub, i_imul, i_iand, i_ior, i_ixor, i_idiv, i_irem, i_ishl, i_ishr, i_ladd, i_lsub, i_land, i_lor, i_i2l, i_lushr, i_lshl, i_lshr, i_lcmp, i_dup, i_pop, i_dx1, i_dup2, i_ifeq, i_ifne, i_iflt, i_ifge, i_ifgt, i_ifle, i_iceq, i_icne, i_iclt, i_icge, i_icgt, i_icle, i_ifn, i_gf, i_pf, i_ial, i_bal, i_lal, i_aal, i_ias, i_las, i_bas, i_aas, i_alen, i_newa, i_new, i_anew, i_cast, i_oi, i_call, i_callV, i_callV2, i_callI, i_iret, i_zret, i_lret, i_vret, i_aret, i_mmx, i_mmn, i_gsE, i_aceq, i_no, i_acq, i_sw, zsw, zlg, zls, znl, zfg, zcs, zsp, zrc, zisn, zft, zc1, zto, Value.category, List.set_cons_zero, List.set_cons_succ, List.length_cons, List.length_nil, Option.toList, List.append, List.nil_append, List.cons_append, true_and, and_true, Nat.add_zero, Nat.zero_le, Nat.zero_add, Nat.le_refl, Nat.reduceAdd, Nat.reduceLeDiff, co0, z0, zn_0, zn_1, zn_2, zn_3, zn_4, zn_5, zn_8, zn_12, zn_24, zn_121, zn_144, zn_256, zn_300, zn_600, zn_720, zn_1204, zn_1280, zn_2400, zn_4816, zn_14400, zn_90000]
      rw [nI_1]
      exact ih
    | some y =>
      rw [hl] at ih
      have hy := hI.ln _ _ hl
      simp only [Option.map_some, zov, p_main, x_main, p_ln, i_ic, i_lc, i_nul, i_il, i_ll, i_al, i_is, i_as, i_ls, i_inc, i_iadd, i_isub, i_imul, i_iand, i_ior, i_ixor, i_idiv, i_irem, i_ishl, i_ishr, i_ladd, i_lsub, i_land, i_lor, i_i2l, i_lushr, i_lshl, i_lshr, i_lcmp, i_dup, i_pop, i_dx1, i_dup2, i_ifeq, i_ifne, i_iflt, i_ifge, i_ifgt, i_ifle, i_iceq, i_icne, i_iclt, i_icge, i_icgt, i_icle, i_ifn, i_gf, i_pf, i_ial, i_bal, i_lal, i_aal, i_ias, i_las, i_bas, i_aas, i_alen, i_newa, i_new, i_anew, i_cast, i_oi, i_call, i_callV, i_callV2, i_callI, i_iret, i_zret, i_lret, i_vret, i_aret, i_mmx, i_mmn, i_gsE, i_aceq, i_no, i_acq, i_sw, zsw, zlg, zls, znl, zfg, zcs, zsp, zrc, zisn, zft, zc1, zto, Value.category, List.set_cons_zero, List.set_cons_succ, List.length_cons, List.length_nil, Option.toList, List.append, List.nil_append, List.cons_append, true_and, and_true, Nat.add_zero, Nat.zero_le, Nat.zero_add, Nat.le_refl, Nat.reduceAdd, Nat.reduceLeDiff, co0, z0, zn_0, zn_1, zn_2, zn_3, zn_4, zn_5, zn_8, zn_12, zn_24, zn_121, zn_144, zn_256, zn_300, zn_600, zn_720, zn_1204, zn_1280, zn_2400, zn_4816, zn_14400, zn_90000]
      simp only [p_lane hy, x_lane, i_ic, i_lc, i_nul, i_il, i_ll, i_al, i_is, i_as, i_ls, i_inc, i_iadd, i_isub, i_imul, i_iand, i_ior, i_ixor, i_idiv, i_irem, i_ishl, i_ishr, i_ladd, i_lsub, i_land, i_lor, i_i2l, i_lushr, i_lshl, i_lshr, i_lcmp, i_dup, i_pop, i_dx1, i_dup2, i_ifeq, i_ifne, i_iflt, i_ifge, i_ifgt, i_ifle, i_iceq, i_icne, i_iclt, i_icge, i_icgt, i_icle, i_ifn, i_gf, i_pf, i_ial, i_bal, i_lal, i_aal, i_ias, i_las, i_bas, i_aas, i_alen, i_newa, i_new, i_anew, i_cast, i_oi, i_call, i_callV, i_callV2, i_callI, i_iret, i_zret, i_lret, i_vret, i_aret, i_mmx, i_mmn, i_gsE, i_aceq, i_no, i_acq, i_sw, zsw, zlg, zls, znl, zfg, zcs, zsp, zrc, zisn, zft, zc1, zto, Value.category, List.set_cons_zero, List.set_cons_succ, List.length_cons, List.length_nil, Option.toList, List.append, List.nil_append, List.cons_append, true_and, and_true, Nat.add_zero, Nat.zero_le, Nat.zero_add, Nat.le_refl, Nat.reduceAdd, Nat.reduceLeDiff, co0, z0, zn_0, zn_1, zn_2, zn_3, zn_4, zn_5, zn_8, zn_12, zn_24, zn_121, zn_144, zn_256, zn_300, zn_600, zn_720, zn_1204, zn_1280, zn_2400, zn_4816, zn_14400, zn_90000]
      rw [nI_1, nI_add]
      exact ⟨hin, ih⟩) (by
    refine s_WR_messagesInLanes_4 hC hN _ _ _ _ _ ?_
    simp only [B_WR_messagesInLanes_0, B_WR_messagesInLanes_4, B_WR_messagesInLanes_34, B_WR_messagesInLanes_40, co_WR_messagesInLanes, i_ic, i_lc, i_nul, i_il, i_ll, i_al, i_is, i_as, i_ls, i_inc, i_iadd, i_isub, i_imul, i_iand, i_ior, i_ixor, i_idiv, i_irem, i_ishl, i_ishr, i_ladd, i_lsub, i_land, i_lor, i_i2l, i_lushr, i_lshl, i_lshr, i_lcmp, i_dup, i_pop, i_dx1, i_dup2, i_ifeq, i_ifne, i_iflt, i_ifge, i_ifgt, i_ifle, i_iceq, i_icne, i_iclt, i_icge, i_icgt, i_icle, i_ifn, i_gf, i_pf, i_ial, i_bal, i_lal, i_aal, i_ias, i_las, i_bas, i_aas, i_alen, i_newa, i_new, i_anew, i_cast, i_oi, i_call, i_callV, i_callV2, i_callI, i_iret, i_zret, i_lret, i_vret, i_aret, i_mmx, i_mmn, i_gsE, i_aceq, i_no, i_acq, i_sw, zsw, zlg, zls, znl, zfg, zcs, zsp, zrc, zisn, zft, zc1, zto, Value.category, List.set_cons_zero, List.set_cons_succ, List.length_cons, List.length_nil, Option.toList, List.append, List.nil_append, List.cons_append, true_and, and_true, Nat.add_zero, Nat.zero_le, Nat.zero_add, Nat.le_refl, Nat.reduceAdd, Nat.reduceLeDiff, co0, z0, zn_0, zn_1, zn_2, zn_3, zn_4, zn_5, zn_8, zn_12, zn_24, zn_121, zn_144, zn_256, zn_300, zn_600, zn_720, zn_1204, zn_1280, zn_2400, zn_4816, zn_14400, zn_90000, p_main, x_main, p_ln]
    exact ⟨fun _ => hR, fun h => absurd (nI_le (Nat.le_refl 144) (by decide)) h⟩) 0 (Nat.zero_le _)
  refine s_WR_messagesInLanes_0 hC hN _ _ _ _ _ ?_
  simp only [B_WR_messagesInLanes_0, B_WR_messagesInLanes_4, B_WR_messagesInLanes_34, B_WR_messagesInLanes_40, co_WR_messagesInLanes, i_ic, i_lc, i_nul, i_il, i_ll, i_al, i_is, i_as, i_ls, i_inc, i_iadd, i_isub, i_imul, i_iand, i_ior, i_ixor, i_idiv, i_irem, i_ishl, i_ishr, i_ladd, i_lsub, i_land, i_lor, i_i2l, i_lushr, i_lshl, i_lshr, i_lcmp, i_dup, i_pop, i_dx1, i_dup2, i_ifeq, i_ifne, i_iflt, i_ifge, i_ifgt, i_ifle, i_iceq, i_icne, i_iclt, i_icge, i_icgt, i_icle, i_ifn, i_gf, i_pf, i_ial, i_bal, i_lal, i_aal, i_ias, i_las, i_bas, i_aas, i_alen, i_newa, i_new, i_anew, i_cast, i_oi, i_call, i_callV, i_callV2, i_callI, i_iret, i_zret, i_lret, i_vret, i_aret, i_mmx, i_mmn, i_gsE, i_aceq, i_no, i_acq, i_sw, zsw, zlg, zls, znl, zfg, zcs, zsp, zrc, zisn, zft, zc1, zto, Value.category, List.set_cons_zero, List.set_cons_succ, List.length_cons, List.length_nil, Option.toList, List.append, List.nil_append, List.cons_append, true_and, and_true, Nat.add_zero, Nat.zero_le, Nat.zero_add, Nat.le_refl, Nat.reduceAdd, Nat.reduceLeDiff, co0, z0, zn_0, zn_1, zn_2, zn_3, zn_4, zn_5, zn_8, zn_12, zn_24, zn_121, zn_144, zn_256, zn_300, zn_600, zn_720, zn_1204, zn_1280, zn_2400, zn_4816, zn_14400, zn_90000]
  exact loop
/-- tells among them -/
def x_tl (x : zSt) : Nat → Nat
  | 0 => 0
  | n + 1 => x_tl x n + (match x_ln x n with | some l => la_tl x l (x_lz x l) | none => 0)
def T_WR_tellsInLanes (As : List zAV) (M : zMp) (Rt : Option zAV → zMp → Prop) : Prop := ∃ x, As = [.inr (0, 0, 0)] ∧ M = pic x ∧ Iv x ∧ Rt (some (.inl (.int (nI (x_tl x 144))))) M
abbrev co_WR_tellsInLanes := co0
theorem dX6_tellsInLanes_0 : decode cX6_tellsInLanes 0 = .ok (.iconst 0, 1) := by decide +kernel
theorem dX6_tellsInLanes_1 : decode cX6_tellsInLanes 1 = .ok (.istore_n 1, 1) := by decide +kernel
theorem dX6_tellsInLanes_2 : decode cX6_tellsInLanes 2 = .ok (.iconst 0, 1) := by decide +kernel
theorem dX6_tellsInLanes_3 : decode cX6_tellsInLanes 3 = .ok (.istore_n 2, 1) := by decide +kernel
theorem dX6_tellsInLanes_4 : decode cX6_tellsInLanes 4 = .ok (.iload_n 2, 1) := by decide +kernel
theorem dX6_tellsInLanes_5 : decode cX6_tellsInLanes 5 = .ok (.aload_n 0, 1) := by decide +kernel
theorem dX6_tellsInLanes_6 : decode cX6_tellsInLanes 6 = .ok (.getfield 28, 3) := by decide +kernel
theorem dX6_tellsInLanes_9 : decode cX6_tellsInLanes 9 = .ok (.arraylength, 1) := by decide +kernel
theorem dX6_tellsInLanes_10 : decode cX6_tellsInLanes 10 = .ok (.if_icmp .ge 30, 3) := by decide +kernel
theorem dX6_tellsInLanes_13 : decode cX6_tellsInLanes 13 = .ok (.aload_n 0, 1) := by decide +kernel
theorem dX6_tellsInLanes_14 : decode cX6_tellsInLanes 14 = .ok (.getfield 28, 3) := by decide +kernel
theorem dX6_tellsInLanes_17 : decode cX6_tellsInLanes 17 = .ok (.iload_n 2, 1) := by decide +kernel
theorem dX6_tellsInLanes_18 : decode cX6_tellsInLanes 18 = .ok (.aaload, 1) := by decide +kernel
theorem dX6_tellsInLanes_19 : decode cX6_tellsInLanes 19 = .ok (.ifnull 15, 3) := by decide +kernel
theorem dX6_tellsInLanes_22 : decode cX6_tellsInLanes 22 = .ok (.iload_n 1, 1) := by decide +kernel
theorem dX6_tellsInLanes_23 : decode cX6_tellsInLanes 23 = .ok (.aload_n 0, 1) := by decide +kernel
theorem dX6_tellsInLanes_24 : decode cX6_tellsInLanes 24 = .ok (.getfield 28, 3) := by decide +kernel
theorem dX6_tellsInLanes_27 : decode cX6_tellsInLanes 27 = .ok (.iload_n 2, 1) := by decide +kernel
theorem dX6_tellsInLanes_28 : decode cX6_tellsInLanes 28 = .ok (.aaload, 1) := by decide +kernel
theorem dX6_tellsInLanes_29 : decode cX6_tellsInLanes 29 = .ok (.invokevirtual 293, 3) := by decide +kernel
theorem dX6_tellsInLanes_32 : decode cX6_tellsInLanes 32 = .ok (.iadd, 1) := by decide +kernel
theorem dX6_tellsInLanes_33 : decode cX6_tellsInLanes 33 = .ok (.istore_n 1, 1) := by decide +kernel
theorem dX6_tellsInLanes_34 : decode cX6_tellsInLanes 34 = .ok (.iinc 2 1, 3) := by decide +kernel
theorem dX6_tellsInLanes_37 : decode cX6_tellsInLanes 37 = .ok (.goto (-33), 3) := by decide +kernel
theorem dX6_tellsInLanes_40 : decode cX6_tellsInLanes 40 = .ok (.iload_n 1, 1) := by decide +kernel
theorem dX6_tellsInLanes_41 : decode cX6_tellsInLanes 41 = .ok (.ireturn, 1) := by decide +kernel
def B_WR_tellsInLanes_40 (mc ms : Nat) (Rt : Option zAV → zMp → Prop) (g : Nat → zKT) : zKT :=
  (i_il 1 (i_iret mc ms Rt))
set_option maxRecDepth 20000 in
theorem s_WR_tellsInLanes_40 {X : zMa} {mc ms : Nat} {Rt : Option zAV → zMp → Prop} (hC : zCx X RX6 cX6_tellsInLanes 3 64 mc ms (some .int) false Rt) (hN : zNL X = 3) : zLe (B_WR_tellsInLanes_40 mc ms Rt (zG X)) (zG X 40) :=
  (sd_il_n hC rfl dX6_tellsInLanes_40 ((sd_iret hC dX6_tellsInLanes_41)))
def B_WR_tellsInLanes_34 (mc ms : Nat) (Rt : Option zAV → zMp → Prop) (g : Nat → zKT) : zKT :=
  (i_inc 2 1 (g 4))
set_option maxRecDepth 20000 in
theorem s_WR_tellsInLanes_34 {X : zMa} {mc ms : Nat} {Rt : Option zAV → zMp → Prop} (hC : zCx X RX6 cX6_tellsInLanes 3 64 mc ms (some .int) false Rt) (hN : zNL X = 3) : zLe (B_WR_tellsInLanes_34 mc ms Rt (zG X)) (zG X 34) :=
  (sd_inc hC (by decide) (by rw [hN]; decide) dX6_tellsInLanes_34 ((sd_goto hC (tgt := 4) (by decide) dX6_tellsInLanes_37 (zLe_rfl))))
def B_WR_tellsInLanes_4 (mc ms : Nat) (Rt : Option zAV → zMp → Prop) (g : Nat → zKT) : zKT :=
  (i_il 2 (i_al 0 (i_gf 7 4 (i_alen (i_icge (B_WR_tellsInLanes_40 mc ms Rt g) (i_al 0 (i_gf 7 4 (i_il 2 (i_aal "WishRoutes$Lane" (i_ifn (B_WR_tellsInLanes_34 mc ms Rt g) (i_il 1 (i_al 0 (i_gf 7 4 (i_il 2 (i_aal "WishRoutes$Lane" (i_callV mc ms 2 1 T_Lane_tells co_Lane_tells (i_iadd (i_is 1 (B_WR_tellsInLanes_34 mc ms Rt g)))))))))))))))))))
set_option maxRecDepth 20000 in
theorem s_WR_tellsInLanes_4 {X : zMa} {mc ms : Nat} {Rt : Option zAV → zMp → Prop} (hC : zCx X RX6 cX6_tellsInLanes 3 64 mc ms (some .int) false Rt) (hN : zNL X = 3) : zLe (B_WR_tellsInLanes_4 mc ms Rt (zG X)) (zG X 4) :=
  (sd_il_n hC rfl dX6_tellsInLanes_4 ((sd_al_n hC rfl dX6_tellsInLanes_5 ((sd_gf hC (ci := 7) (fk := 4) rfl wi_WR (by decide) fl_WR_28 (Or.inl rfl) dX6_tellsInLanes_6 ((sd_alen hC dX6_tellsInLanes_9 ((sd_icge hC (tgt := 40) (by decide) dX6_tellsInLanes_10 (s_WR_tellsInLanes_40 hC hN) ((sd_al_n hC rfl dX6_tellsInLanes_13 ((sd_gf hC (ci := 7) (fk := 4) rfl wi_WR (by decide) fl_WR_28 (Or.inl rfl) dX6_tellsInLanes_14 ((sd_il_n hC rfl dX6_tellsInLanes_17 ((sd_aal hC dX6_tellsInLanes_18 ((sd_ifnull hC (tgt := 34) (by decide) dX6_tellsInLanes_19 (s_WR_tellsInLanes_34 hC hN) ((sd_il_n hC rfl dX6_tellsInLanes_22 ((sd_al_n hC rfl dX6_tellsInLanes_23 ((sd_gf hC (ci := 7) (fk := 4) rfl wi_WR (by decide) fl_WR_28 (Or.inl rfl) dX6_tellsInLanes_24 ((sd_il_n hC rfl dX6_tellsInLanes_27 ((sd_aal hC dX6_tellsInLanes_28 ((sd_cV hC c_Lane_tells yv_Lane_tells (ci := 2) rfl rfl ml_WR_293 (by decide) (by decide) dX6_tellsInLanes_29 ((sd_iadd hC dX6_tellsInLanes_32 ((sd_is_n hC rfl (by rw [hN]; decide) dX6_tellsInLanes_33 (s_WR_tellsInLanes_34 hC hN))))))))))))))))))))))))))))))))))))
def B_WR_tellsInLanes_0 (mc ms : Nat) (Rt : Option zAV → zMp → Prop) (g : Nat → zKT) : zKT :=
  (i_ic 0 (i_is 1 (i_ic 0 (i_is 2 (g 4)))))
set_option maxRecDepth 20000 in
theorem s_WR_tellsInLanes_0 {X : zMa} {mc ms : Nat} {Rt : Option zAV → zMp → Prop} (hC : zCx X RX6 cX6_tellsInLanes 3 64 mc ms (some .int) false Rt) (hN : zNL X = 3) : zLe (B_WR_tellsInLanes_0 mc ms Rt (zG X)) (zG X 0) :=
  (sd_iconst hC (by decide) dX6_tellsInLanes_0 ((sd_is_n hC rfl (by rw [hN]; decide) dX6_tellsInLanes_1 ((sd_iconst hC (by decide) dX6_tellsInLanes_2 ((sd_is_n hC rfl (by rw [hN]; decide) dX6_tellsInLanes_3 (zLe_rfl))))))))
theorem c_WR_tellsInLanes (l : Launch) : zCT l yX6_tellsInLanes cX6_tellsInLanes 3 (some .int) 3 64 T_WR_tellsInLanes co_WR_tellsInLanes := by
  intro As M Rt hT
  obtain ⟨x, rfl, rfl, hI, hR⟩ := hT
  refine zMet_of false (by decide +kernel) (fun h => by first | rfl | cases h) (Nat.le_of_ble_eq_true rfl) (fun X hN hC => ?_)
  show zG X 0 [some (.inr (0, 0, 0)), none, none] [] (pic x) 0 0
  have loop := upto (N := 144) (P := fun i => zG X 4 [some (.inr (0, 0, 0)), some (.inl (.int (nI (x_tl x i)))), some (.inl (.int (nI i)))] [] (pic x) 0 0) (fun i hi ih => by
    refine s_WR_tellsInLanes_4 hC hN _ _ _ _ _ ?_
    simp only [B_WR_tellsInLanes_0, B_WR_tellsInLanes_4, B_WR_tellsInLanes_34, B_WR_tellsInLanes_40, co_Lane_tells, co_WR_tellsInLanes, i_ic, i_lc, i_nul, i_il, i_ll, i_al, i_is, i_as, i_ls, i_inc, i_iadd, i_isub, i_imul, i_iand, i_ior, i_ixor, i_idiv, i_irem, i_ishl, i_ishr, i_ladd, i_lsub, i_land, i_lor, i_i2l, i_lushr, i_lshl, i_lshr, i_lcmp, i_dup, i_pop, i_dx1, i_dup2, i_ifeq, i_ifne, i_iflt, i_ifge, i_ifgt, i_ifle, i_iceq, i_icne, i_iclt, i_icge, i_icgt, i_icle, i_ifn, i_gf, i_pf, i_ial, i_bal, i_lal, i_aal, i_ias, i_las, i_bas, i_aas, i_alen, i_newa, i_new, i_anew, i_cast, i_oi, i_call, i_callV, i_callV2, i_callI, i_iret, i_zret, i_lret, i_vret, i_aret, i_mmx, i_mmn, i_gsE, i_aceq, i_no, i_acq, i_sw, zsw, zlg, zls, znl, zfg, zcs, zsp, zrc, zisn, zft, zc1, zto, Value.category, List.set_cons_zero, List.set_cons_succ, List.length_cons, List.length_nil, Option.toList, List.append, List.nil_append, List.cons_append, true_and, and_true, Nat.add_zero, Nat.zero_le, Nat.zero_add, Nat.le_refl, Nat.reduceAdd, Nat.reduceLeDiff, co0, z0, zn_0, zn_1, zn_2, zn_3, zn_4, zn_5, zn_8, zn_12, zn_24, zn_121, zn_144, zn_256, zn_300, zn_600, zn_720, zn_1204, zn_1280, zn_2400, zn_4816, zn_14400, zn_90000, p_main, x_main, p_ln]
    have hin : vp_in (nI i) 144 := vp_in_nI hi (by decide)
    rw [nI_clamp (by omega)]
    refine ⟨fun h => absurd ((nI_leI (by decide) (by omega)).mp h) (by omega), fun _ => ⟨hin, ?_⟩⟩
    simp only [x_tl] at ih
    cases hl : x_ln x i with
    | none =>
      rw [hl] at ih
      simp only [Option.map_none, zov, i_ic, i_lc, i_nul, i_il, i_ll, i_al, i_is, i_as, i_ls, i_inc, i_iadd, i_isub, i_imul, i_iand, i_ior, i_ixor, i_idiv, i_irem, i_ishl, i_ishr, i_ladd, i_lsub, i_land, i_lor, i_i2l, i_lushr, i_lshl, i_lshr, i_lcmp, i_dup, i_pop, i_dx1, i_dup2, i_ifeq, i_ifne, i_iflt, i_ifge, i_ifgt, i_ifle, i_iceq, i_icne, i_iclt, i_icge, i_icgt, i_icle, i_ifn, i_gf, i_pf, i_ial, i_bal, i_lal, i_aal, i_ias, i_las, i_bas, i_aas, i_alen, i_newa, i_new, i_anew, i_cast, i_oi, i_call, i_callV, i_callV2, i_callI, i_iret, i_zret, i_lret, i_vret, i_aret, i_mmx, i_mmn, i_gsE, i_aceq, i_no, i_acq, i_sw, zsw, zlg, zls, znl, zfg, zcs, zsp, zrc, zisn, zft, zc1, zto, Value.category, List.set_cons_zero, List.set_cons_succ, List.length_cons, List.length_nil, Option.toList, List.append, List.nil_append, List.cons_append, true_and, and_true, Nat.add_zero, Nat.zero_le, Nat.zero_add, Nat.le_refl, Nat.reduceAdd, Nat.reduceLeDiff, co0, z0, zn_0, zn_1, zn_2, zn_3, zn_4, zn_5, zn_8, zn_12, zn_24, zn_121, zn_144, zn_256, zn_300, zn_600, zn_720, zn_1204, zn_1280, zn_2400, zn_4816, zn_14400, zn_90000]
      rw [nI_1]
      exact ih
    | some y =>
      rw [hl] at ih
      have hy := hI.ln _ _ hl
      simp only [Option.map_some, zov, p_main, x_main, p_ln, i_ic, i_lc, i_nul, i_il, i_ll, i_al, i_is, i_as, i_ls, i_inc, i_iadd, i_isub, i_imul, i_iand, i_ior, i_ixor, i_idiv, i_irem, i_ishl, i_ishr, i_ladd, i_lsub, i_land, i_lor, i_i2l, i_lushr, i_lshl, i_lshr, i_lcmp, i_dup, i_pop, i_dx1, i_dup2, i_ifeq, i_ifne, i_iflt, i_ifge, i_ifgt, i_ifle, i_iceq, i_icne, i_iclt, i_icge, i_icgt, i_icle, i_ifn, i_gf, i_pf, i_ial, i_bal, i_lal, i_aal, i_ias, i_las, i_bas, i_aas, i_alen, i_newa, i_new, i_anew, i_cast, i_oi, i_call, i_callV, i_callV2, i_callI, i_iret, i_zret, i_lret, i_vret, i_aret, i_mmx, i_mmn, i_gsE, i_aceq, i_no, i_acq, i_sw, zsw, zlg, zls, znl, zfg, zcs, zsp, zrc, zisn, zft, zc1, zto, Value.category, List.set_cons_zero, List.set_cons_succ, List.length_cons, List.length_nil, Option.toList, List.append, List.nil_append, List.cons_append, true_and, and_true, Nat.add_zero, Nat.zero_le, Nat.zero_add, Nat.le_refl, Nat.reduceAdd, Nat.reduceLeDiff, co0, z0, zn_0, zn_1, zn_2, zn_3, zn_4, zn_5, zn_8, zn_12, zn_24, zn_121, zn_144, zn_256, zn_300, zn_600, zn_720, zn_1204, zn_1280, zn_2400, zn_4816, zn_14400, zn_90000]
      simp only [p_lane hy, x_lane, i_ic, i_lc, i_nul, i_il, i_ll, i_al, i_is, i_as, i_ls, i_inc, i_iadd, i_isub, i_imul, i_iand, i_ior, i_ixor, i_idiv, i_irem, i_ishl, i_ishr, i_ladd, i_lsub, i_land, i_lor, i_i2l, i_lushr, i_lshl, i_lshr, i_lcmp, i_dup, i_pop, i_dx1, i_dup2, i_ifeq, i_ifne, i_iflt, i_ifge, i_ifgt, i_ifle, i_iceq, i_icne, i_iclt, i_icge, i_icgt, i_icle, i_ifn, i_gf, i_pf, i_ial, i_bal, i_lal, i_aal, i_ias, i_las, i_bas, i_aas, i_alen, i_newa, i_new, i_anew, i_cast, i_oi, i_call, i_callV, i_callV2, i_callI, i_iret, i_zret, i_lret, i_vret, i_aret, i_mmx, i_mmn, i_gsE, i_aceq, i_no, i_acq, i_sw, zsw, zlg, zls, znl, zfg, zcs, zsp, zrc, zisn, zft, zc1, zto, Value.category, List.set_cons_zero, List.set_cons_succ, List.length_cons, List.length_nil, Option.toList, List.append, List.nil_append, List.cons_append, true_and, and_true, Nat.add_zero, Nat.zero_le, Nat.zero_add, Nat.le_refl, Nat.reduceAdd, Nat.reduceLeDiff, co0, z0, zn_0, zn_1, zn_2, zn_3, zn_4, zn_5, zn_8, zn_12, zn_24, zn_121, zn_144, zn_256, zn_300, zn_600, zn_720, zn_1204, zn_1280, zn_2400, zn_4816, zn_14400, zn_90000]
      rw [nI_1]
      refine ⟨hin, x, y, rfl, rfl, ⟨hy, hI.lan y hy⟩, ?_⟩
      simp only [i_ic, i_lc, i_nul, i_il, i_ll, i_al, i_is, i_as, i_ls, i_inc, i_iadd, i_isub, i_imul, i_iand, i_ior, i_ixor, i_idiv, i_irem, i_ishl, i_ishr, i_ladd, i_lsub, i_land, i_lor, i_i2l, i_lushr, i_lshl, i_lshr, i_lcmp, i_dup, i_pop, i_dx1, i_dup2, i_ifeq, i_ifne, i_iflt, i_ifge, i_ifgt, i_ifle, i_iceq, i_icne, i_iclt, i_icge, i_icgt, i_icle, i_ifn, i_gf, i_pf, i_ial, i_bal, i_lal, i_aal, i_ias, i_las, i_bas, i_aas, i_alen, i_newa, i_new, i_anew, i_cast, i_oi, i_call, i_callV, i_callV2, i_callI, i_iret, i_zret, i_lret, i_vret, i_aret, i_mmx, i_mmn, i_gsE, i_aceq, i_no, i_acq, i_sw, zsw, zlg, zls, znl, zfg, zcs, zsp, zrc, zisn, zft, zc1, zto, Value.category, List.set_cons_zero, List.set_cons_succ, List.length_cons, List.length_nil, Option.toList, List.append, List.nil_append, List.cons_append, true_and, and_true, Nat.add_zero, Nat.zero_le, Nat.zero_add, Nat.le_refl, Nat.reduceAdd, Nat.reduceLeDiff, co0, z0, zn_0, zn_1, zn_2, zn_3, zn_4, zn_5, zn_8, zn_12, zn_24, zn_121, zn_144, zn_256, zn_300, zn_600, zn_720, zn_1204, zn_1280, zn_2400, zn_4816, zn_14400, zn_90000]
      rw [nI_add]
      exact ih) (by
    refine s_WR_tellsInLanes_4 hC hN _ _ _ _ _ ?_
    simp only [B_WR_tellsInLanes_0, B_WR_tellsInLanes_4, B_WR_tellsInLanes_34, B_WR_tellsInLanes_40, co_Lane_tells, co_WR_tellsInLanes, i_ic, i_lc, i_nul, i_il, i_ll, i_al, i_is, i_as, i_ls, i_inc, i_iadd, i_isub, i_imul, i_iand, i_ior, i_ixor, i_idiv, i_irem, i_ishl, i_ishr, i_ladd, i_lsub, i_land, i_lor, i_i2l, i_lushr, i_lshl, i_lshr, i_lcmp, i_dup, i_pop, i_dx1, i_dup2, i_ifeq, i_ifne, i_iflt, i_ifge, i_ifgt, i_ifle, i_iceq, i_icne, i_iclt, i_icge, i_icgt, i_icle, i_ifn, i_gf, i_pf, i_ial, i_bal, i_lal, i_aal, i_ias, i_las, i_bas, i_aas, i_alen, i_newa, i_new, i_anew, i_cast, i_oi, i_call, i_callV, i_callV2, i_callI, i_iret, i_zret, i_lret, i_vret, i_aret, i_mmx, i_mmn, i_gsE, i_aceq, i_no, i_acq, i_sw, zsw, zlg, zls, znl, zfg, zcs, zsp, zrc, zisn, zft, zc1, zto, Value.category, List.set_cons_zero, List.set_cons_succ, List.length_cons, List.length_nil, Option.toList, List.append, List.nil_append, List.cons_append, true_and, and_true, Nat.add_zero, Nat.zero_le, Nat.zero_add, Nat.le_refl, Nat.reduceAdd, Nat.reduceLeDiff, co0, z0, zn_0, zn_1, zn_2, zn_3, zn_4, zn_5, zn_8, zn_12, zn_24, zn_121, zn_144, zn_256, zn_300, zn_600, zn_720, zn_1204, zn_1280, zn_2400, zn_4816, zn_14400, zn_90000, p_main, x_main, p_ln]
    exact ⟨fun _ => hR, fun h => absurd (nI_le (Nat.le_refl 144) (by decide)) h⟩) 0 (Nat.zero_le _)
  refine s_WR_tellsInLanes_0 hC hN _ _ _ _ _ ?_
  simp only [B_WR_tellsInLanes_0, B_WR_tellsInLanes_4, B_WR_tellsInLanes_34, B_WR_tellsInLanes_40, co_Lane_tells, co_WR_tellsInLanes, i_ic, i_lc, i_nul, i_il, i_ll, i_al, i_is, i_as, i_ls, i_inc, i_iadd, i_isub, i_imul, i_iand, i_ior, i_ixor, i_idiv, i_irem, i_ishl, i_ishr, i_ladd, i_lsub, i_land, i_lor, i_i2l, i_lushr, i_lshl, i_lshr, i_lcmp, i_dup, i_pop, i_dx1, i_dup2, i_ifeq, i_ifne, i_iflt, i_ifge, i_ifgt, i_ifle, i_iceq, i_icne, i_iclt, i_icge, i_icgt, i_icle, i_ifn, i_gf, i_pf, i_ial, i_bal, i_lal, i_aal, i_ias, i_las, i_bas, i_aas, i_alen, i_newa, i_new, i_anew, i_cast, i_oi, i_call, i_callV, i_callV2, i_callI, i_iret, i_zret, i_lret, i_vret, i_aret, i_mmx, i_mmn, i_gsE, i_aceq, i_no, i_acq, i_sw, zsw, zlg, zls, znl, zfg, zcs, zsp, zrc, zisn, zft, zc1, zto, Value.category, List.set_cons_zero, List.set_cons_succ, List.length_cons, List.length_nil, Option.toList, List.append, List.nil_append, List.cons_append, true_and, and_true, Nat.add_zero, Nat.zero_le, Nat.zero_add, Nat.le_refl, Nat.reduceAdd, Nat.reduceLeDiff, co0, z0, zn_0, zn_1, zn_2, zn_3, zn_4, zn_5, zn_8, zn_12, zn_24, zn_121, zn_144, zn_256, zn_300, zn_600, zn_720, zn_1204, zn_1280, zn_2400, zn_4816, zn_14400, zn_90000]
  exact loop
/-- is there a message at this place? -/
def x_busy (x : zSt) (p : Nat) : Prop := ∃ l, x_ln x p = some l ∧ 0 < x_lz x l
def T_WR_firstBusyPlace (As : List zAV) (M : zMp) (Rt : Option zAV → zMp → Prop) : Prop := ∃ x, As = [.inr (0, 0, 0)] ∧ M = pic x ∧ Iv x ∧ ((∀ p, p < 144 → ¬ x_busy x p) → Rt (some (.inl (.int (-1)))) M) ∧ (∀ p, p < 144 → x_busy x p → (∀ q, q < p → ¬ x_busy x q) → Rt (some (.inl (.int (nI p)))) M)
abbrev co_WR_firstBusyPlace := co0
theorem dX6_firstBusyPlace_0 : decode cX6_firstBusyPlace 0 = .ok (.iconst 0, 1) := by decide +kernel
theorem dX6_firstBusyPlace_1 : decode cX6_firstBusyPlace 1 = .ok (.istore_n 1, 1) := by decide +kernel
theorem dX6_firstBusyPlace_2 : decode cX6_firstBusyPlace 2 = .ok (.iload_n 1, 1) := by decide +kernel
theorem dX6_firstBusyPlace_3 : decode cX6_firstBusyPlace 3 = .ok (.aload_n 0, 1) := by decide +kernel
theorem dX6_firstBusyPlace_4 : decode cX6_firstBusyPlace 4 = .ok (.getfield 28, 3) := by decide +kernel
theorem dX6_firstBusyPlace_7 : decode cX6_firstBusyPlace 7 = .ok (.arraylength, 1) := by decide +kernel
theorem dX6_firstBusyPlace_8 : decode cX6_firstBusyPlace 8 = .ok (.if_icmp .ge 32, 3) := by decide +kernel
theorem dX6_firstBusyPlace_11 : decode cX6_firstBusyPlace 11 = .ok (.aload_n 0, 1) := by decide +kernel
theorem dX6_firstBusyPlace_12 : decode cX6_firstBusyPlace 12 = .ok (.getfield 28, 3) := by decide +kernel
theorem dX6_firstBusyPlace_15 : decode cX6_firstBusyPlace 15 = .ok (.iload_n 1, 1) := by decide +kernel
theorem dX6_firstBusyPlace_16 : decode cX6_firstBusyPlace 16 = .ok (.aaload, 1) := by decide +kernel
theorem dX6_firstBusyPlace_17 : decode cX6_firstBusyPlace 17 = .ok (.ifnull 17, 3) := by decide +kernel
theorem dX6_firstBusyPlace_20 : decode cX6_firstBusyPlace 20 = .ok (.aload_n 0, 1) := by decide +kernel
theorem dX6_firstBusyPlace_21 : decode cX6_firstBusyPlace 21 = .ok (.getfield 28, 3) := by decide +kernel
theorem dX6_firstBusyPlace_24 : decode cX6_firstBusyPlace 24 = .ok (.iload_n 1, 1) := by decide +kernel
theorem dX6_firstBusyPlace_25 : decode cX6_firstBusyPlace 25 = .ok (.aaload, 1) := by decide +kernel
theorem dX6_firstBusyPlace_26 : decode cX6_firstBusyPlace 26 = .ok (.getfield 165, 3) := by decide +kernel
theorem dX6_firstBusyPlace_29 : decode cX6_firstBusyPlace 29 = .ok (.ifCond .le 5, 3) := by decide +kernel
theorem dX6_firstBusyPlace_32 : decode cX6_firstBusyPlace 32 = .ok (.iload_n 1, 1) := by decide +kernel
theorem dX6_firstBusyPlace_33 : decode cX6_firstBusyPlace 33 = .ok (.ireturn, 1) := by decide +kernel
theorem dX6_firstBusyPlace_34 : decode cX6_firstBusyPlace 34 = .ok (.iinc 1 1, 3) := by decide +kernel
theorem dX6_firstBusyPlace_37 : decode cX6_firstBusyPlace 37 = .ok (.goto (-35), 3) := by decide +kernel
theorem dX6_firstBusyPlace_40 : decode cX6_firstBusyPlace 40 = .ok (.iconst (-1), 1) := by decide +kernel
theorem dX6_firstBusyPlace_41 : decode cX6_firstBusyPlace 41 = .ok (.ireturn, 1) := by decide +kernel
def B_WR_firstBusyPlace_40 (mc ms : Nat) (Rt : Option zAV → zMp → Prop) (g : Nat → zKT) : zKT :=
  (i_ic (-1) (i_iret mc ms Rt))
set_option maxRecDepth 20000 in
theorem s_WR_firstBusyPlace_40 {X : zMa} {mc ms : Nat} {Rt : Option zAV → zMp → Prop} (hC : zCx X RX6 cX6_firstBusyPlace 0 0 mc ms (some .int) false Rt) (hN : zNL X = 2) : zLe (B_WR_firstBusyPlace_40 mc ms Rt (zG X)) (zG X 40) :=
  (sd_iconst hC (by decide) dX6_firstBusyPlace_40 ((sd_iret hC dX6_firstBusyPlace_41)))
def B_WR_firstBusyPlace_34 (mc ms : Nat) (Rt : Option zAV → zMp → Prop) (g : Nat → zKT) : zKT :=
  (i_inc 1 1 (g 2))
set_option maxRecDepth 20000 in
theorem s_WR_firstBusyPlace_34 {X : zMa} {mc ms : Nat} {Rt : Option zAV → zMp → Prop} (hC : zCx X RX6 cX6_firstBusyPlace 0 0 mc ms (some .int) false Rt) (hN : zNL X = 2) : zLe (B_WR_firstBusyPlace_34 mc ms Rt (zG X)) (zG X 34) :=
  (sd_inc hC (by decide) (by rw [hN]; decide) dX6_firstBusyPlace_34 ((sd_goto hC (tgt := 2) (by decide) dX6_firstBusyPlace_37 (zLe_rfl))))
def B_WR_firstBusyPlace_2 (mc ms : Nat) (Rt : Option zAV → zMp → Prop) (g : Nat → zKT) : zKT :=
  (i_il 1 (i_al 0 (i_gf 7 4 (i_alen (i_icge (B_WR_firstBusyPlace_40 mc ms Rt g) (i_al 0 (i_gf 7 4 (i_il 1 (i_aal "WishRoutes$Lane" (i_ifn (B_WR_firstBusyPlace_34 mc ms Rt g) (i_al 0 (i_gf 7 4 (i_il 1 (i_aal "WishRoutes$Lane" (i_gf 2 2 (i_ifle (B_WR_firstBusyPlace_34 mc ms Rt g) (i_il 1 (i_iret mc ms Rt))))))))))))))))))
set_option maxRecDepth 20000 in
theorem s_WR_firstBusyPlace_2 {X : zMa} {mc ms : Nat} {Rt : Option zAV → zMp → Prop} (hC : zCx X RX6 cX6_firstBusyPlace 0 0 mc ms (some .int) false Rt) (hN : zNL X = 2) : zLe (B_WR_firstBusyPlace_2 mc ms Rt (zG X)) (zG X 2) :=
  (sd_il_n hC rfl dX6_firstBusyPlace_2 ((sd_al_n hC rfl dX6_firstBusyPlace_3 ((sd_gf hC (ci := 7) (fk := 4) rfl wi_WR (by decide) fl_WR_28 (Or.inl rfl) dX6_firstBusyPlace_4 ((sd_alen hC dX6_firstBusyPlace_7 ((sd_icge hC (tgt := 40) (by decide) dX6_firstBusyPlace_8 (s_WR_firstBusyPlace_40 hC hN) ((sd_al_n hC rfl dX6_firstBusyPlace_11 ((sd_gf hC (ci := 7) (fk := 4) rfl wi_WR (by decide) fl_WR_28 (Or.inl rfl) dX6_firstBusyPlace_12 ((sd_il_n hC rfl dX6_firstBusyPlace_15 ((sd_aal hC dX6_firstBusyPlace_16 ((sd_ifnull hC (tgt := 34) (by decide) dX6_firstBusyPlace_17 (s_WR_firstBusyPlace_34 hC hN) ((sd_al_n hC rfl dX6_firstBusyPlace_20 ((sd_gf hC (ci := 7) (fk := 4) rfl wi_WR (by decide) fl_WR_28 (Or.inl rfl) dX6_firstBusyPlace_21 ((sd_il_n hC rfl dX6_firstBusyPlace_24 ((sd_aal hC dX6_firstBusyPlace_25 ((sd_gf hC (ci := 2) (fk := 2) rfl wi_Lane (by decide) fl_WR_165 (Or.inl rfl) dX6_firstBusyPlace_26 ((sd_ifle hC (tgt := 34) (by decide) dX6_firstBusyPlace_29 (s_WR_firstBusyPlace_34 hC hN) ((sd_il_n hC rfl dX6_firstBusyPlace_32 ((sd_iret hC dX6_firstBusyPlace_33)))))))))))))))))))))))))))))))))))
def B_WR_firstBusyPlace_0 (mc ms : Nat) (Rt : Option zAV → zMp → Prop) (g : Nat → zKT) : zKT :=
  (i_ic 0 (i_is 1 (g 2)))
set_option maxRecDepth 20000 in
theorem s_WR_firstBusyPlace_0 {X : zMa} {mc ms : Nat} {Rt : Option zAV → zMp → Prop} (hC : zCx X RX6 cX6_firstBusyPlace 0 0 mc ms (some .int) false Rt) (hN : zNL X = 2) : zLe (B_WR_firstBusyPlace_0 mc ms Rt (zG X)) (zG X 0) :=
  (sd_iconst hC (by decide) dX6_firstBusyPlace_0 ((sd_is_n hC rfl (by rw [hN]; decide) dX6_firstBusyPlace_1 (zLe_rfl))))
theorem c_WR_firstBusyPlace (l : Launch) : zCT l yX6_firstBusyPlace cX6_firstBusyPlace 2 (some .int) 0 0 T_WR_firstBusyPlace co_WR_firstBusyPlace := by
  intro As M Rt hT
  obtain ⟨x, rfl, rfl, hI, hR0, hR1⟩ := hT
  refine zMet_of false (by decide +kernel) (fun h => by first | rfl | cases h) (Nat.le_of_ble_eq_true rfl) (fun X hN hC => ?_)
  show zG X 0 [some (.inr (0, 0, 0)), none] [] (pic x) 0 0
  have loop := upto (N := 144) (P := fun i => (∀ q, q < i → ¬ x_busy x q) → zG X 2 [some (.inr (0, 0, 0)), some (.inl (.int (nI i)))] [] (pic x) 0 0) (fun i hi ih hp => by
    refine s_WR_firstBusyPlace_2 hC hN _ _ _ _ _ ?_
    simp only [B_WR_firstBusyPlace_0, B_WR_firstBusyPlace_2, B_WR_firstBusyPlace_34, B_WR_firstBusyPlace_40, co_WR_firstBusyPlace, i_ic, i_lc, i_nul, i_il, i_ll, i_al, i_is, i_as, i_ls, i_inc, i_iadd, i_isub, i_imul, i_iand, i_ior, i_ixor, i_idiv, i_irem, i_ishl, i_ishr, i_ladd, i_lsub, i_land, i_lor, i_i2l, i_lushr, i_lshl, i_lshr, i_lcmp, i_dup, i_pop, i_dx1, i_dup2, i_ifeq, i_ifne, i_iflt, i_ifge, i_ifgt, i_ifle, i_iceq, i_icne, i_iclt, i_icge, i_icgt, i_icle, i_ifn, i_gf, i_pf, i_ial, i_bal, i_lal, i_aal, i_ias, i_las, i_bas, i_aas, i_alen, i_newa, i_new, i_anew, i_cast, i_oi, i_call, i_callV, i_callV2, i_callI, i_iret, i_zret, i_lret, i_vret, i_aret, i_mmx, i_mmn, i_gsE, i_aceq, i_no, i_acq, i_sw, zsw, zlg, zls, znl, zfg, zcs, zsp, zrc, zisn, zft, zc1, zto, Value.category, List.set_cons_zero, List.set_cons_succ, List.length_cons, List.length_nil, Option.toList, List.append, List.nil_append, List.cons_append, true_and, and_true, Nat.add_zero, Nat.zero_le, Nat.zero_add, Nat.le_refl, Nat.reduceAdd, Nat.reduceLeDiff, co0, z0, zn_0, zn_1, zn_2, zn_3, zn_4, zn_5, zn_8, zn_12, zn_24, zn_121, zn_144, zn_256, zn_300, zn_600, zn_720, zn_1204, zn_1280, zn_2400, zn_4816, zn_14400, zn_90000, p_main, x_main, p_ln]
    have hin : vp_in (nI i) 144 := vp_in_nI hi (by decide)
    rw [nI_clamp (by omega)]
    refine ⟨fun h => absurd ((nI_leI (by decide) (by omega)).mp h) (by omega), fun _ => ⟨hin, ?_⟩⟩
    cases hl : x_ln x i with
    | none =>
      simp only [Option.map_none, zov, i_ic, i_lc, i_nul, i_il, i_ll, i_al, i_is, i_as, i_ls, i_inc, i_iadd, i_isub, i_imul, i_iand, i_ior, i_ixor, i_idiv, i_irem, i_ishl, i_ishr, i_ladd, i_lsub, i_land, i_lor, i_i2l, i_lushr, i_lshl, i_lshr, i_lcmp, i_dup, i_pop, i_dx1, i_dup2, i_ifeq, i_ifne, i_iflt, i_ifge, i_ifgt, i_ifle, i_iceq, i_icne, i_iclt, i_icge, i_icgt, i_icle, i_ifn, i_gf, i_pf, i_ial, i_bal, i_lal, i_aal, i_ias, i_las, i_bas, i_aas, i_alen, i_newa, i_new, i_anew, i_cast, i_oi, i_call, i_callV, i_callV2, i_callI, i_iret, i_zret, i_lret, i_vret, i_aret, i_mmx, i_mmn, i_gsE, i_aceq, i_no, i_acq, i_sw, zsw, zlg, zls, znl, zfg, zcs, zsp, zrc, zisn, zft, zc1, zto, Value.category, List.set_cons_zero, List.set_cons_succ, List.length_cons, List.length_nil, Option.toList, List.append, List.nil_append, List.cons_append, true_and, and_true, Nat.add_zero, Nat.zero_le, Nat.zero_add, Nat.le_refl, Nat.reduceAdd, Nat.reduceLeDiff, co0, z0, zn_0, zn_1, zn_2, zn_3, zn_4, zn_5, zn_8, zn_12, zn_24, zn_121, zn_144, zn_256, zn_300, zn_600, zn_720, zn_1204, zn_1280, zn_2400, zn_4816, zn_14400, zn_90000]
      rw [nI_1]
      exact ih (lt_s hp (fun ⟨l, h, _⟩ => by rw [hl] at h; cases h))
    | some y =>
      have hy := hI.ln _ _ hl
      have hok := hI.lan y hy
      simp only [Option.map_some, zov, p_main, x_main, p_ln, i_ic, i_lc, i_nul, i_il, i_ll, i_al, i_is, i_as, i_ls, i_inc, i_iadd, i_isub, i_imul, i_iand, i_ior, i_ixor, i_idiv, i_irem, i_ishl, i_ishr, i_ladd, i_lsub, i_land, i_lor, i_i2l, i_lushr, i_lshl, i_lshr, i_lcmp, i_dup, i_pop, i_dx1, i_dup2, i_ifeq, i_ifne, i_iflt, i_ifge, i_ifgt, i_ifle, i_iceq, i_icne, i_iclt, i_icge, i_icgt, i_icle, i_ifn, i_gf, i_pf, i_ial, i_bal, i_lal, i_aal, i_ias, i_las, i_bas, i_aas, i_alen, i_newa, i_new, i_anew, i_cast, i_oi, i_call, i_callV, i_callV2, i_callI, i_iret, i_zret, i_lret, i_vret, i_aret, i_mmx, i_mmn, i_gsE, i_aceq, i_no, i_acq, i_sw, zsw, zlg, zls, znl, zfg, zcs, zsp, zrc, zisn, zft, zc1, zto, Value.category, List.set_cons_zero, List.set_cons_succ, List.length_cons, List.length_nil, Option.toList, List.append, List.nil_append, List.cons_append, true_and, and_true, Nat.add_zero, Nat.zero_le, Nat.zero_add, Nat.le_refl, Nat.reduceAdd, Nat.reduceLeDiff, co0, z0, zn_0, zn_1, zn_2, zn_3, zn_4, zn_5, zn_8, zn_12, zn_24, zn_121, zn_144, zn_256, zn_300, zn_600, zn_720, zn_1204, zn_1280, zn_2400, zn_4816, zn_14400, zn_90000]
      simp only [p_lane hy, x_lane, i_ic, i_lc, i_nul, i_il, i_ll, i_al, i_is, i_as, i_ls, i_inc, i_iadd, i_isub, i_imul, i_iand, i_ior, i_ixor, i_idiv, i_irem, i_ishl, i_ishr, i_ladd, i_lsub, i_land, i_lor, i_i2l, i_lushr, i_lshl, i_lshr, i_lcmp, i_dup, i_pop, i_dx1, i_dup2, i_ifeq, i_ifne, i_iflt, i_ifge, i_ifgt, i_ifle, i_iceq, i_icne, i_iclt, i_icge, i_icgt, i_icle, i_ifn, i_gf, i_pf, i_ial, i_bal, i_lal, i_aal, i_ias, i_las, i_bas, i_aas, i_alen, i_newa, i_new, i_anew, i_cast, i_oi, i_call, i_callV, i_callV2, i_callI, i_iret, i_zret, i_lret, i_vret, i_aret, i_mmx, i_mmn, i_gsE, i_aceq, i_no, i_acq, i_sw, zsw, zlg, zls, znl, zfg, zcs, zsp, zrc, zisn, zft, zc1, zto, Value.category, List.set_cons_zero, List.set_cons_succ, List.length_cons, List.length_nil, Option.toList, List.append, List.nil_append, List.cons_append, true_and, and_true, Nat.add_zero, Nat.zero_le, Nat.zero_add, Nat.le_refl, Nat.reduceAdd, Nat.reduceLeDiff, co0, z0, zn_0, zn_1, zn_2, zn_3, zn_4, zn_5, zn_8, zn_12, zn_24, zn_121, zn_144, zn_256, zn_300, zn_600, zn_720, zn_1204, zn_1280, zn_2400, zn_4816, zn_14400, zn_90000]
      rw [nI_1]
      refine ⟨hin, fun h => ih (lt_s hp (fun ⟨l, h2, h3⟩ => ?_)), fun h => hR1 i hi ⟨y, hl, ?_⟩ hp⟩
      · rw [hl] at h2
        cases h2
        exact absurd h (nI_nle h3 (by omega))
      · rcases Nat.eq_zero_or_pos (x_lz x y) with h0 | h0
        · rw [h0] at h; exact absurd (by decide) h
        · exact h0) (fun hp => by
    refine s_WR_firstBusyPlace_2 hC hN _ _ _ _ _ ?_
    simp only [B_WR_firstBusyPlace_0, B_WR_firstBusyPlace_2, B_WR_firstBusyPlace_34, B_WR_firstBusyPlace_40, co_WR_firstBusyPlace, i_ic, i_lc, i_nul, i_il, i_ll, i_al, i_is, i_as, i_ls, i_inc, i_iadd, i_isub, i_imul, i_iand, i_ior, i_ixor, i_idiv, i_irem, i_ishl, i_ishr, i_ladd, i_lsub, i_land, i_lor, i_i2l, i_lushr, i_lshl, i_lshr, i_lcmp, i_dup, i_pop, i_dx1, i_dup2, i_ifeq, i_ifne, i_iflt, i_ifge, i_ifgt, i_ifle, i_iceq, i_icne, i_iclt, i_icge, i_icgt, i_icle, i_ifn, i_gf, i_pf, i_ial, i_bal, i_lal, i_aal, i_ias, i_las, i_bas, i_aas, i_alen, i_newa, i_new, i_anew, i_cast, i_oi, i_call, i_callV, i_callV2, i_callI, i_iret, i_zret, i_lret, i_vret, i_aret, i_mmx, i_mmn, i_gsE, i_aceq, i_no, i_acq, i_sw, zsw, zlg, zls, znl, zfg, zcs, zsp, zrc, zisn, zft, zc1, zto, Value.category, List.set_cons_zero, List.set_cons_succ, List.length_cons, List.length_nil, Option.toList, List.append, List.nil_append, List.cons_append, true_and, and_true, Nat.add_zero, Nat.zero_le, Nat.zero_add, Nat.le_refl, Nat.reduceAdd, Nat.reduceLeDiff, co0, z0, zn_0, zn_1, zn_2, zn_3, zn_4, zn_5, zn_8, zn_12, zn_24, zn_121, zn_144, zn_256, zn_300, zn_600, zn_720, zn_1204, zn_1280, zn_2400, zn_4816, zn_14400, zn_90000, p_main, x_main, p_ln]
    exact ⟨fun _ => hR0 hp, fun h => absurd (nI_le (Nat.le_refl 144) (by decide)) h⟩) 0 (Nat.zero_le _)
  refine s_WR_firstBusyPlace_0 hC hN _ _ _ _ _ ?_
  simp only [B_WR_firstBusyPlace_0, B_WR_firstBusyPlace_2, B_WR_firstBusyPlace_34, B_WR_firstBusyPlace_40, co_WR_firstBusyPlace, i_ic, i_lc, i_nul, i_il, i_ll, i_al, i_is, i_as, i_ls, i_inc, i_iadd, i_isub, i_imul, i_iand, i_ior, i_ixor, i_idiv, i_irem, i_ishl, i_ishr, i_ladd, i_lsub, i_land, i_lor, i_i2l, i_lushr, i_lshl, i_lshr, i_lcmp, i_dup, i_pop, i_dx1, i_dup2, i_ifeq, i_ifne, i_iflt, i_ifge, i_ifgt, i_ifle, i_iceq, i_icne, i_iclt, i_icge, i_icgt, i_icle, i_ifn, i_gf, i_pf, i_ial, i_bal, i_lal, i_aal, i_ias, i_las, i_bas, i_aas, i_alen, i_newa, i_new, i_anew, i_cast, i_oi, i_call, i_callV, i_callV2, i_callI, i_iret, i_zret, i_lret, i_vret, i_aret, i_mmx, i_mmn, i_gsE, i_aceq, i_no, i_acq, i_sw, zsw, zlg, zls, znl, zfg, zcs, zsp, zrc, zisn, zft, zc1, zto, Value.category, List.set_cons_zero, List.set_cons_succ, List.length_cons, List.length_nil, Option.toList, List.append, List.nil_append, List.cons_append, true_and, and_true, Nat.add_zero, Nat.zero_le, Nat.zero_add, Nat.le_refl, Nat.reduceAdd, Nat.reduceLeDiff, co0, z0, zn_0, zn_1, zn_2, zn_3, zn_4, zn_5, zn_8, zn_12, zn_24, zn_121, zn_144, zn_256, zn_300, zn_600, zn_720, zn_1204, zn_1280, zn_2400, zn_4816, zn_14400, zn_90000]
  exact loop (fun j hj => absurd hj (Nat.not_lt_zero j))
/-- count(what) -/
noncomputable def x_cnt (x : zSt) (w : Int32) : Int32 := if w = 0 then nI (x_dk x) else if w = 1 then nI (x_nr x) else if w = 2 then nI (x_nw x) else if w = 3 then nI (x_nn x) else if w = 4 then nI (x_uw x (x_nn x)) else if w = 5 then nI (x_ml x 144) else if w = 6 then nI (x_tl x 144) else if w = 7 then x_po x else if w = 8 then x_ne x else if w = 9 then x_td x else if w = 10 then x_lk x else -1
def T_WR_count (As : List zAV) (M : zMp) (Rt : Option zAV → zMp → Prop) : Prop := ∃ x w, As = [.inr (0, 0, 0), .inl (.int w)] ∧ M = pic x ∧ Iv x ∧ Rt (some (.inl (.int (x_cnt x w)))) M
abbrev co_WR_count := co0
theorem dX6_count_0 : decode cX6_count 0 = .ok (.iload_n 1, 1) := by decide +kernel
theorem dX6_count_1 : decode cX6_count 1 = .ok (.tableswitch 123 0 10 #[59, 64, 72, 80, 88, 93, 98, 103, 108, 113, 118], 59) := by decide +kernel
theorem dX6_count_60 : decode cX6_count 60 = .ok (.aload_n 0, 1) := by decide +kernel
theorem dX6_count_61 : decode cX6_count 61 = .ok (.getfield 53, 3) := by decide +kernel
theorem dX6_count_64 : decode cX6_count 64 = .ok (.ireturn, 1) := by decide +kernel
theorem dX6_count_65 : decode cX6_count 65 = .ok (.aload_n 0, 1) := by decide +kernel
theorem dX6_count_66 : decode cX6_count 66 = .ok (.getfield 12, 3) := by decide +kernel
theorem dX6_count_69 : decode cX6_count 69 = .ok (.invokevirtual 96, 3) := by decide +kernel
theorem dX6_count_72 : decode cX6_count 72 = .ok (.ireturn, 1) := by decide +kernel
theorem dX6_count_73 : decode cX6_count 73 = .ok (.aload_n 0, 1) := by decide +kernel
theorem dX6_count_74 : decode cX6_count 74 = .ok (.getfield 16, 3) := by decide +kernel
theorem dX6_count_77 : decode cX6_count 77 = .ok (.invokevirtual 96, 3) := by decide +kernel
theorem dX6_count_80 : decode cX6_count 80 = .ok (.ireturn, 1) := by decide +kernel
theorem dX6_count_81 : decode cX6_count 81 = .ok (.aload_n 0, 1) := by decide +kernel
theorem dX6_count_82 : decode cX6_count 82 = .ok (.getfield 19, 3) := by decide +kernel
theorem dX6_count_85 : decode cX6_count 85 = .ok (.invokevirtual 96, 3) := by decide +kernel
theorem dX6_count_88 : decode cX6_count 88 = .ok (.ireturn, 1) := by decide +kernel
theorem dX6_count_89 : decode cX6_count 89 = .ok (.aload_n 0, 1) := by decide +kernel
theorem dX6_count_90 : decode cX6_count 90 = .ok (.invokevirtual 148, 3) := by decide +kernel
theorem dX6_count_93 : decode cX6_count 93 = .ok (.ireturn, 1) := by decide +kernel
theorem dX6_count_94 : decode cX6_count 94 = .ok (.aload_n 0, 1) := by decide +kernel
theorem dX6_count_95 : decode cX6_count 95 = .ok (.invokevirtual 220, 3) := by decide +kernel
theorem dX6_count_98 : decode cX6_count 98 = .ok (.ireturn, 1) := by decide +kernel
theorem dX6_count_99 : decode cX6_count 99 = .ok (.aload_n 0, 1) := by decide +kernel
theorem dX6_count_100 : decode cX6_count 100 = .ok (.invokevirtual 223, 3) := by decide +kernel
theorem dX6_count_103 : decode cX6_count 103 = .ok (.ireturn, 1) := by decide +kernel
theorem dX6_count_104 : decode cX6_count 104 = .ok (.aload_n 0, 1) := by decide +kernel
theorem dX6_count_105 : decode cX6_count 105 = .ok (.getfield 60, 3) := by decide +kernel
theorem dX6_count_108 : decode cX6_count 108 = .ok (.ireturn, 1) := by decide +kernel
theorem dX6_count_109 : decode cX6_count 109 = .ok (.aload_n 0, 1) := by decide +kernel
theorem dX6_count_110 : decode cX6_count 110 = .ok (.getfield 63, 3) := by decide +kernel
theorem dX6_count_113 : decode cX6_count 113 = .ok (.ireturn, 1) := by decide +kernel
theorem dX6_count_114 : decode cX6_count 114 = .ok (.aload_n 0, 1) := by decide +kernel
theorem dX6_count_115 : decode cX6_count 115 = .ok (.getfield 66, 3) := by decide +kernel
theorem dX6_count_118 : decode cX6_count 118 = .ok (.ireturn, 1) := by decide +kernel
theorem dX6_count_119 : decode cX6_count 119 = .ok (.aload_n 0, 1) := by decide +kernel
theorem dX6_count_120 : decode cX6_count 120 = .ok (.getfield 57, 3) := by decide +kernel
theorem dX6_count_123 : decode cX6_count 123 = .ok (.ireturn, 1) := by decide +kernel
theorem dX6_count_124 : decode cX6_count 124 = .ok (.iconst (-1), 1) := by decide +kernel
theorem dX6_count_125 : decode cX6_count 125 = .ok (.ireturn, 1) := by decide +kernel
def B_WR_count_124 (mc ms : Nat) (Rt : Option zAV → zMp → Prop) (g : Nat → zKT) : zKT :=
  (i_ic (-1) (i_iret mc ms Rt))
set_option maxRecDepth 20000 in
theorem s_WR_count_124 {X : zMa} {mc ms : Nat} {Rt : Option zAV → zMp → Prop} (hC : zCx X RX6 cX6_count 4 86 mc ms (some .int) false Rt) : zLe (B_WR_count_124 mc ms Rt (zG X)) (zG X 124) :=
  (sd_iconst hC (by decide) dX6_count_124 ((sd_iret hC dX6_count_125)))
def B_WR_count_119 (mc ms : Nat) (Rt : Option zAV → zMp → Prop) (g : Nat → zKT) : zKT :=
  (i_al 0 (i_gf 7 10 (i_iret mc ms Rt)))
set_option maxRecDepth 20000 in
theorem s_WR_count_119 {X : zMa} {mc ms : Nat} {Rt : Option zAV → zMp → Prop} (hC : zCx X RX6 cX6_count 4 86 mc ms (some .int) false Rt) : zLe (B_WR_count_119 mc ms Rt (zG X)) (zG X 119) :=
  (sd_al_n hC rfl dX6_count_119 ((sd_gf hC (ci := 7) (fk := 10) rfl wi_WR (by decide) fl_WR_57 (Or.inl rfl) dX6_count_120 ((sd_iret hC dX6_count_123)))))
def B_WR_count_114 (mc ms : Nat) (Rt : Option zAV → zMp → Prop) (g : Nat → zKT) : zKT :=
  (i_al 0 (i_gf 7 13 (i_iret mc ms Rt)))
set_option maxRecDepth 20000 in
theorem s_WR_count_114 {X : zMa} {mc ms : Nat} {Rt : Option zAV → zMp → Prop} (hC : zCx X RX6 cX6_count 4 86 mc ms (some .int) false Rt) : zLe (B_WR_count_114 mc ms Rt (zG X)) (zG X 114) :=
  (sd_al_n hC rfl dX6_count_114 ((sd_gf hC (ci := 7) (fk := 13) rfl wi_WR (by decide) fl_WR_66 (Or.inl rfl) dX6_count_115 ((sd_iret hC dX6_count_118)))))
def B_WR_count_109 (mc ms : Nat) (Rt : Option zAV → zMp → Prop) (g : Nat → zKT) : zKT :=
  (i_al 0 (i_gf 7 12 (i_iret mc ms Rt)))
set_option maxRecDepth 20000 in
theorem s_WR_count_109 {X : zMa} {mc ms : Nat} {Rt : Option zAV → zMp → Prop} (hC : zCx X RX6 cX6_count 4 86 mc ms (some .int) false Rt) : zLe (B_WR_count_109 mc ms Rt (zG X)) (zG X 109) :=
  (sd_al_n hC rfl dX6_count_109 ((sd_gf hC (ci := 7) (fk := 12) rfl wi_WR (by decide) fl_WR_63 (Or.inl rfl) dX6_count_110 ((sd_iret hC dX6_count_113)))))
def B_WR_count_104 (mc ms : Nat) (Rt : Option zAV → zMp → Prop) (g : Nat → zKT) : zKT :=
  (i_al 0 (i_gf 7 11 (i_iret mc ms Rt)))
set_option maxRecDepth 20000 in
theorem s_WR_count_104 {X : zMa} {mc ms : Nat} {Rt : Option zAV → zMp → Prop} (hC : zCx X RX6 cX6_count 4 86 mc ms (some .int) false Rt) : zLe (B_WR_count_104 mc ms Rt (zG X)) (zG X 104) :=
  (sd_al_n hC rfl dX6_count_104 ((sd_gf hC (ci := 7) (fk := 11) rfl wi_WR (by decide) fl_WR_60 (Or.inl rfl) dX6_count_105 ((sd_iret hC dX6_count_108)))))
def B_WR_count_99 (mc ms : Nat) (Rt : Option zAV → zMp → Prop) (g : Nat → zKT) : zKT :=
  (i_al 0 (i_callV mc ms 7 1 T_WR_tellsInLanes co_WR_tellsInLanes (i_iret mc ms Rt)))
set_option maxRecDepth 20000 in
theorem s_WR_count_99 {X : zMa} {mc ms : Nat} {Rt : Option zAV → zMp → Prop} (hC : zCx X RX6 cX6_count 4 86 mc ms (some .int) false Rt) : zLe (B_WR_count_99 mc ms Rt (zG X)) (zG X 99) :=
  (sd_al_n hC rfl dX6_count_99 ((sd_cV hC c_WR_tellsInLanes yv_WR_tellsInLanes (ci := 7) rfl rfl ml_WR_223 (by decide) (by decide) dX6_count_100 ((sd_iret hC dX6_count_103)))))
def B_WR_count_94 (mc ms : Nat) (Rt : Option zAV → zMp → Prop) (g : Nat → zKT) : zKT :=
  (i_al 0 (i_callV mc ms 7 1 T_WR_messagesInLanes co_WR_messagesInLanes (i_iret mc ms Rt)))
set_option maxRecDepth 20000 in
theorem s_WR_count_94 {X : zMa} {mc ms : Nat} {Rt : Option zAV → zMp → Prop} (hC : zCx X RX6 cX6_count 4 86 mc ms (some .int) false Rt) : zLe (B_WR_count_94 mc ms Rt (zG X)) (zG X 94) :=
  (sd_al_n hC rfl dX6_count_94 ((sd_cV hC c_WR_messagesInLanes yv_WR_messagesInLanes (ci := 7) rfl rfl ml_WR_220 (by decide) (by decide) dX6_count_95 ((sd_iret hC dX6_count_98)))))
def B_WR_count_89 (mc ms : Nat) (Rt : Option zAV → zMp → Prop) (g : Nat → zKT) : zKT :=
  (i_al 0 (i_callV mc ms 7 1 T_WR_underWay co_WR_underWay (i_iret mc ms Rt)))
set_option maxRecDepth 20000 in
theorem s_WR_count_89 {X : zMa} {mc ms : Nat} {Rt : Option zAV → zMp → Prop} (hC : zCx X RX6 cX6_count 4 86 mc ms (some .int) false Rt) : zLe (B_WR_count_89 mc ms Rt (zG X)) (zG X 89) :=
  (sd_al_n hC rfl dX6_count_89 ((sd_cV hC c_WR_underWay yv_WR_underWay (ci := 7) rfl rfl ml_WR_148 (by decide) (by decide) dX6_count_90 ((sd_iret hC dX6_count_93)))))
def B_WR_count_81 (mc ms : Nat) (Rt : Option zAV → zMp → Prop) (g : Nat → zKT) : zKT :=
  (i_al 0 (i_gf 7 2 (i_callV mc ms 0 1 T_AL_size co_AL_size (i_iret mc ms Rt))))
set_option maxRecDepth 20000 in
theorem s_WR_count_81 {X : zMa} {mc ms : Nat} {Rt : Option zAV → zMp → Prop} (hC : zCx X RX6 cX6_count 4 86 mc ms (some .int) false Rt) : zLe (B_WR_count_81 mc ms Rt (zG X)) (zG X 81) :=
  (sd_al_n hC rfl dX6_count_81 ((sd_gf hC (ci := 7) (fk := 2) rfl wi_WR (by decide) fl_WR_19 (Or.inl rfl) dX6_count_82 ((sd_cV hC c_AL_size yv_AL_size (ci := 0) rfl rfl ml_WR_96 (by decide) (by decide) dX6_count_85 ((sd_iret hC dX6_count_88)))))))
def B_WR_count_73 (mc ms : Nat) (Rt : Option zAV → zMp → Prop) (g : Nat → zKT) : zKT :=
  (i_al 0 (i_gf 7 1 (i_callV mc ms 0 1 T_AL_size co_AL_size (i_iret mc ms Rt))))
set_option maxRecDepth 20000 in
theorem s_WR_count_73 {X : zMa} {mc ms : Nat} {Rt : Option zAV → zMp → Prop} (hC : zCx X RX6 cX6_count 4 86 mc ms (some .int) false Rt) : zLe (B_WR_count_73 mc ms Rt (zG X)) (zG X 73) :=
  (sd_al_n hC rfl dX6_count_73 ((sd_gf hC (ci := 7) (fk := 1) rfl wi_WR (by decide) fl_WR_16 (Or.inl rfl) dX6_count_74 ((sd_cV hC c_AL_size yv_AL_size (ci := 0) rfl rfl ml_WR_96 (by decide) (by decide) dX6_count_77 ((sd_iret hC dX6_count_80)))))))
def B_WR_count_65 (mc ms : Nat) (Rt : Option zAV → zMp → Prop) (g : Nat → zKT) : zKT :=
  (i_al 0 (i_gf 7 0 (i_callV mc ms 0 1 T_AL_size co_AL_size (i_iret mc ms Rt))))
set_option maxRecDepth 20000 in
theorem s_WR_count_65 {X : zMa} {mc ms : Nat} {Rt : Option zAV → zMp → Prop} (hC : zCx X RX6 cX6_count 4 86 mc ms (some .int) false Rt) : zLe (B_WR_count_65 mc ms Rt (zG X)) (zG X 65) :=
  (sd_al_n hC rfl dX6_count_65 ((sd_gf hC (ci := 7) (fk := 0) rfl wi_WR (by decide) fl_WR_12 (Or.inl rfl) dX6_count_66 ((sd_cV hC c_AL_size yv_AL_size (ci := 0) rfl rfl ml_WR_96 (by decide) (by decide) dX6_count_69 ((sd_iret hC dX6_count_72)))))))
def B_WR_count_60 (mc ms : Nat) (Rt : Option zAV → zMp → Prop) (g : Nat → zKT) : zKT :=
  (i_al 0 (i_gf 7 9 (i_iret mc ms Rt)))
set_option maxRecDepth 20000 in
theorem s_WR_count_60 {X : zMa} {mc ms : Nat} {Rt : Option zAV → zMp → Prop} (hC : zCx X RX6 cX6_count 4 86 mc ms (some .int) false Rt) : zLe (B_WR_count_60 mc ms Rt (zG X)) (zG X 60) :=
  (sd_al_n hC rfl dX6_count_60 ((sd_gf hC (ci := 7) (fk := 9) rfl wi_WR (by decide) fl_WR_53 (Or.inl rfl) dX6_count_61 ((sd_iret hC dX6_count_64)))))
def B_WR_count_0 (mc ms : Nat) (Rt : Option zAV → zMp → Prop) (g : Nat → zKT) : zKT :=
  (i_il 1 (i_sw [(0, (B_WR_count_60 mc ms Rt g)), (1, (B_WR_count_65 mc ms Rt g)), (2, (B_WR_count_73 mc ms Rt g)), (3, (B_WR_count_81 mc ms Rt g)), (4, (B_WR_count_89 mc ms Rt g)), (5, (B_WR_count_94 mc ms Rt g)), (6, (B_WR_count_99 mc ms Rt g)), (7, (B_WR_count_104 mc ms Rt g)), (8, (B_WR_count_109 mc ms Rt g)), (9, (B_WR_count_114 mc ms Rt g)), (10, (B_WR_count_119 mc ms Rt g))] (B_WR_count_124 mc ms Rt g)))
set_option maxRecDepth 20000 in
theorem s_WR_count_0 {X : zMa} {mc ms : Nat} {Rt : Option zAV → zMp → Prop} (hC : zCx X RX6 cX6_count 4 86 mc ms (some .int) false Rt) : zLe (B_WR_count_0 mc ms Rt (zG X)) (zG X 0) :=
  (sd_il_n hC rfl dX6_count_0 ((sd_tsw hC dX6_count_1 (s_WR_count_124 hC) [60, 65, 73, 81, 89, 94, 99, 104, 109, 114, 119] rfl (by intro q hq; simp only [List.zip_cons_cons, List.zip_nil_right, List.mem_cons, List.not_mem_nil, or_false] at hq; rcases hq with rfl | rfl | rfl | rfl | rfl | rfl | rfl | rfl | rfl | rfl | rfl; exact ⟨(show zjT 1 123 0 10 #[59, 64, 72, 80, 88, 93, 98, 103, 108, 113, 118] 0 60 from Or.inr ⟨by decide, by decide, _, rfl, by decide⟩), s_WR_count_60 hC⟩; exact ⟨(show zjT 1 123 0 10 #[59, 64, 72, 80, 88, 93, 98, 103, 108, 113, 118] 1 65 from Or.inr ⟨by decide, by decide, _, rfl, by decide⟩), s_WR_count_65 hC⟩; exact ⟨(show zjT 1 123 0 10 #[59, 64, 72, 80, 88, 93, 98, 103, 108, 113, 118] 2 73 from Or.inr ⟨by decide, by decide, _, rfl, by decide⟩), s_WR_count_73 hC⟩; exact ⟨(show zjT 1 123 0 10 #[59, 64, 72, 80, 88, 93, 98, 103, 108, 113, 118] 3 81 from Or.inr ⟨by decide, by decide, _, rfl, by decide⟩), s_WR_count_81 hC⟩; exact ⟨(show zjT 1 123 0 10 #[59, 64, 72, 80, 88, 93, 98, 103, 108, 113, 118] 4 89 from Or.inr ⟨by decide, by decide, _, rfl, by decide⟩), s_WR_count_89 hC⟩; exact ⟨(show zjT 1 123 0 10 #[59, 64, 72, 80, 88, 93, 98, 103, 108, 113, 118] 5 94 from Or.inr ⟨by decide, by decide, _, rfl, by decide⟩), s_WR_count_94 hC⟩; exact ⟨(show zjT 1 123 0 10 #[59, 64, 72, 80, 88, 93, 98, 103, 108, 113, 118] 6 99 from Or.inr ⟨by decide, by decide, _, rfl, by decide⟩), s_WR_count_99 hC⟩; exact ⟨(show zjT 1 123 0 10 #[59, 64, 72, 80, 88, 93, 98, 103, 108, 113, 118] 7 104 from Or.inr ⟨by decide, by decide, _, rfl, by decide⟩), s_WR_count_104 hC⟩; exact ⟨(show zjT 1 123 0 10 #[59, 64, 72, 80, 88, 93, 98, 103, 108, 113, 118] 8 109 from Or.inr ⟨by decide, by decide, _, rfl, by decide⟩), s_WR_count_109 hC⟩; exact ⟨(show zjT 1 123 0 10 #[59, 64, 72, 80, 88, 93, 98, 103, 108, 113, 118] 9 114 from Or.inr ⟨by decide, by decide, _, rfl, by decide⟩), s_WR_count_114 hC⟩; exact ⟨(show zjT 1 123 0 10 #[59, 64, 72, 80, 88, 93, 98, 103, 108, 113, 118] 10 119 from Or.inr ⟨by decide, by decide, _, rfl, by decide⟩), s_WR_count_119 hC⟩) (by intro x hx; simp only [List.forall_mem_cons, List.not_mem_nil, false_imp_iff, implies_true, and_true] at hx; refine Or.inl ⟨?_, by decide⟩; obtain ⟨n0, n1, n2, n3, n4, n5, n6, n7, n8, n9, n10⟩ := hx; have n0 := zne_i (z := 0) n0 (by decide); have n1 := zne_i (z := 1) n1 (by decide); have n2 := zne_i (z := 2) n2 (by decide); have n3 := zne_i (z := 3) n3 (by decide); have n4 := zne_i (z := 4) n4 (by decide); have n5 := zne_i (z := 5) n5 (by decide); have n6 := zne_i (z := 6) n6 (by decide); have n7 := zne_i (z := 7) n7 (by decide); have n8 := zne_i (z := 8) n8 (by decide); have n9 := zne_i (z := 9) n9 (by decide); have n10 := zne_i (z := 10) n10 (by decide); omega))))
theorem c_WR_count (l : Launch) : zCT l yX6_count cX6_count 2 (some .int) 4 86 T_WR_count co_WR_count := by
  intro As M Rt hT
  obtain ⟨x, w, rfl, rfl, hI, hR⟩ := hT
  refine zMet_of false (by decide +kernel) (fun h => by first | rfl | cases h) (Nat.le_of_ble_eq_true rfl) (fun X hN hC => ?_)
  show zG X 0 [some (.inr (0, 0, 0)), some (.inl (.int w))] [] (pic x) 0 0
  refine s_WR_count_0 hC _ _ _ _ _ ?_
  simp only [B_WR_count_0, B_WR_count_60, B_WR_count_65, B_WR_count_73, B_WR_count_81, B_WR_count_89, B_WR_count_94, B_WR_count_99, B_WR_count_104, B_WR_count_109, B_WR_count_114, B_WR_count_119, B_WR_count_124, co_AL_size, co_WR_count, co_WR_messagesInLanes, co_WR_tellsInLanes, co_WR_underWay, i_ic, i_lc, i_nul, i_il, i_ll, i_al, i_is, i_as, i_ls, i_inc, i_iadd, i_isub, i_imul, i_iand, i_ior, i_ixor, i_idiv, i_irem, i_ishl, i_ishr, i_ladd, i_lsub, i_land, i_lor, i_i2l, i_lushr, i_lshl, i_lshr, i_lcmp, i_dup, i_pop, i_dx1, i_dup2, i_ifeq, i_ifne, i_iflt, i_ifge, i_ifgt, i_ifle, i_iceq, i_icne, i_iclt, i_icge, i_icgt, i_icle, i_ifn, i_gf, i_pf, i_ial, i_bal, i_lal, i_aal, i_ias, i_las, i_bas, i_aas, i_alen, i_newa, i_new, i_anew, i_cast, i_oi, i_call, i_callV, i_callV2, i_callI, i_iret, i_zret, i_lret, i_vret, i_aret, i_mmx, i_mmn, i_gsE, i_aceq, i_no, i_acq, i_sw, zsw, zlg, zls, znl, zfg, zcs, zsp, zrc, zisn, zft, zc1, zto, Value.category, List.set_cons_zero, List.set_cons_succ, List.length_cons, List.length_nil, Option.toList, List.append, List.nil_append, List.cons_append, true_and, and_true, Nat.add_zero, Nat.zero_le, Nat.zero_add, Nat.le_refl, Nat.reduceAdd, Nat.reduceLeDiff, co0, z0, zn_0, zn_1, zn_2, zn_3, zn_4, zn_5, zn_8, zn_12, zn_24, zn_121, zn_144, zn_256, zn_300, zn_600, zn_720, zn_1204, zn_1280, zn_2400, zn_4816, zn_14400, zn_90000, p_main, x_main, p_list (i := 0) (by decide), p_list (i := 1) (by decide), p_list (i := 2) (by decide)]
  refine ⟨fun h => ?_, fun n0 => ⟨fun h => ⟨(1, 0, 0), _, _, _, rfl, p_list (by decide), ?_⟩, fun n1 => ⟨fun h => ⟨(1, 1, 0), _, _, _, rfl, p_list (by decide), ?_⟩, fun n2 => ⟨fun h => ⟨(1, 2, 0), _, _, _, rfl, p_list (by decide), ?_⟩, fun n3 => ⟨fun h => ⟨x, rfl, rfl, hI, ?_⟩, fun n4 => ⟨fun h => ⟨x, rfl, rfl, hI, ?_⟩, fun n5 => ⟨fun h => ⟨x, rfl, rfl, hI, ?_⟩, fun n6 => ⟨fun h => ?_, fun n7 => ⟨fun h => ?_, fun n8 => ⟨fun h => ?_, fun n9 => ⟨fun h => ?_, fun n10 => ?_⟩⟩⟩⟩⟩⟩⟩⟩⟩⟩⟩
  all_goals (unfold x_cnt at hR; simp only [*, if_true, if_false] at hR; exact hR)
