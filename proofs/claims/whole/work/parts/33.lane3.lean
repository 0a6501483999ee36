/-! lanes: takeFirst, tells, clear -/
/-- the first item is taken away; a tell's row becomes the table -/
def la_take1 (x : zSt) (l : Nat) : zSt := if x_li x l (x_lf x l) = -2 then u_lb (la_mk x l (x_lf x l)) (va_up (x_lb x) l (rw_set (x_lb x l) (la_row x l (x_lf x l)))) else x
def la_take (x : zSt) (l : Nat) : zSt := u_lz (u_lf (la_take1 x l) (va_up (x_lf x) l ((x_lf x l + 1) % 121))) (va_up (x_lz x) l (x_lz x l - 1))
theorem nl_take1 (x : zSt) (l : Nat) : x_nl (la_take1 x l) = x_nl x := by unfold la_take1; split; (rw [g_nl_lb, nl_mk]); rfl
theorem lf_take1 (x : zSt) (l : Nat) : x_lf (la_take1 x l) = x_lf x := by unfold la_take1; split; (rw [g_lf_lb, lf_mk]); rfl
theorem lz_take1 (x : zSt) (l : Nat) : x_lz (la_take1 x l) = x_lz x := by unfold la_take1; split; (rw [g_lz_lb, lz_mk]); rfl
def T_Lane_takeFirst (As : List zAV) (M : zMp) (Rt : Option zAV → zMp → Prop) (c1 c2 : Nat) : Prop := ∃ x l, As = [.inr (16, l, 0)] ∧ M = pic x ∧ ln_ok x l ∧ (x_lz x l ≠ 0 → x_li x l (x_lf x l) = -2 → x_lr x l (x_lf x l) = none → 2 ≤ c1 ∧ 6 ≤ c2) ∧ (x_lz x l = 0 → Rt (some (.inl (.int (-1)))) (pic x)) ∧ (x_lz x l ≠ 0 → Rt (some (.inl (.int (x_li x l (x_lf x l))))) (pic (la_take x l)))
theorem dX1_takeFirst_0 : decode cX1_takeFirst 0 = .ok (.aload_n 0, 1) := by decide +kernel
theorem dX1_takeFirst_1 : decode cX1_takeFirst 1 = .ok (.getfield 21, 3) := by decide +kernel
theorem dX1_takeFirst_4 : decode cX1_takeFirst 4 = .ok (.ifCond .ne 5, 3) := by decide +kernel
theorem dX1_takeFirst_7 : decode cX1_takeFirst 7 = .ok (.iconst (-1), 1) := by decide +kernel
theorem dX1_takeFirst_8 : decode cX1_takeFirst 8 = .ok (.ireturn, 1) := by decide +kernel
theorem dX1_takeFirst_9 : decode cX1_takeFirst 9 = .ok (.aload_n 0, 1) := by decide +kernel
theorem dX1_takeFirst_10 : decode cX1_takeFirst 10 = .ok (.getfield 25, 3) := by decide +kernel
theorem dX1_takeFirst_13 : decode cX1_takeFirst 13 = .ok (.aload_n 0, 1) := by decide +kernel
theorem dX1_takeFirst_14 : decode cX1_takeFirst 14 = .ok (.getfield 33, 3) := by decide +kernel
theorem dX1_takeFirst_17 : decode cX1_takeFirst 17 = .ok (.iaload, 1) := by decide +kernel
theorem dX1_takeFirst_18 : decode cX1_takeFirst 18 = .ok (.istore_n 1, 1) := by decide +kernel
theorem dX1_takeFirst_19 : decode cX1_takeFirst 19 = .ok (.iload_n 1, 1) := by decide +kernel
theorem dX1_takeFirst_20 : decode cX1_takeFirst 20 = .ok (.bipush (-2), 2) := by decide +kernel
theorem dX1_takeFirst_22 : decode cX1_takeFirst 22 = .ok (.if_icmp .ne 18, 3) := by decide +kernel
theorem dX1_takeFirst_25 : decode cX1_takeFirst 25 = .ok (.aload_n 0, 1) := by decide +kernel
theorem dX1_takeFirst_26 : decode cX1_takeFirst 26 = .ok (.getfield 18, 3) := by decide +kernel
theorem dX1_takeFirst_29 : decode cX1_takeFirst 29 = .ok (.aload_n 0, 1) := by decide +kernel
theorem dX1_takeFirst_30 : decode cX1_takeFirst 30 = .ok (.aload_n 0, 1) := by decide +kernel
theorem dX1_takeFirst_31 : decode cX1_takeFirst 31 = .ok (.getfield 33, 3) := by decide +kernel
theorem dX1_takeFirst_34 : decode cX1_takeFirst 34 = .ok (.invokevirtual 43, 3) := by decide +kernel
theorem dX1_takeFirst_37 : decode cX1_takeFirst 37 = .ok (.invokevirtual 47, 3) := by decide +kernel
theorem dX1_takeFirst_40 : decode cX1_takeFirst 40 = .ok (.aload_n 0, 1) := by decide +kernel
theorem dX1_takeFirst_41 : decode cX1_takeFirst 41 = .ok (.aload_n 0, 1) := by decide +kernel
theorem dX1_takeFirst_42 : decode cX1_takeFirst 42 = .ok (.iconst 1, 1) := by decide +kernel
theorem dX1_takeFirst_43 : decode cX1_takeFirst 43 = .ok (.invokevirtual 36, 3) := by decide +kernel
theorem dX1_takeFirst_46 : decode cX1_takeFirst 46 = .ok (.putfield 33, 3) := by decide +kernel
theorem dX1_takeFirst_49 : decode cX1_takeFirst 49 = .ok (.aload_n 0, 1) := by decide +kernel
theorem dX1_takeFirst_50 : decode cX1_takeFirst 50 = .ok (.dup, 1) := by decide +kernel
theorem dX1_takeFirst_51 : decode cX1_takeFirst 51 = .ok (.getfield 21, 3) := by decide +kernel
theorem dX1_takeFirst_54 : decode cX1_takeFirst 54 = .ok (.iconst 1, 1) := by decide +kernel
theorem dX1_takeFirst_55 : decode cX1_takeFirst 55 = .ok (.isub, 1) := by decide +kernel
theorem dX1_takeFirst_56 : decode cX1_takeFirst 56 = .ok (.putfield 21, 3) := by decide +kernel
theorem dX1_takeFirst_59 : decode cX1_takeFirst 59 = .ok (.iload_n 1, 1) := by decide +kernel
theorem dX1_takeFirst_60 : decode cX1_takeFirst 60 = .ok (.ireturn, 1) := by decide +kernel
def B_Lane_takeFirst_40 (mc ms : Nat) (Rt : Option zAV → zMp → Prop) (g : Nat → zKT) : zKT :=
  (i_al 0 (i_al 0 (i_ic 1 (i_callV mc ms 2 2 T_Lane_slot co_Lane_slot (i_pf 2 5 .int (i_al 0 (i_dup (i_gf 2 2 (i_ic 1 (i_isub (i_pf 2 2 .int (i_il 1 (i_iret mc ms Rt)))))))))))))
set_option maxRecDepth 20000 in
theorem s_Lane_takeFirst_40 {X : zMa} {mc ms : Nat} {Rt : Option zAV → zMp → Prop} (hC : zCx X RX1 cX1_takeFirst 3 61 mc ms (some .int) false Rt) (hN : zNL X = 2) : zLe (B_Lane_takeFirst_40 mc ms Rt (zG X)) (zG X 40) :=
  (sd_al_n hC rfl dX1_takeFirst_40 ((sd_al_n hC rfl dX1_takeFirst_41 ((sd_iconst hC (by decide) dX1_takeFirst_42 ((sd_cV hC c_Lane_slot yv_Lane_slot (ci := 2) rfl rfl ml_Lane_36 (by decide) (by decide) dX1_takeFirst_43 ((sd_pf hC (ci := 2) (fk := 5) rfl wi_Lane tyX1 tyX1_ok nmX1 (by decide) fl_Lane_33 (Or.inl rfl) (Or.inl rfl) dX1_takeFirst_46 ((sd_al_n hC rfl dX1_takeFirst_49 ((sd_dup hC dX1_takeFirst_50 ((sd_gf hC (ci := 2) (fk := 2) rfl wi_Lane (by decide) fl_Lane_21 (Or.inl rfl) dX1_takeFirst_51 ((sd_iconst hC (by decide) dX1_takeFirst_54 ((sd_isub hC dX1_takeFirst_55 ((sd_pf hC (ci := 2) (fk := 2) rfl wi_Lane tyX1 tyX1_ok nmX1 (by decide) fl_Lane_21 (Or.inl rfl) (Or.inl rfl) dX1_takeFirst_56 ((sd_il_n hC rfl dX1_takeFirst_59 ((sd_iret hC dX1_takeFirst_60)))))))))))))))))))))))))
def B_Lane_takeFirst_9 (mc ms : Nat) (Rt : Option zAV → zMp → Prop) (g : Nat → zKT) : zKT :=
  (i_al 0 (i_gf 2 3 (i_al 0 (i_gf 2 5 (i_ial (i_is 1 (i_il 1 (i_ic (-2) (i_icne (B_Lane_takeFirst_40 mc ms Rt g) (i_al 0 (i_gf 2 1 (i_al 0 (i_al 0 (i_gf 2 5 (i_callV2 mc ms 2 2 T_Lane_rowAt (i_callV mc ms 5 2 T_Row_set co_Row_set (B_Lane_takeFirst_40 mc ms Rt g)))))))))))))))))
set_option maxRecDepth 20000 in
theorem s_Lane_takeFirst_9 {X : zMa} {mc ms : Nat} {Rt : Option zAV → zMp → Prop} (hC : zCx X RX1 cX1_takeFirst 3 61 mc ms (some .int) false Rt) (hN : zNL X = 2) : zLe (B_Lane_takeFirst_9 mc ms Rt (zG X)) (zG X 9) :=
  (sd_al_n hC rfl dX1_takeFirst_9 ((sd_gf hC (ci := 2) (fk := 3) rfl wi_Lane (by decide) fl_Lane_25 (Or.inl rfl) dX1_takeFirst_10 ((sd_al_n hC rfl dX1_takeFirst_13 ((sd_gf hC (ci := 2) (fk := 5) rfl wi_Lane (by decide) fl_Lane_33 (Or.inl rfl) dX1_takeFirst_14 ((sd_ial hC dX1_takeFirst_17 ((sd_is_n hC rfl (by rw [hN]; decide) dX1_takeFirst_18 ((sd_il_n hC rfl dX1_takeFirst_19 ((sd_bipush hC (by decide) dX1_takeFirst_20 ((sd_icne hC (tgt := 40) (by decide) dX1_takeFirst_22 (s_Lane_takeFirst_40 hC hN) ((sd_al_n hC rfl dX1_takeFirst_25 ((sd_gf hC (ci := 2) (fk := 1) rfl wi_Lane (by decide) fl_Lane_18 (Or.inl rfl) dX1_takeFirst_26 ((sd_al_n hC rfl dX1_takeFirst_29 ((sd_al_n hC rfl dX1_takeFirst_30 ((sd_gf hC (ci := 2) (fk := 5) rfl wi_Lane (by decide) fl_Lane_33 (Or.inl rfl) dX1_takeFirst_31 ((sd_cV2 hC c_Lane_rowAt yv_Lane_rowAt (ci := 2) rfl rfl ml_Lane_43 (by decide) (by decide) dX1_takeFirst_34 ((sd_cV hC c_Row_set yv_Row_set (ci := 5) rfl rfl ml_Lane_47 (by decide) (by decide) dX1_takeFirst_37 (s_Lane_takeFirst_40 hC hN))))))))))))))))))))))))))))))))
def B_Lane_takeFirst_0 (mc ms : Nat) (Rt : Option zAV → zMp → Prop) (g : Nat → zKT) : zKT :=
  (i_al 0 (i_gf 2 2 (i_ifne (B_Lane_takeFirst_9 mc ms Rt g) (i_ic (-1) (i_iret mc ms Rt)))))
set_option maxRecDepth 20000 in
theorem s_Lane_takeFirst_0 {X : zMa} {mc ms : Nat} {Rt : Option zAV → zMp → Prop} (hC : zCx X RX1 cX1_takeFirst 3 61 mc ms (some .int) false Rt) (hN : zNL X = 2) : zLe (B_Lane_takeFirst_0 mc ms Rt (zG X)) (zG X 0) :=
  (sd_al_n hC rfl dX1_takeFirst_0 ((sd_gf hC (ci := 2) (fk := 2) rfl wi_Lane (by decide) fl_Lane_21 (Or.inl rfl) dX1_takeFirst_1 ((sd_ifne hC (tgt := 9) (by decide) dX1_takeFirst_4 (s_Lane_takeFirst_9 hC hN) ((sd_iconst hC (by decide) dX1_takeFirst_7 ((sd_iret hC dX1_takeFirst_8)))))))))
theorem c_Lane_takeFirst (l : Launch) : zCT2 l yX1_takeFirst cX1_takeFirst 2 (some .int) 3 61 T_Lane_takeFirst := by
  intro As M Rt c1 c2 hT
  obtain ⟨x, j, rfl, rfl, hok, hc, hR0, hR1⟩ := hT
  obtain ⟨h1, h2, h3⟩ := id hok
  refine zMet_of false (by decide +kernel) (fun h => by first | rfl | cases h) (Nat.le_of_ble_eq_true rfl) (fun X hN hC => ?_)
  show zG X 0 [some (.inr (16, j, 0)), none] [] (pic x) 0 0
  -- from 40 on
  have fin : ∀ y : zSt, ln_ok y j → x_lf y j = x_lf x j → x_lz y j = x_lz x j → 0 < x_lz x j → y = la_take1 x j → ∀ k1 k2, k1 ≤ c1 → k2 ≤ c2 → B_Lane_takeFirst_40 c1 c2 Rt (zG X) [some (.inr (16, j, 0)), some (.inl (.int (x_li x j (x_lf x j))))] [] (pic y) k1 k2 := by
    intro y hoky ef ez hpos hy k1 k2 hk1 hk2
    obtain ⟨g1, g2, g3⟩ := id hoky
    simp only [B_Lane_takeFirst_0, B_Lane_takeFirst_9, B_Lane_takeFirst_40, co_Lane_slot, co_Row_set, i_ic, i_lc, i_nul, i_il, i_ll, i_al, i_is, i_as, i_ls, i_inc, i_iadd, i_isub, i_imul, i_iand, i_ior, i_ixor, i_idiv, i_irem, i_ishl, i_ishr, i_ladd, i_lsub, i_land, i_lor, i_i2l, i_lushr, i_lshl, i_lshr, i_lcmp, i_dup, i_pop, i_dx1, i_dup2, i_ifeq, i_ifne, i_iflt, i_ifge, i_ifgt, i_ifle, i_iceq, i_icne, i_iclt, i_icge, i_icgt, i_icle, i_ifn, i_gf, i_pf, i_ial, i_bal, i_lal, i_aal, i_ias, i_las, i_bas, i_aas, i_alen, i_newa, i_new, i_anew, i_cast, i_oi, i_call, i_callV, i_callV2, i_callI, i_iret, i_zret, i_lret, i_vret, i_aret, i_mmx, i_mmn, i_gsE, i_aceq, i_no, i_acq, i_sw, zsw, zlg, zls, znl, zfg, zcs, zsp, zrc, zisn, zft, zc1, zto, Value.category, List.set_cons_zero, List.set_cons_succ, List.length_cons, List.length_nil, Option.toList, List.append, List.nil_append, List.cons_append, true_and, and_true, Nat.add_zero, Nat.zero_le, Nat.zero_add, Nat.le_refl, Nat.reduceAdd, Nat.reduceLeDiff, co0, z0, zn_0, zn_1, zn_2, zn_3, zn_4, zn_5, zn_8, zn_12, zn_24, zn_121, zn_144, zn_256, zn_300, zn_600, zn_720, zn_1204, zn_1280, zn_2400, zn_4816, zn_14400, zn_90000, p_lane g1, x_lane]
    refine ⟨hk1, hk2, y, j, 1, rfl, rfl, hoky, by decide, ?_⟩
    simp only [p_lane g1, x_lane, i_ic, i_lc, i_nul, i_il, i_ll, i_al, i_is, i_as, i_ls, i_inc, i_iadd, i_isub, i_imul, i_iand, i_ior, i_ixor, i_idiv, i_irem, i_ishl, i_ishr, i_ladd, i_lsub, i_land, i_lor, i_i2l, i_lushr, i_lshl, i_lshr, i_lcmp, i_dup, i_pop, i_dx1, i_dup2, i_ifeq, i_ifne, i_iflt, i_ifge, i_ifgt, i_ifle, i_iceq, i_icne, i_iclt, i_icge, i_icgt, i_icle, i_ifn, i_gf, i_pf, i_ial, i_bal, i_lal, i_aal, i_ias, i_las, i_bas, i_aas, i_alen, i_newa, i_new, i_anew, i_cast, i_oi, i_call, i_callV, i_callV2, i_callI, i_iret, i_zret, i_lret, i_vret, i_aret, i_mmx, i_mmn, i_gsE, i_aceq, i_no, i_acq, i_sw, zsw, zlg, zls, znl, zfg, zcs, zsp, zrc, zisn, zft, zc1, zto, Value.category, List.set_cons_zero, List.set_cons_succ, List.length_cons, List.length_nil, Option.toList, List.append, List.nil_append, List.cons_append, true_and, and_true, Nat.add_zero, Nat.zero_le, Nat.zero_add, Nat.le_refl, Nat.reduceAdd, Nat.reduceLeDiff, co0, z0, zn_0, zn_1, zn_2, zn_3, zn_4, zn_5, zn_8, zn_12, zn_24, zn_121, zn_144, zn_256, zn_300, zn_600, zn_720, zn_1204, zn_1280, zn_2400, zn_4816, zn_14400, zn_90000]
    refine ⟨m_k (by decide), by decide, ?_⟩
    have e : zup (pic y) (16, j, 0) (.inr (2, [.inr (5, 2, j), .inr (5, 3, j), .inl (.int (nI (x_lz y j))), .inr (17, j, 0), .inr (18, j, 0), .inl (.int (nI ((x_lf y j + 1) % 121)))])) = pic (u_lf y (va_up (x_lf y) j ((x_lf y j + 1) % 121))) := by
      refine Eq.trans ?_ (pu_lf y j _ g1)
      simp only [x_lane, g_dk_lf, g_lk_lf, g_po_lf, g_ne_lf, g_td_lf, g_nb_lf, g_ln_lf, g_nr_lf, g_nw_lf, g_nn_lf, g_ns_lf, g_or_lf, g_ow_lf, g_on_lf, g_nl_lf, g_ng_lf, g_rg_lf, g_lc_lf, g_cp_lf, g_gb_lf, g_sp_lf, g_kn_lf, g_me_lf, g_ob_lf, g_fk_lf, g_fz_lf, g_fg_lf, g_rd_lf, g_rz_lf, g_rh_lf, g_nd_lf, g_nm_lf, g_nv_lf, g_nh_lf, g_nf_lf, g_wr_lf, g_wa_lf, g_lz_lf, g_lf_lf, g_li_lf, g_lt_lf, g_lb_lf, g_lr_lf, g_tn_lf, g_tf_lf, va_up, if_true]
    rw [e]
    have g1' : j < x_nl (u_lf y (va_up (x_lf y) j ((x_lf y j + 1) % 121))) := g1
    simp only [p_lane g1', x_lane, g_dk_lf, g_lk_lf, g_po_lf, g_ne_lf, g_td_lf, g_nb_lf, g_ln_lf, g_nr_lf, g_nw_lf, g_nn_lf, g_ns_lf, g_or_lf, g_ow_lf, g_on_lf, g_nl_lf, g_ng_lf, g_rg_lf, g_lc_lf, g_cp_lf, g_gb_lf, g_sp_lf, g_kn_lf, g_me_lf, g_ob_lf, g_fk_lf, g_fz_lf, g_fg_lf, g_rd_lf, g_rz_lf, g_rh_lf, g_nd_lf, g_nm_lf, g_nv_lf, g_nh_lf, g_nf_lf, g_wr_lf, g_wa_lf, g_lz_lf, g_lf_lf, g_li_lf, g_lt_lf, g_lb_lf, g_lr_lf, g_tn_lf, g_tf_lf, va_up, if_true, i_ic, i_lc, i_nul, i_il, i_ll, i_al, i_is, i_as, i_ls, i_inc, i_iadd, i_isub, i_imul, i_iand, i_ior, i_ixor, i_idiv, i_irem, i_ishl, i_ishr, i_ladd, i_lsub, i_land, i_lor, i_i2l, i_lushr, i_lshl, i_lshr, i_lcmp, i_dup, i_pop, i_dx1, i_dup2, i_ifeq, i_ifne, i_iflt, i_ifge, i_ifgt, i_ifle, i_iceq, i_icne, i_iclt, i_icge, i_icgt, i_icle, i_ifn, i_gf, i_pf, i_ial, i_bal, i_lal, i_aal, i_ias, i_las, i_bas, i_aas, i_alen, i_newa, i_new, i_anew, i_cast, i_oi, i_call, i_callV, i_callV2, i_callI, i_iret, i_zret, i_lret, i_vret, i_aret, i_mmx, i_mmn, i_gsE, i_aceq, i_no, i_acq, i_sw, zsw, zlg, zls, znl, zfg, zcs, zsp, zrc, zisn, zft, zc1, zto, Value.category, List.set_cons_zero, List.set_cons_succ, List.length_cons, List.length_nil, Option.toList, List.append, List.nil_append, List.cons_append, true_and, and_true, Nat.add_zero, Nat.zero_le, Nat.zero_add, Nat.le_refl, Nat.reduceAdd, Nat.reduceLeDiff, co0, z0, zn_0, zn_1, zn_2, zn_3, zn_4, zn_5, zn_8, zn_12, zn_24, zn_121, zn_144, zn_256, zn_300, zn_600, zn_720, zn_1204, zn_1280, zn_2400, zn_4816, zn_14400, zn_90000]
    refine ⟨m_k (by decide), by decide, hk1, hk2, ?_⟩
    have e1 : nI (x_lz y j) - 1 = nI (x_lz y j - 1) := by
      obtain ⟨m, hm⟩ : ∃ m, x_lz y j = m + 1 := ⟨x_lz y j - 1, by omega⟩
      rw [hm, nI_pred]; rfl
    rw [e1]
    refine zM (P := Rt _) ?_ (hR1 (by omega))
    have e2 := pu_lz (u_lf y (va_up (x_lf y) j ((x_lf y j + 1) % 121))) j (x_lz y j - 1) g1'
    have e3 : la_take x j = u_lz (u_lf y (va_up (x_lf y) j ((x_lf y j + 1) % 121))) (va_up (x_lz (u_lf y (va_up (x_lf y) j ((x_lf y j + 1) % 121)))) j (x_lz y j - 1)) := by
      rw [g_lz_lf, hy, lf_take1, lz_take1]; rfl
    rw [e3, ← e2]
    simp only [x_lane, g_dk_lf, g_lk_lf, g_po_lf, g_ne_lf, g_td_lf, g_nb_lf, g_ln_lf, g_nr_lf, g_nw_lf, g_nn_lf, g_ns_lf, g_or_lf, g_ow_lf, g_on_lf, g_nl_lf, g_ng_lf, g_rg_lf, g_lc_lf, g_cp_lf, g_gb_lf, g_sp_lf, g_kn_lf, g_me_lf, g_ob_lf, g_fk_lf, g_fz_lf, g_fg_lf, g_rd_lf, g_rz_lf, g_rh_lf, g_nd_lf, g_nm_lf, g_nv_lf, g_nh_lf, g_nf_lf, g_wr_lf, g_wa_lf, g_lz_lf, g_lf_lf, g_li_lf, g_lt_lf, g_lb_lf, g_lr_lf, g_tn_lf, g_tf_lf, g_dk_lz, g_lk_lz, g_po_lz, g_ne_lz, g_td_lz, g_nb_lz, g_ln_lz, g_nr_lz, g_nw_lz, g_nn_lz, g_ns_lz, g_or_lz, g_ow_lz, g_on_lz, g_nl_lz, g_ng_lz, g_rg_lz, g_lc_lz, g_cp_lz, g_gb_lz, g_sp_lz, g_kn_lz, g_me_lz, g_ob_lz, g_fk_lz, g_fz_lz, g_fg_lz, g_rd_lz, g_rz_lz, g_rh_lz, g_nd_lz, g_nm_lz, g_nv_lz, g_nh_lz, g_nf_lz, g_wr_lz, g_wa_lz, g_lz_lz, g_lf_lz, g_li_lz, g_lt_lz, g_lb_lz, g_lr_lz, g_tn_lz, g_tf_lz, va_up, if_true]
  refine s_Lane_takeFirst_0 hC hN _ _ _ _ _ ?_
  have f40 := fin
  simp only [B_Lane_takeFirst_0, B_Lane_takeFirst_9, B_Lane_takeFirst_40, co_Lane_slot, co_Row_set, i_ic, i_lc, i_nul, i_il, i_ll, i_al, i_is, i_as, i_ls, i_inc, i_iadd, i_isub, i_imul, i_iand, i_ior, i_ixor, i_idiv, i_irem, i_ishl, i_ishr, i_ladd, i_lsub, i_land, i_lor, i_i2l, i_lushr, i_lshl, i_lshr, i_lcmp, i_dup, i_pop, i_dx1, i_dup2, i_ifeq, i_ifne, i_iflt, i_ifge, i_ifgt, i_ifle, i_iceq, i_icne, i_iclt, i_icge, i_icgt, i_icle, i_ifn, i_gf, i_pf, i_ial, i_bal, i_lal, i_aal, i_ias, i_las, i_bas, i_aas, i_alen, i_newa, i_new, i_anew, i_cast, i_oi, i_call, i_callV, i_callV2, i_callI, i_iret, i_zret, i_lret, i_vret, i_aret, i_mmx, i_mmn, i_gsE, i_aceq, i_no, i_acq, i_sw, zsw, zlg, zls, znl, zfg, zcs, zsp, zrc, zisn, zft, zc1, zto, Value.category, List.set_cons_zero, List.set_cons_succ, List.length_cons, List.length_nil, Option.toList, List.append, List.nil_append, List.cons_append, true_and, and_true, Nat.add_zero, Nat.zero_le, Nat.zero_add, Nat.le_refl, Nat.reduceAdd, Nat.reduceLeDiff, co0, z0, zn_0, zn_1, zn_2, zn_3, zn_4, zn_5, zn_8, zn_12, zn_24, zn_121, zn_144, zn_256, zn_300, zn_600, zn_720, zn_1204, zn_1280, zn_2400, zn_4816, zn_14400, zn_90000, p_lane h1, p_item h1, x_lane]
  refine ⟨fun hz => ?_, fun hz => hR0 ((nI_z (by omega)).mp hz)⟩
  have hz : x_lz x j ≠ 0 := fun q => hz ((nI_z (by omega)).mpr q)
  refine ⟨vp_in_nI h3 (by decide), ?_⟩
  rw [nI_clamp (by omega)]
  refine ⟨fun hi => ?_, fun hi => ?_⟩
  · have e0 : x = la_take1 x j := by unfold la_take1; rw [if_neg hi]
    have := f40 x hok rfl rfl (by omega) e0 0 0 (Nat.zero_le _) (Nat.zero_le _)
    simp only [B_Lane_takeFirst_0, B_Lane_takeFirst_9, B_Lane_takeFirst_40, co_Lane_slot, co_Row_set, i_ic, i_lc, i_nul, i_il, i_ll, i_al, i_is, i_as, i_ls, i_inc, i_iadd, i_isub, i_imul, i_iand, i_ior, i_ixor, i_idiv, i_irem, i_ishl, i_ishr, i_ladd, i_lsub, i_land, i_lor, i_i2l, i_lushr, i_lshl, i_lshr, i_lcmp, i_dup, i_pop, i_dx1, i_dup2, i_ifeq, i_ifne, i_iflt, i_ifge, i_ifgt, i_ifle, i_iceq, i_icne, i_iclt, i_icge, i_icgt, i_icle, i_ifn, i_gf, i_pf, i_ial, i_bal, i_lal, i_aal, i_ias, i_las, i_bas, i_aas, i_alen, i_newa, i_new, i_anew, i_cast, i_oi, i_call, i_callV, i_callV2, i_callI, i_iret, i_zret, i_lret, i_vret, i_aret, i_mmx, i_mmn, i_gsE, i_aceq, i_no, i_acq, i_sw, zsw, zlg, zls, znl, zfg, zcs, zsp, zrc, zisn, zft, zc1, zto, Value.category, List.set_cons_zero, List.set_cons_succ, List.length_cons, List.length_nil, Option.toList, List.append, List.nil_append, List.cons_append, true_and, and_true, Nat.add_zero, Nat.zero_le, Nat.zero_add, Nat.le_refl, Nat.reduceAdd, Nat.reduceLeDiff, co0, z0, zn_0, zn_1, zn_2, zn_3, zn_4, zn_5, zn_8, zn_12, zn_24, zn_121, zn_144, zn_256, zn_300, zn_600, zn_720, zn_1204, zn_1280, zn_2400, zn_4816, zn_14400, zn_90000, p_lane h1, x_lane] at this
    exact this
  · have hcc := hc hz hi
    refine ⟨if x_lr x j (x_lf x j) = none then 2 else 0, if x_lr x j (x_lf x j) = none then 6 else 0, ?_⟩
    generalize hk1 : (if x_lr x j (x_lf x j) = none then 2 else 0) = k1
    generalize hk2 : (if x_lr x j (x_lf x j) = none then 6 else 0) = k2
    have hk1c : k1 ≤ c1 := by
      rw [← hk1]; split
      · next q => exact (hcc q).1
      · exact Nat.zero_le _
    have hk2c : k2 ≤ c2 := by
      rw [← hk2]; split
      · next q => exact (hcc q).2
      · exact Nat.zero_le _
    refine ⟨hk1c, hk2c, x, j, x_lf x j, rfl, rfl, h1, h3, ?_, ?_⟩
    · intro q; rw [← hk1, ← hk2, if_pos q, if_pos q]; decide
    · have hnl : j < x_nl (la_mk x j (x_lf x j)) := by rw [nl_mk]; exact h1
      have er : x_rw (la_mk x j (x_lf x j)) (4 + j) (x_lf x j) = some (la_row x j (x_lf x j)) := by rw [r_lr hnl h3]; exact la_row_e x j (x_lf x j)
      simp only [p_rowO (r_lb hnl), i_ic, i_lc, i_nul, i_il, i_ll, i_al, i_is, i_as, i_ls, i_inc, i_iadd, i_isub, i_imul, i_iand, i_ior, i_ixor, i_idiv, i_irem, i_ishl, i_ishr, i_ladd, i_lsub, i_land, i_lor, i_i2l, i_lushr, i_lshl, i_lshr, i_lcmp, i_dup, i_pop, i_dx1, i_dup2, i_ifeq, i_ifne, i_iflt, i_ifge, i_ifgt, i_ifle, i_iceq, i_icne, i_iclt, i_icge, i_icgt, i_icle, i_ifn, i_gf, i_pf, i_ial, i_bal, i_lal, i_aal, i_ias, i_las, i_bas, i_aas, i_alen, i_newa, i_new, i_anew, i_cast, i_oi, i_call, i_callV, i_callV2, i_callI, i_iret, i_zret, i_lret, i_vret, i_aret, i_mmx, i_mmn, i_gsE, i_aceq, i_no, i_acq, i_sw, zsw, zlg, zls, znl, zfg, zcs, zsp, zrc, zisn, zft, zc1, zto, Value.category, List.set_cons_zero, List.set_cons_succ, List.length_cons, List.length_nil, Option.toList, List.append, List.nil_append, List.cons_append, true_and, and_true, Nat.add_zero, Nat.zero_le, Nat.zero_add, Nat.le_refl, Nat.reduceAdd, Nat.reduceLeDiff, co0, z0, zn_0, zn_1, zn_2, zn_3, zn_4, zn_5, zn_8, zn_12, zn_24, zn_121, zn_144, zn_256, zn_300, zn_600, zn_720, zn_1204, zn_1280, zn_2400, zn_4816, zn_14400, zn_90000]
      refine ⟨hk1c, hk2c, (5, 3, j), (6, 3, j), x_lb (la_mk x j (x_lf x j)) j, (5, 4 + j, x_lf x j), (6, 4 + j, x_lf x j), la_row x j (x_lf x j), rfl, m_k (by decide), by intro q; simp only [Prod.mk.injEq] at q; omega, p_row (r_lb hnl), p_row er, ?_⟩
      rw [pu_lb _ j _ hnl, lb_mk]
      have ey : u_lb (la_mk x j (x_lf x j)) (va_up (x_lb x) j (rw_set (x_lb x j) (la_row x j (x_lf x j)))) = la_take1 x j := by unfold la_take1; rw [if_pos hi]
      rw [ey]
      have hokt : ln_ok (la_take1 x j) j := by
        refine ⟨by rw [nl_take1]; exact h1, by rw [lz_take1]; exact h2, by rw [lf_take1]; exact h3⟩
      have := f40 (la_take1 x j) hokt (by rw [lf_take1]) (by rw [lz_take1]) (by omega) rfl k1 k2 hk1c hk2c
      simp only [B_Lane_takeFirst_0, B_Lane_takeFirst_9, B_Lane_takeFirst_40, co_Lane_slot, co_Row_set, i_ic, i_lc, i_nul, i_il, i_ll, i_al, i_is, i_as, i_ls, i_inc, i_iadd, i_isub, i_imul, i_iand, i_ior, i_ixor, i_idiv, i_irem, i_ishl, i_ishr, i_ladd, i_lsub, i_land, i_lor, i_i2l, i_lushr, i_lshl, i_lshr, i_lcmp, i_dup, i_pop, i_dx1, i_dup2, i_ifeq, i_ifne, i_iflt, i_ifge, i_ifgt, i_ifle, i_iceq, i_icne, i_iclt, i_icge, i_icgt, i_icle, i_ifn, i_gf, i_pf, i_ial, i_bal, i_lal, i_aal, i_ias, i_las, i_bas, i_aas, i_alen, i_newa, i_new, i_anew, i_cast, i_oi, i_call, i_callV, i_callV2, i_callI, i_iret, i_zret, i_lret, i_vret, i_aret, i_mmx, i_mmn, i_gsE, i_aceq, i_no, i_acq, i_sw, zsw, zlg, zls, znl, zfg, zcs, zsp, zrc, zisn, zft, zc1, zto, Value.category, List.set_cons_zero, List.set_cons_succ, List.length_cons, List.length_nil, Option.toList, List.append, List.nil_append, List.cons_append, true_and, and_true, Nat.add_zero, Nat.zero_le, Nat.zero_add, Nat.le_refl, Nat.reduceAdd, Nat.reduceLeDiff, co0, z0, zn_0, zn_1, zn_2, zn_3, zn_4, zn_5, zn_8, zn_12, zn_24, zn_121, zn_144, zn_256, zn_300, zn_600, zn_720, zn_1204, zn_1280, zn_2400, zn_4816, zn_14400, zn_90000] at this
      simp only [i_ic, i_lc, i_nul, i_il, i_ll, i_al, i_is, i_as, i_ls, i_inc, i_iadd, i_isub, i_imul, i_iand, i_ior, i_ixor, i_idiv, i_irem, i_ishl, i_ishr, i_ladd, i_lsub, i_land, i_lor, i_i2l, i_lushr, i_lshl, i_lshr, i_lcmp, i_dup, i_pop, i_dx1, i_dup2, i_ifeq, i_ifne, i_iflt, i_ifge, i_ifgt, i_ifle, i_iceq, i_icne, i_iclt, i_icge, i_icgt, i_icle, i_ifn, i_gf, i_pf, i_ial, i_bal, i_lal, i_aal, i_ias, i_las, i_bas, i_aas, i_alen, i_newa, i_new, i_anew, i_cast, i_oi, i_call, i_callV, i_callV2, i_callI, i_iret, i_zret, i_lret, i_vret, i_aret, i_mmx, i_mmn, i_gsE, i_aceq, i_no, i_acq, i_sw, zsw, zlg, zls, znl, zfg, zcs, zsp, zrc, zisn, zft, zc1, zto, Value.category, List.set_cons_zero, List.set_cons_succ, List.length_cons, List.length_nil, Option.toList, List.append, List.nil_append, List.cons_append, true_and, and_true, Nat.add_zero, Nat.zero_le, Nat.zero_add, Nat.le_refl, Nat.reduceAdd, Nat.reduceLeDiff, co0, z0, zn_0, zn_1, zn_2, zn_3, zn_4, zn_5, zn_8, zn_12, zn_24, zn_121, zn_144, zn_256, zn_300, zn_600, zn_720, zn_1204, zn_1280, zn_2400, zn_4816, zn_14400, zn_90000]
      exact this
/-- how many of the first n items are tells -/
def la_tl (x : zSt) (l : Nat) : Nat → Nat
  | 0 => 0
  | n + 1 => la_tl x l n + (if la_at x l n = -2 then 1 else 0)
theorem la_tl_le (x : zSt) (l : Nat) : ∀ n, la_tl x l n ≤ n
  | 0 => Nat.le_refl _
  | n + 1 => by
    have := la_tl_le x l n
    simp only [la_tl]
    split <;> omega
def T_Lane_tells (As : List zAV) (M : zMp) (Rt : Option zAV → zMp → Prop) : Prop := ∃ x l, As = [.inr (16, l, 0)] ∧ M = pic x ∧ ln_ok x l ∧ Rt (some (.inl (.int (nI (la_tl x l (x_lz x l)))))) (pic x)
abbrev co_Lane_tells := co0
theorem dX1_tells_0 : decode cX1_tells 0 = .ok (.iconst 0, 1) := by decide +kernel
theorem dX1_tells_1 : decode cX1_tells 1 = .ok (.istore_n 1, 1) := by decide +kernel
theorem dX1_tells_2 : decode cX1_tells 2 = .ok (.iconst 0, 1) := by decide +kernel
theorem dX1_tells_3 : decode cX1_tells 3 = .ok (.istore_n 2, 1) := by decide +kernel
theorem dX1_tells_4 : decode cX1_tells 4 = .ok (.iload_n 2, 1) := by decide +kernel
theorem dX1_tells_5 : decode cX1_tells 5 = .ok (.aload_n 0, 1) := by decide +kernel
theorem dX1_tells_6 : decode cX1_tells 6 = .ok (.getfield 21, 3) := by decide +kernel
theorem dX1_tells_9 : decode cX1_tells 9 = .ok (.if_icmp .ge 22, 3) := by decide +kernel
theorem dX1_tells_12 : decode cX1_tells 12 = .ok (.aload_n 0, 1) := by decide +kernel
theorem dX1_tells_13 : decode cX1_tells 13 = .ok (.iload_n 2, 1) := by decide +kernel
theorem dX1_tells_14 : decode cX1_tells 14 = .ok (.invokevirtual 40, 3) := by decide +kernel
theorem dX1_tells_17 : decode cX1_tells 17 = .ok (.bipush (-2), 2) := by decide +kernel
theorem dX1_tells_19 : decode cX1_tells 19 = .ok (.if_icmp .ne 6, 3) := by decide +kernel
theorem dX1_tells_22 : decode cX1_tells 22 = .ok (.iinc 1 1, 3) := by decide +kernel
theorem dX1_tells_25 : decode cX1_tells 25 = .ok (.iinc 2 1, 3) := by decide +kernel
theorem dX1_tells_28 : decode cX1_tells 28 = .ok (.goto (-24), 3) := by decide +kernel
theorem dX1_tells_31 : decode cX1_tells 31 = .ok (.iload_n 1, 1) := by decide +kernel
theorem dX1_tells_32 : decode cX1_tells 32 = .ok (.ireturn, 1) := by decide +kernel
def B_Lane_tells_31 (mc ms : Nat) (Rt : Option zAV → zMp → Prop) (g : Nat → zKT) : zKT :=
  (i_il 1 (i_iret mc ms Rt))
set_option maxRecDepth 20000 in
theorem s_Lane_tells_31 {X : zMa} {mc ms : Nat} {Rt : Option zAV → zMp → Prop} (hC : zCx X RX1 cX1_tells 2 42 mc ms (some .int) false Rt) (hN : zNL X = 3) : zLe (B_Lane_tells_31 mc ms Rt (zG X)) (zG X 31) :=
  (sd_il_n hC rfl dX1_tells_31 ((sd_iret hC dX1_tells_32)))
def B_Lane_tells_25 (mc ms : Nat) (Rt : Option zAV → zMp → Prop) (g : Nat → zKT) : zKT :=
  (i_inc 2 1 (g 4))
set_option maxRecDepth 20000 in
theorem s_Lane_tells_25 {X : zMa} {mc ms : Nat} {Rt : Option zAV → zMp → Prop} (hC : zCx X RX1 cX1_tells 2 42 mc ms (some .int) false Rt) (hN : zNL X = 3) : zLe (B_Lane_tells_25 mc ms Rt (zG X)) (zG X 25) :=
  (sd_inc hC (by decide) (by rw [hN]; decide) dX1_tells_25 ((sd_goto hC (tgt := 4) (by decide) dX1_tells_28 (zLe_rfl))))
def B_Lane_tells_4 (mc ms : Nat) (Rt : Option zAV → zMp → Prop) (g : Nat → zKT) : zKT :=
  (i_il 2 (i_al 0 (i_gf 2 2 (i_icge (B_Lane_tells_31 mc ms Rt g) (i_al 0 (i_il 2 (i_callV mc ms 2 2 T_Lane_itemAt co_Lane_itemAt (i_ic (-2) (i_icne (B_Lane_tells_25 mc ms Rt g) (i_inc 1 1 (B_Lane_tells_25 mc ms Rt g)))))))))))
set_option maxRecDepth 20000 in
theorem s_Lane_tells_4 {X : zMa} {mc ms : Nat} {Rt : Option zAV → zMp → Prop} (hC : zCx X RX1 cX1_tells 2 42 mc ms (some .int) false Rt) (hN : zNL X = 3) : zLe (B_Lane_tells_4 mc ms Rt (zG X)) (zG X 4) :=
  (sd_il_n hC rfl dX1_tells_4 ((sd_al_n hC rfl dX1_tells_5 ((sd_gf hC (ci := 2) (fk := 2) rfl wi_Lane (by decide) fl_Lane_21 (Or.inl rfl) dX1_tells_6 ((sd_icge hC (tgt := 31) (by decide) dX1_tells_9 (s_Lane_tells_31 hC hN) ((sd_al_n hC rfl dX1_tells_12 ((sd_il_n hC rfl dX1_tells_13 ((sd_cV hC c_Lane_itemAt yv_Lane_itemAt (ci := 2) rfl rfl ml_Lane_40 (by decide) (by decide) dX1_tells_14 ((sd_bipush hC (by decide) dX1_tells_17 ((sd_icne hC (tgt := 25) (by decide) dX1_tells_19 (s_Lane_tells_25 hC hN) ((sd_inc hC (by decide) (by rw [hN]; decide) dX1_tells_22 (s_Lane_tells_25 hC hN))))))))))))))))))))
def B_Lane_tells_0 (mc ms : Nat) (Rt : Option zAV → zMp → Prop) (g : Nat → zKT) : zKT :=
  (i_ic 0 (i_is 1 (i_ic 0 (i_is 2 (g 4)))))
set_option maxRecDepth 20000 in
theorem s_Lane_tells_0 {X : zMa} {mc ms : Nat} {Rt : Option zAV → zMp → Prop} (hC : zCx X RX1 cX1_tells 2 42 mc ms (some .int) false Rt) (hN : zNL X = 3) : zLe (B_Lane_tells_0 mc ms Rt (zG X)) (zG X 0) :=
  (sd_iconst hC (by decide) dX1_tells_0 ((sd_is_n hC rfl (by rw [hN]; decide) dX1_tells_1 ((sd_iconst hC (by decide) dX1_tells_2 ((sd_is_n hC rfl (by rw [hN]; decide) dX1_tells_3 (zLe_rfl))))))))
theorem c_Lane_tells (l : Launch) : zCT l yX1_tells cX1_tells 3 (some .int) 2 42 T_Lane_tells co_Lane_tells := by
  intro As M Rt hT
  obtain ⟨x, j, rfl, rfl, hok, hR⟩ := hT
  obtain ⟨h1, h2, h3⟩ := id hok
  refine zMet_of false (by decide +kernel) (fun h => by first | rfl | cases h) (Nat.le_of_ble_eq_true rfl) (fun X hN hC => ?_)
  show zG X 0 [some (.inr (16, j, 0)), none, none] [] (pic x) 0 0
  have loop := upto (N := x_lz x j) (P := fun i => zG X 4 [some (.inr (16, j, 0)), some (.inl (.int (nI (la_tl x j i)))), some (.inl (.int (nI i)))] [] (pic x) 0 0) (fun i hi ih => by
    refine s_Lane_tells_4 hC hN _ _ _ _ _ ?_
    simp only [B_Lane_tells_0, B_Lane_tells_4, B_Lane_tells_25, B_Lane_tells_31, co_Lane_itemAt, co_Lane_tells, i_ic, i_lc, i_nul, i_il, i_ll, i_al, i_is, i_as, i_ls, i_inc, i_iadd, i_isub, i_imul, i_iand, i_ior, i_ixor, i_idiv, i_irem, i_ishl, i_ishr, i_ladd, i_lsub, i_land, i_lor, i_i2l, i_lushr, i_lshl, i_lshr, i_lcmp, i_dup, i_pop, i_dx1, i_dup2, i_ifeq, i_ifne, i_iflt, i_ifge, i_ifgt, i_ifle, i_iceq, i_icne, i_iclt, i_icge, i_icgt, i_icle, i_ifn, i_gf, i_pf, i_ial, i_bal, i_lal, i_aal, i_ias, i_las, i_bas, i_aas, i_alen, i_newa, i_new, i_anew, i_cast, i_oi, i_call, i_callV, i_callV2, i_callI, i_iret, i_zret, i_lret, i_vret, i_aret, i_mmx, i_mmn, i_gsE, i_aceq, i_no, i_acq, i_sw, zsw, zlg, zls, znl, zfg, zcs, zsp, zrc, zisn, zft, zc1, zto, Value.category, List.set_cons_zero, List.set_cons_succ, List.length_cons, List.length_nil, Option.toList, List.append, List.nil_append, List.cons_append, true_and, and_true, Nat.add_zero, Nat.zero_le, Nat.zero_add, Nat.le_refl, Nat.reduceAdd, Nat.reduceLeDiff, co0, z0, zn_0, zn_1, zn_2, zn_3, zn_4, zn_5, zn_8, zn_12, zn_24, zn_121, zn_144, zn_256, zn_300, zn_600, zn_720, zn_1204, zn_1280, zn_2400, zn_4816, zn_14400, zn_90000, p_lane h1, x_lane]
    refine ⟨fun h => absurd ((zK (K := x_lz x j) (by omega) (n := i) (by omega)).2.1.mp h) (by omega), fun _ => ⟨x, j, nI i, rfl, rfl, hok, ?_⟩⟩
    have ei : la_item x j (nI i) = la_at x j i := by
      unfold la_item
      rw [if_pos ⟨nI_pos (by omega), nI_lt hi (by omega)⟩, nI_clamp (by omega)]
    rw [ei, nI_1, nI_1]
    simp only [la_tl] at ih
    refine ⟨fun hn => ?_, fun he => ?_⟩
    · rw [if_neg hn] at ih; exact ih
    · rw [if_pos he] at ih; exact ih) (by
    refine s_Lane_tells_4 hC hN _ _ _ _ _ ?_
    simp only [B_Lane_tells_0, B_Lane_tells_4, B_Lane_tells_25, B_Lane_tells_31, co_Lane_itemAt, co_Lane_tells, i_ic, i_lc, i_nul, i_il, i_ll, i_al, i_is, i_as, i_ls, i_inc, i_iadd, i_isub, i_imul, i_iand, i_ior, i_ixor, i_idiv, i_irem, i_ishl, i_ishr, i_ladd, i_lsub, i_land, i_lor, i_i2l, i_lushr, i_lshl, i_lshr, i_lcmp, i_dup, i_pop, i_dx1, i_dup2, i_ifeq, i_ifne, i_iflt, i_ifge, i_ifgt, i_ifle, i_iceq, i_icne, i_iclt, i_icge, i_icgt, i_icle, i_ifn, i_gf, i_pf, i_ial, i_bal, i_lal, i_aal, i_ias, i_las, i_bas, i_aas, i_alen, i_newa, i_new, i_anew, i_cast, i_oi, i_call, i_callV, i_callV2, i_callI, i_iret, i_zret, i_lret, i_vret, i_aret, i_mmx, i_mmn, i_gsE, i_aceq, i_no, i_acq, i_sw, zsw, zlg, zls, znl, zfg, zcs, zsp, zrc, zisn, zft, zc1, zto, Value.category, List.set_cons_zero, List.set_cons_succ, List.length_cons, List.length_nil, Option.toList, List.append, List.nil_append, List.cons_append, true_and, and_true, Nat.add_zero, Nat.zero_le, Nat.zero_add, Nat.le_refl, Nat.reduceAdd, Nat.reduceLeDiff, co0, z0, zn_0, zn_1, zn_2, zn_3, zn_4, zn_5, zn_8, zn_12, zn_24, zn_121, zn_144, zn_256, zn_300, zn_600, zn_720, zn_1204, zn_1280, zn_2400, zn_4816, zn_14400, zn_90000, p_lane h1, x_lane]
    exact ⟨fun _ => hR, fun h => absurd ((zK (K := x_lz x j) (by omega) (n := x_lz x j) (by omega)).2.1.mpr (Nat.le_refl _)) h⟩) 0 (Nat.zero_le _)
  refine s_Lane_tells_0 hC hN _ _ _ _ _ ?_
  simp only [B_Lane_tells_0, B_Lane_tells_4, B_Lane_tells_25, B_Lane_tells_31, co_Lane_itemAt, co_Lane_tells, i_ic, i_lc, i_nul, i_il, i_ll, i_al, i_is, i_as, i_ls, i_inc, i_iadd, i_isub, i_imul, i_iand, i_ior, i_ixor, i_idiv, i_irem, i_ishl, i_ishr, i_ladd, i_lsub, i_land, i_lor, i_i2l, i_lushr, i_lshl, i_lshr, i_lcmp, i_dup, i_pop, i_dx1, i_dup2, i_ifeq, i_ifne, i_iflt, i_ifge, i_ifgt, i_ifle, i_iceq, i_icne, i_iclt, i_icge, i_icgt, i_icle, i_ifn, i_gf, i_pf, i_ial, i_bal, i_lal, i_aal, i_ias, i_las, i_bas, i_aas, i_alen, i_newa, i_new, i_anew, i_cast, i_oi, i_call, i_callV, i_callV2, i_callI, i_iret, i_zret, i_lret, i_vret, i_aret, i_mmx, i_mmn, i_gsE, i_aceq, i_no, i_acq, i_sw, zsw, zlg, zls, znl, zfg, zcs, zsp, zrc, zisn, zft, zc1, zto, Value.category, List.set_cons_zero, List.set_cons_succ, List.length_cons, List.length_nil, Option.toList, List.append, List.nil_append, List.cons_append, true_and, and_true, Nat.add_zero, Nat.zero_le, Nat.zero_add, Nat.le_refl, Nat.reduceAdd, Nat.reduceLeDiff, co0, z0, zn_0, zn_1, zn_2, zn_3, zn_4, zn_5, zn_8, zn_12, zn_24, zn_121, zn_144, zn_256, zn_300, zn_600, zn_720, zn_1204, zn_1280, zn_2400, zn_4816, zn_14400, zn_90000]
  exact loop
def rw_clr (f : Nat → Int64) : Nat → Int64 := fun j => if j < 5 then 0 else f j
def la_clear (x : zSt) (l : Nat) : zSt := u_lf (u_lz (u_lb (u_lt x (va_up (x_lt x) l (rw_clr (x_lt x l)))) (va_up (x_lb x) l (rw_clr (x_lb x l)))) (va_up (x_lz x) l 0)) (va_up (x_lf x) l 0)
def T_Lane_clear (As : List zAV) (M : zMp) (Rt : Option zAV → zMp → Prop) : Prop := ∃ x l, As = [.inr (16, l, 0)] ∧ M = pic x ∧ l < x_nl x ∧ Rt none (pic (la_clear x l))
abbrev co_Lane_clear := co0
theorem dX1_clear_0 : decode cX1_clear 0 = .ok (.aload_n 0, 1) := by decide +kernel
theorem dX1_clear_1 : decode cX1_clear 1 = .ok (.getfield 12, 3) := by decide +kernel
theorem dX1_clear_4 : decode cX1_clear 4 = .ok (.invokevirtual 51, 3) := by decide +kernel
theorem dX1_clear_7 : decode cX1_clear 7 = .ok (.aload_n 0, 1) := by decide +kernel
theorem dX1_clear_8 : decode cX1_clear 8 = .ok (.getfield 18, 3) := by decide +kernel
theorem dX1_clear_11 : decode cX1_clear 11 = .ok (.invokevirtual 51, 3) := by decide +kernel
theorem dX1_clear_14 : decode cX1_clear 14 = .ok (.aload_n 0, 1) := by decide +kernel
theorem dX1_clear_15 : decode cX1_clear 15 = .ok (.iconst 0, 1) := by decide +kernel
theorem dX1_clear_16 : decode cX1_clear 16 = .ok (.putfield 21, 3) := by decide +kernel
theorem dX1_clear_19 : decode cX1_clear 19 = .ok (.aload_n 0, 1) := by decide +kernel
theorem dX1_clear_20 : decode cX1_clear 20 = .ok (.iconst 0, 1) := by decide +kernel
theorem dX1_clear_21 : decode cX1_clear 21 = .ok (.putfield 33, 3) := by decide +kernel
theorem dX1_clear_24 : decode cX1_clear 24 = .ok (.return_, 1) := by decide +kernel
def B_Lane_clear_0 (mc ms : Nat) (Rt : Option zAV → zMp → Prop) (g : Nat → zKT) : zKT :=
  (i_al 0 (i_gf 2 0 (i_callV mc ms 5 1 T_Row_clear co_Row_clear (i_al 0 (i_gf 2 1 (i_callV mc ms 5 1 T_Row_clear co_Row_clear (i_al 0 (i_ic 0 (i_pf 2 2 .int (i_al 0 (i_ic 0 (i_pf 2 5 .int (i_vret mc ms Rt)))))))))))))
set_option maxRecDepth 20000 in
theorem s_Lane_clear_0 {X : zMa} {mc ms : Nat} {Rt : Option zAV → zMp → Prop} (hC : zCx X RX1 cX1_clear 1 21 mc ms (none) false Rt) : zLe (B_Lane_clear_0 mc ms Rt (zG X)) (zG X 0) :=
  (sd_al_n hC rfl dX1_clear_0 ((sd_gf hC (ci := 2) (fk := 0) rfl wi_Lane (by decide) fl_Lane_12 (Or.inl rfl) dX1_clear_1 ((sd_cV hC c_Row_clear yv_Row_clear (ci := 5) rfl rfl ml_Lane_51 (by decide) (by decide) dX1_clear_4 ((sd_al_n hC rfl dX1_clear_7 ((sd_gf hC (ci := 2) (fk := 1) rfl wi_Lane (by decide) fl_Lane_18 (Or.inl rfl) dX1_clear_8 ((sd_cV hC c_Row_clear yv_Row_clear (ci := 5) rfl rfl ml_Lane_51 (by decide) (by decide) dX1_clear_11 ((sd_al_n hC rfl dX1_clear_14 ((sd_iconst hC (by decide) dX1_clear_15 ((sd_pf hC (ci := 2) (fk := 2) rfl wi_Lane tyX1 tyX1_ok nmX1 (by decide) fl_Lane_21 (Or.inl rfl) (Or.inl rfl) dX1_clear_16 ((sd_al_n hC rfl dX1_clear_19 ((sd_iconst hC (by decide) dX1_clear_20 ((sd_pf hC (ci := 2) (fk := 5) rfl wi_Lane tyX1 tyX1_ok nmX1 (by decide) fl_Lane_33 (Or.inl rfl) (Or.inl rfl) dX1_clear_21 ((sd_vret hC dX1_clear_24)))))))))))))))))))))))))
theorem c_Lane_clear (l : Launch) : zCT l yX1_clear cX1_clear 1 (none) 1 21 T_Lane_clear co_Lane_clear := by
  intro As M Rt hT
  obtain ⟨x, j, rfl, rfl, h1, hR⟩ := hT
  refine zMet_of false (by decide +kernel) (fun h => by first | rfl | cases h) (Nat.le_of_ble_eq_true rfl) (fun X hN hC => ?_)
  show zG X 0 [some (.inr (16, j, 0))] [] (pic x) 0 0
  refine s_Lane_clear_0 hC _ _ _ _ _ ?_
  simp only [B_Lane_clear_0, co_Lane_clear, co_Row_clear, i_ic, i_lc, i_nul, i_il, i_ll, i_al, i_is, i_as, i_ls, i_inc, i_iadd, i_isub, i_imul, i_iand, i_ior, i_ixor, i_idiv, i_irem, i_ishl, i_ishr, i_ladd, i_lsub, i_land, i_lor, i_i2l, i_lushr, i_lshl, i_lshr, i_lcmp, i_dup, i_pop, i_dx1, i_dup2, i_ifeq, i_ifne, i_iflt, i_ifge, i_ifgt, i_ifle, i_iceq, i_icne, i_iclt, i_icge, i_icgt, i_icle, i_ifn, i_gf, i_pf, i_ial, i_bal, i_lal, i_aal, i_ias, i_las, i_bas, i_aas, i_alen, i_newa, i_new, i_anew, i_cast, i_oi, i_call, i_callV, i_callV2, i_callI, i_iret, i_zret, i_lret, i_vret, i_aret, i_mmx, i_mmn, i_gsE, i_aceq, i_no, i_acq, i_sw, zsw, zlg, zls, znl, zfg, zcs, zsp, zrc, zisn, zft, zc1, zto, Value.category, List.set_cons_zero, List.set_cons_succ, List.length_cons, List.length_nil, Option.toList, List.append, List.nil_append, List.cons_append, true_and, and_true, Nat.add_zero, Nat.zero_le, Nat.zero_add, Nat.le_refl, Nat.reduceAdd, Nat.reduceLeDiff, co0, z0, zn_0, zn_1, zn_2, zn_3, zn_4, zn_5, zn_8, zn_12, zn_24, zn_121, zn_144, zn_256, zn_300, zn_600, zn_720, zn_1204, zn_1280, zn_2400, zn_4816, zn_14400, zn_90000, p_lane h1, x_lane, p_rowO (r_lt h1)]
  refine ⟨(5, 2, j), (6, 2, j), x_lt x j, rfl, m_k (by decide), p_row (r_lt h1), ?_⟩
  rw [pu_lt x j _ h1]
  have h2 : j < x_nl (u_lt x (va_up (x_lt x) j (fun i => if i < 5 then 0 else x_lt x j i))) := h1
  simp only [p_lane h2, x_lane, p_rowO (r_lb h2), g_dk_lt, g_lk_lt, g_po_lt, g_ne_lt, g_td_lt, g_nb_lt, g_ln_lt, g_nr_lt, g_nw_lt, g_nn_lt, g_ns_lt, g_or_lt, g_ow_lt, g_on_lt, g_nl_lt, g_ng_lt, g_rg_lt, g_lc_lt, g_cp_lt, g_gb_lt, g_sp_lt, g_kn_lt, g_me_lt, g_ob_lt, g_fk_lt, g_fz_lt, g_fg_lt, g_rd_lt, g_rz_lt, g_rh_lt, g_nd_lt, g_nm_lt, g_nv_lt, g_nh_lt, g_nf_lt, g_wr_lt, g_wa_lt, g_lz_lt, g_lf_lt, g_li_lt, g_lt_lt, g_lb_lt, g_lr_lt, g_tn_lt, g_tf_lt, i_ic, i_lc, i_nul, i_il, i_ll, i_al, i_is, i_as, i_ls, i_inc, i_iadd, i_isub, i_imul, i_iand, i_ior, i_ixor, i_idiv, i_irem, i_ishl, i_ishr, i_ladd, i_lsub, i_land, i_lor, i_i2l, i_lushr, i_lshl, i_lshr, i_lcmp, i_dup, i_pop, i_dx1, i_dup2, i_ifeq, i_ifne, i_iflt, i_ifge, i_ifgt, i_ifle, i_iceq, i_icne, i_iclt, i_icge, i_icgt, i_icle, i_ifn, i_gf, i_pf, i_ial, i_bal, i_lal, i_aal, i_ias, i_las, i_bas, i_aas, i_alen, i_newa, i_new, i_anew, i_cast, i_oi, i_call, i_callV, i_callV2, i_callI, i_iret, i_zret, i_lret, i_vret, i_aret, i_mmx, i_mmn, i_gsE, i_aceq, i_no, i_acq, i_sw, zsw, zlg, zls, znl, zfg, zcs, zsp, zrc, zisn, zft, zc1, zto, Value.category, List.set_cons_zero, List.set_cons_succ, List.length_cons, List.length_nil, Option.toList, List.append, List.nil_append, List.cons_append, true_and, and_true, Nat.add_zero, Nat.zero_le, Nat.zero_add, Nat.le_refl, Nat.reduceAdd, Nat.reduceLeDiff, co0, z0, zn_0, zn_1, zn_2, zn_3, zn_4, zn_5, zn_8, zn_12, zn_24, zn_121, zn_144, zn_256, zn_300, zn_600, zn_720, zn_1204, zn_1280, zn_2400, zn_4816, zn_14400, zn_90000]
  refine ⟨(5, 3, j), (6, 3, j), x_lb x j, rfl, m_k (by decide), p_row (r_lb h2), ?_⟩
  rw [pu_lb _ j _ h2]
  generalize hy : u_lb (u_lt x (va_up (x_lt x) j (fun i => if i < 5 then 0 else x_lt x j i))) (va_up (x_lb (u_lt x (va_up (x_lt x) j (fun i => if i < 5 then 0 else x_lt x j i)))) j (fun i => if i < 5 then 0 else x_lb x j i)) = y
  have h3 : j < x_nl y := by rw [← hy]; exact h1
  simp only [p_lane h3, x_lane, zup_s, zup_zup, i_ic, i_lc, i_nul, i_il, i_ll, i_al, i_is, i_as, i_ls, i_inc, i_iadd, i_isub, i_imul, i_iand, i_ior, i_ixor, i_idiv, i_irem, i_ishl, i_ishr, i_ladd, i_lsub, i_land, i_lor, i_i2l, i_lushr, i_lshl, i_lshr, i_lcmp, i_dup, i_pop, i_dx1, i_dup2, i_ifeq, i_ifne, i_iflt, i_ifge, i_ifgt, i_ifle, i_iceq, i_icne, i_iclt, i_icge, i_icgt, i_icle, i_ifn, i_gf, i_pf, i_ial, i_bal, i_lal, i_aal, i_ias, i_las, i_bas, i_aas, i_alen, i_newa, i_new, i_anew, i_cast, i_oi, i_call, i_callV, i_callV2, i_callI, i_iret, i_zret, i_lret, i_vret, i_aret, i_mmx, i_mmn, i_gsE, i_aceq, i_no, i_acq, i_sw, zsw, zlg, zls, znl, zfg, zcs, zsp, zrc, zisn, zft, zc1, zto, Value.category, List.set_cons_zero, List.set_cons_succ, List.length_cons, List.length_nil, Option.toList, List.append, List.nil_append, List.cons_append, true_and, and_true, Nat.add_zero, Nat.zero_le, Nat.zero_add, Nat.le_refl, Nat.reduceAdd, Nat.reduceLeDiff, co0, z0, zn_0, zn_1, zn_2, zn_3, zn_4, zn_5, zn_8, zn_12, zn_24, zn_121, zn_144, zn_256, zn_300, zn_600, zn_720, zn_1204, zn_1280, zn_2400, zn_4816, zn_14400, zn_90000]
  refine ⟨m_k (by decide), by decide, m_k (by decide), by decide, ?_⟩
  refine zM (P := Rt none) ?_ hR
  have h4 : j < x_nl (u_lz y (va_up (x_lz y) j 0)) := h3
  have e := pu_lf (u_lz y (va_up (x_lz y) j 0)) j 0 h4
  have e1 := pu_lz y j 0 h3
  rw [← e1, zup_zup] at e
  have e2 : la_clear x j = u_lf (u_lz y (va_up (x_lz y) j 0)) (va_up (x_lf (u_lz y (va_up (x_lz y) j 0))) j 0) := by rw [← hy]; rfl
  rw [e2, ← e]
  simp only [x_lane, g_dk_lf, g_lk_lf, g_po_lf, g_ne_lf, g_td_lf, g_nb_lf, g_ln_lf, g_nr_lf, g_nw_lf, g_nn_lf, g_ns_lf, g_or_lf, g_ow_lf, g_on_lf, g_nl_lf, g_ng_lf, g_rg_lf, g_lc_lf, g_cp_lf, g_gb_lf, g_sp_lf, g_kn_lf, g_me_lf, g_ob_lf, g_fk_lf, g_fz_lf, g_fg_lf, g_rd_lf, g_rz_lf, g_rh_lf, g_nd_lf, g_nm_lf, g_nv_lf, g_nh_lf, g_nf_lf, g_wr_lf, g_wa_lf, g_lz_lf, g_lf_lf, g_li_lf, g_lt_lf, g_lb_lf, g_lr_lf, g_tn_lf, g_tf_lf, g_dk_lz, g_lk_lz, g_po_lz, g_ne_lz, g_td_lz, g_nb_lz, g_ln_lz, g_nr_lz, g_nw_lz, g_nn_lz, g_ns_lz, g_or_lz, g_ow_lz, g_on_lz, g_nl_lz, g_ng_lz, g_rg_lz, g_lc_lz, g_cp_lz, g_gb_lz, g_sp_lz, g_kn_lz, g_me_lz, g_ob_lz, g_fk_lz, g_fz_lz, g_fg_lz, g_rd_lz, g_rz_lz, g_rh_lz, g_nd_lz, g_nm_lz, g_nv_lz, g_nh_lz, g_nf_lz, g_wr_lz, g_wa_lz, g_lz_lz, g_lf_lz, g_li_lz, g_lt_lz, g_lb_lz, g_lr_lz, g_tn_lz, g_tf_lz, va_up, if_true]
  rfl
