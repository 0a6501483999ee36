/-! readers and wishes -/
theorem p_rdr {x : zSt} {i : Nat} (h : i < x_or x) : pic x (10, i, 0) = some (x_rdr x i) := if_pos ⟨h, rfl⟩
theorem p_rh {x : zSt} {i : Nat} (h : i < x_or x) : pic x (11, i, 0) = some (zin 600 (x_rh x i)) := if_pos ⟨h, rfl⟩
theorem p_ntc {x : zSt} {i : Nat} (h : i < x_on x) : pic x (12, i, 0) = some (x_ntc x i) := if_pos ⟨h, rfl⟩
theorem p_nf {x : zSt} {i : Nat} (h : i < x_on x) : pic x (13, i, 0) = some (zin 4 (x_nf x i)) := if_pos ⟨h, rfl⟩
theorem p_wsh {x : zSt} {i : Nat} (h : i < x_ow x) : pic x (15, i, 0) = some (x_wsh x i) := if_pos ⟨h, rfl⟩
theorem p_fo {x : zSt} {i j : Nat} (h : i < x_ng x) (hj : j < 4) : pic x (7, i, j) = some (zfo (x_fk x i j) (8, i, j) (x_fz x i j)) := if_pos ⟨h, hj⟩
theorem p_fg {x : zSt} {i j : Nat} (h : i < x_ng x) (hj : j < 4) : pic x (8, i, j) = some (zin 4 (x_fg x i j)) := if_pos ⟨h, hj⟩
theorem p_fs {x : zSt} {i : Nat} (h : i < x_ng x) : pic x (9, i, 0) = some (zra "WishRoutes$FieldTest" 4 (x_fts i)) := if_pos ⟨h, rfl⟩
def T_Rdr_nthHeard (As : List zAV) (M : zMp) (Rt : Option zAV → zMp → Prop) : Prop := ∃ x r i, As = [.inr (10, r, 0), .inl (.int i)] ∧ M = pic x ∧ r < x_or x ∧ x_rz x r ≤ 600 ∧ Rt (some (.inl (.int (if ¬ i < 0 ∧ i < nI (x_rz x r) then x_rh x r i.toNatClampNeg else -1)))) M
abbrev co_Rdr_nthHeard := co0
theorem dX3_nthHeard_0 : decode cX3_nthHeard 0 = .ok (.iload_n 1, 1) := by decide +kernel
theorem dX3_nthHeard_1 : decode cX3_nthHeard 1 = .ok (.ifCond .lt 20, 3) := by decide +kernel
theorem dX3_nthHeard_4 : decode cX3_nthHeard 4 = .ok (.iload_n 1, 1) := by decide +kernel
theorem dX3_nthHeard_5 : decode cX3_nthHeard 5 = .ok (.aload_n 0, 1) := by decide +kernel
theorem dX3_nthHeard_6 : decode cX3_nthHeard 6 = .ok (.getfield 15, 3) := by decide +kernel
theorem dX3_nthHeard_9 : decode cX3_nthHeard 9 = .ok (.if_icmp .ge 12, 3) := by decide +kernel
theorem dX3_nthHeard_12 : decode cX3_nthHeard 12 = .ok (.aload_n 0, 1) := by decide +kernel
theorem dX3_nthHeard_13 : decode cX3_nthHeard 13 = .ok (.getfield 9, 3) := by decide +kernel
theorem dX3_nthHeard_16 : decode cX3_nthHeard 16 = .ok (.iload_n 1, 1) := by decide +kernel
theorem dX3_nthHeard_17 : decode cX3_nthHeard 17 = .ok (.iaload, 1) := by decide +kernel
theorem dX3_nthHeard_18 : decode cX3_nthHeard 18 = .ok (.goto 4, 3) := by decide +kernel
theorem dX3_nthHeard_21 : decode cX3_nthHeard 21 = .ok (.iconst (-1), 1) := by decide +kernel
theorem dX3_nthHeard_22 : decode cX3_nthHeard 22 = .ok (.ireturn, 1) := by decide +kernel
def B_Rdr_nthHeard_22 (mc ms : Nat) (Rt : Option zAV → zMp → Prop) (g : Nat → zKT) : zKT :=
  (i_iret mc ms Rt)
set_option maxRecDepth 20000 in
theorem s_Rdr_nthHeard_22 {X : zMa} {mc ms : Nat} {Rt : Option zAV → zMp → Prop} (hC : zCx X RX3 cX3_nthHeard 0 0 mc ms (some .int) false Rt) : zLe (B_Rdr_nthHeard_22 mc ms Rt (zG X)) (zG X 22) :=
  (sd_iret hC dX3_nthHeard_22)
def B_Rdr_nthHeard_21 (mc ms : Nat) (Rt : Option zAV → zMp → Prop) (g : Nat → zKT) : zKT :=
  (i_ic (-1) (B_Rdr_nthHeard_22 mc ms Rt g))
set_option maxRecDepth 20000 in
theorem s_Rdr_nthHeard_21 {X : zMa} {mc ms : Nat} {Rt : Option zAV → zMp → Prop} (hC : zCx X RX3 cX3_nthHeard 0 0 mc ms (some .int) false Rt) : zLe (B_Rdr_nthHeard_21 mc ms Rt (zG X)) (zG X 21) :=
  (sd_iconst hC (by decide) dX3_nthHeard_21 (s_Rdr_nthHeard_22 hC))
def B_Rdr_nthHeard_0 (mc ms : Nat) (Rt : Option zAV → zMp → Prop) (g : Nat → zKT) : zKT :=
  (i_il 1 (i_iflt (B_Rdr_nthHeard_21 mc ms Rt g) (i_il 1 (i_al 0 (i_gf 4 2 (i_icge (B_Rdr_nthHeard_21 mc ms Rt g) (i_al 0 (i_gf 4 1 (i_il 1 (i_ial (B_Rdr_nthHeard_22 mc ms Rt g)))))))))))
set_option maxRecDepth 20000 in
theorem s_Rdr_nthHeard_0 {X : zMa} {mc ms : Nat} {Rt : Option zAV → zMp → Prop} (hC : zCx X RX3 cX3_nthHeard 0 0 mc ms (some .int) false Rt) : zLe (B_Rdr_nthHeard_0 mc ms Rt (zG X)) (zG X 0) :=
  (sd_il_n hC rfl dX3_nthHeard_0 ((sd_iflt hC (tgt := 21) (by decide) dX3_nthHeard_1 (s_Rdr_nthHeard_21 hC) ((sd_il_n hC rfl dX3_nthHeard_4 ((sd_al_n hC rfl dX3_nthHeard_5 ((sd_gf hC (ci := 4) (fk := 2) rfl wi_Rdr (by decide) fl_Rdr_15 (Or.inl rfl) dX3_nthHeard_6 ((sd_icge hC (tgt := 21) (by decide) dX3_nthHeard_9 (s_Rdr_nthHeard_21 hC) ((sd_al_n hC rfl dX3_nthHeard_12 ((sd_gf hC (ci := 4) (fk := 1) rfl wi_Rdr (by decide) fl_Rdr_9 (Or.inl rfl) dX3_nthHeard_13 ((sd_il_n hC rfl dX3_nthHeard_16 ((sd_ial hC dX3_nthHeard_17 ((sd_goto hC (tgt := 22) (by decide) dX3_nthHeard_18 (s_Rdr_nthHeard_22 hC))))))))))))))))))))))
theorem c_Rdr_nthHeard (l : Launch) : zCT l yX3_nthHeard cX3_nthHeard 2 (some .int) 0 0 T_Rdr_nthHeard co_Rdr_nthHeard := by
  intro As M Rt hT
  obtain ⟨x, r, i, rfl, rfl, h1, h2, hR⟩ := hT
  refine zMet_of false (by decide +kernel) (fun h => by first | rfl | cases h) (Nat.le_of_ble_eq_true rfl) (fun X hN hC => ?_)
  show zG X 0 [some (.inr (10, r, 0)), some (.inl (.int i))] [] (pic x) 0 0
  refine s_Rdr_nthHeard_0 hC _ _ _ _ _ ?_
  simp only [B_Rdr_nthHeard_0, B_Rdr_nthHeard_21, B_Rdr_nthHeard_22, co_Rdr_nthHeard, i_ic, i_lc, i_nul, i_il, i_ll, i_al, i_is, i_as, i_ls, i_inc, i_iadd, i_isub, i_imul, i_iand, i_ior, i_ixor, i_idiv, i_irem, i_ishl, i_ishr, i_ladd, i_lsub, i_land, i_lor, i_i2l, i_lushr, i_lshl, i_lshr, i_lcmp, i_dup, i_pop, i_dx1, i_dup2, i_ifeq, i_ifne, i_iflt, i_ifge, i_ifgt, i_ifle, i_iceq, i_icne, i_iclt, i_icge, i_icgt, i_icle, i_ifn, i_gf, i_pf, i_ial, i_bal, i_lal, i_aal, i_ias, i_las, i_bas, i_aas, i_alen, i_newa, i_new, i_anew, i_cast, i_oi, i_call, i_callV, i_callV2, i_callI, i_iret, i_zret, i_lret, i_vret, i_aret, i_mmx, i_mmn, i_gsE, i_aceq, i_no, i_acq, i_sw, zsw, zlg, zls, znl, zfg, zcs, zsp, zrc, zisn, zft, zc1, zto, Value.category, List.set_cons_zero, List.set_cons_succ, List.length_cons, List.length_nil, Option.toList, List.append, List.nil_append, List.cons_append, true_and, and_true, Nat.add_zero, Nat.zero_le, Nat.zero_add, Nat.le_refl, Nat.reduceAdd, Nat.reduceLeDiff, co0, z0, zn_0, zn_1, zn_2, zn_3, zn_4, zn_5, zn_8, zn_12, zn_24, zn_121, zn_144, zn_256, zn_300, zn_600, zn_720, zn_1204, zn_1280, zn_2400, zn_4816, zn_14400, zn_90000, p_rdr h1, p_rh h1, x_rdr]
  refine ⟨fun h => ?_, fun h => ⟨fun h' => ?_, fun h' => ?_⟩⟩
  · rw [if_neg (fun q => q.1 h)] at hR; exact hR
  · rw [if_neg (fun q => absurd q.2 (Int32.not_lt.mpr h'))] at hR; exact hR
  · rw [if_pos ⟨h, Int32.not_le.mp h'⟩] at hR
    obtain ⟨a, ha, rfl⟩ := nI_of h
    have := (nI_ltI ha (by omega)).mp (Int32.not_le.mp h')
    exact ⟨vp_in_nI (by omega) (by decide), hR⟩
/-- one notice more is heard -/
def rd_add (x : zSt) (r : Nat) (v : Int32) : zSt := if x_rz x r < 600 then u_rz (u_rh x (va_up (x_rh x) r (upd (x_rh x r) (x_rz x r) v))) (va_up (x_rz x) r (x_rz x r + 1)) else x
def T_Rdr_addHeard (As : List zAV) (M : zMp) (Rt : Option zAV → zMp → Prop) : Prop := ∃ x r v, As = [.inr (10, r, 0), .inl (.int v)] ∧ M = pic x ∧ r < x_or x ∧ x_rz x r ≤ 600 ∧ Rt none (pic (rd_add x r v))
abbrev co_Rdr_addHeard := co0
theorem dX3_addHeard_0 : decode cX3_addHeard 0 = .ok (.aload_n 0, 1) := by decide +kernel
theorem dX3_addHeard_1 : decode cX3_addHeard 1 = .ok (.getfield 15, 3) := by decide +kernel
theorem dX3_addHeard_4 : decode cX3_addHeard 4 = .ok (.sipush 600, 3) := by decide +kernel
theorem dX3_addHeard_7 : decode cX3_addHeard 7 = .ok (.if_icmp .ge 23, 3) := by decide +kernel
theorem dX3_addHeard_10 : decode cX3_addHeard 10 = .ok (.aload_n 0, 1) := by decide +kernel
theorem dX3_addHeard_11 : decode cX3_addHeard 11 = .ok (.getfield 9, 3) := by decide +kernel
theorem dX3_addHeard_14 : decode cX3_addHeard 14 = .ok (.aload_n 0, 1) := by decide +kernel
theorem dX3_addHeard_15 : decode cX3_addHeard 15 = .ok (.getfield 15, 3) := by decide +kernel
theorem dX3_addHeard_18 : decode cX3_addHeard 18 = .ok (.iload_n 1, 1) := by decide +kernel
theorem dX3_addHeard_19 : decode cX3_addHeard 19 = .ok (.iastore, 1) := by decide +kernel
theorem dX3_addHeard_20 : decode cX3_addHeard 20 = .ok (.aload_n 0, 1) := by decide +kernel
theorem dX3_addHeard_21 : decode cX3_addHeard 21 = .ok (.dup, 1) := by decide +kernel
theorem dX3_addHeard_22 : decode cX3_addHeard 22 = .ok (.getfield 15, 3) := by decide +kernel
theorem dX3_addHeard_25 : decode cX3_addHeard 25 = .ok (.iconst 1, 1) := by decide +kernel
theorem dX3_addHeard_26 : decode cX3_addHeard 26 = .ok (.iadd, 1) := by decide +kernel
theorem dX3_addHeard_27 : decode cX3_addHeard 27 = .ok (.putfield 15, 3) := by decide +kernel
theorem dX3_addHeard_30 : decode cX3_addHeard 30 = .ok (.return_, 1) := by decide +kernel
def B_Rdr_addHeard_30 (mc ms : Nat) (Rt : Option zAV → zMp → Prop) (g : Nat → zKT) : zKT :=
  (i_vret mc ms Rt)
set_option maxRecDepth 20000 in
theorem s_Rdr_addHeard_30 {X : zMa} {mc ms : Nat} {Rt : Option zAV → zMp → Prop} (hC : zCx X RX3 cX3_addHeard 0 0 mc ms (none) false Rt) : zLe (B_Rdr_addHeard_30 mc ms Rt (zG X)) (zG X 30) :=
  (sd_vret hC dX3_addHeard_30)
def B_Rdr_addHeard_0 (mc ms : Nat) (Rt : Option zAV → zMp → Prop) (g : Nat → zKT) : zKT :=
  (i_al 0 (i_gf 4 2 (i_ic 600 (i_icge (B_Rdr_addHeard_30 mc ms Rt g) (i_al 0 (i_gf 4 1 (i_al 0 (i_gf 4 2 (i_il 1 (i_ias (i_al 0 (i_dup (i_gf 4 2 (i_ic 1 (i_iadd (i_pf 4 2 .int (B_Rdr_addHeard_30 mc ms Rt g)))))))))))))))))
set_option maxRecDepth 20000 in
theorem s_Rdr_addHeard_0 {X : zMa} {mc ms : Nat} {Rt : Option zAV → zMp → Prop} (hC : zCx X RX3 cX3_addHeard 0 0 mc ms (none) false Rt) : zLe (B_Rdr_addHeard_0 mc ms Rt (zG X)) (zG X 0) :=
  (sd_al_n hC rfl dX3_addHeard_0 ((sd_gf hC (ci := 4) (fk := 2) rfl wi_Rdr (by decide) fl_Rdr_15 (Or.inl rfl) dX3_addHeard_1 ((sd_sipush hC (by decide) dX3_addHeard_4 ((sd_icge hC (tgt := 30) (by decide) dX3_addHeard_7 (s_Rdr_addHeard_30 hC) ((sd_al_n hC rfl dX3_addHeard_10 ((sd_gf hC (ci := 4) (fk := 1) rfl wi_Rdr (by decide) fl_Rdr_9 (Or.inl rfl) dX3_addHeard_11 ((sd_al_n hC rfl dX3_addHeard_14 ((sd_gf hC (ci := 4) (fk := 2) rfl wi_Rdr (by decide) fl_Rdr_15 (Or.inl rfl) dX3_addHeard_15 ((sd_il_n hC rfl dX3_addHeard_18 ((sd_ias hC dX3_addHeard_19 ((sd_al_n hC rfl dX3_addHeard_20 ((sd_dup hC dX3_addHeard_21 ((sd_gf hC (ci := 4) (fk := 2) rfl wi_Rdr (by decide) fl_Rdr_15 (Or.inl rfl) dX3_addHeard_22 ((sd_iconst hC (by decide) dX3_addHeard_25 ((sd_iadd hC dX3_addHeard_26 ((sd_pf hC (ci := 4) (fk := 2) rfl wi_Rdr tyX3 tyX3_ok nmX3 (by decide) fl_Rdr_15 (Or.inl rfl) (Or.inl rfl) dX3_addHeard_27 (s_Rdr_addHeard_30 hC))))))))))))))))))))))))))))))))
theorem c_Rdr_addHeard (l : Launch) : zCT l yX3_addHeard cX3_addHeard 2 (none) 0 0 T_Rdr_addHeard co_Rdr_addHeard := by
  intro As M Rt hT
  obtain ⟨x, r, v, rfl, rfl, h1, h2, hR⟩ := hT
  refine zMet_of false (by decide +kernel) (fun h => by first | rfl | cases h) (Nat.le_of_ble_eq_true rfl) (fun X hN hC => ?_)
  show zG X 0 [some (.inr (10, r, 0)), some (.inl (.int v))] [] (pic x) 0 0
  refine s_Rdr_addHeard_0 hC _ _ _ _ _ ?_
  simp only [B_Rdr_addHeard_0, B_Rdr_addHeard_30, co_Rdr_addHeard, i_ic, i_lc, i_nul, i_il, i_ll, i_al, i_is, i_as, i_ls, i_inc, i_iadd, i_isub, i_imul, i_iand, i_ior, i_ixor, i_idiv, i_irem, i_ishl, i_ishr, i_ladd, i_lsub, i_land, i_lor, i_i2l, i_lushr, i_lshl, i_lshr, i_lcmp, i_dup, i_pop, i_dx1, i_dup2, i_ifeq, i_ifne, i_iflt, i_ifge, i_ifgt, i_ifle, i_iceq, i_icne, i_iclt, i_icge, i_icgt, i_icle, i_ifn, i_gf, i_pf, i_ial, i_bal, i_lal, i_aal, i_ias, i_las, i_bas, i_aas, i_alen, i_newa, i_new, i_anew, i_cast, i_oi, i_call, i_callV, i_callV2, i_callI, i_iret, i_zret, i_lret, i_vret, i_aret, i_mmx, i_mmn, i_gsE, i_aceq, i_no, i_acq, i_sw, zsw, zlg, zls, znl, zfg, zcs, zsp, zrc, zisn, zft, zc1, zto, Value.category, List.set_cons_zero, List.set_cons_succ, List.length_cons, List.length_nil, Option.toList, List.append, List.nil_append, List.cons_append, true_and, and_true, Nat.add_zero, Nat.zero_le, Nat.zero_add, Nat.le_refl, Nat.reduceAdd, Nat.reduceLeDiff, co0, z0, zn_0, zn_1, zn_2, zn_3, zn_4, zn_5, zn_8, zn_12, zn_24, zn_121, zn_144, zn_256, zn_300, zn_600, zn_720, zn_1204, zn_1280, zn_2400, zn_4816, zn_14400, zn_90000, p_rdr h1, p_rh h1, x_rdr]
  have hK := (zK (K := 600) (by decide) (n := x_rz x r) (by omega)).2.1
  unfold rd_add at hR
  refine ⟨fun h => ?_, fun h => ?_⟩
  · rw [if_neg (by have := hK.mp h; omega)] at hR; exact hR
  · have hlt : x_rz x r < 600 := by
      have : ¬ 600 ≤ x_rz x r := fun z => h (hK.mpr z)
      omega
    rw [if_pos hlt] at hR
    refine ⟨m_k (by decide), vp_in_nI hlt (by decide), ?_⟩
    rw [nI_clamp (by omega), pu_rh x r _ h1]
    have h1' : r < x_or (u_rh x (va_up (x_rh x) r (upd (x_rh x r) (x_rz x r) v))) := h1
    simp only [p_rdr h1', x_rdr, g_dk_rh, g_lk_rh, g_po_rh, g_ne_rh, g_td_rh, g_nb_rh, g_ln_rh, g_nr_rh, g_nw_rh, g_nn_rh, g_ns_rh, g_or_rh, g_ow_rh, g_on_rh, g_nl_rh, g_ng_rh, g_rg_rh, g_lc_rh, g_cp_rh, g_gb_rh, g_sp_rh, g_kn_rh, g_me_rh, g_ob_rh, g_fk_rh, g_fz_rh, g_fg_rh, g_rd_rh, g_rz_rh, g_rh_rh, g_nd_rh, g_nm_rh, g_nv_rh, g_nh_rh, g_nf_rh, g_wr_rh, g_wa_rh, g_lz_rh, g_lf_rh, g_li_rh, g_lt_rh, g_lb_rh, g_lr_rh, g_tn_rh, g_tf_rh, i_ic, i_lc, i_nul, i_il, i_ll, i_al, i_is, i_as, i_ls, i_inc, i_iadd, i_isub, i_imul, i_iand, i_ior, i_ixor, i_idiv, i_irem, i_ishl, i_ishr, i_ladd, i_lsub, i_land, i_lor, i_i2l, i_lushr, i_lshl, i_lshr, i_lcmp, i_dup, i_pop, i_dx1, i_dup2, i_ifeq, i_ifne, i_iflt, i_ifge, i_ifgt, i_ifle, i_iceq, i_icne, i_iclt, i_icge, i_icgt, i_icle, i_ifn, i_gf, i_pf, i_ial, i_bal, i_lal, i_aal, i_ias, i_las, i_bas, i_aas, i_alen, i_newa, i_new, i_anew, i_cast, i_oi, i_call, i_callV, i_callV2, i_callI, i_iret, i_zret, i_lret, i_vret, i_aret, i_mmx, i_mmn, i_gsE, i_aceq, i_no, i_acq, i_sw, zsw, zlg, zls, znl, zfg, zcs, zsp, zrc, zisn, zft, zc1, zto, Value.category, List.set_cons_zero, List.set_cons_succ, List.length_cons, List.length_nil, Option.toList, List.append, List.nil_append, List.cons_append, true_and, and_true, Nat.add_zero, Nat.zero_le, Nat.zero_add, Nat.le_refl, Nat.reduceAdd, Nat.reduceLeDiff, co0, z0, zn_0, zn_1, zn_2, zn_3, zn_4, zn_5, zn_8, zn_12, zn_24, zn_121, zn_144, zn_256, zn_300, zn_600, zn_720, zn_1204, zn_1280, zn_2400, zn_4816, zn_14400, zn_90000]
    rw [nI_1]
    refine ⟨m_k (by decide), by decide, ?_⟩
    refine zM (P := Rt none) ?_ hR
    refine Eq.trans ?_ (pu_rz (u_rh x (va_up (x_rh x) r (upd (x_rh x r) (x_rz x r) v))) r (x_rz x r + 1) h1')
    simp only [x_rdr, g_dk_rh, g_lk_rh, g_po_rh, g_ne_rh, g_td_rh, g_nb_rh, g_ln_rh, g_nr_rh, g_nw_rh, g_nn_rh, g_ns_rh, g_or_rh, g_ow_rh, g_on_rh, g_nl_rh, g_ng_rh, g_rg_rh, g_lc_rh, g_cp_rh, g_gb_rh, g_sp_rh, g_kn_rh, g_me_rh, g_ob_rh, g_fk_rh, g_fz_rh, g_fg_rh, g_rd_rh, g_rz_rh, g_rh_rh, g_nd_rh, g_nm_rh, g_nv_rh, g_nh_rh, g_nf_rh, g_wr_rh, g_wa_rh, g_lz_rh, g_lf_rh, g_li_rh, g_lt_rh, g_lb_rh, g_lr_rh, g_tn_rh, g_tf_rh, g_dk_rz, g_lk_rz, g_po_rz, g_ne_rz, g_td_rz, g_nb_rz, g_ln_rz, g_nr_rz, g_nw_rz, g_nn_rz, g_ns_rz, g_or_rz, g_ow_rz, g_on_rz, g_nl_rz, g_ng_rz, g_rg_rz, g_lc_rz, g_cp_rz, g_gb_rz, g_sp_rz, g_kn_rz, g_me_rz, g_ob_rz, g_fk_rz, g_fz_rz, g_fg_rz, g_rd_rz, g_rz_rz, g_rh_rz, g_nd_rz, g_nm_rz, g_nv_rz, g_nh_rz, g_nf_rz, g_wr_rz, g_wa_rz, g_lz_rz, g_lf_rz, g_li_rz, g_lt_rz, g_lb_rz, g_lr_rz, g_tn_rz, g_tf_rz, va_up, if_true]
/-! wishes: their tests -/
def ft_ok (x : zSt) (g : Nat) : Prop := g < x_ng x ∧ ∀ f, f < 4 → x_fz x g f ≤ 4
theorem ft_e {x : zSt} {g f : Nat} (h : ft_ok x g) (hf : f < 4) : zfte (pic x) (7, g, f) (8, g, f) (x_fk x g f) (x_fz x g f) (x_fg x g f) := ⟨p_fo h.1 hf, p_fg h.1 hf, h.2 f hf⟩
theorem fts_e {g f : Nat} (hf : f < 4) : x_fts g f = some (7, g, f) := if_pos hf
noncomputable def ws_met (x : zSt) (w : Nat) (g : Nat → Int32) : Bool := zd (∀ f, f < 4 → ft_pass (x_fk x w f) (x_fz x w f) (x_fg x w f) (g f) = true)
def ws_ok (x : zSt) (w : Nat) : Prop := w < x_ow x ∧ ft_ok x w
def T_Wsh_isMetBy (As : List zAV) (M : zMp) (Rt : Option zAV → zMp → Prop) : Prop := ∃ x w a g, As = [.inr (15, w, 0), .inr a] ∧ M = pic x ∧ ws_ok x w ∧ pic x a = some (zin 4 g) ∧ Rt (some (.inl (.int (zb (ws_met x w g))))) M
abbrev co_Wsh_isMetBy := co0
theorem dX5_isMetBy_0 : decode cX5_isMetBy 0 = .ok (.iconst 0, 1) := by decide +kernel
theorem dX5_isMetBy_1 : decode cX5_isMetBy 1 = .ok (.istore_n 2, 1) := by decide +kernel
theorem dX5_isMetBy_2 : decode cX5_isMetBy 2 = .ok (.iload_n 2, 1) := by decide +kernel
theorem dX5_isMetBy_3 : decode cX5_isMetBy 3 = .ok (.iconst 4, 1) := by decide +kernel
theorem dX5_isMetBy_4 : decode cX5_isMetBy 4 = .ok (.if_icmp .ge 26, 3) := by decide +kernel
theorem dX5_isMetBy_7 : decode cX5_isMetBy 7 = .ok (.aload_n 0, 1) := by decide +kernel
theorem dX5_isMetBy_8 : decode cX5_isMetBy 8 = .ok (.getfield 30, 3) := by decide +kernel
theorem dX5_isMetBy_11 : decode cX5_isMetBy 11 = .ok (.iload_n 2, 1) := by decide +kernel
theorem dX5_isMetBy_12 : decode cX5_isMetBy 12 = .ok (.aaload, 1) := by decide +kernel
theorem dX5_isMetBy_13 : decode cX5_isMetBy 13 = .ok (.aload_n 1, 1) := by decide +kernel
theorem dX5_isMetBy_14 : decode cX5_isMetBy 14 = .ok (.iload_n 2, 1) := by decide +kernel
theorem dX5_isMetBy_15 : decode cX5_isMetBy 15 = .ok (.iaload, 1) := by decide +kernel
theorem dX5_isMetBy_16 : decode cX5_isMetBy 16 = .ok (.invokevirtual 34, 3) := by decide +kernel
theorem dX5_isMetBy_19 : decode cX5_isMetBy 19 = .ok (.ifCond .ne 5, 3) := by decide +kernel
theorem dX5_isMetBy_22 : decode cX5_isMetBy 22 = .ok (.iconst 0, 1) := by decide +kernel
theorem dX5_isMetBy_23 : decode cX5_isMetBy 23 = .ok (.ireturn, 1) := by decide +kernel
theorem dX5_isMetBy_24 : decode cX5_isMetBy 24 = .ok (.iinc 2 1, 3) := by decide +kernel
theorem dX5_isMetBy_27 : decode cX5_isMetBy 27 = .ok (.goto (-25), 3) := by decide +kernel
theorem dX5_isMetBy_30 : decode cX5_isMetBy 30 = .ok (.iconst 1, 1) := by decide +kernel
theorem dX5_isMetBy_31 : decode cX5_isMetBy 31 = .ok (.ireturn, 1) := by decide +kernel
def B_Wsh_isMetBy_30 (mc ms : Nat) (Rt : Option zAV → zMp → Prop) (g : Nat → zKT) : zKT :=
  (i_ic 1 (i_zret mc ms Rt))
set_option maxRecDepth 20000 in
theorem s_Wsh_isMetBy_30 {X : zMa} {mc ms : Nat} {Rt : Option zAV → zMp → Prop} (hC : zCx X RX5 cX5_isMetBy 2 43 mc ms (some .boolean) false Rt) (hN : zNL X = 3) : zLe (B_Wsh_isMetBy_30 mc ms Rt (zG X)) (zG X 30) :=
  (sd_iconst hC (by decide) dX5_isMetBy_30 ((sd_zret hC dX5_isMetBy_31)))
def B_Wsh_isMetBy_24 (mc ms : Nat) (Rt : Option zAV → zMp → Prop) (g : Nat → zKT) : zKT :=
  (i_inc 2 1 (g 2))
set_option maxRecDepth 20000 in
theorem s_Wsh_isMetBy_24 {X : zMa} {mc ms : Nat} {Rt : Option zAV → zMp → Prop} (hC : zCx X RX5 cX5_isMetBy 2 43 mc ms (some .boolean) false Rt) (hN : zNL X = 3) : zLe (B_Wsh_isMetBy_24 mc ms Rt (zG X)) (zG X 24) :=
  (sd_inc hC (by decide) (by rw [hN]; decide) dX5_isMetBy_24 ((sd_goto hC (tgt := 2) (by decide) dX5_isMetBy_27 (zLe_rfl))))
def B_Wsh_isMetBy_2 (mc ms : Nat) (Rt : Option zAV → zMp → Prop) (g : Nat → zKT) : zKT :=
  (i_il 2 (i_ic 4 (i_icge (B_Wsh_isMetBy_30 mc ms Rt g) (i_al 0 (i_gf 6 2 (i_il 2 (i_aal "WishRoutes$FieldTest" (i_al 1 (i_il 2 (i_ial (i_callV mc ms 1 2 T_FT_passes co_FT_passes (i_ifne (B_Wsh_isMetBy_24 mc ms Rt g) (i_ic 0 (i_zret mc ms Rt))))))))))))))
set_option maxRecDepth 20000 in
theorem s_Wsh_isMetBy_2 {X : zMa} {mc ms : Nat} {Rt : Option zAV → zMp → Prop} (hC : zCx X RX5 cX5_isMetBy 2 43 mc ms (some .boolean) false Rt) (hN : zNL X = 3) : zLe (B_Wsh_isMetBy_2 mc ms Rt (zG X)) (zG X 2) :=
  (sd_il_n hC rfl dX5_isMetBy_2 ((sd_iconst hC (by decide) dX5_isMetBy_3 ((sd_icge hC (tgt := 30) (by decide) dX5_isMetBy_4 (s_Wsh_isMetBy_30 hC hN) ((sd_al_n hC rfl dX5_isMetBy_7 ((sd_gf hC (ci := 6) (fk := 2) rfl wi_Wsh (by decide) fl_Wsh_30 (Or.inl rfl) dX5_isMetBy_8 ((sd_il_n hC rfl dX5_isMetBy_11 ((sd_aal hC dX5_isMetBy_12 ((sd_al_n hC rfl dX5_isMetBy_13 ((sd_il_n hC rfl dX5_isMetBy_14 ((sd_ial hC dX5_isMetBy_15 ((sd_cV hC c_FT_passes yv_FT_passes (ci := 1) rfl rfl ml_Wsh_34 (by decide) (by decide) dX5_isMetBy_16 ((sd_ifne hC (tgt := 24) (by decide) dX5_isMetBy_19 (s_Wsh_isMetBy_24 hC hN) ((sd_iconst hC (by decide) dX5_isMetBy_22 ((sd_zret hC dX5_isMetBy_23)))))))))))))))))))))))))))
def B_Wsh_isMetBy_0 (mc ms : Nat) (Rt : Option zAV → zMp → Prop) (g : Nat → zKT) : zKT :=
  (i_ic 0 (i_is 2 (g 2)))
set_option maxRecDepth 20000 in
theorem s_Wsh_isMetBy_0 {X : zMa} {mc ms : Nat} {Rt : Option zAV → zMp → Prop} (hC : zCx X RX5 cX5_isMetBy 2 43 mc ms (some .boolean) false Rt) (hN : zNL X = 3) : zLe (B_Wsh_isMetBy_0 mc ms Rt (zG X)) (zG X 0) :=
  (sd_iconst hC (by decide) dX5_isMetBy_0 ((sd_is_n hC rfl (by rw [hN]; decide) dX5_isMetBy_1 (zLe_rfl))))
theorem c_Wsh_isMetBy (l : Launch) : zCT l yX5_isMetBy cX5_isMetBy 3 (some .boolean) 2 43 T_Wsh_isMetBy co_Wsh_isMetBy := by
  intro As M Rt hT
  obtain ⟨x, w, a, g, rfl, rfl, ⟨h1, h2⟩, h3, hR⟩ := hT
  refine zMet_of false (by decide +kernel) (fun h => by first | rfl | cases h) (Nat.le_of_ble_eq_true rfl) (fun X hN hC => ?_)
  show zG X 0 [some (.inr (15, w, 0)), some (.inr a), none] [] (pic x) 0 0
  have loop := upto (N := 4) (P := fun i => (∀ f, f < i → ft_pass (x_fk x w f) (x_fz x w f) (x_fg x w f) (g f) = true) → zG X 2 [some (.inr (15, w, 0)), some (.inr a), some (.inl (.int (nI i)))] [] (pic x) 0 0) (fun i hi ih hp => by
    refine s_Wsh_isMetBy_2 hC hN _ _ _ _ _ ?_
    simp only [B_Wsh_isMetBy_0, B_Wsh_isMetBy_2, B_Wsh_isMetBy_24, B_Wsh_isMetBy_30, co_FT_passes, co_Wsh_isMetBy, i_ic, i_lc, i_nul, i_il, i_ll, i_al, i_is, i_as, i_ls, i_inc, i_iadd, i_isub, i_imul, i_iand, i_ior, i_ixor, i_idiv, i_irem, i_ishl, i_ishr, i_ladd, i_lsub, i_land, i_lor, i_i2l, i_lushr, i_lshl, i_lshr, i_lcmp, i_dup, i_pop, i_dx1, i_dup2, i_ifeq, i_ifne, i_iflt, i_ifge, i_ifgt, i_ifle, i_iceq, i_icne, i_iclt, i_icge, i_icgt, i_icle, i_ifn, i_gf, i_pf, i_ial, i_bal, i_lal, i_aal, i_ias, i_las, i_bas, i_aas, i_alen, i_newa, i_new, i_anew, i_cast, i_oi, i_call, i_callV, i_callV2, i_callI, i_iret, i_zret, i_lret, i_vret, i_aret, i_mmx, i_mmn, i_gsE, i_aceq, i_no, i_acq, i_sw, zsw, zlg, zls, znl, zfg, zcs, zsp, zrc, zisn, zft, zc1, zto, Value.category, List.set_cons_zero, List.set_cons_succ, List.length_cons, List.length_nil, Option.toList, List.append, List.nil_append, List.cons_append, true_and, and_true, Nat.add_zero, Nat.zero_le, Nat.zero_add, Nat.le_refl, Nat.reduceAdd, Nat.reduceLeDiff, co0, z0, zn_0, zn_1, zn_2, zn_3, zn_4, zn_5, zn_8, zn_12, zn_24, zn_121, zn_144, zn_256, zn_300, zn_600, zn_720, zn_1204, zn_1280, zn_2400, zn_4816, zn_14400, zn_90000, p_wsh h1, x_wsh, p_fs h2.1, h3]
    rw [nI_clamp (by omega), fts_e hi]
    simp only [zov, p_fo h2.1 hi, h3, i_ic, i_lc, i_nul, i_il, i_ll, i_al, i_is, i_as, i_ls, i_inc, i_iadd, i_isub, i_imul, i_iand, i_ior, i_ixor, i_idiv, i_irem, i_ishl, i_ishr, i_ladd, i_lsub, i_land, i_lor, i_i2l, i_lushr, i_lshl, i_lshr, i_lcmp, i_dup, i_pop, i_dx1, i_dup2, i_ifeq, i_ifne, i_iflt, i_ifge, i_ifgt, i_ifle, i_iceq, i_icne, i_iclt, i_icge, i_icgt, i_icle, i_ifn, i_gf, i_pf, i_ial, i_bal, i_lal, i_aal, i_ias, i_las, i_bas, i_aas, i_alen, i_newa, i_new, i_anew, i_cast, i_oi, i_call, i_callV, i_callV2, i_callI, i_iret, i_zret, i_lret, i_vret, i_aret, i_mmx, i_mmn, i_gsE, i_aceq, i_no, i_acq, i_sw, zsw, zlg, zls, znl, zfg, zcs, zsp, zrc, zisn, zft, zc1, zto, Value.category, List.set_cons_zero, List.set_cons_succ, List.length_cons, List.length_nil, Option.toList, List.append, List.nil_append, List.cons_append, true_and, and_true, Nat.add_zero, Nat.zero_le, Nat.zero_add, Nat.le_refl, Nat.reduceAdd, Nat.reduceLeDiff, co0, z0, zn_0, zn_1, zn_2, zn_3, zn_4, zn_5, zn_8, zn_12, zn_24, zn_121, zn_144, zn_256, zn_300, zn_600, zn_720, zn_1204, zn_1280, zn_2400, zn_4816, zn_14400, zn_90000]
    rw [nI_1]
    have hin : vp_in (nI i) 4 := vp_in_nI hi (by decide)
    refine ⟨fun h => absurd ((zK (K := 4) (by decide) (n := i) (by omega)).2.1.mp h) (by omega), fun _ => ⟨hin, hin, (7, w, i), (8, w, i), _, _, _, g i, rfl, ft_e h2 hi, fun h => ?_, fun h => ⟨by decide, ?_⟩⟩⟩
    · refine ih (lt_s hp ?_)
      cases hb : ft_pass (x_fk x w i) (x_fz x w i) (x_fg x w i) (g i) with
      | true => rfl
      | false => exact absurd (zb_0.mpr hb) h
    · have : ws_met x w g = false := zd_f (fun z => by rw [z i hi] at h; exact absurd h (by decide))
      rw [this] at hR
      exact hR) (fun hp => by
    refine s_Wsh_isMetBy_2 hC hN _ _ _ _ _ ?_
    simp only [B_Wsh_isMetBy_0, B_Wsh_isMetBy_2, B_Wsh_isMetBy_24, B_Wsh_isMetBy_30, co_FT_passes, co_Wsh_isMetBy, i_ic, i_lc, i_nul, i_il, i_ll, i_al, i_is, i_as, i_ls, i_inc, i_iadd, i_isub, i_imul, i_iand, i_ior, i_ixor, i_idiv, i_irem, i_ishl, i_ishr, i_ladd, i_lsub, i_land, i_lor, i_i2l, i_lushr, i_lshl, i_lshr, i_lcmp, i_dup, i_pop, i_dx1, i_dup2, i_ifeq, i_ifne, i_iflt, i_ifge, i_ifgt, i_ifle, i_iceq, i_icne, i_iclt, i_icge, i_icgt, i_icle, i_ifn, i_gf, i_pf, i_ial, i_bal, i_lal, i_aal, i_ias, i_las, i_bas, i_aas, i_alen, i_newa, i_new, i_anew, i_cast, i_oi, i_call, i_callV, i_callV2, i_callI, i_iret, i_zret, i_lret, i_vret, i_aret, i_mmx, i_mmn, i_gsE, i_aceq, i_no, i_acq, i_sw, zsw, zlg, zls, znl, zfg, zcs, zsp, zrc, zisn, zft, zc1, zto, Value.category, List.set_cons_zero, List.set_cons_succ, List.length_cons, List.length_nil, Option.toList, List.append, List.nil_append, List.cons_append, true_and, and_true, Nat.add_zero, Nat.zero_le, Nat.zero_add, Nat.le_refl, Nat.reduceAdd, Nat.reduceLeDiff, co0, z0, zn_0, zn_1, zn_2, zn_3, zn_4, zn_5, zn_8, zn_12, zn_24, zn_121, zn_144, zn_256, zn_300, zn_600, zn_720, zn_1204, zn_1280, zn_2400, zn_4816, zn_14400, zn_90000, p_wsh h1, x_wsh]
    refine ⟨fun _ => ⟨by decide, ?_⟩, fun h => absurd (by decide) h⟩
    have : ws_met x w g = true := zd_t hp
    rw [this] at hR
    exact hR) 0 (Nat.zero_le _)
  refine s_Wsh_isMetBy_0 hC hN _ _ _ _ _ ?_
  simp only [B_Wsh_isMetBy_0, B_Wsh_isMetBy_2, B_Wsh_isMetBy_24, B_Wsh_isMetBy_30, co_FT_passes, co_Wsh_isMetBy, i_ic, i_lc, i_nul, i_il, i_ll, i_al, i_is, i_as, i_ls, i_inc, i_iadd, i_isub, i_imul, i_iand, i_ior, i_ixor, i_idiv, i_irem, i_ishl, i_ishr, i_ladd, i_lsub, i_land, i_lor, i_i2l, i_lushr, i_lshl, i_lshr, i_lcmp, i_dup, i_pop, i_dx1, i_dup2, i_ifeq, i_ifne, i_iflt, i_ifge, i_ifgt, i_ifle, i_iceq, i_icne, i_iclt, i_icge, i_icgt, i_icle, i_ifn, i_gf, i_pf, i_ial, i_bal, i_lal, i_aal, i_ias, i_las, i_bas, i_aas, i_alen, i_newa, i_new, i_anew, i_cast, i_oi, i_call, i_callV, i_callV2, i_callI, i_iret, i_zret, i_lret, i_vret, i_aret, i_mmx, i_mmn, i_gsE, i_aceq, i_no, i_acq, i_sw, zsw, zlg, zls, znl, zfg, zcs, zsp, zrc, zisn, zft, zc1, zto, Value.category, List.set_cons_zero, List.set_cons_succ, List.length_cons, List.length_nil, Option.toList, List.append, List.nil_append, List.cons_append, true_and, and_true, Nat.add_zero, Nat.zero_le, Nat.zero_add, Nat.le_refl, Nat.reduceAdd, Nat.reduceLeDiff, co0, z0, zn_0, zn_1, zn_2, zn_3, zn_4, zn_5, zn_8, zn_12, zn_24, zn_121, zn_144, zn_256, zn_300, zn_600, zn_720, zn_1204, zn_1280, zn_2400, zn_4816, zn_14400, zn_90000]
  exact loop (fun j hj => absurd hj (Nat.not_lt_zero j))
noncomputable def ws_never (x : zSt) (w : Nat) : Bool := zd (∃ f, f < 4 ∧ ft_none (x_fk x w f) (x_fg x w f) = true)
def T_Wsh_isNeverMet (As : List zAV) (M : zMp) (Rt : Option zAV → zMp → Prop) : Prop := ∃ x w, As = [.inr (15, w, 0)] ∧ M = pic x ∧ ws_ok x w ∧ Rt (some (.inl (.int (zb (ws_never x w))))) M
abbrev co_Wsh_isNeverMet := co0
theorem dX5_isNeverMet_0 : decode cX5_isNeverMet 0 = .ok (.iconst 0, 1) := by decide +kernel
theorem dX5_isNeverMet_1 : decode cX5_isNeverMet 1 = .ok (.istore_n 1, 1) := by decide +kernel
theorem dX5_isNeverMet_2 : decode cX5_isNeverMet 2 = .ok (.iload_n 1, 1) := by decide +kernel
theorem dX5_isNeverMet_3 : decode cX5_isNeverMet 3 = .ok (.iconst 4, 1) := by decide +kernel
theorem dX5_isNeverMet_4 : decode cX5_isNeverMet 4 = .ok (.if_icmp .ge 23, 3) := by decide +kernel
theorem dX5_isNeverMet_7 : decode cX5_isNeverMet 7 = .ok (.aload_n 0, 1) := by decide +kernel
theorem dX5_isNeverMet_8 : decode cX5_isNeverMet 8 = .ok (.getfield 30, 3) := by decide +kernel
theorem dX5_isNeverMet_11 : decode cX5_isNeverMet 11 = .ok (.iload_n 1, 1) := by decide +kernel
theorem dX5_isNeverMet_12 : decode cX5_isNeverMet 12 = .ok (.aaload, 1) := by decide +kernel
theorem dX5_isNeverMet_13 : decode cX5_isNeverMet 13 = .ok (.invokevirtual 48, 3) := by decide +kernel
theorem dX5_isNeverMet_16 : decode cX5_isNeverMet 16 = .ok (.ifCond .eq 5, 3) := by decide +kernel
theorem dX5_isNeverMet_19 : decode cX5_isNeverMet 19 = .ok (.iconst 1, 1) := by decide +kernel
theorem dX5_isNeverMet_20 : decode cX5_isNeverMet 20 = .ok (.ireturn, 1) := by decide +kernel
theorem dX5_isNeverMet_21 : decode cX5_isNeverMet 21 = .ok (.iinc 1 1, 3) := by decide +kernel
theorem dX5_isNeverMet_24 : decode cX5_isNeverMet 24 = .ok (.goto (-22), 3) := by decide +kernel
theorem dX5_isNeverMet_27 : decode cX5_isNeverMet 27 = .ok (.iconst 0, 1) := by decide +kernel
theorem dX5_isNeverMet_28 : decode cX5_isNeverMet 28 = .ok (.ireturn, 1) := by decide +kernel
def B_Wsh_isNeverMet_27 (mc ms : Nat) (Rt : Option zAV → zMp → Prop) (g : Nat → zKT) : zKT :=
  (i_ic 0 (i_zret mc ms Rt))
set_option maxRecDepth 20000 in
theorem s_Wsh_isNeverMet_27 {X : zMa} {mc ms : Nat} {Rt : Option zAV → zMp → Prop} (hC : zCx X RX5 cX5_isNeverMet 1 20 mc ms (some .boolean) false Rt) (hN : zNL X = 2) : zLe (B_Wsh_isNeverMet_27 mc ms Rt (zG X)) (zG X 27) :=
  (sd_iconst hC (by decide) dX5_isNeverMet_27 ((sd_zret hC dX5_isNeverMet_28)))
def B_Wsh_isNeverMet_21 (mc ms : Nat) (Rt : Option zAV → zMp → Prop) (g : Nat → zKT) : zKT :=
  (i_inc 1 1 (g 2))
set_option maxRecDepth 20000 in
theorem s_Wsh_isNeverMet_21 {X : zMa} {mc ms : Nat} {Rt : Option zAV → zMp → Prop} (hC : zCx X RX5 cX5_isNeverMet 1 20 mc ms (some .boolean) false Rt) (hN : zNL X = 2) : zLe (B_Wsh_isNeverMet_21 mc ms Rt (zG X)) (zG X 21) :=
  (sd_inc hC (by decide) (by rw [hN]; decide) dX5_isNeverMet_21 ((sd_goto hC (tgt := 2) (by decide) dX5_isNeverMet_24 (zLe_rfl))))
def B_Wsh_isNeverMet_2 (mc ms : Nat) (Rt : Option zAV → zMp → Prop) (g : Nat → zKT) : zKT :=
  (i_il 1 (i_ic 4 (i_icge (B_Wsh_isNeverMet_27 mc ms Rt g) (i_al 0 (i_gf 6 2 (i_il 1 (i_aal "WishRoutes$FieldTest" (i_callV mc ms 1 1 T_FT_passesNone co_FT_passesNone (i_ifeq (B_Wsh_isNeverMet_21 mc ms Rt g) (i_ic 1 (i_zret mc ms Rt)))))))))))
set_option maxRecDepth 20000 in
theorem s_Wsh_isNeverMet_2 {X : zMa} {mc ms : Nat} {Rt : Option zAV → zMp → Prop} (hC : zCx X RX5 cX5_isNeverMet 1 20 mc ms (some .boolean) false Rt) (hN : zNL X = 2) : zLe (B_Wsh_isNeverMet_2 mc ms Rt (zG X)) (zG X 2) :=
  (sd_il_n hC rfl dX5_isNeverMet_2 ((sd_iconst hC (by decide) dX5_isNeverMet_3 ((sd_icge hC (tgt := 27) (by decide) dX5_isNeverMet_4 (s_Wsh_isNeverMet_27 hC hN) ((sd_al_n hC rfl dX5_isNeverMet_7 ((sd_gf hC (ci := 6) (fk := 2) rfl wi_Wsh (by decide) fl_Wsh_30 (Or.inl rfl) dX5_isNeverMet_8 ((sd_il_n hC rfl dX5_isNeverMet_11 ((sd_aal hC dX5_isNeverMet_12 ((sd_cV hC c_FT_passesNone yv_FT_passesNone (ci := 1) rfl rfl ml_Wsh_48 (by decide) (by decide) dX5_isNeverMet_13 ((sd_ifeq hC (tgt := 21) (by decide) dX5_isNeverMet_16 (s_Wsh_isNeverMet_21 hC hN) ((sd_iconst hC (by decide) dX5_isNeverMet_19 ((sd_zret hC dX5_isNeverMet_20)))))))))))))))))))))
def B_Wsh_isNeverMet_0 (mc ms : Nat) (Rt : Option zAV → zMp → Prop) (g : Nat → zKT) : zKT :=
  (i_ic 0 (i_is 1 (g 2)))
set_option maxRecDepth 20000 in
theorem s_Wsh_isNeverMet_0 {X : zMa} {mc ms : Nat} {Rt : Option zAV → zMp → Prop} (hC : zCx X RX5 cX5_isNeverMet 1 20 mc ms (some .boolean) false Rt) (hN : zNL X = 2) : zLe (B_Wsh_isNeverMet_0 mc ms Rt (zG X)) (zG X 0) :=
  (sd_iconst hC (by decide) dX5_isNeverMet_0 ((sd_is_n hC rfl (by rw [hN]; decide) dX5_isNeverMet_1 (zLe_rfl))))
theorem c_Wsh_isNeverMet (l : Launch) : zCT l yX5_isNeverMet cX5_isNeverMet 2 (some .boolean) 1 20 T_Wsh_isNeverMet co_Wsh_isNeverMet := by
  intro As M Rt hT
  obtain ⟨x, w, rfl, rfl, ⟨h1, h2⟩, hR⟩ := hT
  refine zMet_of false (by decide +kernel) (fun h => by first | rfl | cases h) (Nat.le_of_ble_eq_true rfl) (fun X hN hC => ?_)
  show zG X 0 [some (.inr (15, w, 0)), none] [] (pic x) 0 0
  have loop := upto (N := 4) (P := fun i => (∀ f, f < i → ¬ ft_none (x_fk x w f) (x_fg x w f) = true) → zG X 2 [some (.inr (15, w, 0)), some (.inl (.int (nI i)))] [] (pic x) 0 0) (fun i hi ih hp => by
    refine s_Wsh_isNeverMet_2 hC hN _ _ _ _ _ ?_
    simp only [B_Wsh_isNeverMet_0, B_Wsh_isNeverMet_2, B_Wsh_isNeverMet_21, B_Wsh_isNeverMet_27, co_FT_passesNone, co_Wsh_isNeverMet, i_ic, i_lc, i_nul, i_il, i_ll, i_al, i_is, i_as, i_ls, i_inc, i_iadd, i_isub, i_imul, i_iand, i_ior, i_ixor, i_idiv, i_irem, i_ishl, i_ishr, i_ladd, i_lsub, i_land, i_lor, i_i2l, i_lushr, i_lshl, i_lshr, i_lcmp, i_dup, i_pop, i_dx1, i_dup2, i_ifeq, i_ifne, i_iflt, i_ifge, i_ifgt, i_ifle, i_iceq, i_icne, i_iclt, i_icge, i_icgt, i_icle, i_ifn, i_gf, i_pf, i_ial, i_bal, i_lal, i_aal, i_ias, i_las, i_bas, i_aas, i_alen, i_newa, i_new, i_anew, i_cast, i_oi, i_call, i_callV, i_callV2, i_callI, i_iret, i_zret, i_lret, i_vret, i_aret, i_mmx, i_mmn, i_gsE, i_aceq, i_no, i_acq, i_sw, zsw, zlg, zls, znl, zfg, zcs, zsp, zrc, zisn, zft, zc1, zto, Value.category, List.set_cons_zero, List.set_cons_succ, List.length_cons, List.length_nil, Option.toList, List.append, List.nil_append, List.cons_append, true_and, and_true, Nat.add_zero, Nat.zero_le, Nat.zero_add, Nat.le_refl, Nat.reduceAdd, Nat.reduceLeDiff, co0, z0, zn_0, zn_1, zn_2, zn_3, zn_4, zn_5, zn_8, zn_12, zn_24, zn_121, zn_144, zn_256, zn_300, zn_600, zn_720, zn_1204, zn_1280, zn_2400, zn_4816, zn_14400, zn_90000, p_wsh h1, x_wsh, p_fs h2.1]
    rw [nI_clamp (by omega), fts_e hi]
    simp only [zov, p_fo h2.1 hi, i_ic, i_lc, i_nul, i_il, i_ll, i_al, i_is, i_as, i_ls, i_inc, i_iadd, i_isub, i_imul, i_iand, i_ior, i_ixor, i_idiv, i_irem, i_ishl, i_ishr, i_ladd, i_lsub, i_land, i_lor, i_i2l, i_lushr, i_lshl, i_lshr, i_lcmp, i_dup, i_pop, i_dx1, i_dup2, i_ifeq, i_ifne, i_iflt, i_ifge, i_ifgt, i_ifle, i_iceq, i_icne, i_iclt, i_icge, i_icgt, i_icle, i_ifn, i_gf, i_pf, i_ial, i_bal, i_lal, i_aal, i_ias, i_las, i_bas, i_aas, i_alen, i_newa, i_new, i_anew, i_cast, i_oi, i_call, i_callV, i_callV2, i_callI, i_iret, i_zret, i_lret, i_vret, i_aret, i_mmx, i_mmn, i_gsE, i_aceq, i_no, i_acq, i_sw, zsw, zlg, zls, znl, zfg, zcs, zsp, zrc, zisn, zft, zc1, zto, Value.category, List.set_cons_zero, List.set_cons_succ, List.length_cons, List.length_nil, Option.toList, List.append, List.nil_append, List.cons_append, true_and, and_true, Nat.add_zero, Nat.zero_le, Nat.zero_add, Nat.le_refl, Nat.reduceAdd, Nat.reduceLeDiff, co0, z0, zn_0, zn_1, zn_2, zn_3, zn_4, zn_5, zn_8, zn_12, zn_24, zn_121, zn_144, zn_256, zn_300, zn_600, zn_720, zn_1204, zn_1280, zn_2400, zn_4816, zn_14400, zn_90000]
    rw [nI_1]
    have hin : vp_in (nI i) 4 := vp_in_nI hi (by decide)
    refine ⟨fun h => absurd ((zK (K := 4) (by decide) (n := i) (by omega)).2.1.mp h) (by omega), fun _ => ⟨hin, (7, w, i), (8, w, i), _, _, _, rfl, ft_e h2 hi, fun h => ?_, fun h => ⟨by decide, ?_⟩⟩⟩
    · refine ih (lt_s hp ?_)
      rw [zb_0.mp h]
      decide
    · have : ws_never x w = true := zd_t ⟨i, hi, by
        cases hb : ft_none (x_fk x w i) (x_fg x w i) with
        | true => rfl
        | false => exact absurd (zb_0.mpr hb) h⟩
      rw [this] at hR
      exact hR) (fun hp => by
    refine s_Wsh_isNeverMet_2 hC hN _ _ _ _ _ ?_
    simp only [B_Wsh_isNeverMet_0, B_Wsh_isNeverMet_2, B_Wsh_isNeverMet_21, B_Wsh_isNeverMet_27, co_FT_passesNone, co_Wsh_isNeverMet, i_ic, i_lc, i_nul, i_il, i_ll, i_al, i_is, i_as, i_ls, i_inc, i_iadd, i_isub, i_imul, i_iand, i_ior, i_ixor, i_idiv, i_irem, i_ishl, i_ishr, i_ladd, i_lsub, i_land, i_lor, i_i2l, i_lushr, i_lshl, i_lshr, i_lcmp, i_dup, i_pop, i_dx1, i_dup2, i_ifeq, i_ifne, i_iflt, i_ifge, i_ifgt, i_ifle, i_iceq, i_icne, i_iclt, i_icge, i_icgt, i_icle, i_ifn, i_gf, i_pf, i_ial, i_bal, i_lal, i_aal, i_ias, i_las, i_bas, i_aas, i_alen, i_newa, i_new, i_anew, i_cast, i_oi, i_call, i_callV, i_callV2, i_callI, i_iret, i_zret, i_lret, i_vret, i_aret, i_mmx, i_mmn, i_gsE, i_aceq, i_no, i_acq, i_sw, zsw, zlg, zls, znl, zfg, zcs, zsp, zrc, zisn, zft, zc1, zto, Value.category, List.set_cons_zero, List.set_cons_succ, List.length_cons, List.length_nil, Option.toList, List.append, List.nil_append, List.cons_append, true_and, and_true, Nat.add_zero, Nat.zero_le, Nat.zero_add, Nat.le_refl, Nat.reduceAdd, Nat.reduceLeDiff, co0, z0, zn_0, zn_1, zn_2, zn_3, zn_4, zn_5, zn_8, zn_12, zn_24, zn_121, zn_144, zn_256, zn_300, zn_600, zn_720, zn_1204, zn_1280, zn_2400, zn_4816, zn_14400, zn_90000, p_wsh h1, x_wsh]
    refine ⟨fun _ => ⟨by decide, ?_⟩, fun h => absurd (by decide) h⟩
    have : ws_never x w = false := zd_f (fun ⟨f, hf, hz⟩ => hp f hf hz)
    rw [this] at hR
    exact hR) 0 (Nat.zero_le _)
  refine s_Wsh_isNeverMet_0 hC hN _ _ _ _ _ ?_
  simp only [B_Wsh_isNeverMet_0, B_Wsh_isNeverMet_2, B_Wsh_isNeverMet_21, B_Wsh_isNeverMet_27, co_FT_passesNone, co_Wsh_isNeverMet, i_ic, i_lc, i_nul, i_il, i_ll, i_al, i_is, i_as, i_ls, i_inc, i_iadd, i_isub, i_imul, i_iand, i_ior, i_ixor, i_idiv, i_irem, i_ishl, i_ishr, i_ladd, i_lsub, i_land, i_lor, i_i2l, i_lushr, i_lshl, i_lshr, i_lcmp, i_dup, i_pop, i_dx1, i_dup2, i_ifeq, i_ifne, i_iflt, i_ifge, i_ifgt, i_ifle, i_iceq, i_icne, i_iclt, i_icge, i_icgt, i_icle, i_ifn, i_gf, i_pf, i_ial, i_bal, i_lal, i_aal, i_ias, i_las, i_bas, i_aas, i_alen, i_newa, i_new, i_anew, i_cast, i_oi, i_call, i_callV, i_callV2, i_callI, i_iret, i_zret, i_lret, i_vret, i_aret, i_mmx, i_mmn, i_gsE, i_aceq, i_no, i_acq, i_sw, zsw, zlg, zls, znl, zfg, zcs, zsp, zrc, zisn, zft, zc1, zto, Value.category, List.set_cons_zero, List.set_cons_succ, List.length_cons, List.length_nil, Option.toList, List.append, List.nil_append, List.cons_append, true_and, and_true, Nat.add_zero, Nat.zero_le, Nat.zero_add, Nat.le_refl, Nat.reduceAdd, Nat.reduceLeDiff, co0, z0, zn_0, zn_1, zn_2, zn_3, zn_4, zn_5, zn_8, zn_12, zn_24, zn_121, zn_144, zn_256, zn_300, zn_600, zn_720, zn_1204, zn_1280, zn_2400, zn_4816, zn_14400, zn_90000]
  exact loop (fun j hj => absurd hj (Nat.not_lt_zero j))
noncomputable def ws_wide (x : zSt) (w w' : Nat) (f : Nat) : Bool := ft_wide (x_fk x w f) (x_fz x w f) (x_fg x w f) (x_fk x w' f) (x_fz x w' f) (x_fg x w' f)
noncomputable def ws_takes (x : zSt) (w w' : Nat) : Bool := zd (ws_never x w' = true ∨ ∀ f, f < 4 → ws_wide x w w' f = true)
def T_Wsh_takesIn (As : List zAV) (M : zMp) (Rt : Option zAV → zMp → Prop) : Prop := ∃ x w w', As = [.inr (15, w, 0), .inr (15, w', 0)] ∧ M = pic x ∧ ws_ok x w ∧ ws_ok x w' ∧ Rt (some (.inl (.int (zb (ws_takes x w w'))))) M
abbrev co_Wsh_takesIn := co0
theorem dX5_takesIn_0 : decode cX5_takesIn 0 = .ok (.aload_n 1, 1) := by decide +kernel
theorem dX5_takesIn_1 : decode cX5_takesIn 1 = .ok (.invokevirtual 40, 3) := by decide +kernel
theorem dX5_takesIn_4 : decode cX5_takesIn 4 = .ok (.ifCond .eq 5, 3) := by decide +kernel
theorem dX5_takesIn_7 : decode cX5_takesIn 7 = .ok (.iconst 1, 1) := by decide +kernel
theorem dX5_takesIn_8 : decode cX5_takesIn 8 = .ok (.ireturn, 1) := by decide +kernel
theorem dX5_takesIn_9 : decode cX5_takesIn 9 = .ok (.iconst 0, 1) := by decide +kernel
theorem dX5_takesIn_10 : decode cX5_takesIn 10 = .ok (.istore_n 2, 1) := by decide +kernel
theorem dX5_takesIn_11 : decode cX5_takesIn 11 = .ok (.iload_n 2, 1) := by decide +kernel
theorem dX5_takesIn_12 : decode cX5_takesIn 12 = .ok (.iconst 4, 1) := by decide +kernel
theorem dX5_takesIn_13 : decode cX5_takesIn 13 = .ok (.if_icmp .ge 29, 3) := by decide +kernel
theorem dX5_takesIn_16 : decode cX5_takesIn 16 = .ok (.aload_n 0, 1) := by decide +kernel
theorem dX5_takesIn_17 : decode cX5_takesIn 17 = .ok (.getfield 30, 3) := by decide +kernel
theorem dX5_takesIn_20 : decode cX5_takesIn 20 = .ok (.iload_n 2, 1) := by decide +kernel
theorem dX5_takesIn_21 : decode cX5_takesIn 21 = .ok (.aaload, 1) := by decide +kernel
theorem dX5_takesIn_22 : decode cX5_takesIn 22 = .ok (.aload_n 1, 1) := by decide +kernel
theorem dX5_takesIn_23 : decode cX5_takesIn 23 = .ok (.getfield 30, 3) := by decide +kernel
theorem dX5_takesIn_26 : decode cX5_takesIn 26 = .ok (.iload_n 2, 1) := by decide +kernel
theorem dX5_takesIn_27 : decode cX5_takesIn 27 = .ok (.aaload, 1) := by decide +kernel
theorem dX5_takesIn_28 : decode cX5_takesIn 28 = .ok (.invokevirtual 44, 3) := by decide +kernel
theorem dX5_takesIn_31 : decode cX5_takesIn 31 = .ok (.ifCond .ne 5, 3) := by decide +kernel
theorem dX5_takesIn_34 : decode cX5_takesIn 34 = .ok (.iconst 0, 1) := by decide +kernel
theorem dX5_takesIn_35 : decode cX5_takesIn 35 = .ok (.ireturn, 1) := by decide +kernel
theorem dX5_takesIn_36 : decode cX5_takesIn 36 = .ok (.iinc 2 1, 3) := by decide +kernel
theorem dX5_takesIn_39 : decode cX5_takesIn 39 = .ok (.goto (-28), 3) := by decide +kernel
theorem dX5_takesIn_42 : decode cX5_takesIn 42 = .ok (.iconst 1, 1) := by decide +kernel
theorem dX5_takesIn_43 : decode cX5_takesIn 43 = .ok (.ireturn, 1) := by decide +kernel
def B_Wsh_takesIn_42 (mc ms : Nat) (Rt : Option zAV → zMp → Prop) (g : Nat → zKT) : zKT :=
  (i_ic 1 (i_zret mc ms Rt))
set_option maxRecDepth 20000 in
theorem s_Wsh_takesIn_42 {X : zMa} {mc ms : Nat} {Rt : Option zAV → zMp → Prop} (hC : zCx X RX5 cX5_takesIn 4 91 mc ms (some .boolean) false Rt) (hN : zNL X = 3) : zLe (B_Wsh_takesIn_42 mc ms Rt (zG X)) (zG X 42) :=
  (sd_iconst hC (by decide) dX5_takesIn_42 ((sd_zret hC dX5_takesIn_43)))
def B_Wsh_takesIn_36 (mc ms : Nat) (Rt : Option zAV → zMp → Prop) (g : Nat → zKT) : zKT :=
  (i_inc 2 1 (g 11))
set_option maxRecDepth 20000 in
theorem s_Wsh_takesIn_36 {X : zMa} {mc ms : Nat} {Rt : Option zAV → zMp → Prop} (hC : zCx X RX5 cX5_takesIn 4 91 mc ms (some .boolean) false Rt) (hN : zNL X = 3) : zLe (B_Wsh_takesIn_36 mc ms Rt (zG X)) (zG X 36) :=
  (sd_inc hC (by decide) (by rw [hN]; decide) dX5_takesIn_36 ((sd_goto hC (tgt := 11) (by decide) dX5_takesIn_39 (zLe_rfl))))
def B_Wsh_takesIn_11 (mc ms : Nat) (Rt : Option zAV → zMp → Prop) (g : Nat → zKT) : zKT :=
  (i_il 2 (i_ic 4 (i_icge (B_Wsh_takesIn_42 mc ms Rt g) (i_al 0 (i_gf 6 2 (i_il 2 (i_aal "WishRoutes$FieldTest" (i_al 1 (i_gf 6 2 (i_il 2 (i_aal "WishRoutes$FieldTest" (i_callV mc ms 1 2 T_FT_isAsWideAs co_FT_isAsWideAs (i_ifne (B_Wsh_takesIn_36 mc ms Rt g) (i_ic 0 (i_zret mc ms Rt)))))))))))))))
set_option maxRecDepth 20000 in
theorem s_Wsh_takesIn_11 {X : zMa} {mc ms : Nat} {Rt : Option zAV → zMp → Prop} (hC : zCx X RX5 cX5_takesIn 4 91 mc ms (some .boolean) false Rt) (hN : zNL X = 3) : zLe (B_Wsh_takesIn_11 mc ms Rt (zG X)) (zG X 11) :=
  (sd_il_n hC rfl dX5_takesIn_11 ((sd_iconst hC (by decide) dX5_takesIn_12 ((sd_icge hC (tgt := 42) (by decide) dX5_takesIn_13 (s_Wsh_takesIn_42 hC hN) ((sd_al_n hC rfl dX5_takesIn_16 ((sd_gf hC (ci := 6) (fk := 2) rfl wi_Wsh (by decide) fl_Wsh_30 (Or.inl rfl) dX5_takesIn_17 ((sd_il_n hC rfl dX5_takesIn_20 ((sd_aal hC dX5_takesIn_21 ((sd_al_n hC rfl dX5_takesIn_22 ((sd_gf hC (ci := 6) (fk := 2) rfl wi_Wsh (by decide) fl_Wsh_30 (Or.inl rfl) dX5_takesIn_23 ((sd_il_n hC rfl dX5_takesIn_26 ((sd_aal hC dX5_takesIn_27 ((sd_cV hC c_FT_isAsWideAs yv_FT_isAsWideAs (ci := 1) rfl rfl ml_Wsh_44 (by decide) (by decide) dX5_takesIn_28 ((sd_ifne hC (tgt := 36) (by decide) dX5_takesIn_31 (s_Wsh_takesIn_36 hC hN) ((sd_iconst hC (by decide) dX5_takesIn_34 ((sd_zret hC dX5_takesIn_35)))))))))))))))))))))))))))))
def B_Wsh_takesIn_9 (mc ms : Nat) (Rt : Option zAV → zMp → Prop) (g : Nat → zKT) : zKT :=
  (i_ic 0 (i_is 2 (g 11)))
set_option maxRecDepth 20000 in
theorem s_Wsh_takesIn_9 {X : zMa} {mc ms : Nat} {Rt : Option zAV → zMp → Prop} (hC : zCx X RX5 cX5_takesIn 4 91 mc ms (some .boolean) false Rt) (hN : zNL X = 3) : zLe (B_Wsh_takesIn_9 mc ms Rt (zG X)) (zG X 9) :=
  (sd_iconst hC (by decide) dX5_takesIn_9 ((sd_is_n hC rfl (by rw [hN]; decide) dX5_takesIn_10 (zLe_rfl))))
def B_Wsh_takesIn_0 (mc ms : Nat) (Rt : Option zAV → zMp → Prop) (g : Nat → zKT) : zKT :=
  (i_al 1 (i_callV mc ms 6 1 T_Wsh_isNeverMet co_Wsh_isNeverMet (i_ifeq (B_Wsh_takesIn_9 mc ms Rt g) (i_ic 1 (i_zret mc ms Rt)))))
set_option maxRecDepth 20000 in
theorem s_Wsh_takesIn_0 {X : zMa} {mc ms : Nat} {Rt : Option zAV → zMp → Prop} (hC : zCx X RX5 cX5_takesIn 4 91 mc ms (some .boolean) false Rt) (hN : zNL X = 3) : zLe (B_Wsh_takesIn_0 mc ms Rt (zG X)) (zG X 0) :=
  (sd_al_n hC rfl dX5_takesIn_0 ((sd_cV hC c_Wsh_isNeverMet yv_Wsh_isNeverMet (ci := 6) rfl rfl ml_Wsh_40 (by decide) (by decide) dX5_takesIn_1 ((sd_ifeq hC (tgt := 9) (by decide) dX5_takesIn_4 (s_Wsh_takesIn_9 hC hN) ((sd_iconst hC (by decide) dX5_takesIn_7 ((sd_zret hC dX5_takesIn_8)))))))))
theorem c_Wsh_takesIn (l : Launch) : zCT l yX5_takesIn cX5_takesIn 3 (some .boolean) 4 91 T_Wsh_takesIn co_Wsh_takesIn := by
  intro As M Rt hT
  obtain ⟨x, w, w', rfl, rfl, ⟨h1, h2⟩, ⟨h1', h2'⟩, hR⟩ := hT
  refine zMet_of false (by decide +kernel) (fun h => by first | rfl | cases h) (Nat.le_of_ble_eq_true rfl) (fun X hN hC => ?_)
  show zG X 0 [some (.inr (15, w, 0)), some (.inr (15, w', 0)), none] [] (pic x) 0 0
  have loop := fun (hnv : ¬ ws_never x w' = true) => upto (N := 4) (P := fun i => (∀ f, f < i → ws_wide x w w' f = true) → zG X 11 [some (.inr (15, w, 0)), some (.inr (15, w', 0)), some (.inl (.int (nI i)))] [] (pic x) 0 0) (fun i hi ih hp => by
    refine s_Wsh_takesIn_11 hC hN _ _ _ _ _ ?_
    simp only [B_Wsh_takesIn_0, B_Wsh_takesIn_9, B_Wsh_takesIn_11, B_Wsh_takesIn_36, B_Wsh_takesIn_42, co_FT_isAsWideAs, co_Wsh_isNeverMet, co_Wsh_takesIn, i_ic, i_lc, i_nul, i_il, i_ll, i_al, i_is, i_as, i_ls, i_inc, i_iadd, i_isub, i_imul, i_iand, i_ior, i_ixor, i_idiv, i_irem, i_ishl, i_ishr, i_ladd, i_lsub, i_land, i_lor, i_i2l, i_lushr, i_lshl, i_lshr, i_lcmp, i_dup, i_pop, i_dx1, i_dup2, i_ifeq, i_ifne, i_iflt, i_ifge, i_ifgt, i_ifle, i_iceq, i_icne, i_iclt, i_icge, i_icgt, i_icle, i_ifn, i_gf, i_pf, i_ial, i_bal, i_lal, i_aal, i_ias, i_las, i_bas, i_aas, i_alen, i_newa, i_new, i_anew, i_cast, i_oi, i_call, i_callV, i_callV2, i_callI, i_iret, i_zret, i_lret, i_vret, i_aret, i_mmx, i_mmn, i_gsE, i_aceq, i_no, i_acq, i_sw, zsw, zlg, zls, znl, zfg, zcs, zsp, zrc, zisn, zft, zc1, zto, Value.category, List.set_cons_zero, List.set_cons_succ, List.length_cons, List.length_nil, Option.toList, List.append, List.nil_append, List.cons_append, true_and, and_true, Nat.add_zero, Nat.zero_le, Nat.zero_add, Nat.le_refl, Nat.reduceAdd, Nat.reduceLeDiff, co0, z0, zn_0, zn_1, zn_2, zn_3, zn_4, zn_5, zn_8, zn_12, zn_24, zn_121, zn_144, zn_256, zn_300, zn_600, zn_720, zn_1204, zn_1280, zn_2400, zn_4816, zn_14400, zn_90000, p_wsh h1, p_wsh h1', x_wsh, p_fs h2.1, p_fs h2'.1]
    rw [nI_clamp (by omega), fts_e hi, fts_e hi]
    simp only [zov, p_fo h2.1 hi, i_ic, i_lc, i_nul, i_il, i_ll, i_al, i_is, i_as, i_ls, i_inc, i_iadd, i_isub, i_imul, i_iand, i_ior, i_ixor, i_idiv, i_irem, i_ishl, i_ishr, i_ladd, i_lsub, i_land, i_lor, i_i2l, i_lushr, i_lshl, i_lshr, i_lcmp, i_dup, i_pop, i_dx1, i_dup2, i_ifeq, i_ifne, i_iflt, i_ifge, i_ifgt, i_ifle, i_iceq, i_icne, i_iclt, i_icge, i_icgt, i_icle, i_ifn, i_gf, i_pf, i_ial, i_bal, i_lal, i_aal, i_ias, i_las, i_bas, i_aas, i_alen, i_newa, i_new, i_anew, i_cast, i_oi, i_call, i_callV, i_callV2, i_callI, i_iret, i_zret, i_lret, i_vret, i_aret, i_mmx, i_mmn, i_gsE, i_aceq, i_no, i_acq, i_sw, zsw, zlg, zls, znl, zfg, zcs, zsp, zrc, zisn, zft, zc1, zto, Value.category, List.set_cons_zero, List.set_cons_succ, List.length_cons, List.length_nil, Option.toList, List.append, List.nil_append, List.cons_append, true_and, and_true, Nat.add_zero, Nat.zero_le, Nat.zero_add, Nat.le_refl, Nat.reduceAdd, Nat.reduceLeDiff, co0, z0, zn_0, zn_1, zn_2, zn_3, zn_4, zn_5, zn_8, zn_12, zn_24, zn_121, zn_144, zn_256, zn_300, zn_600, zn_720, zn_1204, zn_1280, zn_2400, zn_4816, zn_14400, zn_90000]
    rw [nI_1]
    have hin : vp_in (nI i) 4 := vp_in_nI hi (by decide)
    refine ⟨fun h => absurd ((zK (K := 4) (by decide) (n := i) (by omega)).2.1.mp h) (by omega), fun _ => ⟨hin, hin, (7, w, i), (8, w, i), _, _, _, (7, w', i), (8, w', i), _, _, _, rfl, ft_e h2 hi, ft_e h2' hi, fun h => ?_, fun h => ⟨by decide, ?_⟩⟩⟩
    · refine ih (lt_s hp ?_)
      cases hb : ws_wide x w w' i with
      | true => rfl
      | false => exact absurd (zb_0.mpr hb) h
    · have : ws_takes x w w' = false := zd_f (fun z => by
        rcases z with z | z
        · exact hnv z
        · have h0 := zb_0.mp h
          have h1 := z i hi
          unfold ws_wide at h1
          rw [h1] at h0
          cases h0)
      rw [this] at hR
      exact hR) (fun hp => by
    refine s_Wsh_takesIn_11 hC hN _ _ _ _ _ ?_
    simp only [B_Wsh_takesIn_0, B_Wsh_takesIn_9, B_Wsh_takesIn_11, B_Wsh_takesIn_36, B_Wsh_takesIn_42, co_FT_isAsWideAs, co_Wsh_isNeverMet, co_Wsh_takesIn, i_ic, i_lc, i_nul, i_il, i_ll, i_al, i_is, i_as, i_ls, i_inc, i_iadd, i_isub, i_imul, i_iand, i_ior, i_ixor, i_idiv, i_irem, i_ishl, i_ishr, i_ladd, i_lsub, i_land, i_lor, i_i2l, i_lushr, i_lshl, i_lshr, i_lcmp, i_dup, i_pop, i_dx1, i_dup2, i_ifeq, i_ifne, i_iflt, i_ifge, i_ifgt, i_ifle, i_iceq, i_icne, i_iclt, i_icge, i_icgt, i_icle, i_ifn, i_gf, i_pf, i_ial, i_bal, i_lal, i_aal, i_ias, i_las, i_bas, i_aas, i_alen, i_newa, i_new, i_anew, i_cast, i_oi, i_call, i_callV, i_callV2, i_callI, i_iret, i_zret, i_lret, i_vret, i_aret, i_mmx, i_mmn, i_gsE, i_aceq, i_no, i_acq, i_sw, zsw, zlg, zls, znl, zfg, zcs, zsp, zrc, zisn, zft, zc1, zto, Value.category, List.set_cons_zero, List.set_cons_succ, List.length_cons, List.length_nil, Option.toList, List.append, List.nil_append, List.cons_append, true_and, and_true, Nat.add_zero, Nat.zero_le, Nat.zero_add, Nat.le_refl, Nat.reduceAdd, Nat.reduceLeDiff, co0, z0, zn_0, zn_1, zn_2, zn_3, zn_4, zn_5, zn_8, zn_12, zn_24, zn_121, zn_144, zn_256, zn_300, zn_600, zn_720, zn_1204, zn_1280, zn_2400, zn_4816, zn_14400, zn_90000, p_wsh h1, x_wsh]
    refine ⟨fun _ => ⟨by decide, ?_⟩, fun h => absurd (by decide) h⟩
    have : ws_takes x w w' = true := zd_t (Or.inr hp)
    rw [this] at hR
    exact hR) 0 (Nat.zero_le _)
  refine s_Wsh_takesIn_0 hC hN _ _ _ _ _ ?_
  simp only [B_Wsh_takesIn_0, B_Wsh_takesIn_9, B_Wsh_takesIn_11, B_Wsh_takesIn_36, B_Wsh_takesIn_42, co_FT_isAsWideAs, co_Wsh_isNeverMet, co_Wsh_takesIn, i_ic, i_lc, i_nul, i_il, i_ll, i_al, i_is, i_as, i_ls, i_inc, i_iadd, i_isub, i_imul, i_iand, i_ior, i_ixor, i_idiv, i_irem, i_ishl, i_ishr, i_ladd, i_lsub, i_land, i_lor, i_i2l, i_lushr, i_lshl, i_lshr, i_lcmp, i_dup, i_pop, i_dx1, i_dup2, i_ifeq, i_ifne, i_iflt, i_ifge, i_ifgt, i_ifle, i_iceq, i_icne, i_iclt, i_icge, i_icgt, i_icle, i_ifn, i_gf, i_pf, i_ial, i_bal, i_lal, i_aal, i_ias, i_las, i_bas, i_aas, i_alen, i_newa, i_new, i_anew, i_cast, i_oi, i_call, i_callV, i_callV2, i_callI, i_iret, i_zret, i_lret, i_vret, i_aret, i_mmx, i_mmn, i_gsE, i_aceq, i_no, i_acq, i_sw, zsw, zlg, zls, znl, zfg, zcs, zsp, zrc, zisn, zft, zc1, zto, Value.category, List.set_cons_zero, List.set_cons_succ, List.length_cons, List.length_nil, Option.toList, List.append, List.nil_append, List.cons_append, true_and, and_true, Nat.add_zero, Nat.zero_le, Nat.zero_add, Nat.le_refl, Nat.reduceAdd, Nat.reduceLeDiff, co0, z0, zn_0, zn_1, zn_2, zn_3, zn_4, zn_5, zn_8, zn_12, zn_24, zn_121, zn_144, zn_256, zn_300, zn_600, zn_720, zn_1204, zn_1280, zn_2400, zn_4816, zn_14400, zn_90000, p_wsh h1', x_wsh]
  refine ⟨x, w', rfl, rfl, ⟨h1', h2'⟩, fun h => ?_, fun h => ⟨by decide, ?_⟩⟩
  · have hnv : ¬ ws_never x w' = true := by rw [zb_0.mp h]; decide
    exact loop hnv (fun j hj => absurd hj (Nat.not_lt_zero j))
  · have hv : ws_never x w' = true := by
      cases hb : ws_never x w' with
      | true => rfl
      | false => exact absurd (zb_0.mpr hb) h
    have : ws_takes x w w' = true := zd_t (Or.inl hv)
    rw [this] at hR
    exact hR
