/-! WishRoutes: who wants a notice, who hears it -/
theorem zb_n0 {b : Bool} (h : ¬ zb b = 0) : b = true := by
  cases hb : b with
  | true => rfl
  | false => exact absurd (zb_0.mpr hb) h
noncomputable def wt_at (x : zSt) (g : Nat → Int32) (m : Int32) : Bool := zd (∃ w, w < x_nw x ∧ x_wa x w = true ∧ inm m (x_rd x (x_wr x w)) = true ∧ ws_met x w g = true)
def T_WR_isWantedAt (As : List zAV) (M : zMp) (Rt : Option zAV → zMp → Prop) : Prop := ∃ x k m, As = [.inr (0, 0, 0), .inr (12, k, 0), .inl (.int m)] ∧ M = pic x ∧ Iv x ∧ k < x_on x ∧ Rt (some (.inl (.int (zb (wt_at x (x_nf x k) m))))) M
abbrev co_WR_isWantedAt := co0
theorem dX6_isWantedAt_0 : decode cX6_isWantedAt 0 = .ok (.iconst 0, 1) := by decide +kernel
theorem dX6_isWantedAt_1 : decode cX6_isWantedAt 1 = .ok (.istore_n 3, 1) := by decide +kernel
theorem dX6_isWantedAt_2 : decode cX6_isWantedAt 2 = .ok (.iload_n 3, 1) := by decide +kernel
theorem dX6_isWantedAt_3 : decode cX6_isWantedAt 3 = .ok (.aload_n 0, 1) := by decide +kernel
theorem dX6_isWantedAt_4 : decode cX6_isWantedAt 4 = .ok (.getfield 16, 3) := by decide +kernel
theorem dX6_isWantedAt_7 : decode cX6_isWantedAt 7 = .ok (.invokevirtual 96, 3) := by decide +kernel
theorem dX6_isWantedAt_10 : decode cX6_isWantedAt 10 = .ok (.if_icmp .ge 59, 3) := by decide +kernel
theorem dX6_isWantedAt_13 : decode cX6_isWantedAt 13 = .ok (.aload_n 0, 1) := by decide +kernel
theorem dX6_isWantedAt_14 : decode cX6_isWantedAt 14 = .ok (.getfield 16, 3) := by decide +kernel
theorem dX6_isWantedAt_17 : decode cX6_isWantedAt 17 = .ok (.iload_n 3, 1) := by decide +kernel
theorem dX6_isWantedAt_18 : decode cX6_isWantedAt 18 = .ok (.invokevirtual 227, 3) := by decide +kernel
theorem dX6_isWantedAt_21 : decode cX6_isWantedAt 21 = .ok (.checkcast 127, 3) := by decide +kernel
theorem dX6_isWantedAt_24 : decode cX6_isWantedAt 24 = .ok (.astore 4, 2) := by decide +kernel
theorem dX6_isWantedAt_26 : decode cX6_isWantedAt 26 = .ok (.aload 4, 2) := by decide +kernel
theorem dX6_isWantedAt_28 : decode cX6_isWantedAt 28 = .ok (.getfield 140, 3) := by decide +kernel
theorem dX6_isWantedAt_31 : decode cX6_isWantedAt 31 = .ok (.ifCond .eq 32, 3) := by decide +kernel
theorem dX6_isWantedAt_34 : decode cX6_isWantedAt 34 = .ok (.iload_n 2, 1) := by decide +kernel
theorem dX6_isWantedAt_35 : decode cX6_isWantedAt 35 = .ok (.aload 4, 2) := by decide +kernel
theorem dX6_isWantedAt_37 : decode cX6_isWantedAt 37 = .ok (.getfield 144, 3) := by decide +kernel
theorem dX6_isWantedAt_40 : decode cX6_isWantedAt 40 = .ok (.getfield 112, 3) := by decide +kernel
theorem dX6_isWantedAt_43 : decode cX6_isWantedAt 43 = .ok (.invokestatic 77, 3) := by decide +kernel
theorem dX6_isWantedAt_46 : decode cX6_isWantedAt 46 = .ok (.ifCond .eq 17, 3) := by decide +kernel
theorem dX6_isWantedAt_49 : decode cX6_isWantedAt 49 = .ok (.aload 4, 2) := by decide +kernel
theorem dX6_isWantedAt_51 : decode cX6_isWantedAt 51 = .ok (.aload_n 1, 1) := by decide +kernel
theorem dX6_isWantedAt_52 : decode cX6_isWantedAt 52 = .ok (.getfield 201, 3) := by decide +kernel
theorem dX6_isWantedAt_55 : decode cX6_isWantedAt 55 = .ok (.invokevirtual 177, 3) := by decide +kernel
theorem dX6_isWantedAt_58 : decode cX6_isWantedAt 58 = .ok (.ifCond .eq 5, 3) := by decide +kernel
theorem dX6_isWantedAt_61 : decode cX6_isWantedAt 61 = .ok (.iconst 1, 1) := by decide +kernel
theorem dX6_isWantedAt_62 : decode cX6_isWantedAt 62 = .ok (.ireturn, 1) := by decide +kernel
theorem dX6_isWantedAt_63 : decode cX6_isWantedAt 63 = .ok (.iinc 3 1, 3) := by decide +kernel
theorem dX6_isWantedAt_66 : decode cX6_isWantedAt 66 = .ok (.goto (-64), 3) := by decide +kernel
theorem dX6_isWantedAt_69 : decode cX6_isWantedAt 69 = .ok (.iconst 0, 1) := by decide +kernel
theorem dX6_isWantedAt_70 : decode cX6_isWantedAt 70 = .ok (.ireturn, 1) := by decide +kernel
def B_WR_isWantedAt_69 (mc ms : Nat) (Rt : Option zAV → zMp → Prop) (g : Nat → zKT) : zKT :=
  (i_ic 0 (i_zret mc ms Rt))
set_option maxRecDepth 20000 in
theorem s_WR_isWantedAt_69 {X : zMa} {mc ms : Nat} {Rt : Option zAV → zMp → Prop} (hC : zCx X RX6 cX6_isWantedAt 3 65 mc ms (some .boolean) false Rt) (hN : zNL X = 5) : zLe (B_WR_isWantedAt_69 mc ms Rt (zG X)) (zG X 69) :=
  (sd_iconst hC (by decide) dX6_isWantedAt_69 ((sd_zret hC dX6_isWantedAt_70)))
def B_WR_isWantedAt_63 (mc ms : Nat) (Rt : Option zAV → zMp → Prop) (g : Nat → zKT) : zKT :=
  (i_inc 3 1 (g 2))
set_option maxRecDepth 20000 in
theorem s_WR_isWantedAt_63 {X : zMa} {mc ms : Nat} {Rt : Option zAV → zMp → Prop} (hC : zCx X RX6 cX6_isWantedAt 3 65 mc ms (some .boolean) false Rt) (hN : zNL X = 5) : zLe (B_WR_isWantedAt_63 mc ms Rt (zG X)) (zG X 63) :=
  (sd_inc hC (by decide) (by rw [hN]; decide) dX6_isWantedAt_63 ((sd_goto hC (tgt := 2) (by decide) dX6_isWantedAt_66 (zLe_rfl))))
def B_WR_isWantedAt_2 (mc ms : Nat) (Rt : Option zAV → zMp → Prop) (g : Nat → zKT) : zKT :=
  (i_il 3 (i_al 0 (i_gf 7 1 (i_callV mc ms 0 1 T_AL_size co_AL_size (i_icge (B_WR_isWantedAt_69 mc ms Rt g) (i_al 0 (i_gf 7 1 (i_il 3 (i_callV mc ms 0 2 T_AL_get co_AL_get (i_cast "WishRoutes$Wish" (i_as 4 (i_al 4 (i_gf 6 4 (i_ifeq (B_WR_isWantedAt_63 mc ms Rt g) (i_il 2 (i_al 4 (i_gf 6 1 (i_gf 4 0 (i_call mc ms 2 T_WR_inMask co_WR_inMask (i_ifeq (B_WR_isWantedAt_63 mc ms Rt g) (i_al 4 (i_al 1 (i_gf 3 2 (i_callV mc ms 6 2 T_Wsh_isMetBy co_Wsh_isMetBy (i_ifeq (B_WR_isWantedAt_63 mc ms Rt g) (i_ic 1 (i_zret mc ms Rt)))))))))))))))))))))))))))
set_option maxRecDepth 20000 in
theorem s_WR_isWantedAt_2 {X : zMa} {mc ms : Nat} {Rt : Option zAV → zMp → Prop} (hC : zCx X RX6 cX6_isWantedAt 3 65 mc ms (some .boolean) false Rt) (hN : zNL X = 5) : zLe (B_WR_isWantedAt_2 mc ms Rt (zG X)) (zG X 2) :=
  (sd_il_n hC rfl dX6_isWantedAt_2 ((sd_al_n hC rfl dX6_isWantedAt_3 ((sd_gf hC (ci := 7) (fk := 1) rfl wi_WR (by decide) fl_WR_16 (Or.inl rfl) dX6_isWantedAt_4 ((sd_cV hC c_AL_size yv_AL_size (ci := 0) rfl rfl ml_WR_96 (by decide) (by decide) dX6_isWantedAt_7 ((sd_icge hC (tgt := 69) (by decide) dX6_isWantedAt_10 (s_WR_isWantedAt_69 hC hN) ((sd_al_n hC rfl dX6_isWantedAt_13 ((sd_gf hC (ci := 7) (fk := 1) rfl wi_WR (by decide) fl_WR_16 (Or.inl rfl) dX6_isWantedAt_14 ((sd_il_n hC rfl dX6_isWantedAt_17 ((sd_cV hC c_AL_get yv_AL_get (ci := 0) rfl rfl ml_WR_227 (by decide) (by decide) dX6_isWantedAt_18 ((sd_cast hC cl_WR_127 dX6_isWantedAt_21 ((sd_as hC (by rw [hN]; decide) dX6_isWantedAt_24 ((sd_al hC dX6_isWantedAt_26 ((sd_gf hC (ci := 6) (fk := 4) rfl wi_Wsh (by decide) fl_WR_140 (Or.inl rfl) dX6_isWantedAt_28 ((sd_ifeq hC (tgt := 63) (by decide) dX6_isWantedAt_31 (s_WR_isWantedAt_63 hC hN) ((sd_il_n hC rfl dX6_isWantedAt_34 ((sd_al hC dX6_isWantedAt_35 ((sd_gf hC (ci := 6) (fk := 1) rfl wi_Wsh (by decide) fl_WR_144 (Or.inl rfl) dX6_isWantedAt_37 ((sd_gf hC (ci := 4) (fk := 0) rfl wi_Rdr (by decide) fl_WR_112 (Or.inl rfl) dX6_isWantedAt_40 ((sd_cS hC c_WR_inMask ys_WR_inMask ml_WR_77 (by decide) (by decide) dX6_isWantedAt_43 ((sd_ifeq hC (tgt := 63) (by decide) dX6_isWantedAt_46 (s_WR_isWantedAt_63 hC hN) ((sd_al hC dX6_isWantedAt_49 ((sd_al_n hC rfl dX6_isWantedAt_51 ((sd_gf hC (ci := 3) (fk := 2) rfl wi_Not (by decide) fl_WR_201 (Or.inl rfl) dX6_isWantedAt_52 ((sd_cV hC c_Wsh_isMetBy yv_Wsh_isMetBy (ci := 6) rfl rfl ml_WR_177 (by decide) (by decide) dX6_isWantedAt_55 ((sd_ifeq hC (tgt := 63) (by decide) dX6_isWantedAt_58 (s_WR_isWantedAt_63 hC hN) ((sd_iconst hC (by decide) dX6_isWantedAt_61 ((sd_zret hC dX6_isWantedAt_62)))))))))))))))))))))))))))))))))))))))))))))))))))))
def B_WR_isWantedAt_0 (mc ms : Nat) (Rt : Option zAV → zMp → Prop) (g : Nat → zKT) : zKT :=
  (i_ic 0 (i_is 3 (g 2)))
set_option maxRecDepth 20000 in
theorem s_WR_isWantedAt_0 {X : zMa} {mc ms : Nat} {Rt : Option zAV → zMp → Prop} (hC : zCx X RX6 cX6_isWantedAt 3 65 mc ms (some .boolean) false Rt) (hN : zNL X = 5) : zLe (B_WR_isWantedAt_0 mc ms Rt (zG X)) (zG X 0) :=
  (sd_iconst hC (by decide) dX6_isWantedAt_0 ((sd_is_n hC rfl (by rw [hN]; decide) dX6_isWantedAt_1 (zLe_rfl))))
theorem c_WR_isWantedAt (l : Launch) : zCT l yX6_isWantedAt cX6_isWantedAt 5 (some .boolean) 3 65 T_WR_isWantedAt co_WR_isWantedAt := by
  intro As M Rt hT
  obtain ⟨x, k, m, rfl, rfl, hI, hk, hR⟩ := hT
  have hlim := hI.lim
  have hcap := hI.cap 1 (by decide)
  have hsz : x_sz x 1 = x_nw x := rfl
  rw [hsz] at hcap
  refine zMet_of false (by decide +kernel) (fun h => by first | rfl | cases h) (Nat.le_of_ble_eq_true rfl) (fun X hN hC => ?_)
  show zG X 0 [some (.inr (0, 0, 0)), some (.inr (12, k, 0)), some (.inl (.int m)), none, none] [] (pic x) 0 0
  have loop := upto (N := x_nw x) (P := fun w => (∀ v, v < w → ¬ (x_wa x v = true ∧ inm m (x_rd x (x_wr x v)) = true ∧ ws_met x v (x_nf x k) = true)) → ∀ j4 : Option zAV, zG X 2 [some (.inr (0, 0, 0)), some (.inr (12, k, 0)), some (.inl (.int m)), some (.inl (.int (nI w))), j4] [] (pic x) 0 0) (fun w hw ih hp j4 => by
    refine s_WR_isWantedAt_2 hC hN _ _ _ _ _ ?_
    simp only [B_WR_isWantedAt_0, B_WR_isWantedAt_2, B_WR_isWantedAt_63, B_WR_isWantedAt_69, co_AL_get, co_AL_size, co_WR_inMask, co_WR_isWantedAt, co_Wsh_isMetBy, i_ic, i_lc, i_nul, i_il, i_ll, i_al, i_is, i_as, i_ls, i_inc, i_iadd, i_isub, i_imul, i_iand, i_ior, i_ixor, i_idiv, i_irem, i_ishl, i_ishr, i_ladd, i_lsub, i_land, i_lor, i_i2l, i_lushr, i_lshl, i_lshr, i_lcmp, i_dup, i_pop, i_dx1, i_dup2, i_ifeq, i_ifne, i_iflt, i_ifge, i_ifgt, i_ifle, i_iceq, i_icne, i_iclt, i_icge, i_icgt, i_icle, i_ifn, i_gf, i_pf, i_ial, i_bal, i_lal, i_aal, i_ias, i_las, i_bas, i_aas, i_alen, i_newa, i_new, i_anew, i_cast, i_oi, i_call, i_callV, i_callV2, i_callI, i_iret, i_zret, i_lret, i_vret, i_aret, i_mmx, i_mmn, i_gsE, i_aceq, i_no, i_acq, i_sw, zsw, zlg, zls, znl, zfg, zcs, zsp, zrc, zisn, zft, zc1, zto, Value.category, List.set_cons_zero, List.set_cons_succ, List.length_cons, List.length_nil, Option.toList, List.append, List.nil_append, List.cons_append, true_and, and_true, Nat.add_zero, Nat.zero_le, Nat.zero_add, Nat.le_refl, Nat.reduceAdd, Nat.reduceLeDiff, co0, z0, zn_0, zn_1, zn_2, zn_3, zn_4, zn_5, zn_8, zn_12, zn_24, zn_121, zn_144, zn_256, zn_300, zn_600, zn_720, zn_1204, zn_1280, zn_2400, zn_4816, zn_14400, zn_90000, p_main, x_main, p_list (i := 1) (by decide)]
    refine ⟨(1, 1, 0), _, _, _, rfl, p_list (by decide), ?_⟩
    rw [hsz]
    simp only [p_main, x_main, p_list (i := 1) (by decide), i_ic, i_lc, i_nul, i_il, i_ll, i_al, i_is, i_as, i_ls, i_inc, i_iadd, i_isub, i_imul, i_iand, i_ior, i_ixor, i_idiv, i_irem, i_ishl, i_ishr, i_ladd, i_lsub, i_land, i_lor, i_i2l, i_lushr, i_lshl, i_lshr, i_lcmp, i_dup, i_pop, i_dx1, i_dup2, i_ifeq, i_ifne, i_iflt, i_ifge, i_ifgt, i_ifle, i_iceq, i_icne, i_iclt, i_icge, i_icgt, i_icle, i_ifn, i_gf, i_pf, i_ial, i_bal, i_lal, i_aal, i_ias, i_las, i_bas, i_aas, i_alen, i_newa, i_new, i_anew, i_cast, i_oi, i_call, i_callV, i_callV2, i_callI, i_iret, i_zret, i_lret, i_vret, i_aret, i_mmx, i_mmn, i_gsE, i_aceq, i_no, i_acq, i_sw, zsw, zlg, zls, znl, zfg, zcs, zsp, zrc, zisn, zft, zc1, zto, Value.category, List.set_cons_zero, List.set_cons_succ, List.length_cons, List.length_nil, Option.toList, List.append, List.nil_append, List.cons_append, true_and, and_true, Nat.add_zero, Nat.zero_le, Nat.zero_add, Nat.le_refl, Nat.reduceAdd, Nat.reduceLeDiff, co0, z0, zn_0, zn_1, zn_2, zn_3, zn_4, zn_5, zn_8, zn_12, zn_24, zn_121, zn_144, zn_256, zn_300, zn_600, zn_720, zn_1204, zn_1280, zn_2400, zn_4816, zn_14400, zn_90000]
    refine ⟨fun h => absurd ((zK (K := x_nw x) (by omega) (n := w) (by omega)).2.1.mp h) (by omega), fun _ => ⟨(1, 1, 0), _, _, _, _, _, w, rfl, p_list (by decide), p_dat (by decide) (by omega), by rw [hsz]; exact hw, by rw [hsz]; exact hcap.1, by omega, ?_⟩⟩
    have ek : x_el x 1 w = some (15, w, 0) := if_pos hw
    have hkk : w < x_ow x := Nat.lt_of_lt_of_le hw hI.cnt.2.1
    have hww := hI.wsh w hkk
    rw [ek]
    simp only [zov, zok, p_wsh hkk, x_wsh, p_rdr hww.1, x_rdr, p_ntc hk, x_ntc, i_ic, i_lc, i_nul, i_il, i_ll, i_al, i_is, i_as, i_ls, i_inc, i_iadd, i_isub, i_imul, i_iand, i_ior, i_ixor, i_idiv, i_irem, i_ishl, i_ishr, i_ladd, i_lsub, i_land, i_lor, i_i2l, i_lushr, i_lshl, i_lshr, i_lcmp, i_dup, i_pop, i_dx1, i_dup2, i_ifeq, i_ifne, i_iflt, i_ifge, i_ifgt, i_ifle, i_iceq, i_icne, i_iclt, i_icge, i_icgt, i_icle, i_ifn, i_gf, i_pf, i_ial, i_bal, i_lal, i_aal, i_ias, i_las, i_bas, i_aas, i_alen, i_newa, i_new, i_anew, i_cast, i_oi, i_call, i_callV, i_callV2, i_callI, i_iret, i_zret, i_lret, i_vret, i_aret, i_mmx, i_mmn, i_gsE, i_aceq, i_no, i_acq, i_sw, zsw, zlg, zls, znl, zfg, zcs, zsp, zrc, zisn, zft, zc1, zto, Value.category, List.set_cons_zero, List.set_cons_succ, List.length_cons, List.length_nil, Option.toList, List.append, List.nil_append, List.cons_append, true_and, and_true, Nat.add_zero, Nat.zero_le, Nat.zero_add, Nat.le_refl, Nat.reduceAdd, Nat.reduceLeDiff, co0, z0, zn_0, zn_1, zn_2, zn_3, zn_4, zn_5, zn_8, zn_12, zn_24, zn_121, zn_144, zn_256, zn_300, zn_600, zn_720, zn_1204, zn_1280, zn_2400, zn_4816, zn_14400, zn_90000]
    rw [nI_1]
    refine ⟨zk_Wsh_Wsh, fun ha => ih (lt_s hp (fun z => by rw [z.1] at ha; exact absurd ha (by decide))) _, fun ha => ⟨m, x_rd x (x_wr x w), rfl, ?_⟩⟩
    simp only [zov, p_wsh hkk, x_wsh, p_ntc hk, x_ntc, i_ic, i_lc, i_nul, i_il, i_ll, i_al, i_is, i_as, i_ls, i_inc, i_iadd, i_isub, i_imul, i_iand, i_ior, i_ixor, i_idiv, i_irem, i_ishl, i_ishr, i_ladd, i_lsub, i_land, i_lor, i_i2l, i_lushr, i_lshl, i_lshr, i_lcmp, i_dup, i_pop, i_dx1, i_dup2, i_ifeq, i_ifne, i_iflt, i_ifge, i_ifgt, i_ifle, i_iceq, i_icne, i_iclt, i_icge, i_icgt, i_icle, i_ifn, i_gf, i_pf, i_ial, i_bal, i_lal, i_aal, i_ias, i_las, i_bas, i_aas, i_alen, i_newa, i_new, i_anew, i_cast, i_oi, i_call, i_callV, i_callV2, i_callI, i_iret, i_zret, i_lret, i_vret, i_aret, i_mmx, i_mmn, i_gsE, i_aceq, i_no, i_acq, i_sw, zsw, zlg, zls, znl, zfg, zcs, zsp, zrc, zisn, zft, zc1, zto, Value.category, List.set_cons_zero, List.set_cons_succ, List.length_cons, List.length_nil, Option.toList, List.append, List.nil_append, List.cons_append, true_and, and_true, Nat.add_zero, Nat.zero_le, Nat.zero_add, Nat.le_refl, Nat.reduceAdd, Nat.reduceLeDiff, co0, z0, zn_0, zn_1, zn_2, zn_3, zn_4, zn_5, zn_8, zn_12, zn_24, zn_121, zn_144, zn_256, zn_300, zn_600, zn_720, zn_1204, zn_1280, zn_2400, zn_4816, zn_14400, zn_90000]
    refine ⟨fun hb => ih (lt_s hp (fun z => by rw [z.2.1] at hb; exact absurd hb (by decide))) _, fun hb => ⟨x, w, (13, k, 0), x_nf x k, rfl, rfl, ⟨hkk, hww.2.2⟩, p_nf hk, ?_⟩⟩
    refine ⟨fun hm => ih (lt_s hp (fun z => by rw [z.2.2] at hm; exact absurd hm (by decide))) _, fun hm => ⟨by decide, ?_⟩⟩
    have : wt_at x (x_nf x k) m = true := zd_t ⟨w, hw, zb_n0 ha, zb_n0 hb, zb_n0 hm⟩
    rw [this] at hR
    exact hR) (fun hp j4 => by
    refine s_WR_isWantedAt_2 hC hN _ _ _ _ _ ?_
    simp only [B_WR_isWantedAt_0, B_WR_isWantedAt_2, B_WR_isWantedAt_63, B_WR_isWantedAt_69, co_AL_get, co_AL_size, co_WR_inMask, co_WR_isWantedAt, co_Wsh_isMetBy, i_ic, i_lc, i_nul, i_il, i_ll, i_al, i_is, i_as, i_ls, i_inc, i_iadd, i_isub, i_imul, i_iand, i_ior, i_ixor, i_idiv, i_irem, i_ishl, i_ishr, i_ladd, i_lsub, i_land, i_lor, i_i2l, i_lushr, i_lshl, i_lshr, i_lcmp, i_dup, i_pop, i_dx1, i_dup2, i_ifeq, i_ifne, i_iflt, i_ifge, i_ifgt, i_ifle, i_iceq, i_icne, i_iclt, i_icge, i_icgt, i_icle, i_ifn, i_gf, i_pf, i_ial, i_bal, i_lal, i_aal, i_ias, i_las, i_bas, i_aas, i_alen, i_newa, i_new, i_anew, i_cast, i_oi, i_call, i_callV, i_callV2, i_callI, i_iret, i_zret, i_lret, i_vret, i_aret, i_mmx, i_mmn, i_gsE, i_aceq, i_no, i_acq, i_sw, zsw, zlg, zls, znl, zfg, zcs, zsp, zrc, zisn, zft, zc1, zto, Value.category, List.set_cons_zero, List.set_cons_succ, List.length_cons, List.length_nil, Option.toList, List.append, List.nil_append, List.cons_append, true_and, and_true, Nat.add_zero, Nat.zero_le, Nat.zero_add, Nat.le_refl, Nat.reduceAdd, Nat.reduceLeDiff, co0, z0, zn_0, zn_1, zn_2, zn_3, zn_4, zn_5, zn_8, zn_12, zn_24, zn_121, zn_144, zn_256, zn_300, zn_600, zn_720, zn_1204, zn_1280, zn_2400, zn_4816, zn_14400, zn_90000, p_main, x_main, p_list (i := 1) (by decide)]
    refine ⟨(1, 1, 0), _, _, _, rfl, p_list (by decide), ?_⟩
    rw [hsz]
    refine ⟨fun _ => ⟨by decide, ?_⟩, fun h => absurd ((zK (K := x_nw x) (by omega) (n := x_nw x) (by omega)).2.1.mpr (Nat.le_refl _)) h⟩
    have : wt_at x (x_nf x k) m = false := zd_f (fun ⟨w, hw, h⟩ => hp w hw h)
    rw [this] at hR
    exact hR) 0 (Nat.zero_le _)
  refine s_WR_isWantedAt_0 hC hN _ _ _ _ _ ?_
  simp only [B_WR_isWantedAt_0, B_WR_isWantedAt_2, B_WR_isWantedAt_63, B_WR_isWantedAt_69, co_AL_get, co_AL_size, co_WR_inMask, co_WR_isWantedAt, co_Wsh_isMetBy, i_ic, i_lc, i_nul, i_il, i_ll, i_al, i_is, i_as, i_ls, i_inc, i_iadd, i_isub, i_imul, i_iand, i_ior, i_ixor, i_idiv, i_irem, i_ishl, i_ishr, i_ladd, i_lsub, i_land, i_lor, i_i2l, i_lushr, i_lshl, i_lshr, i_lcmp, i_dup, i_pop, i_dx1, i_dup2, i_ifeq, i_ifne, i_iflt, i_ifge, i_ifgt, i_ifle, i_iceq, i_icne, i_iclt, i_icge, i_icgt, i_icle, i_ifn, i_gf, i_pf, i_ial, i_bal, i_lal, i_aal, i_ias, i_las, i_bas, i_aas, i_alen, i_newa, i_new, i_anew, i_cast, i_oi, i_call, i_callV, i_callV2, i_callI, i_iret, i_zret, i_lret, i_vret, i_aret, i_mmx, i_mmn, i_gsE, i_aceq, i_no, i_acq, i_sw, zsw, zlg, zls, znl, zfg, zcs, zsp, zrc, zisn, zft, zc1, zto, Value.category, List.set_cons_zero, List.set_cons_succ, List.length_cons, List.length_nil, Option.toList, List.append, List.nil_append, List.cons_append, true_and, and_true, Nat.add_zero, Nat.zero_le, Nat.zero_add, Nat.le_refl, Nat.reduceAdd, Nat.reduceLeDiff, co0, z0, zn_0, zn_1, zn_2, zn_3, zn_4, zn_5, zn_8, zn_12, zn_24, zn_121, zn_144, zn_256, zn_300, zn_600, zn_720, zn_1204, zn_1280, zn_2400, zn_4816, zn_14400, zn_90000]
  exact loop (fun j hj => absurd hj (Nat.not_lt_zero j)) _
/-! letHear -/
theorem Iv_nv {x : zSt} {f : Nat → Int32} (h : Iv x) : Iv (u_nv x f) := h
theorem Iv_nh {x : zSt} {f : Nat → Int32} (h : Iv x) : Iv (u_nh x f) := h
theorem Iv_nm {x : zSt} {f : Nat → Int32} (h : Iv x) : Iv (u_nm x f) := h
theorem Iv_rda {x : zSt} {r : Nat} {v : Int32} (h : Iv x) : Iv (rd_add x r v) := by
  unfold rd_add
  split
  · next hr =>
    obtain ⟨h1, h2, h3, h4, h5, h6, h7, h8, h9, h10, h11⟩ := h
    refine ⟨h1, h2, h3, h4, h5, fun i hi => ⟨?_, (h6 i hi).2⟩, h7, h8, h9, h10, h11⟩
    rw [g_rz_rz]
    simp only [va_up]
    split
    · omega
    · exact (h6 i hi).1
  · exact h
/-- wish w's reader hears notice k, if it is to -/
noncomputable def lh_s (y : zSt) (k : Nat) (d : Int32) (w : Nat) : zSt := if x_wa y w = true ∧ x_rd y (x_wr y w) = d ∧ inm (x_nh y k) (nI (x_wr y w)) = false ∧ ws_met y w (x_nf y k) = true then rd_add (u_nh y (va_up (x_nh y) k (x_nh y k ||| (1 <<< (nI (x_wr y w) &&& 31))))) (x_wr y w) (nI k) else y
noncomputable def lh (x : zSt) (k : Nat) (d : Int32) : Nat → zSt
  | 0 => u_nv x (va_up (x_nv x) k (x_nv x k ||| (1 <<< (d &&& 31))))
  | n + 1 => lh_s (lh x k d n) k d n
theorem Iv_lhs {y : zSt} {k w : Nat} {d : Int32} (h : Iv y) : Iv (lh_s y k d w) := by
  unfold lh_s
  split
  · exact Iv_rda (Iv_nh h)
  · exact h
theorem Iv_lh {x : zSt} {k : Nat} {d : Int32} (h : Iv x) : ∀ n, Iv (lh x k d n)
  | 0 => Iv_nv h
  | n + 1 => Iv_lhs (Iv_lh h n)
/-- what hearing leaves as it was -/
def lh_k (x y : zSt) : Prop := x_nw y = x_nw x ∧ x_on y = x_on x ∧ x_dk y = x_dk x ∧ x_ow y = x_ow x
theorem lh_k_a (x : zSt) (r : Nat) (v : Int32) : lh_k x (rd_add x r v) := by
  unfold rd_add
  split <;> exact ⟨rfl, rfl, rfl, rfl⟩
theorem lh_k_s (y : zSt) (k : Nat) (d : Int32) (w : Nat) : lh_k y (lh_s y k d w) := by
  unfold lh_s
  split
  · exact lh_k_a (u_nh y _) _ _
  · exact ⟨rfl, rfl, rfl, rfl⟩
theorem lh_k_t {x y z : zSt} (h1 : lh_k x y) (h2 : lh_k y z) : lh_k x z := ⟨h2.1.trans h1.1, h2.2.1.trans h1.2.1, h2.2.2.1.trans h1.2.2.1, h2.2.2.2.trans h1.2.2.2⟩
theorem lh_k_n (x : zSt) (k : Nat) (d : Int32) : ∀ n, lh_k x (lh x k d n)
  | 0 => ⟨rfl, rfl, rfl, rfl⟩
  | n + 1 => lh_k_t (lh_k_n x k d n) (lh_k_s _ k d n)
def T_WR_letHear (As : List zAV) (M : zMp) (Rt : Option zAV → zMp → Prop) : Prop := ∃ x k d, As = [.inr (0, 0, 0), .inr (12, k, 0), .inl (.int d)] ∧ M = pic x ∧ Iv x ∧ k < x_on x ∧ Rt none (pic (lh x k d (x_nw x)))
abbrev co_WR_letHear := co0
theorem dX6_letHear_0 : decode cX6_letHear 0 = .ok (.aload_n 1, 1) := by decide +kernel
theorem dX6_letHear_1 : decode cX6_letHear 1 = .ok (.dup, 1) := by decide +kernel
theorem dX6_letHear_2 : decode cX6_letHear 2 = .ok (.getfield 270, 3) := by decide +kernel
theorem dX6_letHear_5 : decode cX6_letHear 5 = .ok (.iconst 1, 1) := by decide +kernel
theorem dX6_letHear_6 : decode cX6_letHear 6 = .ok (.iload_n 2, 1) := by decide +kernel
theorem dX6_letHear_7 : decode cX6_letHear 7 = .ok (.ishl, 1) := by decide +kernel
theorem dX6_letHear_8 : decode cX6_letHear 8 = .ok (.ior, 1) := by decide +kernel
theorem dX6_letHear_9 : decode cX6_letHear 9 = .ok (.putfield 270, 3) := by decide +kernel
theorem dX6_letHear_12 : decode cX6_letHear 12 = .ok (.iconst 0, 1) := by decide +kernel
theorem dX6_letHear_13 : decode cX6_letHear 13 = .ok (.istore_n 3, 1) := by decide +kernel
theorem dX6_letHear_14 : decode cX6_letHear 14 = .ok (.iload_n 3, 1) := by decide +kernel
theorem dX6_letHear_15 : decode cX6_letHear 15 = .ok (.aload_n 0, 1) := by decide +kernel
theorem dX6_letHear_16 : decode cX6_letHear 16 = .ok (.getfield 16, 3) := by decide +kernel
theorem dX6_letHear_19 : decode cX6_letHear 19 = .ok (.invokevirtual 96, 3) := by decide +kernel
theorem dX6_letHear_22 : decode cX6_letHear 22 = .ok (.if_icmp .ge 97, 3) := by decide +kernel
theorem dX6_letHear_25 : decode cX6_letHear 25 = .ok (.aload_n 0, 1) := by decide +kernel
theorem dX6_letHear_26 : decode cX6_letHear 26 = .ok (.getfield 16, 3) := by decide +kernel
theorem dX6_letHear_29 : decode cX6_letHear 29 = .ok (.iload_n 3, 1) := by decide +kernel
theorem dX6_letHear_30 : decode cX6_letHear 30 = .ok (.invokevirtual 227, 3) := by decide +kernel
theorem dX6_letHear_33 : decode cX6_letHear 33 = .ok (.checkcast 127, 3) := by decide +kernel
theorem dX6_letHear_36 : decode cX6_letHear 36 = .ok (.astore 4, 2) := by decide +kernel
theorem dX6_letHear_38 : decode cX6_letHear 38 = .ok (.aload 4, 2) := by decide +kernel
theorem dX6_letHear_40 : decode cX6_letHear 40 = .ok (.getfield 140, 3) := by decide +kernel
theorem dX6_letHear_43 : decode cX6_letHear 43 = .ok (.ifCond .eq 70, 3) := by decide +kernel
theorem dX6_letHear_46 : decode cX6_letHear 46 = .ok (.aload 4, 2) := by decide +kernel
theorem dX6_letHear_48 : decode cX6_letHear 48 = .ok (.getfield 144, 3) := by decide +kernel
theorem dX6_letHear_51 : decode cX6_letHear 51 = .ok (.getfield 112, 3) := by decide +kernel
theorem dX6_letHear_54 : decode cX6_letHear 54 = .ok (.iload_n 2, 1) := by decide +kernel
theorem dX6_letHear_55 : decode cX6_letHear 55 = .ok (.if_icmp .ne 58, 3) := by decide +kernel
theorem dX6_letHear_58 : decode cX6_letHear 58 = .ok (.aload_n 1, 1) := by decide +kernel
theorem dX6_letHear_59 : decode cX6_letHear 59 = .ok (.getfield 273, 3) := by decide +kernel
theorem dX6_letHear_62 : decode cX6_letHear 62 = .ok (.aload 4, 2) := by decide +kernel
theorem dX6_letHear_64 : decode cX6_letHear 64 = .ok (.getfield 208, 3) := by decide +kernel
theorem dX6_letHear_67 : decode cX6_letHear 67 = .ok (.invokestatic 77, 3) := by decide +kernel
theorem dX6_letHear_70 : decode cX6_letHear 70 = .ok (.ifCond .ne 43, 3) := by decide +kernel
theorem dX6_letHear_73 : decode cX6_letHear 73 = .ok (.aload 4, 2) := by decide +kernel
theorem dX6_letHear_75 : decode cX6_letHear 75 = .ok (.aload_n 1, 1) := by decide +kernel
theorem dX6_letHear_76 : decode cX6_letHear 76 = .ok (.getfield 201, 3) := by decide +kernel
theorem dX6_letHear_79 : decode cX6_letHear 79 = .ok (.invokevirtual 177, 3) := by decide +kernel
theorem dX6_letHear_82 : decode cX6_letHear 82 = .ok (.ifCond .eq 31, 3) := by decide +kernel
theorem dX6_letHear_85 : decode cX6_letHear 85 = .ok (.aload_n 1, 1) := by decide +kernel
theorem dX6_letHear_86 : decode cX6_letHear 86 = .ok (.dup, 1) := by decide +kernel
theorem dX6_letHear_87 : decode cX6_letHear 87 = .ok (.getfield 273, 3) := by decide +kernel
theorem dX6_letHear_90 : decode cX6_letHear 90 = .ok (.iconst 1, 1) := by decide +kernel
theorem dX6_letHear_91 : decode cX6_letHear 91 = .ok (.aload 4, 2) := by decide +kernel
theorem dX6_letHear_93 : decode cX6_letHear 93 = .ok (.getfield 208, 3) := by decide +kernel
theorem dX6_letHear_96 : decode cX6_letHear 96 = .ok (.ishl, 1) := by decide +kernel
theorem dX6_letHear_97 : decode cX6_letHear 97 = .ok (.ior, 1) := by decide +kernel
theorem dX6_letHear_98 : decode cX6_letHear 98 = .ok (.putfield 273, 3) := by decide +kernel
theorem dX6_letHear_101 : decode cX6_letHear 101 = .ok (.aload 4, 2) := by decide +kernel
theorem dX6_letHear_103 : decode cX6_letHear 103 = .ok (.getfield 144, 3) := by decide +kernel
theorem dX6_letHear_106 : decode cX6_letHear 106 = .ok (.aload_n 1, 1) := by decide +kernel
theorem dX6_letHear_107 : decode cX6_letHear 107 = .ok (.getfield 276, 3) := by decide +kernel
theorem dX6_letHear_110 : decode cX6_letHear 110 = .ok (.invokevirtual 279, 3) := by decide +kernel
theorem dX6_letHear_113 : decode cX6_letHear 113 = .ok (.iinc 3 1, 3) := by decide +kernel
theorem dX6_letHear_116 : decode cX6_letHear 116 = .ok (.goto (-102), 3) := by decide +kernel
theorem dX6_letHear_119 : decode cX6_letHear 119 = .ok (.return_, 1) := by decide +kernel
def B_WR_letHear_119 (mc ms : Nat) (Rt : Option zAV → zMp → Prop) (g : Nat → zKT) : zKT :=
  (i_vret mc ms Rt)
set_option maxRecDepth 20000 in
theorem s_WR_letHear_119 {X : zMa} {mc ms : Nat} {Rt : Option zAV → zMp → Prop} (hC : zCx X RX6 cX6_letHear 3 65 mc ms (none) false Rt) (hN : zNL X = 5) : zLe (B_WR_letHear_119 mc ms Rt (zG X)) (zG X 119) :=
  (sd_vret hC dX6_letHear_119)
def B_WR_letHear_113 (mc ms : Nat) (Rt : Option zAV → zMp → Prop) (g : Nat → zKT) : zKT :=
  (i_inc 3 1 (g 14))
set_option maxRecDepth 20000 in
theorem s_WR_letHear_113 {X : zMa} {mc ms : Nat} {Rt : Option zAV → zMp → Prop} (hC : zCx X RX6 cX6_letHear 3 65 mc ms (none) false Rt) (hN : zNL X = 5) : zLe (B_WR_letHear_113 mc ms Rt (zG X)) (zG X 113) :=
  (sd_inc hC (by decide) (by rw [hN]; decide) dX6_letHear_113 ((sd_goto hC (tgt := 14) (by decide) dX6_letHear_116 (zLe_rfl))))
def B_WR_letHear_14 (mc ms : Nat) (Rt : Option zAV → zMp → Prop) (g : Nat → zKT) : zKT :=
  (i_il 3 (i_al 0 (i_gf 7 1 (i_callV mc ms 0 1 T_AL_size co_AL_size (i_icge (B_WR_letHear_119 mc ms Rt g) (i_al 0 (i_gf 7 1 (i_il 3 (i_callV mc ms 0 2 T_AL_get co_AL_get (i_cast "WishRoutes$Wish" (i_as 4 (i_al 4 (i_gf 6 4 (i_ifeq (B_WR_letHear_113 mc ms Rt g) (i_al 4 (i_gf 6 1 (i_gf 4 0 (i_il 2 (i_icne (B_WR_letHear_113 mc ms Rt g) (i_al 1 (i_gf 3 5 (i_al 4 (i_gf 6 0 (i_call mc ms 2 T_WR_inMask co_WR_inMask (i_ifne (B_WR_letHear_113 mc ms Rt g) (i_al 4 (i_al 1 (i_gf 3 2 (i_callV mc ms 6 2 T_Wsh_isMetBy co_Wsh_isMetBy (i_ifeq (B_WR_letHear_113 mc ms Rt g) (i_al 1 (i_dup (i_gf 3 5 (i_ic 1 (i_al 4 (i_gf 6 0 (i_ishl (i_ior (i_pf 3 5 .int (i_al 4 (i_gf 6 1 (i_al 1 (i_gf 3 0 (i_callV mc ms 4 2 T_Rdr_addHeard co_Rdr_addHeard (B_WR_letHear_113 mc ms Rt g)))))))))))))))))))))))))))))))))))))))))))))
set_option maxRecDepth 20000 in
theorem s_WR_letHear_14 {X : zMa} {mc ms : Nat} {Rt : Option zAV → zMp → Prop} (hC : zCx X RX6 cX6_letHear 3 65 mc ms (none) false Rt) (hN : zNL X = 5) : zLe (B_WR_letHear_14 mc ms Rt (zG X)) (zG X 14) :=
  (sd_il_n hC rfl dX6_letHear_14 ((sd_al_n hC rfl dX6_letHear_15 ((sd_gf hC (ci := 7) (fk := 1) rfl wi_WR (by decide) fl_WR_16 (Or.inl rfl) dX6_letHear_16 ((sd_cV hC c_AL_size yv_AL_size (ci := 0) rfl rfl ml_WR_96 (by decide) (by decide) dX6_letHear_19 ((sd_icge hC (tgt := 119) (by decide) dX6_letHear_22 (s_WR_letHear_119 hC hN) ((sd_al_n hC rfl dX6_letHear_25 ((sd_gf hC (ci := 7) (fk := 1) rfl wi_WR (by decide) fl_WR_16 (Or.inl rfl) dX6_letHear_26 ((sd_il_n hC rfl dX6_letHear_29 ((sd_cV hC c_AL_get yv_AL_get (ci := 0) rfl rfl ml_WR_227 (by decide) (by decide) dX6_letHear_30 ((sd_cast hC cl_WR_127 dX6_letHear_33 ((sd_as hC (by rw [hN]; decide) dX6_letHear_36 ((sd_al hC dX6_letHear_38 ((sd_gf hC (ci := 6) (fk := 4) rfl wi_Wsh (by decide) fl_WR_140 (Or.inl rfl) dX6_letHear_40 ((sd_ifeq hC (tgt := 113) (by decide) dX6_letHear_43 (s_WR_letHear_113 hC hN) ((sd_al hC dX6_letHear_46 ((sd_gf hC (ci := 6) (fk := 1) rfl wi_Wsh (by decide) fl_WR_144 (Or.inl rfl) dX6_letHear_48 ((sd_gf hC (ci := 4) (fk := 0) rfl wi_Rdr (by decide) fl_WR_112 (Or.inl rfl) dX6_letHear_51 ((sd_il_n hC rfl dX6_letHear_54 ((sd_icne hC (tgt := 113) (by decide) dX6_letHear_55 (s_WR_letHear_113 hC hN) ((sd_al_n hC rfl dX6_letHear_58 ((sd_gf hC (ci := 3) (fk := 5) rfl wi_Not (by decide) fl_WR_273 (Or.inl rfl) dX6_letHear_59 ((sd_al hC dX6_letHear_62 ((sd_gf hC (ci := 6) (fk := 0) rfl wi_Wsh (by decide) fl_WR_208 (Or.inl rfl) dX6_letHear_64 ((sd_cS hC c_WR_inMask ys_WR_inMask ml_WR_77 (by decide) (by decide) dX6_letHear_67 ((sd_ifne hC (tgt := 113) (by decide) dX6_letHear_70 (s_WR_letHear_113 hC hN) ((sd_al hC dX6_letHear_73 ((sd_al_n hC rfl dX6_letHear_75 ((sd_gf hC (ci := 3) (fk := 2) rfl wi_Not (by decide) fl_WR_201 (Or.inl rfl) dX6_letHear_76 ((sd_cV hC c_Wsh_isMetBy yv_Wsh_isMetBy (ci := 6) rfl rfl ml_WR_177 (by decide) (by decide) dX6_letHear_79 ((sd_ifeq hC (tgt := 113) (by decide) dX6_letHear_82 (s_WR_letHear_113 hC hN) ((sd_al_n hC rfl dX6_letHear_85 ((sd_dup hC dX6_letHear_86 ((sd_gf hC (ci := 3) (fk := 5) rfl wi_Not (by decide) fl_WR_273 (Or.inl rfl) dX6_letHear_87 ((sd_iconst hC (by decide) dX6_letHear_90 ((sd_al hC dX6_letHear_91 ((sd_gf hC (ci := 6) (fk := 0) rfl wi_Wsh (by decide) fl_WR_208 (Or.inl rfl) dX6_letHear_93 ((sd_ishl hC dX6_letHear_96 ((sd_ior hC dX6_letHear_97 ((sd_pf hC (ci := 3) (fk := 5) rfl wi_Not tyX2 tyX2_ok nmX2 (by decide) fl_WR_273 (Or.inl rfl) (Or.inl rfl) dX6_letHear_98 ((sd_al hC dX6_letHear_101 ((sd_gf hC (ci := 6) (fk := 1) rfl wi_Wsh (by decide) fl_WR_144 (Or.inl rfl) dX6_letHear_103 ((sd_al_n hC rfl dX6_letHear_106 ((sd_gf hC (ci := 3) (fk := 0) rfl wi_Not (by decide) fl_WR_276 (Or.inl rfl) dX6_letHear_107 ((sd_cV hC c_Rdr_addHeard yv_Rdr_addHeard (ci := 4) rfl rfl ml_WR_279 (by decide) (by decide) dX6_letHear_110 (s_WR_letHear_113 hC hN))))))))))))))))))))))))))))))))))))))))))))))))))))))))))))))))))))))))))))))))))))))))
def B_WR_letHear_0 (mc ms : Nat) (Rt : Option zAV → zMp → Prop) (g : Nat → zKT) : zKT :=
  (i_al 1 (i_dup (i_gf 3 4 (i_ic 1 (i_il 2 (i_ishl (i_ior (i_pf 3 4 .int (i_ic 0 (i_is 3 (g 14)))))))))))
set_option maxRecDepth 20000 in
theorem s_WR_letHear_0 {X : zMa} {mc ms : Nat} {Rt : Option zAV → zMp → Prop} (hC : zCx X RX6 cX6_letHear 3 65 mc ms (none) false Rt) (hN : zNL X = 5) : zLe (B_WR_letHear_0 mc ms Rt (zG X)) (zG X 0) :=
  (sd_al_n hC rfl dX6_letHear_0 ((sd_dup hC dX6_letHear_1 ((sd_gf hC (ci := 3) (fk := 4) rfl wi_Not (by decide) fl_WR_270 (Or.inl rfl) dX6_letHear_2 ((sd_iconst hC (by decide) dX6_letHear_5 ((sd_il_n hC rfl dX6_letHear_6 ((sd_ishl hC dX6_letHear_7 ((sd_ior hC dX6_letHear_8 ((sd_pf hC (ci := 3) (fk := 4) rfl wi_Not tyX2 tyX2_ok nmX2 (by decide) fl_WR_270 (Or.inl rfl) (Or.inl rfl) dX6_letHear_9 ((sd_iconst hC (by decide) dX6_letHear_12 ((sd_is_n hC rfl (by rw [hN]; decide) dX6_letHear_13 (zLe_rfl))))))))))))))))))))
theorem c_WR_letHear (l : Launch) : zCT l yX6_letHear cX6_letHear 5 (none) 3 65 T_WR_letHear co_WR_letHear := by
  intro As M Rt hT
  obtain ⟨x, k, d, rfl, rfl, hI, hk, hR⟩ := hT
  have hlim := hI.lim
  refine zMet_of false (by decide +kernel) (fun h => by first | rfl | cases h) (Nat.le_of_ble_eq_true rfl) (fun X hN hC => ?_)
  show zG X 0 [some (.inr (0, 0, 0)), some (.inr (12, k, 0)), some (.inl (.int d)), none, none] [] (pic x) 0 0
  have loop := upto (N := x_nw x) (P := fun w => ∀ j4 : Option zAV, zG X 14 [some (.inr (0, 0, 0)), some (.inr (12, k, 0)), some (.inl (.int d)), some (.inl (.int (nI w))), j4] [] (pic (lh x k d w)) 0 0) (fun w hw ih j4 => by
    have hIy := Iv_lh (k := k) (d := d) hI w
    have hky := lh_k_n x k d w
    simp only [lh] at ih
    generalize lh x k d w = y at ih hIy hky
    have hky2 : k < x_on y := by rw [hky.2.1]; exact hk
    have hcap := hIy.cap 1 (by decide)
    have hsz : x_sz y 1 = x_nw x := hky.1
    rw [hsz] at hcap
    refine s_WR_letHear_14 hC hN _ _ _ _ _ ?_
    simp only [B_WR_letHear_0, B_WR_letHear_14, B_WR_letHear_113, B_WR_letHear_119, co_AL_get, co_AL_size, co_Rdr_addHeard, co_WR_inMask, co_WR_letHear, co_Wsh_isMetBy, i_ic, i_lc, i_nul, i_il, i_ll, i_al, i_is, i_as, i_ls, i_inc, i_iadd, i_isub, i_imul, i_iand, i_ior, i_ixor, i_idiv, i_irem, i_ishl, i_ishr, i_ladd, i_lsub, i_land, i_lor, i_i2l, i_lushr, i_lshl, i_lshr, i_lcmp, i_dup, i_pop, i_dx1, i_dup2, i_ifeq, i_ifne, i_iflt, i_ifge, i_ifgt, i_ifle, i_iceq, i_icne, i_iclt, i_icge, i_icgt, i_icle, i_ifn, i_gf, i_pf, i_ial, i_bal, i_lal, i_aal, i_ias, i_las, i_bas, i_aas, i_alen, i_newa, i_new, i_anew, i_cast, i_oi, i_call, i_callV, i_callV2, i_callI, i_iret, i_zret, i_lret, i_vret, i_aret, i_mmx, i_mmn, i_gsE, i_aceq, i_no, i_acq, i_sw, zsw, zlg, zls, znl, zfg, zcs, zsp, zrc, zisn, zft, zc1, zto, Value.category, List.set_cons_zero, List.set_cons_succ, List.length_cons, List.length_nil, Option.toList, List.append, List.nil_append, List.cons_append, true_and, and_true, Nat.add_zero, Nat.zero_le, Nat.zero_add, Nat.le_refl, Nat.reduceAdd, Nat.reduceLeDiff, co0, z0, zn_0, zn_1, zn_2, zn_3, zn_4, zn_5, zn_8, zn_12, zn_24, zn_121, zn_144, zn_256, zn_300, zn_600, zn_720, zn_1204, zn_1280, zn_2400, zn_4816, zn_14400, zn_90000, p_main, x_main, p_list (i := 1) (by decide)]
    refine ⟨(1, 1, 0), _, _, _, rfl, p_list (by decide), ?_⟩
    rw [hsz]
    simp only [p_main, x_main, p_list (i := 1) (by decide), i_ic, i_lc, i_nul, i_il, i_ll, i_al, i_is, i_as, i_ls, i_inc, i_iadd, i_isub, i_imul, i_iand, i_ior, i_ixor, i_idiv, i_irem, i_ishl, i_ishr, i_ladd, i_lsub, i_land, i_lor, i_i2l, i_lushr, i_lshl, i_lshr, i_lcmp, i_dup, i_pop, i_dx1, i_dup2, i_ifeq, i_ifne, i_iflt, i_ifge, i_ifgt, i_ifle, i_iceq, i_icne, i_iclt, i_icge, i_icgt, i_icle, i_ifn, i_gf, i_pf, i_ial, i_bal, i_lal, i_aal, i_ias, i_las, i_bas, i_aas, i_alen, i_newa, i_new, i_anew, i_cast, i_oi, i_call, i_callV, i_callV2, i_callI, i_iret, i_zret, i_lret, i_vret, i_aret, i_mmx, i_mmn, i_gsE, i_aceq, i_no, i_acq, i_sw, zsw, zlg, zls, znl, zfg, zcs, zsp, zrc, zisn, zft, zc1, zto, Value.category, List.set_cons_zero, List.set_cons_succ, List.length_cons, List.length_nil, Option.toList, List.append, List.nil_append, List.cons_append, true_and, and_true, Nat.add_zero, Nat.zero_le, Nat.zero_add, Nat.le_refl, Nat.reduceAdd, Nat.reduceLeDiff, co0, z0, zn_0, zn_1, zn_2, zn_3, zn_4, zn_5, zn_8, zn_12, zn_24, zn_121, zn_144, zn_256, zn_300, zn_600, zn_720, zn_1204, zn_1280, zn_2400, zn_4816, zn_14400, zn_90000]
    refine ⟨fun h => absurd ((zK (K := x_nw x) (by omega) (n := w) (by omega)).2.1.mp h) (by omega), fun _ => ⟨(1, 1, 0), _, _, _, _, _, w, rfl, p_list (by decide), p_dat (by decide) (by omega), by rw [hsz]; exact hw, by rw [hsz]; exact hcap.1, by omega, ?_⟩⟩
    have ek : x_el y 1 w = some (15, w, 0) := if_pos (show w < x_nw y by rw [hky.1]; exact hw)
    have hkk : w < x_ow y := Nat.lt_of_lt_of_le (show w < x_nw y by rw [hky.1]; exact hw) hIy.cnt.2.1
    have hww := hIy.wsh w hkk
    rw [ek]
    simp only [zov, zok, p_wsh hkk, x_wsh, p_rdr hww.1, x_rdr, p_ntc hky2, x_ntc, i_ic, i_lc, i_nul, i_il, i_ll, i_al, i_is, i_as, i_ls, i_inc, i_iadd, i_isub, i_imul, i_iand, i_ior, i_ixor, i_idiv, i_irem, i_ishl, i_ishr, i_ladd, i_lsub, i_land, i_lor, i_i2l, i_lushr, i_lshl, i_lshr, i_lcmp, i_dup, i_pop, i_dx1, i_dup2, i_ifeq, i_ifne, i_iflt, i_ifge, i_ifgt, i_ifle, i_iceq, i_icne, i_iclt, i_icge, i_icgt, i_icle, i_ifn, i_gf, i_pf, i_ial, i_bal, i_lal, i_aal, i_ias, i_las, i_bas, i_aas, i_alen, i_newa, i_new, i_anew, i_cast, i_oi, i_call, i_callV, i_callV2, i_callI, i_iret, i_zret, i_lret, i_vret, i_aret, i_mmx, i_mmn, i_gsE, i_aceq, i_no, i_acq, i_sw, zsw, zlg, zls, znl, zfg, zcs, zsp, zrc, zisn, zft, zc1, zto, Value.category, List.set_cons_zero, List.set_cons_succ, List.length_cons, List.length_nil, Option.toList, List.append, List.nil_append, List.cons_append, true_and, and_true, Nat.add_zero, Nat.zero_le, Nat.zero_add, Nat.le_refl, Nat.reduceAdd, Nat.reduceLeDiff, co0, z0, zn_0, zn_1, zn_2, zn_3, zn_4, zn_5, zn_8, zn_12, zn_24, zn_121, zn_144, zn_256, zn_300, zn_600, zn_720, zn_1204, zn_1280, zn_2400, zn_4816, zn_14400, zn_90000]
    rw [nI_1 w]
    unfold lh_s at ih
    refine ⟨zk_Wsh_Wsh, fun ha => ?_, fun ha => ⟨fun hne => ?_, fun heq => ⟨x_nh y k, nI (x_wr y w), rfl, ?_⟩⟩⟩
    · rw [if_neg (fun z => by rw [z.1] at ha; exact absurd ha (by decide))] at ih
      exact ih _
    · rw [if_neg (fun z => hne z.2.1)] at ih
      exact ih _
    simp only [zov, p_wsh hkk, x_wsh, p_ntc hky2, x_ntc, i_ic, i_lc, i_nul, i_il, i_ll, i_al, i_is, i_as, i_ls, i_inc, i_iadd, i_isub, i_imul, i_iand, i_ior, i_ixor, i_idiv, i_irem, i_ishl, i_ishr, i_ladd, i_lsub, i_land, i_lor, i_i2l, i_lushr, i_lshl, i_lshr, i_lcmp, i_dup, i_pop, i_dx1, i_dup2, i_ifeq, i_ifne, i_iflt, i_ifge, i_ifgt, i_ifle, i_iceq, i_icne, i_iclt, i_icge, i_icgt, i_icle, i_ifn, i_gf, i_pf, i_ial, i_bal, i_lal, i_aal, i_ias, i_las, i_bas, i_aas, i_alen, i_newa, i_new, i_anew, i_cast, i_oi, i_call, i_callV, i_callV2, i_callI, i_iret, i_zret, i_lret, i_vret, i_aret, i_mmx, i_mmn, i_gsE, i_aceq, i_no, i_acq, i_sw, zsw, zlg, zls, znl, zfg, zcs, zsp, zrc, zisn, zft, zc1, zto, Value.category, List.set_cons_zero, List.set_cons_succ, List.length_cons, List.length_nil, Option.toList, List.append, List.nil_append, List.cons_append, true_and, and_true, Nat.add_zero, Nat.zero_le, Nat.zero_add, Nat.le_refl, Nat.reduceAdd, Nat.reduceLeDiff, co0, z0, zn_0, zn_1, zn_2, zn_3, zn_4, zn_5, zn_8, zn_12, zn_24, zn_121, zn_144, zn_256, zn_300, zn_600, zn_720, zn_1204, zn_1280, zn_2400, zn_4816, zn_14400, zn_90000]
    refine ⟨fun hm => ?_, fun hm => ⟨y, w, (13, k, 0), x_nf y k, rfl, rfl, ⟨hkk, hww.2.2⟩, p_nf hky2, ?_⟩⟩
    · rw [if_neg (fun z => by rw [z.2.2.1] at hm; exact absurd rfl hm)] at ih
      exact ih _
    simp only [zov, p_wsh hkk, x_wsh, p_ntc hky2, x_ntc, i_ic, i_lc, i_nul, i_il, i_ll, i_al, i_is, i_as, i_ls, i_inc, i_iadd, i_isub, i_imul, i_iand, i_ior, i_ixor, i_idiv, i_irem, i_ishl, i_ishr, i_ladd, i_lsub, i_land, i_lor, i_i2l, i_lushr, i_lshl, i_lshr, i_lcmp, i_dup, i_pop, i_dx1, i_dup2, i_ifeq, i_ifne, i_iflt, i_ifge, i_ifgt, i_ifle, i_iceq, i_icne, i_iclt, i_icge, i_icgt, i_icle, i_ifn, i_gf, i_pf, i_ial, i_bal, i_lal, i_aal, i_ias, i_las, i_bas, i_aas, i_alen, i_newa, i_new, i_anew, i_cast, i_oi, i_call, i_callV, i_callV2, i_callI, i_iret, i_zret, i_lret, i_vret, i_aret, i_mmx, i_mmn, i_gsE, i_aceq, i_no, i_acq, i_sw, zsw, zlg, zls, znl, zfg, zcs, zsp, zrc, zisn, zft, zc1, zto, Value.category, List.set_cons_zero, List.set_cons_succ, List.length_cons, List.length_nil, Option.toList, List.append, List.nil_append, List.cons_append, true_and, and_true, Nat.add_zero, Nat.zero_le, Nat.zero_add, Nat.le_refl, Nat.reduceAdd, Nat.reduceLeDiff, co0, z0, zn_0, zn_1, zn_2, zn_3, zn_4, zn_5, zn_8, zn_12, zn_24, zn_121, zn_144, zn_256, zn_300, zn_600, zn_720, zn_1204, zn_1280, zn_2400, zn_4816, zn_14400, zn_90000]
    refine ⟨fun hmet => ?_, fun hmet => ⟨m_k (by decide), by decide, ?_⟩⟩
    · rw [if_neg (fun z => by rw [z.2.2.2] at hmet; exact absurd hmet (by decide))] at ih
      exact ih _
    · have hm' : inm (x_nh y k) (nI (x_wr y w)) = false := zb_0.mp hm
      rw [if_pos ⟨zb_n0 ha, heq, hm', zb_n0 hmet⟩] at ih
      have e := pu_nh y k (x_nh y k ||| (1 <<< (nI (x_wr y w) &&& 31))) hky2
      simp only [x_ntc, g_dk_nh, g_lk_nh, g_po_nh, g_ne_nh, g_td_nh, g_nb_nh, g_ln_nh, g_nr_nh, g_nw_nh, g_nn_nh, g_ns_nh, g_or_nh, g_ow_nh, g_on_nh, g_nl_nh, g_ng_nh, g_rg_nh, g_lc_nh, g_cp_nh, g_gb_nh, g_sp_nh, g_kn_nh, g_me_nh, g_ob_nh, g_fk_nh, g_fz_nh, g_fg_nh, g_rd_nh, g_rz_nh, g_rh_nh, g_nd_nh, g_nm_nh, g_nv_nh, g_nh_nh, g_nf_nh, g_wr_nh, g_wa_nh, g_lz_nh, g_lf_nh, g_li_nh, g_lt_nh, g_lb_nh, g_lr_nh, g_tn_nh, g_tf_nh, va_up, if_true] at e
      rw [e]
      have hkk' : w < x_ow (u_nh y (va_up (x_nh y) k (x_nh y k ||| (1 <<< (nI (x_wr y w) &&& 31))))) := hkk
      have hk3 : k < x_on (u_nh y (va_up (x_nh y) k (x_nh y k ||| (1 <<< (nI (x_wr y w) &&& 31))))) := hky2
      have hrr : x_wr y w < x_or (u_nh y (va_up (x_nh y) k (x_nh y k ||| (1 <<< (nI (x_wr y w) &&& 31))))) := hww.1
      simp only [zov, p_wsh hkk', x_wsh, p_ntc hk3, x_ntc, p_rdr hrr, x_rdr, g_dk_nh, g_lk_nh, g_po_nh, g_ne_nh, g_td_nh, g_nb_nh, g_ln_nh, g_nr_nh, g_nw_nh, g_nn_nh, g_ns_nh, g_or_nh, g_ow_nh, g_on_nh, g_nl_nh, g_ng_nh, g_rg_nh, g_lc_nh, g_cp_nh, g_gb_nh, g_sp_nh, g_kn_nh, g_me_nh, g_ob_nh, g_fk_nh, g_fz_nh, g_fg_nh, g_rd_nh, g_rz_nh, g_rh_nh, g_nd_nh, g_nm_nh, g_nv_nh, g_nh_nh, g_nf_nh, g_wr_nh, g_wa_nh, g_lz_nh, g_lf_nh, g_li_nh, g_lt_nh, g_lb_nh, g_lr_nh, g_tn_nh, g_tf_nh, i_ic, i_lc, i_nul, i_il, i_ll, i_al, i_is, i_as, i_ls, i_inc, i_iadd, i_isub, i_imul, i_iand, i_ior, i_ixor, i_idiv, i_irem, i_ishl, i_ishr, i_ladd, i_lsub, i_land, i_lor, i_i2l, i_lushr, i_lshl, i_lshr, i_lcmp, i_dup, i_pop, i_dx1, i_dup2, i_ifeq, i_ifne, i_iflt, i_ifge, i_ifgt, i_ifle, i_iceq, i_icne, i_iclt, i_icge, i_icgt, i_icle, i_ifn, i_gf, i_pf, i_ial, i_bal, i_lal, i_aal, i_ias, i_las, i_bas, i_aas, i_alen, i_newa, i_new, i_anew, i_cast, i_oi, i_call, i_callV, i_callV2, i_callI, i_iret, i_zret, i_lret, i_vret, i_aret, i_mmx, i_mmn, i_gsE, i_aceq, i_no, i_acq, i_sw, zsw, zlg, zls, znl, zfg, zcs, zsp, zrc, zisn, zft, zc1, zto, Value.category, List.set_cons_zero, List.set_cons_succ, List.length_cons, List.length_nil, Option.toList, List.append, List.nil_append, List.cons_append, true_and, and_true, Nat.add_zero, Nat.zero_le, Nat.zero_add, Nat.le_refl, Nat.reduceAdd, Nat.reduceLeDiff, co0, z0, zn_0, zn_1, zn_2, zn_3, zn_4, zn_5, zn_8, zn_12, zn_24, zn_121, zn_144, zn_256, zn_300, zn_600, zn_720, zn_1204, zn_1280, zn_2400, zn_4816, zn_14400, zn_90000]
      exact ⟨_, x_wr y w, nI k, rfl, rfl, hww.1, (hIy.rdr _ hww.1).1, ih _⟩) (fun j4 => by
    have hky := lh_k_n x k d (x_nw x)
    generalize lh x k d (x_nw x) = y at hR hky
    have hsz : x_sz y 1 = x_nw x := hky.1
    refine s_WR_letHear_14 hC hN _ _ _ _ _ ?_
    simp only [B_WR_letHear_0, B_WR_letHear_14, B_WR_letHear_113, B_WR_letHear_119, co_AL_get, co_AL_size, co_Rdr_addHeard, co_WR_inMask, co_WR_letHear, co_Wsh_isMetBy, i_ic, i_lc, i_nul, i_il, i_ll, i_al, i_is, i_as, i_ls, i_inc, i_iadd, i_isub, i_imul, i_iand, i_ior, i_ixor, i_idiv, i_irem, i_ishl, i_ishr, i_ladd, i_lsub, i_land, i_lor, i_i2l, i_lushr, i_lshl, i_lshr, i_lcmp, i_dup, i_pop, i_dx1, i_dup2, i_ifeq, i_ifne, i_iflt, i_ifge, i_ifgt, i_ifle, i_iceq, i_icne, i_iclt, i_icge, i_icgt, i_icle, i_ifn, i_gf, i_pf, i_ial, i_bal, i_lal, i_aal, i_ias, i_las, i_bas, i_aas, i_alen, i_newa, i_new, i_anew, i_cast, i_oi, i_call, i_callV, i_callV2, i_callI, i_iret, i_zret, i_lret, i_vret, i_aret, i_mmx, i_mmn, i_gsE, i_aceq, i_no, i_acq, i_sw, zsw, zlg, zls, znl, zfg, zcs, zsp, zrc, zisn, zft, zc1, zto, Value.category, List.set_cons_zero, List.set_cons_succ, List.length_cons, List.length_nil, Option.toList, List.append, List.nil_append, List.cons_append, true_and, and_true, Nat.add_zero, Nat.zero_le, Nat.zero_add, Nat.le_refl, Nat.reduceAdd, Nat.reduceLeDiff, co0, z0, zn_0, zn_1, zn_2, zn_3, zn_4, zn_5, zn_8, zn_12, zn_24, zn_121, zn_144, zn_256, zn_300, zn_600, zn_720, zn_1204, zn_1280, zn_2400, zn_4816, zn_14400, zn_90000, p_main, x_main, p_list (i := 1) (by decide)]
    refine ⟨(1, 1, 0), _, _, _, rfl, p_list (by decide), ?_⟩
    rw [hsz]
    exact ⟨fun _ => hR, fun h => absurd ((zK (K := x_nw x) (by omega) (n := x_nw x) (by omega)).2.1.mpr (Nat.le_refl _)) h⟩) 0 (Nat.zero_le _)
  refine s_WR_letHear_0 hC hN _ _ _ _ _ ?_
  simp only [B_WR_letHear_0, B_WR_letHear_14, B_WR_letHear_113, B_WR_letHear_119, co_AL_get, co_AL_size, co_Rdr_addHeard, co_WR_inMask, co_WR_letHear, co_Wsh_isMetBy, i_ic, i_lc, i_nul, i_il, i_ll, i_al, i_is, i_as, i_ls, i_inc, i_iadd, i_isub, i_imul, i_iand, i_ior, i_ixor, i_idiv, i_irem, i_ishl, i_ishr, i_ladd, i_lsub, i_land, i_lor, i_i2l, i_lushr, i_lshl, i_lshr, i_lcmp, i_dup, i_pop, i_dx1, i_dup2, i_ifeq, i_ifne, i_iflt, i_ifge, i_ifgt, i_ifle, i_iceq, i_icne, i_iclt, i_icge, i_icgt, i_icle, i_ifn, i_gf, i_pf, i_ial, i_bal, i_lal, i_aal, i_ias, i_las, i_bas, i_aas, i_alen, i_newa, i_new, i_anew, i_cast, i_oi, i_call, i_callV, i_callV2, i_callI, i_iret, i_zret, i_lret, i_vret, i_aret, i_mmx, i_mmn, i_gsE, i_aceq, i_no, i_acq, i_sw, zsw, zlg, zls, znl, zfg, zcs, zsp, zrc, zisn, zft, zc1, zto, Value.category, List.set_cons_zero, List.set_cons_succ, List.length_cons, List.length_nil, Option.toList, List.append, List.nil_append, List.cons_append, true_and, and_true, Nat.add_zero, Nat.zero_le, Nat.zero_add, Nat.le_refl, Nat.reduceAdd, Nat.reduceLeDiff, co0, z0, zn_0, zn_1, zn_2, zn_3, zn_4, zn_5, zn_8, zn_12, zn_24, zn_121, zn_144, zn_256, zn_300, zn_600, zn_720, zn_1204, zn_1280, zn_2400, zn_4816, zn_14400, zn_90000, p_ntc hk, x_ntc]
  refine ⟨m_k (by decide), by decide, ?_⟩
  have e := pu_nv x k (x_nv x k ||| (1 <<< (d &&& 31))) hk
  simp only [x_ntc, g_dk_nv, g_lk_nv, g_po_nv, g_ne_nv, g_td_nv, g_nb_nv, g_ln_nv, g_nr_nv, g_nw_nv, g_nn_nv, g_ns_nv, g_or_nv, g_ow_nv, g_on_nv, g_nl_nv, g_ng_nv, g_rg_nv, g_lc_nv, g_cp_nv, g_gb_nv, g_sp_nv, g_kn_nv, g_me_nv, g_ob_nv, g_fk_nv, g_fz_nv, g_fg_nv, g_rd_nv, g_rz_nv, g_rh_nv, g_nd_nv, g_nm_nv, g_nv_nv, g_nh_nv, g_nf_nv, g_wr_nv, g_wa_nv, g_lz_nv, g_lf_nv, g_li_nv, g_lt_nv, g_lb_nv, g_lr_nv, g_tn_nv, g_tf_nv, va_up, if_true] at e
  rw [e]
  exact loop _
