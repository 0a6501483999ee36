/-! the reference: send, delivers, deliver, all -/
def sn_y (y : zMS) (d a b c e : Int32) : zMS := v_sa (v_fi (v_nn y (y_nn y + 1)) (upd (upd (upd (upd (y_fi y) (4 * y_nn y) a) (4 * y_nn y + 1) b) (4 * y_nn y + 2) c) (4 * y_nn y + 3) e)) (upd (y_sa y) (y_nn y) d)
theorem Jv_sn {y : zMS} {d a b c e : Int32} (h : Jv y) (hn : y_nn y < 600) : Jv (sn_y y d a b c e) := by
  refine ⟨h.dk, ⟨h.lim.1, h.lim.2.1, hn⟩, h.cp, h.rdr, h.ro, h.ts, fun m hm => ?_, h.gb, h.hm⟩
  obtain ⟨h1, h2, h3⟩ := h.ms m hm
  refine ⟨h1, h2, h3.elim Or.inl (fun ⟨k, hk, e⟩ => Or.inr ⟨k, Nat.lt_succ_of_lt hk, e⟩)⟩
def T_Mo_send (As : List zAV) (M : zMp) (Rt : Option zAV → zMp → Prop) (c1 c2 : Nat) : Prop := ∃ y d a b c e, As = [.inr (30, 0, 0), .inl (.int d), .inl (.int a), .inl (.int b), .inl (.int c), .inl (.int e)] ∧ M = mp y ∧ Jv y ∧ (isn (y_dk y) d = false → Rt (some (.inl (.int (-2)))) M) ∧ (isn (y_dk y) d = true → (y_nn y = 600 ∨ 60 ≤ y_uw y (y_nn y)) → Rt (some (.inl (.int (-8)))) M) ∧ (∀ j, j < y_dk y → d = nI j → y_nn y < 600 → y_uw y (y_nn y) < 60 → inm (y_wt y (y_nn y)) d = false ∧ cm_ok (sn_y y d a b c e) (y_nn y) j (-1) ∧ y_cp (cm (sn_y y d a b c e) (y_nn y) j (-1)) - y_cp y ≤ c1 ∧ 16 * (y_cp (cm (sn_y y d a b c e) (y_nn y) j (-1)) - y_cp y) ≤ c2 ∧ Rt (some (.inl (.int (nI (y_nn y))))) (mp (cm (sn_y y d a b c e) (y_nn y) j (-1))))
theorem dX7_send_0 : decode cX7_send 0 = .ok (.aload_n 0, 1) := by decide +kernel
theorem dX7_send_1 : decode cX7_send 1 = .ok (.iload_n 1, 1) := by decide +kernel
theorem dX7_send_2 : decode cX7_send 2 = .ok (.invokevirtual 143, 3) := by decide +kernel
theorem dX7_send_5 : decode cX7_send 5 = .ok (.ifCond .ne 6, 3) := by decide +kernel
theorem dX7_send_8 : decode cX7_send 8 = .ok (.bipush (-2), 2) := by decide +kernel
theorem dX7_send_10 : decode cX7_send 10 = .ok (.ireturn, 1) := by decide +kernel
theorem dX7_send_11 : decode cX7_send 11 = .ok (.aload_n 0, 1) := by decide +kernel
theorem dX7_send_12 : decode cX7_send 12 = .ok (.getfield 191, 3) := by decide +kernel
theorem dX7_send_15 : decode cX7_send 15 = .ok (.sipush 600, 3) := by decide +kernel
theorem dX7_send_18 : decode cX7_send 18 = .ok (.if_icmp .eq 12, 3) := by decide +kernel
theorem dX7_send_21 : decode cX7_send 21 = .ok (.aload_n 0, 1) := by decide +kernel
theorem dX7_send_22 : decode cX7_send 22 = .ok (.invokevirtual 198, 3) := by decide +kernel
theorem dX7_send_25 : decode cX7_send 25 = .ok (.bipush 60, 2) := by decide +kernel
theorem dX7_send_27 : decode cX7_send 27 = .ok (.if_icmp .lt 6, 3) := by decide +kernel
theorem dX7_send_30 : decode cX7_send 30 = .ok (.bipush (-8), 2) := by decide +kernel
theorem dX7_send_32 : decode cX7_send 32 = .ok (.ireturn, 1) := by decide +kernel
theorem dX7_send_33 : decode cX7_send 33 = .ok (.aload_n 0, 1) := by decide +kernel
theorem dX7_send_34 : decode cX7_send 34 = .ok (.getfield 191, 3) := by decide +kernel
theorem dX7_send_37 : decode cX7_send 37 = .ok (.istore 6, 2) := by decide +kernel
theorem dX7_send_39 : decode cX7_send 39 = .ok (.aload_n 0, 1) := by decide +kernel
theorem dX7_send_40 : decode cX7_send 40 = .ok (.dup, 1) := by decide +kernel
theorem dX7_send_41 : decode cX7_send 41 = .ok (.getfield 191, 3) := by decide +kernel
theorem dX7_send_44 : decode cX7_send 44 = .ok (.iconst 1, 1) := by decide +kernel
theorem dX7_send_45 : decode cX7_send 45 = .ok (.iadd, 1) := by decide +kernel
theorem dX7_send_46 : decode cX7_send 46 = .ok (.putfield 191, 3) := by decide +kernel
theorem dX7_send_49 : decode cX7_send 49 = .ok (.aload_n 0, 1) := by decide +kernel
theorem dX7_send_50 : decode cX7_send 50 = .ok (.getfield 32, 3) := by decide +kernel
theorem dX7_send_53 : decode cX7_send 53 = .ok (.iconst 4, 1) := by decide +kernel
theorem dX7_send_54 : decode cX7_send 54 = .ok (.iload 6, 2) := by decide +kernel
theorem dX7_send_56 : decode cX7_send 56 = .ok (.imul, 1) := by decide +kernel
theorem dX7_send_57 : decode cX7_send 57 = .ok (.iload_n 2, 1) := by decide +kernel
theorem dX7_send_58 : decode cX7_send 58 = .ok (.iastore, 1) := by decide +kernel
theorem dX7_send_59 : decode cX7_send 59 = .ok (.aload_n 0, 1) := by decide +kernel
theorem dX7_send_60 : decode cX7_send 60 = .ok (.getfield 32, 3) := by decide +kernel
theorem dX7_send_63 : decode cX7_send 63 = .ok (.iconst 4, 1) := by decide +kernel
theorem dX7_send_64 : decode cX7_send 64 = .ok (.iload 6, 2) := by decide +kernel
theorem dX7_send_66 : decode cX7_send 66 = .ok (.imul, 1) := by decide +kernel
theorem dX7_send_67 : decode cX7_send 67 = .ok (.iconst 1, 1) := by decide +kernel
theorem dX7_send_68 : decode cX7_send 68 = .ok (.iadd, 1) := by decide +kernel
theorem dX7_send_69 : decode cX7_send 69 = .ok (.iload_n 3, 1) := by decide +kernel
theorem dX7_send_70 : decode cX7_send 70 = .ok (.iastore, 1) := by decide +kernel
theorem dX7_send_71 : decode cX7_send 71 = .ok (.aload_n 0, 1) := by decide +kernel
theorem dX7_send_72 : decode cX7_send 72 = .ok (.getfield 32, 3) := by decide +kernel
theorem dX7_send_75 : decode cX7_send 75 = .ok (.iconst 4, 1) := by decide +kernel
theorem dX7_send_76 : decode cX7_send 76 = .ok (.iload 6, 2) := by decide +kernel
theorem dX7_send_78 : decode cX7_send 78 = .ok (.imul, 1) := by decide +kernel
theorem dX7_send_79 : decode cX7_send 79 = .ok (.iconst 2, 1) := by decide +kernel
theorem dX7_send_80 : decode cX7_send 80 = .ok (.iadd, 1) := by decide +kernel
theorem dX7_send_81 : decode cX7_send 81 = .ok (.iload 4, 2) := by decide +kernel
theorem dX7_send_83 : decode cX7_send 83 = .ok (.iastore, 1) := by decide +kernel
theorem dX7_send_84 : decode cX7_send 84 = .ok (.aload_n 0, 1) := by decide +kernel
theorem dX7_send_85 : decode cX7_send 85 = .ok (.getfield 32, 3) := by decide +kernel
theorem dX7_send_88 : decode cX7_send 88 = .ok (.iconst 4, 1) := by decide +kernel
theorem dX7_send_89 : decode cX7_send 89 = .ok (.iload 6, 2) := by decide +kernel
theorem dX7_send_91 : decode cX7_send 91 = .ok (.imul, 1) := by decide +kernel
theorem dX7_send_92 : decode cX7_send 92 = .ok (.iconst 3, 1) := by decide +kernel
theorem dX7_send_93 : decode cX7_send 93 = .ok (.iadd, 1) := by decide +kernel
theorem dX7_send_94 : decode cX7_send 94 = .ok (.iload 5, 2) := by decide +kernel
theorem dX7_send_96 : decode cX7_send 96 = .ok (.iastore, 1) := by decide +kernel
theorem dX7_send_97 : decode cX7_send 97 = .ok (.aload_n 0, 1) := by decide +kernel
theorem dX7_send_98 : decode cX7_send 98 = .ok (.getfield 35, 3) := by decide +kernel
theorem dX7_send_101 : decode cX7_send 101 = .ok (.iload 6, 2) := by decide +kernel
theorem dX7_send_103 : decode cX7_send 103 = .ok (.iload_n 1, 1) := by decide +kernel
theorem dX7_send_104 : decode cX7_send 104 = .ok (.iastore, 1) := by decide +kernel
theorem dX7_send_105 : decode cX7_send 105 = .ok (.aload_n 0, 1) := by decide +kernel
theorem dX7_send_106 : decode cX7_send 106 = .ok (.iload 6, 2) := by decide +kernel
theorem dX7_send_108 : decode cX7_send 108 = .ok (.iload_n 1, 1) := by decide +kernel
theorem dX7_send_109 : decode cX7_send 109 = .ok (.iconst (-1), 1) := by decide +kernel
theorem dX7_send_110 : decode cX7_send 110 = .ok (.invokevirtual 202, 3) := by decide +kernel
theorem dX7_send_113 : decode cX7_send 113 = .ok (.iload 6, 2) := by decide +kernel
theorem dX7_send_115 : decode cX7_send 115 = .ok (.ireturn, 1) := by decide +kernel
def B_Mo_send_33 (mc ms : Nat) (Rt : Option zAV → zMp → Prop) (g : Nat → zKT) : zKT :=
  (i_al 0 (i_gf 8 3 (i_is 6 (i_al 0 (i_dup (i_gf 8 3 (i_ic 1 (i_iadd (i_pf 8 3 .int (i_al 0 (i_gf 8 11 (i_ic 4 (i_il 6 (i_imul (i_il 2 (i_ias (i_al 0 (i_gf 8 11 (i_ic 4 (i_il 6 (i_imul (i_ic 1 (i_iadd (i_il 3 (i_ias (i_al 0 (i_gf 8 11 (i_ic 4 (i_il 6 (i_imul (i_ic 2 (i_iadd (i_il 4 (i_ias (i_al 0 (i_gf 8 11 (i_ic 4 (i_il 6 (i_imul (i_ic 3 (i_iadd (i_il 5 (i_ias (i_al 0 (i_gf 8 12 (i_il 6 (i_il 1 (i_ias (i_al 0 (i_il 6 (i_il 1 (i_ic (-1) (i_callV2 mc ms 8 4 T_Mo_comes (i_il 6 (i_iret mc ms Rt)))))))))))))))))))))))))))))))))))))))))))))))))))))))
set_option maxRecDepth 20000 in
theorem s_Mo_send_33 {X : zMa} {mc ms : Nat} {Rt : Option zAV → zMp → Prop} (hC : zCx X RX7 cX7_send 6 145 mc ms (some .int) false Rt) (hN : zNL X = 7) : zLe (B_Mo_send_33 mc ms Rt (zG X)) (zG X 33) :=
  (sd_al_n hC rfl dX7_send_33 ((sd_gf hC (ci := 8) (fk := 3) rfl wi_Mo (by decide) fl_Mo_191 (Or.inl rfl) dX7_send_34 ((sd_is hC (by rw [hN]; decide) dX7_send_37 ((sd_al_n hC rfl dX7_send_39 ((sd_dup hC dX7_send_40 ((sd_gf hC (ci := 8) (fk := 3) rfl wi_Mo (by decide) fl_Mo_191 (Or.inl rfl) dX7_send_41 ((sd_iconst hC (by decide) dX7_send_44 ((sd_iadd hC dX7_send_45 ((sd_pf hC (ci := 8) (fk := 3) rfl wi_Mo tyX7 tyX7_ok nmX7 (by decide) fl_Mo_191 (Or.inl rfl) (Or.inl rfl) dX7_send_46 ((sd_al_n hC rfl dX7_send_49 ((sd_gf hC (ci := 8) (fk := 11) rfl wi_Mo (by decide) fl_Mo_32 (Or.inl rfl) dX7_send_50 ((sd_iconst hC (by decide) dX7_send_53 ((sd_il hC dX7_send_54 ((sd_imul hC dX7_send_56 ((sd_il_n hC rfl dX7_send_57 ((sd_ias hC dX7_send_58 ((sd_al_n hC rfl dX7_send_59 ((sd_gf hC (ci := 8) (fk := 11) rfl wi_Mo (by decide) fl_Mo_32 (Or.inl rfl) dX7_send_60 ((sd_iconst hC (by decide) dX7_send_63 ((sd_il hC dX7_send_64 ((sd_imul hC dX7_send_66 ((sd_iconst hC (by decide) dX7_send_67 ((sd_iadd hC dX7_send_68 ((sd_il_n hC rfl dX7_send_69 ((sd_ias hC dX7_send_70 ((sd_al_n hC rfl dX7_send_71 ((sd_gf hC (ci := 8) (fk := 11) rfl wi_Mo (by decide) fl_Mo_32 (Or.inl rfl) dX7_send_72 ((sd_iconst hC (by decide) dX7_send_75 ((sd_il hC dX7_send_76 ((sd_imul hC dX7_send_78 ((sd_iconst hC (by decide) dX7_send_79 ((sd_iadd hC dX7_send_80 ((sd_il hC dX7_send_81 ((sd_ias hC dX7_send_83 ((sd_al_n hC rfl dX7_send_84 ((sd_gf hC (ci := 8) (fk := 11) rfl wi_Mo (by decide) fl_Mo_32 (Or.inl rfl) dX7_send_85 ((sd_iconst hC (by decide) dX7_send_88 ((sd_il hC dX7_send_89 ((sd_imul hC dX7_send_91 ((sd_iconst hC (by decide) dX7_send_92 ((sd_iadd hC dX7_send_93 ((sd_il hC dX7_send_94 ((sd_ias hC dX7_send_96 ((sd_al_n hC rfl dX7_send_97 ((sd_gf hC (ci := 8) (fk := 12) rfl wi_Mo (by decide) fl_Mo_35 (Or.inl rfl) dX7_send_98 ((sd_il hC dX7_send_101 ((sd_il_n hC rfl dX7_send_103 ((sd_ias hC dX7_send_104 ((sd_al_n hC rfl dX7_send_105 ((sd_il hC dX7_send_106 ((sd_il_n hC rfl dX7_send_108 ((sd_iconst hC (by decide) dX7_send_109 ((sd_cV2 hC c_Mo_comes yv_Mo_comes (ci := 8) rfl rfl ml_Mo_202 (by decide) (by decide) dX7_send_110 ((sd_il hC dX7_send_113 ((sd_iret hC dX7_send_115)))))))))))))))))))))))))))))))))))))))))))))))))))))))))))))))))))))))))))))))))))))))))))))))))))))))))))))
def B_Mo_send_30 (mc ms : Nat) (Rt : Option zAV → zMp → Prop) (g : Nat → zKT) : zKT :=
  (i_ic (-8) (i_iret mc ms Rt))
set_option maxRecDepth 20000 in
theorem s_Mo_send_30 {X : zMa} {mc ms : Nat} {Rt : Option zAV → zMp → Prop} (hC : zCx X RX7 cX7_send 6 145 mc ms (some .int) false Rt) (hN : zNL X = 7) : zLe (B_Mo_send_30 mc ms Rt (zG X)) (zG X 30) :=
  (sd_bipush hC (by decide) dX7_send_30 ((sd_iret hC dX7_send_32)))
def B_Mo_send_11 (mc ms : Nat) (Rt : Option zAV → zMp → Prop) (g : Nat → zKT) : zKT :=
  (i_al 0 (i_gf 8 3 (i_ic 600 (i_iceq (B_Mo_send_30 mc ms Rt g) (i_al 0 (i_callV mc ms 8 1 T_Mo_underWay co_Mo_underWay (i_ic 60 (i_iclt (B_Mo_send_33 mc ms Rt g) (B_Mo_send_30 mc ms Rt g)))))))))
set_option maxRecDepth 20000 in
theorem s_Mo_send_11 {X : zMa} {mc ms : Nat} {Rt : Option zAV → zMp → Prop} (hC : zCx X RX7 cX7_send 6 145 mc ms (some .int) false Rt) (hN : zNL X = 7) : zLe (B_Mo_send_11 mc ms Rt (zG X)) (zG X 11) :=
  (sd_al_n hC rfl dX7_send_11 ((sd_gf hC (ci := 8) (fk := 3) rfl wi_Mo (by decide) fl_Mo_191 (Or.inl rfl) dX7_send_12 ((sd_sipush hC (by decide) dX7_send_15 ((sd_iceq hC (tgt := 30) (by decide) dX7_send_18 (s_Mo_send_30 hC hN) ((sd_al_n hC rfl dX7_send_21 ((sd_cV hC c_Mo_underWay yv_Mo_underWay (ci := 8) rfl rfl ml_Mo_198 (by decide) (by decide) dX7_send_22 ((sd_bipush hC (by decide) dX7_send_25 ((sd_iclt hC (tgt := 33) (by decide) dX7_send_27 (s_Mo_send_33 hC hN) (s_Mo_send_30 hC hN))))))))))))))))
def B_Mo_send_0 (mc ms : Nat) (Rt : Option zAV → zMp → Prop) (g : Nat → zKT) : zKT :=
  (i_al 0 (i_il 1 (i_callV mc ms 8 2 T_Mo_isDesk co_Mo_isDesk (i_ifne (B_Mo_send_11 mc ms Rt g) (i_ic (-2) (i_iret mc ms Rt))))))
set_option maxRecDepth 20000 in
theorem s_Mo_send_0 {X : zMa} {mc ms : Nat} {Rt : Option zAV → zMp → Prop} (hC : zCx X RX7 cX7_send 6 145 mc ms (some .int) false Rt) (hN : zNL X = 7) : zLe (B_Mo_send_0 mc ms Rt (zG X)) (zG X 0) :=
  (sd_al_n hC rfl dX7_send_0 ((sd_il_n hC rfl dX7_send_1 ((sd_cV hC c_Mo_isDesk yv_Mo_isDesk (ci := 8) rfl rfl ml_Mo_143 (by decide) (by decide) dX7_send_2 ((sd_ifne hC (tgt := 11) (by decide) dX7_send_5 (s_Mo_send_11 hC hN) ((sd_bipush hC (by decide) dX7_send_8 ((sd_iret hC dX7_send_10)))))))))))
theorem c_Mo_send (l : Launch) : zCT2 l yX7_send cX7_send 7 (some .int) 6 145 T_Mo_send := by
  intro As M Rt c1 c2 hT
  obtain ⟨y, d, a, b, c, e, rfl, rfl, hJ, hR0, hR1, hR2⟩ := hT
  have hlim := hJ.lim
  have hdk := hJ.dk
  refine zMet_of false (by decide +kernel) (fun h => by first | rfl | cases h) (Nat.le_of_ble_eq_true rfl) (fun X hN hC => ?_)
  show zG X 0 [some (.inr (30, 0, 0)), some (.inl (.int d)), some (.inl (.int a)), some (.inl (.int b)), some (.inl (.int c)), some (.inl (.int e)), none] [] (mp y) 0 0
  refine s_Mo_send_0 hC hN _ _ _ _ _ ?_
  simp only [B_Mo_send_0, B_Mo_send_11, B_Mo_send_30, co_Mo_isDesk, co_Mo_underWay, i_ic, i_lc, i_nul, i_il, i_ll, i_al, i_is, i_as, i_ls, i_inc, i_iadd, i_isub, i_imul, i_iand, i_ior, i_ixor, i_idiv, i_irem, i_ishl, i_ishr, i_ladd, i_lsub, i_land, i_lor, i_i2l, i_lushr, i_lshl, i_lshr, i_lcmp, i_dup, i_pop, i_dx1, i_dup2, i_ifeq, i_ifne, i_iflt, i_ifge, i_ifgt, i_ifle, i_iceq, i_icne, i_iclt, i_icge, i_icgt, i_icle, i_ifn, i_gf, i_pf, i_ial, i_bal, i_lal, i_aal, i_ias, i_las, i_bas, i_aas, i_alen, i_newa, i_new, i_anew, i_cast, i_oi, i_call, i_callV, i_callV2, i_callI, i_iret, i_zret, i_lret, i_vret, i_aret, i_mmx, i_mmn, i_gsE, i_aceq, i_no, i_acq, i_sw, zsw, zlg, zls, znl, zfg, zcs, zsp, zrc, zisn, zft, zc1, zto, Value.category, List.set_cons_zero, List.set_cons_succ, List.length_cons, List.length_nil, Option.toList, List.append, List.nil_append, List.cons_append, true_and, and_true, Nat.add_zero, Nat.zero_le, Nat.zero_add, Nat.le_refl, Nat.reduceAdd, Nat.reduceLeDiff, co0, z0, zn_0, zn_1, zn_2, zn_3, zn_4, zn_5, zn_8, zn_12, zn_24, zn_121, zn_144, zn_256, zn_300, zn_600, zn_720, zn_1204, zn_1280, zn_2400, zn_4816, zn_14400, zn_90000, q_main, m_main]
  refine ⟨y, d, rfl, rfl, ?_⟩
  simp only [B_Mo_send_0, B_Mo_send_11, B_Mo_send_30, co_Mo_isDesk, co_Mo_underWay, i_ic, i_lc, i_nul, i_il, i_ll, i_al, i_is, i_as, i_ls, i_inc, i_iadd, i_isub, i_imul, i_iand, i_ior, i_ixor, i_idiv, i_irem, i_ishl, i_ishr, i_ladd, i_lsub, i_land, i_lor, i_i2l, i_lushr, i_lshl, i_lshr, i_lcmp, i_dup, i_pop, i_dx1, i_dup2, i_ifeq, i_ifne, i_iflt, i_ifge, i_ifgt, i_ifle, i_iceq, i_icne, i_iclt, i_icge, i_icgt, i_icle, i_ifn, i_gf, i_pf, i_ial, i_bal, i_lal, i_aal, i_ias, i_las, i_bas, i_aas, i_alen, i_newa, i_new, i_anew, i_cast, i_oi, i_call, i_callV, i_callV2, i_callI, i_iret, i_zret, i_lret, i_vret, i_aret, i_mmx, i_mmn, i_gsE, i_aceq, i_no, i_acq, i_sw, zsw, zlg, zls, znl, zfg, zcs, zsp, zrc, zisn, zft, zc1, zto, Value.category, List.set_cons_zero, List.set_cons_succ, List.length_cons, List.length_nil, Option.toList, List.append, List.nil_append, List.cons_append, true_and, and_true, Nat.add_zero, Nat.zero_le, Nat.zero_add, Nat.le_refl, Nat.reduceAdd, Nat.reduceLeDiff, co0, z0, zn_0, zn_1, zn_2, zn_3, zn_4, zn_5, zn_8, zn_12, zn_24, zn_121, zn_144, zn_256, zn_300, zn_600, zn_720, zn_1204, zn_1280, zn_2400, zn_4816, zn_14400, zn_90000, q_main, m_main]
  refine ⟨fun h => ?_, fun h => hR0 (zb_0.mp h)⟩
  have hd := zb_n0 h
  refine ⟨fun h2 => hR1 hd (Or.inl ((zK (K := 600) (by decide) (n := y_nn y) (by omega)).2.2.1.mp h2)), fun h2 => ⟨y, rfl, rfl, hJ, ?_⟩⟩
  simp only [B_Mo_send_0, B_Mo_send_11, B_Mo_send_30, co_Mo_isDesk, co_Mo_underWay, i_ic, i_lc, i_nul, i_il, i_ll, i_al, i_is, i_as, i_ls, i_inc, i_iadd, i_isub, i_imul, i_iand, i_ior, i_ixor, i_idiv, i_irem, i_ishl, i_ishr, i_ladd, i_lsub, i_land, i_lor, i_i2l, i_lushr, i_lshl, i_lshr, i_lcmp, i_dup, i_pop, i_dx1, i_dup2, i_ifeq, i_ifne, i_iflt, i_ifge, i_ifgt, i_ifle, i_iceq, i_icne, i_iclt, i_icge, i_icgt, i_icle, i_ifn, i_gf, i_pf, i_ial, i_bal, i_lal, i_aal, i_ias, i_las, i_bas, i_aas, i_alen, i_newa, i_new, i_anew, i_cast, i_oi, i_call, i_callV, i_callV2, i_callI, i_iret, i_zret, i_lret, i_vret, i_aret, i_mmx, i_mmn, i_gsE, i_aceq, i_no, i_acq, i_sw, zsw, zlg, zls, znl, zfg, zcs, zsp, zrc, zisn, zft, zc1, zto, Value.category, List.set_cons_zero, List.set_cons_succ, List.length_cons, List.length_nil, Option.toList, List.append, List.nil_append, List.cons_append, true_and, and_true, Nat.add_zero, Nat.zero_le, Nat.zero_add, Nat.le_refl, Nat.reduceAdd, Nat.reduceLeDiff, co0, z0, zn_0, zn_1, zn_2, zn_3, zn_4, zn_5, zn_8, zn_12, zn_24, zn_121, zn_144, zn_256, zn_300, zn_600, zn_720, zn_1204, zn_1280, zn_2400, zn_4816, zn_14400, zn_90000, q_main, m_main]
  have hu := y_uw_le y (y_nn y)
  refine ⟨fun h3 => ?_, fun h3 => hR1 hd (Or.inr (Nat.le_of_not_lt (fun q => h3 (nI_lt q (by decide)))))⟩
  have hn : y_nn y < 600 := by have : y_nn y ≠ 600 := fun q => h2 (by rw [q]; rfl); omega
  obtain ⟨j, hj, rfl⟩ := isn_t (by omega) hd
  obtain ⟨hb, hok, hc1, hc2, hR⟩ := hR2 j hj rfl hn ((zK (K := 60) (by decide) (n := y_uw y (y_nn y)) (by omega)).1.mp h3)
  have e4 := mu_nn y (y_nn y + 1)
  simp only [m_main, k_dk_nn, k_nr_nn, k_nw_nn, k_nn_nn, k_ms_nn, k_cp_nn, k_po_nn, k_ne_nn, k_td_nn, k_lk_nn, k_do_nn, k_ro_nn, k_al_nn, k_kd_nn, k_mn_nn, k_nu_nn, k_fi_nn, k_sa_nn, k_wt_nn, k_hh_nn, k_he_nn, k_hm_nn, k_tb_nn, k_to_nn, k_fr_nn, k_tt_nn, k_wh_nn, k_rw_nn, k_lo_nn, k_hi_nn, k_cv_nn, k_so_nn, k_me_nn, k_re_nn, k_gb_nn] at e4
  simp only [B_Mo_send_0, B_Mo_send_11, B_Mo_send_30, B_Mo_send_33, co_Mo_isDesk, co_Mo_underWay, i_ic, i_lc, i_nul, i_il, i_ll, i_al, i_is, i_as, i_ls, i_inc, i_iadd, i_isub, i_imul, i_iand, i_ior, i_ixor, i_idiv, i_irem, i_ishl, i_ishr, i_ladd, i_lsub, i_land, i_lor, i_i2l, i_lushr, i_lshl, i_lshr, i_lcmp, i_dup, i_pop, i_dx1, i_dup2, i_ifeq, i_ifne, i_iflt, i_ifge, i_ifgt, i_ifle, i_iceq, i_icne, i_iclt, i_icge, i_icgt, i_icle, i_ifn, i_gf, i_pf, i_ial, i_bal, i_lal, i_aal, i_ias, i_las, i_bas, i_aas, i_alen, i_newa, i_new, i_anew, i_cast, i_oi, i_call, i_callV, i_callV2, i_callI, i_iret, i_zret, i_lret, i_vret, i_aret, i_mmx, i_mmn, i_gsE, i_aceq, i_no, i_acq, i_sw, zsw, zlg, zls, znl, zfg, zcs, zsp, zrc, zisn, zft, zc1, zto, Value.category, List.set_cons_zero, List.set_cons_succ, List.length_cons, List.length_nil, Option.toList, List.append, List.nil_append, List.cons_append, true_and, and_true, Nat.add_zero, Nat.zero_le, Nat.zero_add, Nat.le_refl, Nat.reduceAdd, Nat.reduceLeDiff, co0, z0, zn_0, zn_1, zn_2, zn_3, zn_4, zn_5, zn_8, zn_12, zn_24, zn_121, zn_144, zn_256, zn_300, zn_600, zn_720, zn_1204, zn_1280, zn_2400, zn_4816, zn_14400, zn_90000, q_main, m_main, ar_4, ar_5, ar_12, ar_300, ar_600, ar_1200, ar_10, nI_add, ar_1, ar_2, ar_3, ar_2m]
  rw [e4]
  refine ⟨m_k (by decide), by decide, ?_⟩
  simp only [i_ic, i_lc, i_nul, i_il, i_ll, i_al, i_is, i_as, i_ls, i_inc, i_iadd, i_isub, i_imul, i_iand, i_ior, i_ixor, i_idiv, i_irem, i_ishl, i_ishr, i_ladd, i_lsub, i_land, i_lor, i_i2l, i_lushr, i_lshl, i_lshr, i_lcmp, i_dup, i_pop, i_dx1, i_dup2, i_ifeq, i_ifne, i_iflt, i_ifge, i_ifgt, i_ifle, i_iceq, i_icne, i_iclt, i_icge, i_icgt, i_icle, i_ifn, i_gf, i_pf, i_ial, i_bal, i_lal, i_aal, i_ias, i_las, i_bas, i_aas, i_alen, i_newa, i_new, i_anew, i_cast, i_oi, i_call, i_callV, i_callV2, i_callI, i_iret, i_zret, i_lret, i_vret, i_aret, i_mmx, i_mmn, i_gsE, i_aceq, i_no, i_acq, i_sw, zsw, zlg, zls, znl, zfg, zcs, zsp, zrc, zisn, zft, zc1, zto, Value.category, List.set_cons_zero, List.set_cons_succ, List.length_cons, List.length_nil, Option.toList, List.append, List.nil_append, List.cons_append, true_and, and_true, Nat.add_zero, Nat.zero_le, Nat.zero_add, Nat.le_refl, Nat.reduceAdd, Nat.reduceLeDiff, co0, z0, zn_0, zn_1, zn_2, zn_3, zn_4, zn_5, zn_8, zn_12, zn_24, zn_121, zn_144, zn_256, zn_300, zn_600, zn_720, zn_1204, zn_1280, zn_2400, zn_4816, zn_14400, zn_90000, q_main, m_main, q_fi]
  have vi : ∀ n, n < 4 → vp_in (nI (4 * y_nn y + n)) 2400 := fun n hn' => vp_in_nI (by omega) (by decide)
  rw [nI_clamp (by omega), mu_fi]
  refine ⟨m_k (by decide), vi 0 (by decide), ?_⟩
  simp only [i_ic, i_lc, i_nul, i_il, i_ll, i_al, i_is, i_as, i_ls, i_inc, i_iadd, i_isub, i_imul, i_iand, i_ior, i_ixor, i_idiv, i_irem, i_ishl, i_ishr, i_ladd, i_lsub, i_land, i_lor, i_i2l, i_lushr, i_lshl, i_lshr, i_lcmp, i_dup, i_pop, i_dx1, i_dup2, i_ifeq, i_ifne, i_iflt, i_ifge, i_ifgt, i_ifle, i_iceq, i_icne, i_iclt, i_icge, i_icgt, i_icle, i_ifn, i_gf, i_pf, i_ial, i_bal, i_lal, i_aal, i_ias, i_las, i_bas, i_aas, i_alen, i_newa, i_new, i_anew, i_cast, i_oi, i_call, i_callV, i_callV2, i_callI, i_iret, i_zret, i_lret, i_vret, i_aret, i_mmx, i_mmn, i_gsE, i_aceq, i_no, i_acq, i_sw, zsw, zlg, zls, znl, zfg, zcs, zsp, zrc, zisn, zft, zc1, zto, Value.category, List.set_cons_zero, List.set_cons_succ, List.length_cons, List.length_nil, Option.toList, List.append, List.nil_append, List.cons_append, true_and, and_true, Nat.add_zero, Nat.zero_le, Nat.zero_add, Nat.le_refl, Nat.reduceAdd, Nat.reduceLeDiff, co0, z0, zn_0, zn_1, zn_2, zn_3, zn_4, zn_5, zn_8, zn_12, zn_24, zn_121, zn_144, zn_256, zn_300, zn_600, zn_720, zn_1204, zn_1280, zn_2400, zn_4816, zn_14400, zn_90000, q_main, m_main, q_fi]
  rw [nI_clamp (by omega), mu_fi]
  refine ⟨m_k (by decide), vi 1 (by decide), ?_⟩
  simp only [i_ic, i_lc, i_nul, i_il, i_ll, i_al, i_is, i_as, i_ls, i_inc, i_iadd, i_isub, i_imul, i_iand, i_ior, i_ixor, i_idiv, i_irem, i_ishl, i_ishr, i_ladd, i_lsub, i_land, i_lor, i_i2l, i_lushr, i_lshl, i_lshr, i_lcmp, i_dup, i_pop, i_dx1, i_dup2, i_ifeq, i_ifne, i_iflt, i_ifge, i_ifgt, i_ifle, i_iceq, i_icne, i_iclt, i_icge, i_icgt, i_icle, i_ifn, i_gf, i_pf, i_ial, i_bal, i_lal, i_aal, i_ias, i_las, i_bas, i_aas, i_alen, i_newa, i_new, i_anew, i_cast, i_oi, i_call, i_callV, i_callV2, i_callI, i_iret, i_zret, i_lret, i_vret, i_aret, i_mmx, i_mmn, i_gsE, i_aceq, i_no, i_acq, i_sw, zsw, zlg, zls, znl, zfg, zcs, zsp, zrc, zisn, zft, zc1, zto, Value.category, List.set_cons_zero, List.set_cons_succ, List.length_cons, List.length_nil, Option.toList, List.append, List.nil_append, List.cons_append, true_and, and_true, Nat.add_zero, Nat.zero_le, Nat.zero_add, Nat.le_refl, Nat.reduceAdd, Nat.reduceLeDiff, co0, z0, zn_0, zn_1, zn_2, zn_3, zn_4, zn_5, zn_8, zn_12, zn_24, zn_121, zn_144, zn_256, zn_300, zn_600, zn_720, zn_1204, zn_1280, zn_2400, zn_4816, zn_14400, zn_90000, q_main, m_main, q_fi]
  rw [nI_clamp (by omega), mu_fi]
  refine ⟨m_k (by decide), vi 2 (by decide), ?_⟩
  simp only [i_ic, i_lc, i_nul, i_il, i_ll, i_al, i_is, i_as, i_ls, i_inc, i_iadd, i_isub, i_imul, i_iand, i_ior, i_ixor, i_idiv, i_irem, i_ishl, i_ishr, i_ladd, i_lsub, i_land, i_lor, i_i2l, i_lushr, i_lshl, i_lshr, i_lcmp, i_dup, i_pop, i_dx1, i_dup2, i_ifeq, i_ifne, i_iflt, i_ifge, i_ifgt, i_ifle, i_iceq, i_icne, i_iclt, i_icge, i_icgt, i_icle, i_ifn, i_gf, i_pf, i_ial, i_bal, i_lal, i_aal, i_ias, i_las, i_bas, i_aas, i_alen, i_newa, i_new, i_anew, i_cast, i_oi, i_call, i_callV, i_callV2, i_callI, i_iret, i_zret, i_lret, i_vret, i_aret, i_mmx, i_mmn, i_gsE, i_aceq, i_no, i_acq, i_sw, zsw, zlg, zls, znl, zfg, zcs, zsp, zrc, zisn, zft, zc1, zto, Value.category, List.set_cons_zero, List.set_cons_succ, List.length_cons, List.length_nil, Option.toList, List.append, List.nil_append, List.cons_append, true_and, and_true, Nat.add_zero, Nat.zero_le, Nat.zero_add, Nat.le_refl, Nat.reduceAdd, Nat.reduceLeDiff, co0, z0, zn_0, zn_1, zn_2, zn_3, zn_4, zn_5, zn_8, zn_12, zn_24, zn_121, zn_144, zn_256, zn_300, zn_600, zn_720, zn_1204, zn_1280, zn_2400, zn_4816, zn_14400, zn_90000, q_main, m_main, q_fi]
  rw [nI_clamp (by omega), mu_fi]
  refine ⟨m_k (by decide), vi 3 (by decide), ?_⟩
  simp only [i_ic, i_lc, i_nul, i_il, i_ll, i_al, i_is, i_as, i_ls, i_inc, i_iadd, i_isub, i_imul, i_iand, i_ior, i_ixor, i_idiv, i_irem, i_ishl, i_ishr, i_ladd, i_lsub, i_land, i_lor, i_i2l, i_lushr, i_lshl, i_lshr, i_lcmp, i_dup, i_pop, i_dx1, i_dup2, i_ifeq, i_ifne, i_iflt, i_ifge, i_ifgt, i_ifle, i_iceq, i_icne, i_iclt, i_icge, i_icgt, i_icle, i_ifn, i_gf, i_pf, i_ial, i_bal, i_lal, i_aal, i_ias, i_las, i_bas, i_aas, i_alen, i_newa, i_new, i_anew, i_cast, i_oi, i_call, i_callV, i_callV2, i_callI, i_iret, i_zret, i_lret, i_vret, i_aret, i_mmx, i_mmn, i_gsE, i_aceq, i_no, i_acq, i_sw, zsw, zlg, zls, znl, zfg, zcs, zsp, zrc, zisn, zft, zc1, zto, Value.category, List.set_cons_zero, List.set_cons_succ, List.length_cons, List.length_nil, Option.toList, List.append, List.nil_append, List.cons_append, true_and, and_true, Nat.add_zero, Nat.zero_le, Nat.zero_add, Nat.le_refl, Nat.reduceAdd, Nat.reduceLeDiff, co0, z0, zn_0, zn_1, zn_2, zn_3, zn_4, zn_5, zn_8, zn_12, zn_24, zn_121, zn_144, zn_256, zn_300, zn_600, zn_720, zn_1204, zn_1280, zn_2400, zn_4816, zn_14400, zn_90000, q_main, m_main, q_sa]
  rw [nI_clamp (by omega), mu_sa]
  refine ⟨m_k (by decide), vp_in_nI (by omega) (by decide), ?_⟩
  simp only [B_Mo_send_0, B_Mo_send_11, B_Mo_send_30, B_Mo_send_33, co_Mo_isDesk, co_Mo_underWay, i_ic, i_lc, i_nul, i_il, i_ll, i_al, i_is, i_as, i_ls, i_inc, i_iadd, i_isub, i_imul, i_iand, i_ior, i_ixor, i_idiv, i_irem, i_ishl, i_ishr, i_ladd, i_lsub, i_land, i_lor, i_i2l, i_lushr, i_lshl, i_lshr, i_lcmp, i_dup, i_pop, i_dx1, i_dup2, i_ifeq, i_ifne, i_iflt, i_ifge, i_ifgt, i_ifle, i_iceq, i_icne, i_iclt, i_icge, i_icgt, i_icle, i_ifn, i_gf, i_pf, i_ial, i_bal, i_lal, i_aal, i_ias, i_las, i_bas, i_aas, i_alen, i_newa, i_new, i_anew, i_cast, i_oi, i_call, i_callV, i_callV2, i_callI, i_iret, i_zret, i_lret, i_vret, i_aret, i_mmx, i_mmn, i_gsE, i_aceq, i_no, i_acq, i_sw, zsw, zlg, zls, znl, zfg, zcs, zsp, zrc, zisn, zft, zc1, zto, Value.category, List.set_cons_zero, List.set_cons_succ, List.length_cons, List.length_nil, Option.toList, List.append, List.nil_append, List.cons_append, true_and, and_true, Nat.add_zero, Nat.zero_le, Nat.zero_add, Nat.le_refl, Nat.reduceAdd, Nat.reduceLeDiff, co0, z0, zn_0, zn_1, zn_2, zn_3, zn_4, zn_5, zn_8, zn_12, zn_24, zn_121, zn_144, zn_256, zn_300, zn_600, zn_720, zn_1204, zn_1280, zn_2400, zn_4816, zn_14400, zn_90000, q_main, m_main]
  have hJs : Jv (sn_y y (nI j) a b c e) := Jv_sn hJ hn
  refine ⟨c1, c2, Nat.le_refl _, Nat.le_refl _, sn_y y (nI j) a b c e, y_nn y, j, -1, rfl, rfl, hJs, Nat.lt_succ_self _, hj, fun q => ?_, fun _ => ⟨hok, hc1, hc2, Nat.le_refl _, Nat.le_refl _, hR⟩⟩
  have : inm (y_wt y (y_nn y)) (nI j) = true := q
  rw [hb] at this
  cases this
/-! delivers -/
noncomputable def dv_1 (y : zMS) (m : Nat) : zMS := v_td (v_tb y (rwp (y_tb y) (5 * (12 * y_tt y m + y_fr y m)) (fun j => y_rw y (5 * m + j)) 5)) (y_td y + 1)
noncomputable def dv_3 (z : zMS) (k v u : Nat) : zMS := if inm (y_wt z k) (nI v) = true then z else cm z k v (nI u)
/-- before the tells -/
noncomputable def dv_0 (y : zMS) (m : Nat) : zMS := if y_wh y m = -2 then dr (dv_1 y m) m else dv_3 (dr y m) (y_wh y m).toNatClampNeg (y_tt y m) (y_fr y m)
noncomputable def dv (y : zMS) (m : Nat) : zMS := tl (dv_0 y m)
def dv_ok (y : zMS) (m : Nat) : Prop := (∀ k, y_wh y m = nI k → k < 600 → inm (y_wt (dr y m) k) (nI (y_tt y m)) = false → cm_ok (dr y m) k (y_tt y m) (nI (y_fr y m))) ∧ tl_ok (dv_0 y m)
theorem cm_cp (y : zMS) (k d : Nat) (f : Int32) : y_cp y ≤ y_cp (cm y k d f) := by
  have h1 := (ch_kn y k d (y_nr y)).2.2.2.2.1
  have h2 := (cs_kn (ch y k d (y_nr y)) k d f (y_dk y)).2.2
  rw [h1] at h2
  exact h2
theorem dv0_cp (y : zMS) (m : Nat) : y_cp y ≤ y_cp (dv_0 y m) := by
  unfold dv_0
  split
  · exact Nat.le_refl _
  · unfold dv_3
    split
    · exact Nat.le_refl _
    · exact cm_cp (dr y m) _ _ _
theorem dv_cp (y : zMS) (m : Nat) : y_cp y ≤ y_cp (dv y m) := Nat.le_trans (dv0_cp y m) (tl_fu (dv_0 y m) _).2.1
theorem Jv_tb {y : zMS} {f : Nat → Int64} (h : Jv y) : Jv (v_tb y f) := h
theorem Jv_td {y : zMS} {f : Int32} (h : Jv y) : Jv (v_td y f) := h
def T_Mo_delivers (As : List zAV) (M : zMp) (Rt : Option zAV → zMp → Prop) (c1 c2 : Nat) : Prop := ∃ y m, As = [.inr (30, 0, 0), .inl (.int (nI m))] ∧ M = mp y ∧ Jv y ∧ m < y_ms y ∧ y_tt y m < y_dk y ∧ dv_ok y m ∧ y_cp (dv y m) - y_cp y ≤ c1 ∧ 16 * (y_cp (dv y m) - y_cp y) ≤ c2 ∧ Rt none (mp (dv y m))
theorem dX7_delivers_0 : decode cX7_delivers 0 = .ok (.aload_n 0, 1) := by decide +kernel
theorem dX7_delivers_1 : decode cX7_delivers 1 = .ok (.getfield 57, 3) := by decide +kernel
theorem dX7_delivers_4 : decode cX7_delivers 4 = .ok (.iload_n 1, 1) := by decide +kernel
theorem dX7_delivers_5 : decode cX7_delivers 5 = .ok (.iaload, 1) := by decide +kernel
theorem dX7_delivers_6 : decode cX7_delivers 6 = .ok (.istore_n 2, 1) := by decide +kernel
theorem dX7_delivers_7 : decode cX7_delivers 7 = .ok (.aload_n 0, 1) := by decide +kernel
theorem dX7_delivers_8 : decode cX7_delivers 8 = .ok (.getfield 60, 3) := by decide +kernel
theorem dX7_delivers_11 : decode cX7_delivers 11 = .ok (.iload_n 1, 1) := by decide +kernel
theorem dX7_delivers_12 : decode cX7_delivers 12 = .ok (.iaload, 1) := by decide +kernel
theorem dX7_delivers_13 : decode cX7_delivers 13 = .ok (.istore_n 3, 1) := by decide +kernel
theorem dX7_delivers_14 : decode cX7_delivers 14 = .ok (.aload_n 0, 1) := by decide +kernel
theorem dX7_delivers_15 : decode cX7_delivers 15 = .ok (.getfield 63, 3) := by decide +kernel
theorem dX7_delivers_18 : decode cX7_delivers 18 = .ok (.iload_n 1, 1) := by decide +kernel
theorem dX7_delivers_19 : decode cX7_delivers 19 = .ok (.iaload, 1) := by decide +kernel
theorem dX7_delivers_20 : decode cX7_delivers 20 = .ok (.istore 4, 2) := by decide +kernel
theorem dX7_delivers_22 : decode cX7_delivers 22 = .ok (.iload 4, 2) := by decide +kernel
theorem dX7_delivers_24 : decode cX7_delivers 24 = .ok (.bipush (-2), 2) := by decide +kernel
theorem dX7_delivers_26 : decode cX7_delivers 26 = .ok (.if_icmp .ne 52, 3) := by decide +kernel
theorem dX7_delivers_29 : decode cX7_delivers 29 = .ok (.iconst 0, 1) := by decide +kernel
theorem dX7_delivers_30 : decode cX7_delivers 30 = .ok (.istore 5, 2) := by decide +kernel
theorem dX7_delivers_32 : decode cX7_delivers 32 = .ok (.iload 5, 2) := by decide +kernel
theorem dX7_delivers_34 : decode cX7_delivers 34 = .ok (.iconst 5, 1) := by decide +kernel
theorem dX7_delivers_35 : decode cX7_delivers 35 = .ok (.if_icmp .ge 33, 3) := by decide +kernel
theorem dX7_delivers_38 : decode cX7_delivers 38 = .ok (.aload_n 0, 1) := by decide +kernel
theorem dX7_delivers_39 : decode cX7_delivers 39 = .ok (.getfield 50, 3) := by decide +kernel
theorem dX7_delivers_42 : decode cX7_delivers 42 = .ok (.iload_n 3, 1) := by decide +kernel
theorem dX7_delivers_43 : decode cX7_delivers 43 = .ok (.iload_n 2, 1) := by decide +kernel
theorem dX7_delivers_44 : decode cX7_delivers 44 = .ok (.invokestatic 122, 3) := by decide +kernel
theorem dX7_delivers_47 : decode cX7_delivers 47 = .ok (.iload 5, 2) := by decide +kernel
theorem dX7_delivers_49 : decode cX7_delivers 49 = .ok (.iadd, 1) := by decide +kernel
theorem dX7_delivers_50 : decode cX7_delivers 50 = .ok (.aload_n 0, 1) := by decide +kernel
theorem dX7_delivers_51 : decode cX7_delivers 51 = .ok (.getfield 66, 3) := by decide +kernel
theorem dX7_delivers_54 : decode cX7_delivers 54 = .ok (.iconst 5, 1) := by decide +kernel
theorem dX7_delivers_55 : decode cX7_delivers 55 = .ok (.iload_n 1, 1) := by decide +kernel
theorem dX7_delivers_56 : decode cX7_delivers 56 = .ok (.imul, 1) := by decide +kernel
theorem dX7_delivers_57 : decode cX7_delivers 57 = .ok (.iload 5, 2) := by decide +kernel
theorem dX7_delivers_59 : decode cX7_delivers 59 = .ok (.iadd, 1) := by decide +kernel
theorem dX7_delivers_60 : decode cX7_delivers 60 = .ok (.laload, 1) := by decide +kernel
theorem dX7_delivers_61 : decode cX7_delivers 61 = .ok (.lastore, 1) := by decide +kernel
theorem dX7_delivers_62 : decode cX7_delivers 62 = .ok (.iinc 5 1, 3) := by decide +kernel
theorem dX7_delivers_65 : decode cX7_delivers 65 = .ok (.goto (-33), 3) := by decide +kernel
theorem dX7_delivers_68 : decode cX7_delivers 68 = .ok (.aload_n 0, 1) := by decide +kernel
theorem dX7_delivers_69 : decode cX7_delivers 69 = .ok (.dup, 1) := by decide +kernel
theorem dX7_delivers_70 : decode cX7_delivers 70 = .ok (.getfield 206, 3) := by decide +kernel
theorem dX7_delivers_73 : decode cX7_delivers 73 = .ok (.iconst 1, 1) := by decide +kernel
theorem dX7_delivers_74 : decode cX7_delivers 74 = .ok (.iadd, 1) := by decide +kernel
theorem dX7_delivers_75 : decode cX7_delivers 75 = .ok (.putfield 206, 3) := by decide +kernel
theorem dX7_delivers_78 : decode cX7_delivers 78 = .ok (.aload_n 0, 1) := by decide +kernel
theorem dX7_delivers_79 : decode cX7_delivers 79 = .ok (.iload_n 1, 1) := by decide +kernel
theorem dX7_delivers_80 : decode cX7_delivers 80 = .ok (.invokevirtual 157, 3) := by decide +kernel
theorem dX7_delivers_83 : decode cX7_delivers 83 = .ok (.iload 4, 2) := by decide +kernel
theorem dX7_delivers_85 : decode cX7_delivers 85 = .ok (.bipush (-2), 2) := by decide +kernel
theorem dX7_delivers_87 : decode cX7_delivers 87 = .ok (.if_icmp .eq 11, 3) := by decide +kernel
theorem dX7_delivers_90 : decode cX7_delivers 90 = .ok (.aload_n 0, 1) := by decide +kernel
theorem dX7_delivers_91 : decode cX7_delivers 91 = .ok (.iload 4, 2) := by decide +kernel
theorem dX7_delivers_93 : decode cX7_delivers 93 = .ok (.iload_n 3, 1) := by decide +kernel
theorem dX7_delivers_94 : decode cX7_delivers 94 = .ok (.iload_n 2, 1) := by decide +kernel
theorem dX7_delivers_95 : decode cX7_delivers 95 = .ok (.invokevirtual 202, 3) := by decide +kernel
theorem dX7_delivers_98 : decode cX7_delivers 98 = .ok (.aload_n 0, 1) := by decide +kernel
theorem dX7_delivers_99 : decode cX7_delivers 99 = .ok (.invokevirtual 154, 3) := by decide +kernel
theorem dX7_delivers_102 : decode cX7_delivers 102 = .ok (.return_, 1) := by decide +kernel
def B_Mo_delivers_98 (mc ms : Nat) (Rt : Option zAV → zMp → Prop) (g : Nat → zKT) : zKT :=
  (i_al 0 (i_callV2 mc ms 8 1 T_Mo_tells (i_vret mc ms Rt)))
set_option maxRecDepth 20000 in
theorem s_Mo_delivers_98 {X : zMa} {mc ms : Nat} {Rt : Option zAV → zMp → Prop} (hC : zCx X RX7 cX7_delivers 6 145 mc ms (none) false Rt) (hN : zNL X = 6) : zLe (B_Mo_delivers_98 mc ms Rt (zG X)) (zG X 98) :=
  (sd_al_n hC rfl dX7_delivers_98 ((sd_cV2 hC c_Mo_tells yv_Mo_tells (ci := 8) rfl rfl ml_Mo_154 (by decide) (by decide) dX7_delivers_99 ((sd_vret hC dX7_delivers_102)))))
def B_Mo_delivers_78 (mc ms : Nat) (Rt : Option zAV → zMp → Prop) (g : Nat → zKT) : zKT :=
  (i_al 0 (i_il 1 (i_callV mc ms 8 2 T_Mo_drop co_Mo_drop (i_il 4 (i_ic (-2) (i_iceq (B_Mo_delivers_98 mc ms Rt g) (i_al 0 (i_il 4 (i_il 3 (i_il 2 (i_callV2 mc ms 8 4 T_Mo_comes (B_Mo_delivers_98 mc ms Rt g))))))))))))
set_option maxRecDepth 20000 in
theorem s_Mo_delivers_78 {X : zMa} {mc ms : Nat} {Rt : Option zAV → zMp → Prop} (hC : zCx X RX7 cX7_delivers 6 145 mc ms (none) false Rt) (hN : zNL X = 6) : zLe (B_Mo_delivers_78 mc ms Rt (zG X)) (zG X 78) :=
  (sd_al_n hC rfl dX7_delivers_78 ((sd_il_n hC rfl dX7_delivers_79 ((sd_cV hC c_Mo_drop yv_Mo_drop (ci := 8) rfl rfl ml_Mo_157 (by decide) (by decide) dX7_delivers_80 ((sd_il hC dX7_delivers_83 ((sd_bipush hC (by decide) dX7_delivers_85 ((sd_iceq hC (tgt := 98) (by decide) dX7_delivers_87 (s_Mo_delivers_98 hC hN) ((sd_al_n hC rfl dX7_delivers_90 ((sd_il hC dX7_delivers_91 ((sd_il_n hC rfl dX7_delivers_93 ((sd_il_n hC rfl dX7_delivers_94 ((sd_cV2 hC c_Mo_comes yv_Mo_comes (ci := 8) rfl rfl ml_Mo_202 (by decide) (by decide) dX7_delivers_95 (s_Mo_delivers_98 hC hN))))))))))))))))))))))
def B_Mo_delivers_68 (mc ms : Nat) (Rt : Option zAV → zMp → Prop) (g : Nat → zKT) : zKT :=
  (i_al 0 (i_dup (i_gf 8 26 (i_ic 1 (i_iadd (i_pf 8 26 .int (B_Mo_delivers_78 mc ms Rt g)))))))
set_option maxRecDepth 20000 in
theorem s_Mo_delivers_68 {X : zMa} {mc ms : Nat} {Rt : Option zAV → zMp → Prop} (hC : zCx X RX7 cX7_delivers 6 145 mc ms (none) false Rt) (hN : zNL X = 6) : zLe (B_Mo_delivers_68 mc ms Rt (zG X)) (zG X 68) :=
  (sd_al_n hC rfl dX7_delivers_68 ((sd_dup hC dX7_delivers_69 ((sd_gf hC (ci := 8) (fk := 26) rfl wi_Mo (by decide) fl_Mo_206 (Or.inl rfl) dX7_delivers_70 ((sd_iconst hC (by decide) dX7_delivers_73 ((sd_iadd hC dX7_delivers_74 ((sd_pf hC (ci := 8) (fk := 26) rfl wi_Mo tyX7 tyX7_ok nmX7 (by decide) fl_Mo_206 (Or.inl rfl) (Or.inl rfl) dX7_delivers_75 (s_Mo_delivers_78 hC hN))))))))))))
def B_Mo_delivers_32 (mc ms : Nat) (Rt : Option zAV → zMp → Prop) (g : Nat → zKT) : zKT :=
  (i_il 5 (i_ic 5 (i_icge (B_Mo_delivers_68 mc ms Rt g) (i_al 0 (i_gf 8 17 (i_il 3 (i_il 2 (i_call mc ms 2 T_Mo_rowOf co_Mo_rowOf (i_il 5 (i_iadd (i_al 0 (i_gf 8 23 (i_ic 5 (i_il 1 (i_imul (i_il 5 (i_iadd (i_lal (i_las (i_inc 5 1 (g 32)))))))))))))))))))))
set_option maxRecDepth 20000 in
theorem s_Mo_delivers_32 {X : zMa} {mc ms : Nat} {Rt : Option zAV → zMp → Prop} (hC : zCx X RX7 cX7_delivers 6 145 mc ms (none) false Rt) (hN : zNL X = 6) : zLe (B_Mo_delivers_32 mc ms Rt (zG X)) (zG X 32) :=
  (sd_il hC dX7_delivers_32 ((sd_iconst hC (by decide) dX7_delivers_34 ((sd_icge hC (tgt := 68) (by decide) dX7_delivers_35 (s_Mo_delivers_68 hC hN) ((sd_al_n hC rfl dX7_delivers_38 ((sd_gf hC (ci := 8) (fk := 17) rfl wi_Mo (by decide) fl_Mo_50 (Or.inl rfl) dX7_delivers_39 ((sd_il_n hC rfl dX7_delivers_42 ((sd_il_n hC rfl dX7_delivers_43 ((sd_cS hC c_Mo_rowOf ys_Mo_rowOf ml_Mo_122 (by decide) (by decide) dX7_delivers_44 ((sd_il hC dX7_delivers_47 ((sd_iadd hC dX7_delivers_49 ((sd_al_n hC rfl dX7_delivers_50 ((sd_gf hC (ci := 8) (fk := 23) rfl wi_Mo (by decide) fl_Mo_66 (Or.inl rfl) dX7_delivers_51 ((sd_iconst hC (by decide) dX7_delivers_54 ((sd_il_n hC rfl dX7_delivers_55 ((sd_imul hC dX7_delivers_56 ((sd_il hC dX7_delivers_57 ((sd_iadd hC dX7_delivers_59 ((sd_lal hC dX7_delivers_60 ((sd_las hC dX7_delivers_61 ((sd_inc hC (by decide) (by rw [hN]; decide) dX7_delivers_62 ((sd_goto hC (tgt := 32) (by decide) dX7_delivers_65 (zLe_rfl))))))))))))))))))))))))))))))))))))))))))
def B_Mo_delivers_0 (mc ms : Nat) (Rt : Option zAV → zMp → Prop) (g : Nat → zKT) : zKT :=
  (i_al 0 (i_gf 8 20 (i_il 1 (i_ial (i_is 2 (i_al 0 (i_gf 8 21 (i_il 1 (i_ial (i_is 3 (i_al 0 (i_gf 8 22 (i_il 1 (i_ial (i_is 4 (i_il 4 (i_ic (-2) (i_icne (B_Mo_delivers_78 mc ms Rt g) (i_ic 0 (i_is 5 (g 32)))))))))))))))))))))
set_option maxRecDepth 20000 in
theorem s_Mo_delivers_0 {X : zMa} {mc ms : Nat} {Rt : Option zAV → zMp → Prop} (hC : zCx X RX7 cX7_delivers 6 145 mc ms (none) false Rt) (hN : zNL X = 6) : zLe (B_Mo_delivers_0 mc ms Rt (zG X)) (zG X 0) :=
  (sd_al_n hC rfl dX7_delivers_0 ((sd_gf hC (ci := 8) (fk := 20) rfl wi_Mo (by decide) fl_Mo_57 (Or.inl rfl) dX7_delivers_1 ((sd_il_n hC rfl dX7_delivers_4 ((sd_ial hC dX7_delivers_5 ((sd_is_n hC rfl (by rw [hN]; decide) dX7_delivers_6 ((sd_al_n hC rfl dX7_delivers_7 ((sd_gf hC (ci := 8) (fk := 21) rfl wi_Mo (by decide) fl_Mo_60 (Or.inl rfl) dX7_delivers_8 ((sd_il_n hC rfl dX7_delivers_11 ((sd_ial hC dX7_delivers_12 ((sd_is_n hC rfl (by rw [hN]; decide) dX7_delivers_13 ((sd_al_n hC rfl dX7_delivers_14 ((sd_gf hC (ci := 8) (fk := 22) rfl wi_Mo (by decide) fl_Mo_63 (Or.inl rfl) dX7_delivers_15 ((sd_il_n hC rfl dX7_delivers_18 ((sd_ial hC dX7_delivers_19 ((sd_is hC (by rw [hN]; decide) dX7_delivers_20 ((sd_il hC dX7_delivers_22 ((sd_bipush hC (by decide) dX7_delivers_24 ((sd_icne hC (tgt := 78) (by decide) dX7_delivers_26 (s_Mo_delivers_78 hC hN) ((sd_iconst hC (by decide) dX7_delivers_29 ((sd_is hC (by rw [hN]; decide) dX7_delivers_30 (zLe_rfl))))))))))))))))))))))))))))))))))))))))
theorem c_Mo_delivers (l : Launch) : zCT2 l yX7_delivers cX7_delivers 6 (none) 6 145 T_Mo_delivers := by
  intro As M Rt c1 c2 hT
  obtain ⟨y, m, rfl, rfl, hJ, hm, htd, ⟨hok1, hok2⟩, hc1, hc2, hR⟩ := hT
  have hcp := hJ.cp
  have hdk := hJ.dk
  have hlim := hJ.lim
  obtain ⟨hu, hv, hs⟩ := hJ.ms m hm
  refine zMet_of false (by decide +kernel) (fun h => by first | rfl | cases h) (Nat.le_of_ble_eq_true rfl) (fun X hN hC => ?_)
  show zG X 0 [some (.inr (30, 0, 0)), some (.inl (.int (nI m))), none, none, none, none] [] (mp y) 0 0
  have vi : vp_in (nI m) (y_cp y) := vp_in_nI (by omega) (by omega)
  have hR' : Rt none (mp (tl (dv_0 y m))) := hR
  have hc1' : y_cp (tl (dv_0 y m)) - y_cp y ≤ c1 := hc1
  have hc2' : 16 * (y_cp (tl (dv_0 y m)) - y_cp y) ≤ c2 := hc2
  have hmo := (tl_fu (dv_0 y m) (y_dk (dv_0 y m))).2.1
  have hmo' : y_cp (dv_0 y m) ≤ y_cp (tl (dv_0 y m)) := hmo
  refine s_Mo_delivers_0 hC hN _ _ _ _ _ ?_
  simp only [B_Mo_delivers_0, B_Mo_delivers_32, B_Mo_delivers_68, B_Mo_delivers_98, co_Mo_drop, co_Mo_rowOf, i_ic, i_lc, i_nul, i_il, i_ll, i_al, i_is, i_as, i_ls, i_inc, i_iadd, i_isub, i_imul, i_iand, i_ior, i_ixor, i_idiv, i_irem, i_ishl, i_ishr, i_ladd, i_lsub, i_land, i_lor, i_i2l, i_lushr, i_lshl, i_lshr, i_lcmp, i_dup, i_pop, i_dx1, i_dup2, i_ifeq, i_ifne, i_iflt, i_ifge, i_ifgt, i_ifle, i_iceq, i_icne, i_iclt, i_icge, i_icgt, i_icle, i_ifn, i_gf, i_pf, i_ial, i_bal, i_lal, i_aal, i_ias, i_las, i_bas, i_aas, i_alen, i_newa, i_new, i_anew, i_cast, i_oi, i_call, i_callV, i_callV2, i_callI, i_iret, i_zret, i_lret, i_vret, i_aret, i_mmx, i_mmn, i_gsE, i_aceq, i_no, i_acq, i_sw, zsw, zlg, zls, znl, zfg, zcs, zsp, zrc, zisn, zft, zc1, zto, Value.category, List.set_cons_zero, List.set_cons_succ, List.length_cons, List.length_nil, Option.toList, List.append, List.nil_append, List.cons_append, true_and, and_true, Nat.add_zero, Nat.zero_le, Nat.zero_add, Nat.le_refl, Nat.reduceAdd, Nat.reduceLeDiff, co0, z0, zn_0, zn_1, zn_2, zn_3, zn_4, zn_5, zn_8, zn_12, zn_24, zn_121, zn_144, zn_256, zn_300, zn_600, zn_720, zn_1204, zn_1280, zn_2400, zn_4816, zn_14400, zn_90000, q_main, m_main, q_fr, q_tt, q_wh]
  rw [nI_clamp (by omega)]
  refine ⟨vi, vi, vi, fun hne => ?_, fun he => ?_⟩
  · obtain ⟨k, hk, ek⟩ := hs.resolve_left hne
    have e0 : dv_0 y m = dv_3 (dr y m) k (y_tt y m) (y_fr y m) := by
      unfold dv_0; rw [if_neg hne, ek, nI_clamp (by omega)]
    rw [e0] at hR' hc1' hc2' hok2 hmo'
    simp only [B_Mo_delivers_0, B_Mo_delivers_32, B_Mo_delivers_68, B_Mo_delivers_78, B_Mo_delivers_98, co_Mo_drop, co_Mo_rowOf, i_ic, i_lc, i_nul, i_il, i_ll, i_al, i_is, i_as, i_ls, i_inc, i_iadd, i_isub, i_imul, i_iand, i_ior, i_ixor, i_idiv, i_irem, i_ishl, i_ishr, i_ladd, i_lsub, i_land, i_lor, i_i2l, i_lushr, i_lshl, i_lshr, i_lcmp, i_dup, i_pop, i_dx1, i_dup2, i_ifeq, i_ifne, i_iflt, i_ifge, i_ifgt, i_ifle, i_iceq, i_icne, i_iclt, i_icge, i_icgt, i_icle, i_ifn, i_gf, i_pf, i_ial, i_bal, i_lal, i_aal, i_ias, i_las, i_bas, i_aas, i_alen, i_newa, i_new, i_anew, i_cast, i_oi, i_call, i_callV, i_callV2, i_callI, i_iret, i_zret, i_lret, i_vret, i_aret, i_mmx, i_mmn, i_gsE, i_aceq, i_no, i_acq, i_sw, zsw, zlg, zls, znl, zfg, zcs, zsp, zrc, zisn, zft, zc1, zto, Value.category, List.set_cons_zero, List.set_cons_succ, List.length_cons, List.length_nil, Option.toList, List.append, List.nil_append, List.cons_append, true_and, and_true, Nat.add_zero, Nat.zero_le, Nat.zero_add, Nat.le_refl, Nat.reduceAdd, Nat.reduceLeDiff, co0, z0, zn_0, zn_1, zn_2, zn_3, zn_4, zn_5, zn_8, zn_12, zn_24, zn_121, zn_144, zn_256, zn_300, zn_600, zn_720, zn_1204, zn_1280, zn_2400, zn_4816, zn_14400, zn_90000, q_main, m_main]
    refine ⟨y, m, rfl, rfl, hm, hJ, ?_⟩
    simp only [B_Mo_delivers_0, B_Mo_delivers_32, B_Mo_delivers_68, B_Mo_delivers_78, B_Mo_delivers_98, co_Mo_drop, co_Mo_rowOf, i_ic, i_lc, i_nul, i_il, i_ll, i_al, i_is, i_as, i_ls, i_inc, i_iadd, i_isub, i_imul, i_iand, i_ior, i_ixor, i_idiv, i_irem, i_ishl, i_ishr, i_ladd, i_lsub, i_land, i_lor, i_i2l, i_lushr, i_lshl, i_lshr, i_lcmp, i_dup, i_pop, i_dx1, i_dup2, i_ifeq, i_ifne, i_iflt, i_ifge, i_ifgt, i_ifle, i_iceq, i_icne, i_iclt, i_icge, i_icgt, i_icle, i_ifn, i_gf, i_pf, i_ial, i_bal, i_lal, i_aal, i_ias, i_las, i_bas, i_aas, i_alen, i_newa, i_new, i_anew, i_cast, i_oi, i_call, i_callV, i_callV2, i_callI, i_iret, i_zret, i_lret, i_vret, i_aret, i_mmx, i_mmn, i_gsE, i_aceq, i_no, i_acq, i_sw, zsw, zlg, zls, znl, zfg, zcs, zsp, zrc, zisn, zft, zc1, zto, Value.category, List.set_cons_zero, List.set_cons_succ, List.length_cons, List.length_nil, Option.toList, List.append, List.nil_append, List.cons_append, true_and, and_true, Nat.add_zero, Nat.zero_le, Nat.zero_add, Nat.le_refl, Nat.reduceAdd, Nat.reduceLeDiff, co0, z0, zn_0, zn_1, zn_2, zn_3, zn_4, zn_5, zn_8, zn_12, zn_24, zn_121, zn_144, zn_256, zn_300, zn_600, zn_720, zn_1204, zn_1280, zn_2400, zn_4816, zn_14400, zn_90000, q_main, m_main]
    refine ⟨fun q => absurd q hne, fun _ => ?_⟩
    rw [ek]
    have hok1' := hok1 k ek (by omega)
    have hJd : Jv (dr y m) := Jv_dr hJ
    have hcd : y_cp (dr y m) = y_cp y := rfl
    have hnd : y_nn (dr y m) = y_nn y := rfl
    have hdd : y_dk (dr y m) = y_dk y := rfl
    generalize dr y m = z at hR' hc1' hc2' hok2 hok1' hmo' hJd hcd hnd hdd
    unfold dv_3 at hR' hc1' hc2' hok2 hmo'
    cases hb : inm (y_wt z k) (nI (y_tt y m)) with
    | true =>
      rw [if_pos hb] at hR' hc1' hc2' hok2 hmo'
      refine ⟨0, 0, Nat.zero_le _, Nat.zero_le _, z, k, y_tt y m, nI (y_fr y m), rfl, rfl, hJd, by omega, by omega, fun _ => ?_, fun q => absurd (q.symm.trans hb) (by decide)⟩
      simp only [B_Mo_delivers_0, B_Mo_delivers_32, B_Mo_delivers_68, B_Mo_delivers_78, B_Mo_delivers_98, co_Mo_drop, co_Mo_rowOf, i_ic, i_lc, i_nul, i_il, i_ll, i_al, i_is, i_as, i_ls, i_inc, i_iadd, i_isub, i_imul, i_iand, i_ior, i_ixor, i_idiv, i_irem, i_ishl, i_ishr, i_ladd, i_lsub, i_land, i_lor, i_i2l, i_lushr, i_lshl, i_lshr, i_lcmp, i_dup, i_pop, i_dx1, i_dup2, i_ifeq, i_ifne, i_iflt, i_ifge, i_ifgt, i_ifle, i_iceq, i_icne, i_iclt, i_icge, i_icgt, i_icle, i_ifn, i_gf, i_pf, i_ial, i_bal, i_lal, i_aal, i_ias, i_las, i_bas, i_aas, i_alen, i_newa, i_new, i_anew, i_cast, i_oi, i_call, i_callV, i_callV2, i_callI, i_iret, i_zret, i_lret, i_vret, i_aret, i_mmx, i_mmn, i_gsE, i_aceq, i_no, i_acq, i_sw, zsw, zlg, zls, znl, zfg, zcs, zsp, zrc, zisn, zft, zc1, zto, Value.category, List.set_cons_zero, List.set_cons_succ, List.length_cons, List.length_nil, Option.toList, List.append, List.nil_append, List.cons_append, true_and, and_true, Nat.add_zero, Nat.zero_le, Nat.zero_add, Nat.le_refl, Nat.reduceAdd, Nat.reduceLeDiff, co0, z0, zn_0, zn_1, zn_2, zn_3, zn_4, zn_5, zn_8, zn_12, zn_24, zn_121, zn_144, zn_256, zn_300, zn_600, zn_720, zn_1204, zn_1280, zn_2400, zn_4816, zn_14400, zn_90000, q_main, m_main]
      exact ⟨c1, c2, Nat.le_refl _, Nat.le_refl _, z, rfl, rfl, hJd, hok2, by omega, by omega, Nat.le_refl _, Nat.le_refl _, hR'⟩
    | false =>
      rw [if_neg (by rw [hb]; decide)] at hR' hc1' hc2' hok2 hmo'
      have hcm := cm_cp z k (y_tt y m) (nI (y_fr y m))
      have hJc : Jv (cm z k (y_tt y m) (nI (y_fr y m))) := Jv_cm hJd (by omega) hv (hok1' hb)
      refine ⟨y_cp (cm z k (y_tt y m) (nI (y_fr y m))) - y_cp z, 16 * (y_cp (cm z k (y_tt y m) (nI (y_fr y m))) - y_cp z), by omega, by omega, z, k, y_tt y m, nI (y_fr y m), rfl, rfl, hJd, by omega, by omega, fun q => absurd (q.symm.trans hb) (by decide), fun _ => ⟨hok1' hb, Nat.le_refl _, Nat.le_refl _, ?_⟩⟩
      generalize cm z k (y_tt y m) (nI (y_fr y m)) = x at hR' hc1' hc2' hok2 hmo' hcm hJc
      simp only [B_Mo_delivers_0, B_Mo_delivers_32, B_Mo_delivers_68, B_Mo_delivers_78, B_Mo_delivers_98, co_Mo_drop, co_Mo_rowOf, i_ic, i_lc, i_nul, i_il, i_ll, i_al, i_is, i_as, i_ls, i_inc, i_iadd, i_isub, i_imul, i_iand, i_ior, i_ixor, i_idiv, i_irem, i_ishl, i_ishr, i_ladd, i_lsub, i_land, i_lor, i_i2l, i_lushr, i_lshl, i_lshr, i_lcmp, i_dup, i_pop, i_dx1, i_dup2, i_ifeq, i_ifne, i_iflt, i_ifge, i_ifgt, i_ifle, i_iceq, i_icne, i_iclt, i_icge, i_icgt, i_icle, i_ifn, i_gf, i_pf, i_ial, i_bal, i_lal, i_aal, i_ias, i_las, i_bas, i_aas, i_alen, i_newa, i_new, i_anew, i_cast, i_oi, i_call, i_callV, i_callV2, i_callI, i_iret, i_zret, i_lret, i_vret, i_aret, i_mmx, i_mmn, i_gsE, i_aceq, i_no, i_acq, i_sw, zsw, zlg, zls, znl, zfg, zcs, zsp, zrc, zisn, zft, zc1, zto, Value.category, List.set_cons_zero, List.set_cons_succ, List.length_cons, List.length_nil, Option.toList, List.append, List.nil_append, List.cons_append, true_and, and_true, Nat.add_zero, Nat.zero_le, Nat.zero_add, Nat.le_refl, Nat.reduceAdd, Nat.reduceLeDiff, co0, z0, zn_0, zn_1, zn_2, zn_3, zn_4, zn_5, zn_8, zn_12, zn_24, zn_121, zn_144, zn_256, zn_300, zn_600, zn_720, zn_1204, zn_1280, zn_2400, zn_4816, zn_14400, zn_90000, q_main, m_main]
      exact ⟨y_cp (tl x) - y_cp x, 16 * (y_cp (tl x) - y_cp x), by omega, by omega, x, rfl, rfl, hJc, hok2, Nat.le_refl _, Nat.le_refl _, by omega, by omega, hR'⟩
  · have e0 : dv_0 y m = dr (dv_1 y m) m := by unfold dv_0; rw [if_pos he]
    rw [e0] at hR' hc1' hc2' hok2 hmo'
    have lp := five (P := fun i => zG X 32 [some (.inr (30, 0, 0)), some (.inl (.int (nI m))), some (.inl (.int (nI (y_fr y m)))), some (.inl (.int (nI (y_tt y m)))), some (.inl (.int (-2))), some (.inl (.int (nI i)))] [] (mp (v_tb y (rwp (y_tb y) (5 * (12 * y_tt y m + y_fr y m)) (fun j => y_rw y (5 * m + j)) i))) 0 0) (fun i hi ih => by
      refine s_Mo_delivers_32 hC hN _ _ _ _ _ ?_
      simp only [B_Mo_delivers_0, B_Mo_delivers_32, B_Mo_delivers_68, B_Mo_delivers_78, B_Mo_delivers_98, co_Mo_drop, co_Mo_rowOf, i_ic, i_lc, i_nul, i_il, i_ll, i_al, i_is, i_as, i_ls, i_inc, i_iadd, i_isub, i_imul, i_iand, i_ior, i_ixor, i_idiv, i_irem, i_ishl, i_ishr, i_ladd, i_lsub, i_land, i_lor, i_i2l, i_lushr, i_lshl, i_lshr, i_lcmp, i_dup, i_pop, i_dx1, i_dup2, i_ifeq, i_ifne, i_iflt, i_ifge, i_ifgt, i_ifle, i_iceq, i_icne, i_iclt, i_icge, i_icgt, i_icle, i_ifn, i_gf, i_pf, i_ial, i_bal, i_lal, i_aal, i_ias, i_las, i_bas, i_aas, i_alen, i_newa, i_new, i_anew, i_cast, i_oi, i_call, i_callV, i_callV2, i_callI, i_iret, i_zret, i_lret, i_vret, i_aret, i_mmx, i_mmn, i_gsE, i_aceq, i_no, i_acq, i_sw, zsw, zlg, zls, znl, zfg, zcs, zsp, zrc, zisn, zft, zc1, zto, Value.category, List.set_cons_zero, List.set_cons_succ, List.length_cons, List.length_nil, Option.toList, List.append, List.nil_append, List.cons_append, true_and, and_true, Nat.add_zero, Nat.zero_le, Nat.zero_add, Nat.le_refl, Nat.reduceAdd, Nat.reduceLeDiff, co0, z0, zn_0, zn_1, zn_2, zn_3, zn_4, zn_5, zn_8, zn_12, zn_24, zn_121, zn_144, zn_256, zn_300, zn_600, zn_720, zn_1204, zn_1280, zn_2400, zn_4816, zn_14400, zn_90000, q_main, m_main, q_tb, q_rw, ar_4, ar_5, ar_12, ar_300, ar_600, ar_1200, ar_10, nI_add, ar_1, ar_2, ar_3, ar_2m]
      refine ⟨fun h => absurd ((zK (K := 5) (by decide) (n := i) (by omega)).2.1.mp h) (by omega), fun _ => ⟨y_tt y m, y_fr y m, rfl, ?_⟩⟩
      have f1 : y_tb (v_tb y (rwp (y_tb y) (5 * (12 * y_tt y m + y_fr y m)) (fun j => y_rw y (5 * m + j)) i)) = rwp (y_tb y) (5 * (12 * y_tt y m + y_fr y m)) (fun j => y_rw y (5 * m + j)) i := rfl
      have f2 : y_rw (v_tb y (rwp (y_tb y) (5 * (12 * y_tt y m + y_fr y m)) (fun j => y_rw y (5 * m + j)) i)) = y_rw y := rfl
      have f3 : y_cp (v_tb y (rwp (y_tb y) (5 * (12 * y_tt y m + y_fr y m)) (fun j => y_rw y (5 * m + j)) i)) = y_cp y := rfl
      have up := rwp_u (y_tb y) (5 * (12 * y_tt y m + y_fr y m)) (fun j => y_rw y (5 * m + j)) i
      simp only [B_Mo_delivers_0, B_Mo_delivers_32, B_Mo_delivers_68, B_Mo_delivers_78, B_Mo_delivers_98, co_Mo_drop, co_Mo_rowOf, i_ic, i_lc, i_nul, i_il, i_ll, i_al, i_is, i_as, i_ls, i_inc, i_iadd, i_isub, i_imul, i_iand, i_ior, i_ixor, i_idiv, i_irem, i_ishl, i_ishr, i_ladd, i_lsub, i_land, i_lor, i_i2l, i_lushr, i_lshl, i_lshr, i_lcmp, i_dup, i_pop, i_dx1, i_dup2, i_ifeq, i_ifne, i_iflt, i_ifge, i_ifgt, i_ifle, i_iceq, i_icne, i_iclt, i_icge, i_icgt, i_icle, i_ifn, i_gf, i_pf, i_ial, i_bal, i_lal, i_aal, i_ias, i_las, i_bas, i_aas, i_alen, i_newa, i_new, i_anew, i_cast, i_oi, i_call, i_callV, i_callV2, i_callI, i_iret, i_zret, i_lret, i_vret, i_aret, i_mmx, i_mmn, i_gsE, i_aceq, i_no, i_acq, i_sw, zsw, zlg, zls, znl, zfg, zcs, zsp, zrc, zisn, zft, zc1, zto, Value.category, List.set_cons_zero, List.set_cons_succ, List.length_cons, List.length_nil, Option.toList, List.append, List.nil_append, List.cons_append, true_and, and_true, Nat.add_zero, Nat.zero_le, Nat.zero_add, Nat.le_refl, Nat.reduceAdd, Nat.reduceLeDiff, co0, z0, zn_0, zn_1, zn_2, zn_3, zn_4, zn_5, zn_8, zn_12, zn_24, zn_121, zn_144, zn_256, zn_300, zn_600, zn_720, zn_1204, zn_1280, zn_2400, zn_4816, zn_14400, zn_90000, q_main, m_main, q_tb, q_rw, ar_4, ar_5, ar_12, ar_300, ar_600, ar_1200, ar_10, nI_add, ar_1, ar_2, ar_3, ar_2m]
      rw [nI_clamp (by omega), nI_clamp (by omega), f1, f2, up, mu_tb]
      exact ⟨vp_in_nI (by omega) (by omega), m_k (by decide), vp_in_nI (by omega) (by decide), ih⟩) (by
      refine s_Mo_delivers_32 hC hN _ _ _ _ _ ?_
      have hJ1 : Jv (dv_1 y m) := hJ
      have e2 := mu_td (v_tb y (rwp (y_tb y) (5 * (12 * y_tt y m + y_fr y m)) (fun j => y_rw y (5 * m + j)) 5)) (y_td y + 1)
      simp only [m_main, k_dk_td, k_nr_td, k_nw_td, k_nn_td, k_ms_td, k_cp_td, k_po_td, k_ne_td, k_td_td, k_lk_td, k_do_td, k_ro_td, k_al_td, k_kd_td, k_mn_td, k_nu_td, k_fi_td, k_sa_td, k_wt_td, k_hh_td, k_he_td, k_hm_td, k_tb_td, k_to_td, k_fr_td, k_tt_td, k_wh_td, k_rw_td, k_lo_td, k_hi_td, k_cv_td, k_so_td, k_me_td, k_re_td, k_gb_td] at e2
      simp only [B_Mo_delivers_0, B_Mo_delivers_32, B_Mo_delivers_68, B_Mo_delivers_78, B_Mo_delivers_98, co_Mo_drop, co_Mo_rowOf, i_ic, i_lc, i_nul, i_il, i_ll, i_al, i_is, i_as, i_ls, i_inc, i_iadd, i_isub, i_imul, i_iand, i_ior, i_ixor, i_idiv, i_irem, i_ishl, i_ishr, i_ladd, i_lsub, i_land, i_lor, i_i2l, i_lushr, i_lshl, i_lshr, i_lcmp, i_dup, i_pop, i_dx1, i_dup2, i_ifeq, i_ifne, i_iflt, i_ifge, i_ifgt, i_ifle, i_iceq, i_icne, i_iclt, i_icge, i_icgt, i_icle, i_ifn, i_gf, i_pf, i_ial, i_bal, i_lal, i_aal, i_ias, i_las, i_bas, i_aas, i_alen, i_newa, i_new, i_anew, i_cast, i_oi, i_call, i_callV, i_callV2, i_callI, i_iret, i_zret, i_lret, i_vret, i_aret, i_mmx, i_mmn, i_gsE, i_aceq, i_no, i_acq, i_sw, zsw, zlg, zls, znl, zfg, zcs, zsp, zrc, zisn, zft, zc1, zto, Value.category, List.set_cons_zero, List.set_cons_succ, List.length_cons, List.length_nil, Option.toList, List.append, List.nil_append, List.cons_append, true_and, and_true, Nat.add_zero, Nat.zero_le, Nat.zero_add, Nat.le_refl, Nat.reduceAdd, Nat.reduceLeDiff, co0, z0, zn_0, zn_1, zn_2, zn_3, zn_4, zn_5, zn_8, zn_12, zn_24, zn_121, zn_144, zn_256, zn_300, zn_600, zn_720, zn_1204, zn_1280, zn_2400, zn_4816, zn_14400, zn_90000, q_main, m_main, ar_4, ar_5, ar_12, ar_300, ar_600, ar_1200, ar_10, nI_add, ar_1, ar_2, ar_3, ar_2m]
      rw [show y_td (v_tb y (rwp (y_tb y) (5 * (12 * y_tt y m + y_fr y m)) (fun j => y_rw y (5 * m + j)) 5)) = y_td y from rfl, e2]
      refine ⟨fun _ => ⟨m_k (by decide), by decide, ?_⟩, fun h => absurd (by decide) h⟩
      simp only [B_Mo_delivers_0, B_Mo_delivers_32, B_Mo_delivers_68, B_Mo_delivers_78, B_Mo_delivers_98, co_Mo_drop, co_Mo_rowOf, i_ic, i_lc, i_nul, i_il, i_ll, i_al, i_is, i_as, i_ls, i_inc, i_iadd, i_isub, i_imul, i_iand, i_ior, i_ixor, i_idiv, i_irem, i_ishl, i_ishr, i_ladd, i_lsub, i_land, i_lor, i_i2l, i_lushr, i_lshl, i_lshr, i_lcmp, i_dup, i_pop, i_dx1, i_dup2, i_ifeq, i_ifne, i_iflt, i_ifge, i_ifgt, i_ifle, i_iceq, i_icne, i_iclt, i_icge, i_icgt, i_icle, i_ifn, i_gf, i_pf, i_ial, i_bal, i_lal, i_aal, i_ias, i_las, i_bas, i_aas, i_alen, i_newa, i_new, i_anew, i_cast, i_oi, i_call, i_callV, i_callV2, i_callI, i_iret, i_zret, i_lret, i_vret, i_aret, i_mmx, i_mmn, i_gsE, i_aceq, i_no, i_acq, i_sw, zsw, zlg, zls, znl, zfg, zcs, zsp, zrc, zisn, zft, zc1, zto, Value.category, List.set_cons_zero, List.set_cons_succ, List.length_cons, List.length_nil, Option.toList, List.append, List.nil_append, List.cons_append, true_and, and_true, Nat.add_zero, Nat.zero_le, Nat.zero_add, Nat.le_refl, Nat.reduceAdd, Nat.reduceLeDiff, co0, z0, zn_0, zn_1, zn_2, zn_3, zn_4, zn_5, zn_8, zn_12, zn_24, zn_121, zn_144, zn_256, zn_300, zn_600, zn_720, zn_1204, zn_1280, zn_2400, zn_4816, zn_14400, zn_90000, q_main, m_main]
      refine ⟨dv_1 y m, m, rfl, rfl, hm, hJ1, ?_⟩
      have hJd : Jv (dr (dv_1 y m) m) := Jv_dr hJ1
      have hcd : y_cp (dr (dv_1 y m) m) = y_cp y := rfl
      simp only [B_Mo_delivers_0, B_Mo_delivers_32, B_Mo_delivers_68, B_Mo_delivers_78, B_Mo_delivers_98, co_Mo_drop, co_Mo_rowOf, i_ic, i_lc, i_nul, i_il, i_ll, i_al, i_is, i_as, i_ls, i_inc, i_iadd, i_isub, i_imul, i_iand, i_ior, i_ixor, i_idiv, i_irem, i_ishl, i_ishr, i_ladd, i_lsub, i_land, i_lor, i_i2l, i_lushr, i_lshl, i_lshr, i_lcmp, i_dup, i_pop, i_dx1, i_dup2, i_ifeq, i_ifne, i_iflt, i_ifge, i_ifgt, i_ifle, i_iceq, i_icne, i_iclt, i_icge, i_icgt, i_icle, i_ifn, i_gf, i_pf, i_ial, i_bal, i_lal, i_aal, i_ias, i_las, i_bas, i_aas, i_alen, i_newa, i_new, i_anew, i_cast, i_oi, i_call, i_callV, i_callV2, i_callI, i_iret, i_zret, i_lret, i_vret, i_aret, i_mmx, i_mmn, i_gsE, i_aceq, i_no, i_acq, i_sw, zsw, zlg, zls, znl, zfg, zcs, zsp, zrc, zisn, zft, zc1, zto, Value.category, List.set_cons_zero, List.set_cons_succ, List.length_cons, List.length_nil, Option.toList, List.append, List.nil_append, List.cons_append, true_and, and_true, Nat.add_zero, Nat.zero_le, Nat.zero_add, Nat.le_refl, Nat.reduceAdd, Nat.reduceLeDiff, co0, z0, zn_0, zn_1, zn_2, zn_3, zn_4, zn_5, zn_8, zn_12, zn_24, zn_121, zn_144, zn_256, zn_300, zn_600, zn_720, zn_1204, zn_1280, zn_2400, zn_4816, zn_14400, zn_90000, q_main, m_main]
      exact ⟨fun _ => ⟨c1, c2, Nat.le_refl _, Nat.le_refl _, dr (dv_1 y m) m, rfl, rfl, hJd, hok2, by omega, by omega, Nat.le_refl _, Nat.le_refl _, hR'⟩, fun q => absurd trivial q⟩)
    rw [rwp_0] at lp
    rw [he]
    exact lp
/-! deliver -/
noncomputable def dlY (y : zMS) (u v : Nat) : Nat → zMS
  | 0 => y
  | n + 1 => match fsO (dlY y u v n) u v (y_ms (dlY y u v n)) with
    | some m => dv (dlY y u v n) m
    | none => dlY y u v n
theorem dlY_cp (y : zMS) (u v : Nat) : ∀ n, y_cp (dlY y u v n) ≤ y_cp (dlY y u v (n + 1)) := fun n => by
  simp only [dlY]
  split
  · exact dv_cp _ _
  · exact Nat.le_refl _
def dY_N (y : zMS) (u v : Nat) (n : Int32) (N : Nat) : Prop := N ≤ 1000000 ∧ (∀ i, i ≤ N → Jv (dlY y u v i)) ∧ (∀ i, i < N → nI i < n ∧ ∃ m, fsO (dlY y u v i) u v (y_ms (dlY y u v i)) = some m ∧ y_tt (dlY y u v i) m < y_dk (dlY y u v i) ∧ dv_ok (dlY y u v i) m) ∧ (¬ nI N < n ∨ fsO (dlY y u v N) u v (y_ms (dlY y u v N)) = none)
theorem fsO_lt {y : zMS} {u v : Nat} : ∀ {n m : Nat}, fsO y u v n = some m → m < n
  | 0, m, h => by cases h
  | n + 1, m, h => by
    simp only [fsO] at h
    split at h
    · rename_i m' e
      cases h
      have := fsO_lt e
      omega
    · split at h
      · cases h; omega
      · cases h
def T_Mo_deliver (As : List zAV) (M : zMp) (Rt : Option zAV → zMp → Prop) (c1 c2 : Nat) : Prop := ∃ y u v n, As = [.inr (30, 0, 0), .inl (.int u), .inl (.int v), .inl (.int n)] ∧ M = mp y ∧ Jv y ∧ (¬ (isn (y_dk y) u = true ∧ isn (y_dk y) v = true ∧ ¬ n < 0) → Rt (some (.inl (.int (-2)))) M) ∧ (∀ a b, a < y_dk y → b < y_dk y → u = nI a → v = nI b → ¬ n < 0 → y_lk y (12 * a + b) = false → Rt (some (.inl (.int (-5)))) M) ∧ (∀ a b, a < y_dk y → b < y_dk y → u = nI a → v = nI b → ¬ n < 0 → y_lk y (12 * a + b) = true → ∃ N, dY_N y a b n N ∧ y_cp (dlY y a b N) - y_cp y ≤ c1 ∧ 16 * (y_cp (dlY y a b N) - y_cp y) ≤ c2 ∧ Rt (some (.inl (.int (nI N)))) (mp (dlY y a b N)))
theorem dX7_deliver_0 : decode cX7_deliver 0 = .ok (.aload_n 0, 1) := by decide +kernel
theorem dX7_deliver_1 : decode cX7_deliver 1 = .ok (.iload_n 1, 1) := by decide +kernel
theorem dX7_deliver_2 : decode cX7_deliver 2 = .ok (.invokevirtual 143, 3) := by decide +kernel
theorem dX7_deliver_5 : decode cX7_deliver 5 = .ok (.ifCond .eq 15, 3) := by decide +kernel
theorem dX7_deliver_8 : decode cX7_deliver 8 = .ok (.aload_n 0, 1) := by decide +kernel
theorem dX7_deliver_9 : decode cX7_deliver 9 = .ok (.iload_n 2, 1) := by decide +kernel
theorem dX7_deliver_10 : decode cX7_deliver 10 = .ok (.invokevirtual 143, 3) := by decide +kernel
theorem dX7_deliver_13 : decode cX7_deliver 13 = .ok (.ifCond .eq 7, 3) := by decide +kernel
theorem dX7_deliver_16 : decode cX7_deliver 16 = .ok (.iload_n 3, 1) := by decide +kernel
theorem dX7_deliver_17 : decode cX7_deliver 17 = .ok (.ifCond .ge 6, 3) := by decide +kernel
theorem dX7_deliver_20 : decode cX7_deliver 20 = .ok (.bipush (-2), 2) := by decide +kernel
theorem dX7_deliver_22 : decode cX7_deliver 22 = .ok (.ireturn, 1) := by decide +kernel
theorem dX7_deliver_23 : decode cX7_deliver 23 = .ok (.aload_n 0, 1) := by decide +kernel
theorem dX7_deliver_24 : decode cX7_deliver 24 = .ok (.iload_n 1, 1) := by decide +kernel
theorem dX7_deliver_25 : decode cX7_deliver 25 = .ok (.iload_n 2, 1) := by decide +kernel
theorem dX7_deliver_26 : decode cX7_deliver 26 = .ok (.invokevirtual 119, 3) := by decide +kernel
theorem dX7_deliver_29 : decode cX7_deliver 29 = .ok (.ifCond .ne 6, 3) := by decide +kernel
theorem dX7_deliver_32 : decode cX7_deliver 32 = .ok (.bipush (-5), 2) := by decide +kernel
theorem dX7_deliver_34 : decode cX7_deliver 34 = .ok (.ireturn, 1) := by decide +kernel
theorem dX7_deliver_35 : decode cX7_deliver 35 = .ok (.iconst 0, 1) := by decide +kernel
theorem dX7_deliver_36 : decode cX7_deliver 36 = .ok (.istore 4, 2) := by decide +kernel
theorem dX7_deliver_38 : decode cX7_deliver 38 = .ok (.aload_n 0, 1) := by decide +kernel
theorem dX7_deliver_39 : decode cX7_deliver 39 = .ok (.iload_n 1, 1) := by decide +kernel
theorem dX7_deliver_40 : decode cX7_deliver 40 = .ok (.iload_n 2, 1) := by decide +kernel
theorem dX7_deliver_41 : decode cX7_deliver 41 = .ok (.invokevirtual 209, 3) := by decide +kernel
theorem dX7_deliver_44 : decode cX7_deliver 44 = .ok (.istore 5, 2) := by decide +kernel
theorem dX7_deliver_46 : decode cX7_deliver 46 = .ok (.iload 4, 2) := by decide +kernel
theorem dX7_deliver_48 : decode cX7_deliver 48 = .ok (.iload_n 3, 1) := by decide +kernel
theorem dX7_deliver_49 : decode cX7_deliver 49 = .ok (.if_icmp .ge 29, 3) := by decide +kernel
theorem dX7_deliver_52 : decode cX7_deliver 52 = .ok (.iload 5, 2) := by decide +kernel
theorem dX7_deliver_54 : decode cX7_deliver 54 = .ok (.iconst (-1), 1) := by decide +kernel
theorem dX7_deliver_55 : decode cX7_deliver 55 = .ok (.if_icmp .eq 23, 3) := by decide +kernel
theorem dX7_deliver_58 : decode cX7_deliver 58 = .ok (.aload_n 0, 1) := by decide +kernel
theorem dX7_deliver_59 : decode cX7_deliver 59 = .ok (.iload 5, 2) := by decide +kernel
theorem dX7_deliver_61 : decode cX7_deliver 61 = .ok (.invokevirtual 212, 3) := by decide +kernel
theorem dX7_deliver_64 : decode cX7_deliver 64 = .ok (.iinc 4 1, 3) := by decide +kernel
theorem dX7_deliver_67 : decode cX7_deliver 67 = .ok (.aload_n 0, 1) := by decide +kernel
theorem dX7_deliver_68 : decode cX7_deliver 68 = .ok (.iload_n 1, 1) := by decide +kernel
theorem dX7_deliver_69 : decode cX7_deliver 69 = .ok (.iload_n 2, 1) := by decide +kernel
theorem dX7_deliver_70 : decode cX7_deliver 70 = .ok (.invokevirtual 209, 3) := by decide +kernel
theorem dX7_deliver_73 : decode cX7_deliver 73 = .ok (.istore 5, 2) := by decide +kernel
theorem dX7_deliver_75 : decode cX7_deliver 75 = .ok (.goto (-29), 3) := by decide +kernel
theorem dX7_deliver_78 : decode cX7_deliver 78 = .ok (.iload 4, 2) := by decide +kernel
theorem dX7_deliver_80 : decode cX7_deliver 80 = .ok (.ireturn, 1) := by decide +kernel
def B_Mo_deliver_78 (mc ms : Nat) (Rt : Option zAV → zMp → Prop) (g : Nat → zKT) : zKT :=
  (i_il 4 (i_iret mc ms Rt))
set_option maxRecDepth 20000 in
theorem s_Mo_deliver_78 {X : zMa} {mc ms : Nat} {Rt : Option zAV → zMp → Prop} (hC : zCx X RX7 cX7_deliver 7 170 mc ms (some .int) false Rt) (hN : zNL X = 6) : zLe (B_Mo_deliver_78 mc ms Rt (zG X)) (zG X 78) :=
  (sd_il hC dX7_deliver_78 ((sd_iret hC dX7_deliver_80)))
def B_Mo_deliver_46 (mc ms : Nat) (Rt : Option zAV → zMp → Prop) (g : Nat → zKT) : zKT :=
  (i_il 4 (i_il 3 (i_icge (B_Mo_deliver_78 mc ms Rt g) (i_il 5 (i_ic (-1) (i_iceq (B_Mo_deliver_78 mc ms Rt g) (i_al 0 (i_il 5 (i_callV2 mc ms 8 2 T_Mo_delivers (i_inc 4 1 (i_al 0 (i_il 1 (i_il 2 (i_callV mc ms 8 3 T_Mo_firstOf co_Mo_firstOf (i_is 5 (g 46))))))))))))))))
set_option maxRecDepth 20000 in
theorem s_Mo_deliver_46 {X : zMa} {mc ms : Nat} {Rt : Option zAV → zMp → Prop} (hC : zCx X RX7 cX7_deliver 7 170 mc ms (some .int) false Rt) (hN : zNL X = 6) : zLe (B_Mo_deliver_46 mc ms Rt (zG X)) (zG X 46) :=
  (sd_il hC dX7_deliver_46 ((sd_il_n hC rfl dX7_deliver_48 ((sd_icge hC (tgt := 78) (by decide) dX7_deliver_49 (s_Mo_deliver_78 hC hN) ((sd_il hC dX7_deliver_52 ((sd_iconst hC (by decide) dX7_deliver_54 ((sd_iceq hC (tgt := 78) (by decide) dX7_deliver_55 (s_Mo_deliver_78 hC hN) ((sd_al_n hC rfl dX7_deliver_58 ((sd_il hC dX7_deliver_59 ((sd_cV2 hC c_Mo_delivers yv_Mo_delivers (ci := 8) rfl rfl ml_Mo_212 (by decide) (by decide) dX7_deliver_61 ((sd_inc hC (by decide) (by rw [hN]; decide) dX7_deliver_64 ((sd_al_n hC rfl dX7_deliver_67 ((sd_il_n hC rfl dX7_deliver_68 ((sd_il_n hC rfl dX7_deliver_69 ((sd_cV hC c_Mo_firstOf yv_Mo_firstOf (ci := 8) rfl rfl ml_Mo_209 (by decide) (by decide) dX7_deliver_70 ((sd_is hC (by rw [hN]; decide) dX7_deliver_73 ((sd_goto hC (tgt := 46) (by decide) dX7_deliver_75 (zLe_rfl))))))))))))))))))))))))))))))))
def B_Mo_deliver_35 (mc ms : Nat) (Rt : Option zAV → zMp → Prop) (g : Nat → zKT) : zKT :=
  (i_ic 0 (i_is 4 (i_al 0 (i_il 1 (i_il 2 (i_callV mc ms 8 3 T_Mo_firstOf co_Mo_firstOf (i_is 5 (g 46))))))))
set_option maxRecDepth 20000 in
theorem s_Mo_deliver_35 {X : zMa} {mc ms : Nat} {Rt : Option zAV → zMp → Prop} (hC : zCx X RX7 cX7_deliver 7 170 mc ms (some .int) false Rt) (hN : zNL X = 6) : zLe (B_Mo_deliver_35 mc ms Rt (zG X)) (zG X 35) :=
  (sd_iconst hC (by decide) dX7_deliver_35 ((sd_is hC (by rw [hN]; decide) dX7_deliver_36 ((sd_al_n hC rfl dX7_deliver_38 ((sd_il_n hC rfl dX7_deliver_39 ((sd_il_n hC rfl dX7_deliver_40 ((sd_cV hC c_Mo_firstOf yv_Mo_firstOf (ci := 8) rfl rfl ml_Mo_209 (by decide) (by decide) dX7_deliver_41 ((sd_is hC (by rw [hN]; decide) dX7_deliver_44 (zLe_rfl))))))))))))))
def B_Mo_deliver_23 (mc ms : Nat) (Rt : Option zAV → zMp → Prop) (g : Nat → zKT) : zKT :=
  (i_al 0 (i_il 1 (i_il 2 (i_callV mc ms 8 3 T_Mo_isLinked co_Mo_isLinked (i_ifne (B_Mo_deliver_35 mc ms Rt g) (i_ic (-5) (i_iret mc ms Rt)))))))
set_option maxRecDepth 20000 in
theorem s_Mo_deliver_23 {X : zMa} {mc ms : Nat} {Rt : Option zAV → zMp → Prop} (hC : zCx X RX7 cX7_deliver 7 170 mc ms (some .int) false Rt) (hN : zNL X = 6) : zLe (B_Mo_deliver_23 mc ms Rt (zG X)) (zG X 23) :=
  (sd_al_n hC rfl dX7_deliver_23 ((sd_il_n hC rfl dX7_deliver_24 ((sd_il_n hC rfl dX7_deliver_25 ((sd_cV hC c_Mo_isLinked yv_Mo_isLinked (ci := 8) rfl rfl ml_Mo_119 (by decide) (by decide) dX7_deliver_26 ((sd_ifne hC (tgt := 35) (by decide) dX7_deliver_29 (s_Mo_deliver_35 hC hN) ((sd_bipush hC (by decide) dX7_deliver_32 ((sd_iret hC dX7_deliver_34)))))))))))))
def B_Mo_deliver_20 (mc ms : Nat) (Rt : Option zAV → zMp → Prop) (g : Nat → zKT) : zKT :=
  (i_ic (-2) (i_iret mc ms Rt))
set_option maxRecDepth 20000 in
theorem s_Mo_deliver_20 {X : zMa} {mc ms : Nat} {Rt : Option zAV → zMp → Prop} (hC : zCx X RX7 cX7_deliver 7 170 mc ms (some .int) false Rt) (hN : zNL X = 6) : zLe (B_Mo_deliver_20 mc ms Rt (zG X)) (zG X 20) :=
  (sd_bipush hC (by decide) dX7_deliver_20 ((sd_iret hC dX7_deliver_22)))
def B_Mo_deliver_0 (mc ms : Nat) (Rt : Option zAV → zMp → Prop) (g : Nat → zKT) : zKT :=
  (i_al 0 (i_il 1 (i_callV mc ms 8 2 T_Mo_isDesk co_Mo_isDesk (i_ifeq (B_Mo_deliver_20 mc ms Rt g) (i_al 0 (i_il 2 (i_callV mc ms 8 2 T_Mo_isDesk co_Mo_isDesk (i_ifeq (B_Mo_deliver_20 mc ms Rt g) (i_il 3 (i_ifge (B_Mo_deliver_23 mc ms Rt g) (B_Mo_deliver_20 mc ms Rt g)))))))))))
set_option maxRecDepth 20000 in
theorem s_Mo_deliver_0 {X : zMa} {mc ms : Nat} {Rt : Option zAV → zMp → Prop} (hC : zCx X RX7 cX7_deliver 7 170 mc ms (some .int) false Rt) (hN : zNL X = 6) : zLe (B_Mo_deliver_0 mc ms Rt (zG X)) (zG X 0) :=
  (sd_al_n hC rfl dX7_deliver_0 ((sd_il_n hC rfl dX7_deliver_1 ((sd_cV hC c_Mo_isDesk yv_Mo_isDesk (ci := 8) rfl rfl ml_Mo_143 (by decide) (by decide) dX7_deliver_2 ((sd_ifeq hC (tgt := 20) (by decide) dX7_deliver_5 (s_Mo_deliver_20 hC hN) ((sd_al_n hC rfl dX7_deliver_8 ((sd_il_n hC rfl dX7_deliver_9 ((sd_cV hC c_Mo_isDesk yv_Mo_isDesk (ci := 8) rfl rfl ml_Mo_143 (by decide) (by decide) dX7_deliver_10 ((sd_ifeq hC (tgt := 20) (by decide) dX7_deliver_13 (s_Mo_deliver_20 hC hN) ((sd_il_n hC rfl dX7_deliver_16 ((sd_ifge hC (tgt := 23) (by decide) dX7_deliver_17 (s_Mo_deliver_23 hC hN) (s_Mo_deliver_20 hC hN))))))))))))))))))))
theorem c_Mo_deliver (l : Launch) : zCT2 l yX7_deliver cX7_deliver 6 (some .int) 7 170 T_Mo_deliver := by
  intro As M Rt c1 c2 hT
  obtain ⟨y, u, v, n, rfl, rfl, hJ, hR0, hR1, hR2⟩ := hT
  have hdk := hJ.dk
  refine zMet_of false (by decide +kernel) (fun h => by first | rfl | cases h) (Nat.le_of_ble_eq_true rfl) (fun X hN hC => ?_)
  show zG X 0 [some (.inr (30, 0, 0)), some (.inl (.int u)), some (.inl (.int v)), some (.inl (.int n)), none, none] [] (mp y) 0 0
  refine s_Mo_deliver_0 hC hN _ _ _ _ _ ?_
  simp only [B_Mo_deliver_0, B_Mo_deliver_20, B_Mo_deliver_23, B_Mo_deliver_35, B_Mo_deliver_46, B_Mo_deliver_78, co_Mo_firstOf, co_Mo_isDesk, co_Mo_isLinked, i_ic, i_lc, i_nul, i_il, i_ll, i_al, i_is, i_as, i_ls, i_inc, i_iadd, i_isub, i_imul, i_iand, i_ior, i_ixor, i_idiv, i_irem, i_ishl, i_ishr, i_ladd, i_lsub, i_land, i_lor, i_i2l, i_lushr, i_lshl, i_lshr, i_lcmp, i_dup, i_pop, i_dx1, i_dup2, i_ifeq, i_ifne, i_iflt, i_ifge, i_ifgt, i_ifle, i_iceq, i_icne, i_iclt, i_icge, i_icgt, i_icle, i_ifn, i_gf, i_pf, i_ial, i_bal, i_lal, i_aal, i_ias, i_las, i_bas, i_aas, i_alen, i_newa, i_new, i_anew, i_cast, i_oi, i_call, i_callV, i_callV2, i_callI, i_iret, i_zret, i_lret, i_vret, i_aret, i_mmx, i_mmn, i_gsE, i_aceq, i_no, i_acq, i_sw, zsw, zlg, zls, znl, zfg, zcs, zsp, zrc, zisn, zft, zc1, zto, Value.category, List.set_cons_zero, List.set_cons_succ, List.length_cons, List.length_nil, Option.toList, List.append, List.nil_append, List.cons_append, true_and, and_true, Nat.add_zero, Nat.zero_le, Nat.zero_add, Nat.le_refl, Nat.reduceAdd, Nat.reduceLeDiff, co0, z0, zn_0, zn_1, zn_2, zn_3, zn_4, zn_5, zn_8, zn_12, zn_24, zn_121, zn_144, zn_256, zn_300, zn_600, zn_720, zn_1204, zn_1280, zn_2400, zn_4816, zn_14400, zn_90000, q_main, m_main]
  refine ⟨y, u, rfl, rfl, ?_⟩
  simp only [B_Mo_deliver_0, B_Mo_deliver_20, B_Mo_deliver_23, B_Mo_deliver_35, B_Mo_deliver_46, B_Mo_deliver_78, co_Mo_firstOf, co_Mo_isDesk, co_Mo_isLinked, i_ic, i_lc, i_nul, i_il, i_ll, i_al, i_is, i_as, i_ls, i_inc, i_iadd, i_isub, i_imul, i_iand, i_ior, i_ixor, i_idiv, i_irem, i_ishl, i_ishr, i_ladd, i_lsub, i_land, i_lor, i_i2l, i_lushr, i_lshl, i_lshr, i_lcmp, i_dup, i_pop, i_dx1, i_dup2, i_ifeq, i_ifne, i_iflt, i_ifge, i_ifgt, i_ifle, i_iceq, i_icne, i_iclt, i_icge, i_icgt, i_icle, i_ifn, i_gf, i_pf, i_ial, i_bal, i_lal, i_aal, i_ias, i_las, i_bas, i_aas, i_alen, i_newa, i_new, i_anew, i_cast, i_oi, i_call, i_callV, i_callV2, i_callI, i_iret, i_zret, i_lret, i_vret, i_aret, i_mmx, i_mmn, i_gsE, i_aceq, i_no, i_acq, i_sw, zsw, zlg, zls, znl, zfg, zcs, zsp, zrc, zisn, zft, zc1, zto, Value.category, List.set_cons_zero, List.set_cons_succ, List.length_cons, List.length_nil, Option.toList, List.append, List.nil_append, List.cons_append, true_and, and_true, Nat.add_zero, Nat.zero_le, Nat.zero_add, Nat.le_refl, Nat.reduceAdd, Nat.reduceLeDiff, co0, z0, zn_0, zn_1, zn_2, zn_3, zn_4, zn_5, zn_8, zn_12, zn_24, zn_121, zn_144, zn_256, zn_300, zn_600, zn_720, zn_1204, zn_1280, zn_2400, zn_4816, zn_14400, zn_90000, q_main, m_main]
  refine ⟨fun h => hR0 (fun q => by rw [q.1] at h; exact absurd h (by decide)), fun h => ⟨y, v, rfl, rfl, ?_⟩⟩
  simp only [B_Mo_deliver_0, B_Mo_deliver_20, B_Mo_deliver_23, B_Mo_deliver_35, B_Mo_deliver_46, B_Mo_deliver_78, co_Mo_firstOf, co_Mo_isDesk, co_Mo_isLinked, i_ic, i_lc, i_nul, i_il, i_ll, i_al, i_is, i_as, i_ls, i_inc, i_iadd, i_isub, i_imul, i_iand, i_ior, i_ixor, i_idiv, i_irem, i_ishl, i_ishr, i_ladd, i_lsub, i_land, i_lor, i_i2l, i_lushr, i_lshl, i_lshr, i_lcmp, i_dup, i_pop, i_dx1, i_dup2, i_ifeq, i_ifne, i_iflt, i_ifge, i_ifgt, i_ifle, i_iceq, i_icne, i_iclt, i_icge, i_icgt, i_icle, i_ifn, i_gf, i_pf, i_ial, i_bal, i_lal, i_aal, i_ias, i_las, i_bas, i_aas, i_alen, i_newa, i_new, i_anew, i_cast, i_oi, i_call, i_callV, i_callV2, i_callI, i_iret, i_zret, i_lret, i_vret, i_aret, i_mmx, i_mmn, i_gsE, i_aceq, i_no, i_acq, i_sw, zsw, zlg, zls, znl, zfg, zcs, zsp, zrc, zisn, zft, zc1, zto, Value.category, List.set_cons_zero, List.set_cons_succ, List.length_cons, List.length_nil, Option.toList, List.append, List.nil_append, List.cons_append, true_and, and_true, Nat.add_zero, Nat.zero_le, Nat.zero_add, Nat.le_refl, Nat.reduceAdd, Nat.reduceLeDiff, co0, z0, zn_0, zn_1, zn_2, zn_3, zn_4, zn_5, zn_8, zn_12, zn_24, zn_121, zn_144, zn_256, zn_300, zn_600, zn_720, zn_1204, zn_1280, zn_2400, zn_4816, zn_14400, zn_90000, q_main, m_main]
  refine ⟨fun h2 => hR0 (fun q => by rw [q.2.1] at h2; exact absurd h2 (by decide)), fun h2 => ⟨fun h3 => ?_, fun h3 => hR0 (fun q => q.2.2 (Int32.not_le.mp h3))⟩⟩
  have hn0 : ¬ n < 0 := Int32.not_lt.mpr h3
  obtain ⟨a, ha, rfl⟩ := isn_t (by omega) (zb_n0 h)
  obtain ⟨b, hb, rfl⟩ := isn_t (by omega) (zb_n0 h2)
  refine ⟨y, a, b, rfl, rfl, by omega, by omega, ?_⟩
  simp only [B_Mo_deliver_0, B_Mo_deliver_20, B_Mo_deliver_23, B_Mo_deliver_35, B_Mo_deliver_46, B_Mo_deliver_78, co_Mo_firstOf, co_Mo_isDesk, co_Mo_isLinked, i_ic, i_lc, i_nul, i_il, i_ll, i_al, i_is, i_as, i_ls, i_inc, i_iadd, i_isub, i_imul, i_iand, i_ior, i_ixor, i_idiv, i_irem, i_ishl, i_ishr, i_ladd, i_lsub, i_land, i_lor, i_i2l, i_lushr, i_lshl, i_lshr, i_lcmp, i_dup, i_pop, i_dx1, i_dup2, i_ifeq, i_ifne, i_iflt, i_ifge, i_ifgt, i_ifle, i_iceq, i_icne, i_iclt, i_icge, i_icgt, i_icle, i_ifn, i_gf, i_pf, i_ial, i_bal, i_lal, i_aal, i_ias, i_las, i_bas, i_aas, i_alen, i_newa, i_new, i_anew, i_cast, i_oi, i_call, i_callV, i_callV2, i_callI, i_iret, i_zret, i_lret, i_vret, i_aret, i_mmx, i_mmn, i_gsE, i_aceq, i_no, i_acq, i_sw, zsw, zlg, zls, znl, zfg, zcs, zsp, zrc, zisn, zft, zc1, zto, Value.category, List.set_cons_zero, List.set_cons_succ, List.length_cons, List.length_nil, Option.toList, List.append, List.nil_append, List.cons_append, true_and, and_true, Nat.add_zero, Nat.zero_le, Nat.zero_add, Nat.le_refl, Nat.reduceAdd, Nat.reduceLeDiff, co0, z0, zn_0, zn_1, zn_2, zn_3, zn_4, zn_5, zn_8, zn_12, zn_24, zn_121, zn_144, zn_256, zn_300, zn_600, zn_720, zn_1204, zn_1280, zn_2400, zn_4816, zn_14400, zn_90000, q_main, m_main]
  refine ⟨fun h4 => ?_, fun h4 => hR1 a b ha hb rfl rfl hn0 (zb_0.mp h4)⟩
  obtain ⟨N, ⟨hN6, hJs, hst, hen⟩, hc1, hc2, hR⟩ := hR2 a b ha hb rfl rfl hn0 (zb_n0 h4)
  have mono : ∀ {i j : Nat}, i ≤ j → y_cp (dlY y a b i) ≤ y_cp (dlY y a b j) := fun {i j} hij => by
    induction hij with
    | refl => exact Nat.le_refl _
    | step _ ih => exact Nat.le_trans ih (dlY_cp _ _ _ _)
  have m0 : ∀ i, y_cp y ≤ y_cp (dlY y a b i) := fun i => mono (i := 0) (Nat.zero_le i)
  have loop := upto (N := N) (P := fun i => ∀ (K L : Nat), K + y_cp y ≤ y_cp (dlY y a b i) → L + 16 * y_cp y ≤ 16 * y_cp (dlY y a b i) → zG X 46 [some (.inr (30, 0, 0)), some (.inl (.int (nI a))), some (.inl (.int (nI b))), some (.inl (.int n)), some (.inl (.int (nI i))), some (.inl (.int (oI (fsO (dlY y a b i) a b (y_ms (dlY y a b i))))))] [] (mp (dlY y a b i)) K L) (fun i hi ih K L hK hL => by
    obtain ⟨hin, m, hm, htt, hok⟩ := hst i hi
    have hJi := hJs i (by omega)
    have hJ2 := hJs (i + 1) (by omega)
    have hci := hJi.cp
    have hmN := mono (i := i + 1) (j := N) hi
    have hmi := m0 i
    have e1 : dlY y a b (i + 1) = dv (dlY y a b i) m := by simp only [dlY, hm]
    rw [e1] at ih hmN hJ2
    have hmd := dv_cp (dlY y a b i) m
    have hml := fsO_lt hm
    rw [hm]
    generalize dlY y a b i = z at ih hmN hJ2 hJi hci hmi hmd hml hm hok htt hK hL
    refine s_Mo_deliver_46 hC hN _ _ _ _ _ ?_
    simp only [B_Mo_deliver_0, B_Mo_deliver_20, B_Mo_deliver_23, B_Mo_deliver_35, B_Mo_deliver_46, B_Mo_deliver_78, co_Mo_firstOf, co_Mo_isDesk, co_Mo_isLinked, i_ic, i_lc, i_nul, i_il, i_ll, i_al, i_is, i_as, i_ls, i_inc, i_iadd, i_isub, i_imul, i_iand, i_ior, i_ixor, i_idiv, i_irem, i_ishl, i_ishr, i_ladd, i_lsub, i_land, i_lor, i_i2l, i_lushr, i_lshl, i_lshr, i_lcmp, i_dup, i_pop, i_dx1, i_dup2, i_ifeq, i_ifne, i_iflt, i_ifge, i_ifgt, i_ifle, i_iceq, i_icne, i_iclt, i_icge, i_icgt, i_icle, i_ifn, i_gf, i_pf, i_ial, i_bal, i_lal, i_aal, i_ias, i_las, i_bas, i_aas, i_alen, i_newa, i_new, i_anew, i_cast, i_oi, i_call, i_callV, i_callV2, i_callI, i_iret, i_zret, i_lret, i_vret, i_aret, i_mmx, i_mmn, i_gsE, i_aceq, i_no, i_acq, i_sw, zsw, zlg, zls, znl, zfg, zcs, zsp, zrc, zisn, zft, zc1, zto, Value.category, List.set_cons_zero, List.set_cons_succ, List.length_cons, List.length_nil, Option.toList, List.append, List.nil_append, List.cons_append, true_and, and_true, Nat.add_zero, Nat.zero_le, Nat.zero_add, Nat.le_refl, Nat.reduceAdd, Nat.reduceLeDiff, co0, z0, zn_0, zn_1, zn_2, zn_3, zn_4, zn_5, zn_8, zn_12, zn_24, zn_121, zn_144, zn_256, zn_300, zn_600, zn_720, zn_1204, zn_1280, zn_2400, zn_4816, zn_14400, zn_90000, q_main, m_main, ar_4, ar_5, ar_12, ar_300, ar_600, ar_1200, ar_10, nI_add, ar_1, ar_2, ar_3, ar_2m]
    refine ⟨fun h => absurd hin (Int32.not_lt.mpr h), fun _ => ⟨fun h => ?_, fun _ => ?_⟩⟩
    · have h' : nI m = -1 := h
      have := nI_pos (n := m) (by omega)
      rw [h'] at this
      exact absurd (by decide) this
    · refine ⟨y_cp (dv z m) - y_cp z, 16 * (y_cp (dv z m) - y_cp z), by omega, by omega, z, m, rfl, rfl, hJi, hml, htt, hok, Nat.le_refl _, Nat.le_refl _, ?_⟩
      generalize dv z m = x at ih hmN hJ2 hmd
      simp only [B_Mo_deliver_0, B_Mo_deliver_20, B_Mo_deliver_23, B_Mo_deliver_35, B_Mo_deliver_46, B_Mo_deliver_78, co_Mo_firstOf, co_Mo_isDesk, co_Mo_isLinked, i_ic, i_lc, i_nul, i_il, i_ll, i_al, i_is, i_as, i_ls, i_inc, i_iadd, i_isub, i_imul, i_iand, i_ior, i_ixor, i_idiv, i_irem, i_ishl, i_ishr, i_ladd, i_lsub, i_land, i_lor, i_i2l, i_lushr, i_lshl, i_lshr, i_lcmp, i_dup, i_pop, i_dx1, i_dup2, i_ifeq, i_ifne, i_iflt, i_ifge, i_ifgt, i_ifle, i_iceq, i_icne, i_iclt, i_icge, i_icgt, i_icle, i_ifn, i_gf, i_pf, i_ial, i_bal, i_lal, i_aal, i_ias, i_las, i_bas, i_aas, i_alen, i_newa, i_new, i_anew, i_cast, i_oi, i_call, i_callV, i_callV2, i_callI, i_iret, i_zret, i_lret, i_vret, i_aret, i_mmx, i_mmn, i_gsE, i_aceq, i_no, i_acq, i_sw, zsw, zlg, zls, znl, zfg, zcs, zsp, zrc, zisn, zft, zc1, zto, Value.category, List.set_cons_zero, List.set_cons_succ, List.length_cons, List.length_nil, Option.toList, List.append, List.nil_append, List.cons_append, true_and, and_true, Nat.add_zero, Nat.zero_le, Nat.zero_add, Nat.le_refl, Nat.reduceAdd, Nat.reduceLeDiff, co0, z0, zn_0, zn_1, zn_2, zn_3, zn_4, zn_5, zn_8, zn_12, zn_24, zn_121, zn_144, zn_256, zn_300, zn_600, zn_720, zn_1204, zn_1280, zn_2400, zn_4816, zn_14400, zn_90000, q_main, m_main, ar_4, ar_5, ar_12, ar_300, ar_600, ar_1200, ar_10, nI_add, ar_1, ar_2, ar_3, ar_2m]
      refine ⟨by omega, by omega, x, a, b, rfl, rfl, by omega, by omega, hJ2, ?_⟩
      simp only [B_Mo_deliver_0, B_Mo_deliver_20, B_Mo_deliver_23, B_Mo_deliver_35, B_Mo_deliver_46, B_Mo_deliver_78, co_Mo_firstOf, co_Mo_isDesk, co_Mo_isLinked, i_ic, i_lc, i_nul, i_il, i_ll, i_al, i_is, i_as, i_ls, i_inc, i_iadd, i_isub, i_imul, i_iand, i_ior, i_ixor, i_idiv, i_irem, i_ishl, i_ishr, i_ladd, i_lsub, i_land, i_lor, i_i2l, i_lushr, i_lshl, i_lshr, i_lcmp, i_dup, i_pop, i_dx1, i_dup2, i_ifeq, i_ifne, i_iflt, i_ifge, i_ifgt, i_ifle, i_iceq, i_icne, i_iclt, i_icge, i_icgt, i_icle, i_ifn, i_gf, i_pf, i_ial, i_bal, i_lal, i_aal, i_ias, i_las, i_bas, i_aas, i_alen, i_newa, i_new, i_anew, i_cast, i_oi, i_call, i_callV, i_callV2, i_callI, i_iret, i_zret, i_lret, i_vret, i_aret, i_mmx, i_mmn, i_gsE, i_aceq, i_no, i_acq, i_sw, zsw, zlg, zls, znl, zfg, zcs, zsp, zrc, zisn, zft, zc1, zto, Value.category, List.set_cons_zero, List.set_cons_succ, List.length_cons, List.length_nil, Option.toList, List.append, List.nil_append, List.cons_append, true_and, and_true, Nat.add_zero, Nat.zero_le, Nat.zero_add, Nat.le_refl, Nat.reduceAdd, Nat.reduceLeDiff, co0, z0, zn_0, zn_1, zn_2, zn_3, zn_4, zn_5, zn_8, zn_12, zn_24, zn_121, zn_144, zn_256, zn_300, zn_600, zn_720, zn_1204, zn_1280, zn_2400, zn_4816, zn_14400, zn_90000, q_main, m_main, ar_4, ar_5, ar_12, ar_300, ar_600, ar_1200, ar_10, nI_add, ar_1, ar_2, ar_3, ar_2m]
      exact ih _ _ (by omega) (by omega)) (fun K L hK hL => by
    refine s_Mo_deliver_46 hC hN _ _ _ _ _ ?_
    have hci := (hJs N (Nat.le_refl _)).cp
    simp only [B_Mo_deliver_0, B_Mo_deliver_20, B_Mo_deliver_23, B_Mo_deliver_35, B_Mo_deliver_46, B_Mo_deliver_78, co_Mo_firstOf, co_Mo_isDesk, co_Mo_isLinked, i_ic, i_lc, i_nul, i_il, i_ll, i_al, i_is, i_as, i_ls, i_inc, i_iadd, i_isub, i_imul, i_iand, i_ior, i_ixor, i_idiv, i_irem, i_ishl, i_ishr, i_ladd, i_lsub, i_land, i_lor, i_i2l, i_lushr, i_lshl, i_lshr, i_lcmp, i_dup, i_pop, i_dx1, i_dup2, i_ifeq, i_ifne, i_iflt, i_ifge, i_ifgt, i_ifle, i_iceq, i_icne, i_iclt, i_icge, i_icgt, i_icle, i_ifn, i_gf, i_pf, i_ial, i_bal, i_lal, i_aal, i_ias, i_las, i_bas, i_aas, i_alen, i_newa, i_new, i_anew, i_cast, i_oi, i_call, i_callV, i_callV2, i_callI, i_iret, i_zret, i_lret, i_vret, i_aret, i_mmx, i_mmn, i_gsE, i_aceq, i_no, i_acq, i_sw, zsw, zlg, zls, znl, zfg, zcs, zsp, zrc, zisn, zft, zc1, zto, Value.category, List.set_cons_zero, List.set_cons_succ, List.length_cons, List.length_nil, Option.toList, List.append, List.nil_append, List.cons_append, true_and, and_true, Nat.add_zero, Nat.zero_le, Nat.zero_add, Nat.le_refl, Nat.reduceAdd, Nat.reduceLeDiff, co0, z0, zn_0, zn_1, zn_2, zn_3, zn_4, zn_5, zn_8, zn_12, zn_24, zn_121, zn_144, zn_256, zn_300, zn_600, zn_720, zn_1204, zn_1280, zn_2400, zn_4816, zn_14400, zn_90000, q_main, m_main, ar_4, ar_5, ar_12, ar_300, ar_600, ar_1200, ar_10, nI_add, ar_1, ar_2, ar_3, ar_2m]
    have fin : K ≤ c1 ∧ L ≤ c2 ∧ Rt (some (.inl (.int (nI N)))) (mp (dlY y a b N)) := ⟨by omega, by omega, hR⟩
    refine ⟨fun _ => fin, fun h => ⟨fun _ => fin, fun h5 => ?_⟩⟩
    rcases hen with q | q
    · exact absurd (Int32.not_le.mp h) q
    · rw [q] at h5; exact absurd rfl h5) 0 (Nat.zero_le _)
  refine ⟨y, a, b, rfl, rfl, by omega, by omega, hJ, ?_⟩
  simp only [B_Mo_deliver_0, B_Mo_deliver_20, B_Mo_deliver_23, B_Mo_deliver_35, B_Mo_deliver_46, B_Mo_deliver_78, co_Mo_firstOf, co_Mo_isDesk, co_Mo_isLinked, i_ic, i_lc, i_nul, i_il, i_ll, i_al, i_is, i_as, i_ls, i_inc, i_iadd, i_isub, i_imul, i_iand, i_ior, i_ixor, i_idiv, i_irem, i_ishl, i_ishr, i_ladd, i_lsub, i_land, i_lor, i_i2l, i_lushr, i_lshl, i_lshr, i_lcmp, i_dup, i_pop, i_dx1, i_dup2, i_ifeq, i_ifne, i_iflt, i_ifge, i_ifgt, i_ifle, i_iceq, i_icne, i_iclt, i_icge, i_icgt, i_icle, i_ifn, i_gf, i_pf, i_ial, i_bal, i_lal, i_aal, i_ias, i_las, i_bas, i_aas, i_alen, i_newa, i_new, i_anew, i_cast, i_oi, i_call, i_callV, i_callV2, i_callI, i_iret, i_zret, i_lret, i_vret, i_aret, i_mmx, i_mmn, i_gsE, i_aceq, i_no, i_acq, i_sw, zsw, zlg, zls, znl, zfg, zcs, zsp, zrc, zisn, zft, zc1, zto, Value.category, List.set_cons_zero, List.set_cons_succ, List.length_cons, List.length_nil, Option.toList, List.append, List.nil_append, List.cons_append, true_and, and_true, Nat.add_zero, Nat.zero_le, Nat.zero_add, Nat.le_refl, Nat.reduceAdd, Nat.reduceLeDiff, co0, z0, zn_0, zn_1, zn_2, zn_3, zn_4, zn_5, zn_8, zn_12, zn_24, zn_121, zn_144, zn_256, zn_300, zn_600, zn_720, zn_1204, zn_1280, zn_2400, zn_4816, zn_14400, zn_90000, q_main, m_main, ar_4, ar_5, ar_12, ar_300, ar_600, ar_1200, ar_10, nI_add, ar_1, ar_2, ar_3, ar_2m]
  exact loop 0 0 (by show 0 + y_cp y ≤ y_cp y; omega) (by show 0 + 16 * y_cp y ≤ 16 * y_cp y; omega)
/-! all -/
def y_key (z : zMS) (j : Nat) : Nat := 12 * y_fr z j + y_tt z j
/-- the first of the messages on the first road, among the first n -/
def y_best (z : zMS) (m n : Nat) : Prop := m < n ∧ (∀ j, j < n → y_key z m ≤ y_key z j) ∧ ∀ j, j < m → y_key z m < y_key z j
def aY_N (y : zMS) (s : Nat → zMS) (p : Nat → Nat) (N : Nat) : Prop := s 0 = y ∧ N ≤ 1000000 ∧ (∀ i, i ≤ N → Jv (s i)) ∧ (∀ i, i < N → y_best (s i) (p i) (y_ms (s i)) ∧ y_tt (s i) (p i) < y_dk (s i) ∧ dv_ok (s i) (p i) ∧ s (i + 1) = dv (s i) (p i)) ∧ y_ms (s N) = 0
theorem best_u {z : zMS} {m m' n : Nat} (h1 : y_best z m n) (h2 : y_best z m' n) : m = m' := by
  rcases Nat.lt_trichotomy m m' with h | h | h
  · have := h2.2.2 m h
    have := h1.2.1 m' h2.1
    omega
  · exact h
  · have := h1.2.2 m' h
    have := h2.2.1 m h1.1
    omega
def T_Mo_all (As : List zAV) (M : zMp) (Rt : Option zAV → zMp → Prop) (c1 c2 : Nat) : Prop := ∃ y s p N, As = [.inr (30, 0, 0)] ∧ M = mp y ∧ Jv y ∧ aY_N y s p N ∧ y_cp (s N) - y_cp y ≤ c1 ∧ 16 * (y_cp (s N) - y_cp y) ≤ c2 ∧ Rt (some (.inl (.int (nI N)))) (mp (s N))
theorem dX7_all_0 : decode cX7_all 0 = .ok (.iconst 0, 1) := by decide +kernel
theorem dX7_all_1 : decode cX7_all 1 = .ok (.istore_n 1, 1) := by decide +kernel
theorem dX7_all_2 : decode cX7_all 2 = .ok (.aload_n 0, 1) := by decide +kernel
theorem dX7_all_3 : decode cX7_all 3 = .ok (.getfield 129, 3) := by decide +kernel
theorem dX7_all_6 : decode cX7_all 6 = .ok (.ifCond .le 79, 3) := by decide +kernel
theorem dX7_all_9 : decode cX7_all 9 = .ok (.iconst 0, 1) := by decide +kernel
theorem dX7_all_10 : decode cX7_all 10 = .ok (.istore_n 2, 1) := by decide +kernel
theorem dX7_all_11 : decode cX7_all 11 = .ok (.iconst 1, 1) := by decide +kernel
theorem dX7_all_12 : decode cX7_all 12 = .ok (.istore_n 3, 1) := by decide +kernel
theorem dX7_all_13 : decode cX7_all 13 = .ok (.iload_n 3, 1) := by decide +kernel
theorem dX7_all_14 : decode cX7_all 14 = .ok (.aload_n 0, 1) := by decide +kernel
theorem dX7_all_15 : decode cX7_all 15 = .ok (.getfield 129, 3) := by decide +kernel
theorem dX7_all_18 : decode cX7_all 18 = .ok (.if_icmp .ge 56, 3) := by decide +kernel
theorem dX7_all_21 : decode cX7_all 21 = .ok (.aload_n 0, 1) := by decide +kernel
theorem dX7_all_22 : decode cX7_all 22 = .ok (.getfield 57, 3) := by decide +kernel
theorem dX7_all_25 : decode cX7_all 25 = .ok (.iload_n 3, 1) := by decide +kernel
theorem dX7_all_26 : decode cX7_all 26 = .ok (.iaload, 1) := by decide +kernel
theorem dX7_all_27 : decode cX7_all 27 = .ok (.aload_n 0, 1) := by decide +kernel
theorem dX7_all_28 : decode cX7_all 28 = .ok (.getfield 57, 3) := by decide +kernel
theorem dX7_all_31 : decode cX7_all 31 = .ok (.iload_n 2, 1) := by decide +kernel
theorem dX7_all_32 : decode cX7_all 32 = .ok (.iaload, 1) := by decide +kernel
theorem dX7_all_33 : decode cX7_all 33 = .ok (.if_icmp .lt 33, 3) := by decide +kernel
theorem dX7_all_36 : decode cX7_all 36 = .ok (.aload_n 0, 1) := by decide +kernel
theorem dX7_all_37 : decode cX7_all 37 = .ok (.getfield 57, 3) := by decide +kernel
theorem dX7_all_40 : decode cX7_all 40 = .ok (.iload_n 3, 1) := by decide +kernel
theorem dX7_all_41 : decode cX7_all 41 = .ok (.iaload, 1) := by decide +kernel
theorem dX7_all_42 : decode cX7_all 42 = .ok (.aload_n 0, 1) := by decide +kernel
theorem dX7_all_43 : decode cX7_all 43 = .ok (.getfield 57, 3) := by decide +kernel
theorem dX7_all_46 : decode cX7_all 46 = .ok (.iload_n 2, 1) := by decide +kernel
theorem dX7_all_47 : decode cX7_all 47 = .ok (.iaload, 1) := by decide +kernel
theorem dX7_all_48 : decode cX7_all 48 = .ok (.if_icmp .ne 20, 3) := by decide +kernel
theorem dX7_all_51 : decode cX7_all 51 = .ok (.aload_n 0, 1) := by decide +kernel
theorem dX7_all_52 : decode cX7_all 52 = .ok (.getfield 60, 3) := by decide +kernel
theorem dX7_all_55 : decode cX7_all 55 = .ok (.iload_n 3, 1) := by decide +kernel
theorem dX7_all_56 : decode cX7_all 56 = .ok (.iaload, 1) := by decide +kernel
theorem dX7_all_57 : decode cX7_all 57 = .ok (.aload_n 0, 1) := by decide +kernel
theorem dX7_all_58 : decode cX7_all 58 = .ok (.getfield 60, 3) := by decide +kernel
theorem dX7_all_61 : decode cX7_all 61 = .ok (.iload_n 2, 1) := by decide +kernel
theorem dX7_all_62 : decode cX7_all 62 = .ok (.iaload, 1) := by decide +kernel
theorem dX7_all_63 : decode cX7_all 63 = .ok (.if_icmp .ge 5, 3) := by decide +kernel
theorem dX7_all_66 : decode cX7_all 66 = .ok (.iload_n 3, 1) := by decide +kernel
theorem dX7_all_67 : decode cX7_all 67 = .ok (.istore_n 2, 1) := by decide +kernel
theorem dX7_all_68 : decode cX7_all 68 = .ok (.iinc 3 1, 3) := by decide +kernel
theorem dX7_all_71 : decode cX7_all 71 = .ok (.goto (-58), 3) := by decide +kernel
theorem dX7_all_74 : decode cX7_all 74 = .ok (.aload_n 0, 1) := by decide +kernel
theorem dX7_all_75 : decode cX7_all 75 = .ok (.iload_n 2, 1) := by decide +kernel
theorem dX7_all_76 : decode cX7_all 76 = .ok (.invokevirtual 212, 3) := by decide +kernel
theorem dX7_all_79 : decode cX7_all 79 = .ok (.iinc 1 1, 3) := by decide +kernel
theorem dX7_all_82 : decode cX7_all 82 = .ok (.goto (-80), 3) := by decide +kernel
theorem dX7_all_85 : decode cX7_all 85 = .ok (.iload_n 1, 1) := by decide +kernel
theorem dX7_all_86 : decode cX7_all 86 = .ok (.ireturn, 1) := by decide +kernel
def B_Mo_all_85 (mc ms : Nat) (Rt : Option zAV → zMp → Prop) (g : Nat → zKT) : zKT :=
  (i_il 1 (i_iret mc ms Rt))
set_option maxRecDepth 20000 in
theorem s_Mo_all_85 {X : zMa} {mc ms : Nat} {Rt : Option zAV → zMp → Prop} (hC : zCx X RX7 cX7_all 7 170 mc ms (some .int) false Rt) (hN : zNL X = 4) : zLe (B_Mo_all_85 mc ms Rt (zG X)) (zG X 85) :=
  (sd_il_n hC rfl dX7_all_85 ((sd_iret hC dX7_all_86)))
def B_Mo_all_74 (mc ms : Nat) (Rt : Option zAV → zMp → Prop) (g : Nat → zKT) : zKT :=
  (i_al 0 (i_il 2 (i_callV2 mc ms 8 2 T_Mo_delivers (i_inc 1 1 (g 2)))))
set_option maxRecDepth 20000 in
theorem s_Mo_all_74 {X : zMa} {mc ms : Nat} {Rt : Option zAV → zMp → Prop} (hC : zCx X RX7 cX7_all 7 170 mc ms (some .int) false Rt) (hN : zNL X = 4) : zLe (B_Mo_all_74 mc ms Rt (zG X)) (zG X 74) :=
  (sd_al_n hC rfl dX7_all_74 ((sd_il_n hC rfl dX7_all_75 ((sd_cV2 hC c_Mo_delivers yv_Mo_delivers (ci := 8) rfl rfl ml_Mo_212 (by decide) (by decide) dX7_all_76 ((sd_inc hC (by decide) (by rw [hN]; decide) dX7_all_79 ((sd_goto hC (tgt := 2) (by decide) dX7_all_82 (zLe_rfl))))))))))
def B_Mo_all_68 (mc ms : Nat) (Rt : Option zAV → zMp → Prop) (g : Nat → zKT) : zKT :=
  (i_inc 3 1 (g 13))
set_option maxRecDepth 20000 in
theorem s_Mo_all_68 {X : zMa} {mc ms : Nat} {Rt : Option zAV → zMp → Prop} (hC : zCx X RX7 cX7_all 7 170 mc ms (some .int) false Rt) (hN : zNL X = 4) : zLe (B_Mo_all_68 mc ms Rt (zG X)) (zG X 68) :=
  (sd_inc hC (by decide) (by rw [hN]; decide) dX7_all_68 ((sd_goto hC (tgt := 13) (by decide) dX7_all_71 (zLe_rfl))))
def B_Mo_all_66 (mc ms : Nat) (Rt : Option zAV → zMp → Prop) (g : Nat → zKT) : zKT :=
  (i_il 3 (i_is 2 (B_Mo_all_68 mc ms Rt g)))
set_option maxRecDepth 20000 in
theorem s_Mo_all_66 {X : zMa} {mc ms : Nat} {Rt : Option zAV → zMp → Prop} (hC : zCx X RX7 cX7_all 7 170 mc ms (some .int) false Rt) (hN : zNL X = 4) : zLe (B_Mo_all_66 mc ms Rt (zG X)) (zG X 66) :=
  (sd_il_n hC rfl dX7_all_66 ((sd_is_n hC rfl (by rw [hN]; decide) dX7_all_67 (s_Mo_all_68 hC hN))))
def B_Mo_all_13 (mc ms : Nat) (Rt : Option zAV → zMp → Prop) (g : Nat → zKT) : zKT :=
  (i_il 3 (i_al 0 (i_gf 8 19 (i_icge (B_Mo_all_74 mc ms Rt g) (i_al 0 (i_gf 8 20 (i_il 3 (i_ial (i_al 0 (i_gf 8 20 (i_il 2 (i_ial (i_iclt (B_Mo_all_66 mc ms Rt g) (i_al 0 (i_gf 8 20 (i_il 3 (i_ial (i_al 0 (i_gf 8 20 (i_il 2 (i_ial (i_icne (B_Mo_all_68 mc ms Rt g) (i_al 0 (i_gf 8 21 (i_il 3 (i_ial (i_al 0 (i_gf 8 21 (i_il 2 (i_ial (i_icge (B_Mo_all_68 mc ms Rt g) (B_Mo_all_66 mc ms Rt g))))))))))))))))))))))))))))))))
set_option maxRecDepth 20000 in
theorem s_Mo_all_13 {X : zMa} {mc ms : Nat} {Rt : Option zAV → zMp → Prop} (hC : zCx X RX7 cX7_all 7 170 mc ms (some .int) false Rt) (hN : zNL X = 4) : zLe (B_Mo_all_13 mc ms Rt (zG X)) (zG X 13) :=
  (sd_il_n hC rfl dX7_all_13 ((sd_al_n hC rfl dX7_all_14 ((sd_gf hC (ci := 8) (fk := 19) rfl wi_Mo (by decide) fl_Mo_129 (Or.inl rfl) dX7_all_15 ((sd_icge hC (tgt := 74) (by decide) dX7_all_18 (s_Mo_all_74 hC hN) ((sd_al_n hC rfl dX7_all_21 ((sd_gf hC (ci := 8) (fk := 20) rfl wi_Mo (by decide) fl_Mo_57 (Or.inl rfl) dX7_all_22 ((sd_il_n hC rfl dX7_all_25 ((sd_ial hC dX7_all_26 ((sd_al_n hC rfl dX7_all_27 ((sd_gf hC (ci := 8) (fk := 20) rfl wi_Mo (by decide) fl_Mo_57 (Or.inl rfl) dX7_all_28 ((sd_il_n hC rfl dX7_all_31 ((sd_ial hC dX7_all_32 ((sd_iclt hC (tgt := 66) (by decide) dX7_all_33 (s_Mo_all_66 hC hN) ((sd_al_n hC rfl dX7_all_36 ((sd_gf hC (ci := 8) (fk := 20) rfl wi_Mo (by decide) fl_Mo_57 (Or.inl rfl) dX7_all_37 ((sd_il_n hC rfl dX7_all_40 ((sd_ial hC dX7_all_41 ((sd_al_n hC rfl dX7_all_42 ((sd_gf hC (ci := 8) (fk := 20) rfl wi_Mo (by decide) fl_Mo_57 (Or.inl rfl) dX7_all_43 ((sd_il_n hC rfl dX7_all_46 ((sd_ial hC dX7_all_47 ((sd_icne hC (tgt := 68) (by decide) dX7_all_48 (s_Mo_all_68 hC hN) ((sd_al_n hC rfl dX7_all_51 ((sd_gf hC (ci := 8) (fk := 21) rfl wi_Mo (by decide) fl_Mo_60 (Or.inl rfl) dX7_all_52 ((sd_il_n hC rfl dX7_all_55 ((sd_ial hC dX7_all_56 ((sd_al_n hC rfl dX7_all_57 ((sd_gf hC (ci := 8) (fk := 21) rfl wi_Mo (by decide) fl_Mo_60 (Or.inl rfl) dX7_all_58 ((sd_il_n hC rfl dX7_all_61 ((sd_ial hC dX7_all_62 ((sd_icge hC (tgt := 68) (by decide) dX7_all_63 (s_Mo_all_68 hC hN) (s_Mo_all_66 hC hN))))))))))))))))))))))))))))))))))))))))))))))))))))))))))))))
def B_Mo_all_2 (mc ms : Nat) (Rt : Option zAV → zMp → Prop) (g : Nat → zKT) : zKT :=
  (i_al 0 (i_gf 8 19 (i_ifle (B_Mo_all_85 mc ms Rt g) (i_ic 0 (i_is 2 (i_ic 1 (i_is 3 (g 13))))))))
set_option maxRecDepth 20000 in
theorem s_Mo_all_2 {X : zMa} {mc ms : Nat} {Rt : Option zAV → zMp → Prop} (hC : zCx X RX7 cX7_all 7 170 mc ms (some .int) false Rt) (hN : zNL X = 4) : zLe (B_Mo_all_2 mc ms Rt (zG X)) (zG X 2) :=
  (sd_al_n hC rfl dX7_all_2 ((sd_gf hC (ci := 8) (fk := 19) rfl wi_Mo (by decide) fl_Mo_129 (Or.inl rfl) dX7_all_3 ((sd_ifle hC (tgt := 85) (by decide) dX7_all_6 (s_Mo_all_85 hC hN) ((sd_iconst hC (by decide) dX7_all_9 ((sd_is_n hC rfl (by rw [hN]; decide) dX7_all_10 ((sd_iconst hC (by decide) dX7_all_11 ((sd_is_n hC rfl (by rw [hN]; decide) dX7_all_12 (zLe_rfl))))))))))))))
def B_Mo_all_0 (mc ms : Nat) (Rt : Option zAV → zMp → Prop) (g : Nat → zKT) : zKT :=
  (i_ic 0 (i_is 1 (g 2)))
set_option maxRecDepth 20000 in
theorem s_Mo_all_0 {X : zMa} {mc ms : Nat} {Rt : Option zAV → zMp → Prop} (hC : zCx X RX7 cX7_all 7 170 mc ms (some .int) false Rt) (hN : zNL X = 4) : zLe (B_Mo_all_0 mc ms Rt (zG X)) (zG X 0) :=
  (sd_iconst hC (by decide) dX7_all_0 ((sd_is_n hC rfl (by rw [hN]; decide) dX7_all_1 (zLe_rfl))))
theorem c_Mo_all (l : Launch) : zCT2 l yX7_all cX7_all 4 (some .int) 7 170 T_Mo_all := by
  intro As M Rt c1 c2 hT
  obtain ⟨y, s, p, N, rfl, rfl, hJ, ⟨h0, hN6, hJs, hst, hen⟩, hc1, hc2, hR⟩ := hT
  refine zMet_of false (by decide +kernel) (fun h => by first | rfl | cases h) (Nat.le_of_ble_eq_true rfl) (fun X hN hC => ?_)
  show zG X 0 [some (.inr (30, 0, 0)), none, none, none] [] (mp y) 0 0
  have m1 : ∀ i, i < N → y_cp (s i) ≤ y_cp (s (i + 1)) := fun i hi => by rw [(hst i hi).2.2.2]; exact dv_cp _ _
  have mono : ∀ d i, i + d ≤ N → y_cp (s i) ≤ y_cp (s (i + d)) := fun d => by
    induction d with
    | zero => intro i _; exact Nat.le_refl _
    | succ d ih => intro i hi; exact Nat.le_trans (ih i (by omega)) (m1 (i + d) (by omega))
  have loop := upto (N := N) (P := fun i => ∀ (K L : Nat), K + y_cp y ≤ y_cp (s i) → L + 16 * y_cp y ≤ 16 * y_cp (s i) → ∀ j2 j3 : Option zAV, zG X 2 [some (.inr (30, 0, 0)), some (.inl (.int (nI i))), j2, j3] [] (mp (s i)) K L) (fun i hi ih K L hK hL j2 j3 => by
    obtain ⟨hb, htt, hok, hs⟩ := hst i hi
    have hJi := hJs i (by omega)
    have hci := hJi.cp
    have hmN : y_cp (s (i + 1)) ≤ y_cp (s N) := by
      have := mono (N - (i + 1)) (i + 1) (by omega)
      rw [show i + 1 + (N - (i + 1)) = N by omega] at this
      exact this
    have hmi : y_cp y ≤ y_cp (s i) := by
      have := mono i 0 (by omega)
      rw [Nat.zero_add, h0] at this
      exact this
    rw [hs] at ih hmN
    have hmd := dv_cp (s i) (p i)
    generalize p i = m at ih hmN hb htt hok hmd
    generalize s i = z at ih hmN hb htt hok hmd hJi hci hmi hK hL
    have inner := upto (N := y_ms z) (P := fun j => 1 ≤ j → ∀ b, y_best z b j → zG X 13 [some (.inr (30, 0, 0)), some (.inl (.int (nI i))), some (.inl (.int (nI b))), some (.inl (.int (nI j)))] [] (mp z) K L) (fun j hj ihj h1 b hbb => by
      have f1 := hJi.ms j hj
      have f2 := hJi.ms b (by have := hbb.1; omega)
      have hbj := hbb.1
      have keep : ¬ (y_key z j < y_key z b) → y_best z b (j + 1) := fun q => ⟨by omega, fun x hx => by
        by_cases e : x = j
        · rw [e]; omega
        · exact hbb.2.1 x (by omega), hbb.2.2⟩
      have take : y_key z j < y_key z b → y_best z j (j + 1) := fun q => ⟨by omega, fun x hx => by
        by_cases e : x = j
        · rw [e]; exact Nat.le_refl _
        · have := hbb.2.1 x (by omega); omega, fun x hx => by have := hbb.2.1 x hx; omega⟩
      unfold y_key at keep take
      have V : ∀ x, x < y_ms z → vp_in (nI x) (y_cp z) := fun x hx => vp_in_nI (by omega) (by omega)
      have N1 : ∀ {p q : Nat}, p < 12 → q < 12 → (nI p < nI q ↔ p < q) := fun h1 h2 => nI_ltI (by omega) (by omega)
      have N2 : ∀ {p q : Nat}, p < 12 → q < 12 → (nI p = nI q ↔ p = q) := fun h1 h2 => nI_eq (by omega) (by omega)
      have N3 : ∀ {p q : Nat}, p < 12 → q < 12 → (nI p ≤ nI q ↔ p ≤ q) := fun h1 h2 => nI_leI (by omega) (by omega)
      refine s_Mo_all_13 hC hN _ _ _ _ _ ?_
      simp only [B_Mo_all_0, B_Mo_all_2, B_Mo_all_13, B_Mo_all_66, B_Mo_all_68, B_Mo_all_74, B_Mo_all_85, i_ic, i_lc, i_nul, i_il, i_ll, i_al, i_is, i_as, i_ls, i_inc, i_iadd, i_isub, i_imul, i_iand, i_ior, i_ixor, i_idiv, i_irem, i_ishl, i_ishr, i_ladd, i_lsub, i_land, i_lor, i_i2l, i_lushr, i_lshl, i_lshr, i_lcmp, i_dup, i_pop, i_dx1, i_dup2, i_ifeq, i_ifne, i_iflt, i_ifge, i_ifgt, i_ifle, i_iceq, i_icne, i_iclt, i_icge, i_icgt, i_icle, i_ifn, i_gf, i_pf, i_ial, i_bal, i_lal, i_aal, i_ias, i_las, i_bas, i_aas, i_alen, i_newa, i_new, i_anew, i_cast, i_oi, i_call, i_callV, i_callV2, i_callI, i_iret, i_zret, i_lret, i_vret, i_aret, i_mmx, i_mmn, i_gsE, i_aceq, i_no, i_acq, i_sw, zsw, zlg, zls, znl, zfg, zcs, zsp, zrc, zisn, zft, zc1, zto, Value.category, List.set_cons_zero, List.set_cons_succ, List.length_cons, List.length_nil, Option.toList, List.append, List.nil_append, List.cons_append, true_and, and_true, Nat.add_zero, Nat.zero_le, Nat.zero_add, Nat.le_refl, Nat.reduceAdd, Nat.reduceLeDiff, co0, z0, zn_0, zn_1, zn_2, zn_3, zn_4, zn_5, zn_8, zn_12, zn_24, zn_121, zn_144, zn_256, zn_300, zn_600, zn_720, zn_1204, zn_1280, zn_2400, zn_4816, zn_14400, zn_90000, q_main, m_main, q_fr, q_tt, ar_4, ar_5, ar_12, ar_300, ar_600, ar_1200, ar_10, nI_add, ar_1, ar_2, ar_3, ar_2m]
      rw [nI_clamp (by omega), nI_clamp (by omega), N1 f1.1 f2.1, N2 f1.1 f2.1, N3 f2.2.1 f1.2.1]
      refine ⟨fun h => absurd ((zK (K := y_ms z) (by omega) (n := j) (by omega)).2.1.mp h) (by omega), fun _ => ⟨V j (by omega), V b (by omega), fun g1 => ihj (by omega) j (take (by omega)), fun g1 => ⟨V j (by omega), V b (by omega), fun g2 => ihj (by omega) b (keep (by omega)), fun g2 => ⟨V j (by omega), V b (by omega), fun g3 => ihj (by omega) b (keep (by omega)), fun g3 => ihj (by omega) j (take (by omega))⟩⟩⟩⟩) (fun h1 b hbb => by
      refine s_Mo_all_13 hC hN _ _ _ _ _ ?_
      have hbe : b = m := best_u hbb hb
      subst hbe
      simp only [B_Mo_all_0, B_Mo_all_2, B_Mo_all_13, B_Mo_all_66, B_Mo_all_68, B_Mo_all_74, B_Mo_all_85, i_ic, i_lc, i_nul, i_il, i_ll, i_al, i_is, i_as, i_ls, i_inc, i_iadd, i_isub, i_imul, i_iand, i_ior, i_ixor, i_idiv, i_irem, i_ishl, i_ishr, i_ladd, i_lsub, i_land, i_lor, i_i2l, i_lushr, i_lshl, i_lshr, i_lcmp, i_dup, i_pop, i_dx1, i_dup2, i_ifeq, i_ifne, i_iflt, i_ifge, i_ifgt, i_ifle, i_iceq, i_icne, i_iclt, i_icge, i_icgt, i_icle, i_ifn, i_gf, i_pf, i_ial, i_bal, i_lal, i_aal, i_ias, i_las, i_bas, i_aas, i_alen, i_newa, i_new, i_anew, i_cast, i_oi, i_call, i_callV, i_callV2, i_callI, i_iret, i_zret, i_lret, i_vret, i_aret, i_mmx, i_mmn, i_gsE, i_aceq, i_no, i_acq, i_sw, zsw, zlg, zls, znl, zfg, zcs, zsp, zrc, zisn, zft, zc1, zto, Value.category, List.set_cons_zero, List.set_cons_succ, List.length_cons, List.length_nil, Option.toList, List.append, List.nil_append, List.cons_append, true_and, and_true, Nat.add_zero, Nat.zero_le, Nat.zero_add, Nat.le_refl, Nat.reduceAdd, Nat.reduceLeDiff, co0, z0, zn_0, zn_1, zn_2, zn_3, zn_4, zn_5, zn_8, zn_12, zn_24, zn_121, zn_144, zn_256, zn_300, zn_600, zn_720, zn_1204, zn_1280, zn_2400, zn_4816, zn_14400, zn_90000, q_main, m_main, ar_4, ar_5, ar_12, ar_300, ar_600, ar_1200, ar_10, nI_add, ar_1, ar_2, ar_3, ar_2m]
      refine ⟨fun _ => ?_, fun h => absurd ((zK (K := y_ms z) (by omega) (n := y_ms z) (by omega)).2.1.mpr (Nat.le_refl _)) h⟩
      refine ⟨y_cp (dv z b) - y_cp z, 16 * (y_cp (dv z b) - y_cp z), by omega, by omega, z, b, rfl, rfl, hJi, hb.1, htt, hok, Nat.le_refl _, Nat.le_refl _, ?_⟩
      simp only [B_Mo_all_0, B_Mo_all_2, B_Mo_all_13, B_Mo_all_66, B_Mo_all_68, B_Mo_all_74, B_Mo_all_85, i_ic, i_lc, i_nul, i_il, i_ll, i_al, i_is, i_as, i_ls, i_inc, i_iadd, i_isub, i_imul, i_iand, i_ior, i_ixor, i_idiv, i_irem, i_ishl, i_ishr, i_ladd, i_lsub, i_land, i_lor, i_i2l, i_lushr, i_lshl, i_lshr, i_lcmp, i_dup, i_pop, i_dx1, i_dup2, i_ifeq, i_ifne, i_iflt, i_ifge, i_ifgt, i_ifle, i_iceq, i_icne, i_iclt, i_icge, i_icgt, i_icle, i_ifn, i_gf, i_pf, i_ial, i_bal, i_lal, i_aal, i_ias, i_las, i_bas, i_aas, i_alen, i_newa, i_new, i_anew, i_cast, i_oi, i_call, i_callV, i_callV2, i_callI, i_iret, i_zret, i_lret, i_vret, i_aret, i_mmx, i_mmn, i_gsE, i_aceq, i_no, i_acq, i_sw, zsw, zlg, zls, znl, zfg, zcs, zsp, zrc, zisn, zft, zc1, zto, Value.category, List.set_cons_zero, List.set_cons_succ, List.length_cons, List.length_nil, Option.toList, List.append, List.nil_append, List.cons_append, true_and, and_true, Nat.add_zero, Nat.zero_le, Nat.zero_add, Nat.le_refl, Nat.reduceAdd, Nat.reduceLeDiff, co0, z0, zn_0, zn_1, zn_2, zn_3, zn_4, zn_5, zn_8, zn_12, zn_24, zn_121, zn_144, zn_256, zn_300, zn_600, zn_720, zn_1204, zn_1280, zn_2400, zn_4816, zn_14400, zn_90000, q_main, m_main, ar_4, ar_5, ar_12, ar_300, ar_600, ar_1200, ar_10, nI_add, ar_1, ar_2, ar_3, ar_2m]
      exact ih _ _ (by omega) (by omega) _ _) 1 (by have := hb.1; omega) (Nat.le_refl _) 0 ⟨by decide, fun x hx => by rw [show x = 0 by omega]; exact Nat.le_refl _, fun x hx => absurd hx (Nat.not_lt_zero x)⟩
    refine s_Mo_all_2 hC hN _ _ _ _ _ ?_
    simp only [B_Mo_all_0, B_Mo_all_2, B_Mo_all_13, B_Mo_all_66, B_Mo_all_68, B_Mo_all_74, B_Mo_all_85, i_ic, i_lc, i_nul, i_il, i_ll, i_al, i_is, i_as, i_ls, i_inc, i_iadd, i_isub, i_imul, i_iand, i_ior, i_ixor, i_idiv, i_irem, i_ishl, i_ishr, i_ladd, i_lsub, i_land, i_lor, i_i2l, i_lushr, i_lshl, i_lshr, i_lcmp, i_dup, i_pop, i_dx1, i_dup2, i_ifeq, i_ifne, i_iflt, i_ifge, i_ifgt, i_ifle, i_iceq, i_icne, i_iclt, i_icge, i_icgt, i_icle, i_ifn, i_gf, i_pf, i_ial, i_bal, i_lal, i_aal, i_ias, i_las, i_bas, i_aas, i_alen, i_newa, i_new, i_anew, i_cast, i_oi, i_call, i_callV, i_callV2, i_callI, i_iret, i_zret, i_lret, i_vret, i_aret, i_mmx, i_mmn, i_gsE, i_aceq, i_no, i_acq, i_sw, zsw, zlg, zls, znl, zfg, zcs, zsp, zrc, zisn, zft, zc1, zto, Value.category, List.set_cons_zero, List.set_cons_succ, List.length_cons, List.length_nil, Option.toList, List.append, List.nil_append, List.cons_append, true_and, and_true, Nat.add_zero, Nat.zero_le, Nat.zero_add, Nat.le_refl, Nat.reduceAdd, Nat.reduceLeDiff, co0, z0, zn_0, zn_1, zn_2, zn_3, zn_4, zn_5, zn_8, zn_12, zn_24, zn_121, zn_144, zn_256, zn_300, zn_600, zn_720, zn_1204, zn_1280, zn_2400, zn_4816, zn_14400, zn_90000, q_main, m_main]
    refine ⟨fun h => absurd ((nI_leI (b := 0) (by omega) (by decide)).mp h) (by have := hb.1; omega), fun _ => inner⟩) (fun K L hK hL j2 j3 => by
    refine s_Mo_all_2 hC hN _ _ _ _ _ ?_
    simp only [B_Mo_all_0, B_Mo_all_2, B_Mo_all_13, B_Mo_all_66, B_Mo_all_68, B_Mo_all_74, B_Mo_all_85, i_ic, i_lc, i_nul, i_il, i_ll, i_al, i_is, i_as, i_ls, i_inc, i_iadd, i_isub, i_imul, i_iand, i_ior, i_ixor, i_idiv, i_irem, i_ishl, i_ishr, i_ladd, i_lsub, i_land, i_lor, i_i2l, i_lushr, i_lshl, i_lshr, i_lcmp, i_dup, i_pop, i_dx1, i_dup2, i_ifeq, i_ifne, i_iflt, i_ifge, i_ifgt, i_ifle, i_iceq, i_icne, i_iclt, i_icge, i_icgt, i_icle, i_ifn, i_gf, i_pf, i_ial, i_bal, i_lal, i_aal, i_ias, i_las, i_bas, i_aas, i_alen, i_newa, i_new, i_anew, i_cast, i_oi, i_call, i_callV, i_callV2, i_callI, i_iret, i_zret, i_lret, i_vret, i_aret, i_mmx, i_mmn, i_gsE, i_aceq, i_no, i_acq, i_sw, zsw, zlg, zls, znl, zfg, zcs, zsp, zrc, zisn, zft, zc1, zto, Value.category, List.set_cons_zero, List.set_cons_succ, List.length_cons, List.length_nil, Option.toList, List.append, List.nil_append, List.cons_append, true_and, and_true, Nat.add_zero, Nat.zero_le, Nat.zero_add, Nat.le_refl, Nat.reduceAdd, Nat.reduceLeDiff, co0, z0, zn_0, zn_1, zn_2, zn_3, zn_4, zn_5, zn_8, zn_12, zn_24, zn_121, zn_144, zn_256, zn_300, zn_600, zn_720, zn_1204, zn_1280, zn_2400, zn_4816, zn_14400, zn_90000, q_main, m_main]
    rw [hen]
    exact ⟨fun _ => ⟨by omega, by omega, hR⟩, fun h => absurd (by decide) h⟩) 0 (Nat.zero_le _)
  refine s_Mo_all_0 hC hN _ _ _ _ _ ?_
  simp only [B_Mo_all_0, B_Mo_all_2, B_Mo_all_13, B_Mo_all_66, B_Mo_all_68, B_Mo_all_74, B_Mo_all_85, i_ic, i_lc, i_nul, i_il, i_ll, i_al, i_is, i_as, i_ls, i_inc, i_iadd, i_isub, i_imul, i_iand, i_ior, i_ixor, i_idiv, i_irem, i_ishl, i_ishr, i_ladd, i_lsub, i_land, i_lor, i_i2l, i_lushr, i_lshl, i_lshr, i_lcmp, i_dup, i_pop, i_dx1, i_dup2, i_ifeq, i_ifne, i_iflt, i_ifge, i_ifgt, i_ifle, i_iceq, i_icne, i_iclt, i_icge, i_icgt, i_icle, i_ifn, i_gf, i_pf, i_ial, i_bal, i_lal, i_aal, i_ias, i_las, i_bas, i_aas, i_alen, i_newa, i_new, i_anew, i_cast, i_oi, i_call, i_callV, i_callV2, i_callI, i_iret, i_zret, i_lret, i_vret, i_aret, i_mmx, i_mmn, i_gsE, i_aceq, i_no, i_acq, i_sw, zsw, zlg, zls, znl, zfg, zcs, zsp, zrc, zisn, zft, zc1, zto, Value.category, List.set_cons_zero, List.set_cons_succ, List.length_cons, List.length_nil, Option.toList, List.append, List.nil_append, List.cons_append, true_and, and_true, Nat.add_zero, Nat.zero_le, Nat.zero_add, Nat.le_refl, Nat.reduceAdd, Nat.reduceLeDiff, co0, z0, zn_0, zn_1, zn_2, zn_3, zn_4, zn_5, zn_8, zn_12, zn_24, zn_121, zn_144, zn_256, zn_300, zn_600, zn_720, zn_1204, zn_1280, zn_2400, zn_4816, zn_14400, zn_90000]
  rw [h0] at loop
  exact loop 0 0 (by omega) (by omega) _ _
