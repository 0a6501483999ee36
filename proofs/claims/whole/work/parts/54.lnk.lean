/-! WishRoutes: link, cut, move, off -/
theorem Iv_lk {x : zSt} {v : Int32} (h : Iv x) : Iv (u_lk x v) := h
theorem ol_dk (x : zSt) (u v : Nat) : x_dk (ol x u v) = x_dk x := by
  show x_dk (ol_1 x) = x_dk x
  unfold ol_1
  split <;> rfl
def lk_x (x : zSt) (a b : Nat) : zSt := u_lk (ol (ol x a b) b a) (x_lk (ol (ol x a b) b a) + 1)
theorem lk_dk (x : zSt) (a b : Nat) : x_dk (lk_x x a b) = x_dk x := (ol_dk (ol x a b) b a).trans (ol_dk x a b)
theorem Iv_lkx {x : zSt} {a b : Nat} (h : Iv x) : Iv (lk_x x a b) := Iv_lk (Iv_ol (Iv_ol h))
/-- two desks tell -/
noncomputable def tn2 (x : zSt) (u v : Int32) : zSt := tn (tn x u (x_dk x)) v (x_dk x)
noncomputable def tn2_c (x : zSt) (u v : Int32) : Nat := tn_c x u (x_dk x) + tn_c (tn x u (x_dk x)) v (x_dk x)
def T_WR_link (As : List zAV) (M : zMp) (Rt : Option zAV → zMp → Prop) (c1 c2 : Nat) : Prop := ∃ x u v, As = [.inr (0, 0, 0), .inl (.int u), .inl (.int v)] ∧ M = pic x ∧ Iv x ∧ (¬ (isn (x_dk x) u = true ∧ isn (x_dk x) v = true) → Rt (some (.inl (.int (-2)))) M) ∧ (∀ a b, a < x_dk x → b < x_dk x → u = nI a → v = nI b → inm (x_reach x u (-1)) v = true → Rt (some (.inl (.int (-4)))) M) ∧ (∀ a b, a < x_dk x → b < x_dk x → u = nI a → v = nI b → inm (x_reach x u (-1)) v = false → 14 + 2 * tn2_c (lk_x x a b) u v ≤ c1 ∧ 520 + 6 * tn2_c (lk_x x a b) u v ≤ c2 ∧ Rt (some (.inl (.int 0))) (pic (tn2 (lk_x x a b) u v)))
theorem dX6_link_0 : decode cX6_link 0 = .ok (.aload_n 0, 1) := by decide +kernel
theorem dX6_link_1 : decode cX6_link 1 = .ok (.iload_n 1, 1) := by decide +kernel
theorem dX6_link_2 : decode cX6_link 2 = .ok (.invokevirtual 69, 3) := by decide +kernel
theorem dX6_link_5 : decode cX6_link 5 = .ok (.ifCond .eq 11, 3) := by decide +kernel
theorem dX6_link_8 : decode cX6_link 8 = .ok (.aload_n 0, 1) := by decide +kernel
theorem dX6_link_9 : decode cX6_link 9 = .ok (.iload_n 2, 1) := by decide +kernel
theorem dX6_link_10 : decode cX6_link 10 = .ok (.invokevirtual 69, 3) := by decide +kernel
theorem dX6_link_13 : decode cX6_link 13 = .ok (.ifCond .ne 6, 3) := by decide +kernel
theorem dX6_link_16 : decode cX6_link 16 = .ok (.bipush (-2), 2) := by decide +kernel
theorem dX6_link_18 : decode cX6_link 18 = .ok (.ireturn, 1) := by decide +kernel
theorem dX6_link_19 : decode cX6_link 19 = .ok (.aload_n 0, 1) := by decide +kernel
theorem dX6_link_20 : decode cX6_link 20 = .ok (.iload_n 1, 1) := by decide +kernel
theorem dX6_link_21 : decode cX6_link 21 = .ok (.iconst (-1), 1) := by decide +kernel
theorem dX6_link_22 : decode cX6_link 22 = .ok (.invokevirtual 73, 3) := by decide +kernel
theorem dX6_link_25 : decode cX6_link 25 = .ok (.iload_n 2, 1) := by decide +kernel
theorem dX6_link_26 : decode cX6_link 26 = .ok (.invokestatic 77, 3) := by decide +kernel
theorem dX6_link_29 : decode cX6_link 29 = .ok (.ifCond .eq 6, 3) := by decide +kernel
theorem dX6_link_32 : decode cX6_link 32 = .ok (.bipush (-4), 2) := by decide +kernel
theorem dX6_link_34 : decode cX6_link 34 = .ok (.ireturn, 1) := by decide +kernel
theorem dX6_link_35 : decode cX6_link 35 = .ok (.aload_n 0, 1) := by decide +kernel
theorem dX6_link_36 : decode cX6_link 36 = .ok (.iload_n 1, 1) := by decide +kernel
theorem dX6_link_37 : decode cX6_link 37 = .ok (.iload_n 2, 1) := by decide +kernel
theorem dX6_link_38 : decode cX6_link 38 = .ok (.invokevirtual 81, 3) := by decide +kernel
theorem dX6_link_41 : decode cX6_link 41 = .ok (.aload_n 0, 1) := by decide +kernel
theorem dX6_link_42 : decode cX6_link 42 = .ok (.iload_n 2, 1) := by decide +kernel
theorem dX6_link_43 : decode cX6_link 43 = .ok (.iload_n 1, 1) := by decide +kernel
theorem dX6_link_44 : decode cX6_link 44 = .ok (.invokevirtual 81, 3) := by decide +kernel
theorem dX6_link_47 : decode cX6_link 47 = .ok (.aload_n 0, 1) := by decide +kernel
theorem dX6_link_48 : decode cX6_link 48 = .ok (.dup, 1) := by decide +kernel
theorem dX6_link_49 : decode cX6_link 49 = .ok (.getfield 57, 3) := by decide +kernel
theorem dX6_link_52 : decode cX6_link 52 = .ok (.iconst 1, 1) := by decide +kernel
theorem dX6_link_53 : decode cX6_link 53 = .ok (.iadd, 1) := by decide +kernel
theorem dX6_link_54 : decode cX6_link 54 = .ok (.putfield 57, 3) := by decide +kernel
theorem dX6_link_57 : decode cX6_link 57 = .ok (.aload_n 0, 1) := by decide +kernel
theorem dX6_link_58 : decode cX6_link 58 = .ok (.iload_n 1, 1) := by decide +kernel
theorem dX6_link_59 : decode cX6_link 59 = .ok (.invokevirtual 85, 3) := by decide +kernel
theorem dX6_link_62 : decode cX6_link 62 = .ok (.aload_n 0, 1) := by decide +kernel
theorem dX6_link_63 : decode cX6_link 63 = .ok (.iload_n 2, 1) := by decide +kernel
theorem dX6_link_64 : decode cX6_link 64 = .ok (.invokevirtual 85, 3) := by decide +kernel
theorem dX6_link_67 : decode cX6_link 67 = .ok (.iconst 0, 1) := by decide +kernel
theorem dX6_link_68 : decode cX6_link 68 = .ok (.ireturn, 1) := by decide +kernel
def B_WR_link_35 (mc ms : Nat) (Rt : Option zAV → zMp → Prop) (g : Nat → zKT) : zKT :=
  (i_al 0 (i_il 1 (i_il 2 (i_callV mc ms 7 3 T_WR_openLane co_WR_openLane (i_al 0 (i_il 2 (i_il 1 (i_callV mc ms 7 3 T_WR_openLane co_WR_openLane (i_al 0 (i_dup (i_gf 7 10 (i_ic 1 (i_iadd (i_pf 7 10 .int (i_al 0 (i_il 1 (i_callV2 mc ms 7 2 T_WR_tellNeighbours (i_al 0 (i_il 2 (i_callV2 mc ms 7 2 T_WR_tellNeighbours (i_ic 0 (i_iret mc ms Rt))))))))))))))))))))))
set_option maxRecDepth 20000 in
theorem s_WR_link_35 {X : zMa} {mc ms : Nat} {Rt : Option zAV → zMp → Prop} (hC : zCx X RX6 cX6_link 6 134 mc ms (some .int) false Rt) : zLe (B_WR_link_35 mc ms Rt (zG X)) (zG X 35) :=
  (sd_al_n hC rfl dX6_link_35 ((sd_il_n hC rfl dX6_link_36 ((sd_il_n hC rfl dX6_link_37 ((sd_cV hC c_WR_openLane yv_WR_openLane (ci := 7) rfl rfl ml_WR_81 (by decide) (by decide) dX6_link_38 ((sd_al_n hC rfl dX6_link_41 ((sd_il_n hC rfl dX6_link_42 ((sd_il_n hC rfl dX6_link_43 ((sd_cV hC c_WR_openLane yv_WR_openLane (ci := 7) rfl rfl ml_WR_81 (by decide) (by decide) dX6_link_44 ((sd_al_n hC rfl dX6_link_47 ((sd_dup hC dX6_link_48 ((sd_gf hC (ci := 7) (fk := 10) rfl wi_WR (by decide) fl_WR_57 (Or.inl rfl) dX6_link_49 ((sd_iconst hC (by decide) dX6_link_52 ((sd_iadd hC dX6_link_53 ((sd_pf hC (ci := 7) (fk := 10) rfl wi_WR tyX6 tyX6_ok nmX6 (by decide) fl_WR_57 (Or.inl rfl) (Or.inl rfl) dX6_link_54 ((sd_al_n hC rfl dX6_link_57 ((sd_il_n hC rfl dX6_link_58 ((sd_cV2 hC c_WR_tellNeighbours yv_WR_tellNeighbours (ci := 7) rfl rfl ml_WR_85 (by decide) (by decide) dX6_link_59 ((sd_al_n hC rfl dX6_link_62 ((sd_il_n hC rfl dX6_link_63 ((sd_cV2 hC c_WR_tellNeighbours yv_WR_tellNeighbours (ci := 7) rfl rfl ml_WR_85 (by decide) (by decide) dX6_link_64 ((sd_iconst hC (by decide) dX6_link_67 ((sd_iret hC dX6_link_68)))))))))))))))))))))))))))))))))))))))))))
def B_WR_link_19 (mc ms : Nat) (Rt : Option zAV → zMp → Prop) (g : Nat → zKT) : zKT :=
  (i_al 0 (i_il 1 (i_ic (-1) (i_callV mc ms 7 3 T_WR_reach co_WR_reach (i_il 2 (i_call mc ms 2 T_WR_inMask co_WR_inMask (i_ifeq (B_WR_link_35 mc ms Rt g) (i_ic (-4) (i_iret mc ms Rt)))))))))
set_option maxRecDepth 20000 in
theorem s_WR_link_19 {X : zMa} {mc ms : Nat} {Rt : Option zAV → zMp → Prop} (hC : zCx X RX6 cX6_link 6 134 mc ms (some .int) false Rt) : zLe (B_WR_link_19 mc ms Rt (zG X)) (zG X 19) :=
  (sd_al_n hC rfl dX6_link_19 ((sd_il_n hC rfl dX6_link_20 ((sd_iconst hC (by decide) dX6_link_21 ((sd_cV hC c_WR_reach yv_WR_reach (ci := 7) rfl rfl ml_WR_73 (by decide) (by decide) dX6_link_22 ((sd_il_n hC rfl dX6_link_25 ((sd_cS hC c_WR_inMask ys_WR_inMask ml_WR_77 (by decide) (by decide) dX6_link_26 ((sd_ifeq hC (tgt := 35) (by decide) dX6_link_29 (s_WR_link_35 hC) ((sd_bipush hC (by decide) dX6_link_32 ((sd_iret hC dX6_link_34)))))))))))))))))
def B_WR_link_16 (mc ms : Nat) (Rt : Option zAV → zMp → Prop) (g : Nat → zKT) : zKT :=
  (i_ic (-2) (i_iret mc ms Rt))
set_option maxRecDepth 20000 in
theorem s_WR_link_16 {X : zMa} {mc ms : Nat} {Rt : Option zAV → zMp → Prop} (hC : zCx X RX6 cX6_link 6 134 mc ms (some .int) false Rt) : zLe (B_WR_link_16 mc ms Rt (zG X)) (zG X 16) :=
  (sd_bipush hC (by decide) dX6_link_16 ((sd_iret hC dX6_link_18)))
def B_WR_link_0 (mc ms : Nat) (Rt : Option zAV → zMp → Prop) (g : Nat → zKT) : zKT :=
  (i_al 0 (i_il 1 (i_callV mc ms 7 2 T_WR_isDesk co_WR_isDesk (i_ifeq (B_WR_link_16 mc ms Rt g) (i_al 0 (i_il 2 (i_callV mc ms 7 2 T_WR_isDesk co_WR_isDesk (i_ifne (B_WR_link_19 mc ms Rt g) (B_WR_link_16 mc ms Rt g)))))))))
set_option maxRecDepth 20000 in
theorem s_WR_link_0 {X : zMa} {mc ms : Nat} {Rt : Option zAV → zMp → Prop} (hC : zCx X RX6 cX6_link 6 134 mc ms (some .int) false Rt) : zLe (B_WR_link_0 mc ms Rt (zG X)) (zG X 0) :=
  (sd_al_n hC rfl dX6_link_0 ((sd_il_n hC rfl dX6_link_1 ((sd_cV hC c_WR_isDesk yv_WR_isDesk (ci := 7) rfl rfl ml_WR_69 (by decide) (by decide) dX6_link_2 ((sd_ifeq hC (tgt := 16) (by decide) dX6_link_5 (s_WR_link_16 hC) ((sd_al_n hC rfl dX6_link_8 ((sd_il_n hC rfl dX6_link_9 ((sd_cV hC c_WR_isDesk yv_WR_isDesk (ci := 7) rfl rfl ml_WR_69 (by decide) (by decide) dX6_link_10 ((sd_ifne hC (tgt := 19) (by decide) dX6_link_13 (s_WR_link_19 hC) (s_WR_link_16 hC))))))))))))))))
theorem c_WR_link (l : Launch) : zCT2 l yX6_link cX6_link 3 (some .int) 6 134 T_WR_link := by
  intro As M Rt c1 c2 hT
  obtain ⟨x, u, v, rfl, rfl, hI, hR0, hR1, hR2⟩ := hT
  have hd := hI.dk
  refine zMet_of false (by decide +kernel) (fun h => by first | rfl | cases h) (Nat.le_of_ble_eq_true rfl) (fun X hN hC => ?_)
  show zG X 0 [some (.inr (0, 0, 0)), some (.inl (.int u)), some (.inl (.int v))] [] (pic x) 0 0
  refine s_WR_link_0 hC _ _ _ _ _ ?_
  simp only [B_WR_link_0, B_WR_link_16, B_WR_link_19, B_WR_link_35, co_WR_inMask, co_WR_isDesk, co_WR_openLane, co_WR_reach, i_ic, i_lc, i_nul, i_il, i_ll, i_al, i_is, i_as, i_ls, i_inc, i_iadd, i_isub, i_imul, i_iand, i_ior, i_ixor, i_idiv, i_irem, i_ishl, i_ishr, i_ladd, i_lsub, i_land, i_lor, i_i2l, i_lushr, i_lshl, i_lshr, i_lcmp, i_dup, i_pop, i_dx1, i_dup2, i_ifeq, i_ifne, i_iflt, i_ifge, i_ifgt, i_ifle, i_iceq, i_icne, i_iclt, i_icge, i_icgt, i_icle, i_ifn, i_gf, i_pf, i_ial, i_bal, i_lal, i_aal, i_ias, i_las, i_bas, i_aas, i_alen, i_newa, i_new, i_anew, i_cast, i_oi, i_call, i_callV, i_callV2, i_callI, i_iret, i_zret, i_lret, i_vret, i_aret, i_mmx, i_mmn, i_gsE, i_aceq, i_no, i_acq, i_sw, zsw, zlg, zls, znl, zfg, zcs, zsp, zrc, zisn, zft, zc1, zto, Value.category, List.set_cons_zero, List.set_cons_succ, List.length_cons, List.length_nil, Option.toList, List.append, List.nil_append, List.cons_append, true_and, and_true, Nat.add_zero, Nat.zero_le, Nat.zero_add, Nat.le_refl, Nat.reduceAdd, Nat.reduceLeDiff, co0, z0, zn_0, zn_1, zn_2, zn_3, zn_4, zn_5, zn_8, zn_12, zn_24, zn_121, zn_144, zn_256, zn_300, zn_600, zn_720, zn_1204, zn_1280, zn_2400, zn_4816, zn_14400, zn_90000, p_main, x_main]
  refine ⟨x, u, rfl, rfl, fun h => hR0 (fun q => by rw [q.1] at h; exact absurd h (by decide)), fun h => ?_⟩
  have hu := zb_n0 h
  simp only [p_main, x_main, i_ic, i_lc, i_nul, i_il, i_ll, i_al, i_is, i_as, i_ls, i_inc, i_iadd, i_isub, i_imul, i_iand, i_ior, i_ixor, i_idiv, i_irem, i_ishl, i_ishr, i_ladd, i_lsub, i_land, i_lor, i_i2l, i_lushr, i_lshl, i_lshr, i_lcmp, i_dup, i_pop, i_dx1, i_dup2, i_ifeq, i_ifne, i_iflt, i_ifge, i_ifgt, i_ifle, i_iceq, i_icne, i_iclt, i_icge, i_icgt, i_icle, i_ifn, i_gf, i_pf, i_ial, i_bal, i_lal, i_aal, i_ias, i_las, i_bas, i_aas, i_alen, i_newa, i_new, i_anew, i_cast, i_oi, i_call, i_callV, i_callV2, i_callI, i_iret, i_zret, i_lret, i_vret, i_aret, i_mmx, i_mmn, i_gsE, i_aceq, i_no, i_acq, i_sw, zsw, zlg, zls, znl, zfg, zcs, zsp, zrc, zisn, zft, zc1, zto, Value.category, List.set_cons_zero, List.set_cons_succ, List.length_cons, List.length_nil, Option.toList, List.append, List.nil_append, List.cons_append, true_and, and_true, Nat.add_zero, Nat.zero_le, Nat.zero_add, Nat.le_refl, Nat.reduceAdd, Nat.reduceLeDiff, co0, z0, zn_0, zn_1, zn_2, zn_3, zn_4, zn_5, zn_8, zn_12, zn_24, zn_121, zn_144, zn_256, zn_300, zn_600, zn_720, zn_1204, zn_1280, zn_2400, zn_4816, zn_14400, zn_90000]
  refine ⟨x, v, rfl, rfl, fun h => ?_, fun h => hR0 (fun q => by rw [q.2] at h; exact absurd h (by decide))⟩
  have hv := zb_n0 h
  obtain ⟨a, ha, rfl⟩ := isn_t (by omega) hu
  obtain ⟨b, hb, rfl⟩ := isn_t (by omega) hv
  simp only [p_main, x_main, i_ic, i_lc, i_nul, i_il, i_ll, i_al, i_is, i_as, i_ls, i_inc, i_iadd, i_isub, i_imul, i_iand, i_ior, i_ixor, i_idiv, i_irem, i_ishl, i_ishr, i_ladd, i_lsub, i_land, i_lor, i_i2l, i_lushr, i_lshl, i_lshr, i_lcmp, i_dup, i_pop, i_dx1, i_dup2, i_ifeq, i_ifne, i_iflt, i_ifge, i_ifgt, i_ifle, i_iceq, i_icne, i_iclt, i_icge, i_icgt, i_icle, i_ifn, i_gf, i_pf, i_ial, i_bal, i_lal, i_aal, i_ias, i_las, i_bas, i_aas, i_alen, i_newa, i_new, i_anew, i_cast, i_oi, i_call, i_callV, i_callV2, i_callI, i_iret, i_zret, i_lret, i_vret, i_aret, i_mmx, i_mmn, i_gsE, i_aceq, i_no, i_acq, i_sw, zsw, zlg, zls, znl, zfg, zcs, zsp, zrc, zisn, zft, zc1, zto, Value.category, List.set_cons_zero, List.set_cons_succ, List.length_cons, List.length_nil, Option.toList, List.append, List.nil_append, List.cons_append, true_and, and_true, Nat.add_zero, Nat.zero_le, Nat.zero_add, Nat.le_refl, Nat.reduceAdd, Nat.reduceLeDiff, co0, z0, zn_0, zn_1, zn_2, zn_3, zn_4, zn_5, zn_8, zn_12, zn_24, zn_121, zn_144, zn_256, zn_300, zn_600, zn_720, zn_1204, zn_1280, zn_2400, zn_4816, zn_14400, zn_90000]
  refine ⟨x, nI a, -1, rfl, rfl, hd, ?_⟩
  simp only [p_main, x_main, i_ic, i_lc, i_nul, i_il, i_ll, i_al, i_is, i_as, i_ls, i_inc, i_iadd, i_isub, i_imul, i_iand, i_ior, i_ixor, i_idiv, i_irem, i_ishl, i_ishr, i_ladd, i_lsub, i_land, i_lor, i_i2l, i_lushr, i_lshl, i_lshr, i_lcmp, i_dup, i_pop, i_dx1, i_dup2, i_ifeq, i_ifne, i_iflt, i_ifge, i_ifgt, i_ifle, i_iceq, i_icne, i_iclt, i_icge, i_icgt, i_icle, i_ifn, i_gf, i_pf, i_ial, i_bal, i_lal, i_aal, i_ias, i_las, i_bas, i_aas, i_alen, i_newa, i_new, i_anew, i_cast, i_oi, i_call, i_callV, i_callV2, i_callI, i_iret, i_zret, i_lret, i_vret, i_aret, i_mmx, i_mmn, i_gsE, i_aceq, i_no, i_acq, i_sw, zsw, zlg, zls, znl, zfg, zcs, zsp, zrc, zisn, zft, zc1, zto, Value.category, List.set_cons_zero, List.set_cons_succ, List.length_cons, List.length_nil, Option.toList, List.append, List.nil_append, List.cons_append, true_and, and_true, Nat.add_zero, Nat.zero_le, Nat.zero_add, Nat.le_refl, Nat.reduceAdd, Nat.reduceLeDiff, co0, z0, zn_0, zn_1, zn_2, zn_3, zn_4, zn_5, zn_8, zn_12, zn_24, zn_121, zn_144, zn_256, zn_300, zn_600, zn_720, zn_1204, zn_1280, zn_2400, zn_4816, zn_14400, zn_90000]
  refine ⟨_, nI b, rfl, ?_⟩
  simp only [p_main, x_main, i_ic, i_lc, i_nul, i_il, i_ll, i_al, i_is, i_as, i_ls, i_inc, i_iadd, i_isub, i_imul, i_iand, i_ior, i_ixor, i_idiv, i_irem, i_ishl, i_ishr, i_ladd, i_lsub, i_land, i_lor, i_i2l, i_lushr, i_lshl, i_lshr, i_lcmp, i_dup, i_pop, i_dx1, i_dup2, i_ifeq, i_ifne, i_iflt, i_ifge, i_ifgt, i_ifle, i_iceq, i_icne, i_iclt, i_icge, i_icgt, i_icle, i_ifn, i_gf, i_pf, i_ial, i_bal, i_lal, i_aal, i_ias, i_las, i_bas, i_aas, i_alen, i_newa, i_new, i_anew, i_cast, i_oi, i_call, i_callV, i_callV2, i_callI, i_iret, i_zret, i_lret, i_vret, i_aret, i_mmx, i_mmn, i_gsE, i_aceq, i_no, i_acq, i_sw, zsw, zlg, zls, znl, zfg, zcs, zsp, zrc, zisn, zft, zc1, zto, Value.category, List.set_cons_zero, List.set_cons_succ, List.length_cons, List.length_nil, Option.toList, List.append, List.nil_append, List.cons_append, true_and, and_true, Nat.add_zero, Nat.zero_le, Nat.zero_add, Nat.le_refl, Nat.reduceAdd, Nat.reduceLeDiff, co0, z0, zn_0, zn_1, zn_2, zn_3, zn_4, zn_5, zn_8, zn_12, zn_24, zn_121, zn_144, zn_256, zn_300, zn_600, zn_720, zn_1204, zn_1280, zn_2400, zn_4816, zn_14400, zn_90000]
  refine ⟨fun h => ?_, fun h => hR1 a b ha hb rfl rfl (zb_n0 h)⟩
  obtain ⟨hc1, hc2, hR⟩ := hR2 a b ha hb rfl rfl (zb_0.mp h)
  refine ⟨by omega, by omega, x, a, b, rfl, rfl, hI, by omega, by omega, ?_⟩
  have hI1 : Iv (ol x a b) := Iv_ol hI
  have hdk := lk_dk x a b
  have hI3 : Iv (lk_x x a b) := Iv_lkx hI
  unfold lk_x at hR hc1 hc2 hdk hI3
  generalize ol x a b = y1 at hI1 hR hc1 hc2 hdk hI3
  simp only [p_main, x_main, i_ic, i_lc, i_nul, i_il, i_ll, i_al, i_is, i_as, i_ls, i_inc, i_iadd, i_isub, i_imul, i_iand, i_ior, i_ixor, i_idiv, i_irem, i_ishl, i_ishr, i_ladd, i_lsub, i_land, i_lor, i_i2l, i_lushr, i_lshl, i_lshr, i_lcmp, i_dup, i_pop, i_dx1, i_dup2, i_ifeq, i_ifne, i_iflt, i_ifge, i_ifgt, i_ifle, i_iceq, i_icne, i_iclt, i_icge, i_icgt, i_icle, i_ifn, i_gf, i_pf, i_ial, i_bal, i_lal, i_aal, i_ias, i_las, i_bas, i_aas, i_alen, i_newa, i_new, i_anew, i_cast, i_oi, i_call, i_callV, i_callV2, i_callI, i_iret, i_zret, i_lret, i_vret, i_aret, i_mmx, i_mmn, i_gsE, i_aceq, i_no, i_acq, i_sw, zsw, zlg, zls, znl, zfg, zcs, zsp, zrc, zisn, zft, zc1, zto, Value.category, List.set_cons_zero, List.set_cons_succ, List.length_cons, List.length_nil, Option.toList, List.append, List.nil_append, List.cons_append, true_and, and_true, Nat.add_zero, Nat.zero_le, Nat.zero_add, Nat.le_refl, Nat.reduceAdd, Nat.reduceLeDiff, co0, z0, zn_0, zn_1, zn_2, zn_3, zn_4, zn_5, zn_8, zn_12, zn_24, zn_121, zn_144, zn_256, zn_300, zn_600, zn_720, zn_1204, zn_1280, zn_2400, zn_4816, zn_14400, zn_90000]
  refine ⟨by omega, by omega, y1, b, a, rfl, rfl, hI1, by omega, by omega, ?_⟩
  have hI2 : Iv (ol y1 b a) := Iv_ol hI1
  generalize ol y1 b a = y2 at hI2 hR hc1 hc2 hdk hI3
  simp only [p_main, x_main, i_ic, i_lc, i_nul, i_il, i_ll, i_al, i_is, i_as, i_ls, i_inc, i_iadd, i_isub, i_imul, i_iand, i_ior, i_ixor, i_idiv, i_irem, i_ishl, i_ishr, i_ladd, i_lsub, i_land, i_lor, i_i2l, i_lushr, i_lshl, i_lshr, i_lcmp, i_dup, i_pop, i_dx1, i_dup2, i_ifeq, i_ifne, i_iflt, i_ifge, i_ifgt, i_ifle, i_iceq, i_icne, i_iclt, i_icge, i_icgt, i_icle, i_ifn, i_gf, i_pf, i_ial, i_bal, i_lal, i_aal, i_ias, i_las, i_bas, i_aas, i_alen, i_newa, i_new, i_anew, i_cast, i_oi, i_call, i_callV, i_callV2, i_callI, i_iret, i_zret, i_lret, i_vret, i_aret, i_mmx, i_mmn, i_gsE, i_aceq, i_no, i_acq, i_sw, zsw, zlg, zls, znl, zfg, zcs, zsp, zrc, zisn, zft, zc1, zto, Value.category, List.set_cons_zero, List.set_cons_succ, List.length_cons, List.length_nil, Option.toList, List.append, List.nil_append, List.cons_append, true_and, and_true, Nat.add_zero, Nat.zero_le, Nat.zero_add, Nat.le_refl, Nat.reduceAdd, Nat.reduceLeDiff, co0, z0, zn_0, zn_1, zn_2, zn_3, zn_4, zn_5, zn_8, zn_12, zn_24, zn_121, zn_144, zn_256, zn_300, zn_600, zn_720, zn_1204, zn_1280, zn_2400, zn_4816, zn_14400, zn_90000]
  refine ⟨m_k (by decide), by decide, ?_⟩
  have e4 := pu_lk y2 (x_lk y2 + 1)
  simp only [x_main, g_dk_lk, g_lk_lk, g_po_lk, g_ne_lk, g_td_lk, g_nb_lk, g_ln_lk, g_nr_lk, g_nw_lk, g_nn_lk, g_ns_lk, g_or_lk, g_ow_lk, g_on_lk, g_nl_lk, g_ng_lk, g_rg_lk, g_lc_lk, g_cp_lk, g_gb_lk, g_sp_lk, g_kn_lk, g_me_lk, g_ob_lk, g_fk_lk, g_fz_lk, g_fg_lk, g_rd_lk, g_rz_lk, g_rh_lk, g_nd_lk, g_nm_lk, g_nv_lk, g_nh_lk, g_nf_lk, g_wr_lk, g_wa_lk, g_lz_lk, g_lf_lk, g_li_lk, g_lt_lk, g_lb_lk, g_lr_lk, g_tn_lk, g_tf_lk] at e4
  rw [e4]
  generalize u_lk y2 (x_lk y2 + 1) = y3 at hR hc1 hc2 hdk hI3
  unfold tn2_c at hc1 hc2
  unfold tn2 at hR
  simp only [p_main, x_main, i_ic, i_lc, i_nul, i_il, i_ll, i_al, i_is, i_as, i_ls, i_inc, i_iadd, i_isub, i_imul, i_iand, i_ior, i_ixor, i_idiv, i_irem, i_ishl, i_ishr, i_ladd, i_lsub, i_land, i_lor, i_i2l, i_lushr, i_lshl, i_lshr, i_lcmp, i_dup, i_pop, i_dx1, i_dup2, i_ifeq, i_ifne, i_iflt, i_ifge, i_ifgt, i_ifle, i_iceq, i_icne, i_iclt, i_icge, i_icgt, i_icle, i_ifn, i_gf, i_pf, i_ial, i_bal, i_lal, i_aal, i_ias, i_las, i_bas, i_aas, i_alen, i_newa, i_new, i_anew, i_cast, i_oi, i_call, i_callV, i_callV2, i_callI, i_iret, i_zret, i_lret, i_vret, i_aret, i_mmx, i_mmn, i_gsE, i_aceq, i_no, i_acq, i_sw, zsw, zlg, zls, znl, zfg, zcs, zsp, zrc, zisn, zft, zc1, zto, Value.category, List.set_cons_zero, List.set_cons_succ, List.length_cons, List.length_nil, Option.toList, List.append, List.nil_append, List.cons_append, true_and, and_true, Nat.add_zero, Nat.zero_le, Nat.zero_add, Nat.le_refl, Nat.reduceAdd, Nat.reduceLeDiff, co0, z0, zn_0, zn_1, zn_2, zn_3, zn_4, zn_5, zn_8, zn_12, zn_24, zn_121, zn_144, zn_256, zn_300, zn_600, zn_720, zn_1204, zn_1280, zn_2400, zn_4816, zn_14400, zn_90000]
  refine ⟨2 * tn_c y3 (nI a) (x_dk y3), 6 * tn_c y3 (nI a) (x_dk y3), by omega, by omega, y3, nI a, rfl, rfl, hI3, Nat.le_refl _, Nat.le_refl _, ?_⟩
  have hk4 := tn_k_n y3 (nI a) (x_dk y3)
  have hI4 : Iv (tn y3 (nI a) (x_dk y3)) := Iv_tn hI3 _
  generalize tn y3 (nI a) (x_dk y3) = y4 at hR hc1 hc2 hk4 hI4
  rw [← hk4.1] at hR hc1 hc2 ⊢
  simp only [p_main, x_main, i_ic, i_lc, i_nul, i_il, i_ll, i_al, i_is, i_as, i_ls, i_inc, i_iadd, i_isub, i_imul, i_iand, i_ior, i_ixor, i_idiv, i_irem, i_ishl, i_ishr, i_ladd, i_lsub, i_land, i_lor, i_i2l, i_lushr, i_lshl, i_lshr, i_lcmp, i_dup, i_pop, i_dx1, i_dup2, i_ifeq, i_ifne, i_iflt, i_ifge, i_ifgt, i_ifle, i_iceq, i_icne, i_iclt, i_icge, i_icgt, i_icle, i_ifn, i_gf, i_pf, i_ial, i_bal, i_lal, i_aal, i_ias, i_las, i_bas, i_aas, i_alen, i_newa, i_new, i_anew, i_cast, i_oi, i_call, i_callV, i_callV2, i_callI, i_iret, i_zret, i_lret, i_vret, i_aret, i_mmx, i_mmn, i_gsE, i_aceq, i_no, i_acq, i_sw, zsw, zlg, zls, znl, zfg, zcs, zsp, zrc, zisn, zft, zc1, zto, Value.category, List.set_cons_zero, List.set_cons_succ, List.length_cons, List.length_nil, Option.toList, List.append, List.nil_append, List.cons_append, true_and, and_true, Nat.add_zero, Nat.zero_le, Nat.zero_add, Nat.le_refl, Nat.reduceAdd, Nat.reduceLeDiff, co0, z0, zn_0, zn_1, zn_2, zn_3, zn_4, zn_5, zn_8, zn_12, zn_24, zn_121, zn_144, zn_256, zn_300, zn_600, zn_720, zn_1204, zn_1280, zn_2400, zn_4816, zn_14400, zn_90000]
  refine ⟨2 * tn_c y4 (nI b) (x_dk y4), 6 * tn_c y4 (nI b) (x_dk y4), by omega, by omega, y4, nI b, rfl, rfl, hI4, Nat.le_refl _, Nat.le_refl _, ?_⟩
  exact ⟨by omega, by omega, hR⟩
noncomputable def ct_x (x : zSt) (a b : Nat) : zSt := u_lk (cl (cl x a b) b a) (x_lk (cl (cl x a b) b a) - 1)
theorem cl_dk (x : zSt) (u v : Nat) : x_dk (cl x u v) = x_dk x := by
  unfold cl
  split
  · rfl
  · next q _ => unfold cl_2; rw [g_dk_nb, g_dk_ln]; exact (cl_1k x q).2.2.1
theorem ct_dk (x : zSt) (a b : Nat) : x_dk (ct_x x a b) = x_dk x := (cl_dk (cl x a b) b a).trans (cl_dk x a b)
theorem cl_ns (x : zSt) (u v : Nat) : x_ns (cl x u v) ≤ x_ns x + 1 := by
  unfold cl
  split
  · omega
  · next q _ => unfold cl_2; rw [g_ns_nb, g_ns_ln]; exact Nat.le_of_eq (cl_1k x q).2.2.2.2
def T_WR_cut (As : List zAV) (M : zMp) (Rt : Option zAV → zMp → Prop) (c1 c2 : Nat) : Prop := ∃ x u v, As = [.inr (0, 0, 0), .inl (.int u), .inl (.int v)] ∧ M = pic x ∧ Iv x ∧ x_ns x < 599 ∧ (¬ (isn (x_dk x) u = true ∧ isn (x_dk x) v = true) → Rt (some (.inl (.int (-2)))) M) ∧ (isn (x_dk x) u = true → isn (x_dk x) v = true → lnF x u v = none → Rt (some (.inl (.int (-5)))) M) ∧ (∀ a b q, a < x_dk x → b < x_dk x → u = nI a → v = nI b → lnF x u v = some q → 2 + 2 * tn2_c (ct_x x a b) u v ≤ c1 ∧ 2000 + 6 * tn2_c (ct_x x a b) u v ≤ c2 ∧ Rt (some (.inl (.int 0))) (pic (tn2 (ct_x x a b) u v)))
theorem dX6_cut_0 : decode cX6_cut 0 = .ok (.aload_n 0, 1) := by decide +kernel
theorem dX6_cut_1 : decode cX6_cut 1 = .ok (.iload_n 1, 1) := by decide +kernel
theorem dX6_cut_2 : decode cX6_cut 2 = .ok (.invokevirtual 69, 3) := by decide +kernel
theorem dX6_cut_5 : decode cX6_cut 5 = .ok (.ifCond .eq 11, 3) := by decide +kernel
theorem dX6_cut_8 : decode cX6_cut 8 = .ok (.aload_n 0, 1) := by decide +kernel
theorem dX6_cut_9 : decode cX6_cut 9 = .ok (.iload_n 2, 1) := by decide +kernel
theorem dX6_cut_10 : decode cX6_cut 10 = .ok (.invokevirtual 69, 3) := by decide +kernel
theorem dX6_cut_13 : decode cX6_cut 13 = .ok (.ifCond .ne 6, 3) := by decide +kernel
theorem dX6_cut_16 : decode cX6_cut 16 = .ok (.bipush (-2), 2) := by decide +kernel
theorem dX6_cut_18 : decode cX6_cut 18 = .ok (.ireturn, 1) := by decide +kernel
theorem dX6_cut_19 : decode cX6_cut 19 = .ok (.aload_n 0, 1) := by decide +kernel
theorem dX6_cut_20 : decode cX6_cut 20 = .ok (.iload_n 1, 1) := by decide +kernel
theorem dX6_cut_21 : decode cX6_cut 21 = .ok (.iload_n 2, 1) := by decide +kernel
theorem dX6_cut_22 : decode cX6_cut 22 = .ok (.invokevirtual 89, 3) := by decide +kernel
theorem dX6_cut_25 : decode cX6_cut 25 = .ok (.ifnonnull 6, 3) := by decide +kernel
theorem dX6_cut_28 : decode cX6_cut 28 = .ok (.bipush (-5), 2) := by decide +kernel
theorem dX6_cut_30 : decode cX6_cut 30 = .ok (.ireturn, 1) := by decide +kernel
theorem dX6_cut_31 : decode cX6_cut 31 = .ok (.aload_n 0, 1) := by decide +kernel
theorem dX6_cut_32 : decode cX6_cut 32 = .ok (.iload_n 1, 1) := by decide +kernel
theorem dX6_cut_33 : decode cX6_cut 33 = .ok (.iload_n 2, 1) := by decide +kernel
theorem dX6_cut_34 : decode cX6_cut 34 = .ok (.invokevirtual 93, 3) := by decide +kernel
theorem dX6_cut_37 : decode cX6_cut 37 = .ok (.aload_n 0, 1) := by decide +kernel
theorem dX6_cut_38 : decode cX6_cut 38 = .ok (.iload_n 2, 1) := by decide +kernel
theorem dX6_cut_39 : decode cX6_cut 39 = .ok (.iload_n 1, 1) := by decide +kernel
theorem dX6_cut_40 : decode cX6_cut 40 = .ok (.invokevirtual 93, 3) := by decide +kernel
theorem dX6_cut_43 : decode cX6_cut 43 = .ok (.aload_n 0, 1) := by decide +kernel
theorem dX6_cut_44 : decode cX6_cut 44 = .ok (.dup, 1) := by decide +kernel
theorem dX6_cut_45 : decode cX6_cut 45 = .ok (.getfield 57, 3) := by decide +kernel
theorem dX6_cut_48 : decode cX6_cut 48 = .ok (.iconst 1, 1) := by decide +kernel
theorem dX6_cut_49 : decode cX6_cut 49 = .ok (.isub, 1) := by decide +kernel
theorem dX6_cut_50 : decode cX6_cut 50 = .ok (.putfield 57, 3) := by decide +kernel
theorem dX6_cut_53 : decode cX6_cut 53 = .ok (.aload_n 0, 1) := by decide +kernel
theorem dX6_cut_54 : decode cX6_cut 54 = .ok (.iload_n 1, 1) := by decide +kernel
theorem dX6_cut_55 : decode cX6_cut 55 = .ok (.invokevirtual 85, 3) := by decide +kernel
theorem dX6_cut_58 : decode cX6_cut 58 = .ok (.aload_n 0, 1) := by decide +kernel
theorem dX6_cut_59 : decode cX6_cut 59 = .ok (.iload_n 2, 1) := by decide +kernel
theorem dX6_cut_60 : decode cX6_cut 60 = .ok (.invokevirtual 85, 3) := by decide +kernel
theorem dX6_cut_63 : decode cX6_cut 63 = .ok (.iconst 0, 1) := by decide +kernel
theorem dX6_cut_64 : decode cX6_cut 64 = .ok (.ireturn, 1) := by decide +kernel
def B_WR_cut_31 (mc ms : Nat) (Rt : Option zAV → zMp → Prop) (g : Nat → zKT) : zKT :=
  (i_al 0 (i_il 1 (i_il 2 (i_callV mc ms 7 3 T_WR_closeLane co_WR_closeLane (i_al 0 (i_il 2 (i_il 1 (i_callV mc ms 7 3 T_WR_closeLane co_WR_closeLane (i_al 0 (i_dup (i_gf 7 10 (i_ic 1 (i_isub (i_pf 7 10 .int (i_al 0 (i_il 1 (i_callV2 mc ms 7 2 T_WR_tellNeighbours (i_al 0 (i_il 2 (i_callV2 mc ms 7 2 T_WR_tellNeighbours (i_ic 0 (i_iret mc ms Rt))))))))))))))))))))))
set_option maxRecDepth 20000 in
theorem s_WR_cut_31 {X : zMa} {mc ms : Nat} {Rt : Option zAV → zMp → Prop} (hC : zCx X RX6 cX6_cut 8 196 mc ms (some .int) false Rt) : zLe (B_WR_cut_31 mc ms Rt (zG X)) (zG X 31) :=
  (sd_al_n hC rfl dX6_cut_31 ((sd_il_n hC rfl dX6_cut_32 ((sd_il_n hC rfl dX6_cut_33 ((sd_cV hC c_WR_closeLane yv_WR_closeLane (ci := 7) rfl rfl ml_WR_93 (by decide) (by decide) dX6_cut_34 ((sd_al_n hC rfl dX6_cut_37 ((sd_il_n hC rfl dX6_cut_38 ((sd_il_n hC rfl dX6_cut_39 ((sd_cV hC c_WR_closeLane yv_WR_closeLane (ci := 7) rfl rfl ml_WR_93 (by decide) (by decide) dX6_cut_40 ((sd_al_n hC rfl dX6_cut_43 ((sd_dup hC dX6_cut_44 ((sd_gf hC (ci := 7) (fk := 10) rfl wi_WR (by decide) fl_WR_57 (Or.inl rfl) dX6_cut_45 ((sd_iconst hC (by decide) dX6_cut_48 ((sd_isub hC dX6_cut_49 ((sd_pf hC (ci := 7) (fk := 10) rfl wi_WR tyX6 tyX6_ok nmX6 (by decide) fl_WR_57 (Or.inl rfl) (Or.inl rfl) dX6_cut_50 ((sd_al_n hC rfl dX6_cut_53 ((sd_il_n hC rfl dX6_cut_54 ((sd_cV2 hC c_WR_tellNeighbours yv_WR_tellNeighbours (ci := 7) rfl rfl ml_WR_85 (by decide) (by decide) dX6_cut_55 ((sd_al_n hC rfl dX6_cut_58 ((sd_il_n hC rfl dX6_cut_59 ((sd_cV2 hC c_WR_tellNeighbours yv_WR_tellNeighbours (ci := 7) rfl rfl ml_WR_85 (by decide) (by decide) dX6_cut_60 ((sd_iconst hC (by decide) dX6_cut_63 ((sd_iret hC dX6_cut_64)))))))))))))))))))))))))))))))))))))))))))
def B_WR_cut_19 (mc ms : Nat) (Rt : Option zAV → zMp → Prop) (g : Nat → zKT) : zKT :=
  (i_al 0 (i_il 1 (i_il 2 (i_callV mc ms 7 3 T_WR_laneFrom co_WR_laneFrom (i_ifn (i_ic (-5) (i_iret mc ms Rt)) (B_WR_cut_31 mc ms Rt g))))))
set_option maxRecDepth 20000 in
theorem s_WR_cut_19 {X : zMa} {mc ms : Nat} {Rt : Option zAV → zMp → Prop} (hC : zCx X RX6 cX6_cut 8 196 mc ms (some .int) false Rt) : zLe (B_WR_cut_19 mc ms Rt (zG X)) (zG X 19) :=
  (sd_al_n hC rfl dX6_cut_19 ((sd_il_n hC rfl dX6_cut_20 ((sd_il_n hC rfl dX6_cut_21 ((sd_cV hC c_WR_laneFrom yv_WR_laneFrom (ci := 7) rfl rfl ml_WR_89 (by decide) (by decide) dX6_cut_22 ((sd_ifnonnull hC (tgt := 31) (by decide) dX6_cut_25 (s_WR_cut_31 hC) ((sd_bipush hC (by decide) dX6_cut_28 ((sd_iret hC dX6_cut_30)))))))))))))
def B_WR_cut_16 (mc ms : Nat) (Rt : Option zAV → zMp → Prop) (g : Nat → zKT) : zKT :=
  (i_ic (-2) (i_iret mc ms Rt))
set_option maxRecDepth 20000 in
theorem s_WR_cut_16 {X : zMa} {mc ms : Nat} {Rt : Option zAV → zMp → Prop} (hC : zCx X RX6 cX6_cut 8 196 mc ms (some .int) false Rt) : zLe (B_WR_cut_16 mc ms Rt (zG X)) (zG X 16) :=
  (sd_bipush hC (by decide) dX6_cut_16 ((sd_iret hC dX6_cut_18)))
def B_WR_cut_0 (mc ms : Nat) (Rt : Option zAV → zMp → Prop) (g : Nat → zKT) : zKT :=
  (i_al 0 (i_il 1 (i_callV mc ms 7 2 T_WR_isDesk co_WR_isDesk (i_ifeq (B_WR_cut_16 mc ms Rt g) (i_al 0 (i_il 2 (i_callV mc ms 7 2 T_WR_isDesk co_WR_isDesk (i_ifne (B_WR_cut_19 mc ms Rt g) (B_WR_cut_16 mc ms Rt g)))))))))
set_option maxRecDepth 20000 in
theorem s_WR_cut_0 {X : zMa} {mc ms : Nat} {Rt : Option zAV → zMp → Prop} (hC : zCx X RX6 cX6_cut 8 196 mc ms (some .int) false Rt) : zLe (B_WR_cut_0 mc ms Rt (zG X)) (zG X 0) :=
  (sd_al_n hC rfl dX6_cut_0 ((sd_il_n hC rfl dX6_cut_1 ((sd_cV hC c_WR_isDesk yv_WR_isDesk (ci := 7) rfl rfl ml_WR_69 (by decide) (by decide) dX6_cut_2 ((sd_ifeq hC (tgt := 16) (by decide) dX6_cut_5 (s_WR_cut_16 hC) ((sd_al_n hC rfl dX6_cut_8 ((sd_il_n hC rfl dX6_cut_9 ((sd_cV hC c_WR_isDesk yv_WR_isDesk (ci := 7) rfl rfl ml_WR_69 (by decide) (by decide) dX6_cut_10 ((sd_ifne hC (tgt := 19) (by decide) dX6_cut_13 (s_WR_cut_19 hC) (s_WR_cut_16 hC))))))))))))))))
theorem c_WR_cut (l : Launch) : zCT2 l yX6_cut cX6_cut 3 (some .int) 8 196 T_WR_cut := by
  intro As M Rt c1 c2 hT
  obtain ⟨x, u, v, rfl, rfl, hI, hns, hR0, hR1, hR2⟩ := hT
  have hd := hI.dk
  refine zMet_of false (by decide +kernel) (fun h => by first | rfl | cases h) (Nat.le_of_ble_eq_true rfl) (fun X hN hC => ?_)
  show zG X 0 [some (.inr (0, 0, 0)), some (.inl (.int u)), some (.inl (.int v))] [] (pic x) 0 0
  refine s_WR_cut_0 hC _ _ _ _ _ ?_
  simp only [B_WR_cut_0, B_WR_cut_16, B_WR_cut_19, B_WR_cut_31, co_WR_closeLane, co_WR_isDesk, co_WR_laneFrom, i_ic, i_lc, i_nul, i_il, i_ll, i_al, i_is, i_as, i_ls, i_inc, i_iadd, i_isub, i_imul, i_iand, i_ior, i_ixor, i_idiv, i_irem, i_ishl, i_ishr, i_ladd, i_lsub, i_land, i_lor, i_i2l, i_lushr, i_lshl, i_lshr, i_lcmp, i_dup, i_pop, i_dx1, i_dup2, i_ifeq, i_ifne, i_iflt, i_ifge, i_ifgt, i_ifle, i_iceq, i_icne, i_iclt, i_icge, i_icgt, i_icle, i_ifn, i_gf, i_pf, i_ial, i_bal, i_lal, i_aal, i_ias, i_las, i_bas, i_aas, i_alen, i_newa, i_new, i_anew, i_cast, i_oi, i_call, i_callV, i_callV2, i_callI, i_iret, i_zret, i_lret, i_vret, i_aret, i_mmx, i_mmn, i_gsE, i_aceq, i_no, i_acq, i_sw, zsw, zlg, zls, znl, zfg, zcs, zsp, zrc, zisn, zft, zc1, zto, Value.category, List.set_cons_zero, List.set_cons_succ, List.length_cons, List.length_nil, Option.toList, List.append, List.nil_append, List.cons_append, true_and, and_true, Nat.add_zero, Nat.zero_le, Nat.zero_add, Nat.le_refl, Nat.reduceAdd, Nat.reduceLeDiff, co0, z0, zn_0, zn_1, zn_2, zn_3, zn_4, zn_5, zn_8, zn_12, zn_24, zn_121, zn_144, zn_256, zn_300, zn_600, zn_720, zn_1204, zn_1280, zn_2400, zn_4816, zn_14400, zn_90000, p_main, x_main]
  refine ⟨x, u, rfl, rfl, fun h => hR0 (fun q => by rw [q.1] at h; exact absurd h (by decide)), fun h => ?_⟩
  have hu := zb_n0 h
  simp only [p_main, x_main, i_ic, i_lc, i_nul, i_il, i_ll, i_al, i_is, i_as, i_ls, i_inc, i_iadd, i_isub, i_imul, i_iand, i_ior, i_ixor, i_idiv, i_irem, i_ishl, i_ishr, i_ladd, i_lsub, i_land, i_lor, i_i2l, i_lushr, i_lshl, i_lshr, i_lcmp, i_dup, i_pop, i_dx1, i_dup2, i_ifeq, i_ifne, i_iflt, i_ifge, i_ifgt, i_ifle, i_iceq, i_icne, i_iclt, i_icge, i_icgt, i_icle, i_ifn, i_gf, i_pf, i_ial, i_bal, i_lal, i_aal, i_ias, i_las, i_bas, i_aas, i_alen, i_newa, i_new, i_anew, i_cast, i_oi, i_call, i_callV, i_callV2, i_callI, i_iret, i_zret, i_lret, i_vret, i_aret, i_mmx, i_mmn, i_gsE, i_aceq, i_no, i_acq, i_sw, zsw, zlg, zls, znl, zfg, zcs, zsp, zrc, zisn, zft, zc1, zto, Value.category, List.set_cons_zero, List.set_cons_succ, List.length_cons, List.length_nil, Option.toList, List.append, List.nil_append, List.cons_append, true_and, and_true, Nat.add_zero, Nat.zero_le, Nat.zero_add, Nat.le_refl, Nat.reduceAdd, Nat.reduceLeDiff, co0, z0, zn_0, zn_1, zn_2, zn_3, zn_4, zn_5, zn_8, zn_12, zn_24, zn_121, zn_144, zn_256, zn_300, zn_600, zn_720, zn_1204, zn_1280, zn_2400, zn_4816, zn_14400, zn_90000]
  refine ⟨x, v, rfl, rfl, fun h => ?_, fun h => hR0 (fun q => by rw [q.2] at h; exact absurd h (by decide))⟩
  have hv := zb_n0 h
  simp only [p_main, x_main, i_ic, i_lc, i_nul, i_il, i_ll, i_al, i_is, i_as, i_ls, i_inc, i_iadd, i_isub, i_imul, i_iand, i_ior, i_ixor, i_idiv, i_irem, i_ishl, i_ishr, i_ladd, i_lsub, i_land, i_lor, i_i2l, i_lushr, i_lshl, i_lshr, i_lcmp, i_dup, i_pop, i_dx1, i_dup2, i_ifeq, i_ifne, i_iflt, i_ifge, i_ifgt, i_ifle, i_iceq, i_icne, i_iclt, i_icge, i_icgt, i_icle, i_ifn, i_gf, i_pf, i_ial, i_bal, i_lal, i_aal, i_ias, i_las, i_bas, i_aas, i_alen, i_newa, i_new, i_anew, i_cast, i_oi, i_call, i_callV, i_callV2, i_callI, i_iret, i_zret, i_lret, i_vret, i_aret, i_mmx, i_mmn, i_gsE, i_aceq, i_no, i_acq, i_sw, zsw, zlg, zls, znl, zfg, zcs, zsp, zrc, zisn, zft, zc1, zto, Value.category, List.set_cons_zero, List.set_cons_succ, List.length_cons, List.length_nil, Option.toList, List.append, List.nil_append, List.cons_append, true_and, and_true, Nat.add_zero, Nat.zero_le, Nat.zero_add, Nat.le_refl, Nat.reduceAdd, Nat.reduceLeDiff, co0, z0, zn_0, zn_1, zn_2, zn_3, zn_4, zn_5, zn_8, zn_12, zn_24, zn_121, zn_144, zn_256, zn_300, zn_600, zn_720, zn_1204, zn_1280, zn_2400, zn_4816, zn_14400, zn_90000]
  refine ⟨x, u, v, rfl, rfl, hd, ?_⟩
  rcases lnF_c hI u v with e0 | ⟨q, e0, hok⟩
  · rw [e0]
    simp only [zln, Option.map_none, zov, i_ic, i_lc, i_nul, i_il, i_ll, i_al, i_is, i_as, i_ls, i_inc, i_iadd, i_isub, i_imul, i_iand, i_ior, i_ixor, i_idiv, i_irem, i_ishl, i_ishr, i_ladd, i_lsub, i_land, i_lor, i_i2l, i_lushr, i_lshl, i_lshr, i_lcmp, i_dup, i_pop, i_dx1, i_dup2, i_ifeq, i_ifne, i_iflt, i_ifge, i_ifgt, i_ifle, i_iceq, i_icne, i_iclt, i_icge, i_icgt, i_icle, i_ifn, i_gf, i_pf, i_ial, i_bal, i_lal, i_aal, i_ias, i_las, i_bas, i_aas, i_alen, i_newa, i_new, i_anew, i_cast, i_oi, i_call, i_callV, i_callV2, i_callI, i_iret, i_zret, i_lret, i_vret, i_aret, i_mmx, i_mmn, i_gsE, i_aceq, i_no, i_acq, i_sw, zsw, zlg, zls, znl, zfg, zcs, zsp, zrc, zisn, zft, zc1, zto, Value.category, List.set_cons_zero, List.set_cons_succ, List.length_cons, List.length_nil, Option.toList, List.append, List.nil_append, List.cons_append, true_and, and_true, Nat.add_zero, Nat.zero_le, Nat.zero_add, Nat.le_refl, Nat.reduceAdd, Nat.reduceLeDiff, co0, z0, zn_0, zn_1, zn_2, zn_3, zn_4, zn_5, zn_8, zn_12, zn_24, zn_121, zn_144, zn_256, zn_300, zn_600, zn_720, zn_1204, zn_1280, zn_2400, zn_4816, zn_14400, zn_90000]
    exact hR1 hu hv e0
  rw [e0]
  obtain ⟨a, ha, rfl⟩ := isn_t (by omega) hu
  obtain ⟨b, hb, rfl⟩ := isn_t (by omega) hv
  obtain ⟨hc1, hc2, hR⟩ := hR2 a b q ha hb rfl rfl e0
  simp only [zln, Option.map_some, zov, p_main, x_main, i_ic, i_lc, i_nul, i_il, i_ll, i_al, i_is, i_as, i_ls, i_inc, i_iadd, i_isub, i_imul, i_iand, i_ior, i_ixor, i_idiv, i_irem, i_ishl, i_ishr, i_ladd, i_lsub, i_land, i_lor, i_i2l, i_lushr, i_lshl, i_lshr, i_lcmp, i_dup, i_pop, i_dx1, i_dup2, i_ifeq, i_ifne, i_iflt, i_ifge, i_ifgt, i_ifle, i_iceq, i_icne, i_iclt, i_icge, i_icgt, i_icle, i_ifn, i_gf, i_pf, i_ial, i_bal, i_lal, i_aal, i_ias, i_las, i_bas, i_aas, i_alen, i_newa, i_new, i_anew, i_cast, i_oi, i_call, i_callV, i_callV2, i_callI, i_iret, i_zret, i_lret, i_vret, i_aret, i_mmx, i_mmn, i_gsE, i_aceq, i_no, i_acq, i_sw, zsw, zlg, zls, znl, zfg, zcs, zsp, zrc, zisn, zft, zc1, zto, Value.category, List.set_cons_zero, List.set_cons_succ, List.length_cons, List.length_nil, Option.toList, List.append, List.nil_append, List.cons_append, true_and, and_true, Nat.add_zero, Nat.zero_le, Nat.zero_add, Nat.le_refl, Nat.reduceAdd, Nat.reduceLeDiff, co0, z0, zn_0, zn_1, zn_2, zn_3, zn_4, zn_5, zn_8, zn_12, zn_24, zn_121, zn_144, zn_256, zn_300, zn_600, zn_720, zn_1204, zn_1280, zn_2400, zn_4816, zn_14400, zn_90000]
  refine ⟨by omega, by omega, x, a, b, rfl, rfl, hI, by omega, by omega, by omega, ?_⟩
  have hI1 : Iv (cl x a b) := Iv_clx hI (by omega)
  have hn1 := cl_ns x a b
  have hdk := ct_dk x a b
  have hI3 : Iv (ct_x x a b) := Iv_lk (Iv_clx hI1 (by omega))
  unfold ct_x at hR hc1 hc2 hdk hI3
  generalize cl x a b = y1 at hI1 hn1 hR hc1 hc2 hdk hI3
  simp only [p_main, x_main, i_ic, i_lc, i_nul, i_il, i_ll, i_al, i_is, i_as, i_ls, i_inc, i_iadd, i_isub, i_imul, i_iand, i_ior, i_ixor, i_idiv, i_irem, i_ishl, i_ishr, i_ladd, i_lsub, i_land, i_lor, i_i2l, i_lushr, i_lshl, i_lshr, i_lcmp, i_dup, i_pop, i_dx1, i_dup2, i_ifeq, i_ifne, i_iflt, i_ifge, i_ifgt, i_ifle, i_iceq, i_icne, i_iclt, i_icge, i_icgt, i_icle, i_ifn, i_gf, i_pf, i_ial, i_bal, i_lal, i_aal, i_ias, i_las, i_bas, i_aas, i_alen, i_newa, i_new, i_anew, i_cast, i_oi, i_call, i_callV, i_callV2, i_callI, i_iret, i_zret, i_lret, i_vret, i_aret, i_mmx, i_mmn, i_gsE, i_aceq, i_no, i_acq, i_sw, zsw, zlg, zls, znl, zfg, zcs, zsp, zrc, zisn, zft, zc1, zto, Value.category, List.set_cons_zero, List.set_cons_succ, List.length_cons, List.length_nil, Option.toList, List.append, List.nil_append, List.cons_append, true_and, and_true, Nat.add_zero, Nat.zero_le, Nat.zero_add, Nat.le_refl, Nat.reduceAdd, Nat.reduceLeDiff, co0, z0, zn_0, zn_1, zn_2, zn_3, zn_4, zn_5, zn_8, zn_12, zn_24, zn_121, zn_144, zn_256, zn_300, zn_600, zn_720, zn_1204, zn_1280, zn_2400, zn_4816, zn_14400, zn_90000]
  refine ⟨by omega, by omega, y1, b, a, rfl, rfl, hI1, by omega, by omega, by omega, ?_⟩
  generalize cl y1 b a = y2 at hR hc1 hc2 hdk hI3
  simp only [p_main, x_main, i_ic, i_lc, i_nul, i_il, i_ll, i_al, i_is, i_as, i_ls, i_inc, i_iadd, i_isub, i_imul, i_iand, i_ior, i_ixor, i_idiv, i_irem, i_ishl, i_ishr, i_ladd, i_lsub, i_land, i_lor, i_i2l, i_lushr, i_lshl, i_lshr, i_lcmp, i_dup, i_pop, i_dx1, i_dup2, i_ifeq, i_ifne, i_iflt, i_ifge, i_ifgt, i_ifle, i_iceq, i_icne, i_iclt, i_icge, i_icgt, i_icle, i_ifn, i_gf, i_pf, i_ial, i_bal, i_lal, i_aal, i_ias, i_las, i_bas, i_aas, i_alen, i_newa, i_new, i_anew, i_cast, i_oi, i_call, i_callV, i_callV2, i_callI, i_iret, i_zret, i_lret, i_vret, i_aret, i_mmx, i_mmn, i_gsE, i_aceq, i_no, i_acq, i_sw, zsw, zlg, zls, znl, zfg, zcs, zsp, zrc, zisn, zft, zc1, zto, Value.category, List.set_cons_zero, List.set_cons_succ, List.length_cons, List.length_nil, Option.toList, List.append, List.nil_append, List.cons_append, true_and, and_true, Nat.add_zero, Nat.zero_le, Nat.zero_add, Nat.le_refl, Nat.reduceAdd, Nat.reduceLeDiff, co0, z0, zn_0, zn_1, zn_2, zn_3, zn_4, zn_5, zn_8, zn_12, zn_24, zn_121, zn_144, zn_256, zn_300, zn_600, zn_720, zn_1204, zn_1280, zn_2400, zn_4816, zn_14400, zn_90000]
  refine ⟨m_k (by decide), by decide, ?_⟩
  have e4 := pu_lk y2 (x_lk y2 - 1)
  simp only [x_main, g_dk_lk, g_lk_lk, g_po_lk, g_ne_lk, g_td_lk, g_nb_lk, g_ln_lk, g_nr_lk, g_nw_lk, g_nn_lk, g_ns_lk, g_or_lk, g_ow_lk, g_on_lk, g_nl_lk, g_ng_lk, g_rg_lk, g_lc_lk, g_cp_lk, g_gb_lk, g_sp_lk, g_kn_lk, g_me_lk, g_ob_lk, g_fk_lk, g_fz_lk, g_fg_lk, g_rd_lk, g_rz_lk, g_rh_lk, g_nd_lk, g_nm_lk, g_nv_lk, g_nh_lk, g_nf_lk, g_wr_lk, g_wa_lk, g_lz_lk, g_lf_lk, g_li_lk, g_lt_lk, g_lb_lk, g_lr_lk, g_tn_lk, g_tf_lk] at e4
  rw [e4]
  generalize u_lk y2 (x_lk y2 - 1) = y3 at hR hc1 hc2 hdk hI3
  unfold tn2_c at hc1 hc2
  unfold tn2 at hR
  simp only [p_main, x_main, i_ic, i_lc, i_nul, i_il, i_ll, i_al, i_is, i_as, i_ls, i_inc, i_iadd, i_isub, i_imul, i_iand, i_ior, i_ixor, i_idiv, i_irem, i_ishl, i_ishr, i_ladd, i_lsub, i_land, i_lor, i_i2l, i_lushr, i_lshl, i_lshr, i_lcmp, i_dup, i_pop, i_dx1, i_dup2, i_ifeq, i_ifne, i_iflt, i_ifge, i_ifgt, i_ifle, i_iceq, i_icne, i_iclt, i_icge, i_icgt, i_icle, i_ifn, i_gf, i_pf, i_ial, i_bal, i_lal, i_aal, i_ias, i_las, i_bas, i_aas, i_alen, i_newa, i_new, i_anew, i_cast, i_oi, i_call, i_callV, i_callV2, i_callI, i_iret, i_zret, i_lret, i_vret, i_aret, i_mmx, i_mmn, i_gsE, i_aceq, i_no, i_acq, i_sw, zsw, zlg, zls, znl, zfg, zcs, zsp, zrc, zisn, zft, zc1, zto, Value.category, List.set_cons_zero, List.set_cons_succ, List.length_cons, List.length_nil, Option.toList, List.append, List.nil_append, List.cons_append, true_and, and_true, Nat.add_zero, Nat.zero_le, Nat.zero_add, Nat.le_refl, Nat.reduceAdd, Nat.reduceLeDiff, co0, z0, zn_0, zn_1, zn_2, zn_3, zn_4, zn_5, zn_8, zn_12, zn_24, zn_121, zn_144, zn_256, zn_300, zn_600, zn_720, zn_1204, zn_1280, zn_2400, zn_4816, zn_14400, zn_90000]
  refine ⟨2 * tn_c y3 (nI a) (x_dk y3), 6 * tn_c y3 (nI a) (x_dk y3), by omega, by omega, y3, nI a, rfl, rfl, hI3, Nat.le_refl _, Nat.le_refl _, ?_⟩
  have hk4 := tn_k_n y3 (nI a) (x_dk y3)
  have hI4 : Iv (tn y3 (nI a) (x_dk y3)) := Iv_tn hI3 _
  generalize tn y3 (nI a) (x_dk y3) = y4 at hR hc1 hc2 hk4 hI4
  rw [← hk4.1] at hR hc1 hc2 ⊢
  simp only [p_main, x_main, i_ic, i_lc, i_nul, i_il, i_ll, i_al, i_is, i_as, i_ls, i_inc, i_iadd, i_isub, i_imul, i_iand, i_ior, i_ixor, i_idiv, i_irem, i_ishl, i_ishr, i_ladd, i_lsub, i_land, i_lor, i_i2l, i_lushr, i_lshl, i_lshr, i_lcmp, i_dup, i_pop, i_dx1, i_dup2, i_ifeq, i_ifne, i_iflt, i_ifge, i_ifgt, i_ifle, i_iceq, i_icne, i_iclt, i_icge, i_icgt, i_icle, i_ifn, i_gf, i_pf, i_ial, i_bal, i_lal, i_aal, i_ias, i_las, i_bas, i_aas, i_alen, i_newa, i_new, i_anew, i_cast, i_oi, i_call, i_callV, i_callV2, i_callI, i_iret, i_zret, i_lret, i_vret, i_aret, i_mmx, i_mmn, i_gsE, i_aceq, i_no, i_acq, i_sw, zsw, zlg, zls, znl, zfg, zcs, zsp, zrc, zisn, zft, zc1, zto, Value.category, List.set_cons_zero, List.set_cons_succ, List.length_cons, List.length_nil, Option.toList, List.append, List.nil_append, List.cons_append, true_and, and_true, Nat.add_zero, Nat.zero_le, Nat.zero_add, Nat.le_refl, Nat.reduceAdd, Nat.reduceLeDiff, co0, z0, zn_0, zn_1, zn_2, zn_3, zn_4, zn_5, zn_8, zn_12, zn_24, zn_121, zn_144, zn_256, zn_300, zn_600, zn_720, zn_1204, zn_1280, zn_2400, zn_4816, zn_14400, zn_90000]
  refine ⟨2 * tn_c y4 (nI b) (x_dk y4), 6 * tn_c y4 (nI b) (x_dk y4), by omega, by omega, y4, nI b, rfl, rfl, hI4, Nat.le_refl _, Nat.le_refl _, ?_⟩
  exact ⟨by omega, by omega, hR⟩
def mv_x (x : zSt) (r : Nat) (d : Int32) : zSt := u_rd x (va_up (x_rd x) r d)
theorem Iv_mv {x : zSt} {r d : Nat} (h : Iv x) (hd : d < x_dk x) : Iv (mv_x x r (nI d)) := by
  obtain ⟨h1, h2, h3, h4, h5, h6, h7, h8, h9, h10, h11⟩ := h
  refine ⟨h1, h2, h3, h4, h5, fun i hi => ⟨(h6 i hi).1, ?_⟩, h7, h8, h9, h10, h11⟩
  show ∃ k, k < x_dk x ∧ va_up (x_rd x) r (nI d) i = nI k
  simp only [va_up]
  split
  · exact ⟨d, hd, rfl⟩
  · exact (h6 i hi).2
def T_WR_move (As : List zAV) (M : zMp) (Rt : Option zAV → zMp → Prop) (c1 c2 : Nat) : Prop := ∃ x k d, As = [.inr (0, 0, 0), .inl (.int k), .inl (.int d)] ∧ M = pic x ∧ Iv x ∧ (¬ (isn (x_nr x) k = true ∧ isn (x_dk x) d = true) → Rt (some (.inl (.int (-2)))) M) ∧ (∀ r, r < x_nr x → k = nI r → isn (x_dk x) d = true → x_rd x r = d → Rt (some (.inl (.int (-4)))) M) ∧ (∀ r, r < x_nr x → k = nI r → isn (x_dk x) d = true → x_rd x r ≠ d → 2 * tn2_c (mv_x x r d) (x_rd x r) d ≤ c1 ∧ 6 * tn2_c (mv_x x r d) (x_rd x r) d ≤ c2 ∧ Rt (some (.inl (.int 0))) (pic (tn2 (mv_x x r d) (x_rd x r) d)))
theorem dX6_move_0 : decode cX6_move 0 = .ok (.aload_n 0, 1) := by decide +kernel
theorem dX6_move_1 : decode cX6_move 1 = .ok (.iload_n 1, 1) := by decide +kernel
theorem dX6_move_2 : decode cX6_move 2 = .ok (.invokevirtual 108, 3) := by decide +kernel
theorem dX6_move_5 : decode cX6_move 5 = .ok (.astore_n 3, 1) := by decide +kernel
theorem dX6_move_6 : decode cX6_move 6 = .ok (.aload_n 3, 1) := by decide +kernel
theorem dX6_move_7 : decode cX6_move 7 = .ok (.ifnull 11, 3) := by decide +kernel
theorem dX6_move_10 : decode cX6_move 10 = .ok (.aload_n 0, 1) := by decide +kernel
theorem dX6_move_11 : decode cX6_move 11 = .ok (.iload_n 2, 1) := by decide +kernel
theorem dX6_move_12 : decode cX6_move 12 = .ok (.invokevirtual 69, 3) := by decide +kernel
theorem dX6_move_15 : decode cX6_move 15 = .ok (.ifCond .ne 6, 3) := by decide +kernel
theorem dX6_move_18 : decode cX6_move 18 = .ok (.bipush (-2), 2) := by decide +kernel
theorem dX6_move_20 : decode cX6_move 20 = .ok (.ireturn, 1) := by decide +kernel
theorem dX6_move_21 : decode cX6_move 21 = .ok (.aload_n 3, 1) := by decide +kernel
theorem dX6_move_22 : decode cX6_move 22 = .ok (.getfield 112, 3) := by decide +kernel
theorem dX6_move_25 : decode cX6_move 25 = .ok (.iload_n 2, 1) := by decide +kernel
theorem dX6_move_26 : decode cX6_move 26 = .ok (.if_icmp .ne 6, 3) := by decide +kernel
theorem dX6_move_29 : decode cX6_move 29 = .ok (.bipush (-4), 2) := by decide +kernel
theorem dX6_move_31 : decode cX6_move 31 = .ok (.ireturn, 1) := by decide +kernel
theorem dX6_move_32 : decode cX6_move 32 = .ok (.aload_n 3, 1) := by decide +kernel
theorem dX6_move_33 : decode cX6_move 33 = .ok (.getfield 112, 3) := by decide +kernel
theorem dX6_move_36 : decode cX6_move 36 = .ok (.istore 4, 2) := by decide +kernel
theorem dX6_move_38 : decode cX6_move 38 = .ok (.aload_n 3, 1) := by decide +kernel
theorem dX6_move_39 : decode cX6_move 39 = .ok (.iload_n 2, 1) := by decide +kernel
theorem dX6_move_40 : decode cX6_move 40 = .ok (.putfield 112, 3) := by decide +kernel
theorem dX6_move_43 : decode cX6_move 43 = .ok (.aload_n 0, 1) := by decide +kernel
theorem dX6_move_44 : decode cX6_move 44 = .ok (.iload 4, 2) := by decide +kernel
theorem dX6_move_46 : decode cX6_move 46 = .ok (.invokevirtual 85, 3) := by decide +kernel
theorem dX6_move_49 : decode cX6_move 49 = .ok (.aload_n 0, 1) := by decide +kernel
theorem dX6_move_50 : decode cX6_move 50 = .ok (.iload_n 2, 1) := by decide +kernel
theorem dX6_move_51 : decode cX6_move 51 = .ok (.invokevirtual 85, 3) := by decide +kernel
theorem dX6_move_54 : decode cX6_move 54 = .ok (.iconst 0, 1) := by decide +kernel
theorem dX6_move_55 : decode cX6_move 55 = .ok (.ireturn, 1) := by decide +kernel
def B_WR_move_32 (mc ms : Nat) (Rt : Option zAV → zMp → Prop) (g : Nat → zKT) : zKT :=
  (i_al 3 (i_gf 4 0 (i_is 4 (i_al 3 (i_il 2 (i_pf 4 0 .int (i_al 0 (i_il 4 (i_callV2 mc ms 7 2 T_WR_tellNeighbours (i_al 0 (i_il 2 (i_callV2 mc ms 7 2 T_WR_tellNeighbours (i_ic 0 (i_iret mc ms Rt))))))))))))))
set_option maxRecDepth 20000 in
theorem s_WR_move_32 {X : zMa} {mc ms : Nat} {Rt : Option zAV → zMp → Prop} (hC : zCx X RX6 cX6_move 6 134 mc ms (some .int) false Rt) (hN : zNL X = 5) : zLe (B_WR_move_32 mc ms Rt (zG X)) (zG X 32) :=
  (sd_al_n hC rfl dX6_move_32 ((sd_gf hC (ci := 4) (fk := 0) rfl wi_Rdr (by decide) fl_WR_112 (Or.inl rfl) dX6_move_33 ((sd_is hC (by rw [hN]; decide) dX6_move_36 ((sd_al_n hC rfl dX6_move_38 ((sd_il_n hC rfl dX6_move_39 ((sd_pf hC (ci := 4) (fk := 0) rfl wi_Rdr tyX3 tyX3_ok nmX3 (by decide) fl_WR_112 (Or.inl rfl) (Or.inl rfl) dX6_move_40 ((sd_al_n hC rfl dX6_move_43 ((sd_il hC dX6_move_44 ((sd_cV2 hC c_WR_tellNeighbours yv_WR_tellNeighbours (ci := 7) rfl rfl ml_WR_85 (by decide) (by decide) dX6_move_46 ((sd_al_n hC rfl dX6_move_49 ((sd_il_n hC rfl dX6_move_50 ((sd_cV2 hC c_WR_tellNeighbours yv_WR_tellNeighbours (ci := 7) rfl rfl ml_WR_85 (by decide) (by decide) dX6_move_51 ((sd_iconst hC (by decide) dX6_move_54 ((sd_iret hC dX6_move_55)))))))))))))))))))))))))))
def B_WR_move_21 (mc ms : Nat) (Rt : Option zAV → zMp → Prop) (g : Nat → zKT) : zKT :=
  (i_al 3 (i_gf 4 0 (i_il 2 (i_icne (B_WR_move_32 mc ms Rt g) (i_ic (-4) (i_iret mc ms Rt))))))
set_option maxRecDepth 20000 in
theorem s_WR_move_21 {X : zMa} {mc ms : Nat} {Rt : Option zAV → zMp → Prop} (hC : zCx X RX6 cX6_move 6 134 mc ms (some .int) false Rt) (hN : zNL X = 5) : zLe (B_WR_move_21 mc ms Rt (zG X)) (zG X 21) :=
  (sd_al_n hC rfl dX6_move_21 ((sd_gf hC (ci := 4) (fk := 0) rfl wi_Rdr (by decide) fl_WR_112 (Or.inl rfl) dX6_move_22 ((sd_il_n hC rfl dX6_move_25 ((sd_icne hC (tgt := 32) (by decide) dX6_move_26 (s_WR_move_32 hC hN) ((sd_bipush hC (by decide) dX6_move_29 ((sd_iret hC dX6_move_31)))))))))))
def B_WR_move_18 (mc ms : Nat) (Rt : Option zAV → zMp → Prop) (g : Nat → zKT) : zKT :=
  (i_ic (-2) (i_iret mc ms Rt))
set_option maxRecDepth 20000 in
theorem s_WR_move_18 {X : zMa} {mc ms : Nat} {Rt : Option zAV → zMp → Prop} (hC : zCx X RX6 cX6_move 6 134 mc ms (some .int) false Rt) (hN : zNL X = 5) : zLe (B_WR_move_18 mc ms Rt (zG X)) (zG X 18) :=
  (sd_bipush hC (by decide) dX6_move_18 ((sd_iret hC dX6_move_20)))
def B_WR_move_0 (mc ms : Nat) (Rt : Option zAV → zMp → Prop) (g : Nat → zKT) : zKT :=
  (i_al 0 (i_il 1 (i_callV mc ms 7 2 T_WR_findReader co_WR_findReader (i_as 3 (i_al 3 (i_ifn (B_WR_move_18 mc ms Rt g) (i_al 0 (i_il 2 (i_callV mc ms 7 2 T_WR_isDesk co_WR_isDesk (i_ifne (B_WR_move_21 mc ms Rt g) (B_WR_move_18 mc ms Rt g)))))))))))
set_option maxRecDepth 20000 in
theorem s_WR_move_0 {X : zMa} {mc ms : Nat} {Rt : Option zAV → zMp → Prop} (hC : zCx X RX6 cX6_move 6 134 mc ms (some .int) false Rt) (hN : zNL X = 5) : zLe (B_WR_move_0 mc ms Rt (zG X)) (zG X 0) :=
  (sd_al_n hC rfl dX6_move_0 ((sd_il_n hC rfl dX6_move_1 ((sd_cV hC c_WR_findReader yv_WR_findReader (ci := 7) rfl rfl ml_WR_108 (by decide) (by decide) dX6_move_2 ((sd_as_n hC rfl (by rw [hN]; decide) dX6_move_5 ((sd_al_n hC rfl dX6_move_6 ((sd_ifnull hC (tgt := 18) (by decide) dX6_move_7 (s_WR_move_18 hC hN) ((sd_al_n hC rfl dX6_move_10 ((sd_il_n hC rfl dX6_move_11 ((sd_cV hC c_WR_isDesk yv_WR_isDesk (ci := 7) rfl rfl ml_WR_69 (by decide) (by decide) dX6_move_12 ((sd_ifne hC (tgt := 21) (by decide) dX6_move_15 (s_WR_move_21 hC hN) (s_WR_move_18 hC hN))))))))))))))))))))
theorem c_WR_move (l : Launch) : zCT2 l yX6_move cX6_move 5 (some .int) 6 134 T_WR_move := by
  intro As M Rt c1 c2 hT
  obtain ⟨x, k, d, rfl, rfl, hI, hR0, hR1, hR2⟩ := hT
  have hd := hI.dk
  have hlim := hI.lim
  refine zMet_of false (by decide +kernel) (fun h => by first | rfl | cases h) (Nat.le_of_ble_eq_true rfl) (fun X hN hC => ?_)
  show zG X 0 [some (.inr (0, 0, 0)), some (.inl (.int k)), some (.inl (.int d)), none, none] [] (pic x) 0 0
  refine s_WR_move_0 hC hN _ _ _ _ _ ?_
  simp only [B_WR_move_0, B_WR_move_18, B_WR_move_21, B_WR_move_32, co_WR_findReader, co_WR_isDesk, i_ic, i_lc, i_nul, i_il, i_ll, i_al, i_is, i_as, i_ls, i_inc, i_iadd, i_isub, i_imul, i_iand, i_ior, i_ixor, i_idiv, i_irem, i_ishl, i_ishr, i_ladd, i_lsub, i_land, i_lor, i_i2l, i_lushr, i_lshl, i_lshr, i_lcmp, i_dup, i_pop, i_dx1, i_dup2, i_ifeq, i_ifne, i_iflt, i_ifge, i_ifgt, i_ifle, i_iceq, i_icne, i_iclt, i_icge, i_icgt, i_icle, i_ifn, i_gf, i_pf, i_ial, i_bal, i_lal, i_aal, i_ias, i_las, i_bas, i_aas, i_alen, i_newa, i_new, i_anew, i_cast, i_oi, i_call, i_callV, i_callV2, i_callI, i_iret, i_zret, i_lret, i_vret, i_aret, i_mmx, i_mmn, i_gsE, i_aceq, i_no, i_acq, i_sw, zsw, zlg, zls, znl, zfg, zcs, zsp, zrc, zisn, zft, zc1, zto, Value.category, List.set_cons_zero, List.set_cons_succ, List.length_cons, List.length_nil, Option.toList, List.append, List.nil_append, List.cons_append, true_and, and_true, Nat.add_zero, Nat.zero_le, Nat.zero_add, Nat.le_refl, Nat.reduceAdd, Nat.reduceLeDiff, co0, z0, zn_0, zn_1, zn_2, zn_3, zn_4, zn_5, zn_8, zn_12, zn_24, zn_121, zn_144, zn_256, zn_300, zn_600, zn_720, zn_1204, zn_1280, zn_2400, zn_4816, zn_14400, zn_90000, p_main, x_main]
  refine ⟨x, k, rfl, rfl, hI, ?_⟩
  rcases fnd_c (K := 10) (n := x_nr x) (by omega) k with ⟨e, e2⟩ | ⟨r, hr, rfl, e, e2⟩
  · rw [e]
    simp only [zov, i_ic, i_lc, i_nul, i_il, i_ll, i_al, i_is, i_as, i_ls, i_inc, i_iadd, i_isub, i_imul, i_iand, i_ior, i_ixor, i_idiv, i_irem, i_ishl, i_ishr, i_ladd, i_lsub, i_land, i_lor, i_i2l, i_lushr, i_lshl, i_lshr, i_lcmp, i_dup, i_pop, i_dx1, i_dup2, i_ifeq, i_ifne, i_iflt, i_ifge, i_ifgt, i_ifle, i_iceq, i_icne, i_iclt, i_icge, i_icgt, i_icle, i_ifn, i_gf, i_pf, i_ial, i_bal, i_lal, i_aal, i_ias, i_las, i_bas, i_aas, i_alen, i_newa, i_new, i_anew, i_cast, i_oi, i_call, i_callV, i_callV2, i_callI, i_iret, i_zret, i_lret, i_vret, i_aret, i_mmx, i_mmn, i_gsE, i_aceq, i_no, i_acq, i_sw, zsw, zlg, zls, znl, zfg, zcs, zsp, zrc, zisn, zft, zc1, zto, Value.category, List.set_cons_zero, List.set_cons_succ, List.length_cons, List.length_nil, Option.toList, List.append, List.nil_append, List.cons_append, true_and, and_true, Nat.add_zero, Nat.zero_le, Nat.zero_add, Nat.le_refl, Nat.reduceAdd, Nat.reduceLeDiff, co0, z0, zn_0, zn_1, zn_2, zn_3, zn_4, zn_5, zn_8, zn_12, zn_24, zn_121, zn_144, zn_256, zn_300, zn_600, zn_720, zn_1204, zn_1280, zn_2400, zn_4816, zn_14400, zn_90000]
    exact hR0 (fun q => by rw [q.1] at e2; cases e2)
  rw [e]
  have hr' : r < x_or x := Nat.lt_of_lt_of_le hr hI.cnt.1
  simp only [zov, p_main, x_main, p_rdr hr', x_rdr, i_ic, i_lc, i_nul, i_il, i_ll, i_al, i_is, i_as, i_ls, i_inc, i_iadd, i_isub, i_imul, i_iand, i_ior, i_ixor, i_idiv, i_irem, i_ishl, i_ishr, i_ladd, i_lsub, i_land, i_lor, i_i2l, i_lushr, i_lshl, i_lshr, i_lcmp, i_dup, i_pop, i_dx1, i_dup2, i_ifeq, i_ifne, i_iflt, i_ifge, i_ifgt, i_ifle, i_iceq, i_icne, i_iclt, i_icge, i_icgt, i_icle, i_ifn, i_gf, i_pf, i_ial, i_bal, i_lal, i_aal, i_ias, i_las, i_bas, i_aas, i_alen, i_newa, i_new, i_anew, i_cast, i_oi, i_call, i_callV, i_callV2, i_callI, i_iret, i_zret, i_lret, i_vret, i_aret, i_mmx, i_mmn, i_gsE, i_aceq, i_no, i_acq, i_sw, zsw, zlg, zls, znl, zfg, zcs, zsp, zrc, zisn, zft, zc1, zto, Value.category, List.set_cons_zero, List.set_cons_succ, List.length_cons, List.length_nil, Option.toList, List.append, List.nil_append, List.cons_append, true_and, and_true, Nat.add_zero, Nat.zero_le, Nat.zero_add, Nat.le_refl, Nat.reduceAdd, Nat.reduceLeDiff, co0, z0, zn_0, zn_1, zn_2, zn_3, zn_4, zn_5, zn_8, zn_12, zn_24, zn_121, zn_144, zn_256, zn_300, zn_600, zn_720, zn_1204, zn_1280, zn_2400, zn_4816, zn_14400, zn_90000]
  refine ⟨x, d, rfl, rfl, fun h => ?_, fun h => hR0 (fun q => by rw [q.2] at h; exact absurd h (by decide))⟩
  have hdd := zb_n0 h
  simp only [zov, p_main, x_main, p_rdr hr', x_rdr, i_ic, i_lc, i_nul, i_il, i_ll, i_al, i_is, i_as, i_ls, i_inc, i_iadd, i_isub, i_imul, i_iand, i_ior, i_ixor, i_idiv, i_irem, i_ishl, i_ishr, i_ladd, i_lsub, i_land, i_lor, i_i2l, i_lushr, i_lshl, i_lshr, i_lcmp, i_dup, i_pop, i_dx1, i_dup2, i_ifeq, i_ifne, i_iflt, i_ifge, i_ifgt, i_ifle, i_iceq, i_icne, i_iclt, i_icge, i_icgt, i_icle, i_ifn, i_gf, i_pf, i_ial, i_bal, i_lal, i_aal, i_ias, i_las, i_bas, i_aas, i_alen, i_newa, i_new, i_anew, i_cast, i_oi, i_call, i_callV, i_callV2, i_callI, i_iret, i_zret, i_lret, i_vret, i_aret, i_mmx, i_mmn, i_gsE, i_aceq, i_no, i_acq, i_sw, zsw, zlg, zls, znl, zfg, zcs, zsp, zrc, zisn, zft, zc1, zto, Value.category, List.set_cons_zero, List.set_cons_succ, List.length_cons, List.length_nil, Option.toList, List.append, List.nil_append, List.cons_append, true_and, and_true, Nat.add_zero, Nat.zero_le, Nat.zero_add, Nat.le_refl, Nat.reduceAdd, Nat.reduceLeDiff, co0, z0, zn_0, zn_1, zn_2, zn_3, zn_4, zn_5, zn_8, zn_12, zn_24, zn_121, zn_144, zn_256, zn_300, zn_600, zn_720, zn_1204, zn_1280, zn_2400, zn_4816, zn_14400, zn_90000]
  refine ⟨fun hne => ?_, fun heq => hR1 r hr rfl hdd heq⟩
  obtain ⟨hc1, hc2, hR⟩ := hR2 r hr rfl hdd hne
  refine ⟨m_k (by decide), by decide, ?_⟩
  have e4 := pu_rd x r d hr'
  simp only [x_rdr, g_dk_rd, g_lk_rd, g_po_rd, g_ne_rd, g_td_rd, g_nb_rd, g_ln_rd, g_nr_rd, g_nw_rd, g_nn_rd, g_ns_rd, g_or_rd, g_ow_rd, g_on_rd, g_nl_rd, g_ng_rd, g_rg_rd, g_lc_rd, g_cp_rd, g_gb_rd, g_sp_rd, g_kn_rd, g_me_rd, g_ob_rd, g_fk_rd, g_fz_rd, g_fg_rd, g_rd_rd, g_rz_rd, g_rh_rd, g_nd_rd, g_nm_rd, g_nv_rd, g_nh_rd, g_nf_rd, g_wr_rd, g_wa_rd, g_lz_rd, g_lf_rd, g_li_rd, g_lt_rd, g_lb_rd, g_lr_rd, g_tn_rd, g_tf_rd, va_up, if_true] at e4
  rw [e4]
  obtain ⟨dd, hdd2, rfl⟩ := isn_t (by omega) hdd
  have hI3 : Iv (mv_x x r (nI dd)) := Iv_mv hI hdd2
  rw [show u_rd x (va_up (x_rd x) r (nI dd)) = mv_x x r (nI dd) from rfl]
  generalize mv_x x r (nI dd) = y3 at hR hc1 hc2 hI3
  unfold tn2_c at hc1 hc2
  unfold tn2 at hR
  simp only [p_main, x_main, i_ic, i_lc, i_nul, i_il, i_ll, i_al, i_is, i_as, i_ls, i_inc, i_iadd, i_isub, i_imul, i_iand, i_ior, i_ixor, i_idiv, i_irem, i_ishl, i_ishr, i_ladd, i_lsub, i_land, i_lor, i_i2l, i_lushr, i_lshl, i_lshr, i_lcmp, i_dup, i_pop, i_dx1, i_dup2, i_ifeq, i_ifne, i_iflt, i_ifge, i_ifgt, i_ifle, i_iceq, i_icne, i_iclt, i_icge, i_icgt, i_icle, i_ifn, i_gf, i_pf, i_ial, i_bal, i_lal, i_aal, i_ias, i_las, i_bas, i_aas, i_alen, i_newa, i_new, i_anew, i_cast, i_oi, i_call, i_callV, i_callV2, i_callI, i_iret, i_zret, i_lret, i_vret, i_aret, i_mmx, i_mmn, i_gsE, i_aceq, i_no, i_acq, i_sw, zsw, zlg, zls, znl, zfg, zcs, zsp, zrc, zisn, zft, zc1, zto, Value.category, List.set_cons_zero, List.set_cons_succ, List.length_cons, List.length_nil, Option.toList, List.append, List.nil_append, List.cons_append, true_and, and_true, Nat.add_zero, Nat.zero_le, Nat.zero_add, Nat.le_refl, Nat.reduceAdd, Nat.reduceLeDiff, co0, z0, zn_0, zn_1, zn_2, zn_3, zn_4, zn_5, zn_8, zn_12, zn_24, zn_121, zn_144, zn_256, zn_300, zn_600, zn_720, zn_1204, zn_1280, zn_2400, zn_4816, zn_14400, zn_90000]
  refine ⟨2 * tn_c y3 (x_rd x r) (x_dk y3), 6 * tn_c y3 (x_rd x r) (x_dk y3), by omega, by omega, y3, x_rd x r, rfl, rfl, hI3, Nat.le_refl _, Nat.le_refl _, ?_⟩
  have hk4 := tn_k_n y3 (x_rd x r) (x_dk y3)
  have hI4 : Iv (tn y3 (x_rd x r) (x_dk y3)) := Iv_tn hI3 _
  generalize tn y3 (x_rd x r) (x_dk y3) = y4 at hR hc1 hc2 hk4 hI4
  rw [← hk4.1] at hR hc1 hc2 ⊢
  simp only [p_main, x_main, i_ic, i_lc, i_nul, i_il, i_ll, i_al, i_is, i_as, i_ls, i_inc, i_iadd, i_isub, i_imul, i_iand, i_ior, i_ixor, i_idiv, i_irem, i_ishl, i_ishr, i_ladd, i_lsub, i_land, i_lor, i_i2l, i_lushr, i_lshl, i_lshr, i_lcmp, i_dup, i_pop, i_dx1, i_dup2, i_ifeq, i_ifne, i_iflt, i_ifge, i_ifgt, i_ifle, i_iceq, i_icne, i_iclt, i_icge, i_icgt, i_icle, i_ifn, i_gf, i_pf, i_ial, i_bal, i_lal, i_aal, i_ias, i_las, i_bas, i_aas, i_alen, i_newa, i_new, i_anew, i_cast, i_oi, i_call, i_callV, i_callV2, i_callI, i_iret, i_zret, i_lret, i_vret, i_aret, i_mmx, i_mmn, i_gsE, i_aceq, i_no, i_acq, i_sw, zsw, zlg, zls, znl, zfg, zcs, zsp, zrc, zisn, zft, zc1, zto, Value.category, List.set_cons_zero, List.set_cons_succ, List.length_cons, List.length_nil, Option.toList, List.append, List.nil_append, List.cons_append, true_and, and_true, Nat.add_zero, Nat.zero_le, Nat.zero_add, Nat.le_refl, Nat.reduceAdd, Nat.reduceLeDiff, co0, z0, zn_0, zn_1, zn_2, zn_3, zn_4, zn_5, zn_8, zn_12, zn_24, zn_121, zn_144, zn_256, zn_300, zn_600, zn_720, zn_1204, zn_1280, zn_2400, zn_4816, zn_14400, zn_90000]
  refine ⟨2 * tn_c y4 (nI dd) (x_dk y4), 6 * tn_c y4 (nI dd) (x_dk y4), by omega, by omega, y4, nI dd, rfl, rfl, hI4, Nat.le_refl _, Nat.le_refl _, ?_⟩
  exact ⟨by omega, by omega, hR⟩
def of_x (x : zSt) (w : Nat) : zSt := u_wa x (va_up (x_wa x) w false)
theorem Iv_of {x : zSt} {w : Nat} (h : Iv x) : Iv (of_x x w) := h
def T_WR_off (As : List zAV) (M : zMp) (Rt : Option zAV → zMp → Prop) (c1 c2 : Nat) : Prop := ∃ x k, As = [.inr (0, 0, 0), .inl (.int k)] ∧ M = pic x ∧ Iv x ∧ (isn (x_nw x) k = false → Rt (some (.inl (.int (-2)))) M) ∧ (∀ w, w < x_nw x → k = nI w → x_wa x w = false → Rt (some (.inl (.int (-4)))) M) ∧ (∀ w, w < x_nw x → k = nI w → x_wa x w = true → 2 * tn_c (of_x x w) (x_rd x (x_wr x w)) (x_dk x) ≤ c1 ∧ 6 * tn_c (of_x x w) (x_rd x (x_wr x w)) (x_dk x) ≤ c2 ∧ Rt (some (.inl (.int 0))) (pic (tn (of_x x w) (x_rd x (x_wr x w)) (x_dk x))))
theorem dX6_off_0 : decode cX6_off 0 = .ok (.aload_n 0, 1) := by decide +kernel
theorem dX6_off_1 : decode cX6_off 1 = .ok (.iload_n 1, 1) := by decide +kernel
theorem dX6_off_2 : decode cX6_off 2 = .ok (.invokevirtual 136, 3) := by decide +kernel
theorem dX6_off_5 : decode cX6_off 5 = .ok (.astore_n 2, 1) := by decide +kernel
theorem dX6_off_6 : decode cX6_off 6 = .ok (.aload_n 2, 1) := by decide +kernel
theorem dX6_off_7 : decode cX6_off 7 = .ok (.ifnonnull 6, 3) := by decide +kernel
theorem dX6_off_10 : decode cX6_off 10 = .ok (.bipush (-2), 2) := by decide +kernel
theorem dX6_off_12 : decode cX6_off 12 = .ok (.ireturn, 1) := by decide +kernel
theorem dX6_off_13 : decode cX6_off 13 = .ok (.aload_n 2, 1) := by decide +kernel
theorem dX6_off_14 : decode cX6_off 14 = .ok (.getfield 140, 3) := by decide +kernel
theorem dX6_off_17 : decode cX6_off 17 = .ok (.ifCond .ne 6, 3) := by decide +kernel
theorem dX6_off_20 : decode cX6_off 20 = .ok (.bipush (-4), 2) := by decide +kernel
theorem dX6_off_22 : decode cX6_off 22 = .ok (.ireturn, 1) := by decide +kernel
theorem dX6_off_23 : decode cX6_off 23 = .ok (.aload_n 2, 1) := by decide +kernel
theorem dX6_off_24 : decode cX6_off 24 = .ok (.iconst 0, 1) := by decide +kernel
theorem dX6_off_25 : decode cX6_off 25 = .ok (.putfield 140, 3) := by decide +kernel
theorem dX6_off_28 : decode cX6_off 28 = .ok (.aload_n 0, 1) := by decide +kernel
theorem dX6_off_29 : decode cX6_off 29 = .ok (.aload_n 2, 1) := by decide +kernel
theorem dX6_off_30 : decode cX6_off 30 = .ok (.getfield 144, 3) := by decide +kernel
theorem dX6_off_33 : decode cX6_off 33 = .ok (.getfield 112, 3) := by decide +kernel
theorem dX6_off_36 : decode cX6_off 36 = .ok (.invokevirtual 85, 3) := by decide +kernel
theorem dX6_off_39 : decode cX6_off 39 = .ok (.iconst 0, 1) := by decide +kernel
theorem dX6_off_40 : decode cX6_off 40 = .ok (.ireturn, 1) := by decide +kernel
def B_WR_off_23 (mc ms : Nat) (Rt : Option zAV → zMp → Prop) (g : Nat → zKT) : zKT :=
  (i_al 2 (i_ic 0 (i_pf 6 4 .boolean (i_al 0 (i_al 2 (i_gf 6 1 (i_gf 4 0 (i_callV2 mc ms 7 2 T_WR_tellNeighbours (i_ic 0 (i_iret mc ms Rt))))))))))
set_option maxRecDepth 20000 in
theorem s_WR_off_23 {X : zMa} {mc ms : Nat} {Rt : Option zAV → zMp → Prop} (hC : zCx X RX6 cX6_off 6 134 mc ms (some .int) false Rt) (hN : zNL X = 3) : zLe (B_WR_off_23 mc ms Rt (zG X)) (zG X 23) :=
  (sd_al_n hC rfl dX6_off_23 ((sd_iconst hC (by decide) dX6_off_24 ((sd_pf hC (ci := 6) (fk := 4) rfl wi_Wsh tyX5 tyX5_ok nmX5 (by decide) fl_WR_140 (Or.inl rfl) (Or.inl rfl) dX6_off_25 ((sd_al_n hC rfl dX6_off_28 ((sd_al_n hC rfl dX6_off_29 ((sd_gf hC (ci := 6) (fk := 1) rfl wi_Wsh (by decide) fl_WR_144 (Or.inl rfl) dX6_off_30 ((sd_gf hC (ci := 4) (fk := 0) rfl wi_Rdr (by decide) fl_WR_112 (Or.inl rfl) dX6_off_33 ((sd_cV2 hC c_WR_tellNeighbours yv_WR_tellNeighbours (ci := 7) rfl rfl ml_WR_85 (by decide) (by decide) dX6_off_36 ((sd_iconst hC (by decide) dX6_off_39 ((sd_iret hC dX6_off_40)))))))))))))))))))
def B_WR_off_13 (mc ms : Nat) (Rt : Option zAV → zMp → Prop) (g : Nat → zKT) : zKT :=
  (i_al 2 (i_gf 6 4 (i_ifne (B_WR_off_23 mc ms Rt g) (i_ic (-4) (i_iret mc ms Rt)))))
set_option maxRecDepth 20000 in
theorem s_WR_off_13 {X : zMa} {mc ms : Nat} {Rt : Option zAV → zMp → Prop} (hC : zCx X RX6 cX6_off 6 134 mc ms (some .int) false Rt) (hN : zNL X = 3) : zLe (B_WR_off_13 mc ms Rt (zG X)) (zG X 13) :=
  (sd_al_n hC rfl dX6_off_13 ((sd_gf hC (ci := 6) (fk := 4) rfl wi_Wsh (by decide) fl_WR_140 (Or.inl rfl) dX6_off_14 ((sd_ifne hC (tgt := 23) (by decide) dX6_off_17 (s_WR_off_23 hC hN) ((sd_bipush hC (by decide) dX6_off_20 ((sd_iret hC dX6_off_22)))))))))
def B_WR_off_0 (mc ms : Nat) (Rt : Option zAV → zMp → Prop) (g : Nat → zKT) : zKT :=
  (i_al 0 (i_il 1 (i_callV mc ms 7 2 T_WR_findWish co_WR_findWish (i_as 2 (i_al 2 (i_ifn (i_ic (-2) (i_iret mc ms Rt)) (B_WR_off_13 mc ms Rt g)))))))
set_option maxRecDepth 20000 in
theorem s_WR_off_0 {X : zMa} {mc ms : Nat} {Rt : Option zAV → zMp → Prop} (hC : zCx X RX6 cX6_off 6 134 mc ms (some .int) false Rt) (hN : zNL X = 3) : zLe (B_WR_off_0 mc ms Rt (zG X)) (zG X 0) :=
  (sd_al_n hC rfl dX6_off_0 ((sd_il_n hC rfl dX6_off_1 ((sd_cV hC c_WR_findWish yv_WR_findWish (ci := 7) rfl rfl ml_WR_136 (by decide) (by decide) dX6_off_2 ((sd_as_n hC rfl (by rw [hN]; decide) dX6_off_5 ((sd_al_n hC rfl dX6_off_6 ((sd_ifnonnull hC (tgt := 13) (by decide) dX6_off_7 (s_WR_off_13 hC hN) ((sd_bipush hC (by decide) dX6_off_10 ((sd_iret hC dX6_off_12)))))))))))))))
theorem c_WR_off (l : Launch) : zCT2 l yX6_off cX6_off 3 (some .int) 6 134 T_WR_off := by
  intro As M Rt c1 c2 hT
  obtain ⟨x, k, rfl, rfl, hI, hR0, hR1, hR2⟩ := hT
  have hlim := hI.lim
  refine zMet_of false (by decide +kernel) (fun h => by first | rfl | cases h) (Nat.le_of_ble_eq_true rfl) (fun X hN hC => ?_)
  show zG X 0 [some (.inr (0, 0, 0)), some (.inl (.int k)), none] [] (pic x) 0 0
  refine s_WR_off_0 hC hN _ _ _ _ _ ?_
  simp only [B_WR_off_0, B_WR_off_13, B_WR_off_23, co_WR_findWish, i_ic, i_lc, i_nul, i_il, i_ll, i_al, i_is, i_as, i_ls, i_inc, i_iadd, i_isub, i_imul, i_iand, i_ior, i_ixor, i_idiv, i_irem, i_ishl, i_ishr, i_ladd, i_lsub, i_land, i_lor, i_i2l, i_lushr, i_lshl, i_lshr, i_lcmp, i_dup, i_pop, i_dx1, i_dup2, i_ifeq, i_ifne, i_iflt, i_ifge, i_ifgt, i_ifle, i_iceq, i_icne, i_iclt, i_icge, i_icgt, i_icle, i_ifn, i_gf, i_pf, i_ial, i_bal, i_lal, i_aal, i_ias, i_las, i_bas, i_aas, i_alen, i_newa, i_new, i_anew, i_cast, i_oi, i_call, i_callV, i_callV2, i_callI, i_iret, i_zret, i_lret, i_vret, i_aret, i_mmx, i_mmn, i_gsE, i_aceq, i_no, i_acq, i_sw, zsw, zlg, zls, znl, zfg, zcs, zsp, zrc, zisn, zft, zc1, zto, Value.category, List.set_cons_zero, List.set_cons_succ, List.length_cons, List.length_nil, Option.toList, List.append, List.nil_append, List.cons_append, true_and, and_true, Nat.add_zero, Nat.zero_le, Nat.zero_add, Nat.le_refl, Nat.reduceAdd, Nat.reduceLeDiff, co0, z0, zn_0, zn_1, zn_2, zn_3, zn_4, zn_5, zn_8, zn_12, zn_24, zn_121, zn_144, zn_256, zn_300, zn_600, zn_720, zn_1204, zn_1280, zn_2400, zn_4816, zn_14400, zn_90000, p_main, x_main]
  refine ⟨x, k, rfl, rfl, hI, ?_⟩
  rcases fnd_c (K := 15) (n := x_nw x) (by omega) k with ⟨e, e2⟩ | ⟨w, hw, rfl, e, e2⟩
  · rw [e]
    simp only [zov, i_ic, i_lc, i_nul, i_il, i_ll, i_al, i_is, i_as, i_ls, i_inc, i_iadd, i_isub, i_imul, i_iand, i_ior, i_ixor, i_idiv, i_irem, i_ishl, i_ishr, i_ladd, i_lsub, i_land, i_lor, i_i2l, i_lushr, i_lshl, i_lshr, i_lcmp, i_dup, i_pop, i_dx1, i_dup2, i_ifeq, i_ifne, i_iflt, i_ifge, i_ifgt, i_ifle, i_iceq, i_icne, i_iclt, i_icge, i_icgt, i_icle, i_ifn, i_gf, i_pf, i_ial, i_bal, i_lal, i_aal, i_ias, i_las, i_bas, i_aas, i_alen, i_newa, i_new, i_anew, i_cast, i_oi, i_call, i_callV, i_callV2, i_callI, i_iret, i_zret, i_lret, i_vret, i_aret, i_mmx, i_mmn, i_gsE, i_aceq, i_no, i_acq, i_sw, zsw, zlg, zls, znl, zfg, zcs, zsp, zrc, zisn, zft, zc1, zto, Value.category, List.set_cons_zero, List.set_cons_succ, List.length_cons, List.length_nil, Option.toList, List.append, List.nil_append, List.cons_append, true_and, and_true, Nat.add_zero, Nat.zero_le, Nat.zero_add, Nat.le_refl, Nat.reduceAdd, Nat.reduceLeDiff, co0, z0, zn_0, zn_1, zn_2, zn_3, zn_4, zn_5, zn_8, zn_12, zn_24, zn_121, zn_144, zn_256, zn_300, zn_600, zn_720, zn_1204, zn_1280, zn_2400, zn_4816, zn_14400, zn_90000]
    exact hR0 e2
  rw [e]
  have hw' : w < x_ow x := Nat.lt_of_lt_of_le hw hI.cnt.2.1
  have hww := hI.wsh w hw'
  simp only [zov, p_main, x_main, p_wsh hw', x_wsh, i_ic, i_lc, i_nul, i_il, i_ll, i_al, i_is, i_as, i_ls, i_inc, i_iadd, i_isub, i_imul, i_iand, i_ior, i_ixor, i_idiv, i_irem, i_ishl, i_ishr, i_ladd, i_lsub, i_land, i_lor, i_i2l, i_lushr, i_lshl, i_lshr, i_lcmp, i_dup, i_pop, i_dx1, i_dup2, i_ifeq, i_ifne, i_iflt, i_ifge, i_ifgt, i_ifle, i_iceq, i_icne, i_iclt, i_icge, i_icgt, i_icle, i_ifn, i_gf, i_pf, i_ial, i_bal, i_lal, i_aal, i_ias, i_las, i_bas, i_aas, i_alen, i_newa, i_new, i_anew, i_cast, i_oi, i_call, i_callV, i_callV2, i_callI, i_iret, i_zret, i_lret, i_vret, i_aret, i_mmx, i_mmn, i_gsE, i_aceq, i_no, i_acq, i_sw, zsw, zlg, zls, znl, zfg, zcs, zsp, zrc, zisn, zft, zc1, zto, Value.category, List.set_cons_zero, List.set_cons_succ, List.length_cons, List.length_nil, Option.toList, List.append, List.nil_append, List.cons_append, true_and, and_true, Nat.add_zero, Nat.zero_le, Nat.zero_add, Nat.le_refl, Nat.reduceAdd, Nat.reduceLeDiff, co0, z0, zn_0, zn_1, zn_2, zn_3, zn_4, zn_5, zn_8, zn_12, zn_24, zn_121, zn_144, zn_256, zn_300, zn_600, zn_720, zn_1204, zn_1280, zn_2400, zn_4816, zn_14400, zn_90000]
  refine ⟨fun h => ?_, fun h => hR1 w hw rfl (zb_0.mp h)⟩
  obtain ⟨hc1, hc2, hR⟩ := hR2 w hw rfl (zb_n0 h)
  refine ⟨m_k (by decide), by decide, by decide, ?_⟩
  have e4 := pu_wa x w false hw'
  simp only [x_wsh, g_dk_wa, g_lk_wa, g_po_wa, g_ne_wa, g_td_wa, g_nb_wa, g_ln_wa, g_nr_wa, g_nw_wa, g_nn_wa, g_ns_wa, g_or_wa, g_ow_wa, g_on_wa, g_nl_wa, g_ng_wa, g_rg_wa, g_lc_wa, g_cp_wa, g_gb_wa, g_sp_wa, g_kn_wa, g_me_wa, g_ob_wa, g_fk_wa, g_fz_wa, g_fg_wa, g_rd_wa, g_rz_wa, g_rh_wa, g_nd_wa, g_nm_wa, g_nv_wa, g_nh_wa, g_nf_wa, g_wr_wa, g_wa_wa, g_lz_wa, g_lf_wa, g_li_wa, g_lt_wa, g_lb_wa, g_lr_wa, g_tn_wa, g_tf_wa, va_up, if_true] at e4
  have e5 : zb false = 0 := rfl
  rw [e5] at e4
  rw [e4]
  rw [show u_wa x (va_up (x_wa x) w false) = of_x x w from rfl]
  have hw2 : w < x_ow (of_x x w) := hw'
  have hr2 : x_wr x w < x_or (of_x x w) := hww.1
  have ewr : x_wr (of_x x w) = x_wr x := rfl
  have erd : x_rd (of_x x w) = x_rd x := rfl
  simp only [p_main, x_main, p_wsh hw2, x_wsh, ewr, p_rdr hr2, x_rdr, erd, i_ic, i_lc, i_nul, i_il, i_ll, i_al, i_is, i_as, i_ls, i_inc, i_iadd, i_isub, i_imul, i_iand, i_ior, i_ixor, i_idiv, i_irem, i_ishl, i_ishr, i_ladd, i_lsub, i_land, i_lor, i_i2l, i_lushr, i_lshl, i_lshr, i_lcmp, i_dup, i_pop, i_dx1, i_dup2, i_ifeq, i_ifne, i_iflt, i_ifge, i_ifgt, i_ifle, i_iceq, i_icne, i_iclt, i_icge, i_icgt, i_icle, i_ifn, i_gf, i_pf, i_ial, i_bal, i_lal, i_aal, i_ias, i_las, i_bas, i_aas, i_alen, i_newa, i_new, i_anew, i_cast, i_oi, i_call, i_callV, i_callV2, i_callI, i_iret, i_zret, i_lret, i_vret, i_aret, i_mmx, i_mmn, i_gsE, i_aceq, i_no, i_acq, i_sw, zsw, zlg, zls, znl, zfg, zcs, zsp, zrc, zisn, zft, zc1, zto, Value.category, List.set_cons_zero, List.set_cons_succ, List.length_cons, List.length_nil, Option.toList, List.append, List.nil_append, List.cons_append, true_and, and_true, Nat.add_zero, Nat.zero_le, Nat.zero_add, Nat.le_refl, Nat.reduceAdd, Nat.reduceLeDiff, co0, z0, zn_0, zn_1, zn_2, zn_3, zn_4, zn_5, zn_8, zn_12, zn_24, zn_121, zn_144, zn_256, zn_300, zn_600, zn_720, zn_1204, zn_1280, zn_2400, zn_4816, zn_14400, zn_90000]
  refine ⟨_, _, hc1, hc2, of_x x w, _, rfl, rfl, hI, Nat.le_refl _, Nat.le_refl _, ?_⟩
  exact ⟨hc1, hc2, hR⟩
