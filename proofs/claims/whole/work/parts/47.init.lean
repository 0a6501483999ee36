/-! constructors of the class's small objects -/
def T_Rdr_init (As : List zAV) (M : zMp) (Rt : Option zAV → zMp → Prop) : Prop := ∃ r q d, As = [.inr r, .inl (.int d)] ∧ M r = some (.inr (4, [.inl (.int 0), .inl .null, .inl (.int 0)])) ∧ zmo r ∧ M q = none ∧ zmo q ∧ Rt none (zup (zup M q (zin 600 (fun _ => 0))) r (.inr (4, [.inl (.int d), .inr q, .inl (.int 0)])))
def co_Rdr_init : List zAV → zMp → Nat × Nat := fun _ _ => (1, 600)
theorem dX3_init_0 : decode cX3_init 0 = .ok (.aload_n 0, 1) := by decide +kernel
theorem dX3_init_1 : decode cX3_init 1 = .ok (.invokespecial 3, 3) := by decide +kernel
theorem dX3_init_4 : decode cX3_init 4 = .ok (.aload_n 0, 1) := by decide +kernel
theorem dX3_init_5 : decode cX3_init 5 = .ok (.sipush 600, 3) := by decide +kernel
theorem dX3_init_8 : decode cX3_init 8 = .ok (.newarray .int, 2) := by decide +kernel
theorem dX3_init_10 : decode cX3_init 10 = .ok (.putfield 9, 3) := by decide +kernel
theorem dX3_init_13 : decode cX3_init 13 = .ok (.aload_n 0, 1) := by decide +kernel
theorem dX3_init_14 : decode cX3_init 14 = .ok (.iconst 0, 1) := by decide +kernel
theorem dX3_init_15 : decode cX3_init 15 = .ok (.putfield 15, 3) := by decide +kernel
theorem dX3_init_18 : decode cX3_init 18 = .ok (.aload_n 0, 1) := by decide +kernel
theorem dX3_init_19 : decode cX3_init 19 = .ok (.iload_n 1, 1) := by decide +kernel
theorem dX3_init_20 : decode cX3_init 20 = .ok (.putfield 19, 3) := by decide +kernel
theorem dX3_init_23 : decode cX3_init 23 = .ok (.return_, 1) := by decide +kernel
def B_Rdr_init_0 (mc ms : Nat) (Rt : Option zAV → zMp → Prop) (g : Nat → zKT) : zKT :=
  (i_al 0 (i_oi (i_al 0 (i_ic 600 (i_newa mc ms .int (i_pf 4 1 (.array .int) (i_al 0 (i_ic 0 (i_pf 4 2 .int (i_al 0 (i_il 1 (i_pf 4 0 .int (i_vret mc ms Rt)))))))))))))
set_option maxRecDepth 20000 in
theorem s_Rdr_init_0 {X : zMa} {mc ms : Nat} {Rt : Option zAV → zMp → Prop} (hC : zCx X RX3 cX3_init 1 20 mc ms (none) true Rt) : zLe (B_Rdr_init_0 mc ms Rt (zG X)) (zG X 0) :=
  (sd_al_n hC rfl dX3_init_0 ((sd_oi hC ml_Rdr_3 oi_2 oi_3 (by decide) (by decide) dX3_init_1 ((sd_al_n hC rfl dX3_init_4 ((sd_sipush hC (by decide) dX3_init_5 ((sd_newa hC (at0 := .int) rfl (by decide) ac_int dX3_init_8 ((sd_pf hC (ci := 4) (fk := 1) rfl wi_Rdr tyX3 tyX3_ok nmX3 (by decide) fl_Rdr_9 (Or.inl rfl) (Or.inr ⟨rfl, rfl⟩) dX3_init_10 ((sd_al_n hC rfl dX3_init_13 ((sd_iconst hC (by decide) dX3_init_14 ((sd_pf hC (ci := 4) (fk := 2) rfl wi_Rdr tyX3 tyX3_ok nmX3 (by decide) fl_Rdr_15 (Or.inl rfl) (Or.inl rfl) dX3_init_15 ((sd_al_n hC rfl dX3_init_18 ((sd_il_n hC rfl dX3_init_19 ((sd_pf hC (ci := 4) (fk := 0) rfl wi_Rdr tyX3 tyX3_ok nmX3 (by decide) fl_Rdr_19 (Or.inl rfl) (Or.inl rfl) dX3_init_20 ((sd_vret hC dX3_init_23)))))))))))))))))))))))))
theorem c_Rdr_init (l : Launch) : zCT l yX3_init cX3_init 2 (none) 1 20 T_Rdr_init co_Rdr_init := by
  intro As M Rt hT
  obtain ⟨r, q, d, rfl, h1, hm, h2, hq, hR⟩ := hT
  have hne : r ≠ q := fun e => by rw [e, h2] at h1; cases h1
  refine zMet_of true (by decide +kernel) (fun h => by first | rfl | cases h) (Nat.le_of_ble_eq_true rfl) (fun X hN hC => ?_)
  show zG X 0 [some (.inr r), some (.inl (.int d))] [] M 0 0
  refine s_Rdr_init_0 hC _ _ _ _ _ ?_
  simp only [B_Rdr_init_0, co_Rdr_init, i_ic, i_lc, i_nul, i_il, i_ll, i_al, i_is, i_as, i_ls, i_inc, i_iadd, i_isub, i_imul, i_iand, i_ior, i_ixor, i_idiv, i_irem, i_ishl, i_ishr, i_ladd, i_lsub, i_land, i_lor, i_i2l, i_lushr, i_lshl, i_lshr, i_lcmp, i_dup, i_pop, i_dx1, i_dup2, i_ifeq, i_ifne, i_iflt, i_ifge, i_ifgt, i_ifle, i_iceq, i_icne, i_iclt, i_icge, i_icgt, i_icle, i_ifn, i_gf, i_pf, i_ial, i_bal, i_lal, i_aal, i_ias, i_las, i_bas, i_aas, i_alen, i_newa, i_new, i_anew, i_cast, i_oi, i_call, i_callV, i_callV2, i_callI, i_iret, i_zret, i_lret, i_vret, i_aret, i_mmx, i_mmn, i_gsE, i_aceq, i_no, i_acq, i_sw, zsw, zlg, zls, znl, zfg, zcs, zsp, zrc, zisn, zft, zc1, zto, Value.category, List.set_cons_zero, List.set_cons_succ, List.length_cons, List.length_nil, Option.toList, List.append, List.nil_append, List.cons_append, true_and, and_true, Nat.add_zero, Nat.zero_le, Nat.zero_add, Nat.le_refl, Nat.reduceAdd, Nat.reduceLeDiff, co0, z0, zn_0, zn_1, zn_2, zn_3, zn_4, zn_5, zn_8, zn_12, zn_24, zn_121, zn_144, zn_256, zn_300, zn_600, zn_720, zn_1204, zn_1280, zn_2400, zn_4816, zn_14400, zn_90000, h1]
  refine ⟨q, h2, hq, by decide, ?_⟩
  simp only [zup_o hne, h1, zup_s, zup_zup, i_ic, i_lc, i_nul, i_il, i_ll, i_al, i_is, i_as, i_ls, i_inc, i_iadd, i_isub, i_imul, i_iand, i_ior, i_ixor, i_idiv, i_irem, i_ishl, i_ishr, i_ladd, i_lsub, i_land, i_lor, i_i2l, i_lushr, i_lshl, i_lshr, i_lcmp, i_dup, i_pop, i_dx1, i_dup2, i_ifeq, i_ifne, i_iflt, i_ifge, i_ifgt, i_ifle, i_iceq, i_icne, i_iclt, i_icge, i_icgt, i_icle, i_ifn, i_gf, i_pf, i_ial, i_bal, i_lal, i_aal, i_ias, i_las, i_bas, i_aas, i_alen, i_newa, i_new, i_anew, i_cast, i_oi, i_call, i_callV, i_callV2, i_callI, i_iret, i_zret, i_lret, i_vret, i_aret, i_mmx, i_mmn, i_gsE, i_aceq, i_no, i_acq, i_sw, zsw, zlg, zls, znl, zfg, zcs, zsp, zrc, zisn, zft, zc1, zto, Value.category, List.set_cons_zero, List.set_cons_succ, List.length_cons, List.length_nil, Option.toList, List.append, List.nil_append, List.cons_append, true_and, and_true, Nat.add_zero, Nat.zero_le, Nat.zero_add, Nat.le_refl, Nat.reduceAdd, Nat.reduceLeDiff, co0, z0, zn_0, zn_1, zn_2, zn_3, zn_4, zn_5, zn_8, zn_12, zn_24, zn_121, zn_144, zn_256, zn_300, zn_600, zn_720, zn_1204, zn_1280, zn_2400, zn_4816, zn_14400, zn_90000]
  exact ⟨hm, by decide, hm, by decide, hm, by decide, hR⟩
def T_Not_init (As : List zAV) (M : zMp) (Rt : Option zAV → zMp → Prop) : Prop := ∃ r a d f g, As = [.inr r, .inl (.int a), .inl (.int d), .inr f] ∧ M r = some (.inr (3, [.inl (.int 0), .inl (.int 0), .inl .null, .inl (.int 0), .inl (.int 0), .inl (.int 0)])) ∧ zmo r ∧ M f = some (zin 4 g) ∧ Rt none (zup M r (.inr (3, [.inl (.int a), .inl (.int d), .inr f, .inl (.int 0), .inl (.int 0), .inl (.int 0)])))
abbrev co_Not_init := co0
theorem dX2_init_0 : decode cX2_init 0 = .ok (.aload_n 0, 1) := by decide +kernel
theorem dX2_init_1 : decode cX2_init 1 = .ok (.invokespecial 1, 3) := by decide +kernel
theorem dX2_init_4 : decode cX2_init 4 = .ok (.aload_n 0, 1) := by decide +kernel
theorem dX2_init_5 : decode cX2_init 5 = .ok (.iconst 0, 1) := by decide +kernel
theorem dX2_init_6 : decode cX2_init 6 = .ok (.putfield 7, 3) := by decide +kernel
theorem dX2_init_9 : decode cX2_init 9 = .ok (.aload_n 0, 1) := by decide +kernel
theorem dX2_init_10 : decode cX2_init 10 = .ok (.iconst 0, 1) := by decide +kernel
theorem dX2_init_11 : decode cX2_init 11 = .ok (.putfield 13, 3) := by decide +kernel
theorem dX2_init_14 : decode cX2_init 14 = .ok (.aload_n 0, 1) := by decide +kernel
theorem dX2_init_15 : decode cX2_init 15 = .ok (.iconst 0, 1) := by decide +kernel
theorem dX2_init_16 : decode cX2_init 16 = .ok (.putfield 16, 3) := by decide +kernel
theorem dX2_init_19 : decode cX2_init 19 = .ok (.aload_n 0, 1) := by decide +kernel
theorem dX2_init_20 : decode cX2_init 20 = .ok (.iload_n 1, 1) := by decide +kernel
theorem dX2_init_21 : decode cX2_init 21 = .ok (.putfield 19, 3) := by decide +kernel
theorem dX2_init_24 : decode cX2_init 24 = .ok (.aload_n 0, 1) := by decide +kernel
theorem dX2_init_25 : decode cX2_init 25 = .ok (.iload_n 2, 1) := by decide +kernel
theorem dX2_init_26 : decode cX2_init 26 = .ok (.putfield 22, 3) := by decide +kernel
theorem dX2_init_29 : decode cX2_init 29 = .ok (.aload_n 0, 1) := by decide +kernel
theorem dX2_init_30 : decode cX2_init 30 = .ok (.aload_n 3, 1) := by decide +kernel
theorem dX2_init_31 : decode cX2_init 31 = .ok (.putfield 25, 3) := by decide +kernel
theorem dX2_init_34 : decode cX2_init 34 = .ok (.return_, 1) := by decide +kernel
def B_Not_init_0 (mc ms : Nat) (Rt : Option zAV → zMp → Prop) (g : Nat → zKT) : zKT :=
  (i_al 0 (i_oi (i_al 0 (i_ic 0 (i_pf 3 3 .int (i_al 0 (i_ic 0 (i_pf 3 4 .int (i_al 0 (i_ic 0 (i_pf 3 5 .int (i_al 0 (i_il 1 (i_pf 3 0 .int (i_al 0 (i_il 2 (i_pf 3 1 .int (i_al 0 (i_al 3 (i_pf 3 2 (.array .int) (i_vret mc ms Rt)))))))))))))))))))))
set_option maxRecDepth 20000 in
theorem s_Not_init_0 {X : zMa} {mc ms : Nat} {Rt : Option zAV → zMp → Prop} (hC : zCx X RX2 cX2_init 1 20 mc ms (none) true Rt) : zLe (B_Not_init_0 mc ms Rt (zG X)) (zG X 0) :=
  (sd_al_n hC rfl dX2_init_0 ((sd_oi hC ml_Not_1 oi_2 oi_3 (by decide) (by decide) dX2_init_1 ((sd_al_n hC rfl dX2_init_4 ((sd_iconst hC (by decide) dX2_init_5 ((sd_pf hC (ci := 3) (fk := 3) rfl wi_Not tyX2 tyX2_ok nmX2 (by decide) fl_Not_7 (Or.inl rfl) (Or.inl rfl) dX2_init_6 ((sd_al_n hC rfl dX2_init_9 ((sd_iconst hC (by decide) dX2_init_10 ((sd_pf hC (ci := 3) (fk := 4) rfl wi_Not tyX2 tyX2_ok nmX2 (by decide) fl_Not_13 (Or.inl rfl) (Or.inl rfl) dX2_init_11 ((sd_al_n hC rfl dX2_init_14 ((sd_iconst hC (by decide) dX2_init_15 ((sd_pf hC (ci := 3) (fk := 5) rfl wi_Not tyX2 tyX2_ok nmX2 (by decide) fl_Not_16 (Or.inl rfl) (Or.inl rfl) dX2_init_16 ((sd_al_n hC rfl dX2_init_19 ((sd_il_n hC rfl dX2_init_20 ((sd_pf hC (ci := 3) (fk := 0) rfl wi_Not tyX2 tyX2_ok nmX2 (by decide) fl_Not_19 (Or.inl rfl) (Or.inr ⟨rfl, rfl⟩) dX2_init_21 ((sd_al_n hC rfl dX2_init_24 ((sd_il_n hC rfl dX2_init_25 ((sd_pf hC (ci := 3) (fk := 1) rfl wi_Not tyX2 tyX2_ok nmX2 (by decide) fl_Not_22 (Or.inl rfl) (Or.inr ⟨rfl, rfl⟩) dX2_init_26 ((sd_al_n hC rfl dX2_init_29 ((sd_al_n hC rfl dX2_init_30 ((sd_pf hC (ci := 3) (fk := 2) rfl wi_Not tyX2 tyX2_ok nmX2 (by decide) fl_Not_25 (Or.inl rfl) (Or.inr ⟨rfl, rfl⟩) dX2_init_31 ((sd_vret hC dX2_init_34)))))))))))))))))))))))))))))))))))))))))
theorem c_Not_init (l : Launch) : zCT l yX2_init cX2_init 4 (none) 1 20 T_Not_init co_Not_init := by
  intro As M Rt hT
  obtain ⟨r, a, d, f, g, rfl, h1, hm, hf, hR⟩ := hT
  refine zMet_of true (by decide +kernel) (fun h => by first | rfl | cases h) (Nat.le_of_ble_eq_true rfl) (fun X hN hC => ?_)
  show zG X 0 [some (.inr r), some (.inl (.int a)), some (.inl (.int d)), some (.inr f)] [] M 0 0
  refine s_Not_init_0 hC _ _ _ _ _ ?_
  simp only [B_Not_init_0, co_Not_init, i_ic, i_lc, i_nul, i_il, i_ll, i_al, i_is, i_as, i_ls, i_inc, i_iadd, i_isub, i_imul, i_iand, i_ior, i_ixor, i_idiv, i_irem, i_ishl, i_ishr, i_ladd, i_lsub, i_land, i_lor, i_i2l, i_lushr, i_lshl, i_lshr, i_lcmp, i_dup, i_pop, i_dx1, i_dup2, i_ifeq, i_ifne, i_iflt, i_ifge, i_ifgt, i_ifle, i_iceq, i_icne, i_iclt, i_icge, i_icgt, i_icle, i_ifn, i_gf, i_pf, i_ial, i_bal, i_lal, i_aal, i_ias, i_las, i_bas, i_aas, i_alen, i_newa, i_new, i_anew, i_cast, i_oi, i_call, i_callV, i_callV2, i_callI, i_iret, i_zret, i_lret, i_vret, i_aret, i_mmx, i_mmn, i_gsE, i_aceq, i_no, i_acq, i_sw, zsw, zlg, zls, znl, zfg, zcs, zsp, zrc, zisn, zft, zc1, zto, Value.category, List.set_cons_zero, List.set_cons_succ, List.length_cons, List.length_nil, Option.toList, List.append, List.nil_append, List.cons_append, true_and, and_true, Nat.add_zero, Nat.zero_le, Nat.zero_add, Nat.le_refl, Nat.reduceAdd, Nat.reduceLeDiff, co0, z0, zn_0, zn_1, zn_2, zn_3, zn_4, zn_5, zn_8, zn_12, zn_24, zn_121, zn_144, zn_256, zn_300, zn_600, zn_720, zn_1204, zn_1280, zn_2400, zn_4816, zn_14400, zn_90000, h1, zup_s, zup_zup]
  exact ⟨hm, by decide, hm, by decide, hm, by decide, hm, by decide, hm, by decide, hm, by decide, hR⟩
def T_Wsh_init (As : List zAV) (M : zMp) (Rt : Option zAV → zMp → Prop) : Prop := ∃ r o p a b c, As = [.inr r, .inl (.int a), .inr b, .inr c] ∧ M r = some (.inr (6, [.inl (.int 0), .inl .null, .inl .null, .inl .null, .inl (.int 0)])) ∧ zmo r ∧ M o = none ∧ zmo o ∧ M p = none ∧ zmo p ∧ o ≠ p ∧ Rt none (zup (zup (zup M o (.inr (5, [.inr p]))) p (zlo (fun _ => 0))) r (.inr (6, [.inl (.int a), .inr b, .inr c, .inr o, .inl (.int 1)])))
def co_Wsh_init : List zAV → zMp → Nat × Nat := fun _ _ => (2, 6)
theorem dX5_init_0 : decode cX5_init 0 = .ok (.aload_n 0, 1) := by decide +kernel
theorem dX5_init_1 : decode cX5_init 1 = .ok (.invokespecial 3, 3) := by decide +kernel
theorem dX5_init_4 : decode cX5_init 4 = .ok (.aload_n 0, 1) := by decide +kernel
theorem dX5_init_5 : decode cX5_init 5 = .ok (.new 9, 3) := by decide +kernel
theorem dX5_init_8 : decode cX5_init 8 = .ok (.dup, 1) := by decide +kernel
theorem dX5_init_9 : decode cX5_init 9 = .ok (.invokespecial 11, 3) := by decide +kernel
theorem dX5_init_12 : decode cX5_init 12 = .ok (.putfield 12, 3) := by decide +kernel
theorem dX5_init_15 : decode cX5_init 15 = .ok (.aload_n 0, 1) := by decide +kernel
theorem dX5_init_16 : decode cX5_init 16 = .ok (.iconst 1, 1) := by decide +kernel
theorem dX5_init_17 : decode cX5_init 17 = .ok (.putfield 18, 3) := by decide +kernel
theorem dX5_init_20 : decode cX5_init 20 = .ok (.aload_n 0, 1) := by decide +kernel
theorem dX5_init_21 : decode cX5_init 21 = .ok (.iload_n 1, 1) := by decide +kernel
theorem dX5_init_22 : decode cX5_init 22 = .ok (.putfield 22, 3) := by decide +kernel
theorem dX5_init_25 : decode cX5_init 25 = .ok (.aload_n 0, 1) := by decide +kernel
theorem dX5_init_26 : decode cX5_init 26 = .ok (.aload_n 2, 1) := by decide +kernel
theorem dX5_init_27 : decode cX5_init 27 = .ok (.putfield 26, 3) := by decide +kernel
theorem dX5_init_30 : decode cX5_init 30 = .ok (.aload_n 0, 1) := by decide +kernel
theorem dX5_init_31 : decode cX5_init 31 = .ok (.aload_n 3, 1) := by decide +kernel
theorem dX5_init_32 : decode cX5_init 32 = .ok (.putfield 30, 3) := by decide +kernel
theorem dX5_init_35 : decode cX5_init 35 = .ok (.return_, 1) := by decide +kernel
def B_Wsh_init_0 (mc ms : Nat) (Rt : Option zAV → zMp → Prop) (g : Nat → zKT) : zKT :=
  (i_al 0 (i_oi (i_al 0 (i_new mc ms 5 1 [.inl .null] (i_dup (i_callI mc ms 1 T_Row_init co_Row_init (i_pf 6 3 (.object "WishRoutes$Row") (i_al 0 (i_ic 1 (i_pf 6 4 .boolean (i_al 0 (i_il 1 (i_pf 6 0 .int (i_al 0 (i_al 2 (i_pf 6 1 (.object "WishRoutes$Reader") (i_al 0 (i_al 3 (i_pf 6 2 (.array (.object "WishRoutes$FieldTest")) (i_vret mc ms Rt))))))))))))))))))))
set_option maxRecDepth 20000 in
theorem s_Wsh_init_0 {X : zMa} {mc ms : Nat} {Rt : Option zAV → zMp → Prop} (hC : zCx X RX5 cX5_init 2 40 mc ms (none) true Rt) : zLe (B_Wsh_init_0 mc ms Rt (zG X)) (zG X 0) :=
  (sd_al_n hC rfl dX5_init_0 ((sd_oi hC ml_Wsh_3 oi_2 oi_3 (by decide) (by decide) dX5_init_1 ((sd_al_n hC rfl dX5_init_4 ((sd_new hC (ci := 5) rfl wi_Row tyX4 tyX4_ok cl_Wsh_9 in_Row iz_Row (by decide) (by intro n h; simp at h) dX5_init_5 ((sd_dup hC dX5_init_8 ((sd_cIN hC c_Row_init yi_Row_init mn_Wsh_11 (by decide) (by decide) dX5_init_9 ((sd_pf hC (ci := 6) (fk := 3) rfl wi_Wsh tyX5 tyX5_ok nmX5 (by decide) fl_Wsh_12 (Or.inl rfl) (Or.inr ⟨rfl, rfl⟩) dX5_init_12 ((sd_al_n hC rfl dX5_init_15 ((sd_iconst hC (by decide) dX5_init_16 ((sd_pf hC (ci := 6) (fk := 4) rfl wi_Wsh tyX5 tyX5_ok nmX5 (by decide) fl_Wsh_18 (Or.inl rfl) (Or.inl rfl) dX5_init_17 ((sd_al_n hC rfl dX5_init_20 ((sd_il_n hC rfl dX5_init_21 ((sd_pf hC (ci := 6) (fk := 0) rfl wi_Wsh tyX5 tyX5_ok nmX5 (by decide) fl_Wsh_22 (Or.inl rfl) (Or.inr ⟨rfl, rfl⟩) dX5_init_22 ((sd_al_n hC rfl dX5_init_25 ((sd_al_n hC rfl dX5_init_26 ((sd_pf hC (ci := 6) (fk := 1) rfl wi_Wsh tyX5 tyX5_ok nmX5 (by decide) fl_Wsh_26 (Or.inl rfl) (Or.inr ⟨rfl, rfl⟩) dX5_init_27 ((sd_al_n hC rfl dX5_init_30 ((sd_al_n hC rfl dX5_init_31 ((sd_pf hC (ci := 6) (fk := 2) rfl wi_Wsh tyX5 tyX5_ok nmX5 (by decide) fl_Wsh_30 (Or.inl rfl) (Or.inr ⟨rfl, rfl⟩) dX5_init_32 ((sd_vret hC dX5_init_35)))))))))))))))))))))))))))))))))))))))
theorem zup_cm {M : zMp} {a b : zNm} {e f : zAE} (h : a ≠ b) : zup (zup M a e) b f = zup (zup M b f) a e := by
  funext n
  by_cases ha : n = a
  · subst ha
    rw [zup_o h, zup_s, zup_s]
  · by_cases hb : n = b
    · subst hb
      rw [zup_s, zup_o ha, zup_s]
    · rw [zup_o hb, zup_o ha, zup_o ha, zup_o hb]
theorem c_Wsh_init (l : Launch) : zCT l yX5_init cX5_init 4 (none) 2 40 T_Wsh_init co_Wsh_init := by
  intro As M Rt hT
  obtain ⟨r, o, p, a, b, c, rfl, h1, hm, ho, ho', hp, hp', hop, hR⟩ := hT
  have hro : r ≠ o := fun e => by rw [e, ho] at h1; cases h1
  have hrp : r ≠ p := fun e => by rw [e, hp] at h1; cases h1
  refine zMet_of true (by decide +kernel) (fun h => by first | rfl | cases h) (Nat.le_of_ble_eq_true rfl) (fun X hN hC => ?_)
  show zG X 0 [some (.inr r), some (.inl (.int a)), some (.inr b), some (.inr c)] [] M 0 0
  refine s_Wsh_init_0 hC _ _ _ _ _ ?_
  simp only [B_Wsh_init_0, co_Row_init, co_Wsh_init, i_ic, i_lc, i_nul, i_il, i_ll, i_al, i_is, i_as, i_ls, i_inc, i_iadd, i_isub, i_imul, i_iand, i_ior, i_ixor, i_idiv, i_irem, i_ishl, i_ishr, i_ladd, i_lsub, i_land, i_lor, i_i2l, i_lushr, i_lshl, i_lshr, i_lcmp, i_dup, i_pop, i_dx1, i_dup2, i_ifeq, i_ifne, i_iflt, i_ifge, i_ifgt, i_ifle, i_iceq, i_icne, i_iclt, i_icge, i_icgt, i_icle, i_ifn, i_gf, i_pf, i_ial, i_bal, i_lal, i_aal, i_ias, i_las, i_bas, i_aas, i_alen, i_newa, i_new, i_anew, i_cast, i_oi, i_call, i_callV, i_callV2, i_callI, i_iret, i_zret, i_lret, i_vret, i_aret, i_mmx, i_mmn, i_gsE, i_aceq, i_no, i_acq, i_sw, zsw, zlg, zls, znl, zfg, zcs, zsp, zrc, zisn, zft, zc1, zto, Value.category, List.set_cons_zero, List.set_cons_succ, List.length_cons, List.length_nil, Option.toList, List.append, List.nil_append, List.cons_append, true_and, and_true, Nat.add_zero, Nat.zero_le, Nat.zero_add, Nat.le_refl, Nat.reduceAdd, Nat.reduceLeDiff, co0, z0, zn_0, zn_1, zn_2, zn_3, zn_4, zn_5, zn_8, zn_12, zn_24, zn_121, zn_144, zn_256, zn_300, zn_600, zn_720, zn_1204, zn_1280, zn_2400, zn_4816, zn_14400, zn_90000, h1]
  refine ⟨o, ho, ho', o, p, rfl, zup_s, ho', by rw [zup_o (Ne.symm hop)]; exact hp, hp', ?_⟩
  have e : zup (zup (zup M o (.inr (5, [.inl .null]))) p (zlo (fun _ => 0))) o (.inr (5, [.inr p])) = zup (zup M o (.inr (5, [.inr p]))) p (zlo (fun _ => 0)) := by
    rw [zup_cm (Ne.symm hop), zup_zup]
  rw [e]
  simp only [zup_o hro, zup_o hrp, h1, zup_s, zup_zup, i_ic, i_lc, i_nul, i_il, i_ll, i_al, i_is, i_as, i_ls, i_inc, i_iadd, i_isub, i_imul, i_iand, i_ior, i_ixor, i_idiv, i_irem, i_ishl, i_ishr, i_ladd, i_lsub, i_land, i_lor, i_i2l, i_lushr, i_lshl, i_lshr, i_lcmp, i_dup, i_pop, i_dx1, i_dup2, i_ifeq, i_ifne, i_iflt, i_ifge, i_ifgt, i_ifle, i_iceq, i_icne, i_iclt, i_icge, i_icgt, i_icle, i_ifn, i_gf, i_pf, i_ial, i_bal, i_lal, i_aal, i_ias, i_las, i_bas, i_aas, i_alen, i_newa, i_new, i_anew, i_cast, i_oi, i_call, i_callV, i_callV2, i_callI, i_iret, i_zret, i_lret, i_vret, i_aret, i_mmx, i_mmn, i_gsE, i_aceq, i_no, i_acq, i_sw, zsw, zlg, zls, znl, zfg, zcs, zsp, zrc, zisn, zft, zc1, zto, Value.category, List.set_cons_zero, List.set_cons_succ, List.length_cons, List.length_nil, Option.toList, List.append, List.nil_append, List.cons_append, true_and, and_true, Nat.add_zero, Nat.zero_le, Nat.zero_add, Nat.le_refl, Nat.reduceAdd, Nat.reduceLeDiff, co0, z0, zn_0, zn_1, zn_2, zn_3, zn_4, zn_5, zn_8, zn_12, zn_24, zn_121, zn_144, zn_256, zn_300, zn_600, zn_720, zn_1204, zn_1280, zn_2400, zn_4816, zn_14400, zn_90000]
  exact ⟨hm, by decide, hm, by decide, by decide, hm, by decide, hm, by decide, hm, by decide, hR⟩
def T_Lane_init (As : List zAV) (M : zMp) (Rt : Option zAV → zMp → Prop) : Prop := ∃ l, As = [.inr (16, l, 0)] ∧ M (16, l, 0) = some (.inr (2, [.inl .null, .inl .null, .inl (.int 0), .inl .null, .inl .null, .inl (.int 0)])) ∧ M (5, 2, l) = none ∧ M (6, 2, l) = none ∧ M (5, 3, l) = none ∧ M (6, 3, l) = none ∧ M (17, l, 0) = none ∧ M (18, l, 0) = none ∧ Rt none (zup (zup (zup (zup (zup (zup (zup M (6, 2, l) (zlo (fun _ => 0))) (5, 2, l) (.inr (5, [.inr (6, 2, l)]))) (6, 3, l) (zlo (fun _ => 0))) (5, 3, l) (.inr (5, [.inr (6, 3, l)]))) (17, l, 0) (zin 121 (fun _ => 0))) (18, l, 0) (zra "WishRoutes$Row" 121 (fun _ => none))) (16, l, 0) (.inr (2, [.inr (5, 2, l), .inr (5, 3, l), .inl (.int 0), .inr (17, l, 0), .inr (18, l, 0), .inl (.int 0)])))
def co_Lane_init : List zAV → zMp → Nat × Nat := fun _ _ => (6, 254)
theorem dX1_init_0 : decode cX1_init 0 = .ok (.aload_n 0, 1) := by decide +kernel
theorem dX1_init_1 : decode cX1_init 1 = .ok (.invokespecial 3, 3) := by decide +kernel
theorem dX1_init_4 : decode cX1_init 4 = .ok (.aload_n 0, 1) := by decide +kernel
theorem dX1_init_5 : decode cX1_init 5 = .ok (.new 9, 3) := by decide +kernel
theorem dX1_init_8 : decode cX1_init 8 = .ok (.dup, 1) := by decide +kernel
theorem dX1_init_9 : decode cX1_init 9 = .ok (.invokespecial 11, 3) := by decide +kernel
theorem dX1_init_12 : decode cX1_init 12 = .ok (.putfield 12, 3) := by decide +kernel
theorem dX1_init_15 : decode cX1_init 15 = .ok (.aload_n 0, 1) := by decide +kernel
theorem dX1_init_16 : decode cX1_init 16 = .ok (.new 9, 3) := by decide +kernel
theorem dX1_init_19 : decode cX1_init 19 = .ok (.dup, 1) := by decide +kernel
theorem dX1_init_20 : decode cX1_init 20 = .ok (.invokespecial 11, 3) := by decide +kernel
theorem dX1_init_23 : decode cX1_init 23 = .ok (.putfield 18, 3) := by decide +kernel
theorem dX1_init_26 : decode cX1_init 26 = .ok (.aload_n 0, 1) := by decide +kernel
theorem dX1_init_27 : decode cX1_init 27 = .ok (.iconst 0, 1) := by decide +kernel
theorem dX1_init_28 : decode cX1_init 28 = .ok (.putfield 21, 3) := by decide +kernel
theorem dX1_init_31 : decode cX1_init 31 = .ok (.aload_n 0, 1) := by decide +kernel
theorem dX1_init_32 : decode cX1_init 32 = .ok (.bipush 121, 2) := by decide +kernel
theorem dX1_init_34 : decode cX1_init 34 = .ok (.newarray .int, 2) := by decide +kernel
theorem dX1_init_36 : decode cX1_init 36 = .ok (.putfield 25, 3) := by decide +kernel
theorem dX1_init_39 : decode cX1_init 39 = .ok (.aload_n 0, 1) := by decide +kernel
theorem dX1_init_40 : decode cX1_init 40 = .ok (.bipush 121, 2) := by decide +kernel
theorem dX1_init_42 : decode cX1_init 42 = .ok (.anewarray 9, 3) := by decide +kernel
theorem dX1_init_45 : decode cX1_init 45 = .ok (.putfield 29, 3) := by decide +kernel
theorem dX1_init_48 : decode cX1_init 48 = .ok (.aload_n 0, 1) := by decide +kernel
theorem dX1_init_49 : decode cX1_init 49 = .ok (.iconst 0, 1) := by decide +kernel
theorem dX1_init_50 : decode cX1_init 50 = .ok (.putfield 33, 3) := by decide +kernel
theorem dX1_init_53 : decode cX1_init 53 = .ok (.return_, 1) := by decide +kernel
def B_Lane_init_0 (mc ms : Nat) (Rt : Option zAV → zMp → Prop) (g : Nat → zKT) : zKT :=
  (i_al 0 (i_oi (i_al 0 (i_new mc ms 5 1 [.inl .null] (i_dup (i_callI mc ms 1 T_Row_init co_Row_init (i_pf 2 0 (.object "WishRoutes$Row") (i_al 0 (i_new mc ms 5 1 [.inl .null] (i_dup (i_callI mc ms 1 T_Row_init co_Row_init (i_pf 2 1 (.object "WishRoutes$Row") (i_al 0 (i_ic 0 (i_pf 2 2 .int (i_al 0 (i_ic 121 (i_newa mc ms .int (i_pf 2 3 (.array .int) (i_al 0 (i_ic 121 (i_anew mc ms "WishRoutes$Row" (i_pf 2 4 (.array (.object "WishRoutes$Row")) (i_al 0 (i_ic 0 (i_pf 2 5 .int (i_vret mc ms Rt)))))))))))))))))))))))))))
set_option maxRecDepth 20000 in
theorem s_Lane_init_0 {X : zMa} {mc ms : Nat} {Rt : Option zAV → zMp → Prop} (hC : zCx X RX1 cX1_init 2 40 mc ms (none) true Rt) : zLe (B_Lane_init_0 mc ms Rt (zG X)) (zG X 0) :=
  (sd_al_n hC rfl dX1_init_0 ((sd_oi hC ml_Lane_3 oi_2 oi_3 (by decide) (by decide) dX1_init_1 ((sd_al_n hC rfl dX1_init_4 ((sd_new hC (ci := 5) rfl wi_Row tyX4 tyX4_ok cl_Lane_9 in_Row iz_Row (by decide) (by intro n h; simp at h) dX1_init_5 ((sd_dup hC dX1_init_8 ((sd_cIN hC c_Row_init yi_Row_init mn_Lane_11 (by decide) (by decide) dX1_init_9 ((sd_pf hC (ci := 2) (fk := 0) rfl wi_Lane tyX1 tyX1_ok nmX1 (by decide) fl_Lane_12 (Or.inl rfl) (Or.inr ⟨rfl, rfl⟩) dX1_init_12 ((sd_al_n hC rfl dX1_init_15 ((sd_new hC (ci := 5) rfl wi_Row tyX4 tyX4_ok cl_Lane_9 in_Row iz_Row (by decide) (by intro n h; simp at h) dX1_init_16 ((sd_dup hC dX1_init_19 ((sd_cIN hC c_Row_init yi_Row_init mn_Lane_11 (by decide) (by decide) dX1_init_20 ((sd_pf hC (ci := 2) (fk := 1) rfl wi_Lane tyX1 tyX1_ok nmX1 (by decide) fl_Lane_18 (Or.inl rfl) (Or.inr ⟨rfl, rfl⟩) dX1_init_23 ((sd_al_n hC rfl dX1_init_26 ((sd_iconst hC (by decide) dX1_init_27 ((sd_pf hC (ci := 2) (fk := 2) rfl wi_Lane tyX1 tyX1_ok nmX1 (by decide) fl_Lane_21 (Or.inl rfl) (Or.inl rfl) dX1_init_28 ((sd_al_n hC rfl dX1_init_31 ((sd_bipush hC (by decide) dX1_init_32 ((sd_newa hC (at0 := .int) rfl (by decide) ac_int dX1_init_34 ((sd_pf hC (ci := 2) (fk := 3) rfl wi_Lane tyX1 tyX1_ok nmX1 (by decide) fl_Lane_25 (Or.inl rfl) (Or.inr ⟨rfl, rfl⟩) dX1_init_36 ((sd_al_n hC rfl dX1_init_39 ((sd_bipush hC (by decide) dX1_init_40 ((sd_anew hC cl_Lane_9 ao_Row_0 dX1_init_42 ((sd_pf hC (ci := 2) (fk := 4) rfl wi_Lane tyX1 tyX1_ok nmX1 (by decide) fl_Lane_29 (Or.inl rfl) (Or.inr ⟨rfl, rfl⟩) dX1_init_45 ((sd_al_n hC rfl dX1_init_48 ((sd_iconst hC (by decide) dX1_init_49 ((sd_pf hC (ci := 2) (fk := 5) rfl wi_Lane tyX1 tyX1_ok nmX1 (by decide) fl_Lane_33 (Or.inl rfl) (Or.inl rfl) dX1_init_50 ((sd_vret hC dX1_init_53)))))))))))))))))))))))))))))))))))))))))))))))))))))
theorem nm_ne {a b c a' b' c' : Nat} (h : ¬ (a = a' ∧ b = b' ∧ c = c')) : ((a, b, c) : zNm) ≠ (a', b', c') := fun e => by
  simp only [Prod.mk.injEq] at e
  exact h e
theorem c_Lane_init (l : Launch) : zCT l yX1_init cX1_init 1 (none) 2 40 T_Lane_init co_Lane_init := by
  intro As M Rt hT
  obtain ⟨j, rfl, h1, h2, h3, h4, h5, h6, h7, hR⟩ := hT
  refine zMet_of true (by decide +kernel) (fun h => by first | rfl | cases h) (Nat.le_of_ble_eq_true rfl) (fun X hN hC => ?_)
  show zG X 0 [some (.inr (16, j, 0))] [] M 0 0
  refine s_Lane_init_0 hC _ _ _ _ _ ?_
  have n1 : ((16, j, 0) : zNm) ≠ (5, 2, j) := nm_ne (by omega)
  have n2 : ((16, j, 0) : zNm) ≠ (6, 2, j) := nm_ne (by omega)
  have n3 : ((16, j, 0) : zNm) ≠ (5, 3, j) := nm_ne (by omega)
  have n4 : ((16, j, 0) : zNm) ≠ (6, 3, j) := nm_ne (by omega)
  have n5 : ((16, j, 0) : zNm) ≠ (17, j, 0) := nm_ne (by omega)
  have n6 : ((16, j, 0) : zNm) ≠ (18, j, 0) := nm_ne (by omega)
  simp only [B_Lane_init_0, co_Lane_init, co_Row_init, i_ic, i_lc, i_nul, i_il, i_ll, i_al, i_is, i_as, i_ls, i_inc, i_iadd, i_isub, i_imul, i_iand, i_ior, i_ixor, i_idiv, i_irem, i_ishl, i_ishr, i_ladd, i_lsub, i_land, i_lor, i_i2l, i_lushr, i_lshl, i_lshr, i_lcmp, i_dup, i_pop, i_dx1, i_dup2, i_ifeq, i_ifne, i_iflt, i_ifge, i_ifgt, i_ifle, i_iceq, i_icne, i_iclt, i_icge, i_icgt, i_icle, i_ifn, i_gf, i_pf, i_ial, i_bal, i_lal, i_aal, i_ias, i_las, i_bas, i_aas, i_alen, i_newa, i_new, i_anew, i_cast, i_oi, i_call, i_callV, i_callV2, i_callI, i_iret, i_zret, i_lret, i_vret, i_aret, i_mmx, i_mmn, i_gsE, i_aceq, i_no, i_acq, i_sw, zsw, zlg, zls, znl, zfg, zcs, zsp, zrc, zisn, zft, zc1, zto, Value.category, List.set_cons_zero, List.set_cons_succ, List.length_cons, List.length_nil, Option.toList, List.append, List.nil_append, List.cons_append, true_and, and_true, Nat.add_zero, Nat.zero_le, Nat.zero_add, Nat.le_refl, Nat.reduceAdd, Nat.reduceLeDiff, co0, z0, zn_0, zn_1, zn_2, zn_3, zn_4, zn_5, zn_8, zn_12, zn_24, zn_121, zn_144, zn_256, zn_300, zn_600, zn_720, zn_1204, zn_1280, zn_2400, zn_4816, zn_14400, zn_90000, h1]
  refine ⟨(5, 2, j), h2, m_k (by decide), (5, 2, j), (6, 2, j), rfl, zup_s, m_k (by decide), by rw [zup_o (nm_ne (by omega))]; exact h3, m_k (by decide), ?_⟩
  have e2 : zup (zup (zup M (5, 2, j) (.inr (5, [.inl .null]))) (6, 2, j) (zlo (fun _ => 0))) (5, 2, j) (.inr (5, [.inr (6, 2, j)])) = zup (zup M (6, 2, j) (zlo (fun _ => 0))) (5, 2, j) (.inr (5, [.inr (6, 2, j)])) := by
    rw [zup_cm (a := (5, 2, j)) (b := (6, 2, j)) (nm_ne (by omega)), zup_zup]
  rw [e2]
  simp only [zup_o n1, zup_o n2, h1, i_ic, i_lc, i_nul, i_il, i_ll, i_al, i_is, i_as, i_ls, i_inc, i_iadd, i_isub, i_imul, i_iand, i_ior, i_ixor, i_idiv, i_irem, i_ishl, i_ishr, i_ladd, i_lsub, i_land, i_lor, i_i2l, i_lushr, i_lshl, i_lshr, i_lcmp, i_dup, i_pop, i_dx1, i_dup2, i_ifeq, i_ifne, i_iflt, i_ifge, i_ifgt, i_ifle, i_iceq, i_icne, i_iclt, i_icge, i_icgt, i_icle, i_ifn, i_gf, i_pf, i_ial, i_bal, i_lal, i_aal, i_ias, i_las, i_bas, i_aas, i_alen, i_newa, i_new, i_anew, i_cast, i_oi, i_call, i_callV, i_callV2, i_callI, i_iret, i_zret, i_lret, i_vret, i_aret, i_mmx, i_mmn, i_gsE, i_aceq, i_no, i_acq, i_sw, zsw, zlg, zls, znl, zfg, zcs, zsp, zrc, zisn, zft, zc1, zto, Value.category, List.set_cons_zero, List.set_cons_succ, List.length_cons, List.length_nil, Option.toList, List.append, List.nil_append, List.cons_append, true_and, and_true, Nat.add_zero, Nat.zero_le, Nat.zero_add, Nat.le_refl, Nat.reduceAdd, Nat.reduceLeDiff, co0, z0, zn_0, zn_1, zn_2, zn_3, zn_4, zn_5, zn_8, zn_12, zn_24, zn_121, zn_144, zn_256, zn_300, zn_600, zn_720, zn_1204, zn_1280, zn_2400, zn_4816, zn_14400, zn_90000]
  refine ⟨m_k (by decide), by decide, (5, 3, j), ?_, m_k (by decide), (5, 3, j), (6, 3, j), rfl, zup_s, m_k (by decide), ?_, m_k (by decide), ?_⟩
  · rw [zup_o (nm_ne (by omega)), zup_o (nm_ne (by omega)), zup_o (nm_ne (by omega))]; exact h4
  · rw [zup_o (nm_ne (by omega)), zup_o (nm_ne (by omega)), zup_o (nm_ne (by omega)), zup_o (nm_ne (by omega))]; exact h5
  have e3 : ∀ N : zMp, zup (zup (zup N (5, 3, j) (.inr (5, [.inl .null]))) (6, 3, j) (zlo (fun _ => 0))) (5, 3, j) (.inr (5, [.inr (6, 3, j)])) = zup (zup N (6, 3, j) (zlo (fun _ => 0))) (5, 3, j) (.inr (5, [.inr (6, 3, j)])) := fun N => by
    rw [zup_cm (a := (5, 3, j)) (b := (6, 3, j)) (nm_ne (by omega)), zup_zup]
  rw [e3]
  simp only [zup_o n1, zup_o n2, zup_o n3, zup_o n4, h1, zup_s, zup_zup, i_ic, i_lc, i_nul, i_il, i_ll, i_al, i_is, i_as, i_ls, i_inc, i_iadd, i_isub, i_imul, i_iand, i_ior, i_ixor, i_idiv, i_irem, i_ishl, i_ishr, i_ladd, i_lsub, i_land, i_lor, i_i2l, i_lushr, i_lshl, i_lshr, i_lcmp, i_dup, i_pop, i_dx1, i_dup2, i_ifeq, i_ifne, i_iflt, i_ifge, i_ifgt, i_ifle, i_iceq, i_icne, i_iclt, i_icge, i_icgt, i_icle, i_ifn, i_gf, i_pf, i_ial, i_bal, i_lal, i_aal, i_ias, i_las, i_bas, i_aas, i_alen, i_newa, i_new, i_anew, i_cast, i_oi, i_call, i_callV, i_callV2, i_callI, i_iret, i_zret, i_lret, i_vret, i_aret, i_mmx, i_mmn, i_gsE, i_aceq, i_no, i_acq, i_sw, zsw, zlg, zls, znl, zfg, zcs, zsp, zrc, zisn, zft, zc1, zto, Value.category, List.set_cons_zero, List.set_cons_succ, List.length_cons, List.length_nil, Option.toList, List.append, List.nil_append, List.cons_append, true_and, and_true, Nat.add_zero, Nat.zero_le, Nat.zero_add, Nat.le_refl, Nat.reduceAdd, Nat.reduceLeDiff, co0, z0, zn_0, zn_1, zn_2, zn_3, zn_4, zn_5, zn_8, zn_12, zn_24, zn_121, zn_144, zn_256, zn_300, zn_600, zn_720, zn_1204, zn_1280, zn_2400, zn_4816, zn_14400, zn_90000]
  refine ⟨m_k (by decide), by decide, m_k (by decide), by decide, (17, j, 0), ?_, m_k (by decide), ?_⟩
  · rw [zup_o (nm_ne (by omega)), zup_o (nm_ne (by omega)), zup_o (nm_ne (by omega)), zup_o (nm_ne (by omega)), zup_o (nm_ne (by omega))]; exact h6
  simp only [zup_o n1, zup_o n2, zup_o n3, zup_o n4, zup_o n5, h1, zup_s, zup_zup, i_ic, i_lc, i_nul, i_il, i_ll, i_al, i_is, i_as, i_ls, i_inc, i_iadd, i_isub, i_imul, i_iand, i_ior, i_ixor, i_idiv, i_irem, i_ishl, i_ishr, i_ladd, i_lsub, i_land, i_lor, i_i2l, i_lushr, i_lshl, i_lshr, i_lcmp, i_dup, i_pop, i_dx1, i_dup2, i_ifeq, i_ifne, i_iflt, i_ifge, i_ifgt, i_ifle, i_iceq, i_icne, i_iclt, i_icge, i_icgt, i_icle, i_ifn, i_gf, i_pf, i_ial, i_bal, i_lal, i_aal, i_ias, i_las, i_bas, i_aas, i_alen, i_newa, i_new, i_anew, i_cast, i_oi, i_call, i_callV, i_callV2, i_callI, i_iret, i_zret, i_lret, i_vret, i_aret, i_mmx, i_mmn, i_gsE, i_aceq, i_no, i_acq, i_sw, zsw, zlg, zls, znl, zfg, zcs, zsp, zrc, zisn, zft, zc1, zto, Value.category, List.set_cons_zero, List.set_cons_succ, List.length_cons, List.length_nil, Option.toList, List.append, List.nil_append, List.cons_append, true_and, and_true, Nat.add_zero, Nat.zero_le, Nat.zero_add, Nat.le_refl, Nat.reduceAdd, Nat.reduceLeDiff, co0, z0, zn_0, zn_1, zn_2, zn_3, zn_4, zn_5, zn_8, zn_12, zn_24, zn_121, zn_144, zn_256, zn_300, zn_600, zn_720, zn_1204, zn_1280, zn_2400, zn_4816, zn_14400, zn_90000]
  refine ⟨by decide, m_k (by decide), by decide, (18, j, 0), ?_, m_k (by decide), by decide, ?_⟩
  · rw [zup_o (nm_ne (by omega)), zup_o (nm_ne (by omega)), zup_o (nm_ne (by omega)), zup_o (nm_ne (by omega)), zup_o (nm_ne (by omega)), zup_o (nm_ne (by omega))]; exact h7
  simp only [zup_o n1, zup_o n2, zup_o n3, zup_o n4, zup_o n5, zup_o n6, h1, zup_s, zup_zup, i_ic, i_lc, i_nul, i_il, i_ll, i_al, i_is, i_as, i_ls, i_inc, i_iadd, i_isub, i_imul, i_iand, i_ior, i_ixor, i_idiv, i_irem, i_ishl, i_ishr, i_ladd, i_lsub, i_land, i_lor, i_i2l, i_lushr, i_lshl, i_lshr, i_lcmp, i_dup, i_pop, i_dx1, i_dup2, i_ifeq, i_ifne, i_iflt, i_ifge, i_ifgt, i_ifle, i_iceq, i_icne, i_iclt, i_icge, i_icgt, i_icle, i_ifn, i_gf, i_pf, i_ial, i_bal, i_lal, i_aal, i_ias, i_las, i_bas, i_aas, i_alen, i_newa, i_new, i_anew, i_cast, i_oi, i_call, i_callV, i_callV2, i_callI, i_iret, i_zret, i_lret, i_vret, i_aret, i_mmx, i_mmn, i_gsE, i_aceq, i_no, i_acq, i_sw, zsw, zlg, zls, znl, zfg, zcs, zsp, zrc, zisn, zft, zc1, zto, Value.category, List.set_cons_zero, List.set_cons_succ, List.length_cons, List.length_nil, Option.toList, List.append, List.nil_append, List.cons_append, true_and, and_true, Nat.add_zero, Nat.zero_le, Nat.zero_add, Nat.le_refl, Nat.reduceAdd, Nat.reduceLeDiff, co0, z0, zn_0, zn_1, zn_2, zn_3, zn_4, zn_5, zn_8, zn_12, zn_24, zn_121, zn_144, zn_256, zn_300, zn_600, zn_720, zn_1204, zn_1280, zn_2400, zn_4816, zn_14400, zn_90000]
  refine ⟨m_k (by decide), by decide, m_k (by decide), by decide, ?_⟩
  refine zM (P := Rt none) ?_ hR
  funext n
  by_cases h : n = (16, j, 0)
  · subst h
    simp only [zup_s]
  · simp only [zup, h, if_false]
