/-! WishRoutes.Row's constructor; WishRoutes.FieldTest -/
def T_Row_init (As : List zAV) (M : zMp) (Rt : Option zAV → zMp → Prop) : Prop := ∃ r q, As = [.inr r] ∧ M r = some (.inr (5, [.inl .null])) ∧ zmo r ∧ M q = none ∧ zmo q ∧ Rt none (zup (zup M q (zlo (fun _ => 0))) r (.inr (5, [.inr q])))
def co_Row_init : List zAV → zMp → Nat × Nat := fun _ _ => (1, 5)
theorem dX4_init_0 : decode cX4_init 0 = .ok (.aload_n 0, 1) := by decide +kernel
theorem dX4_init_1 : decode cX4_init 1 = .ok (.invokespecial 3, 3) := by decide +kernel
theorem dX4_init_4 : decode cX4_init 4 = .ok (.aload_n 0, 1) := by decide +kernel
theorem dX4_init_5 : decode cX4_init 5 = .ok (.iconst 5, 1) := by decide +kernel
theorem dX4_init_6 : decode cX4_init 6 = .ok (.newarray .long, 2) := by decide +kernel
theorem dX4_init_8 : decode cX4_init 8 = .ok (.putfield 9, 3) := by decide +kernel
theorem dX4_init_11 : decode cX4_init 11 = .ok (.return_, 1) := by decide +kernel
def B_Row_init_0 (mc ms : Nat) (Rt : Option zAV → zMp → Prop) (g : Nat → zKT) : zKT :=
  (i_al 0 (i_oi (i_al 0 (i_ic 5 (i_newa mc ms .long (i_pf 5 0 (.array .long) (i_vret mc ms Rt)))))))
set_option maxRecDepth 20000 in
theorem s_Row_init_0 {X : zMa} {mc ms : Nat} {Rt : Option zAV → zMp → Prop} (hC : zCx X RX4 cX4_init 1 20 mc ms (none) true Rt) : zLe (B_Row_init_0 mc ms Rt (zG X)) (zG X 0) :=
  (sd_al_n hC rfl dX4_init_0 ((sd_oi hC ml_Row_3 oi_2 oi_3 (by decide) (by decide) dX4_init_1 ((sd_al_n hC rfl dX4_init_4 ((sd_iconst hC (by decide) dX4_init_5 ((sd_newa hC (at0 := .long) rfl (by decide) ac_long dX4_init_6 ((sd_pf hC (ci := 5) (fk := 0) rfl wi_Row tyX4 tyX4_ok nmX4 (by decide) fl_Row_9 (Or.inl rfl) (Or.inr ⟨rfl, rfl⟩) dX4_init_8 ((sd_vret hC dX4_init_11)))))))))))))
theorem c_Row_init (l : Launch) : zCT l yX4_init cX4_init 1 (none) 1 20 T_Row_init co_Row_init := by
  intro As M Rt hT
  obtain ⟨r, q, rfl, h1, hm, h2, hq, hR⟩ := hT
  have hne : r ≠ q := fun e => by rw [e, h2] at h1; cases h1
  refine zMet_of true (by decide +kernel) (fun h => by first | rfl | cases h) (Nat.le_of_ble_eq_true rfl) (fun X hN hC => ?_)
  show zG X 0 [some (.inr r)] [] M 0 0
  refine s_Row_init_0 hC _ _ _ _ _ ?_
  simp only [B_Row_init_0, co_Row_init, i_ic, i_lc, i_nul, i_il, i_ll, i_al, i_is, i_as, i_ls, i_inc, i_iadd, i_isub, i_imul, i_iand, i_ior, i_ixor, i_idiv, i_irem, i_ishl, i_ishr, i_ladd, i_lsub, i_land, i_lor, i_i2l, i_lushr, i_lshl, i_lshr, i_lcmp, i_dup, i_pop, i_dx1, i_dup2, i_ifeq, i_ifne, i_iflt, i_ifge, i_ifgt, i_ifle, i_iceq, i_icne, i_iclt, i_icge, i_icgt, i_icle, i_ifn, i_gf, i_pf, i_ial, i_bal, i_lal, i_aal, i_ias, i_las, i_bas, i_aas, i_alen, i_newa, i_new, i_anew, i_cast, i_oi, i_call, i_callV, i_callV2, i_callI, i_iret, i_zret, i_lret, i_vret, i_aret, i_mmx, i_mmn, i_gsE, i_aceq, i_no, i_acq, i_sw, zsw, zlg, zls, znl, zfg, zcs, zsp, zrc, zisn, zft, zc1, zto, Value.category, List.set_cons_zero, List.set_cons_succ, List.length_cons, List.length_nil, Option.toList, List.append, List.nil_append, List.cons_append, true_and, and_true, Nat.add_zero, Nat.zero_le, Nat.zero_add, Nat.le_refl, Nat.reduceAdd, Nat.reduceLeDiff, co0, z0, zn_0, zn_1, zn_2, zn_3, zn_4, zn_5, zn_8, zn_12, zn_24, zn_121, zn_144, zn_256, zn_300, zn_600, zn_720, zn_1204, zn_1280, zn_2400, zn_4816, zn_14400, zn_90000, h1]
  refine ⟨q, h2, hq, by decide, ?_⟩
  simp only [zup_o hne, h1, i_ic, i_lc, i_nul, i_il, i_ll, i_al, i_is, i_as, i_ls, i_inc, i_iadd, i_isub, i_imul, i_iand, i_ior, i_ixor, i_idiv, i_irem, i_ishl, i_ishr, i_ladd, i_lsub, i_land, i_lor, i_i2l, i_lushr, i_lshl, i_lshr, i_lcmp, i_dup, i_pop, i_dx1, i_dup2, i_ifeq, i_ifne, i_iflt, i_ifge, i_ifgt, i_ifle, i_iceq, i_icne, i_iclt, i_icge, i_icgt, i_icle, i_ifn, i_gf, i_pf, i_ial, i_bal, i_lal, i_aal, i_ias, i_las, i_bas, i_aas, i_alen, i_newa, i_new, i_anew, i_cast, i_oi, i_call, i_callV, i_callV2, i_callI, i_iret, i_zret, i_lret, i_vret, i_aret, i_mmx, i_mmn, i_gsE, i_aceq, i_no, i_acq, i_sw, zsw, zlg, zls, znl, zfg, zcs, zsp, zrc, zisn, zft, zc1, zto, Value.category, List.set_cons_zero, List.set_cons_succ, List.length_cons, List.length_nil, Option.toList, List.append, List.nil_append, List.cons_append, true_and, and_true, Nat.add_zero, Nat.zero_le, Nat.zero_add, Nat.le_refl, Nat.reduceAdd, Nat.reduceLeDiff, co0, z0, zn_0, zn_1, zn_2, zn_3, zn_4, zn_5, zn_8, zn_12, zn_24, zn_121, zn_144, zn_256, zn_300, zn_600, zn_720, zn_1204, zn_1280, zn_2400, zn_4816, zn_14400, zn_90000]
  exact ⟨hm, by decide, hR⟩
def zfte (M : zMp) (t q : zNm) (kd : Int32) (sz : Nat) (g : Nat → Int32) : Prop := M t = some (.inr (1, [.inl (.int kd), .inr q, .inl (.int (nI sz))])) ∧ M q = some (.inl (.int, 4, .inl g)) ∧ sz ≤ 4
abbrev zin (n : Nat) (g : Nat → Int32) : zAE := .inl (.int, n, .inl g)
abbrev zfo (kd : Int32) (q : zNm) (sz : Nat) : zAE := .inr (1, [.inl (.int kd), .inr q, .inl (.int (nI sz))])
def T_FT_init (As : List zAV) (M : zMp) (Rt : Option zAV → zMp → Prop) : Prop := ∃ t q, As = [.inr t] ∧ M t = some (.inr (1, [.inl (.int 0), .inl .null, .inl (.int 0)])) ∧ zmo t ∧ M q = none ∧ zmo q ∧ Rt none (zup (zup M q (zin 4 (fun _ => 0))) t (zfo 0 q 0))
def co_FT_init : List zAV → zMp → Nat × Nat := fun _ _ => (1, 4)
theorem dX0_init_0 : decode cX0_init 0 = .ok (.aload_n 0, 1) := by decide +kernel
theorem dX0_init_1 : decode cX0_init 1 = .ok (.invokespecial 3, 3) := by decide +kernel
theorem dX0_init_4 : decode cX0_init 4 = .ok (.aload_n 0, 1) := by decide +kernel
theorem dX0_init_5 : decode cX0_init 5 = .ok (.iconst 0, 1) := by decide +kernel
theorem dX0_init_6 : decode cX0_init 6 = .ok (.putfield 9, 3) := by decide +kernel
theorem dX0_init_9 : decode cX0_init 9 = .ok (.aload_n 0, 1) := by decide +kernel
theorem dX0_init_10 : decode cX0_init 10 = .ok (.iconst 4, 1) := by decide +kernel
theorem dX0_init_11 : decode cX0_init 11 = .ok (.newarray .int, 2) := by decide +kernel
theorem dX0_init_13 : decode cX0_init 13 = .ok (.putfield 15, 3) := by decide +kernel
theorem dX0_init_16 : decode cX0_init 16 = .ok (.aload_n 0, 1) := by decide +kernel
theorem dX0_init_17 : decode cX0_init 17 = .ok (.iconst 0, 1) := by decide +kernel
theorem dX0_init_18 : decode cX0_init 18 = .ok (.putfield 19, 3) := by decide +kernel
theorem dX0_init_21 : decode cX0_init 21 = .ok (.return_, 1) := by decide +kernel
def B_FT_init_0 (mc ms : Nat) (Rt : Option zAV → zMp → Prop) (g : Nat → zKT) : zKT :=
  (i_al 0 (i_oi (i_al 0 (i_ic 0 (i_pf 1 0 .int (i_al 0 (i_ic 4 (i_newa mc ms .int (i_pf 1 1 (.array .int) (i_al 0 (i_ic 0 (i_pf 1 2 .int (i_vret mc ms Rt)))))))))))))
set_option maxRecDepth 20000 in
theorem s_FT_init_0 {X : zMa} {mc ms : Nat} {Rt : Option zAV → zMp → Prop} (hC : zCx X RX0 cX0_init 1 20 mc ms (none) true Rt) : zLe (B_FT_init_0 mc ms Rt (zG X)) (zG X 0) :=
  (sd_al_n hC rfl dX0_init_0 ((sd_oi hC ml_FT_3 oi_2 oi_3 (by decide) (by decide) dX0_init_1 ((sd_al_n hC rfl dX0_init_4 ((sd_iconst hC (by decide) dX0_init_5 ((sd_pf hC (ci := 1) (fk := 0) rfl wi_FT tyX0 tyX0_ok nmX0 (by decide) fl_FT_9 (Or.inl rfl) (Or.inl rfl) dX0_init_6 ((sd_al_n hC rfl dX0_init_9 ((sd_iconst hC (by decide) dX0_init_10 ((sd_newa hC (at0 := .int) rfl (by decide) ac_int dX0_init_11 ((sd_pf hC (ci := 1) (fk := 1) rfl wi_FT tyX0 tyX0_ok nmX0 (by decide) fl_FT_15 (Or.inl rfl) (Or.inr ⟨rfl, rfl⟩) dX0_init_13 ((sd_al_n hC rfl dX0_init_16 ((sd_iconst hC (by decide) dX0_init_17 ((sd_pf hC (ci := 1) (fk := 2) rfl wi_FT tyX0 tyX0_ok nmX0 (by decide) fl_FT_19 (Or.inl rfl) (Or.inl rfl) dX0_init_18 ((sd_vret hC dX0_init_21)))))))))))))))))))))))))
theorem c_FT_init (l : Launch) : zCT l yX0_init cX0_init 1 (none) 1 20 T_FT_init co_FT_init := by
  intro As M Rt hT
  obtain ⟨t, q, rfl, h1, hm, h2, hq, hR⟩ := hT
  have hne : t ≠ q := fun e => by rw [e, h2] at h1; cases h1
  refine zMet_of true (by decide +kernel) (fun h => by first | rfl | cases h) (Nat.le_of_ble_eq_true rfl) (fun X hN hC => ?_)
  show zG X 0 [some (.inr t)] [] M 0 0
  refine s_FT_init_0 hC _ _ _ _ _ ?_
  simp only [B_FT_init_0, co_FT_init, i_ic, i_lc, i_nul, i_il, i_ll, i_al, i_is, i_as, i_ls, i_inc, i_iadd, i_isub, i_imul, i_iand, i_ior, i_ixor, i_idiv, i_irem, i_ishl, i_ishr, i_ladd, i_lsub, i_land, i_lor, i_i2l, i_lushr, i_lshl, i_lshr, i_lcmp, i_dup, i_pop, i_dx1, i_dup2, i_ifeq, i_ifne, i_iflt, i_ifge, i_ifgt, i_ifle, i_iceq, i_icne, i_iclt, i_icge, i_icgt, i_icle, i_ifn, i_gf, i_pf, i_ial, i_bal, i_lal, i_aal, i_ias, i_las, i_bas, i_aas, i_alen, i_newa, i_new, i_anew, i_cast, i_oi, i_call, i_callV, i_callV2, i_callI, i_iret, i_zret, i_lret, i_vret, i_aret, i_mmx, i_mmn, i_gsE, i_aceq, i_no, i_acq, i_sw, zsw, zlg, zls, znl, zfg, zcs, zsp, zrc, zisn, zft, zc1, zto, Value.category, List.set_cons_zero, List.set_cons_succ, List.length_cons, List.length_nil, Option.toList, List.append, List.nil_append, List.cons_append, true_and, and_true, Nat.add_zero, Nat.zero_le, Nat.zero_add, Nat.le_refl, Nat.reduceAdd, Nat.reduceLeDiff, co0, z0, zn_0, zn_1, zn_2, zn_3, zn_4, zn_5, zn_8, zn_12, zn_24, zn_121, zn_144, zn_256, zn_300, zn_600, zn_720, zn_1204, zn_1280, zn_2400, zn_4816, zn_14400, zn_90000, h1]
  rw [zup_self h1]
  refine ⟨hm, by decide, q, h2, hq, by decide, ?_⟩
  simp only [zup_o hne, h1, zup_s, zup_zup, i_ic, i_lc, i_nul, i_il, i_ll, i_al, i_is, i_as, i_ls, i_inc, i_iadd, i_isub, i_imul, i_iand, i_ior, i_ixor, i_idiv, i_irem, i_ishl, i_ishr, i_ladd, i_lsub, i_land, i_lor, i_i2l, i_lushr, i_lshl, i_lshr, i_lcmp, i_dup, i_pop, i_dx1, i_dup2, i_ifeq, i_ifne, i_iflt, i_ifge, i_ifgt, i_ifle, i_iceq, i_icne, i_iclt, i_icge, i_icgt, i_icle, i_ifn, i_gf, i_pf, i_ial, i_bal, i_lal, i_aal, i_ias, i_las, i_bas, i_aas, i_alen, i_newa, i_new, i_anew, i_cast, i_oi, i_call, i_callV, i_callV2, i_callI, i_iret, i_zret, i_lret, i_vret, i_aret, i_mmx, i_mmn, i_gsE, i_aceq, i_no, i_acq, i_sw, zsw, zlg, zls, znl, zfg, zcs, zsp, zrc, zisn, zft, zc1, zto, Value.category, List.set_cons_zero, List.set_cons_succ, List.length_cons, List.length_nil, Option.toList, List.append, List.nil_append, List.cons_append, true_and, and_true, Nat.add_zero, Nat.zero_le, Nat.zero_add, Nat.le_refl, Nat.reduceAdd, Nat.reduceLeDiff, co0, z0, zn_0, zn_1, zn_2, zn_3, zn_4, zn_5, zn_8, zn_12, zn_24, zn_121, zn_144, zn_256, zn_300, zn_600, zn_720, zn_1204, zn_1280, zn_2400, zn_4816, zn_14400, zn_90000]
  exact ⟨hm, by decide, hm, by decide, hR⟩
def T_FT_setKind (As : List zAV) (M : zMp) (Rt : Option zAV → zMp → Prop) : Prop := ∃ t q kd sz g kd' a b, As = [.inr t, .inl (.int kd'), .inl (.int a), .inl (.int b)] ∧ zmo t ∧ zmo q ∧ zfte M t q kd sz g ∧ Rt none (zup (zup M t (zfo kd' q (if kd' = 0 then 0 else 2))) q (zin 4 (upd (upd g 0 a) 1 b)))
abbrev co_FT_setKind := co0
theorem dX0_setKind_0 : decode cX0_setKind 0 = .ok (.aload_n 0, 1) := by decide +kernel
theorem dX0_setKind_1 : decode cX0_setKind 1 = .ok (.iload_n 1, 1) := by decide +kernel
theorem dX0_setKind_2 : decode cX0_setKind 2 = .ok (.putfield 9, 3) := by decide +kernel
theorem dX0_setKind_5 : decode cX0_setKind 5 = .ok (.aload_n 0, 1) := by decide +kernel
theorem dX0_setKind_6 : decode cX0_setKind 6 = .ok (.iload_n 1, 1) := by decide +kernel
theorem dX0_setKind_7 : decode cX0_setKind 7 = .ok (.ifCond .ne 7, 3) := by decide +kernel
theorem dX0_setKind_10 : decode cX0_setKind 10 = .ok (.iconst 0, 1) := by decide +kernel
theorem dX0_setKind_11 : decode cX0_setKind 11 = .ok (.goto 4, 3) := by decide +kernel
theorem dX0_setKind_14 : decode cX0_setKind 14 = .ok (.iconst 2, 1) := by decide +kernel
theorem dX0_setKind_15 : decode cX0_setKind 15 = .ok (.putfield 19, 3) := by decide +kernel
theorem dX0_setKind_18 : decode cX0_setKind 18 = .ok (.aload_n 0, 1) := by decide +kernel
theorem dX0_setKind_19 : decode cX0_setKind 19 = .ok (.getfield 15, 3) := by decide +kernel
theorem dX0_setKind_22 : decode cX0_setKind 22 = .ok (.iconst 0, 1) := by decide +kernel
theorem dX0_setKind_23 : decode cX0_setKind 23 = .ok (.iload_n 2, 1) := by decide +kernel
theorem dX0_setKind_24 : decode cX0_setKind 24 = .ok (.iastore, 1) := by decide +kernel
theorem dX0_setKind_25 : decode cX0_setKind 25 = .ok (.aload_n 0, 1) := by decide +kernel
theorem dX0_setKind_26 : decode cX0_setKind 26 = .ok (.getfield 15, 3) := by decide +kernel
theorem dX0_setKind_29 : decode cX0_setKind 29 = .ok (.iconst 1, 1) := by decide +kernel
theorem dX0_setKind_30 : decode cX0_setKind 30 = .ok (.iload_n 3, 1) := by decide +kernel
theorem dX0_setKind_31 : decode cX0_setKind 31 = .ok (.iastore, 1) := by decide +kernel
theorem dX0_setKind_32 : decode cX0_setKind 32 = .ok (.return_, 1) := by decide +kernel
def B_FT_setKind_15 (mc ms : Nat) (Rt : Option zAV → zMp → Prop) (g : Nat → zKT) : zKT :=
  (i_pf 1 2 .int (i_al 0 (i_gf 1 1 (i_ic 0 (i_il 2 (i_ias (i_al 0 (i_gf 1 1 (i_ic 1 (i_il 3 (i_ias (i_vret mc ms Rt))))))))))))
set_option maxRecDepth 20000 in
theorem s_FT_setKind_15 {X : zMa} {mc ms : Nat} {Rt : Option zAV → zMp → Prop} (hC : zCx X RX0 cX0_setKind 0 0 mc ms (none) false Rt) : zLe (B_FT_setKind_15 mc ms Rt (zG X)) (zG X 15) :=
  (sd_pf hC (ci := 1) (fk := 2) rfl wi_FT tyX0 tyX0_ok nmX0 (by decide) fl_FT_19 (Or.inl rfl) (Or.inl rfl) dX0_setKind_15 ((sd_al_n hC rfl dX0_setKind_18 ((sd_gf hC (ci := 1) (fk := 1) rfl wi_FT (by decide) fl_FT_15 (Or.inl rfl) dX0_setKind_19 ((sd_iconst hC (by decide) dX0_setKind_22 ((sd_il_n hC rfl dX0_setKind_23 ((sd_ias hC dX0_setKind_24 ((sd_al_n hC rfl dX0_setKind_25 ((sd_gf hC (ci := 1) (fk := 1) rfl wi_FT (by decide) fl_FT_15 (Or.inl rfl) dX0_setKind_26 ((sd_iconst hC (by decide) dX0_setKind_29 ((sd_il_n hC rfl dX0_setKind_30 ((sd_ias hC dX0_setKind_31 ((sd_vret hC dX0_setKind_32)))))))))))))))))))))))
def B_FT_setKind_14 (mc ms : Nat) (Rt : Option zAV → zMp → Prop) (g : Nat → zKT) : zKT :=
  (i_ic 2 (B_FT_setKind_15 mc ms Rt g))
set_option maxRecDepth 20000 in
theorem s_FT_setKind_14 {X : zMa} {mc ms : Nat} {Rt : Option zAV → zMp → Prop} (hC : zCx X RX0 cX0_setKind 0 0 mc ms (none) false Rt) : zLe (B_FT_setKind_14 mc ms Rt (zG X)) (zG X 14) :=
  (sd_iconst hC (by decide) dX0_setKind_14 (s_FT_setKind_15 hC))
def B_FT_setKind_0 (mc ms : Nat) (Rt : Option zAV → zMp → Prop) (g : Nat → zKT) : zKT :=
  (i_al 0 (i_il 1 (i_pf 1 0 .int (i_al 0 (i_il 1 (i_ifne (B_FT_setKind_14 mc ms Rt g) (i_ic 0 (B_FT_setKind_15 mc ms Rt g))))))))
set_option maxRecDepth 20000 in
theorem s_FT_setKind_0 {X : zMa} {mc ms : Nat} {Rt : Option zAV → zMp → Prop} (hC : zCx X RX0 cX0_setKind 0 0 mc ms (none) false Rt) : zLe (B_FT_setKind_0 mc ms Rt (zG X)) (zG X 0) :=
  (sd_al_n hC rfl dX0_setKind_0 ((sd_il_n hC rfl dX0_setKind_1 ((sd_pf hC (ci := 1) (fk := 0) rfl wi_FT tyX0 tyX0_ok nmX0 (by decide) fl_FT_9 (Or.inl rfl) (Or.inl rfl) dX0_setKind_2 ((sd_al_n hC rfl dX0_setKind_5 ((sd_il_n hC rfl dX0_setKind_6 ((sd_ifne hC (tgt := 14) (by decide) dX0_setKind_7 (s_FT_setKind_14 hC) ((sd_iconst hC (by decide) dX0_setKind_10 ((sd_goto hC (tgt := 15) (by decide) dX0_setKind_11 (s_FT_setKind_15 hC))))))))))))))))
theorem c_FT_setKind (l : Launch) : zCT l yX0_setKind cX0_setKind 4 (none) 0 0 T_FT_setKind co_FT_setKind := by
  intro As M Rt hT
  obtain ⟨t, q, kd, sz, g, kd', a, b, rfl, hm, hq, ⟨h1, h2, h3⟩, hR⟩ := hT
  have hne : t ≠ q := zdf h1 h2 (by simp)
  refine zMet_of false (by decide +kernel) (fun h => by first | rfl | cases h) (Nat.le_of_ble_eq_true rfl) (fun X hN hC => ?_)
  show zG X 0 [some (.inr t), some (.inl (.int kd')), some (.inl (.int a)), some (.inl (.int b))] [] M 0 0
  refine s_FT_setKind_0 hC _ _ _ _ _ ?_
  have i0 : vp_in 0 4 := by unfold vp_in; decide
  have i1 : vp_in 1 4 := by unfold vp_in; decide
  simp only [B_FT_setKind_0, B_FT_setKind_14, B_FT_setKind_15, co_FT_setKind, i_ic, i_lc, i_nul, i_il, i_ll, i_al, i_is, i_as, i_ls, i_inc, i_iadd, i_isub, i_imul, i_iand, i_ior, i_ixor, i_idiv, i_irem, i_ishl, i_ishr, i_ladd, i_lsub, i_land, i_lor, i_i2l, i_lushr, i_lshl, i_lshr, i_lcmp, i_dup, i_pop, i_dx1, i_dup2, i_ifeq, i_ifne, i_iflt, i_ifge, i_ifgt, i_ifle, i_iceq, i_icne, i_iclt, i_icge, i_icgt, i_icle, i_ifn, i_gf, i_pf, i_ial, i_bal, i_lal, i_aal, i_ias, i_las, i_bas, i_aas, i_alen, i_newa, i_new, i_anew, i_cast, i_oi, i_call, i_callV, i_callV2, i_callI, i_iret, i_zret, i_lret, i_vret, i_aret, i_mmx, i_mmn, i_gsE, i_aceq, i_no, i_acq, i_sw, zsw, zlg, zls, znl, zfg, zcs, zsp, zrc, zisn, zft, zc1, zto, Value.category, List.set_cons_zero, List.set_cons_succ, List.length_cons, List.length_nil, Option.toList, List.append, List.nil_append, List.cons_append, true_and, and_true, Nat.add_zero, Nat.zero_le, Nat.zero_add, Nat.le_refl, Nat.reduceAdd, Nat.reduceLeDiff, co0, z0, zn_0, zn_1, zn_2, zn_3, zn_4, zn_5, zn_8, zn_12, zn_24, zn_121, zn_144, zn_256, zn_300, zn_600, zn_720, zn_1204, zn_1280, zn_2400, zn_4816, zn_14400, zn_90000, h1, h2, zup_s, zup_zup, zup_o (Ne.symm hne), zup_o hne]
  refine ⟨hm, by decide, fun hk => ⟨hm, by decide, hq, i0, hq, i1, ?_⟩, fun hk => ⟨hm, by decide, hq, i0, hq, i1, ?_⟩⟩
  · rw [if_neg hk] at hR; exact hR
  · rw [if_pos hk] at hR; exact hR
noncomputable def ft_has (sz : Nat) (g : Nat → Int32) (v : Int32) : Bool := zd (∃ i, i < sz ∧ g i = v)
def T_FT_hasNumber (As : List zAV) (M : zMp) (Rt : Option zAV → zMp → Prop) : Prop := ∃ t q kd sz g v, As = [.inr t, .inl (.int v)] ∧ zfte M t q kd sz g ∧ Rt (some (.inl (.int (zb (ft_has sz g v))))) M
abbrev co_FT_hasNumber := co0
theorem dX0_hasNumber_0 : decode cX0_hasNumber 0 = .ok (.iconst 0, 1) := by decide +kernel
theorem dX0_hasNumber_1 : decode cX0_hasNumber 1 = .ok (.istore_n 2, 1) := by decide +kernel
theorem dX0_hasNumber_2 : decode cX0_hasNumber 2 = .ok (.iload_n 2, 1) := by decide +kernel
theorem dX0_hasNumber_3 : decode cX0_hasNumber 3 = .ok (.aload_n 0, 1) := by decide +kernel
theorem dX0_hasNumber_4 : decode cX0_hasNumber 4 = .ok (.getfield 19, 3) := by decide +kernel
theorem dX0_hasNumber_7 : decode cX0_hasNumber 7 = .ok (.if_icmp .ge 21, 3) := by decide +kernel
theorem dX0_hasNumber_10 : decode cX0_hasNumber 10 = .ok (.aload_n 0, 1) := by decide +kernel
theorem dX0_hasNumber_11 : decode cX0_hasNumber 11 = .ok (.getfield 15, 3) := by decide +kernel
theorem dX0_hasNumber_14 : decode cX0_hasNumber 14 = .ok (.iload_n 2, 1) := by decide +kernel
theorem dX0_hasNumber_15 : decode cX0_hasNumber 15 = .ok (.iaload, 1) := by decide +kernel
theorem dX0_hasNumber_16 : decode cX0_hasNumber 16 = .ok (.iload_n 1, 1) := by decide +kernel
theorem dX0_hasNumber_17 : decode cX0_hasNumber 17 = .ok (.if_icmp .ne 5, 3) := by decide +kernel
theorem dX0_hasNumber_20 : decode cX0_hasNumber 20 = .ok (.iconst 1, 1) := by decide +kernel
theorem dX0_hasNumber_21 : decode cX0_hasNumber 21 = .ok (.ireturn, 1) := by decide +kernel
theorem dX0_hasNumber_22 : decode cX0_hasNumber 22 = .ok (.iinc 2 1, 3) := by decide +kernel
theorem dX0_hasNumber_25 : decode cX0_hasNumber 25 = .ok (.goto (-23), 3) := by decide +kernel
theorem dX0_hasNumber_28 : decode cX0_hasNumber 28 = .ok (.iconst 0, 1) := by decide +kernel
theorem dX0_hasNumber_29 : decode cX0_hasNumber 29 = .ok (.ireturn, 1) := by decide +kernel
def B_FT_hasNumber_28 (mc ms : Nat) (Rt : Option zAV → zMp → Prop) (g : Nat → zKT) : zKT :=
  (i_ic 0 (i_zret mc ms Rt))
set_option maxRecDepth 20000 in
theorem s_FT_hasNumber_28 {X : zMa} {mc ms : Nat} {Rt : Option zAV → zMp → Prop} (hC : zCx X RX0 cX0_hasNumber 0 0 mc ms (some .boolean) false Rt) (hN : zNL X = 3) : zLe (B_FT_hasNumber_28 mc ms Rt (zG X)) (zG X 28) :=
  (sd_iconst hC (by decide) dX0_hasNumber_28 ((sd_zret hC dX0_hasNumber_29)))
def B_FT_hasNumber_22 (mc ms : Nat) (Rt : Option zAV → zMp → Prop) (g : Nat → zKT) : zKT :=
  (i_inc 2 1 (g 2))
set_option maxRecDepth 20000 in
theorem s_FT_hasNumber_22 {X : zMa} {mc ms : Nat} {Rt : Option zAV → zMp → Prop} (hC : zCx X RX0 cX0_hasNumber 0 0 mc ms (some .boolean) false Rt) (hN : zNL X = 3) : zLe (B_FT_hasNumber_22 mc ms Rt (zG X)) (zG X 22) :=
  (sd_inc hC (by decide) (by rw [hN]; decide) dX0_hasNumber_22 ((sd_goto hC (tgt := 2) (by decide) dX0_hasNumber_25 (zLe_rfl))))
def B_FT_hasNumber_2 (mc ms : Nat) (Rt : Option zAV → zMp → Prop) (g : Nat → zKT) : zKT :=
  (i_il 2 (i_al 0 (i_gf 1 2 (i_icge (B_FT_hasNumber_28 mc ms Rt g) (i_al 0 (i_gf 1 1 (i_il 2 (i_ial (i_il 1 (i_icne (B_FT_hasNumber_22 mc ms Rt g) (i_ic 1 (i_zret mc ms Rt))))))))))))
set_option maxRecDepth 20000 in
theorem s_FT_hasNumber_2 {X : zMa} {mc ms : Nat} {Rt : Option zAV → zMp → Prop} (hC : zCx X RX0 cX0_hasNumber 0 0 mc ms (some .boolean) false Rt) (hN : zNL X = 3) : zLe (B_FT_hasNumber_2 mc ms Rt (zG X)) (zG X 2) :=
  (sd_il_n hC rfl dX0_hasNumber_2 ((sd_al_n hC rfl dX0_hasNumber_3 ((sd_gf hC (ci := 1) (fk := 2) rfl wi_FT (by decide) fl_FT_19 (Or.inl rfl) dX0_hasNumber_4 ((sd_icge hC (tgt := 28) (by decide) dX0_hasNumber_7 (s_FT_hasNumber_28 hC hN) ((sd_al_n hC rfl dX0_hasNumber_10 ((sd_gf hC (ci := 1) (fk := 1) rfl wi_FT (by decide) fl_FT_15 (Or.inl rfl) dX0_hasNumber_11 ((sd_il_n hC rfl dX0_hasNumber_14 ((sd_ial hC dX0_hasNumber_15 ((sd_il_n hC rfl dX0_hasNumber_16 ((sd_icne hC (tgt := 22) (by decide) dX0_hasNumber_17 (s_FT_hasNumber_22 hC hN) ((sd_iconst hC (by decide) dX0_hasNumber_20 ((sd_zret hC dX0_hasNumber_21)))))))))))))))))))))))
def B_FT_hasNumber_0 (mc ms : Nat) (Rt : Option zAV → zMp → Prop) (g : Nat → zKT) : zKT :=
  (i_ic 0 (i_is 2 (g 2)))
set_option maxRecDepth 20000 in
theorem s_FT_hasNumber_0 {X : zMa} {mc ms : Nat} {Rt : Option zAV → zMp → Prop} (hC : zCx X RX0 cX0_hasNumber 0 0 mc ms (some .boolean) false Rt) (hN : zNL X = 3) : zLe (B_FT_hasNumber_0 mc ms Rt (zG X)) (zG X 0) :=
  (sd_iconst hC (by decide) dX0_hasNumber_0 ((sd_is_n hC rfl (by rw [hN]; decide) dX0_hasNumber_1 (zLe_rfl))))
theorem c_FT_hasNumber (l : Launch) : zCT l yX0_hasNumber cX0_hasNumber 3 (some .boolean) 0 0 T_FT_hasNumber co_FT_hasNumber := by
  intro As M Rt hT
  obtain ⟨t, q, kd, sz, g, v, rfl, ⟨h1, h2, h3⟩, hR⟩ := hT
  refine zMet_of false (by decide +kernel) (fun h => by first | rfl | cases h) (Nat.le_of_ble_eq_true rfl) (fun X hN hC => ?_)
  show zG X 0 [some (.inr t), some (.inl (.int v)), none] [] M 0 0
  have loop := upto (N := sz) (P := fun i => (∀ j, j < i → ¬ g j = v) → zG X 2 [some (.inr t), some (.inl (.int v)), some (.inl (.int (nI i)))] [] M 0 0) (fun i hi ih hp => by
    refine s_FT_hasNumber_2 hC hN _ _ _ _ _ ?_
    simp only [B_FT_hasNumber_0, B_FT_hasNumber_2, B_FT_hasNumber_22, B_FT_hasNumber_28, co_FT_hasNumber, i_ic, i_lc, i_nul, i_il, i_ll, i_al, i_is, i_as, i_ls, i_inc, i_iadd, i_isub, i_imul, i_iand, i_ior, i_ixor, i_idiv, i_irem, i_ishl, i_ishr, i_ladd, i_lsub, i_land, i_lor, i_i2l, i_lushr, i_lshl, i_lshr, i_lcmp, i_dup, i_pop, i_dx1, i_dup2, i_ifeq, i_ifne, i_iflt, i_ifge, i_ifgt, i_ifle, i_iceq, i_icne, i_iclt, i_icge, i_icgt, i_icle, i_ifn, i_gf, i_pf, i_ial, i_bal, i_lal, i_aal, i_ias, i_las, i_bas, i_aas, i_alen, i_newa, i_new, i_anew, i_cast, i_oi, i_call, i_callV, i_callV2, i_callI, i_iret, i_zret, i_lret, i_vret, i_aret, i_mmx, i_mmn, i_gsE, i_aceq, i_no, i_acq, i_sw, zsw, zlg, zls, znl, zfg, zcs, zsp, zrc, zisn, zft, zc1, zto, Value.category, List.set_cons_zero, List.set_cons_succ, List.length_cons, List.length_nil, Option.toList, List.append, List.nil_append, List.cons_append, true_and, and_true, Nat.add_zero, Nat.zero_le, Nat.zero_add, Nat.le_refl, Nat.reduceAdd, Nat.reduceLeDiff, co0, z0, zn_0, zn_1, zn_2, zn_3, zn_4, zn_5, zn_8, zn_12, zn_24, zn_121, zn_144, zn_256, zn_300, zn_600, zn_720, zn_1204, zn_1280, zn_2400, zn_4816, zn_14400, zn_90000, h1, h2]
    rw [nI_clamp (by omega), nI_1]
    refine ⟨fun h => absurd ((zK (K := sz) (by omega) (n := i) (by omega)).2.1.mp h) (by omega), fun _ => ⟨vp_in_nI (by omega) (by decide), fun hn => ih (lt_s hp hn), fun he => ⟨by decide, ?_⟩⟩⟩
    have : ft_has sz g v = true := zd_t ⟨i, hi, he⟩
    rw [this] at hR
    exact hR) (fun hp => by
    refine s_FT_hasNumber_2 hC hN _ _ _ _ _ ?_
    simp only [B_FT_hasNumber_0, B_FT_hasNumber_2, B_FT_hasNumber_22, B_FT_hasNumber_28, co_FT_hasNumber, i_ic, i_lc, i_nul, i_il, i_ll, i_al, i_is, i_as, i_ls, i_inc, i_iadd, i_isub, i_imul, i_iand, i_ior, i_ixor, i_idiv, i_irem, i_ishl, i_ishr, i_ladd, i_lsub, i_land, i_lor, i_i2l, i_lushr, i_lshl, i_lshr, i_lcmp, i_dup, i_pop, i_dx1, i_dup2, i_ifeq, i_ifne, i_iflt, i_ifge, i_ifgt, i_ifle, i_iceq, i_icne, i_iclt, i_icge, i_icgt, i_icle, i_ifn, i_gf, i_pf, i_ial, i_bal, i_lal, i_aal, i_ias, i_las, i_bas, i_aas, i_alen, i_newa, i_new, i_anew, i_cast, i_oi, i_call, i_callV, i_callV2, i_callI, i_iret, i_zret, i_lret, i_vret, i_aret, i_mmx, i_mmn, i_gsE, i_aceq, i_no, i_acq, i_sw, zsw, zlg, zls, znl, zfg, zcs, zsp, zrc, zisn, zft, zc1, zto, Value.category, List.set_cons_zero, List.set_cons_succ, List.length_cons, List.length_nil, Option.toList, List.append, List.nil_append, List.cons_append, true_and, and_true, Nat.add_zero, Nat.zero_le, Nat.zero_add, Nat.le_refl, Nat.reduceAdd, Nat.reduceLeDiff, co0, z0, zn_0, zn_1, zn_2, zn_3, zn_4, zn_5, zn_8, zn_12, zn_24, zn_121, zn_144, zn_256, zn_300, zn_600, zn_720, zn_1204, zn_1280, zn_2400, zn_4816, zn_14400, zn_90000, h1, h2]
    refine ⟨fun _ => ⟨by decide, ?_⟩, fun h => absurd ((zK (K := sz) (by omega) (n := sz) (by omega)).2.1.mpr (Nat.le_refl _)) h⟩
    have : ft_has sz g v = false := zd_f (fun ⟨i, hi, he⟩ => hp i hi he)
    rw [this] at hR
    exact hR) 0 (Nat.zero_le _)
  refine s_FT_hasNumber_0 hC hN _ _ _ _ _ ?_
  simp only [B_FT_hasNumber_0, B_FT_hasNumber_2, B_FT_hasNumber_22, B_FT_hasNumber_28, co_FT_hasNumber, i_ic, i_lc, i_nul, i_il, i_ll, i_al, i_is, i_as, i_ls, i_inc, i_iadd, i_isub, i_imul, i_iand, i_ior, i_ixor, i_idiv, i_irem, i_ishl, i_ishr, i_ladd, i_lsub, i_land, i_lor, i_i2l, i_lushr, i_lshl, i_lshr, i_lcmp, i_dup, i_pop, i_dx1, i_dup2, i_ifeq, i_ifne, i_iflt, i_ifge, i_ifgt, i_ifle, i_iceq, i_icne, i_iclt, i_icge, i_icgt, i_icle, i_ifn, i_gf, i_pf, i_ial, i_bal, i_lal, i_aal, i_ias, i_las, i_bas, i_aas, i_alen, i_newa, i_new, i_anew, i_cast, i_oi, i_call, i_callV, i_callV2, i_callI, i_iret, i_zret, i_lret, i_vret, i_aret, i_mmx, i_mmn, i_gsE, i_aceq, i_no, i_acq, i_sw, zsw, zlg, zls, znl, zfg, zcs, zsp, zrc, zisn, zft, zc1, zto, Value.category, List.set_cons_zero, List.set_cons_succ, List.length_cons, List.length_nil, Option.toList, List.append, List.nil_append, List.cons_append, true_and, and_true, Nat.add_zero, Nat.zero_le, Nat.zero_add, Nat.le_refl, Nat.reduceAdd, Nat.reduceLeDiff, co0, z0, zn_0, zn_1, zn_2, zn_3, zn_4, zn_5, zn_8, zn_12, zn_24, zn_121, zn_144, zn_256, zn_300, zn_600, zn_720, zn_1204, zn_1280, zn_2400, zn_4816, zn_14400, zn_90000]
  exact loop (fun j hj => absurd hj (Nat.not_lt_zero j))
/-- the place from at on, downwards -/
def ft_ins (v : Int32) : Nat → (Nat → Int32) → (Nat → Int32)
  | 0, g => upd g 0 v
  | at0 + 1, g => if v < g at0 then ft_ins v at0 (upd g (at0 + 1) (g at0)) else upd g (at0 + 1) v
/-- what addNumber makes of kind, size, numbers; and whether it does -/
noncomputable def ft_can (kd : Int32) (sz : Nat) (g : Nat → Int32) (v : Int32) : Bool := zd (¬ kd = 3 ∨ (sz < 4 ∧ ft_has sz g v = false))
def T_FT_addNumber (As : List zAV) (M : zMp) (Rt : Option zAV → zMp → Prop) : Prop := ∃ t q kd sz g v, As = [.inr t, .inl (.int v)] ∧ zmo t ∧ zmo q ∧ zfte M t q kd sz g ∧ (ft_can kd sz g v = false → Rt (some (.inl (.int 0))) M) ∧ (ft_can kd sz g v = true → Rt (some (.inl (.int 1))) (zup (zup M q (zin 4 (ft_ins v (if kd = 3 then sz else 0) g))) t (zfo 3 q ((if kd = 3 then sz else 0) + 1))))
abbrev co_FT_addNumber := co0
theorem dX0_addNumber_0 : decode cX0_addNumber 0 = .ok (.aload_n 0, 1) := by decide +kernel
theorem dX0_addNumber_1 : decode cX0_addNumber 1 = .ok (.getfield 9, 3) := by decide +kernel
theorem dX0_addNumber_4 : decode cX0_addNumber 4 = .ok (.iconst 3, 1) := by decide +kernel
theorem dX0_addNumber_5 : decode cX0_addNumber 5 = .ok (.if_icmp .eq 13, 3) := by decide +kernel
theorem dX0_addNumber_8 : decode cX0_addNumber 8 = .ok (.aload_n 0, 1) := by decide +kernel
theorem dX0_addNumber_9 : decode cX0_addNumber 9 = .ok (.iconst 3, 1) := by decide +kernel
theorem dX0_addNumber_10 : decode cX0_addNumber 10 = .ok (.putfield 9, 3) := by decide +kernel
theorem dX0_addNumber_13 : decode cX0_addNumber 13 = .ok (.aload_n 0, 1) := by decide +kernel
theorem dX0_addNumber_14 : decode cX0_addNumber 14 = .ok (.iconst 0, 1) := by decide +kernel
theorem dX0_addNumber_15 : decode cX0_addNumber 15 = .ok (.putfield 19, 3) := by decide +kernel
theorem dX0_addNumber_18 : decode cX0_addNumber 18 = .ok (.aload_n 0, 1) := by decide +kernel
theorem dX0_addNumber_19 : decode cX0_addNumber 19 = .ok (.getfield 19, 3) := by decide +kernel
theorem dX0_addNumber_22 : decode cX0_addNumber 22 = .ok (.iconst 4, 1) := by decide +kernel
theorem dX0_addNumber_23 : decode cX0_addNumber 23 = .ok (.if_icmp .ge 11, 3) := by decide +kernel
theorem dX0_addNumber_26 : decode cX0_addNumber 26 = .ok (.aload_n 0, 1) := by decide +kernel
theorem dX0_addNumber_27 : decode cX0_addNumber 27 = .ok (.iload_n 1, 1) := by decide +kernel
theorem dX0_addNumber_28 : decode cX0_addNumber 28 = .ok (.invokevirtual 22, 3) := by decide +kernel
theorem dX0_addNumber_31 : decode cX0_addNumber 31 = .ok (.ifCond .eq 5, 3) := by decide +kernel
theorem dX0_addNumber_34 : decode cX0_addNumber 34 = .ok (.iconst 0, 1) := by decide +kernel
theorem dX0_addNumber_35 : decode cX0_addNumber 35 = .ok (.ireturn, 1) := by decide +kernel
theorem dX0_addNumber_36 : decode cX0_addNumber 36 = .ok (.aload_n 0, 1) := by decide +kernel
theorem dX0_addNumber_37 : decode cX0_addNumber 37 = .ok (.getfield 19, 3) := by decide +kernel
theorem dX0_addNumber_40 : decode cX0_addNumber 40 = .ok (.istore_n 2, 1) := by decide +kernel
theorem dX0_addNumber_41 : decode cX0_addNumber 41 = .ok (.iload_n 2, 1) := by decide +kernel
theorem dX0_addNumber_42 : decode cX0_addNumber 42 = .ok (.ifCond .le 35, 3) := by decide +kernel
theorem dX0_addNumber_45 : decode cX0_addNumber 45 = .ok (.aload_n 0, 1) := by decide +kernel
theorem dX0_addNumber_46 : decode cX0_addNumber 46 = .ok (.getfield 15, 3) := by decide +kernel
theorem dX0_addNumber_49 : decode cX0_addNumber 49 = .ok (.iload_n 2, 1) := by decide +kernel
theorem dX0_addNumber_50 : decode cX0_addNumber 50 = .ok (.iconst 1, 1) := by decide +kernel
theorem dX0_addNumber_51 : decode cX0_addNumber 51 = .ok (.isub, 1) := by decide +kernel
theorem dX0_addNumber_52 : decode cX0_addNumber 52 = .ok (.iaload, 1) := by decide +kernel
theorem dX0_addNumber_53 : decode cX0_addNumber 53 = .ok (.iload_n 1, 1) := by decide +kernel
theorem dX0_addNumber_54 : decode cX0_addNumber 54 = .ok (.if_icmp .le 23, 3) := by decide +kernel
theorem dX0_addNumber_57 : decode cX0_addNumber 57 = .ok (.aload_n 0, 1) := by decide +kernel
theorem dX0_addNumber_58 : decode cX0_addNumber 58 = .ok (.getfield 15, 3) := by decide +kernel
theorem dX0_addNumber_61 : decode cX0_addNumber 61 = .ok (.iload_n 2, 1) := by decide +kernel
theorem dX0_addNumber_62 : decode cX0_addNumber 62 = .ok (.aload_n 0, 1) := by decide +kernel
theorem dX0_addNumber_63 : decode cX0_addNumber 63 = .ok (.getfield 15, 3) := by decide +kernel
theorem dX0_addNumber_66 : decode cX0_addNumber 66 = .ok (.iload_n 2, 1) := by decide +kernel
theorem dX0_addNumber_67 : decode cX0_addNumber 67 = .ok (.iconst 1, 1) := by decide +kernel
theorem dX0_addNumber_68 : decode cX0_addNumber 68 = .ok (.isub, 1) := by decide +kernel
theorem dX0_addNumber_69 : decode cX0_addNumber 69 = .ok (.iaload, 1) := by decide +kernel
theorem dX0_addNumber_70 : decode cX0_addNumber 70 = .ok (.iastore, 1) := by decide +kernel
theorem dX0_addNumber_71 : decode cX0_addNumber 71 = .ok (.iinc 2 (-1), 3) := by decide +kernel
theorem dX0_addNumber_74 : decode cX0_addNumber 74 = .ok (.goto (-33), 3) := by decide +kernel
theorem dX0_addNumber_77 : decode cX0_addNumber 77 = .ok (.aload_n 0, 1) := by decide +kernel
theorem dX0_addNumber_78 : decode cX0_addNumber 78 = .ok (.getfield 15, 3) := by decide +kernel
theorem dX0_addNumber_81 : decode cX0_addNumber 81 = .ok (.iload_n 2, 1) := by decide +kernel
theorem dX0_addNumber_82 : decode cX0_addNumber 82 = .ok (.iload_n 1, 1) := by decide +kernel
theorem dX0_addNumber_83 : decode cX0_addNumber 83 = .ok (.iastore, 1) := by decide +kernel
theorem dX0_addNumber_84 : decode cX0_addNumber 84 = .ok (.aload_n 0, 1) := by decide +kernel
theorem dX0_addNumber_85 : decode cX0_addNumber 85 = .ok (.dup, 1) := by decide +kernel
theorem dX0_addNumber_86 : decode cX0_addNumber 86 = .ok (.getfield 19, 3) := by decide +kernel
theorem dX0_addNumber_89 : decode cX0_addNumber 89 = .ok (.iconst 1, 1) := by decide +kernel
theorem dX0_addNumber_90 : decode cX0_addNumber 90 = .ok (.iadd, 1) := by decide +kernel
theorem dX0_addNumber_91 : decode cX0_addNumber 91 = .ok (.putfield 19, 3) := by decide +kernel
theorem dX0_addNumber_94 : decode cX0_addNumber 94 = .ok (.iconst 1, 1) := by decide +kernel
theorem dX0_addNumber_95 : decode cX0_addNumber 95 = .ok (.ireturn, 1) := by decide +kernel
def B_FT_addNumber_77 (mc ms : Nat) (Rt : Option zAV → zMp → Prop) (g : Nat → zKT) : zKT :=
  (i_al 0 (i_gf 1 1 (i_il 2 (i_il 1 (i_ias (i_al 0 (i_dup (i_gf 1 2 (i_ic 1 (i_iadd (i_pf 1 2 .int (i_ic 1 (i_zret mc ms Rt)))))))))))))
set_option maxRecDepth 20000 in
theorem s_FT_addNumber_77 {X : zMa} {mc ms : Nat} {Rt : Option zAV → zMp → Prop} (hC : zCx X RX0 cX0_addNumber 1 22 mc ms (some .boolean) false Rt) (hN : zNL X = 3) : zLe (B_FT_addNumber_77 mc ms Rt (zG X)) (zG X 77) :=
  (sd_al_n hC rfl dX0_addNumber_77 ((sd_gf hC (ci := 1) (fk := 1) rfl wi_FT (by decide) fl_FT_15 (Or.inl rfl) dX0_addNumber_78 ((sd_il_n hC rfl dX0_addNumber_81 ((sd_il_n hC rfl dX0_addNumber_82 ((sd_ias hC dX0_addNumber_83 ((sd_al_n hC rfl dX0_addNumber_84 ((sd_dup hC dX0_addNumber_85 ((sd_gf hC (ci := 1) (fk := 2) rfl wi_FT (by decide) fl_FT_19 (Or.inl rfl) dX0_addNumber_86 ((sd_iconst hC (by decide) dX0_addNumber_89 ((sd_iadd hC dX0_addNumber_90 ((sd_pf hC (ci := 1) (fk := 2) rfl wi_FT tyX0 tyX0_ok nmX0 (by decide) fl_FT_19 (Or.inl rfl) (Or.inl rfl) dX0_addNumber_91 ((sd_iconst hC (by decide) dX0_addNumber_94 ((sd_zret hC dX0_addNumber_95)))))))))))))))))))))))))
def B_FT_addNumber_41 (mc ms : Nat) (Rt : Option zAV → zMp → Prop) (g : Nat → zKT) : zKT :=
  (i_il 2 (i_ifle (B_FT_addNumber_77 mc ms Rt g) (i_al 0 (i_gf 1 1 (i_il 2 (i_ic 1 (i_isub (i_ial (i_il 1 (i_icle (B_FT_addNumber_77 mc ms Rt g) (i_al 0 (i_gf 1 1 (i_il 2 (i_al 0 (i_gf 1 1 (i_il 2 (i_ic 1 (i_isub (i_ial (i_ias (i_inc 2 (-1) (g 41))))))))))))))))))))))
set_option maxRecDepth 20000 in
theorem s_FT_addNumber_41 {X : zMa} {mc ms : Nat} {Rt : Option zAV → zMp → Prop} (hC : zCx X RX0 cX0_addNumber 1 22 mc ms (some .boolean) false Rt) (hN : zNL X = 3) : zLe (B_FT_addNumber_41 mc ms Rt (zG X)) (zG X 41) :=
  (sd_il_n hC rfl dX0_addNumber_41 ((sd_ifle hC (tgt := 77) (by decide) dX0_addNumber_42 (s_FT_addNumber_77 hC hN) ((sd_al_n hC rfl dX0_addNumber_45 ((sd_gf hC (ci := 1) (fk := 1) rfl wi_FT (by decide) fl_FT_15 (Or.inl rfl) dX0_addNumber_46 ((sd_il_n hC rfl dX0_addNumber_49 ((sd_iconst hC (by decide) dX0_addNumber_50 ((sd_isub hC dX0_addNumber_51 ((sd_ial hC dX0_addNumber_52 ((sd_il_n hC rfl dX0_addNumber_53 ((sd_icle hC (tgt := 77) (by decide) dX0_addNumber_54 (s_FT_addNumber_77 hC hN) ((sd_al_n hC rfl dX0_addNumber_57 ((sd_gf hC (ci := 1) (fk := 1) rfl wi_FT (by decide) fl_FT_15 (Or.inl rfl) dX0_addNumber_58 ((sd_il_n hC rfl dX0_addNumber_61 ((sd_al_n hC rfl dX0_addNumber_62 ((sd_gf hC (ci := 1) (fk := 1) rfl wi_FT (by decide) fl_FT_15 (Or.inl rfl) dX0_addNumber_63 ((sd_il_n hC rfl dX0_addNumber_66 ((sd_iconst hC (by decide) dX0_addNumber_67 ((sd_isub hC dX0_addNumber_68 ((sd_ial hC dX0_addNumber_69 ((sd_ias hC dX0_addNumber_70 ((sd_inc hC (by decide) (by rw [hN]; decide) dX0_addNumber_71 ((sd_goto hC (tgt := 41) (by decide) dX0_addNumber_74 (zLe_rfl))))))))))))))))))))))))))))))))))))))))))))
def B_FT_addNumber_36 (mc ms : Nat) (Rt : Option zAV → zMp → Prop) (g : Nat → zKT) : zKT :=
  (i_al 0 (i_gf 1 2 (i_is 2 (g 41))))
set_option maxRecDepth 20000 in
theorem s_FT_addNumber_36 {X : zMa} {mc ms : Nat} {Rt : Option zAV → zMp → Prop} (hC : zCx X RX0 cX0_addNumber 1 22 mc ms (some .boolean) false Rt) (hN : zNL X = 3) : zLe (B_FT_addNumber_36 mc ms Rt (zG X)) (zG X 36) :=
  (sd_al_n hC rfl dX0_addNumber_36 ((sd_gf hC (ci := 1) (fk := 2) rfl wi_FT (by decide) fl_FT_19 (Or.inl rfl) dX0_addNumber_37 ((sd_is_n hC rfl (by rw [hN]; decide) dX0_addNumber_40 (zLe_rfl))))))
def B_FT_addNumber_34 (mc ms : Nat) (Rt : Option zAV → zMp → Prop) (g : Nat → zKT) : zKT :=
  (i_ic 0 (i_zret mc ms Rt))
set_option maxRecDepth 20000 in
theorem s_FT_addNumber_34 {X : zMa} {mc ms : Nat} {Rt : Option zAV → zMp → Prop} (hC : zCx X RX0 cX0_addNumber 1 22 mc ms (some .boolean) false Rt) (hN : zNL X = 3) : zLe (B_FT_addNumber_34 mc ms Rt (zG X)) (zG X 34) :=
  (sd_iconst hC (by decide) dX0_addNumber_34 ((sd_zret hC dX0_addNumber_35)))
def B_FT_addNumber_18 (mc ms : Nat) (Rt : Option zAV → zMp → Prop) (g : Nat → zKT) : zKT :=
  (i_al 0 (i_gf 1 2 (i_ic 4 (i_icge (B_FT_addNumber_34 mc ms Rt g) (i_al 0 (i_il 1 (i_callV mc ms 1 2 T_FT_hasNumber co_FT_hasNumber (i_ifeq (B_FT_addNumber_36 mc ms Rt g) (B_FT_addNumber_34 mc ms Rt g)))))))))
set_option maxRecDepth 20000 in
theorem s_FT_addNumber_18 {X : zMa} {mc ms : Nat} {Rt : Option zAV → zMp → Prop} (hC : zCx X RX0 cX0_addNumber 1 22 mc ms (some .boolean) false Rt) (hN : zNL X = 3) : zLe (B_FT_addNumber_18 mc ms Rt (zG X)) (zG X 18) :=
  (sd_al_n hC rfl dX0_addNumber_18 ((sd_gf hC (ci := 1) (fk := 2) rfl wi_FT (by decide) fl_FT_19 (Or.inl rfl) dX0_addNumber_19 ((sd_iconst hC (by decide) dX0_addNumber_22 ((sd_icge hC (tgt := 34) (by decide) dX0_addNumber_23 (s_FT_addNumber_34 hC hN) ((sd_al_n hC rfl dX0_addNumber_26 ((sd_il_n hC rfl dX0_addNumber_27 ((sd_cV hC c_FT_hasNumber yv_FT_hasNumber (ci := 1) rfl rfl ml_FT_22 (by decide) (by decide) dX0_addNumber_28 ((sd_ifeq hC (tgt := 36) (by decide) dX0_addNumber_31 (s_FT_addNumber_36 hC hN) (s_FT_addNumber_34 hC hN))))))))))))))))
def B_FT_addNumber_0 (mc ms : Nat) (Rt : Option zAV → zMp → Prop) (g : Nat → zKT) : zKT :=
  (i_al 0 (i_gf 1 0 (i_ic 3 (i_iceq (B_FT_addNumber_18 mc ms Rt g) (i_al 0 (i_ic 3 (i_pf 1 0 .int (i_al 0 (i_ic 0 (i_pf 1 2 .int (B_FT_addNumber_18 mc ms Rt g)))))))))))
set_option maxRecDepth 20000 in
theorem s_FT_addNumber_0 {X : zMa} {mc ms : Nat} {Rt : Option zAV → zMp → Prop} (hC : zCx X RX0 cX0_addNumber 1 22 mc ms (some .boolean) false Rt) (hN : zNL X = 3) : zLe (B_FT_addNumber_0 mc ms Rt (zG X)) (zG X 0) :=
  (sd_al_n hC rfl dX0_addNumber_0 ((sd_gf hC (ci := 1) (fk := 0) rfl wi_FT (by decide) fl_FT_9 (Or.inl rfl) dX0_addNumber_1 ((sd_iconst hC (by decide) dX0_addNumber_4 ((sd_iceq hC (tgt := 18) (by decide) dX0_addNumber_5 (s_FT_addNumber_18 hC hN) ((sd_al_n hC rfl dX0_addNumber_8 ((sd_iconst hC (by decide) dX0_addNumber_9 ((sd_pf hC (ci := 1) (fk := 0) rfl wi_FT tyX0 tyX0_ok nmX0 (by decide) fl_FT_9 (Or.inl rfl) (Or.inl rfl) dX0_addNumber_10 ((sd_al_n hC rfl dX0_addNumber_13 ((sd_iconst hC (by decide) dX0_addNumber_14 ((sd_pf hC (ci := 1) (fk := 2) rfl wi_FT tyX0 tyX0_ok nmX0 (by decide) fl_FT_19 (Or.inl rfl) (Or.inl rfl) dX0_addNumber_15 (s_FT_addNumber_18 hC hN))))))))))))))))))))
theorem c_FT_addNumber (l : Launch) : zCT l yX0_addNumber cX0_addNumber 3 (some .boolean) 1 22 T_FT_addNumber co_FT_addNumber := by
  intro As M Rt hT
  obtain ⟨t, q, kd, sz, g, v, rfl, hm, hq, ⟨h1, h2, h3⟩, hR0, hR1⟩ := hT
  have hne : t ≠ q := zdf h1 h2 (by simp)
  refine zMet_of false (by decide +kernel) (fun h => by first | rfl | cases h) (Nat.le_of_ble_eq_true rfl) (fun X hN hC => ?_)
  show zG X 0 [some (.inr t), some (.inl (.int v)), none] [] M 0 0
  -- the loop, for a size n below 4
  have loop : ∀ (n : Nat), n < 4 → ∀ (M1 : zMp), M1 t = some (zfo 3 q n) → ∀ (a : Nat) (g' : Nat → Int32), a ≤ n → Rt (some (.inl (.int 1))) (zup (zup M1 q (zin 4 (ft_ins v a g'))) t (zfo 3 q (n + 1))) → zG X 41 [some (.inr t), some (.inl (.int v)), some (.inl (.int (nI a)))] [] (zup M1 q (zin 4 g')) 0 0 := by
    intro n hn M1 ht a
    induction a with
    | zero =>
      intro g' _ hr
      refine s_FT_addNumber_41 hC hN _ _ _ _ _ ?_
      simp only [B_FT_addNumber_0, B_FT_addNumber_18, B_FT_addNumber_34, B_FT_addNumber_36, B_FT_addNumber_41, B_FT_addNumber_77, co_FT_addNumber, co_FT_hasNumber, i_ic, i_lc, i_nul, i_il, i_ll, i_al, i_is, i_as, i_ls, i_inc, i_iadd, i_isub, i_imul, i_iand, i_ior, i_ixor, i_idiv, i_irem, i_ishl, i_ishr, i_ladd, i_lsub, i_land, i_lor, i_i2l, i_lushr, i_lshl, i_lshr, i_lcmp, i_dup, i_pop, i_dx1, i_dup2, i_ifeq, i_ifne, i_iflt, i_ifge, i_ifgt, i_ifle, i_iceq, i_icne, i_iclt, i_icge, i_icgt, i_icle, i_ifn, i_gf, i_pf, i_ial, i_bal, i_lal, i_aal, i_ias, i_las, i_bas, i_aas, i_alen, i_newa, i_new, i_anew, i_cast, i_oi, i_call, i_callV, i_callV2, i_callI, i_iret, i_zret, i_lret, i_vret, i_aret, i_mmx, i_mmn, i_gsE, i_aceq, i_no, i_acq, i_sw, zsw, zlg, zls, znl, zfg, zcs, zsp, zrc, zisn, zft, zc1, zto, Value.category, List.set_cons_zero, List.set_cons_succ, List.length_cons, List.length_nil, Option.toList, List.append, List.nil_append, List.cons_append, true_and, and_true, Nat.add_zero, Nat.zero_le, Nat.zero_add, Nat.le_refl, Nat.reduceAdd, Nat.reduceLeDiff, co0, z0, zn_0, zn_1, zn_2, zn_3, zn_4, zn_5, zn_8, zn_12, zn_24, zn_121, zn_144, zn_256, zn_300, zn_600, zn_720, zn_1204, zn_1280, zn_2400, zn_4816, zn_14400, zn_90000, ht, zup_s, zup_zup, zup_o hne]
      refine ⟨fun _ => ⟨hq, vp_in_nI (by omega) (by decide), hm, by decide, ?_⟩, fun h => absurd (by decide) h⟩
      rw [nI_clamp (by omega), nI_1]
      exact ⟨by decide, hr⟩
    | succ a ih =>
      intro g' ha hr
      refine s_FT_addNumber_41 hC hN _ _ _ _ _ ?_
      simp only [B_FT_addNumber_0, B_FT_addNumber_18, B_FT_addNumber_34, B_FT_addNumber_36, B_FT_addNumber_41, B_FT_addNumber_77, co_FT_addNumber, co_FT_hasNumber, i_ic, i_lc, i_nul, i_il, i_ll, i_al, i_is, i_as, i_ls, i_inc, i_iadd, i_isub, i_imul, i_iand, i_ior, i_ixor, i_idiv, i_irem, i_ishl, i_ishr, i_ladd, i_lsub, i_land, i_lor, i_i2l, i_lushr, i_lshl, i_lshr, i_lcmp, i_dup, i_pop, i_dx1, i_dup2, i_ifeq, i_ifne, i_iflt, i_ifge, i_ifgt, i_ifle, i_iceq, i_icne, i_iclt, i_icge, i_icgt, i_icle, i_ifn, i_gf, i_pf, i_ial, i_bal, i_lal, i_aal, i_ias, i_las, i_bas, i_aas, i_alen, i_newa, i_new, i_anew, i_cast, i_oi, i_call, i_callV, i_callV2, i_callI, i_iret, i_zret, i_lret, i_vret, i_aret, i_mmx, i_mmn, i_gsE, i_aceq, i_no, i_acq, i_sw, zsw, zlg, zls, znl, zfg, zcs, zsp, zrc, zisn, zft, zc1, zto, Value.category, List.set_cons_zero, List.set_cons_succ, List.length_cons, List.length_nil, Option.toList, List.append, List.nil_append, List.cons_append, true_and, and_true, Nat.add_zero, Nat.zero_le, Nat.zero_add, Nat.le_refl, Nat.reduceAdd, Nat.reduceLeDiff, co0, z0, zn_0, zn_1, zn_2, zn_3, zn_4, zn_5, zn_8, zn_12, zn_24, zn_121, zn_144, zn_256, zn_300, zn_600, zn_720, zn_1204, zn_1280, zn_2400, zn_4816, zn_14400, zn_90000, ht, zup_s, zup_zup, zup_o hne]
      rw [nI_pred, nI_clamp (by omega), nI_clamp (by omega), nI_1, pk_m1]
      refine ⟨fun h => absurd h (nI_nle (by omega) (by omega)), fun _ => ⟨vp_in_nI (by omega) (by decide), fun hle => ⟨hq, vp_in_nI (by omega) (by decide), hm, by decide, by decide, ?_⟩, fun hgt => ⟨vp_in_nI (by omega) (by decide), hq, vp_in_nI (by omega) (by decide), ?_⟩⟩⟩
      · have : ¬ v < g' a := Int32.not_lt.mpr hle
        simp only [ft_ins, this, if_false] at hr
        exact hr
      · have : v < g' a := Int32.not_le.mp hgt
        simp only [ft_ins, this, if_true] at hr
        exact ih _ (by omega) hr
  refine s_FT_addNumber_0 hC hN _ _ _ _ _ ?_
  simp only [B_FT_addNumber_0, B_FT_addNumber_18, B_FT_addNumber_34, B_FT_addNumber_36, B_FT_addNumber_41, B_FT_addNumber_77, co_FT_addNumber, co_FT_hasNumber, i_ic, i_lc, i_nul, i_il, i_ll, i_al, i_is, i_as, i_ls, i_inc, i_iadd, i_isub, i_imul, i_iand, i_ior, i_ixor, i_idiv, i_irem, i_ishl, i_ishr, i_ladd, i_lsub, i_land, i_lor, i_i2l, i_lushr, i_lshl, i_lshr, i_lcmp, i_dup, i_pop, i_dx1, i_dup2, i_ifeq, i_ifne, i_iflt, i_ifge, i_ifgt, i_ifle, i_iceq, i_icne, i_iclt, i_icge, i_icgt, i_icle, i_ifn, i_gf, i_pf, i_ial, i_bal, i_lal, i_aal, i_ias, i_las, i_bas, i_aas, i_alen, i_newa, i_new, i_anew, i_cast, i_oi, i_call, i_callV, i_callV2, i_callI, i_iret, i_zret, i_lret, i_vret, i_aret, i_mmx, i_mmn, i_gsE, i_aceq, i_no, i_acq, i_sw, zsw, zlg, zls, znl, zfg, zcs, zsp, zrc, zisn, zft, zc1, zto, Value.category, List.set_cons_zero, List.set_cons_succ, List.length_cons, List.length_nil, Option.toList, List.append, List.nil_append, List.cons_append, true_and, and_true, Nat.add_zero, Nat.zero_le, Nat.zero_add, Nat.le_refl, Nat.reduceAdd, Nat.reduceLeDiff, co0, z0, zn_0, zn_1, zn_2, zn_3, zn_4, zn_5, zn_8, zn_12, zn_24, zn_121, zn_144, zn_256, zn_300, zn_600, zn_720, zn_1204, zn_1280, zn_2400, zn_4816, zn_14400, zn_90000, h1, h2, zup_s, zup_zup, zup_o (Ne.symm hne)]
  refine ⟨fun hk => ?_, fun hk => ?_⟩
  · subst hk
    simp only [if_true] at hR1
    refine ⟨fun hge => ⟨by decide, hR0 (zd_f ?_)⟩, fun hlt => ⟨t, q, 3, sz, g, v, rfl, ⟨h1, h2, h3⟩, fun hz => ?_, fun hz => ⟨by decide, hR0 (zd_f ?_)⟩⟩⟩
    · have := (zK (K := 4) (by decide) (n := sz) (by omega)).2.1.mp hge
      rintro (h | h)
      · exact h rfl
      · omega
    · have h4 : sz < 4 := by
        have : ¬ 4 ≤ sz := fun z => hlt ((zK (K := 4) (by decide) (n := sz) (by omega)).2.1.mpr z)
        omega
      have hr := hR1 (zd_t (Or.inr ⟨h4, zb_0.mp hz⟩))
      have hl := loop sz h4 M h1 sz g (Nat.le_refl _) hr
      rw [zup_self h2] at hl
      simp only [i_ic, i_lc, i_nul, i_il, i_ll, i_al, i_is, i_as, i_ls, i_inc, i_iadd, i_isub, i_imul, i_iand, i_ior, i_ixor, i_idiv, i_irem, i_ishl, i_ishr, i_ladd, i_lsub, i_land, i_lor, i_i2l, i_lushr, i_lshl, i_lshr, i_lcmp, i_dup, i_pop, i_dx1, i_dup2, i_ifeq, i_ifne, i_iflt, i_ifge, i_ifgt, i_ifle, i_iceq, i_icne, i_iclt, i_icge, i_icgt, i_icle, i_ifn, i_gf, i_pf, i_ial, i_bal, i_lal, i_aal, i_ias, i_las, i_bas, i_aas, i_alen, i_newa, i_new, i_anew, i_cast, i_oi, i_call, i_callV, i_callV2, i_callI, i_iret, i_zret, i_lret, i_vret, i_aret, i_mmx, i_mmn, i_gsE, i_aceq, i_no, i_acq, i_sw, zsw, zlg, zls, znl, zfg, zcs, zsp, zrc, zisn, zft, zc1, zto, Value.category, List.set_cons_zero, List.set_cons_succ, List.length_cons, List.length_nil, Option.toList, List.append, List.nil_append, List.cons_append, true_and, and_true, Nat.add_zero, Nat.zero_le, Nat.zero_add, Nat.le_refl, Nat.reduceAdd, Nat.reduceLeDiff, co0, z0, zn_0, zn_1, zn_2, zn_3, zn_4, zn_5, zn_8, zn_12, zn_24, zn_121, zn_144, zn_256, zn_300, zn_600, zn_720, zn_1204, zn_1280, zn_2400, zn_4816, zn_14400, zn_90000, h1]
      exact hl
    · rintro (h | h)
      · exact h rfl
      · exact hz (zb_0.mpr h.2)
  · have hr := hR1 (zd_t (Or.inl hk))
    simp only [if_neg hk] at hr
    have hfte : zfte (zup M t (zfo 3 q 0)) t q 3 0 g := ⟨zup_s, by rw [zup_o (Ne.symm hne)]; exact h2, by decide⟩
    have hh : ft_has 0 g v = false := zd_f (fun ⟨i, hi, _⟩ => absurd hi (Nat.not_lt_zero i))
    refine ⟨hm, by decide, hm, by decide, fun h => absurd h (by decide), fun _ => ⟨t, q, 3, 0, g, v, rfl, hfte, fun hz => ?_, fun hz => absurd (zb_0.mpr hh) hz⟩⟩
    have hl := loop 0 (by decide) (zup M t (zfo 3 q 0)) zup_s 0 g (Nat.le_refl _) (by rw [zup_comm hne, zup_zup]; exact hr)
    rw [zup_self (by rw [zup_o (Ne.symm hne)]; exact h2)] at hl
    simp only [i_ic, i_lc, i_nul, i_il, i_ll, i_al, i_is, i_as, i_ls, i_inc, i_iadd, i_isub, i_imul, i_iand, i_ior, i_ixor, i_idiv, i_irem, i_ishl, i_ishr, i_ladd, i_lsub, i_land, i_lor, i_i2l, i_lushr, i_lshl, i_lshr, i_lcmp, i_dup, i_pop, i_dx1, i_dup2, i_ifeq, i_ifne, i_iflt, i_ifge, i_ifgt, i_ifle, i_iceq, i_icne, i_iclt, i_icge, i_icgt, i_icle, i_ifn, i_gf, i_pf, i_ial, i_bal, i_lal, i_aal, i_ias, i_las, i_bas, i_aas, i_alen, i_newa, i_new, i_anew, i_cast, i_oi, i_call, i_callV, i_callV2, i_callI, i_iret, i_zret, i_lret, i_vret, i_aret, i_mmx, i_mmn, i_gsE, i_aceq, i_no, i_acq, i_sw, zsw, zlg, zls, znl, zfg, zcs, zsp, zrc, zisn, zft, zc1, zto, Value.category, List.set_cons_zero, List.set_cons_succ, List.length_cons, List.length_nil, Option.toList, List.append, List.nil_append, List.cons_append, true_and, and_true, Nat.add_zero, Nat.zero_le, Nat.zero_add, Nat.le_refl, Nat.reduceAdd, Nat.reduceLeDiff, co0, z0, zn_0, zn_1, zn_2, zn_3, zn_4, zn_5, zn_8, zn_12, zn_24, zn_121, zn_144, zn_256, zn_300, zn_600, zn_720, zn_1204, zn_1280, zn_2400, zn_4816, zn_14400, zn_90000, zup_s]
    exact hl
def ft_at (sz : Nat) (g : Nat → Int32) (j : Nat) : Int32 := if j < sz then g j else 0
def T_FT_numberAt (As : List zAV) (M : zMp) (Rt : Option zAV → zMp → Prop) : Prop := ∃ t q kd sz g j, As = [.inr t, .inl (.int (nI j))] ∧ j < 2 ^ 31 ∧ zfte M t q kd sz g ∧ Rt (some (.inl (.int (ft_at sz g j)))) M
abbrev co_FT_numberAt := co0
theorem dX0_numberAt_0 : decode cX0_numberAt 0 = .ok (.iload_n 1, 1) := by decide +kernel
theorem dX0_numberAt_1 : decode cX0_numberAt 1 = .ok (.ifCond .lt 20, 3) := by decide +kernel
theorem dX0_numberAt_4 : decode cX0_numberAt 4 = .ok (.iload_n 1, 1) := by decide +kernel
theorem dX0_numberAt_5 : decode cX0_numberAt 5 = .ok (.aload_n 0, 1) := by decide +kernel
theorem dX0_numberAt_6 : decode cX0_numberAt 6 = .ok (.getfield 19, 3) := by decide +kernel
theorem dX0_numberAt_9 : decode cX0_numberAt 9 = .ok (.if_icmp .ge 12, 3) := by decide +kernel
theorem dX0_numberAt_12 : decode cX0_numberAt 12 = .ok (.aload_n 0, 1) := by decide +kernel
theorem dX0_numberAt_13 : decode cX0_numberAt 13 = .ok (.getfield 15, 3) := by decide +kernel
theorem dX0_numberAt_16 : decode cX0_numberAt 16 = .ok (.iload_n 1, 1) := by decide +kernel
theorem dX0_numberAt_17 : decode cX0_numberAt 17 = .ok (.iaload, 1) := by decide +kernel
theorem dX0_numberAt_18 : decode cX0_numberAt 18 = .ok (.goto 4, 3) := by decide +kernel
theorem dX0_numberAt_21 : decode cX0_numberAt 21 = .ok (.iconst 0, 1) := by decide +kernel
theorem dX0_numberAt_22 : decode cX0_numberAt 22 = .ok (.ireturn, 1) := by decide +kernel
def B_FT_numberAt_22 (mc ms : Nat) (Rt : Option zAV → zMp → Prop) (g : Nat → zKT) : zKT :=
  (i_iret mc ms Rt)
set_option maxRecDepth 20000 in
theorem s_FT_numberAt_22 {X : zMa} {mc ms : Nat} {Rt : Option zAV → zMp → Prop} (hC : zCx X RX0 cX0_numberAt 0 0 mc ms (some .int) false Rt) : zLe (B_FT_numberAt_22 mc ms Rt (zG X)) (zG X 22) :=
  (sd_iret hC dX0_numberAt_22)
def B_FT_numberAt_21 (mc ms : Nat) (Rt : Option zAV → zMp → Prop) (g : Nat → zKT) : zKT :=
  (i_ic 0 (B_FT_numberAt_22 mc ms Rt g))
set_option maxRecDepth 20000 in
theorem s_FT_numberAt_21 {X : zMa} {mc ms : Nat} {Rt : Option zAV → zMp → Prop} (hC : zCx X RX0 cX0_numberAt 0 0 mc ms (some .int) false Rt) : zLe (B_FT_numberAt_21 mc ms Rt (zG X)) (zG X 21) :=
  (sd_iconst hC (by decide) dX0_numberAt_21 (s_FT_numberAt_22 hC))
def B_FT_numberAt_0 (mc ms : Nat) (Rt : Option zAV → zMp → Prop) (g : Nat → zKT) : zKT :=
  (i_il 1 (i_iflt (B_FT_numberAt_21 mc ms Rt g) (i_il 1 (i_al 0 (i_gf 1 2 (i_icge (B_FT_numberAt_21 mc ms Rt g) (i_al 0 (i_gf 1 1 (i_il 1 (i_ial (B_FT_numberAt_22 mc ms Rt g)))))))))))
set_option maxRecDepth 20000 in
theorem s_FT_numberAt_0 {X : zMa} {mc ms : Nat} {Rt : Option zAV → zMp → Prop} (hC : zCx X RX0 cX0_numberAt 0 0 mc ms (some .int) false Rt) : zLe (B_FT_numberAt_0 mc ms Rt (zG X)) (zG X 0) :=
  (sd_il_n hC rfl dX0_numberAt_0 ((sd_iflt hC (tgt := 21) (by decide) dX0_numberAt_1 (s_FT_numberAt_21 hC) ((sd_il_n hC rfl dX0_numberAt_4 ((sd_al_n hC rfl dX0_numberAt_5 ((sd_gf hC (ci := 1) (fk := 2) rfl wi_FT (by decide) fl_FT_19 (Or.inl rfl) dX0_numberAt_6 ((sd_icge hC (tgt := 21) (by decide) dX0_numberAt_9 (s_FT_numberAt_21 hC) ((sd_al_n hC rfl dX0_numberAt_12 ((sd_gf hC (ci := 1) (fk := 1) rfl wi_FT (by decide) fl_FT_15 (Or.inl rfl) dX0_numberAt_13 ((sd_il_n hC rfl dX0_numberAt_16 ((sd_ial hC dX0_numberAt_17 ((sd_goto hC (tgt := 22) (by decide) dX0_numberAt_18 (s_FT_numberAt_22 hC))))))))))))))))))))))
theorem c_FT_numberAt (l : Launch) : zCT l yX0_numberAt cX0_numberAt 2 (some .int) 0 0 T_FT_numberAt co_FT_numberAt := by
  intro As M Rt hT
  obtain ⟨t, q, kd, sz, g, j, rfl, hj, ⟨h1, h2, h3⟩, hR⟩ := hT
  refine zMet_of false (by decide +kernel) (fun h => by first | rfl | cases h) (Nat.le_of_ble_eq_true rfl) (fun X hN hC => ?_)
  show zG X 0 [some (.inr t), some (.inl (.int (nI j)))] [] M 0 0
  refine s_FT_numberAt_0 hC _ _ _ _ _ ?_
  simp only [B_FT_numberAt_0, B_FT_numberAt_21, B_FT_numberAt_22, co_FT_numberAt, i_ic, i_lc, i_nul, i_il, i_ll, i_al, i_is, i_as, i_ls, i_inc, i_iadd, i_isub, i_imul, i_iand, i_ior, i_ixor, i_idiv, i_irem, i_ishl, i_ishr, i_ladd, i_lsub, i_land, i_lor, i_i2l, i_lushr, i_lshl, i_lshr, i_lcmp, i_dup, i_pop, i_dx1, i_dup2, i_ifeq, i_ifne, i_iflt, i_ifge, i_ifgt, i_ifle, i_iceq, i_icne, i_iclt, i_icge, i_icgt, i_icle, i_ifn, i_gf, i_pf, i_ial, i_bal, i_lal, i_aal, i_ias, i_las, i_bas, i_aas, i_alen, i_newa, i_new, i_anew, i_cast, i_oi, i_call, i_callV, i_callV2, i_callI, i_iret, i_zret, i_lret, i_vret, i_aret, i_mmx, i_mmn, i_gsE, i_aceq, i_no, i_acq, i_sw, zsw, zlg, zls, znl, zfg, zcs, zsp, zrc, zisn, zft, zc1, zto, Value.category, List.set_cons_zero, List.set_cons_succ, List.length_cons, List.length_nil, Option.toList, List.append, List.nil_append, List.cons_append, true_and, and_true, Nat.add_zero, Nat.zero_le, Nat.zero_add, Nat.le_refl, Nat.reduceAdd, Nat.reduceLeDiff, co0, z0, zn_0, zn_1, zn_2, zn_3, zn_4, zn_5, zn_8, zn_12, zn_24, zn_121, zn_144, zn_256, zn_300, zn_600, zn_720, zn_1204, zn_1280, zn_2400, zn_4816, zn_14400, zn_90000, h1, h2]
  rw [nI_clamp hj, (zK (K := sz) (by omega) (n := j) hj).2.1]
  unfold ft_at at hR
  refine ⟨fun h => absurd h (nI_pos hj), fun _ => ⟨fun h => ?_, fun h => ⟨vp_in_nI (by omega) (by decide), ?_⟩⟩⟩
  · rw [if_neg (by omega)] at hR; exact hR
  · rw [if_pos (by omega)] at hR; exact hR
noncomputable def ft_pass (kd : Int32) (sz : Nat) (g : Nat → Int32) (v : Int32) : Bool := if kd = 1 then zd (g 0 ≤ v ∧ v ≤ g 1) else if kd = 2 then zd (v < g 0 ∨ g 1 < v) else if kd = 3 then ft_has sz g v else true
def T_FT_passes (As : List zAV) (M : zMp) (Rt : Option zAV → zMp → Prop) : Prop := ∃ t q kd sz g v, As = [.inr t, .inl (.int v)] ∧ zfte M t q kd sz g ∧ Rt (some (.inl (.int (zb (ft_pass kd sz g v))))) M
abbrev co_FT_passes := co0
theorem dX0_passes_0 : decode cX0_passes 0 = .ok (.aload_n 0, 1) := by decide +kernel
theorem dX0_passes_1 : decode cX0_passes 1 = .ok (.getfield 9, 3) := by decide +kernel
theorem dX0_passes_4 : decode cX0_passes 4 = .ok (.tableswitch 86 1 3 #[28, 54, 80], 28) := by decide +kernel
theorem dX0_passes_32 : decode cX0_passes 32 = .ok (.aload_n 0, 1) := by decide +kernel
theorem dX0_passes_33 : decode cX0_passes 33 = .ok (.getfield 15, 3) := by decide +kernel
theorem dX0_passes_36 : decode cX0_passes 36 = .ok (.iconst 0, 1) := by decide +kernel
theorem dX0_passes_37 : decode cX0_passes 37 = .ok (.iaload, 1) := by decide +kernel
theorem dX0_passes_38 : decode cX0_passes 38 = .ok (.iload_n 1, 1) := by decide +kernel
theorem dX0_passes_39 : decode cX0_passes 39 = .ok (.if_icmp .gt 17, 3) := by decide +kernel
theorem dX0_passes_42 : decode cX0_passes 42 = .ok (.iload_n 1, 1) := by decide +kernel
theorem dX0_passes_43 : decode cX0_passes 43 = .ok (.aload_n 0, 1) := by decide +kernel
theorem dX0_passes_44 : decode cX0_passes 44 = .ok (.getfield 15, 3) := by decide +kernel
theorem dX0_passes_47 : decode cX0_passes 47 = .ok (.iconst 1, 1) := by decide +kernel
theorem dX0_passes_48 : decode cX0_passes 48 = .ok (.iaload, 1) := by decide +kernel
theorem dX0_passes_49 : decode cX0_passes 49 = .ok (.if_icmp .gt 7, 3) := by decide +kernel
theorem dX0_passes_52 : decode cX0_passes 52 = .ok (.iconst 1, 1) := by decide +kernel
theorem dX0_passes_53 : decode cX0_passes 53 = .ok (.goto 4, 3) := by decide +kernel
theorem dX0_passes_56 : decode cX0_passes 56 = .ok (.iconst 0, 1) := by decide +kernel
theorem dX0_passes_57 : decode cX0_passes 57 = .ok (.ireturn, 1) := by decide +kernel
theorem dX0_passes_58 : decode cX0_passes 58 = .ok (.iload_n 1, 1) := by decide +kernel
theorem dX0_passes_59 : decode cX0_passes 59 = .ok (.aload_n 0, 1) := by decide +kernel
theorem dX0_passes_60 : decode cX0_passes 60 = .ok (.getfield 15, 3) := by decide +kernel
theorem dX0_passes_63 : decode cX0_passes 63 = .ok (.iconst 0, 1) := by decide +kernel
theorem dX0_passes_64 : decode cX0_passes 64 = .ok (.iaload, 1) := by decide +kernel
theorem dX0_passes_65 : decode cX0_passes 65 = .ok (.if_icmp .lt 13, 3) := by decide +kernel
theorem dX0_passes_68 : decode cX0_passes 68 = .ok (.aload_n 0, 1) := by decide +kernel
theorem dX0_passes_69 : decode cX0_passes 69 = .ok (.getfield 15, 3) := by decide +kernel
theorem dX0_passes_72 : decode cX0_passes 72 = .ok (.iconst 1, 1) := by decide +kernel
theorem dX0_passes_73 : decode cX0_passes 73 = .ok (.iaload, 1) := by decide +kernel
theorem dX0_passes_74 : decode cX0_passes 74 = .ok (.iload_n 1, 1) := by decide +kernel
theorem dX0_passes_75 : decode cX0_passes 75 = .ok (.if_icmp .ge 7, 3) := by decide +kernel
theorem dX0_passes_78 : decode cX0_passes 78 = .ok (.iconst 1, 1) := by decide +kernel
theorem dX0_passes_79 : decode cX0_passes 79 = .ok (.goto 4, 3) := by decide +kernel
theorem dX0_passes_82 : decode cX0_passes 82 = .ok (.iconst 0, 1) := by decide +kernel
theorem dX0_passes_83 : decode cX0_passes 83 = .ok (.ireturn, 1) := by decide +kernel
theorem dX0_passes_84 : decode cX0_passes 84 = .ok (.aload_n 0, 1) := by decide +kernel
theorem dX0_passes_85 : decode cX0_passes 85 = .ok (.iload_n 1, 1) := by decide +kernel
theorem dX0_passes_86 : decode cX0_passes 86 = .ok (.invokevirtual 22, 3) := by decide +kernel
theorem dX0_passes_89 : decode cX0_passes 89 = .ok (.ireturn, 1) := by decide +kernel
theorem dX0_passes_90 : decode cX0_passes 90 = .ok (.iconst 1, 1) := by decide +kernel
theorem dX0_passes_91 : decode cX0_passes 91 = .ok (.ireturn, 1) := by decide +kernel
def B_FT_passes_90 (mc ms : Nat) (Rt : Option zAV → zMp → Prop) (g : Nat → zKT) : zKT :=
  (i_ic 1 (i_zret mc ms Rt))
set_option maxRecDepth 20000 in
theorem s_FT_passes_90 {X : zMa} {mc ms : Nat} {Rt : Option zAV → zMp → Prop} (hC : zCx X RX0 cX0_passes 1 22 mc ms (some .boolean) false Rt) : zLe (B_FT_passes_90 mc ms Rt (zG X)) (zG X 90) :=
  (sd_iconst hC (by decide) dX0_passes_90 ((sd_zret hC dX0_passes_91)))
def B_FT_passes_84 (mc ms : Nat) (Rt : Option zAV → zMp → Prop) (g : Nat → zKT) : zKT :=
  (i_al 0 (i_il 1 (i_callV mc ms 1 2 T_FT_hasNumber co_FT_hasNumber (i_zret mc ms Rt))))
set_option maxRecDepth 20000 in
theorem s_FT_passes_84 {X : zMa} {mc ms : Nat} {Rt : Option zAV → zMp → Prop} (hC : zCx X RX0 cX0_passes 1 22 mc ms (some .boolean) false Rt) : zLe (B_FT_passes_84 mc ms Rt (zG X)) (zG X 84) :=
  (sd_al_n hC rfl dX0_passes_84 ((sd_il_n hC rfl dX0_passes_85 ((sd_cV hC c_FT_hasNumber yv_FT_hasNumber (ci := 1) rfl rfl ml_FT_22 (by decide) (by decide) dX0_passes_86 ((sd_zret hC dX0_passes_89)))))))
def B_FT_passes_83 (mc ms : Nat) (Rt : Option zAV → zMp → Prop) (g : Nat → zKT) : zKT :=
  (i_zret mc ms Rt)
set_option maxRecDepth 20000 in
theorem s_FT_passes_83 {X : zMa} {mc ms : Nat} {Rt : Option zAV → zMp → Prop} (hC : zCx X RX0 cX0_passes 1 22 mc ms (some .boolean) false Rt) : zLe (B_FT_passes_83 mc ms Rt (zG X)) (zG X 83) :=
  (sd_zret hC dX0_passes_83)
def B_FT_passes_82 (mc ms : Nat) (Rt : Option zAV → zMp → Prop) (g : Nat → zKT) : zKT :=
  (i_ic 0 (B_FT_passes_83 mc ms Rt g))
set_option maxRecDepth 20000 in
theorem s_FT_passes_82 {X : zMa} {mc ms : Nat} {Rt : Option zAV → zMp → Prop} (hC : zCx X RX0 cX0_passes 1 22 mc ms (some .boolean) false Rt) : zLe (B_FT_passes_82 mc ms Rt (zG X)) (zG X 82) :=
  (sd_iconst hC (by decide) dX0_passes_82 (s_FT_passes_83 hC))
def B_FT_passes_78 (mc ms : Nat) (Rt : Option zAV → zMp → Prop) (g : Nat → zKT) : zKT :=
  (i_ic 1 (B_FT_passes_83 mc ms Rt g))
set_option maxRecDepth 20000 in
theorem s_FT_passes_78 {X : zMa} {mc ms : Nat} {Rt : Option zAV → zMp → Prop} (hC : zCx X RX0 cX0_passes 1 22 mc ms (some .boolean) false Rt) : zLe (B_FT_passes_78 mc ms Rt (zG X)) (zG X 78) :=
  (sd_iconst hC (by decide) dX0_passes_78 ((sd_goto hC (tgt := 83) (by decide) dX0_passes_79 (s_FT_passes_83 hC))))
def B_FT_passes_58 (mc ms : Nat) (Rt : Option zAV → zMp → Prop) (g : Nat → zKT) : zKT :=
  (i_il 1 (i_al 0 (i_gf 1 1 (i_ic 0 (i_ial (i_iclt (B_FT_passes_78 mc ms Rt g) (i_al 0 (i_gf 1 1 (i_ic 1 (i_ial (i_il 1 (i_icge (B_FT_passes_82 mc ms Rt g) (B_FT_passes_78 mc ms Rt g)))))))))))))
set_option maxRecDepth 20000 in
theorem s_FT_passes_58 {X : zMa} {mc ms : Nat} {Rt : Option zAV → zMp → Prop} (hC : zCx X RX0 cX0_passes 1 22 mc ms (some .boolean) false Rt) : zLe (B_FT_passes_58 mc ms Rt (zG X)) (zG X 58) :=
  (sd_il_n hC rfl dX0_passes_58 ((sd_al_n hC rfl dX0_passes_59 ((sd_gf hC (ci := 1) (fk := 1) rfl wi_FT (by decide) fl_FT_15 (Or.inl rfl) dX0_passes_60 ((sd_iconst hC (by decide) dX0_passes_63 ((sd_ial hC dX0_passes_64 ((sd_iclt hC (tgt := 78) (by decide) dX0_passes_65 (s_FT_passes_78 hC) ((sd_al_n hC rfl dX0_passes_68 ((sd_gf hC (ci := 1) (fk := 1) rfl wi_FT (by decide) fl_FT_15 (Or.inl rfl) dX0_passes_69 ((sd_iconst hC (by decide) dX0_passes_72 ((sd_ial hC dX0_passes_73 ((sd_il_n hC rfl dX0_passes_74 ((sd_icge hC (tgt := 82) (by decide) dX0_passes_75 (s_FT_passes_82 hC) (s_FT_passes_78 hC))))))))))))))))))))))))
def B_FT_passes_57 (mc ms : Nat) (Rt : Option zAV → zMp → Prop) (g : Nat → zKT) : zKT :=
  (i_zret mc ms Rt)
set_option maxRecDepth 20000 in
theorem s_FT_passes_57 {X : zMa} {mc ms : Nat} {Rt : Option zAV → zMp → Prop} (hC : zCx X RX0 cX0_passes 1 22 mc ms (some .boolean) false Rt) : zLe (B_FT_passes_57 mc ms Rt (zG X)) (zG X 57) :=
  (sd_zret hC dX0_passes_57)
def B_FT_passes_56 (mc ms : Nat) (Rt : Option zAV → zMp → Prop) (g : Nat → zKT) : zKT :=
  (i_ic 0 (B_FT_passes_57 mc ms Rt g))
set_option maxRecDepth 20000 in
theorem s_FT_passes_56 {X : zMa} {mc ms : Nat} {Rt : Option zAV → zMp → Prop} (hC : zCx X RX0 cX0_passes 1 22 mc ms (some .boolean) false Rt) : zLe (B_FT_passes_56 mc ms Rt (zG X)) (zG X 56) :=
  (sd_iconst hC (by decide) dX0_passes_56 (s_FT_passes_57 hC))
def B_FT_passes_32 (mc ms : Nat) (Rt : Option zAV → zMp → Prop) (g : Nat → zKT) : zKT :=
  (i_al 0 (i_gf 1 1 (i_ic 0 (i_ial (i_il 1 (i_icgt (B_FT_passes_56 mc ms Rt g) (i_il 1 (i_al 0 (i_gf 1 1 (i_ic 1 (i_ial (i_icgt (B_FT_passes_56 mc ms Rt g) (i_ic 1 (B_FT_passes_57 mc ms Rt g))))))))))))))
set_option maxRecDepth 20000 in
theorem s_FT_passes_32 {X : zMa} {mc ms : Nat} {Rt : Option zAV → zMp → Prop} (hC : zCx X RX0 cX0_passes 1 22 mc ms (some .boolean) false Rt) : zLe (B_FT_passes_32 mc ms Rt (zG X)) (zG X 32) :=
  (sd_al_n hC rfl dX0_passes_32 ((sd_gf hC (ci := 1) (fk := 1) rfl wi_FT (by decide) fl_FT_15 (Or.inl rfl) dX0_passes_33 ((sd_iconst hC (by decide) dX0_passes_36 ((sd_ial hC dX0_passes_37 ((sd_il_n hC rfl dX0_passes_38 ((sd_icgt hC (tgt := 56) (by decide) dX0_passes_39 (s_FT_passes_56 hC) ((sd_il_n hC rfl dX0_passes_42 ((sd_al_n hC rfl dX0_passes_43 ((sd_gf hC (ci := 1) (fk := 1) rfl wi_FT (by decide) fl_FT_15 (Or.inl rfl) dX0_passes_44 ((sd_iconst hC (by decide) dX0_passes_47 ((sd_ial hC dX0_passes_48 ((sd_icgt hC (tgt := 56) (by decide) dX0_passes_49 (s_FT_passes_56 hC) ((sd_iconst hC (by decide) dX0_passes_52 ((sd_goto hC (tgt := 57) (by decide) dX0_passes_53 (s_FT_passes_57 hC))))))))))))))))))))))))))))
def B_FT_passes_0 (mc ms : Nat) (Rt : Option zAV → zMp → Prop) (g : Nat → zKT) : zKT :=
  (i_al 0 (i_gf 1 0 (i_sw [(1, (B_FT_passes_32 mc ms Rt g)), (2, (B_FT_passes_58 mc ms Rt g)), (3, (B_FT_passes_84 mc ms Rt g))] (B_FT_passes_90 mc ms Rt g))))
set_option maxRecDepth 20000 in
theorem s_FT_passes_0 {X : zMa} {mc ms : Nat} {Rt : Option zAV → zMp → Prop} (hC : zCx X RX0 cX0_passes 1 22 mc ms (some .boolean) false Rt) : zLe (B_FT_passes_0 mc ms Rt (zG X)) (zG X 0) :=
  (sd_al_n hC rfl dX0_passes_0 ((sd_gf hC (ci := 1) (fk := 0) rfl wi_FT (by decide) fl_FT_9 (Or.inl rfl) dX0_passes_1 ((sd_tsw hC dX0_passes_4 (s_FT_passes_90 hC) [32, 58, 84] rfl (by intro q hq; simp only [List.zip_cons_cons, List.zip_nil_right, List.mem_cons, List.not_mem_nil, or_false] at hq; rcases hq with rfl | rfl | rfl; exact ⟨(show zjT 4 86 1 3 #[28, 54, 80] 1 32 from Or.inr ⟨by decide, by decide, _, rfl, by decide⟩), s_FT_passes_32 hC⟩; exact ⟨(show zjT 4 86 1 3 #[28, 54, 80] 2 58 from Or.inr ⟨by decide, by decide, _, rfl, by decide⟩), s_FT_passes_58 hC⟩; exact ⟨(show zjT 4 86 1 3 #[28, 54, 80] 3 84 from Or.inr ⟨by decide, by decide, _, rfl, by decide⟩), s_FT_passes_84 hC⟩) (by intro x hx; simp only [List.forall_mem_cons, List.not_mem_nil, false_imp_iff, implies_true, and_true] at hx; refine Or.inl ⟨?_, by decide⟩; obtain ⟨n0, n1, n2⟩ := hx; have n0 := zne_i (z := 1) n0 (by decide); have n1 := zne_i (z := 2) n1 (by decide); have n2 := zne_i (z := 3) n2 (by decide); omega))))))
theorem c_FT_passes (l : Launch) : zCT l yX0_passes cX0_passes 2 (some .boolean) 1 22 T_FT_passes co_FT_passes := by
  intro As M Rt hT
  obtain ⟨t, q, kd, sz, g, v, rfl, ⟨h1, h2, h3⟩, hR⟩ := hT
  refine zMet_of false (by decide +kernel) (fun h => by first | rfl | cases h) (Nat.le_of_ble_eq_true rfl) (fun X hN hC => ?_)
  show zG X 0 [some (.inr t), some (.inl (.int v))] [] M 0 0
  refine s_FT_passes_0 hC _ _ _ _ _ ?_
  have i0 : vp_in 0 4 := by unfold vp_in; decide
  have i1 : vp_in 1 4 := by unfold vp_in; decide
  simp only [B_FT_passes_0, B_FT_passes_32, B_FT_passes_56, B_FT_passes_57, B_FT_passes_58, B_FT_passes_78, B_FT_passes_82, B_FT_passes_83, B_FT_passes_84, B_FT_passes_90, co_FT_hasNumber, co_FT_passes, i_ic, i_lc, i_nul, i_il, i_ll, i_al, i_is, i_as, i_ls, i_inc, i_iadd, i_isub, i_imul, i_iand, i_ior, i_ixor, i_idiv, i_irem, i_ishl, i_ishr, i_ladd, i_lsub, i_land, i_lor, i_i2l, i_lushr, i_lshl, i_lshr, i_lcmp, i_dup, i_pop, i_dx1, i_dup2, i_ifeq, i_ifne, i_iflt, i_ifge, i_ifgt, i_ifle, i_iceq, i_icne, i_iclt, i_icge, i_icgt, i_icle, i_ifn, i_gf, i_pf, i_ial, i_bal, i_lal, i_aal, i_ias, i_las, i_bas, i_aas, i_alen, i_newa, i_new, i_anew, i_cast, i_oi, i_call, i_callV, i_callV2, i_callI, i_iret, i_zret, i_lret, i_vret, i_aret, i_mmx, i_mmn, i_gsE, i_aceq, i_no, i_acq, i_sw, zsw, zlg, zls, znl, zfg, zcs, zsp, zrc, zisn, zft, zc1, zto, Value.category, List.set_cons_zero, List.set_cons_succ, List.length_cons, List.length_nil, Option.toList, List.append, List.nil_append, List.cons_append, true_and, and_true, Nat.add_zero, Nat.zero_le, Nat.zero_add, Nat.le_refl, Nat.reduceAdd, Nat.reduceLeDiff, co0, z0, zn_0, zn_1, zn_2, zn_3, zn_4, zn_5, zn_8, zn_12, zn_24, zn_121, zn_144, zn_256, zn_300, zn_600, zn_720, zn_1204, zn_1280, zn_2400, zn_4816, zn_14400, zn_90000, h1, h2]
  have yes : ft_pass kd sz g v = true → Rt (some (.inl (.int 1))) M := fun h => by rw [h] at hR; exact hR
  have no : ft_pass kd sz g v = false → Rt (some (.inl (.int 0))) M := fun h => by rw [h] at hR; exact hR
  refine ⟨fun hk => ⟨i0, fun h => ⟨by decide, no ?_⟩, fun h => ⟨i1, fun h' => ⟨by decide, no ?_⟩, fun h' => ⟨by decide, yes ?_⟩⟩⟩, fun hk1 => ⟨fun hk => ⟨i0, fun h => ⟨by decide, yes ?_⟩, fun h => ⟨i1, fun h' => ⟨by decide, no ?_⟩, fun h' => ⟨by decide, yes ?_⟩⟩⟩, fun hk2 => ⟨fun hk => ?_, fun hk3 => ⟨by decide, yes ?_⟩⟩⟩⟩
  · simp only [ft_pass, hk, if_true]; exact zd_f (fun q => absurd h (Int32.not_lt.mpr q.1))
  · simp only [ft_pass, hk, if_true]; exact zd_f (fun q => absurd h' (Int32.not_lt.mpr q.2))
  · simp only [ft_pass, hk, if_true]; exact zd_t ⟨Int32.not_lt.mp h, Int32.not_lt.mp h'⟩
  · simp only [ft_pass, hk1, hk, if_true, if_false]; exact zd_t (Or.inl h)
  · simp only [ft_pass, hk1, hk, if_true, if_false]; exact zd_f (fun q => q.elim h (fun q => absurd q (Int32.not_lt.mpr h')))
  · simp only [ft_pass, hk1, hk, if_true, if_false]; exact zd_t (Or.inr (Int32.not_le.mp h'))
  · refine ⟨t, q, kd, sz, g, v, rfl, ⟨h1, h2, h3⟩, zb_01 _, ?_⟩
    simp only [ft_pass, hk1, hk2, hk, if_true, if_false] at hR
    exact hR
  · simp only [ft_pass, hk1, hk2, hk3, if_false]
noncomputable def ft_none (kd : Int32) (g : Nat → Int32) : Bool := zd (kd = 2 ∧ g 0 = -2147483648 ∧ g 1 = 2147483647)
def T_FT_passesNone (As : List zAV) (M : zMp) (Rt : Option zAV → zMp → Prop) : Prop := ∃ t q kd sz g, As = [.inr t] ∧ zfte M t q kd sz g ∧ Rt (some (.inl (.int (zb (ft_none kd g))))) M
abbrev co_FT_passesNone := co0
theorem dX0_passesNone_0 : decode cX0_passesNone 0 = .ok (.aload_n 0, 1) := by decide +kernel
theorem dX0_passesNone_1 : decode cX0_passesNone 1 = .ok (.getfield 9, 3) := by decide +kernel
theorem dX0_passesNone_4 : decode cX0_passesNone 4 = .ok (.iconst 2, 1) := by decide +kernel
theorem dX0_passesNone_5 : decode cX0_passesNone 5 = .ok (.if_icmp .ne 29, 3) := by decide +kernel
theorem dX0_passesNone_8 : decode cX0_passesNone 8 = .ok (.aload_n 0, 1) := by decide +kernel
theorem dX0_passesNone_9 : decode cX0_passesNone 9 = .ok (.getfield 15, 3) := by decide +kernel
theorem dX0_passesNone_12 : decode cX0_passesNone 12 = .ok (.iconst 0, 1) := by decide +kernel
theorem dX0_passesNone_13 : decode cX0_passesNone 13 = .ok (.iaload, 1) := by decide +kernel
theorem dX0_passesNone_14 : decode cX0_passesNone 14 = .ok (.ldc 28, 2) := by decide +kernel
theorem dX0_passesNone_16 : decode cX0_passesNone 16 = .ok (.if_icmp .ne 18, 3) := by decide +kernel
theorem dX0_passesNone_19 : decode cX0_passesNone 19 = .ok (.aload_n 0, 1) := by decide +kernel
theorem dX0_passesNone_20 : decode cX0_passesNone 20 = .ok (.getfield 15, 3) := by decide +kernel
theorem dX0_passesNone_23 : decode cX0_passesNone 23 = .ok (.iconst 1, 1) := by decide +kernel
theorem dX0_passesNone_24 : decode cX0_passesNone 24 = .ok (.iaload, 1) := by decide +kernel
theorem dX0_passesNone_25 : decode cX0_passesNone 25 = .ok (.ldc 29, 2) := by decide +kernel
theorem dX0_passesNone_27 : decode cX0_passesNone 27 = .ok (.if_icmp .ne 7, 3) := by decide +kernel
theorem dX0_passesNone_30 : decode cX0_passesNone 30 = .ok (.iconst 1, 1) := by decide +kernel
theorem dX0_passesNone_31 : decode cX0_passesNone 31 = .ok (.goto 4, 3) := by decide +kernel
theorem dX0_passesNone_34 : decode cX0_passesNone 34 = .ok (.iconst 0, 1) := by decide +kernel
theorem dX0_passesNone_35 : decode cX0_passesNone 35 = .ok (.ireturn, 1) := by decide +kernel
def B_FT_passesNone_35 (mc ms : Nat) (Rt : Option zAV → zMp → Prop) (g : Nat → zKT) : zKT :=
  (i_zret mc ms Rt)
set_option maxRecDepth 20000 in
theorem s_FT_passesNone_35 {X : zMa} {mc ms : Nat} {Rt : Option zAV → zMp → Prop} (hC : zCx X RX0 cX0_passesNone 0 0 mc ms (some .boolean) false Rt) : zLe (B_FT_passesNone_35 mc ms Rt (zG X)) (zG X 35) :=
  (sd_zret hC dX0_passesNone_35)
def B_FT_passesNone_34 (mc ms : Nat) (Rt : Option zAV → zMp → Prop) (g : Nat → zKT) : zKT :=
  (i_ic 0 (B_FT_passesNone_35 mc ms Rt g))
set_option maxRecDepth 20000 in
theorem s_FT_passesNone_34 {X : zMa} {mc ms : Nat} {Rt : Option zAV → zMp → Prop} (hC : zCx X RX0 cX0_passesNone 0 0 mc ms (some .boolean) false Rt) : zLe (B_FT_passesNone_34 mc ms Rt (zG X)) (zG X 34) :=
  (sd_iconst hC (by decide) dX0_passesNone_34 (s_FT_passesNone_35 hC))
def B_FT_passesNone_0 (mc ms : Nat) (Rt : Option zAV → zMp → Prop) (g : Nat → zKT) : zKT :=
  (i_al 0 (i_gf 1 0 (i_ic 2 (i_icne (B_FT_passesNone_34 mc ms Rt g) (i_al 0 (i_gf 1 1 (i_ic 0 (i_ial (i_ic (-2147483648) (i_icne (B_FT_passesNone_34 mc ms Rt g) (i_al 0 (i_gf 1 1 (i_ic 1 (i_ial (i_ic 2147483647 (i_icne (B_FT_passesNone_34 mc ms Rt g) (i_ic 1 (B_FT_passesNone_35 mc ms Rt g))))))))))))))))))
set_option maxRecDepth 20000 in
theorem s_FT_passesNone_0 {X : zMa} {mc ms : Nat} {Rt : Option zAV → zMp → Prop} (hC : zCx X RX0 cX0_passesNone 0 0 mc ms (some .boolean) false Rt) : zLe (B_FT_passesNone_0 mc ms Rt (zG X)) (zG X 0) :=
  (sd_al_n hC rfl dX0_passesNone_0 ((sd_gf hC (ci := 1) (fk := 0) rfl wi_FT (by decide) fl_FT_9 (Or.inl rfl) dX0_passesNone_1 ((sd_iconst hC (by decide) dX0_passesNone_4 ((sd_icne hC (tgt := 34) (by decide) dX0_passesNone_5 (s_FT_passesNone_34 hC) ((sd_al_n hC rfl dX0_passesNone_8 ((sd_gf hC (ci := 1) (fk := 1) rfl wi_FT (by decide) fl_FT_15 (Or.inl rfl) dX0_passesNone_9 ((sd_iconst hC (by decide) dX0_passesNone_12 ((sd_ial hC dX0_passesNone_13 ((sd_ldc hC kc_FT_28 dX0_passesNone_14 ((sd_icne hC (tgt := 34) (by decide) dX0_passesNone_16 (s_FT_passesNone_34 hC) ((sd_al_n hC rfl dX0_passesNone_19 ((sd_gf hC (ci := 1) (fk := 1) rfl wi_FT (by decide) fl_FT_15 (Or.inl rfl) dX0_passesNone_20 ((sd_iconst hC (by decide) dX0_passesNone_23 ((sd_ial hC dX0_passesNone_24 ((sd_ldc hC kc_FT_29 dX0_passesNone_25 ((sd_icne hC (tgt := 34) (by decide) dX0_passesNone_27 (s_FT_passesNone_34 hC) ((sd_iconst hC (by decide) dX0_passesNone_30 ((sd_goto hC (tgt := 35) (by decide) dX0_passesNone_31 (s_FT_passesNone_35 hC))))))))))))))))))))))))))))))))))))
theorem c_FT_passesNone (l : Launch) : zCT l yX0_passesNone cX0_passesNone 1 (some .boolean) 0 0 T_FT_passesNone co_FT_passesNone := by
  intro As M Rt hT
  obtain ⟨t, q, kd, sz, g, rfl, ⟨h1, h2, h3⟩, hR⟩ := hT
  refine zMet_of false (by decide +kernel) (fun h => by first | rfl | cases h) (Nat.le_of_ble_eq_true rfl) (fun X hN hC => ?_)
  show zG X 0 [some (.inr t)] [] M 0 0
  refine s_FT_passesNone_0 hC _ _ _ _ _ ?_
  have i0 : vp_in 0 4 := by unfold vp_in; decide
  have i1 : vp_in 1 4 := by unfold vp_in; decide
  simp only [B_FT_passesNone_0, B_FT_passesNone_34, B_FT_passesNone_35, co_FT_passesNone, i_ic, i_lc, i_nul, i_il, i_ll, i_al, i_is, i_as, i_ls, i_inc, i_iadd, i_isub, i_imul, i_iand, i_ior, i_ixor, i_idiv, i_irem, i_ishl, i_ishr, i_ladd, i_lsub, i_land, i_lor, i_i2l, i_lushr, i_lshl, i_lshr, i_lcmp, i_dup, i_pop, i_dx1, i_dup2, i_ifeq, i_ifne, i_iflt, i_ifge, i_ifgt, i_ifle, i_iceq, i_icne, i_iclt, i_icge, i_icgt, i_icle, i_ifn, i_gf, i_pf, i_ial, i_bal, i_lal, i_aal, i_ias, i_las, i_bas, i_aas, i_alen, i_newa, i_new, i_anew, i_cast, i_oi, i_call, i_callV, i_callV2, i_callI, i_iret, i_zret, i_lret, i_vret, i_aret, i_mmx, i_mmn, i_gsE, i_aceq, i_no, i_acq, i_sw, zsw, zlg, zls, znl, zfg, zcs, zsp, zrc, zisn, zft, zc1, zto, Value.category, List.set_cons_zero, List.set_cons_succ, List.length_cons, List.length_nil, Option.toList, List.append, List.nil_append, List.cons_append, true_and, and_true, Nat.add_zero, Nat.zero_le, Nat.zero_add, Nat.le_refl, Nat.reduceAdd, Nat.reduceLeDiff, co0, z0, zn_0, zn_1, zn_2, zn_3, zn_4, zn_5, zn_8, zn_12, zn_24, zn_121, zn_144, zn_256, zn_300, zn_600, zn_720, zn_1204, zn_1280, zn_2400, zn_4816, zn_14400, zn_90000, h1, h2]
  have yes : ft_none kd g = true → Rt (some (.inl (.int 1))) M := fun h => by rw [h] at hR; exact hR
  have no : ft_none kd g = false → Rt (some (.inl (.int 0))) M := fun h => by rw [h] at hR; exact hR
  exact ⟨fun h => ⟨by decide, no (zd_f (fun q => h q.1))⟩, fun ha => ⟨i0, fun h => ⟨by decide, no (zd_f (fun q => h q.2.1))⟩, fun hb => ⟨i1, fun h => ⟨by decide, no (zd_f (fun q => h q.2.2))⟩, fun hc => ⟨by decide, yes (zd_t ⟨ha, hb, hc⟩)⟩⟩⟩⟩
def ft_spans (kd : Int32) (sz : Nat) : Nat := if kd = 2 then 2 else if kd = 3 then sz else 1
theorem ft_spans_le {kd : Int32} {sz : Nat} (h : sz ≤ 4) : ft_spans kd sz ≤ 4 := by
  unfold ft_spans
  split
  · decide
  · split
    · exact h
    · decide
def T_FT_spans (As : List zAV) (M : zMp) (Rt : Option zAV → zMp → Prop) : Prop := ∃ t q kd sz g, As = [.inr t] ∧ zfte M t q kd sz g ∧ Rt (some (.inl (.int (nI (ft_spans kd sz))))) M
abbrev co_FT_spans := co0
theorem dX0_spans_0 : decode cX0_spans 0 = .ok (.aload_n 0, 1) := by decide +kernel
theorem dX0_spans_1 : decode cX0_spans 1 = .ok (.getfield 9, 3) := by decide +kernel
theorem dX0_spans_4 : decode cX0_spans 4 = .ok (.lookupswitch 35 #[(2, 28), (3, 30)], 28) := by decide +kernel
theorem dX0_spans_32 : decode cX0_spans 32 = .ok (.iconst 2, 1) := by decide +kernel
theorem dX0_spans_33 : decode cX0_spans 33 = .ok (.ireturn, 1) := by decide +kernel
theorem dX0_spans_34 : decode cX0_spans 34 = .ok (.aload_n 0, 1) := by decide +kernel
theorem dX0_spans_35 : decode cX0_spans 35 = .ok (.getfield 19, 3) := by decide +kernel
theorem dX0_spans_38 : decode cX0_spans 38 = .ok (.ireturn, 1) := by decide +kernel
theorem dX0_spans_39 : decode cX0_spans 39 = .ok (.iconst 1, 1) := by decide +kernel
theorem dX0_spans_40 : decode cX0_spans 40 = .ok (.ireturn, 1) := by decide +kernel
def B_FT_spans_39 (mc ms : Nat) (Rt : Option zAV → zMp → Prop) (g : Nat → zKT) : zKT :=
  (i_ic 1 (i_iret mc ms Rt))
set_option maxRecDepth 20000 in
theorem s_FT_spans_39 {X : zMa} {mc ms : Nat} {Rt : Option zAV → zMp → Prop} (hC : zCx X RX0 cX0_spans 0 0 mc ms (some .int) false Rt) : zLe (B_FT_spans_39 mc ms Rt (zG X)) (zG X 39) :=
  (sd_iconst hC (by decide) dX0_spans_39 ((sd_iret hC dX0_spans_40)))
def B_FT_spans_34 (mc ms : Nat) (Rt : Option zAV → zMp → Prop) (g : Nat → zKT) : zKT :=
  (i_al 0 (i_gf 1 2 (i_iret mc ms Rt)))
set_option maxRecDepth 20000 in
theorem s_FT_spans_34 {X : zMa} {mc ms : Nat} {Rt : Option zAV → zMp → Prop} (hC : zCx X RX0 cX0_spans 0 0 mc ms (some .int) false Rt) : zLe (B_FT_spans_34 mc ms Rt (zG X)) (zG X 34) :=
  (sd_al_n hC rfl dX0_spans_34 ((sd_gf hC (ci := 1) (fk := 2) rfl wi_FT (by decide) fl_FT_19 (Or.inl rfl) dX0_spans_35 ((sd_iret hC dX0_spans_38)))))
def B_FT_spans_32 (mc ms : Nat) (Rt : Option zAV → zMp → Prop) (g : Nat → zKT) : zKT :=
  (i_ic 2 (i_iret mc ms Rt))
set_option maxRecDepth 20000 in
theorem s_FT_spans_32 {X : zMa} {mc ms : Nat} {Rt : Option zAV → zMp → Prop} (hC : zCx X RX0 cX0_spans 0 0 mc ms (some .int) false Rt) : zLe (B_FT_spans_32 mc ms Rt (zG X)) (zG X 32) :=
  (sd_iconst hC (by decide) dX0_spans_32 ((sd_iret hC dX0_spans_33)))
def B_FT_spans_0 (mc ms : Nat) (Rt : Option zAV → zMp → Prop) (g : Nat → zKT) : zKT :=
  (i_al 0 (i_gf 1 0 (i_sw [(2, (B_FT_spans_32 mc ms Rt g)), (3, (B_FT_spans_34 mc ms Rt g))] (B_FT_spans_39 mc ms Rt g))))
set_option maxRecDepth 20000 in
theorem s_FT_spans_0 {X : zMa} {mc ms : Nat} {Rt : Option zAV → zMp → Prop} (hC : zCx X RX0 cX0_spans 0 0 mc ms (some .int) false Rt) : zLe (B_FT_spans_0 mc ms Rt (zG X)) (zG X 0) :=
  (sd_al_n hC rfl dX0_spans_0 ((sd_gf hC (ci := 1) (fk := 0) rfl wi_FT (by decide) fl_FT_9 (Or.inl rfl) dX0_spans_1 ((sd_lsw hC dX0_spans_4 (by decide) (s_FT_spans_39 hC) [32, 34] rfl (by intro q hq; simp only [List.zip_cons_cons, List.zip_nil_right, List.mem_cons, List.not_mem_nil, or_false] at hq; rcases hq with rfl | rfl; exact ⟨(show zjL 4 35 #[(2, 28), (3, 30)] 2 32 from by unfold zjL; decide), s_FT_spans_32 hC⟩; exact ⟨(show zjL 4 35 #[(2, 28), (3, 30)] 3 34 from by unfold zjL; decide), s_FT_spans_34 hC⟩) (by intro x hx; simp only [List.forall_mem_cons, List.not_mem_nil, false_imp_iff, implies_true, and_true] at hx; obtain ⟨n0, n1⟩ := hx; unfold zjL; rw [lv_osw n0 (by decide), lv_osw n1 (by decide)]; show ((4 : Nat) : Int) + 35 = (39 : Nat); decide))))))
theorem c_FT_spans (l : Launch) : zCT l yX0_spans cX0_spans 1 (some .int) 0 0 T_FT_spans co_FT_spans := by
  intro As M Rt hT
  obtain ⟨t, q, kd, sz, g, rfl, ⟨h1, h2, h3⟩, hR⟩ := hT
  refine zMet_of false (by decide +kernel) (fun h => by first | rfl | cases h) (Nat.le_of_ble_eq_true rfl) (fun X hN hC => ?_)
  show zG X 0 [some (.inr t)] [] M 0 0
  refine s_FT_spans_0 hC _ _ _ _ _ ?_
  simp only [B_FT_spans_0, B_FT_spans_32, B_FT_spans_34, B_FT_spans_39, co_FT_spans, i_ic, i_lc, i_nul, i_il, i_ll, i_al, i_is, i_as, i_ls, i_inc, i_iadd, i_isub, i_imul, i_iand, i_ior, i_ixor, i_idiv, i_irem, i_ishl, i_ishr, i_ladd, i_lsub, i_land, i_lor, i_i2l, i_lushr, i_lshl, i_lshr, i_lcmp, i_dup, i_pop, i_dx1, i_dup2, i_ifeq, i_ifne, i_iflt, i_ifge, i_ifgt, i_ifle, i_iceq, i_icne, i_iclt, i_icge, i_icgt, i_icle, i_ifn, i_gf, i_pf, i_ial, i_bal, i_lal, i_aal, i_ias, i_las, i_bas, i_aas, i_alen, i_newa, i_new, i_anew, i_cast, i_oi, i_call, i_callV, i_callV2, i_callI, i_iret, i_zret, i_lret, i_vret, i_aret, i_mmx, i_mmn, i_gsE, i_aceq, i_no, i_acq, i_sw, zsw, zlg, zls, znl, zfg, zcs, zsp, zrc, zisn, zft, zc1, zto, Value.category, List.set_cons_zero, List.set_cons_succ, List.length_cons, List.length_nil, Option.toList, List.append, List.nil_append, List.cons_append, true_and, and_true, Nat.add_zero, Nat.zero_le, Nat.zero_add, Nat.le_refl, Nat.reduceAdd, Nat.reduceLeDiff, co0, z0, zn_0, zn_1, zn_2, zn_3, zn_4, zn_5, zn_8, zn_12, zn_24, zn_121, zn_144, zn_256, zn_300, zn_600, zn_720, zn_1204, zn_1280, zn_2400, zn_4816, zn_14400, zn_90000, h1, h2]
  unfold ft_spans at hR
  refine ⟨fun hk => ?_, fun hk => ⟨fun hk' => ?_, fun hk' => ?_⟩⟩
  · rw [if_pos hk] at hR; exact hR
  · rw [if_neg hk, if_pos hk'] at hR; exact hR
  · rw [if_neg hk, if_neg hk'] at hR; exact hR
def ft_lo (kd : Int32) (sz : Nat) (g : Nat → Int32) (i : Nat) : Int64 := if kd = 1 then (g 0).toInt64 else if kd = 2 then (if i = 0 then -2147483648 else (g 1).toInt64 + 1) else if kd = 3 then (ft_at sz g i).toInt64 else -2147483648
def ft_hi (kd : Int32) (sz : Nat) (g : Nat → Int32) (i : Nat) : Int64 := if kd = 1 then (g 1).toInt64 else if kd = 2 then (if i = 0 then (g 0).toInt64 - 1 else 2147483647) else if kd = 3 then (ft_at sz g i).toInt64 else 2147483647
theorem nI_z {j : Nat} (h : j < 2 ^ 31) : nI j = 0 ↔ j = 0 := nI_eq h (by decide)
def T_FT_spanStart (As : List zAV) (M : zMp) (Rt : Option zAV → zMp → Prop) : Prop := ∃ t q kd sz g j, As = [.inr t, .inl (.int (nI j))] ∧ j < 2 ^ 31 ∧ zfte M t q kd sz g ∧ Rt (some (.inl (.long (ft_lo kd sz g j)))) M
abbrev co_FT_spanStart := co0
theorem dX0_spanStart_0 : decode cX0_spanStart 0 = .ok (.aload_n 0, 1) := by decide +kernel
theorem dX0_spanStart_1 : decode cX0_spanStart 1 = .ok (.getfield 9, 3) := by decide +kernel
theorem dX0_spanStart_4 : decode cX0_spanStart 4 = .ok (.tableswitch 63 1 3 #[28, 36, 56], 28) := by decide +kernel
theorem dX0_spanStart_32 : decode cX0_spanStart 32 = .ok (.aload_n 0, 1) := by decide +kernel
theorem dX0_spanStart_33 : decode cX0_spanStart 33 = .ok (.getfield 15, 3) := by decide +kernel
theorem dX0_spanStart_36 : decode cX0_spanStart 36 = .ok (.iconst 0, 1) := by decide +kernel
theorem dX0_spanStart_37 : decode cX0_spanStart 37 = .ok (.iaload, 1) := by decide +kernel
theorem dX0_spanStart_38 : decode cX0_spanStart 38 = .ok (.i2l, 1) := by decide +kernel
theorem dX0_spanStart_39 : decode cX0_spanStart 39 = .ok (.lreturn, 1) := by decide +kernel
theorem dX0_spanStart_40 : decode cX0_spanStart 40 = .ok (.iload_n 1, 1) := by decide +kernel
theorem dX0_spanStart_41 : decode cX0_spanStart 41 = .ok (.ifCond .ne 9, 3) := by decide +kernel
theorem dX0_spanStart_44 : decode cX0_spanStart 44 = .ok (.ldc2_w 45, 3) := by decide +kernel
theorem dX0_spanStart_47 : decode cX0_spanStart 47 = .ok (.goto 12, 3) := by decide +kernel
theorem dX0_spanStart_50 : decode cX0_spanStart 50 = .ok (.aload_n 0, 1) := by decide +kernel
theorem dX0_spanStart_51 : decode cX0_spanStart 51 = .ok (.getfield 15, 3) := by decide +kernel
theorem dX0_spanStart_54 : decode cX0_spanStart 54 = .ok (.iconst 1, 1) := by decide +kernel
theorem dX0_spanStart_55 : decode cX0_spanStart 55 = .ok (.iaload, 1) := by decide +kernel
theorem dX0_spanStart_56 : decode cX0_spanStart 56 = .ok (.i2l, 1) := by decide +kernel
theorem dX0_spanStart_57 : decode cX0_spanStart 57 = .ok (.lconst 1, 1) := by decide +kernel
theorem dX0_spanStart_58 : decode cX0_spanStart 58 = .ok (.ladd, 1) := by decide +kernel
theorem dX0_spanStart_59 : decode cX0_spanStart 59 = .ok (.lreturn, 1) := by decide +kernel
theorem dX0_spanStart_60 : decode cX0_spanStart 60 = .ok (.aload_n 0, 1) := by decide +kernel
theorem dX0_spanStart_61 : decode cX0_spanStart 61 = .ok (.iload_n 1, 1) := by decide +kernel
theorem dX0_spanStart_62 : decode cX0_spanStart 62 = .ok (.invokevirtual 47, 3) := by decide +kernel
theorem dX0_spanStart_65 : decode cX0_spanStart 65 = .ok (.i2l, 1) := by decide +kernel
theorem dX0_spanStart_66 : decode cX0_spanStart 66 = .ok (.lreturn, 1) := by decide +kernel
theorem dX0_spanStart_67 : decode cX0_spanStart 67 = .ok (.ldc2_w 45, 3) := by decide +kernel
theorem dX0_spanStart_70 : decode cX0_spanStart 70 = .ok (.lreturn, 1) := by decide +kernel
def B_FT_spanStart_67 (mc ms : Nat) (Rt : Option zAV → zMp → Prop) (g : Nat → zKT) : zKT :=
  (i_lc (-2147483648) (i_lret mc ms Rt))
set_option maxRecDepth 20000 in
theorem s_FT_spanStart_67 {X : zMa} {mc ms : Nat} {Rt : Option zAV → zMp → Prop} (hC : zCx X RX0 cX0_spanStart 1 21 mc ms (some .long) false Rt) : zLe (B_FT_spanStart_67 mc ms Rt (zG X)) (zG X 67) :=
  (sd_ldc2 hC kl_FT_45 dX0_spanStart_67 ((sd_lret hC dX0_spanStart_70)))
def B_FT_spanStart_60 (mc ms : Nat) (Rt : Option zAV → zMp → Prop) (g : Nat → zKT) : zKT :=
  (i_al 0 (i_il 1 (i_callV mc ms 1 2 T_FT_numberAt co_FT_numberAt (i_i2l (i_lret mc ms Rt)))))
set_option maxRecDepth 20000 in
theorem s_FT_spanStart_60 {X : zMa} {mc ms : Nat} {Rt : Option zAV → zMp → Prop} (hC : zCx X RX0 cX0_spanStart 1 21 mc ms (some .long) false Rt) : zLe (B_FT_spanStart_60 mc ms Rt (zG X)) (zG X 60) :=
  (sd_al_n hC rfl dX0_spanStart_60 ((sd_il_n hC rfl dX0_spanStart_61 ((sd_cV hC c_FT_numberAt yv_FT_numberAt (ci := 1) rfl rfl ml_FT_47 (by decide) (by decide) dX0_spanStart_62 ((sd_i2l hC dX0_spanStart_65 ((sd_lret hC dX0_spanStart_66)))))))))
def B_FT_spanStart_59 (mc ms : Nat) (Rt : Option zAV → zMp → Prop) (g : Nat → zKT) : zKT :=
  (i_lret mc ms Rt)
set_option maxRecDepth 20000 in
theorem s_FT_spanStart_59 {X : zMa} {mc ms : Nat} {Rt : Option zAV → zMp → Prop} (hC : zCx X RX0 cX0_spanStart 1 21 mc ms (some .long) false Rt) : zLe (B_FT_spanStart_59 mc ms Rt (zG X)) (zG X 59) :=
  (sd_lret hC dX0_spanStart_59)
def B_FT_spanStart_50 (mc ms : Nat) (Rt : Option zAV → zMp → Prop) (g : Nat → zKT) : zKT :=
  (i_al 0 (i_gf 1 1 (i_ic 1 (i_ial (i_i2l (i_lc 1 (i_ladd (B_FT_spanStart_59 mc ms Rt g))))))))
set_option maxRecDepth 20000 in
theorem s_FT_spanStart_50 {X : zMa} {mc ms : Nat} {Rt : Option zAV → zMp → Prop} (hC : zCx X RX0 cX0_spanStart 1 21 mc ms (some .long) false Rt) : zLe (B_FT_spanStart_50 mc ms Rt (zG X)) (zG X 50) :=
  (sd_al_n hC rfl dX0_spanStart_50 ((sd_gf hC (ci := 1) (fk := 1) rfl wi_FT (by decide) fl_FT_15 (Or.inl rfl) dX0_spanStart_51 ((sd_iconst hC (by decide) dX0_spanStart_54 ((sd_ial hC dX0_spanStart_55 ((sd_i2l hC dX0_spanStart_56 ((sd_lconst hC (by decide) dX0_spanStart_57 ((sd_ladd hC dX0_spanStart_58 (s_FT_spanStart_59 hC))))))))))))))
def B_FT_spanStart_40 (mc ms : Nat) (Rt : Option zAV → zMp → Prop) (g : Nat → zKT) : zKT :=
  (i_il 1 (i_ifne (B_FT_spanStart_50 mc ms Rt g) (i_lc (-2147483648) (B_FT_spanStart_59 mc ms Rt g))))
set_option maxRecDepth 20000 in
theorem s_FT_spanStart_40 {X : zMa} {mc ms : Nat} {Rt : Option zAV → zMp → Prop} (hC : zCx X RX0 cX0_spanStart 1 21 mc ms (some .long) false Rt) : zLe (B_FT_spanStart_40 mc ms Rt (zG X)) (zG X 40) :=
  (sd_il_n hC rfl dX0_spanStart_40 ((sd_ifne hC (tgt := 50) (by decide) dX0_spanStart_41 (s_FT_spanStart_50 hC) ((sd_ldc2 hC kl_FT_45 dX0_spanStart_44 ((sd_goto hC (tgt := 59) (by decide) dX0_spanStart_47 (s_FT_spanStart_59 hC))))))))
def B_FT_spanStart_32 (mc ms : Nat) (Rt : Option zAV → zMp → Prop) (g : Nat → zKT) : zKT :=
  (i_al 0 (i_gf 1 1 (i_ic 0 (i_ial (i_i2l (i_lret mc ms Rt))))))
set_option maxRecDepth 20000 in
theorem s_FT_spanStart_32 {X : zMa} {mc ms : Nat} {Rt : Option zAV → zMp → Prop} (hC : zCx X RX0 cX0_spanStart 1 21 mc ms (some .long) false Rt) : zLe (B_FT_spanStart_32 mc ms Rt (zG X)) (zG X 32) :=
  (sd_al_n hC rfl dX0_spanStart_32 ((sd_gf hC (ci := 1) (fk := 1) rfl wi_FT (by decide) fl_FT_15 (Or.inl rfl) dX0_spanStart_33 ((sd_iconst hC (by decide) dX0_spanStart_36 ((sd_ial hC dX0_spanStart_37 ((sd_i2l hC dX0_spanStart_38 ((sd_lret hC dX0_spanStart_39)))))))))))
def B_FT_spanStart_0 (mc ms : Nat) (Rt : Option zAV → zMp → Prop) (g : Nat → zKT) : zKT :=
  (i_al 0 (i_gf 1 0 (i_sw [(1, (B_FT_spanStart_32 mc ms Rt g)), (2, (B_FT_spanStart_40 mc ms Rt g)), (3, (B_FT_spanStart_60 mc ms Rt g))] (B_FT_spanStart_67 mc ms Rt g))))
set_option maxRecDepth 20000 in
theorem s_FT_spanStart_0 {X : zMa} {mc ms : Nat} {Rt : Option zAV → zMp → Prop} (hC : zCx X RX0 cX0_spanStart 1 21 mc ms (some .long) false Rt) : zLe (B_FT_spanStart_0 mc ms Rt (zG X)) (zG X 0) :=
  (sd_al_n hC rfl dX0_spanStart_0 ((sd_gf hC (ci := 1) (fk := 0) rfl wi_FT (by decide) fl_FT_9 (Or.inl rfl) dX0_spanStart_1 ((sd_tsw hC dX0_spanStart_4 (s_FT_spanStart_67 hC) [32, 40, 60] rfl (by intro q hq; simp only [List.zip_cons_cons, List.zip_nil_right, List.mem_cons, List.not_mem_nil, or_false] at hq; rcases hq with rfl | rfl | rfl; exact ⟨(show zjT 4 63 1 3 #[28, 36, 56] 1 32 from Or.inr ⟨by decide, by decide, _, rfl, by decide⟩), s_FT_spanStart_32 hC⟩; exact ⟨(show zjT 4 63 1 3 #[28, 36, 56] 2 40 from Or.inr ⟨by decide, by decide, _, rfl, by decide⟩), s_FT_spanStart_40 hC⟩; exact ⟨(show zjT 4 63 1 3 #[28, 36, 56] 3 60 from Or.inr ⟨by decide, by decide, _, rfl, by decide⟩), s_FT_spanStart_60 hC⟩) (by intro x hx; simp only [List.forall_mem_cons, List.not_mem_nil, false_imp_iff, implies_true, and_true] at hx; refine Or.inl ⟨?_, by decide⟩; obtain ⟨n0, n1, n2⟩ := hx; have n0 := zne_i (z := 1) n0 (by decide); have n1 := zne_i (z := 2) n1 (by decide); have n2 := zne_i (z := 3) n2 (by decide); omega))))))
theorem c_FT_spanStart (l : Launch) : zCT l yX0_spanStart cX0_spanStart 2 (some .long) 1 21 T_FT_spanStart co_FT_spanStart := by
  intro As M Rt hT
  obtain ⟨t, q, kd, sz, g, j, rfl, hj, ⟨h1, h2, h3⟩, hR⟩ := hT
  refine zMet_of false (by decide +kernel) (fun h => by first | rfl | cases h) (Nat.le_of_ble_eq_true rfl) (fun X hN hC => ?_)
  show zG X 0 [some (.inr t), some (.inl (.int (nI j)))] [] M 0 0
  refine s_FT_spanStart_0 hC _ _ _ _ _ ?_
  have i0 : vp_in 0 4 := by unfold vp_in; decide
  have i1 : vp_in 1 4 := by unfold vp_in; decide
  simp only [B_FT_spanStart_0, B_FT_spanStart_32, B_FT_spanStart_40, B_FT_spanStart_50, B_FT_spanStart_59, B_FT_spanStart_60, B_FT_spanStart_67, co_FT_numberAt, co_FT_spanStart, i_ic, i_lc, i_nul, i_il, i_ll, i_al, i_is, i_as, i_ls, i_inc, i_iadd, i_isub, i_imul, i_iand, i_ior, i_ixor, i_idiv, i_irem, i_ishl, i_ishr, i_ladd, i_lsub, i_land, i_lor, i_i2l, i_lushr, i_lshl, i_lshr, i_lcmp, i_dup, i_pop, i_dx1, i_dup2, i_ifeq, i_ifne, i_iflt, i_ifge, i_ifgt, i_ifle, i_iceq, i_icne, i_iclt, i_icge, i_icgt, i_icle, i_ifn, i_gf, i_pf, i_ial, i_bal, i_lal, i_aal, i_ias, i_las, i_bas, i_aas, i_alen, i_newa, i_new, i_anew, i_cast, i_oi, i_call, i_callV, i_callV2, i_callI, i_iret, i_zret, i_lret, i_vret, i_aret, i_mmx, i_mmn, i_gsE, i_aceq, i_no, i_acq, i_sw, zsw, zlg, zls, znl, zfg, zcs, zsp, zrc, zisn, zft, zc1, zto, Value.category, List.set_cons_zero, List.set_cons_succ, List.length_cons, List.length_nil, Option.toList, List.append, List.nil_append, List.cons_append, true_and, and_true, Nat.add_zero, Nat.zero_le, Nat.zero_add, Nat.le_refl, Nat.reduceAdd, Nat.reduceLeDiff, co0, z0, zn_0, zn_1, zn_2, zn_3, zn_4, zn_5, zn_8, zn_12, zn_24, zn_121, zn_144, zn_256, zn_300, zn_600, zn_720, zn_1204, zn_1280, zn_2400, zn_4816, zn_14400, zn_90000, h1, h2, nI_z hj]
  unfold ft_lo at hR
  refine ⟨fun hk => ⟨i0, ?_⟩, fun hk1 => ⟨fun hk => ⟨fun h => ⟨i1, ?_⟩, fun h => ?_⟩, fun hk2 => ⟨fun hk => ⟨t, q, kd, sz, g, j, rfl, hj, ⟨h1, h2, h3⟩, ?_⟩, fun hk3 => ?_⟩⟩⟩
  · rw [if_pos hk] at hR; exact hR
  · rw [if_neg hk1, if_pos hk, if_neg h] at hR; exact hR
  · rw [if_neg hk1, if_pos hk, if_pos h] at hR; exact hR
  · rw [if_neg hk1, if_neg hk2, if_pos hk] at hR; exact hR
  · rw [if_neg hk1, if_neg hk2, if_neg hk3] at hR; exact hR
def T_FT_spanEnd (As : List zAV) (M : zMp) (Rt : Option zAV → zMp → Prop) : Prop := ∃ t q kd sz g j, As = [.inr t, .inl (.int (nI j))] ∧ j < 2 ^ 31 ∧ zfte M t q kd sz g ∧ Rt (some (.inl (.long (ft_hi kd sz g j)))) M
abbrev co_FT_spanEnd := co0
theorem dX0_spanEnd_0 : decode cX0_spanEnd 0 = .ok (.aload_n 0, 1) := by decide +kernel
theorem dX0_spanEnd_1 : decode cX0_spanEnd 1 = .ok (.getfield 9, 3) := by decide +kernel
theorem dX0_spanEnd_4 : decode cX0_spanEnd 4 = .ok (.tableswitch 63 1 3 #[28, 36, 56], 28) := by decide +kernel
theorem dX0_spanEnd_32 : decode cX0_spanEnd 32 = .ok (.aload_n 0, 1) := by decide +kernel
theorem dX0_spanEnd_33 : decode cX0_spanEnd 33 = .ok (.getfield 15, 3) := by decide +kernel
theorem dX0_spanEnd_36 : decode cX0_spanEnd 36 = .ok (.iconst 1, 1) := by decide +kernel
theorem dX0_spanEnd_37 : decode cX0_spanEnd 37 = .ok (.iaload, 1) := by decide +kernel
theorem dX0_spanEnd_38 : decode cX0_spanEnd 38 = .ok (.i2l, 1) := by decide +kernel
theorem dX0_spanEnd_39 : decode cX0_spanEnd 39 = .ok (.lreturn, 1) := by decide +kernel
theorem dX0_spanEnd_40 : decode cX0_spanEnd 40 = .ok (.iload_n 1, 1) := by decide +kernel
theorem dX0_spanEnd_41 : decode cX0_spanEnd 41 = .ok (.ifCond .ne 15, 3) := by decide +kernel
theorem dX0_spanEnd_44 : decode cX0_spanEnd 44 = .ok (.aload_n 0, 1) := by decide +kernel
theorem dX0_spanEnd_45 : decode cX0_spanEnd 45 = .ok (.getfield 15, 3) := by decide +kernel
theorem dX0_spanEnd_48 : decode cX0_spanEnd 48 = .ok (.iconst 0, 1) := by decide +kernel
theorem dX0_spanEnd_49 : decode cX0_spanEnd 49 = .ok (.iaload, 1) := by decide +kernel
theorem dX0_spanEnd_50 : decode cX0_spanEnd 50 = .ok (.i2l, 1) := by decide +kernel
theorem dX0_spanEnd_51 : decode cX0_spanEnd 51 = .ok (.lconst 1, 1) := by decide +kernel
theorem dX0_spanEnd_52 : decode cX0_spanEnd 52 = .ok (.lsub, 1) := by decide +kernel
theorem dX0_spanEnd_53 : decode cX0_spanEnd 53 = .ok (.goto 6, 3) := by decide +kernel
theorem dX0_spanEnd_56 : decode cX0_spanEnd 56 = .ok (.ldc2_w 51, 3) := by decide +kernel
theorem dX0_spanEnd_59 : decode cX0_spanEnd 59 = .ok (.lreturn, 1) := by decide +kernel
theorem dX0_spanEnd_60 : decode cX0_spanEnd 60 = .ok (.aload_n 0, 1) := by decide +kernel
theorem dX0_spanEnd_61 : decode cX0_spanEnd 61 = .ok (.iload_n 1, 1) := by decide +kernel
theorem dX0_spanEnd_62 : decode cX0_spanEnd 62 = .ok (.invokevirtual 47, 3) := by decide +kernel
theorem dX0_spanEnd_65 : decode cX0_spanEnd 65 = .ok (.i2l, 1) := by decide +kernel
theorem dX0_spanEnd_66 : decode cX0_spanEnd 66 = .ok (.lreturn, 1) := by decide +kernel
theorem dX0_spanEnd_67 : decode cX0_spanEnd 67 = .ok (.ldc2_w 51, 3) := by decide +kernel
theorem dX0_spanEnd_70 : decode cX0_spanEnd 70 = .ok (.lreturn, 1) := by decide +kernel
def B_FT_spanEnd_67 (mc ms : Nat) (Rt : Option zAV → zMp → Prop) (g : Nat → zKT) : zKT :=
  (i_lc 2147483647 (i_lret mc ms Rt))
set_option maxRecDepth 20000 in
theorem s_FT_spanEnd_67 {X : zMa} {mc ms : Nat} {Rt : Option zAV → zMp → Prop} (hC : zCx X RX0 cX0_spanEnd 1 21 mc ms (some .long) false Rt) : zLe (B_FT_spanEnd_67 mc ms Rt (zG X)) (zG X 67) :=
  (sd_ldc2 hC kl_FT_51 dX0_spanEnd_67 ((sd_lret hC dX0_spanEnd_70)))
def B_FT_spanEnd_60 (mc ms : Nat) (Rt : Option zAV → zMp → Prop) (g : Nat → zKT) : zKT :=
  (i_al 0 (i_il 1 (i_callV mc ms 1 2 T_FT_numberAt co_FT_numberAt (i_i2l (i_lret mc ms Rt)))))
set_option maxRecDepth 20000 in
theorem s_FT_spanEnd_60 {X : zMa} {mc ms : Nat} {Rt : Option zAV → zMp → Prop} (hC : zCx X RX0 cX0_spanEnd 1 21 mc ms (some .long) false Rt) : zLe (B_FT_spanEnd_60 mc ms Rt (zG X)) (zG X 60) :=
  (sd_al_n hC rfl dX0_spanEnd_60 ((sd_il_n hC rfl dX0_spanEnd_61 ((sd_cV hC c_FT_numberAt yv_FT_numberAt (ci := 1) rfl rfl ml_FT_47 (by decide) (by decide) dX0_spanEnd_62 ((sd_i2l hC dX0_spanEnd_65 ((sd_lret hC dX0_spanEnd_66)))))))))
def B_FT_spanEnd_59 (mc ms : Nat) (Rt : Option zAV → zMp → Prop) (g : Nat → zKT) : zKT :=
  (i_lret mc ms Rt)
set_option maxRecDepth 20000 in
theorem s_FT_spanEnd_59 {X : zMa} {mc ms : Nat} {Rt : Option zAV → zMp → Prop} (hC : zCx X RX0 cX0_spanEnd 1 21 mc ms (some .long) false Rt) : zLe (B_FT_spanEnd_59 mc ms Rt (zG X)) (zG X 59) :=
  (sd_lret hC dX0_spanEnd_59)
def B_FT_spanEnd_56 (mc ms : Nat) (Rt : Option zAV → zMp → Prop) (g : Nat → zKT) : zKT :=
  (i_lc 2147483647 (B_FT_spanEnd_59 mc ms Rt g))
set_option maxRecDepth 20000 in
theorem s_FT_spanEnd_56 {X : zMa} {mc ms : Nat} {Rt : Option zAV → zMp → Prop} (hC : zCx X RX0 cX0_spanEnd 1 21 mc ms (some .long) false Rt) : zLe (B_FT_spanEnd_56 mc ms Rt (zG X)) (zG X 56) :=
  (sd_ldc2 hC kl_FT_51 dX0_spanEnd_56 (s_FT_spanEnd_59 hC))
def B_FT_spanEnd_40 (mc ms : Nat) (Rt : Option zAV → zMp → Prop) (g : Nat → zKT) : zKT :=
  (i_il 1 (i_ifne (B_FT_spanEnd_56 mc ms Rt g) (i_al 0 (i_gf 1 1 (i_ic 0 (i_ial (i_i2l (i_lc 1 (i_lsub (B_FT_spanEnd_59 mc ms Rt g))))))))))
set_option maxRecDepth 20000 in
theorem s_FT_spanEnd_40 {X : zMa} {mc ms : Nat} {Rt : Option zAV → zMp → Prop} (hC : zCx X RX0 cX0_spanEnd 1 21 mc ms (some .long) false Rt) : zLe (B_FT_spanEnd_40 mc ms Rt (zG X)) (zG X 40) :=
  (sd_il_n hC rfl dX0_spanEnd_40 ((sd_ifne hC (tgt := 56) (by decide) dX0_spanEnd_41 (s_FT_spanEnd_56 hC) ((sd_al_n hC rfl dX0_spanEnd_44 ((sd_gf hC (ci := 1) (fk := 1) rfl wi_FT (by decide) fl_FT_15 (Or.inl rfl) dX0_spanEnd_45 ((sd_iconst hC (by decide) dX0_spanEnd_48 ((sd_ial hC dX0_spanEnd_49 ((sd_i2l hC dX0_spanEnd_50 ((sd_lconst hC (by decide) dX0_spanEnd_51 ((sd_lsub hC dX0_spanEnd_52 ((sd_goto hC (tgt := 59) (by decide) dX0_spanEnd_53 (s_FT_spanEnd_59 hC))))))))))))))))))))
def B_FT_spanEnd_32 (mc ms : Nat) (Rt : Option zAV → zMp → Prop) (g : Nat → zKT) : zKT :=
  (i_al 0 (i_gf 1 1 (i_ic 1 (i_ial (i_i2l (i_lret mc ms Rt))))))
set_option maxRecDepth 20000 in
theorem s_FT_spanEnd_32 {X : zMa} {mc ms : Nat} {Rt : Option zAV → zMp → Prop} (hC : zCx X RX0 cX0_spanEnd 1 21 mc ms (some .long) false Rt) : zLe (B_FT_spanEnd_32 mc ms Rt (zG X)) (zG X 32) :=
  (sd_al_n hC rfl dX0_spanEnd_32 ((sd_gf hC (ci := 1) (fk := 1) rfl wi_FT (by decide) fl_FT_15 (Or.inl rfl) dX0_spanEnd_33 ((sd_iconst hC (by decide) dX0_spanEnd_36 ((sd_ial hC dX0_spanEnd_37 ((sd_i2l hC dX0_spanEnd_38 ((sd_lret hC dX0_spanEnd_39)))))))))))
def B_FT_spanEnd_0 (mc ms : Nat) (Rt : Option zAV → zMp → Prop) (g : Nat → zKT) : zKT :=
  (i_al 0 (i_gf 1 0 (i_sw [(1, (B_FT_spanEnd_32 mc ms Rt g)), (2, (B_FT_spanEnd_40 mc ms Rt g)), (3, (B_FT_spanEnd_60 mc ms Rt g))] (B_FT_spanEnd_67 mc ms Rt g))))
set_option maxRecDepth 20000 in
theorem s_FT_spanEnd_0 {X : zMa} {mc ms : Nat} {Rt : Option zAV → zMp → Prop} (hC : zCx X RX0 cX0_spanEnd 1 21 mc ms (some .long) false Rt) : zLe (B_FT_spanEnd_0 mc ms Rt (zG X)) (zG X 0) :=
  (sd_al_n hC rfl dX0_spanEnd_0 ((sd_gf hC (ci := 1) (fk := 0) rfl wi_FT (by decide) fl_FT_9 (Or.inl rfl) dX0_spanEnd_1 ((sd_tsw hC dX0_spanEnd_4 (s_FT_spanEnd_67 hC) [32, 40, 60] rfl (by intro q hq; simp only [List.zip_cons_cons, List.zip_nil_right, List.mem_cons, List.not_mem_nil, or_false] at hq; rcases hq with rfl | rfl | rfl; exact ⟨(show zjT 4 63 1 3 #[28, 36, 56] 1 32 from Or.inr ⟨by decide, by decide, _, rfl, by decide⟩), s_FT_spanEnd_32 hC⟩; exact ⟨(show zjT 4 63 1 3 #[28, 36, 56] 2 40 from Or.inr ⟨by decide, by decide, _, rfl, by decide⟩), s_FT_spanEnd_40 hC⟩; exact ⟨(show zjT 4 63 1 3 #[28, 36, 56] 3 60 from Or.inr ⟨by decide, by decide, _, rfl, by decide⟩), s_FT_spanEnd_60 hC⟩) (by intro x hx; simp only [List.forall_mem_cons, List.not_mem_nil, false_imp_iff, implies_true, and_true] at hx; refine Or.inl ⟨?_, by decide⟩; obtain ⟨n0, n1, n2⟩ := hx; have n0 := zne_i (z := 1) n0 (by decide); have n1 := zne_i (z := 2) n1 (by decide); have n2 := zne_i (z := 3) n2 (by decide); omega))))))
theorem c_FT_spanEnd (l : Launch) : zCT l yX0_spanEnd cX0_spanEnd 2 (some .long) 1 21 T_FT_spanEnd co_FT_spanEnd := by
  intro As M Rt hT
  obtain ⟨t, q, kd, sz, g, j, rfl, hj, ⟨h1, h2, h3⟩, hR⟩ := hT
  refine zMet_of false (by decide +kernel) (fun h => by first | rfl | cases h) (Nat.le_of_ble_eq_true rfl) (fun X hN hC => ?_)
  show zG X 0 [some (.inr t), some (.inl (.int (nI j)))] [] M 0 0
  refine s_FT_spanEnd_0 hC _ _ _ _ _ ?_
  have i0 : vp_in 0 4 := by unfold vp_in; decide
  have i1 : vp_in 1 4 := by unfold vp_in; decide
  simp only [B_FT_spanEnd_0, B_FT_spanEnd_32, B_FT_spanEnd_40, B_FT_spanEnd_56, B_FT_spanEnd_59, B_FT_spanEnd_60, B_FT_spanEnd_67, co_FT_numberAt, co_FT_spanEnd, i_ic, i_lc, i_nul, i_il, i_ll, i_al, i_is, i_as, i_ls, i_inc, i_iadd, i_isub, i_imul, i_iand, i_ior, i_ixor, i_idiv, i_irem, i_ishl, i_ishr, i_ladd, i_lsub, i_land, i_lor, i_i2l, i_lushr, i_lshl, i_lshr, i_lcmp, i_dup, i_pop, i_dx1, i_dup2, i_ifeq, i_ifne, i_iflt, i_ifge, i_ifgt, i_ifle, i_iceq, i_icne, i_iclt, i_icge, i_icgt, i_icle, i_ifn, i_gf, i_pf, i_ial, i_bal, i_lal, i_aal, i_ias, i_las, i_bas, i_aas, i_alen, i_newa, i_new, i_anew, i_cast, i_oi, i_call, i_callV, i_callV2, i_callI, i_iret, i_zret, i_lret, i_vret, i_aret, i_mmx, i_mmn, i_gsE, i_aceq, i_no, i_acq, i_sw, zsw, zlg, zls, znl, zfg, zcs, zsp, zrc, zisn, zft, zc1, zto, Value.category, List.set_cons_zero, List.set_cons_succ, List.length_cons, List.length_nil, Option.toList, List.append, List.nil_append, List.cons_append, true_and, and_true, Nat.add_zero, Nat.zero_le, Nat.zero_add, Nat.le_refl, Nat.reduceAdd, Nat.reduceLeDiff, co0, z0, zn_0, zn_1, zn_2, zn_3, zn_4, zn_5, zn_8, zn_12, zn_24, zn_121, zn_144, zn_256, zn_300, zn_600, zn_720, zn_1204, zn_1280, zn_2400, zn_4816, zn_14400, zn_90000, h1, h2, nI_z hj]
  unfold ft_hi at hR
  refine ⟨fun hk => ⟨i1, ?_⟩, fun hk1 => ⟨fun hk => ⟨fun h => ?_, fun h => ⟨i0, ?_⟩⟩, fun hk2 => ⟨fun hk => ⟨t, q, kd, sz, g, j, rfl, hj, ⟨h1, h2, h3⟩, ?_⟩, fun hk3 => ?_⟩⟩⟩
  · rw [if_pos hk] at hR; exact hR
  · rw [if_neg hk1, if_pos hk, if_neg h] at hR; exact hR
  · rw [if_neg hk1, if_pos hk, if_pos h] at hR; exact hR
  · rw [if_neg hk1, if_neg hk2, if_pos hk] at hR; exact hR
  · rw [if_neg hk1, if_neg hk2, if_neg hk3] at hR; exact hR
/-- the first number at or behind next that no span from the i-th on takes away, going over the spans once -/
noncomputable def ft_next (kd : Int32) (sz : Nat) (g : Nat → Int32) : Nat → Nat → Int64 → Int64
  | 0, _, x => x
  | n + 1, i, x => ft_next kd sz g n (i + 1) (if ft_lo kd sz g i ≤ x ∧ x ≤ ft_hi kd sz g i then ft_hi kd sz g i + 1 else x)
noncomputable def ft_all (kd : Int32) (sz : Nat) (g : Nat → Int32) (a b : Int64) : Bool := zd (b < ft_next kd sz g (ft_spans kd sz) 0 a)
def T_FT_passesAll (As : List zAV) (M : zMp) (Rt : Option zAV → zMp → Prop) : Prop := ∃ t q kd sz g a b, As = [.inr t, .inl (.long a), .inl (.long b)] ∧ zfte M t q kd sz g ∧ Rt (some (.inl (.int (zb (ft_all kd sz g a b))))) M
abbrev co_FT_passesAll := co0
theorem dX0_passesAll_0 : decode cX0_passesAll 0 = .ok (.lload_n 1, 1) := by decide +kernel
theorem dX0_passesAll_1 : decode cX0_passesAll 1 = .ok (.lstore 5, 2) := by decide +kernel
theorem dX0_passesAll_3 : decode cX0_passesAll 3 = .ok (.iconst 0, 1) := by decide +kernel
theorem dX0_passesAll_4 : decode cX0_passesAll 4 = .ok (.istore 7, 2) := by decide +kernel
theorem dX0_passesAll_6 : decode cX0_passesAll 6 = .ok (.iload 7, 2) := by decide +kernel
theorem dX0_passesAll_8 : decode cX0_passesAll 8 = .ok (.aload_n 0, 1) := by decide +kernel
theorem dX0_passesAll_9 : decode cX0_passesAll 9 = .ok (.invokevirtual 30, 3) := by decide +kernel
theorem dX0_passesAll_12 : decode cX0_passesAll 12 = .ok (.if_icmp .ge 43, 3) := by decide +kernel
theorem dX0_passesAll_15 : decode cX0_passesAll 15 = .ok (.aload_n 0, 1) := by decide +kernel
theorem dX0_passesAll_16 : decode cX0_passesAll 16 = .ok (.iload 7, 2) := by decide +kernel
theorem dX0_passesAll_18 : decode cX0_passesAll 18 = .ok (.invokevirtual 34, 3) := by decide +kernel
theorem dX0_passesAll_21 : decode cX0_passesAll 21 = .ok (.lload 5, 2) := by decide +kernel
theorem dX0_passesAll_23 : decode cX0_passesAll 23 = .ok (.lcmp, 1) := by decide +kernel
theorem dX0_passesAll_24 : decode cX0_passesAll 24 = .ok (.ifCond .gt 25, 3) := by decide +kernel
theorem dX0_passesAll_27 : decode cX0_passesAll 27 = .ok (.lload 5, 2) := by decide +kernel
theorem dX0_passesAll_29 : decode cX0_passesAll 29 = .ok (.aload_n 0, 1) := by decide +kernel
theorem dX0_passesAll_30 : decode cX0_passesAll 30 = .ok (.iload 7, 2) := by decide +kernel
theorem dX0_passesAll_32 : decode cX0_passesAll 32 = .ok (.invokevirtual 38, 3) := by decide +kernel
theorem dX0_passesAll_35 : decode cX0_passesAll 35 = .ok (.lcmp, 1) := by decide +kernel
theorem dX0_passesAll_36 : decode cX0_passesAll 36 = .ok (.ifCond .gt 13, 3) := by decide +kernel
theorem dX0_passesAll_39 : decode cX0_passesAll 39 = .ok (.aload_n 0, 1) := by decide +kernel
theorem dX0_passesAll_40 : decode cX0_passesAll 40 = .ok (.iload 7, 2) := by decide +kernel
theorem dX0_passesAll_42 : decode cX0_passesAll 42 = .ok (.invokevirtual 38, 3) := by decide +kernel
theorem dX0_passesAll_45 : decode cX0_passesAll 45 = .ok (.lconst 1, 1) := by decide +kernel
theorem dX0_passesAll_46 : decode cX0_passesAll 46 = .ok (.ladd, 1) := by decide +kernel
theorem dX0_passesAll_47 : decode cX0_passesAll 47 = .ok (.lstore 5, 2) := by decide +kernel
theorem dX0_passesAll_49 : decode cX0_passesAll 49 = .ok (.iinc 7 1, 3) := by decide +kernel
theorem dX0_passesAll_52 : decode cX0_passesAll 52 = .ok (.goto (-46), 3) := by decide +kernel
theorem dX0_passesAll_55 : decode cX0_passesAll 55 = .ok (.lload 5, 2) := by decide +kernel
theorem dX0_passesAll_57 : decode cX0_passesAll 57 = .ok (.lload_n 3, 1) := by decide +kernel
theorem dX0_passesAll_58 : decode cX0_passesAll 58 = .ok (.lcmp, 1) := by decide +kernel
theorem dX0_passesAll_59 : decode cX0_passesAll 59 = .ok (.ifCond .le 7, 3) := by decide +kernel
theorem dX0_passesAll_62 : decode cX0_passesAll 62 = .ok (.iconst 1, 1) := by decide +kernel
theorem dX0_passesAll_63 : decode cX0_passesAll 63 = .ok (.goto 4, 3) := by decide +kernel
theorem dX0_passesAll_66 : decode cX0_passesAll 66 = .ok (.iconst 0, 1) := by decide +kernel
theorem dX0_passesAll_67 : decode cX0_passesAll 67 = .ok (.ireturn, 1) := by decide +kernel
def B_FT_passesAll_67 (mc ms : Nat) (Rt : Option zAV → zMp → Prop) (g : Nat → zKT) : zKT :=
  (i_zret mc ms Rt)
set_option maxRecDepth 20000 in
theorem s_FT_passesAll_67 {X : zMa} {mc ms : Nat} {Rt : Option zAV → zMp → Prop} (hC : zCx X RX0 cX0_passesAll 2 42 mc ms (some .boolean) false Rt) (hN : zNL X = 8) : zLe (B_FT_passesAll_67 mc ms Rt (zG X)) (zG X 67) :=
  (sd_zret hC dX0_passesAll_67)
def B_FT_passesAll_66 (mc ms : Nat) (Rt : Option zAV → zMp → Prop) (g : Nat → zKT) : zKT :=
  (i_ic 0 (B_FT_passesAll_67 mc ms Rt g))
set_option maxRecDepth 20000 in
theorem s_FT_passesAll_66 {X : zMa} {mc ms : Nat} {Rt : Option zAV → zMp → Prop} (hC : zCx X RX0 cX0_passesAll 2 42 mc ms (some .boolean) false Rt) (hN : zNL X = 8) : zLe (B_FT_passesAll_66 mc ms Rt (zG X)) (zG X 66) :=
  (sd_iconst hC (by decide) dX0_passesAll_66 (s_FT_passesAll_67 hC hN))
def B_FT_passesAll_55 (mc ms : Nat) (Rt : Option zAV → zMp → Prop) (g : Nat → zKT) : zKT :=
  (i_ll 5 (i_ll 3 (i_lcmp (i_ifle (B_FT_passesAll_66 mc ms Rt g) (i_ic 1 (B_FT_passesAll_67 mc ms Rt g))))))
set_option maxRecDepth 20000 in
theorem s_FT_passesAll_55 {X : zMa} {mc ms : Nat} {Rt : Option zAV → zMp → Prop} (hC : zCx X RX0 cX0_passesAll 2 42 mc ms (some .boolean) false Rt) (hN : zNL X = 8) : zLe (B_FT_passesAll_55 mc ms Rt (zG X)) (zG X 55) :=
  (sd_ll hC dX0_passesAll_55 ((sd_ll_n hC rfl dX0_passesAll_57 ((sd_lcmp hC dX0_passesAll_58 ((sd_ifle hC (tgt := 66) (by decide) dX0_passesAll_59 (s_FT_passesAll_66 hC hN) ((sd_iconst hC (by decide) dX0_passesAll_62 ((sd_goto hC (tgt := 67) (by decide) dX0_passesAll_63 (s_FT_passesAll_67 hC hN))))))))))))
def B_FT_passesAll_49 (mc ms : Nat) (Rt : Option zAV → zMp → Prop) (g : Nat → zKT) : zKT :=
  (i_inc 7 1 (g 6))
set_option maxRecDepth 20000 in
theorem s_FT_passesAll_49 {X : zMa} {mc ms : Nat} {Rt : Option zAV → zMp → Prop} (hC : zCx X RX0 cX0_passesAll 2 42 mc ms (some .boolean) false Rt) (hN : zNL X = 8) : zLe (B_FT_passesAll_49 mc ms Rt (zG X)) (zG X 49) :=
  (sd_inc hC (by decide) (by rw [hN]; decide) dX0_passesAll_49 ((sd_goto hC (tgt := 6) (by decide) dX0_passesAll_52 (zLe_rfl))))
def B_FT_passesAll_6 (mc ms : Nat) (Rt : Option zAV → zMp → Prop) (g : Nat → zKT) : zKT :=
  (i_il 7 (i_al 0 (i_callV mc ms 1 1 T_FT_spans co_FT_spans (i_icge (B_FT_passesAll_55 mc ms Rt g) (i_al 0 (i_il 7 (i_callV mc ms 1 2 T_FT_spanStart co_FT_spanStart (i_ll 5 (i_lcmp (i_ifgt (B_FT_passesAll_49 mc ms Rt g) (i_ll 5 (i_al 0 (i_il 7 (i_callV mc ms 1 2 T_FT_spanEnd co_FT_spanEnd (i_lcmp (i_ifgt (B_FT_passesAll_49 mc ms Rt g) (i_al 0 (i_il 7 (i_callV mc ms 1 2 T_FT_spanEnd co_FT_spanEnd (i_lc 1 (i_ladd (i_ls 5 (B_FT_passesAll_49 mc ms Rt g)))))))))))))))))))))))
set_option maxRecDepth 20000 in
theorem s_FT_passesAll_6 {X : zMa} {mc ms : Nat} {Rt : Option zAV → zMp → Prop} (hC : zCx X RX0 cX0_passesAll 2 42 mc ms (some .boolean) false Rt) (hN : zNL X = 8) : zLe (B_FT_passesAll_6 mc ms Rt (zG X)) (zG X 6) :=
  (sd_il hC dX0_passesAll_6 ((sd_al_n hC rfl dX0_passesAll_8 ((sd_cV hC c_FT_spans yv_FT_spans (ci := 1) rfl rfl ml_FT_30 (by decide) (by decide) dX0_passesAll_9 ((sd_icge hC (tgt := 55) (by decide) dX0_passesAll_12 (s_FT_passesAll_55 hC hN) ((sd_al_n hC rfl dX0_passesAll_15 ((sd_il hC dX0_passesAll_16 ((sd_cV hC c_FT_spanStart yv_FT_spanStart (ci := 1) rfl rfl ml_FT_34 (by decide) (by decide) dX0_passesAll_18 ((sd_ll hC dX0_passesAll_21 ((sd_lcmp hC dX0_passesAll_23 ((sd_ifgt hC (tgt := 49) (by decide) dX0_passesAll_24 (s_FT_passesAll_49 hC hN) ((sd_ll hC dX0_passesAll_27 ((sd_al_n hC rfl dX0_passesAll_29 ((sd_il hC dX0_passesAll_30 ((sd_cV hC c_FT_spanEnd yv_FT_spanEnd (ci := 1) rfl rfl ml_FT_38 (by decide) (by decide) dX0_passesAll_32 ((sd_lcmp hC dX0_passesAll_35 ((sd_ifgt hC (tgt := 49) (by decide) dX0_passesAll_36 (s_FT_passesAll_49 hC hN) ((sd_al_n hC rfl dX0_passesAll_39 ((sd_il hC dX0_passesAll_40 ((sd_cV hC c_FT_spanEnd yv_FT_spanEnd (ci := 1) rfl rfl ml_FT_38 (by decide) (by decide) dX0_passesAll_42 ((sd_lconst hC (by decide) dX0_passesAll_45 ((sd_ladd hC dX0_passesAll_46 ((sd_ls hC (by rw [hN]; decide) dX0_passesAll_47 (s_FT_passesAll_49 hC hN))))))))))))))))))))))))))))))))))))))))))))
def B_FT_passesAll_0 (mc ms : Nat) (Rt : Option zAV → zMp → Prop) (g : Nat → zKT) : zKT :=
  (i_ll 1 (i_ls 5 (i_ic 0 (i_is 7 (g 6)))))
set_option maxRecDepth 20000 in
theorem s_FT_passesAll_0 {X : zMa} {mc ms : Nat} {Rt : Option zAV → zMp → Prop} (hC : zCx X RX0 cX0_passesAll 2 42 mc ms (some .boolean) false Rt) (hN : zNL X = 8) : zLe (B_FT_passesAll_0 mc ms Rt (zG X)) (zG X 0) :=
  (sd_ll_n hC rfl dX0_passesAll_0 ((sd_ls hC (by rw [hN]; decide) dX0_passesAll_1 ((sd_iconst hC (by decide) dX0_passesAll_3 ((sd_is hC (by rw [hN]; decide) dX0_passesAll_4 (zLe_rfl))))))))
theorem c_FT_passesAll (l : Launch) : zCT l yX0_passesAll cX0_passesAll 8 (some .boolean) 2 42 T_FT_passesAll co_FT_passesAll := by
  intro As M Rt hT
  obtain ⟨t, q, kd, sz, g, a, b, rfl, ⟨h1, h2, h3⟩, hR⟩ := hT
  refine zMet_of false (by decide +kernel) (fun h => by first | rfl | cases h) (Nat.le_of_ble_eq_true rfl) (fun X hN hC => ?_)
  show zG X 0 [some (.inr t), some (.inl (.long a)), none, some (.inl (.long b)), none, none, none, none] [] M 0 0
  have hs := ft_spans_le (kd := kd) h3
  have loop : ∀ n i x, i + n = ft_spans kd sz → ft_next kd sz g (ft_spans kd sz) 0 a = ft_next kd sz g n i x → zG X 6 [some (.inr t), some (.inl (.long a)), none, some (.inl (.long b)), none, some (.inl (.long x)), none, some (.inl (.int (nI i)))] [] M 0 0 := by
    intro n
    induction n with
    | zero =>
      intro i x hi he
      refine s_FT_passesAll_6 hC hN _ _ _ _ _ ?_
      simp only [B_FT_passesAll_0, B_FT_passesAll_6, B_FT_passesAll_49, B_FT_passesAll_55, B_FT_passesAll_66, B_FT_passesAll_67, co_FT_passesAll, co_FT_spanEnd, co_FT_spanStart, co_FT_spans, i_ic, i_lc, i_nul, i_il, i_ll, i_al, i_is, i_as, i_ls, i_inc, i_iadd, i_isub, i_imul, i_iand, i_ior, i_ixor, i_idiv, i_irem, i_ishl, i_ishr, i_ladd, i_lsub, i_land, i_lor, i_i2l, i_lushr, i_lshl, i_lshr, i_lcmp, i_dup, i_pop, i_dx1, i_dup2, i_ifeq, i_ifne, i_iflt, i_ifge, i_ifgt, i_ifle, i_iceq, i_icne, i_iclt, i_icge, i_icgt, i_icle, i_ifn, i_gf, i_pf, i_ial, i_bal, i_lal, i_aal, i_ias, i_las, i_bas, i_aas, i_alen, i_newa, i_new, i_anew, i_cast, i_oi, i_call, i_callV, i_callV2, i_callI, i_iret, i_zret, i_lret, i_vret, i_aret, i_mmx, i_mmn, i_gsE, i_aceq, i_no, i_acq, i_sw, zsw, zlg, zls, znl, zfg, zcs, zsp, zrc, zisn, zft, zc1, zto, Value.category, List.set_cons_zero, List.set_cons_succ, List.length_cons, List.length_nil, Option.toList, List.append, List.nil_append, List.cons_append, true_and, and_true, Nat.add_zero, Nat.zero_le, Nat.zero_add, Nat.le_refl, Nat.reduceAdd, Nat.reduceLeDiff, co0, z0, zn_0, zn_1, zn_2, zn_3, zn_4, zn_5, zn_8, zn_12, zn_24, zn_121, zn_144, zn_256, zn_300, zn_600, zn_720, zn_1204, zn_1280, zn_2400, zn_4816, zn_14400, zn_90000, h1]
      refine ⟨t, q, kd, sz, g, rfl, ⟨h1, h2, h3⟩, fun _ => ?_, fun h => absurd ((zK (K := ft_spans kd sz) (by omega) (n := i) (by omega)).2.1.mpr (by omega)) h⟩
      rw [lg_cmp_le]
      simp only [ft_next] at he
      unfold ft_all at hR
      rw [he] at hR
      refine ⟨fun h => ⟨by decide, ?_⟩, fun h => ⟨by decide, ?_⟩⟩
      · rw [zd_f (Int64.not_lt.mpr h)] at hR; exact hR
      · rw [zd_t (Int64.not_le.mp h)] at hR; exact hR
    | succ n ih =>
      intro i x hi he
      simp only [ft_next] at he
      have hf : zfte M t q kd sz g := ⟨h1, h2, h3⟩
      have hi31 : i < 2 ^ 31 := by omega
      refine s_FT_passesAll_6 hC hN _ _ _ _ _ ?_
      simp only [B_FT_passesAll_0, B_FT_passesAll_6, B_FT_passesAll_49, B_FT_passesAll_55, B_FT_passesAll_66, B_FT_passesAll_67, co_FT_passesAll, co_FT_spanEnd, co_FT_spanStart, co_FT_spans, i_ic, i_lc, i_nul, i_il, i_ll, i_al, i_is, i_as, i_ls, i_inc, i_iadd, i_isub, i_imul, i_iand, i_ior, i_ixor, i_idiv, i_irem, i_ishl, i_ishr, i_ladd, i_lsub, i_land, i_lor, i_i2l, i_lushr, i_lshl, i_lshr, i_lcmp, i_dup, i_pop, i_dx1, i_dup2, i_ifeq, i_ifne, i_iflt, i_ifge, i_ifgt, i_ifle, i_iceq, i_icne, i_iclt, i_icge, i_icgt, i_icle, i_ifn, i_gf, i_pf, i_ial, i_bal, i_lal, i_aal, i_ias, i_las, i_bas, i_aas, i_alen, i_newa, i_new, i_anew, i_cast, i_oi, i_call, i_callV, i_callV2, i_callI, i_iret, i_zret, i_lret, i_vret, i_aret, i_mmx, i_mmn, i_gsE, i_aceq, i_no, i_acq, i_sw, zsw, zlg, zls, znl, zfg, zcs, zsp, zrc, zisn, zft, zc1, zto, Value.category, List.set_cons_zero, List.set_cons_succ, List.length_cons, List.length_nil, Option.toList, List.append, List.nil_append, List.cons_append, true_and, and_true, Nat.add_zero, Nat.zero_le, Nat.zero_add, Nat.le_refl, Nat.reduceAdd, Nat.reduceLeDiff, co0, z0, zn_0, zn_1, zn_2, zn_3, zn_4, zn_5, zn_8, zn_12, zn_24, zn_121, zn_144, zn_256, zn_300, zn_600, zn_720, zn_1204, zn_1280, zn_2400, zn_4816, zn_14400, zn_90000, h1]
      refine ⟨t, q, kd, sz, g, rfl, hf, ?_⟩
      simp only [i_ic, i_lc, i_nul, i_il, i_ll, i_al, i_is, i_as, i_ls, i_inc, i_iadd, i_isub, i_imul, i_iand, i_ior, i_ixor, i_idiv, i_irem, i_ishl, i_ishr, i_ladd, i_lsub, i_land, i_lor, i_i2l, i_lushr, i_lshl, i_lshr, i_lcmp, i_dup, i_pop, i_dx1, i_dup2, i_ifeq, i_ifne, i_iflt, i_ifge, i_ifgt, i_ifle, i_iceq, i_icne, i_iclt, i_icge, i_icgt, i_icle, i_ifn, i_gf, i_pf, i_ial, i_bal, i_lal, i_aal, i_ias, i_las, i_bas, i_aas, i_alen, i_newa, i_new, i_anew, i_cast, i_oi, i_call, i_callV, i_callV2, i_callI, i_iret, i_zret, i_lret, i_vret, i_aret, i_mmx, i_mmn, i_gsE, i_aceq, i_no, i_acq, i_sw, zsw, zlg, zls, znl, zfg, zcs, zsp, zrc, zisn, zft, zc1, zto, Value.category, List.set_cons_zero, List.set_cons_succ, List.length_cons, List.length_nil, Option.toList, List.append, List.nil_append, List.cons_append, true_and, and_true, Nat.add_zero, Nat.zero_le, Nat.zero_add, Nat.le_refl, Nat.reduceAdd, Nat.reduceLeDiff, co0, z0, zn_0, zn_1, zn_2, zn_3, zn_4, zn_5, zn_8, zn_12, zn_24, zn_121, zn_144, zn_256, zn_300, zn_600, zn_720, zn_1204, zn_1280, zn_2400, zn_4816, zn_14400, zn_90000, h1]
      refine ⟨fun h => absurd ((zK (K := ft_spans kd sz) (by omega) (n := i) (by omega)).2.1.mp h) (by omega), fun _ => ⟨t, q, kd, sz, g, i, rfl, hi31, hf, ?_⟩⟩
      simp only [i_ic, i_lc, i_nul, i_il, i_ll, i_al, i_is, i_as, i_ls, i_inc, i_iadd, i_isub, i_imul, i_iand, i_ior, i_ixor, i_idiv, i_irem, i_ishl, i_ishr, i_ladd, i_lsub, i_land, i_lor, i_i2l, i_lushr, i_lshl, i_lshr, i_lcmp, i_dup, i_pop, i_dx1, i_dup2, i_ifeq, i_ifne, i_iflt, i_ifge, i_ifgt, i_ifle, i_iceq, i_icne, i_iclt, i_icge, i_icgt, i_icle, i_ifn, i_gf, i_pf, i_ial, i_bal, i_lal, i_aal, i_ias, i_las, i_bas, i_aas, i_alen, i_newa, i_new, i_anew, i_cast, i_oi, i_call, i_callV, i_callV2, i_callI, i_iret, i_zret, i_lret, i_vret, i_aret, i_mmx, i_mmn, i_gsE, i_aceq, i_no, i_acq, i_sw, zsw, zlg, zls, znl, zfg, zcs, zsp, zrc, zisn, zft, zc1, zto, Value.category, List.set_cons_zero, List.set_cons_succ, List.length_cons, List.length_nil, Option.toList, List.append, List.nil_append, List.cons_append, true_and, and_true, Nat.add_zero, Nat.zero_le, Nat.zero_add, Nat.le_refl, Nat.reduceAdd, Nat.reduceLeDiff, co0, z0, zn_0, zn_1, zn_2, zn_3, zn_4, zn_5, zn_8, zn_12, zn_24, zn_121, zn_144, zn_256, zn_300, zn_600, zn_720, zn_1204, zn_1280, zn_2400, zn_4816, zn_14400, zn_90000, h1]
      rw [lg_cmp_gt, nI_1]
      refine ⟨fun h => ?_, fun h => ⟨t, q, kd, sz, g, i, rfl, hi31, hf, ?_⟩⟩
      · rw [if_neg (fun z => absurd h (Int64.not_lt.mpr z.1))] at he
        exact ih (i + 1) x (by omega) he
      · simp only [i_ic, i_lc, i_nul, i_il, i_ll, i_al, i_is, i_as, i_ls, i_inc, i_iadd, i_isub, i_imul, i_iand, i_ior, i_ixor, i_idiv, i_irem, i_ishl, i_ishr, i_ladd, i_lsub, i_land, i_lor, i_i2l, i_lushr, i_lshl, i_lshr, i_lcmp, i_dup, i_pop, i_dx1, i_dup2, i_ifeq, i_ifne, i_iflt, i_ifge, i_ifgt, i_ifle, i_iceq, i_icne, i_iclt, i_icge, i_icgt, i_icle, i_ifn, i_gf, i_pf, i_ial, i_bal, i_lal, i_aal, i_ias, i_las, i_bas, i_aas, i_alen, i_newa, i_new, i_anew, i_cast, i_oi, i_call, i_callV, i_callV2, i_callI, i_iret, i_zret, i_lret, i_vret, i_aret, i_mmx, i_mmn, i_gsE, i_aceq, i_no, i_acq, i_sw, zsw, zlg, zls, znl, zfg, zcs, zsp, zrc, zisn, zft, zc1, zto, Value.category, List.set_cons_zero, List.set_cons_succ, List.length_cons, List.length_nil, Option.toList, List.append, List.nil_append, List.cons_append, true_and, and_true, Nat.add_zero, Nat.zero_le, Nat.zero_add, Nat.le_refl, Nat.reduceAdd, Nat.reduceLeDiff, co0, z0, zn_0, zn_1, zn_2, zn_3, zn_4, zn_5, zn_8, zn_12, zn_24, zn_121, zn_144, zn_256, zn_300, zn_600, zn_720, zn_1204, zn_1280, zn_2400, zn_4816, zn_14400, zn_90000, h1]
        rw [lg_cmp_gt]
        refine ⟨fun h' => ?_, fun h' => ⟨t, q, kd, sz, g, i, rfl, hi31, hf, ?_⟩⟩
        · rw [if_neg (fun z => absurd h' (Int64.not_lt.mpr z.2))] at he
          exact ih (i + 1) x (by omega) he
        · rw [if_pos ⟨Int64.not_lt.mp h, Int64.not_lt.mp h'⟩] at he
          exact ih (i + 1) _ (by omega) he
  refine s_FT_passesAll_0 hC hN _ _ _ _ _ ?_
  simp only [B_FT_passesAll_0, B_FT_passesAll_6, B_FT_passesAll_49, B_FT_passesAll_55, B_FT_passesAll_66, B_FT_passesAll_67, co_FT_passesAll, co_FT_spanEnd, co_FT_spanStart, co_FT_spans, i_ic, i_lc, i_nul, i_il, i_ll, i_al, i_is, i_as, i_ls, i_inc, i_iadd, i_isub, i_imul, i_iand, i_ior, i_ixor, i_idiv, i_irem, i_ishl, i_ishr, i_ladd, i_lsub, i_land, i_lor, i_i2l, i_lushr, i_lshl, i_lshr, i_lcmp, i_dup, i_pop, i_dx1, i_dup2, i_ifeq, i_ifne, i_iflt, i_ifge, i_ifgt, i_ifle, i_iceq, i_icne, i_iclt, i_icge, i_icgt, i_icle, i_ifn, i_gf, i_pf, i_ial, i_bal, i_lal, i_aal, i_ias, i_las, i_bas, i_aas, i_alen, i_newa, i_new, i_anew, i_cast, i_oi, i_call, i_callV, i_callV2, i_callI, i_iret, i_zret, i_lret, i_vret, i_aret, i_mmx, i_mmn, i_gsE, i_aceq, i_no, i_acq, i_sw, zsw, zlg, zls, znl, zfg, zcs, zsp, zrc, zisn, zft, zc1, zto, Value.category, List.set_cons_zero, List.set_cons_succ, List.length_cons, List.length_nil, Option.toList, List.append, List.nil_append, List.cons_append, true_and, and_true, Nat.add_zero, Nat.zero_le, Nat.zero_add, Nat.le_refl, Nat.reduceAdd, Nat.reduceLeDiff, co0, z0, zn_0, zn_1, zn_2, zn_3, zn_4, zn_5, zn_8, zn_12, zn_24, zn_121, zn_144, zn_256, zn_300, zn_600, zn_720, zn_1204, zn_1280, zn_2400, zn_4816, zn_14400, zn_90000]
  exact loop _ 0 a (Nat.zero_add _) rfl
noncomputable def ft_wide (kd : Int32) (sz : Nat) (g : Nat → Int32) (kd' : Int32) (sz' : Nat) (g' : Nat → Int32) : Bool := zd (∀ i, i < ft_spans kd' sz' → ft_all kd sz g (ft_lo kd' sz' g' i) (ft_hi kd' sz' g' i) = true)
def T_FT_isAsWideAs (As : List zAV) (M : zMp) (Rt : Option zAV → zMp → Prop) : Prop := ∃ t q kd sz g t' q' kd' sz' g', As = [.inr t, .inr t'] ∧ zfte M t q kd sz g ∧ zfte M t' q' kd' sz' g' ∧ Rt (some (.inl (.int (zb (ft_wide kd sz g kd' sz' g'))))) M
abbrev co_FT_isAsWideAs := co0
theorem dX0_isAsWideAs_0 : decode cX0_isAsWideAs 0 = .ok (.iconst 0, 1) := by decide +kernel
theorem dX0_isAsWideAs_1 : decode cX0_isAsWideAs 1 = .ok (.istore_n 2, 1) := by decide +kernel
theorem dX0_isAsWideAs_2 : decode cX0_isAsWideAs 2 = .ok (.iload_n 2, 1) := by decide +kernel
theorem dX0_isAsWideAs_3 : decode cX0_isAsWideAs 3 = .ok (.aload_n 1, 1) := by decide +kernel
theorem dX0_isAsWideAs_4 : decode cX0_isAsWideAs 4 = .ok (.invokevirtual 30, 3) := by decide +kernel
theorem dX0_isAsWideAs_7 : decode cX0_isAsWideAs 7 = .ok (.if_icmp .ge 28, 3) := by decide +kernel
theorem dX0_isAsWideAs_10 : decode cX0_isAsWideAs 10 = .ok (.aload_n 0, 1) := by decide +kernel
theorem dX0_isAsWideAs_11 : decode cX0_isAsWideAs 11 = .ok (.aload_n 1, 1) := by decide +kernel
theorem dX0_isAsWideAs_12 : decode cX0_isAsWideAs 12 = .ok (.iload_n 2, 1) := by decide +kernel
theorem dX0_isAsWideAs_13 : decode cX0_isAsWideAs 13 = .ok (.invokevirtual 34, 3) := by decide +kernel
theorem dX0_isAsWideAs_16 : decode cX0_isAsWideAs 16 = .ok (.aload_n 1, 1) := by decide +kernel
theorem dX0_isAsWideAs_17 : decode cX0_isAsWideAs 17 = .ok (.iload_n 2, 1) := by decide +kernel
theorem dX0_isAsWideAs_18 : decode cX0_isAsWideAs 18 = .ok (.invokevirtual 38, 3) := by decide +kernel
theorem dX0_isAsWideAs_21 : decode cX0_isAsWideAs 21 = .ok (.invokevirtual 41, 3) := by decide +kernel
theorem dX0_isAsWideAs_24 : decode cX0_isAsWideAs 24 = .ok (.ifCond .ne 5, 3) := by decide +kernel
theorem dX0_isAsWideAs_27 : decode cX0_isAsWideAs 27 = .ok (.iconst 0, 1) := by decide +kernel
theorem dX0_isAsWideAs_28 : decode cX0_isAsWideAs 28 = .ok (.ireturn, 1) := by decide +kernel
theorem dX0_isAsWideAs_29 : decode cX0_isAsWideAs 29 = .ok (.iinc 2 1, 3) := by decide +kernel
theorem dX0_isAsWideAs_32 : decode cX0_isAsWideAs 32 = .ok (.goto (-30), 3) := by decide +kernel
theorem dX0_isAsWideAs_35 : decode cX0_isAsWideAs 35 = .ok (.iconst 1, 1) := by decide +kernel
theorem dX0_isAsWideAs_36 : decode cX0_isAsWideAs 36 = .ok (.ireturn, 1) := by decide +kernel
def B_FT_isAsWideAs_35 (mc ms : Nat) (Rt : Option zAV → zMp → Prop) (g : Nat → zKT) : zKT :=
  (i_ic 1 (i_zret mc ms Rt))
set_option maxRecDepth 20000 in
theorem s_FT_isAsWideAs_35 {X : zMa} {mc ms : Nat} {Rt : Option zAV → zMp → Prop} (hC : zCx X RX0 cX0_isAsWideAs 3 69 mc ms (some .boolean) false Rt) (hN : zNL X = 3) : zLe (B_FT_isAsWideAs_35 mc ms Rt (zG X)) (zG X 35) :=
  (sd_iconst hC (by decide) dX0_isAsWideAs_35 ((sd_zret hC dX0_isAsWideAs_36)))
def B_FT_isAsWideAs_29 (mc ms : Nat) (Rt : Option zAV → zMp → Prop) (g : Nat → zKT) : zKT :=
  (i_inc 2 1 (g 2))
set_option maxRecDepth 20000 in
theorem s_FT_isAsWideAs_29 {X : zMa} {mc ms : Nat} {Rt : Option zAV → zMp → Prop} (hC : zCx X RX0 cX0_isAsWideAs 3 69 mc ms (some .boolean) false Rt) (hN : zNL X = 3) : zLe (B_FT_isAsWideAs_29 mc ms Rt (zG X)) (zG X 29) :=
  (sd_inc hC (by decide) (by rw [hN]; decide) dX0_isAsWideAs_29 ((sd_goto hC (tgt := 2) (by decide) dX0_isAsWideAs_32 (zLe_rfl))))
def B_FT_isAsWideAs_2 (mc ms : Nat) (Rt : Option zAV → zMp → Prop) (g : Nat → zKT) : zKT :=
  (i_il 2 (i_al 1 (i_callV mc ms 1 1 T_FT_spans co_FT_spans (i_icge (B_FT_isAsWideAs_35 mc ms Rt g) (i_al 0 (i_al 1 (i_il 2 (i_callV mc ms 1 2 T_FT_spanStart co_FT_spanStart (i_al 1 (i_il 2 (i_callV mc ms 1 2 T_FT_spanEnd co_FT_spanEnd (i_callV mc ms 1 3 T_FT_passesAll co_FT_passesAll (i_ifne (B_FT_isAsWideAs_29 mc ms Rt g) (i_ic 0 (i_zret mc ms Rt)))))))))))))))
set_option maxRecDepth 20000 in
theorem s_FT_isAsWideAs_2 {X : zMa} {mc ms : Nat} {Rt : Option zAV → zMp → Prop} (hC : zCx X RX0 cX0_isAsWideAs 3 69 mc ms (some .boolean) false Rt) (hN : zNL X = 3) : zLe (B_FT_isAsWideAs_2 mc ms Rt (zG X)) (zG X 2) :=
  (sd_il_n hC rfl dX0_isAsWideAs_2 ((sd_al_n hC rfl dX0_isAsWideAs_3 ((sd_cV hC c_FT_spans yv_FT_spans (ci := 1) rfl rfl ml_FT_30 (by decide) (by decide) dX0_isAsWideAs_4 ((sd_icge hC (tgt := 35) (by decide) dX0_isAsWideAs_7 (s_FT_isAsWideAs_35 hC hN) ((sd_al_n hC rfl dX0_isAsWideAs_10 ((sd_al_n hC rfl dX0_isAsWideAs_11 ((sd_il_n hC rfl dX0_isAsWideAs_12 ((sd_cV hC c_FT_spanStart yv_FT_spanStart (ci := 1) rfl rfl ml_FT_34 (by decide) (by decide) dX0_isAsWideAs_13 ((sd_al_n hC rfl dX0_isAsWideAs_16 ((sd_il_n hC rfl dX0_isAsWideAs_17 ((sd_cV hC c_FT_spanEnd yv_FT_spanEnd (ci := 1) rfl rfl ml_FT_38 (by decide) (by decide) dX0_isAsWideAs_18 ((sd_cV hC c_FT_passesAll yv_FT_passesAll (ci := 1) rfl rfl ml_FT_41 (by decide) (by decide) dX0_isAsWideAs_21 ((sd_ifne hC (tgt := 29) (by decide) dX0_isAsWideAs_24 (s_FT_isAsWideAs_29 hC hN) ((sd_iconst hC (by decide) dX0_isAsWideAs_27 ((sd_zret hC dX0_isAsWideAs_28)))))))))))))))))))))))))))))
def B_FT_isAsWideAs_0 (mc ms : Nat) (Rt : Option zAV → zMp → Prop) (g : Nat → zKT) : zKT :=
  (i_ic 0 (i_is 2 (g 2)))
set_option maxRecDepth 20000 in
theorem s_FT_isAsWideAs_0 {X : zMa} {mc ms : Nat} {Rt : Option zAV → zMp → Prop} (hC : zCx X RX0 cX0_isAsWideAs 3 69 mc ms (some .boolean) false Rt) (hN : zNL X = 3) : zLe (B_FT_isAsWideAs_0 mc ms Rt (zG X)) (zG X 0) :=
  (sd_iconst hC (by decide) dX0_isAsWideAs_0 ((sd_is_n hC rfl (by rw [hN]; decide) dX0_isAsWideAs_1 (zLe_rfl))))
theorem c_FT_isAsWideAs (l : Launch) : zCT l yX0_isAsWideAs cX0_isAsWideAs 3 (some .boolean) 3 69 T_FT_isAsWideAs co_FT_isAsWideAs := by
  intro As M Rt hT
  obtain ⟨t, q, kd, sz, g, t', q', kd', sz', g', rfl, hf, hf', hR⟩ := hT
  refine zMet_of false (by decide +kernel) (fun h => by first | rfl | cases h) (Nat.le_of_ble_eq_true rfl) (fun X hN hC => ?_)
  show zG X 0 [some (.inr t), some (.inr t'), none] [] M 0 0
  have hs := ft_spans_le (kd := kd') hf'.2.2
  have loop := upto (N := ft_spans kd' sz') (P := fun i => (∀ j, j < i → ft_all kd sz g (ft_lo kd' sz' g' j) (ft_hi kd' sz' g' j) = true) → zG X 2 [some (.inr t), some (.inr t'), some (.inl (.int (nI i)))] [] M 0 0) (fun i hi ih hp => by
    have hi31 : i < 2 ^ 31 := by omega
    refine s_FT_isAsWideAs_2 hC hN _ _ _ _ _ ?_
    simp only [B_FT_isAsWideAs_0, B_FT_isAsWideAs_2, B_FT_isAsWideAs_29, B_FT_isAsWideAs_35, co_FT_isAsWideAs, co_FT_passesAll, co_FT_spanEnd, co_FT_spanStart, co_FT_spans, i_ic, i_lc, i_nul, i_il, i_ll, i_al, i_is, i_as, i_ls, i_inc, i_iadd, i_isub, i_imul, i_iand, i_ior, i_ixor, i_idiv, i_irem, i_ishl, i_ishr, i_ladd, i_lsub, i_land, i_lor, i_i2l, i_lushr, i_lshl, i_lshr, i_lcmp, i_dup, i_pop, i_dx1, i_dup2, i_ifeq, i_ifne, i_iflt, i_ifge, i_ifgt, i_ifle, i_iceq, i_icne, i_iclt, i_icge, i_icgt, i_icle, i_ifn, i_gf, i_pf, i_ial, i_bal, i_lal, i_aal, i_ias, i_las, i_bas, i_aas, i_alen, i_newa, i_new, i_anew, i_cast, i_oi, i_call, i_callV, i_callV2, i_callI, i_iret, i_zret, i_lret, i_vret, i_aret, i_mmx, i_mmn, i_gsE, i_aceq, i_no, i_acq, i_sw, zsw, zlg, zls, znl, zfg, zcs, zsp, zrc, zisn, zft, zc1, zto, Value.category, List.set_cons_zero, List.set_cons_succ, List.length_cons, List.length_nil, Option.toList, List.append, List.nil_append, List.cons_append, true_and, and_true, Nat.add_zero, Nat.zero_le, Nat.zero_add, Nat.le_refl, Nat.reduceAdd, Nat.reduceLeDiff, co0, z0, zn_0, zn_1, zn_2, zn_3, zn_4, zn_5, zn_8, zn_12, zn_24, zn_121, zn_144, zn_256, zn_300, zn_600, zn_720, zn_1204, zn_1280, zn_2400, zn_4816, zn_14400, zn_90000, hf.1, hf'.1]
    refine ⟨t', q', kd', sz', g', rfl, hf', ?_⟩
    simp only [i_ic, i_lc, i_nul, i_il, i_ll, i_al, i_is, i_as, i_ls, i_inc, i_iadd, i_isub, i_imul, i_iand, i_ior, i_ixor, i_idiv, i_irem, i_ishl, i_ishr, i_ladd, i_lsub, i_land, i_lor, i_i2l, i_lushr, i_lshl, i_lshr, i_lcmp, i_dup, i_pop, i_dx1, i_dup2, i_ifeq, i_ifne, i_iflt, i_ifge, i_ifgt, i_ifle, i_iceq, i_icne, i_iclt, i_icge, i_icgt, i_icle, i_ifn, i_gf, i_pf, i_ial, i_bal, i_lal, i_aal, i_ias, i_las, i_bas, i_aas, i_alen, i_newa, i_new, i_anew, i_cast, i_oi, i_call, i_callV, i_callV2, i_callI, i_iret, i_zret, i_lret, i_vret, i_aret, i_mmx, i_mmn, i_gsE, i_aceq, i_no, i_acq, i_sw, zsw, zlg, zls, znl, zfg, zcs, zsp, zrc, zisn, zft, zc1, zto, Value.category, List.set_cons_zero, List.set_cons_succ, List.length_cons, List.length_nil, Option.toList, List.append, List.nil_append, List.cons_append, true_and, and_true, Nat.add_zero, Nat.zero_le, Nat.zero_add, Nat.le_refl, Nat.reduceAdd, Nat.reduceLeDiff, co0, z0, zn_0, zn_1, zn_2, zn_3, zn_4, zn_5, zn_8, zn_12, zn_24, zn_121, zn_144, zn_256, zn_300, zn_600, zn_720, zn_1204, zn_1280, zn_2400, zn_4816, zn_14400, zn_90000, hf.1, hf'.1]
    refine ⟨fun h => absurd ((zK (K := ft_spans kd' sz') (by omega) (n := i) (by omega)).2.1.mp h) (by omega), fun _ => ⟨t', q', kd', sz', g', i, rfl, hi31, hf', ?_⟩⟩
    simp only [i_ic, i_lc, i_nul, i_il, i_ll, i_al, i_is, i_as, i_ls, i_inc, i_iadd, i_isub, i_imul, i_iand, i_ior, i_ixor, i_idiv, i_irem, i_ishl, i_ishr, i_ladd, i_lsub, i_land, i_lor, i_i2l, i_lushr, i_lshl, i_lshr, i_lcmp, i_dup, i_pop, i_dx1, i_dup2, i_ifeq, i_ifne, i_iflt, i_ifge, i_ifgt, i_ifle, i_iceq, i_icne, i_iclt, i_icge, i_icgt, i_icle, i_ifn, i_gf, i_pf, i_ial, i_bal, i_lal, i_aal, i_ias, i_las, i_bas, i_aas, i_alen, i_newa, i_new, i_anew, i_cast, i_oi, i_call, i_callV, i_callV2, i_callI, i_iret, i_zret, i_lret, i_vret, i_aret, i_mmx, i_mmn, i_gsE, i_aceq, i_no, i_acq, i_sw, zsw, zlg, zls, znl, zfg, zcs, zsp, zrc, zisn, zft, zc1, zto, Value.category, List.set_cons_zero, List.set_cons_succ, List.length_cons, List.length_nil, Option.toList, List.append, List.nil_append, List.cons_append, true_and, and_true, Nat.add_zero, Nat.zero_le, Nat.zero_add, Nat.le_refl, Nat.reduceAdd, Nat.reduceLeDiff, co0, z0, zn_0, zn_1, zn_2, zn_3, zn_4, zn_5, zn_8, zn_12, zn_24, zn_121, zn_144, zn_256, zn_300, zn_600, zn_720, zn_1204, zn_1280, zn_2400, zn_4816, zn_14400, zn_90000, hf.1, hf'.1]
    refine ⟨t', q', kd', sz', g', i, rfl, hi31, hf', ?_⟩
    simp only [i_ic, i_lc, i_nul, i_il, i_ll, i_al, i_is, i_as, i_ls, i_inc, i_iadd, i_isub, i_imul, i_iand, i_ior, i_ixor, i_idiv, i_irem, i_ishl, i_ishr, i_ladd, i_lsub, i_land, i_lor, i_i2l, i_lushr, i_lshl, i_lshr, i_lcmp, i_dup, i_pop, i_dx1, i_dup2, i_ifeq, i_ifne, i_iflt, i_ifge, i_ifgt, i_ifle, i_iceq, i_icne, i_iclt, i_icge, i_icgt, i_icle, i_ifn, i_gf, i_pf, i_ial, i_bal, i_lal, i_aal, i_ias, i_las, i_bas, i_aas, i_alen, i_newa, i_new, i_anew, i_cast, i_oi, i_call, i_callV, i_callV2, i_callI, i_iret, i_zret, i_lret, i_vret, i_aret, i_mmx, i_mmn, i_gsE, i_aceq, i_no, i_acq, i_sw, zsw, zlg, zls, znl, zfg, zcs, zsp, zrc, zisn, zft, zc1, zto, Value.category, List.set_cons_zero, List.set_cons_succ, List.length_cons, List.length_nil, Option.toList, List.append, List.nil_append, List.cons_append, true_and, and_true, Nat.add_zero, Nat.zero_le, Nat.zero_add, Nat.le_refl, Nat.reduceAdd, Nat.reduceLeDiff, co0, z0, zn_0, zn_1, zn_2, zn_3, zn_4, zn_5, zn_8, zn_12, zn_24, zn_121, zn_144, zn_256, zn_300, zn_600, zn_720, zn_1204, zn_1280, zn_2400, zn_4816, zn_14400, zn_90000, hf.1, hf'.1]
    refine ⟨t, q, kd, sz, g, _, _, rfl, hf, fun h => ?_, fun h => ⟨by decide, ?_⟩⟩
    · rw [nI_1]
      exact ih (lt_s hp (by cases hb : ft_all kd sz g (ft_lo kd' sz' g' i) (ft_hi kd' sz' g' i) with
        | true => rfl
        | false => exact absurd (zb_0.mpr hb) h))
    · have : ft_wide kd sz g kd' sz' g' = false := zd_f (fun z => by rw [z i hi] at h; exact absurd h (by decide))
      rw [this] at hR
      exact hR) (fun hp => by
    refine s_FT_isAsWideAs_2 hC hN _ _ _ _ _ ?_
    simp only [B_FT_isAsWideAs_0, B_FT_isAsWideAs_2, B_FT_isAsWideAs_29, B_FT_isAsWideAs_35, co_FT_isAsWideAs, co_FT_passesAll, co_FT_spanEnd, co_FT_spanStart, co_FT_spans, i_ic, i_lc, i_nul, i_il, i_ll, i_al, i_is, i_as, i_ls, i_inc, i_iadd, i_isub, i_imul, i_iand, i_ior, i_ixor, i_idiv, i_irem, i_ishl, i_ishr, i_ladd, i_lsub, i_land, i_lor, i_i2l, i_lushr, i_lshl, i_lshr, i_lcmp, i_dup, i_pop, i_dx1, i_dup2, i_ifeq, i_ifne, i_iflt, i_ifge, i_ifgt, i_ifle, i_iceq, i_icne, i_iclt, i_icge, i_icgt, i_icle, i_ifn, i_gf, i_pf, i_ial, i_bal, i_lal, i_aal, i_ias, i_las, i_bas, i_aas, i_alen, i_newa, i_new, i_anew, i_cast, i_oi, i_call, i_callV, i_callV2, i_callI, i_iret, i_zret, i_lret, i_vret, i_aret, i_mmx, i_mmn, i_gsE, i_aceq, i_no, i_acq, i_sw, zsw, zlg, zls, znl, zfg, zcs, zsp, zrc, zisn, zft, zc1, zto, Value.category, List.set_cons_zero, List.set_cons_succ, List.length_cons, List.length_nil, Option.toList, List.append, List.nil_append, List.cons_append, true_and, and_true, Nat.add_zero, Nat.zero_le, Nat.zero_add, Nat.le_refl, Nat.reduceAdd, Nat.reduceLeDiff, co0, z0, zn_0, zn_1, zn_2, zn_3, zn_4, zn_5, zn_8, zn_12, zn_24, zn_121, zn_144, zn_256, zn_300, zn_600, zn_720, zn_1204, zn_1280, zn_2400, zn_4816, zn_14400, zn_90000, hf.1, hf'.1]
    refine ⟨t', q', kd', sz', g', rfl, hf', fun _ => ⟨by decide, ?_⟩, fun h => absurd ((zK (K := ft_spans kd' sz') (by omega) (n := ft_spans kd' sz') (by omega)).2.1.mpr (Nat.le_refl _)) h⟩
    have : ft_wide kd sz g kd' sz' g' = true := zd_t hp
    rw [this] at hR
    exact hR) 0 (Nat.zero_le _)
  refine s_FT_isAsWideAs_0 hC hN _ _ _ _ _ ?_
  simp only [B_FT_isAsWideAs_0, B_FT_isAsWideAs_2, B_FT_isAsWideAs_29, B_FT_isAsWideAs_35, co_FT_isAsWideAs, co_FT_passesAll, co_FT_spanEnd, co_FT_spanStart, co_FT_spans, i_ic, i_lc, i_nul, i_il, i_ll, i_al, i_is, i_as, i_ls, i_inc, i_iadd, i_isub, i_imul, i_iand, i_ior, i_ixor, i_idiv, i_irem, i_ishl, i_ishr, i_ladd, i_lsub, i_land, i_lor, i_i2l, i_lushr, i_lshl, i_lshr, i_lcmp, i_dup, i_pop, i_dx1, i_dup2, i_ifeq, i_ifne, i_iflt, i_ifge, i_ifgt, i_ifle, i_iceq, i_icne, i_iclt, i_icge, i_icgt, i_icle, i_ifn, i_gf, i_pf, i_ial, i_bal, i_lal, i_aal, i_ias, i_las, i_bas, i_aas, i_alen, i_newa, i_new, i_anew, i_cast, i_oi, i_call, i_callV, i_callV2, i_callI, i_iret, i_zret, i_lret, i_vret, i_aret, i_mmx, i_mmn, i_gsE, i_aceq, i_no, i_acq, i_sw, zsw, zlg, zls, znl, zfg, zcs, zsp, zrc, zisn, zft, zc1, zto, Value.category, List.set_cons_zero, List.set_cons_succ, List.length_cons, List.length_nil, Option.toList, List.append, List.nil_append, List.cons_append, true_and, and_true, Nat.add_zero, Nat.zero_le, Nat.zero_add, Nat.le_refl, Nat.reduceAdd, Nat.reduceLeDiff, co0, z0, zn_0, zn_1, zn_2, zn_3, zn_4, zn_5, zn_8, zn_12, zn_24, zn_121, zn_144, zn_256, zn_300, zn_600, zn_720, zn_1204, zn_1280, zn_2400, zn_4816, zn_14400, zn_90000]
  exact loop (fun j hj => absurd hj (Nat.not_lt_zero j))
