/-! WishRoutes: notice, look, test, among, fits -/
noncomputable def x_ntq (x : zSt) (k : Nat) (w : Int32) : Int32 := if isn 4 w = true then x_nf x k w.toNatClampNeg else if w = 4 then x_nd x k else if w = 5 then x_nm x k else 0
def T_WR_notice (As : List zAV) (M : zMp) (Rt : Option zAV → zMp → Prop) : Prop := ∃ x k w, As = [.inr (0, 0, 0), .inl (.int k), .inl (.int w)] ∧ M = pic x ∧ Iv x ∧ (isn (x_nn x) k = false → Rt (some (.inl (.int 0))) M) ∧ (∀ i, i < x_nn x → k = nI i → Rt (some (.inl (.int (x_ntq x i w)))) M)
abbrev co_WR_notice := co0
theorem dX6_notice_0 : decode cX6_notice 0 = .ok (.aload_n 0, 1) := by decide +kernel
theorem dX6_notice_1 : decode cX6_notice 1 = .ok (.iload_n 1, 1) := by decide +kernel
theorem dX6_notice_2 : decode cX6_notice 2 = .ok (.invokevirtual 197, 3) := by decide +kernel
theorem dX6_notice_5 : decode cX6_notice 5 = .ok (.astore_n 3, 1) := by decide +kernel
theorem dX6_notice_6 : decode cX6_notice 6 = .ok (.aload_n 3, 1) := by decide +kernel
theorem dX6_notice_7 : decode cX6_notice 7 = .ok (.ifnonnull 5, 3) := by decide +kernel
theorem dX6_notice_10 : decode cX6_notice 10 = .ok (.iconst 0, 1) := by decide +kernel
theorem dX6_notice_11 : decode cX6_notice 11 = .ok (.ireturn, 1) := by decide +kernel
theorem dX6_notice_12 : decode cX6_notice 12 = .ok (.iload_n 2, 1) := by decide +kernel
theorem dX6_notice_13 : decode cX6_notice 13 = .ok (.invokestatic 115, 3) := by decide +kernel
theorem dX6_notice_16 : decode cX6_notice 16 = .ok (.ifCond .eq 10, 3) := by decide +kernel
theorem dX6_notice_19 : decode cX6_notice 19 = .ok (.aload_n 3, 1) := by decide +kernel
theorem dX6_notice_20 : decode cX6_notice 20 = .ok (.getfield 201, 3) := by decide +kernel
theorem dX6_notice_23 : decode cX6_notice 23 = .ok (.iload_n 2, 1) := by decide +kernel
theorem dX6_notice_24 : decode cX6_notice 24 = .ok (.iaload, 1) := by decide +kernel
theorem dX6_notice_25 : decode cX6_notice 25 = .ok (.ireturn, 1) := by decide +kernel
theorem dX6_notice_26 : decode cX6_notice 26 = .ok (.iload_n 2, 1) := by decide +kernel
theorem dX6_notice_27 : decode cX6_notice 27 = .ok (.lookupswitch 35 #[(4, 25), (5, 30)], 25) := by decide +kernel
theorem dX6_notice_52 : decode cX6_notice 52 = .ok (.aload_n 3, 1) := by decide +kernel
theorem dX6_notice_53 : decode cX6_notice 53 = .ok (.getfield 204, 3) := by decide +kernel
theorem dX6_notice_56 : decode cX6_notice 56 = .ok (.ireturn, 1) := by decide +kernel
theorem dX6_notice_57 : decode cX6_notice 57 = .ok (.aload_n 3, 1) := by decide +kernel
theorem dX6_notice_58 : decode cX6_notice 58 = .ok (.getfield 205, 3) := by decide +kernel
theorem dX6_notice_61 : decode cX6_notice 61 = .ok (.ireturn, 1) := by decide +kernel
theorem dX6_notice_62 : decode cX6_notice 62 = .ok (.iconst 0, 1) := by decide +kernel
theorem dX6_notice_63 : decode cX6_notice 63 = .ok (.ireturn, 1) := by decide +kernel
def B_WR_notice_62 (mc ms : Nat) (Rt : Option zAV → zMp → Prop) (g : Nat → zKT) : zKT :=
  (i_ic 0 (i_iret mc ms Rt))
set_option maxRecDepth 20000 in
theorem s_WR_notice_62 {X : zMa} {mc ms : Nat} {Rt : Option zAV → zMp → Prop} (hC : zCx X RX6 cX6_notice 4 85 mc ms (some .int) false Rt) (hN : zNL X = 4) : zLe (B_WR_notice_62 mc ms Rt (zG X)) (zG X 62) :=
  (sd_iconst hC (by decide) dX6_notice_62 ((sd_iret hC dX6_notice_63)))
def B_WR_notice_57 (mc ms : Nat) (Rt : Option zAV → zMp → Prop) (g : Nat → zKT) : zKT :=
  (i_al 3 (i_gf 3 3 (i_iret mc ms Rt)))
set_option maxRecDepth 20000 in
theorem s_WR_notice_57 {X : zMa} {mc ms : Nat} {Rt : Option zAV → zMp → Prop} (hC : zCx X RX6 cX6_notice 4 85 mc ms (some .int) false Rt) (hN : zNL X = 4) : zLe (B_WR_notice_57 mc ms Rt (zG X)) (zG X 57) :=
  (sd_al_n hC rfl dX6_notice_57 ((sd_gf hC (ci := 3) (fk := 3) rfl wi_Not (by decide) fl_WR_205 (Or.inl rfl) dX6_notice_58 ((sd_iret hC dX6_notice_61)))))
def B_WR_notice_52 (mc ms : Nat) (Rt : Option zAV → zMp → Prop) (g : Nat → zKT) : zKT :=
  (i_al 3 (i_gf 3 1 (i_iret mc ms Rt)))
set_option maxRecDepth 20000 in
theorem s_WR_notice_52 {X : zMa} {mc ms : Nat} {Rt : Option zAV → zMp → Prop} (hC : zCx X RX6 cX6_notice 4 85 mc ms (some .int) false Rt) (hN : zNL X = 4) : zLe (B_WR_notice_52 mc ms Rt (zG X)) (zG X 52) :=
  (sd_al_n hC rfl dX6_notice_52 ((sd_gf hC (ci := 3) (fk := 1) rfl wi_Not (by decide) fl_WR_204 (Or.inl rfl) dX6_notice_53 ((sd_iret hC dX6_notice_56)))))
def B_WR_notice_26 (mc ms : Nat) (Rt : Option zAV → zMp → Prop) (g : Nat → zKT) : zKT :=
  (i_il 2 (i_sw [(4, (B_WR_notice_52 mc ms Rt g)), (5, (B_WR_notice_57 mc ms Rt g))] (B_WR_notice_62 mc ms Rt g)))
set_option maxRecDepth 20000 in
theorem s_WR_notice_26 {X : zMa} {mc ms : Nat} {Rt : Option zAV → zMp → Prop} (hC : zCx X RX6 cX6_notice 4 85 mc ms (some .int) false Rt) (hN : zNL X = 4) : zLe (B_WR_notice_26 mc ms Rt (zG X)) (zG X 26) :=
  (sd_il_n hC rfl dX6_notice_26 ((sd_lsw hC dX6_notice_27 (by decide) (s_WR_notice_62 hC hN) [52, 57] rfl (by intro q hq; simp only [List.zip_cons_cons, List.zip_nil_right, List.mem_cons, List.not_mem_nil, or_false] at hq; rcases hq with rfl | rfl; exact ⟨(show zjL 27 35 #[(4, 25), (5, 30)] 4 52 from by unfold zjL; decide), s_WR_notice_52 hC hN⟩; exact ⟨(show zjL 27 35 #[(4, 25), (5, 30)] 5 57 from by unfold zjL; decide), s_WR_notice_57 hC hN⟩) (by intro x hx; simp only [List.forall_mem_cons, List.not_mem_nil, false_imp_iff, implies_true, and_true] at hx; obtain ⟨n0, n1⟩ := hx; unfold zjL; rw [lv_osw n0 (by decide), lv_osw n1 (by decide)]; show ((27 : Nat) : Int) + 35 = (62 : Nat); decide))))
def B_WR_notice_12 (mc ms : Nat) (Rt : Option zAV → zMp → Prop) (g : Nat → zKT) : zKT :=
  (i_il 2 (i_call mc ms 1 T_WR_isField co_WR_isField (i_ifeq (B_WR_notice_26 mc ms Rt g) (i_al 3 (i_gf 3 2 (i_il 2 (i_ial (i_iret mc ms Rt))))))))
set_option maxRecDepth 20000 in
theorem s_WR_notice_12 {X : zMa} {mc ms : Nat} {Rt : Option zAV → zMp → Prop} (hC : zCx X RX6 cX6_notice 4 85 mc ms (some .int) false Rt) (hN : zNL X = 4) : zLe (B_WR_notice_12 mc ms Rt (zG X)) (zG X 12) :=
  (sd_il_n hC rfl dX6_notice_12 ((sd_cS hC c_WR_isField ys_WR_isField ml_WR_115 (by decide) (by decide) dX6_notice_13 ((sd_ifeq hC (tgt := 26) (by decide) dX6_notice_16 (s_WR_notice_26 hC hN) ((sd_al_n hC rfl dX6_notice_19 ((sd_gf hC (ci := 3) (fk := 2) rfl wi_Not (by decide) fl_WR_201 (Or.inl rfl) dX6_notice_20 ((sd_il_n hC rfl dX6_notice_23 ((sd_ial hC dX6_notice_24 ((sd_iret hC dX6_notice_25)))))))))))))))
def B_WR_notice_0 (mc ms : Nat) (Rt : Option zAV → zMp → Prop) (g : Nat → zKT) : zKT :=
  (i_al 0 (i_il 1 (i_callV mc ms 7 2 T_WR_findNotice co_WR_findNotice (i_as 3 (i_al 3 (i_ifn (i_ic 0 (i_iret mc ms Rt)) (B_WR_notice_12 mc ms Rt g)))))))
set_option maxRecDepth 20000 in
theorem s_WR_notice_0 {X : zMa} {mc ms : Nat} {Rt : Option zAV → zMp → Prop} (hC : zCx X RX6 cX6_notice 4 85 mc ms (some .int) false Rt) (hN : zNL X = 4) : zLe (B_WR_notice_0 mc ms Rt (zG X)) (zG X 0) :=
  (sd_al_n hC rfl dX6_notice_0 ((sd_il_n hC rfl dX6_notice_1 ((sd_cV hC c_WR_findNotice yv_WR_findNotice (ci := 7) rfl rfl ml_WR_197 (by decide) (by decide) dX6_notice_2 ((sd_as_n hC rfl (by rw [hN]; decide) dX6_notice_5 ((sd_al_n hC rfl dX6_notice_6 ((sd_ifnonnull hC (tgt := 12) (by decide) dX6_notice_7 (s_WR_notice_12 hC hN) ((sd_iconst hC (by decide) dX6_notice_10 ((sd_iret hC dX6_notice_11)))))))))))))))
theorem c_WR_notice (l : Launch) : zCT l yX6_notice cX6_notice 4 (some .int) 4 85 T_WR_notice co_WR_notice := by
  intro As M Rt hT
  obtain ⟨x, k, w, rfl, rfl, hI, hR0, hR1⟩ := hT
  refine zMet_of false (by decide +kernel) (fun h => by first | rfl | cases h) (Nat.le_of_ble_eq_true rfl) (fun X hN hC => ?_)
  show zG X 0 [some (.inr (0, 0, 0)), some (.inl (.int k)), some (.inl (.int w)), none] [] (pic x) 0 0
  refine s_WR_notice_0 hC hN _ _ _ _ _ ?_
  simp only [B_WR_notice_0, B_WR_notice_12, B_WR_notice_26, B_WR_notice_52, B_WR_notice_57, B_WR_notice_62, co_WR_findNotice, co_WR_isField, co_WR_notice, i_ic, i_lc, i_nul, i_il, i_ll, i_al, i_is, i_as, i_ls, i_inc, i_iadd, i_isub, i_imul, i_iand, i_ior, i_ixor, i_idiv, i_irem, i_ishl, i_ishr, i_ladd, i_lsub, i_land, i_lor, i_i2l, i_lushr, i_lshl, i_lshr, i_lcmp, i_dup, i_pop, i_dx1, i_dup2, i_ifeq, i_ifne, i_iflt, i_ifge, i_ifgt, i_ifle, i_iceq, i_icne, i_iclt, i_icge, i_icgt, i_icle, i_ifn, i_gf, i_pf, i_ial, i_bal, i_lal, i_aal, i_ias, i_las, i_bas, i_aas, i_alen, i_newa, i_new, i_anew, i_cast, i_oi, i_call, i_callV, i_callV2, i_callI, i_iret, i_zret, i_lret, i_vret, i_aret, i_mmx, i_mmn, i_gsE, i_aceq, i_no, i_acq, i_sw, zsw, zlg, zls, znl, zfg, zcs, zsp, zrc, zisn, zft, zc1, zto, Value.category, List.set_cons_zero, List.set_cons_succ, List.length_cons, List.length_nil, Option.toList, List.append, List.nil_append, List.cons_append, true_and, and_true, Nat.add_zero, Nat.zero_le, Nat.zero_add, Nat.le_refl, Nat.reduceAdd, Nat.reduceLeDiff, co0, z0, zn_0, zn_1, zn_2, zn_3, zn_4, zn_5, zn_8, zn_12, zn_24, zn_121, zn_144, zn_256, zn_300, zn_600, zn_720, zn_1204, zn_1280, zn_2400, zn_4816, zn_14400, zn_90000, p_main, x_main]
  refine ⟨x, k, rfl, rfl, hI, ?_⟩
  rcases fnd_c (K := 12) (n := x_nn x) (by have := hI.lim; omega) k with ⟨e, e2⟩ | ⟨i, hi, rfl, e, -⟩
  · rw [e]
    simp only [zov, i_ic, i_lc, i_nul, i_il, i_ll, i_al, i_is, i_as, i_ls, i_inc, i_iadd, i_isub, i_imul, i_iand, i_ior, i_ixor, i_idiv, i_irem, i_ishl, i_ishr, i_ladd, i_lsub, i_land, i_lor, i_i2l, i_lushr, i_lshl, i_lshr, i_lcmp, i_dup, i_pop, i_dx1, i_dup2, i_ifeq, i_ifne, i_iflt, i_ifge, i_ifgt, i_ifle, i_iceq, i_icne, i_iclt, i_icge, i_icgt, i_icle, i_ifn, i_gf, i_pf, i_ial, i_bal, i_lal, i_aal, i_ias, i_las, i_bas, i_aas, i_alen, i_newa, i_new, i_anew, i_cast, i_oi, i_call, i_callV, i_callV2, i_callI, i_iret, i_zret, i_lret, i_vret, i_aret, i_mmx, i_mmn, i_gsE, i_aceq, i_no, i_acq, i_sw, zsw, zlg, zls, znl, zfg, zcs, zsp, zrc, zisn, zft, zc1, zto, Value.category, List.set_cons_zero, List.set_cons_succ, List.length_cons, List.length_nil, Option.toList, List.append, List.nil_append, List.cons_append, true_and, and_true, Nat.add_zero, Nat.zero_le, Nat.zero_add, Nat.le_refl, Nat.reduceAdd, Nat.reduceLeDiff, co0, z0, zn_0, zn_1, zn_2, zn_3, zn_4, zn_5, zn_8, zn_12, zn_24, zn_121, zn_144, zn_256, zn_300, zn_600, zn_720, zn_1204, zn_1280, zn_2400, zn_4816, zn_14400, zn_90000]
    exact hR0 e2
  · rw [e]
    have hi' : i < x_on x := Nat.lt_of_lt_of_le hi hI.cnt.2.2
    have hR := hR1 i hi rfl
    simp only [zov, i_ic, i_lc, i_nul, i_il, i_ll, i_al, i_is, i_as, i_ls, i_inc, i_iadd, i_isub, i_imul, i_iand, i_ior, i_ixor, i_idiv, i_irem, i_ishl, i_ishr, i_ladd, i_lsub, i_land, i_lor, i_i2l, i_lushr, i_lshl, i_lshr, i_lcmp, i_dup, i_pop, i_dx1, i_dup2, i_ifeq, i_ifne, i_iflt, i_ifge, i_ifgt, i_ifle, i_iceq, i_icne, i_iclt, i_icge, i_icgt, i_icle, i_ifn, i_gf, i_pf, i_ial, i_bal, i_lal, i_aal, i_ias, i_las, i_bas, i_aas, i_alen, i_newa, i_new, i_anew, i_cast, i_oi, i_call, i_callV, i_callV2, i_callI, i_iret, i_zret, i_lret, i_vret, i_aret, i_mmx, i_mmn, i_gsE, i_aceq, i_no, i_acq, i_sw, zsw, zlg, zls, znl, zfg, zcs, zsp, zrc, zisn, zft, zc1, zto, Value.category, List.set_cons_zero, List.set_cons_succ, List.length_cons, List.length_nil, Option.toList, List.append, List.nil_append, List.cons_append, true_and, and_true, Nat.add_zero, Nat.zero_le, Nat.zero_add, Nat.le_refl, Nat.reduceAdd, Nat.reduceLeDiff, co0, z0, zn_0, zn_1, zn_2, zn_3, zn_4, zn_5, zn_8, zn_12, zn_24, zn_121, zn_144, zn_256, zn_300, zn_600, zn_720, zn_1204, zn_1280, zn_2400, zn_4816, zn_14400, zn_90000]
    refine ⟨w, rfl, ?_⟩
    cases hw : isn 4 w with
    | true =>
      obtain ⟨b, hb, rfl⟩ := isn_t (by decide) hw
      simp only [p_ntc hi', x_ntc, p_nf hi', i_ic, i_lc, i_nul, i_il, i_ll, i_al, i_is, i_as, i_ls, i_inc, i_iadd, i_isub, i_imul, i_iand, i_ior, i_ixor, i_idiv, i_irem, i_ishl, i_ishr, i_ladd, i_lsub, i_land, i_lor, i_i2l, i_lushr, i_lshl, i_lshr, i_lcmp, i_dup, i_pop, i_dx1, i_dup2, i_ifeq, i_ifne, i_iflt, i_ifge, i_ifgt, i_ifle, i_iceq, i_icne, i_iclt, i_icge, i_icgt, i_icle, i_ifn, i_gf, i_pf, i_ial, i_bal, i_lal, i_aal, i_ias, i_las, i_bas, i_aas, i_alen, i_newa, i_new, i_anew, i_cast, i_oi, i_call, i_callV, i_callV2, i_callI, i_iret, i_zret, i_lret, i_vret, i_aret, i_mmx, i_mmn, i_gsE, i_aceq, i_no, i_acq, i_sw, zsw, zlg, zls, znl, zfg, zcs, zsp, zrc, zisn, zft, zc1, zto, Value.category, List.set_cons_zero, List.set_cons_succ, List.length_cons, List.length_nil, Option.toList, List.append, List.nil_append, List.cons_append, true_and, and_true, Nat.add_zero, Nat.zero_le, Nat.zero_add, Nat.le_refl, Nat.reduceAdd, Nat.reduceLeDiff, co0, z0, zn_0, zn_1, zn_2, zn_3, zn_4, zn_5, zn_8, zn_12, zn_24, zn_121, zn_144, zn_256, zn_300, zn_600, zn_720, zn_1204, zn_1280, zn_2400, zn_4816, zn_14400, zn_90000]
      refine ⟨fun h => absurd h (by decide), fun _ => ⟨vp_in_nI hb (by decide), ?_⟩⟩
      rw [x_ntq, if_pos hw] at hR
      exact hR
    | false =>
      simp only [p_ntc hi', x_ntc, i_ic, i_lc, i_nul, i_il, i_ll, i_al, i_is, i_as, i_ls, i_inc, i_iadd, i_isub, i_imul, i_iand, i_ior, i_ixor, i_idiv, i_irem, i_ishl, i_ishr, i_ladd, i_lsub, i_land, i_lor, i_i2l, i_lushr, i_lshl, i_lshr, i_lcmp, i_dup, i_pop, i_dx1, i_dup2, i_ifeq, i_ifne, i_iflt, i_ifge, i_ifgt, i_ifle, i_iceq, i_icne, i_iclt, i_icge, i_icgt, i_icle, i_ifn, i_gf, i_pf, i_ial, i_bal, i_lal, i_aal, i_ias, i_las, i_bas, i_aas, i_alen, i_newa, i_new, i_anew, i_cast, i_oi, i_call, i_callV, i_callV2, i_callI, i_iret, i_zret, i_lret, i_vret, i_aret, i_mmx, i_mmn, i_gsE, i_aceq, i_no, i_acq, i_sw, zsw, zlg, zls, znl, zfg, zcs, zsp, zrc, zisn, zft, zc1, zto, Value.category, List.set_cons_zero, List.set_cons_succ, List.length_cons, List.length_nil, Option.toList, List.append, List.nil_append, List.cons_append, true_and, and_true, Nat.add_zero, Nat.zero_le, Nat.zero_add, Nat.le_refl, Nat.reduceAdd, Nat.reduceLeDiff, co0, z0, zn_0, zn_1, zn_2, zn_3, zn_4, zn_5, zn_8, zn_12, zn_24, zn_121, zn_144, zn_256, zn_300, zn_600, zn_720, zn_1204, zn_1280, zn_2400, zn_4816, zn_14400, zn_90000]
      refine ⟨fun _ => ⟨fun h => ?_, fun n4 => ⟨fun h => ?_, fun n5 => ?_⟩⟩, fun h => absurd rfl h⟩
      all_goals (rw [x_ntq, if_neg (by rw [hw]; decide)] at hR; simp only [*, if_true, if_false] at hR; exact hR)
noncomputable def x_lkq (x : zSt) (w : Nat) (q : Int32) : Int32 := if q = 0 then nI (x_wr x w) else if q = 1 then zb (x_wa x w) else if ¬ q < 2 ∧ q < 6 then x_fk x w (q - 2).toNatClampNeg else if ¬ q < 10 ∧ q < 26 then ft_at (x_fz x w ((q - 10).toNatClampNeg / 4)) (x_fg x w ((q - 10).toNatClampNeg / 4)) ((q - 10).toNatClampNeg % 4) else 0
def T_WR_look (As : List zAV) (M : zMp) (Rt : Option zAV → zMp → Prop) : Prop := ∃ x k q, As = [.inr (0, 0, 0), .inl (.int k), .inl (.int q)] ∧ M = pic x ∧ Iv x ∧ (isn (x_nw x) k = false → Rt (some (.inl (.int 0))) M) ∧ (∀ i, i < x_nw x → k = nI i → Rt (some (.inl (.int (x_lkq x i q)))) M)
abbrev co_WR_look := co0
theorem dX6_look_0 : decode cX6_look 0 = .ok (.aload_n 0, 1) := by decide +kernel
theorem dX6_look_1 : decode cX6_look 1 = .ok (.iload_n 1, 1) := by decide +kernel
theorem dX6_look_2 : decode cX6_look 2 = .ok (.invokevirtual 136, 3) := by decide +kernel
theorem dX6_look_5 : decode cX6_look 5 = .ok (.astore_n 3, 1) := by decide +kernel
theorem dX6_look_6 : decode cX6_look 6 = .ok (.aload_n 3, 1) := by decide +kernel
theorem dX6_look_7 : decode cX6_look 7 = .ok (.ifnonnull 5, 3) := by decide +kernel
theorem dX6_look_10 : decode cX6_look 10 = .ok (.iconst 0, 1) := by decide +kernel
theorem dX6_look_11 : decode cX6_look 11 = .ok (.ireturn, 1) := by decide +kernel
theorem dX6_look_12 : decode cX6_look 12 = .ok (.iload_n 2, 1) := by decide +kernel
theorem dX6_look_13 : decode cX6_look 13 = .ok (.ifCond .ne 8, 3) := by decide +kernel
theorem dX6_look_16 : decode cX6_look 16 = .ok (.aload_n 3, 1) := by decide +kernel
theorem dX6_look_17 : decode cX6_look 17 = .ok (.getfield 208, 3) := by decide +kernel
theorem dX6_look_20 : decode cX6_look 20 = .ok (.ireturn, 1) := by decide +kernel
theorem dX6_look_21 : decode cX6_look 21 = .ok (.iload_n 2, 1) := by decide +kernel
theorem dX6_look_22 : decode cX6_look 22 = .ok (.iconst 1, 1) := by decide +kernel
theorem dX6_look_23 : decode cX6_look 23 = .ok (.if_icmp .ne 16, 3) := by decide +kernel
theorem dX6_look_26 : decode cX6_look 26 = .ok (.aload_n 3, 1) := by decide +kernel
theorem dX6_look_27 : decode cX6_look 27 = .ok (.getfield 140, 3) := by decide +kernel
theorem dX6_look_30 : decode cX6_look 30 = .ok (.ifCond .eq 7, 3) := by decide +kernel
theorem dX6_look_33 : decode cX6_look 33 = .ok (.iconst 1, 1) := by decide +kernel
theorem dX6_look_34 : decode cX6_look 34 = .ok (.goto 4, 3) := by decide +kernel
theorem dX6_look_37 : decode cX6_look 37 = .ok (.iconst 0, 1) := by decide +kernel
theorem dX6_look_38 : decode cX6_look 38 = .ok (.ireturn, 1) := by decide +kernel
theorem dX6_look_39 : decode cX6_look 39 = .ok (.iload_n 2, 1) := by decide +kernel
theorem dX6_look_40 : decode cX6_look 40 = .ok (.iconst 2, 1) := by decide +kernel
theorem dX6_look_41 : decode cX6_look 41 = .ok (.if_icmp .lt 21, 3) := by decide +kernel
theorem dX6_look_44 : decode cX6_look 44 = .ok (.iload_n 2, 1) := by decide +kernel
theorem dX6_look_45 : decode cX6_look 45 = .ok (.bipush 6, 2) := by decide +kernel
theorem dX6_look_47 : decode cX6_look 47 = .ok (.if_icmp .ge 15, 3) := by decide +kernel
theorem dX6_look_50 : decode cX6_look 50 = .ok (.aload_n 3, 1) := by decide +kernel
theorem dX6_look_51 : decode cX6_look 51 = .ok (.getfield 211, 3) := by decide +kernel
theorem dX6_look_54 : decode cX6_look 54 = .ok (.iload_n 2, 1) := by decide +kernel
theorem dX6_look_55 : decode cX6_look 55 = .ok (.iconst 2, 1) := by decide +kernel
theorem dX6_look_56 : decode cX6_look 56 = .ok (.isub, 1) := by decide +kernel
theorem dX6_look_57 : decode cX6_look 57 = .ok (.aaload, 1) := by decide +kernel
theorem dX6_look_58 : decode cX6_look 58 = .ok (.getfield 214, 3) := by decide +kernel
theorem dX6_look_61 : decode cX6_look 61 = .ok (.ireturn, 1) := by decide +kernel
theorem dX6_look_62 : decode cX6_look 62 = .ok (.iload_n 2, 1) := by decide +kernel
theorem dX6_look_63 : decode cX6_look 63 = .ok (.bipush 10, 2) := by decide +kernel
theorem dX6_look_65 : decode cX6_look 65 = .ok (.if_icmp .lt 32, 3) := by decide +kernel
theorem dX6_look_68 : decode cX6_look 68 = .ok (.iload_n 2, 1) := by decide +kernel
theorem dX6_look_69 : decode cX6_look 69 = .ok (.bipush 26, 2) := by decide +kernel
theorem dX6_look_71 : decode cX6_look 71 = .ok (.if_icmp .ge 26, 3) := by decide +kernel
theorem dX6_look_74 : decode cX6_look 74 = .ok (.iload_n 2, 1) := by decide +kernel
theorem dX6_look_75 : decode cX6_look 75 = .ok (.bipush 10, 2) := by decide +kernel
theorem dX6_look_77 : decode cX6_look 77 = .ok (.isub, 1) := by decide +kernel
theorem dX6_look_78 : decode cX6_look 78 = .ok (.istore 4, 2) := by decide +kernel
theorem dX6_look_80 : decode cX6_look 80 = .ok (.aload_n 3, 1) := by decide +kernel
theorem dX6_look_81 : decode cX6_look 81 = .ok (.getfield 211, 3) := by decide +kernel
theorem dX6_look_84 : decode cX6_look 84 = .ok (.iload 4, 2) := by decide +kernel
theorem dX6_look_86 : decode cX6_look 86 = .ok (.iconst 4, 1) := by decide +kernel
theorem dX6_look_87 : decode cX6_look 87 = .ok (.idiv, 1) := by decide +kernel
theorem dX6_look_88 : decode cX6_look 88 = .ok (.aaload, 1) := by decide +kernel
theorem dX6_look_89 : decode cX6_look 89 = .ok (.iload 4, 2) := by decide +kernel
theorem dX6_look_91 : decode cX6_look 91 = .ok (.iconst 4, 1) := by decide +kernel
theorem dX6_look_92 : decode cX6_look 92 = .ok (.irem, 1) := by decide +kernel
theorem dX6_look_93 : decode cX6_look 93 = .ok (.invokevirtual 217, 3) := by decide +kernel
theorem dX6_look_96 : decode cX6_look 96 = .ok (.ireturn, 1) := by decide +kernel
theorem dX6_look_97 : decode cX6_look 97 = .ok (.iconst 0, 1) := by decide +kernel
theorem dX6_look_98 : decode cX6_look 98 = .ok (.ireturn, 1) := by decide +kernel
def B_WR_look_97 (mc ms : Nat) (Rt : Option zAV → zMp → Prop) (g : Nat → zKT) : zKT :=
  (i_ic 0 (i_iret mc ms Rt))
set_option maxRecDepth 20000 in
theorem s_WR_look_97 {X : zMa} {mc ms : Nat} {Rt : Option zAV → zMp → Prop} (hC : zCx X RX6 cX6_look 4 85 mc ms (some .int) false Rt) (hN : zNL X = 5) : zLe (B_WR_look_97 mc ms Rt (zG X)) (zG X 97) :=
  (sd_iconst hC (by decide) dX6_look_97 ((sd_iret hC dX6_look_98)))
def B_WR_look_62 (mc ms : Nat) (Rt : Option zAV → zMp → Prop) (g : Nat → zKT) : zKT :=
  (i_il 2 (i_ic 10 (i_iclt (B_WR_look_97 mc ms Rt g) (i_il 2 (i_ic 26 (i_icge (B_WR_look_97 mc ms Rt g) (i_il 2 (i_ic 10 (i_isub (i_is 4 (i_al 3 (i_gf 6 2 (i_il 4 (i_ic 4 (i_idiv (i_aal "WishRoutes$FieldTest" (i_il 4 (i_ic 4 (i_irem (i_callV mc ms 1 2 T_FT_numberAt co_FT_numberAt (i_iret mc ms Rt)))))))))))))))))))))
set_option maxRecDepth 20000 in
theorem s_WR_look_62 {X : zMa} {mc ms : Nat} {Rt : Option zAV → zMp → Prop} (hC : zCx X RX6 cX6_look 4 85 mc ms (some .int) false Rt) (hN : zNL X = 5) : zLe (B_WR_look_62 mc ms Rt (zG X)) (zG X 62) :=
  (sd_il_n hC rfl dX6_look_62 ((sd_bipush hC (by decide) dX6_look_63 ((sd_iclt hC (tgt := 97) (by decide) dX6_look_65 (s_WR_look_97 hC hN) ((sd_il_n hC rfl dX6_look_68 ((sd_bipush hC (by decide) dX6_look_69 ((sd_icge hC (tgt := 97) (by decide) dX6_look_71 (s_WR_look_97 hC hN) ((sd_il_n hC rfl dX6_look_74 ((sd_bipush hC (by decide) dX6_look_75 ((sd_isub hC dX6_look_77 ((sd_is hC (by rw [hN]; decide) dX6_look_78 ((sd_al_n hC rfl dX6_look_80 ((sd_gf hC (ci := 6) (fk := 2) rfl wi_Wsh (by decide) fl_WR_211 (Or.inl rfl) dX6_look_81 ((sd_il hC dX6_look_84 ((sd_iconst hC (by decide) dX6_look_86 ((sd_idiv hC dX6_look_87 ((sd_aal hC dX6_look_88 ((sd_il hC dX6_look_89 ((sd_iconst hC (by decide) dX6_look_91 ((sd_irem hC dX6_look_92 ((sd_cV hC c_FT_numberAt yv_FT_numberAt (ci := 1) rfl rfl ml_WR_217 (by decide) (by decide) dX6_look_93 ((sd_iret hC dX6_look_96)))))))))))))))))))))))))))))))))))))))))
def B_WR_look_39 (mc ms : Nat) (Rt : Option zAV → zMp → Prop) (g : Nat → zKT) : zKT :=
  (i_il 2 (i_ic 2 (i_iclt (B_WR_look_62 mc ms Rt g) (i_il 2 (i_ic 6 (i_icge (B_WR_look_62 mc ms Rt g) (i_al 3 (i_gf 6 2 (i_il 2 (i_ic 2 (i_isub (i_aal "WishRoutes$FieldTest" (i_gf 1 0 (i_iret mc ms Rt))))))))))))))
set_option maxRecDepth 20000 in
theorem s_WR_look_39 {X : zMa} {mc ms : Nat} {Rt : Option zAV → zMp → Prop} (hC : zCx X RX6 cX6_look 4 85 mc ms (some .int) false Rt) (hN : zNL X = 5) : zLe (B_WR_look_39 mc ms Rt (zG X)) (zG X 39) :=
  (sd_il_n hC rfl dX6_look_39 ((sd_iconst hC (by decide) dX6_look_40 ((sd_iclt hC (tgt := 62) (by decide) dX6_look_41 (s_WR_look_62 hC hN) ((sd_il_n hC rfl dX6_look_44 ((sd_bipush hC (by decide) dX6_look_45 ((sd_icge hC (tgt := 62) (by decide) dX6_look_47 (s_WR_look_62 hC hN) ((sd_al_n hC rfl dX6_look_50 ((sd_gf hC (ci := 6) (fk := 2) rfl wi_Wsh (by decide) fl_WR_211 (Or.inl rfl) dX6_look_51 ((sd_il_n hC rfl dX6_look_54 ((sd_iconst hC (by decide) dX6_look_55 ((sd_isub hC dX6_look_56 ((sd_aal hC dX6_look_57 ((sd_gf hC (ci := 1) (fk := 0) rfl wi_FT (by decide) fl_WR_214 (Or.inl rfl) dX6_look_58 ((sd_iret hC dX6_look_61)))))))))))))))))))))))))))
def B_WR_look_38 (mc ms : Nat) (Rt : Option zAV → zMp → Prop) (g : Nat → zKT) : zKT :=
  (i_iret mc ms Rt)
set_option maxRecDepth 20000 in
theorem s_WR_look_38 {X : zMa} {mc ms : Nat} {Rt : Option zAV → zMp → Prop} (hC : zCx X RX6 cX6_look 4 85 mc ms (some .int) false Rt) (hN : zNL X = 5) : zLe (B_WR_look_38 mc ms Rt (zG X)) (zG X 38) :=
  (sd_iret hC dX6_look_38)
def B_WR_look_37 (mc ms : Nat) (Rt : Option zAV → zMp → Prop) (g : Nat → zKT) : zKT :=
  (i_ic 0 (B_WR_look_38 mc ms Rt g))
set_option maxRecDepth 20000 in
theorem s_WR_look_37 {X : zMa} {mc ms : Nat} {Rt : Option zAV → zMp → Prop} (hC : zCx X RX6 cX6_look 4 85 mc ms (some .int) false Rt) (hN : zNL X = 5) : zLe (B_WR_look_37 mc ms Rt (zG X)) (zG X 37) :=
  (sd_iconst hC (by decide) dX6_look_37 (s_WR_look_38 hC hN))
def B_WR_look_21 (mc ms : Nat) (Rt : Option zAV → zMp → Prop) (g : Nat → zKT) : zKT :=
  (i_il 2 (i_ic 1 (i_icne (B_WR_look_39 mc ms Rt g) (i_al 3 (i_gf 6 4 (i_ifeq (B_WR_look_37 mc ms Rt g) (i_ic 1 (B_WR_look_38 mc ms Rt g))))))))
set_option maxRecDepth 20000 in
theorem s_WR_look_21 {X : zMa} {mc ms : Nat} {Rt : Option zAV → zMp → Prop} (hC : zCx X RX6 cX6_look 4 85 mc ms (some .int) false Rt) (hN : zNL X = 5) : zLe (B_WR_look_21 mc ms Rt (zG X)) (zG X 21) :=
  (sd_il_n hC rfl dX6_look_21 ((sd_iconst hC (by decide) dX6_look_22 ((sd_icne hC (tgt := 39) (by decide) dX6_look_23 (s_WR_look_39 hC hN) ((sd_al_n hC rfl dX6_look_26 ((sd_gf hC (ci := 6) (fk := 4) rfl wi_Wsh (by decide) fl_WR_140 (Or.inl rfl) dX6_look_27 ((sd_ifeq hC (tgt := 37) (by decide) dX6_look_30 (s_WR_look_37 hC hN) ((sd_iconst hC (by decide) dX6_look_33 ((sd_goto hC (tgt := 38) (by decide) dX6_look_34 (s_WR_look_38 hC hN))))))))))))))))
def B_WR_look_12 (mc ms : Nat) (Rt : Option zAV → zMp → Prop) (g : Nat → zKT) : zKT :=
  (i_il 2 (i_ifne (B_WR_look_21 mc ms Rt g) (i_al 3 (i_gf 6 0 (i_iret mc ms Rt)))))
set_option maxRecDepth 20000 in
theorem s_WR_look_12 {X : zMa} {mc ms : Nat} {Rt : Option zAV → zMp → Prop} (hC : zCx X RX6 cX6_look 4 85 mc ms (some .int) false Rt) (hN : zNL X = 5) : zLe (B_WR_look_12 mc ms Rt (zG X)) (zG X 12) :=
  (sd_il_n hC rfl dX6_look_12 ((sd_ifne hC (tgt := 21) (by decide) dX6_look_13 (s_WR_look_21 hC hN) ((sd_al_n hC rfl dX6_look_16 ((sd_gf hC (ci := 6) (fk := 0) rfl wi_Wsh (by decide) fl_WR_208 (Or.inl rfl) dX6_look_17 ((sd_iret hC dX6_look_20)))))))))
def B_WR_look_0 (mc ms : Nat) (Rt : Option zAV → zMp → Prop) (g : Nat → zKT) : zKT :=
  (i_al 0 (i_il 1 (i_callV mc ms 7 2 T_WR_findWish co_WR_findWish (i_as 3 (i_al 3 (i_ifn (i_ic 0 (i_iret mc ms Rt)) (B_WR_look_12 mc ms Rt g)))))))
set_option maxRecDepth 20000 in
theorem s_WR_look_0 {X : zMa} {mc ms : Nat} {Rt : Option zAV → zMp → Prop} (hC : zCx X RX6 cX6_look 4 85 mc ms (some .int) false Rt) (hN : zNL X = 5) : zLe (B_WR_look_0 mc ms Rt (zG X)) (zG X 0) :=
  (sd_al_n hC rfl dX6_look_0 ((sd_il_n hC rfl dX6_look_1 ((sd_cV hC c_WR_findWish yv_WR_findWish (ci := 7) rfl rfl ml_WR_136 (by decide) (by decide) dX6_look_2 ((sd_as_n hC rfl (by rw [hN]; decide) dX6_look_5 ((sd_al_n hC rfl dX6_look_6 ((sd_ifnonnull hC (tgt := 12) (by decide) dX6_look_7 (s_WR_look_12 hC hN) ((sd_iconst hC (by decide) dX6_look_10 ((sd_iret hC dX6_look_11)))))))))))))))
theorem nI_btw {q : Int32} {a b : Nat} (ha : a < 2 ^ 31) (hb : b < 2 ^ 31) (h1 : ¬ q < nI a) (h2 : q < nI b) : ∃ k, a ≤ k ∧ k < b ∧ q = nI k := by
  have h0 : ¬ q < 0 := fun z => by
    have e1 := Int32.lt_iff_toInt_lt.mp z
    have e2 : ¬ q.toInt < (nI a).toInt := fun y => h1 (Int32.lt_iff_toInt_lt.mpr y)
    rw [nI_toInt ha] at e2
    have : (0 : Int32).toInt = 0 := by decide
    omega
  obtain ⟨k, hk, rfl⟩ := nI_of h0
  exact ⟨k, Nat.not_lt.mp (fun z => h1 ((nI_ltI hk ha).mpr z)), (nI_ltI hk hb).mp h2, rfl⟩
theorem c_WR_look (l : Launch) : zCT l yX6_look cX6_look 5 (some .int) 4 85 T_WR_look co_WR_look := by
  intro As M Rt hT
  obtain ⟨x, k, q, rfl, rfl, hI, hR0, hR1⟩ := hT
  refine zMet_of false (by decide +kernel) (fun h => by first | rfl | cases h) (Nat.le_of_ble_eq_true rfl) (fun X hN hC => ?_)
  show zG X 0 [some (.inr (0, 0, 0)), some (.inl (.int k)), some (.inl (.int q)), none, none] [] (pic x) 0 0
  refine s_WR_look_0 hC hN _ _ _ _ _ ?_
  simp only [B_WR_look_0, B_WR_look_12, B_WR_look_21, B_WR_look_37, B_WR_look_38, B_WR_look_39, B_WR_look_62, B_WR_look_97, co_FT_numberAt, co_WR_findWish, co_WR_look, i_ic, i_lc, i_nul, i_il, i_ll, i_al, i_is, i_as, i_ls, i_inc, i_iadd, i_isub, i_imul, i_iand, i_ior, i_ixor, i_idiv, i_irem, i_ishl, i_ishr, i_ladd, i_lsub, i_land, i_lor, i_i2l, i_lushr, i_lshl, i_lshr, i_lcmp, i_dup, i_pop, i_dx1, i_dup2, i_ifeq, i_ifne, i_iflt, i_ifge, i_ifgt, i_ifle, i_iceq, i_icne, i_iclt, i_icge, i_icgt, i_icle, i_ifn, i_gf, i_pf, i_ial, i_bal, i_lal, i_aal, i_ias, i_las, i_bas, i_aas, i_alen, i_newa, i_new, i_anew, i_cast, i_oi, i_call, i_callV, i_callV2, i_callI, i_iret, i_zret, i_lret, i_vret, i_aret, i_mmx, i_mmn, i_gsE, i_aceq, i_no, i_acq, i_sw, zsw, zlg, zls, znl, zfg, zcs, zsp, zrc, zisn, zft, zc1, zto, Value.category, List.set_cons_zero, List.set_cons_succ, List.length_cons, List.length_nil, Option.toList, List.append, List.nil_append, List.cons_append, true_and, and_true, Nat.add_zero, Nat.zero_le, Nat.zero_add, Nat.le_refl, Nat.reduceAdd, Nat.reduceLeDiff, co0, z0, zn_0, zn_1, zn_2, zn_3, zn_4, zn_5, zn_8, zn_12, zn_24, zn_121, zn_144, zn_256, zn_300, zn_600, zn_720, zn_1204, zn_1280, zn_2400, zn_4816, zn_14400, zn_90000, p_main, x_main]
  refine ⟨x, k, rfl, rfl, hI, ?_⟩
  rcases fnd_c (K := 15) (n := x_nw x) (by have := hI.lim; omega) k with ⟨e, e2⟩ | ⟨i, hi, rfl, e, -⟩
  · rw [e]
    simp only [zov, i_ic, i_lc, i_nul, i_il, i_ll, i_al, i_is, i_as, i_ls, i_inc, i_iadd, i_isub, i_imul, i_iand, i_ior, i_ixor, i_idiv, i_irem, i_ishl, i_ishr, i_ladd, i_lsub, i_land, i_lor, i_i2l, i_lushr, i_lshl, i_lshr, i_lcmp, i_dup, i_pop, i_dx1, i_dup2, i_ifeq, i_ifne, i_iflt, i_ifge, i_ifgt, i_ifle, i_iceq, i_icne, i_iclt, i_icge, i_icgt, i_icle, i_ifn, i_gf, i_pf, i_ial, i_bal, i_lal, i_aal, i_ias, i_las, i_bas, i_aas, i_alen, i_newa, i_new, i_anew, i_cast, i_oi, i_call, i_callV, i_callV2, i_callI, i_iret, i_zret, i_lret, i_vret, i_aret, i_mmx, i_mmn, i_gsE, i_aceq, i_no, i_acq, i_sw, zsw, zlg, zls, znl, zfg, zcs, zsp, zrc, zisn, zft, zc1, zto, Value.category, List.set_cons_zero, List.set_cons_succ, List.length_cons, List.length_nil, Option.toList, List.append, List.nil_append, List.cons_append, true_and, and_true, Nat.add_zero, Nat.zero_le, Nat.zero_add, Nat.le_refl, Nat.reduceAdd, Nat.reduceLeDiff, co0, z0, zn_0, zn_1, zn_2, zn_3, zn_4, zn_5, zn_8, zn_12, zn_24, zn_121, zn_144, zn_256, zn_300, zn_600, zn_720, zn_1204, zn_1280, zn_2400, zn_4816, zn_14400, zn_90000]
    exact hR0 e2
  · rw [e]
    have hi' : i < x_ow x := Nat.lt_of_lt_of_le hi hI.cnt.2.1
    have hf := (hI.wsh i hi').2.2
    have hR := hR1 i hi rfl
    simp only [zov, p_wsh hi', x_wsh, p_fs hf.1, i_ic, i_lc, i_nul, i_il, i_ll, i_al, i_is, i_as, i_ls, i_inc, i_iadd, i_isub, i_imul, i_iand, i_ior, i_ixor, i_idiv, i_irem, i_ishl, i_ishr, i_ladd, i_lsub, i_land, i_lor, i_i2l, i_lushr, i_lshl, i_lshr, i_lcmp, i_dup, i_pop, i_dx1, i_dup2, i_ifeq, i_ifne, i_iflt, i_ifge, i_ifgt, i_ifle, i_iceq, i_icne, i_iclt, i_icge, i_icgt, i_icle, i_ifn, i_gf, i_pf, i_ial, i_bal, i_lal, i_aal, i_ias, i_las, i_bas, i_aas, i_alen, i_newa, i_new, i_anew, i_cast, i_oi, i_call, i_callV, i_callV2, i_callI, i_iret, i_zret, i_lret, i_vret, i_aret, i_mmx, i_mmn, i_gsE, i_aceq, i_no, i_acq, i_sw, zsw, zlg, zls, znl, zfg, zcs, zsp, zrc, zisn, zft, zc1, zto, Value.category, List.set_cons_zero, List.set_cons_succ, List.length_cons, List.length_nil, Option.toList, List.append, List.nil_append, List.cons_append, true_and, and_true, Nat.add_zero, Nat.zero_le, Nat.zero_add, Nat.le_refl, Nat.reduceAdd, Nat.reduceLeDiff, co0, z0, zn_0, zn_1, zn_2, zn_3, zn_4, zn_5, zn_8, zn_12, zn_24, zn_121, zn_144, zn_256, zn_300, zn_600, zn_720, zn_1204, zn_1280, zn_2400, zn_4816, zn_14400, zn_90000]
    refine ⟨fun n0 => ⟨fun n1 => ⟨fun lt2 => ⟨fun lt10 => ?_, fun ge10 => ?_⟩, fun ge2 => ⟨fun ge6 => ⟨fun lt10 => ?_, fun ge10 => ⟨fun ge26 => ?_, fun lt26 => ?_⟩⟩, fun lt6 => ?_⟩⟩, fun h1 => ?_⟩, fun h0 => ?_⟩
    · rw [x_lkq, if_neg n0, if_neg n1, if_neg (fun z => z.1 lt2), if_neg (fun z => z.1 lt10)] at hR; exact hR
    · exact absurd (Int32.lt_trans lt2 (by decide)) ge10
    · rw [x_lkq, if_neg n0, if_neg n1, if_neg (fun z => absurd z.2 (Int32.not_lt.mpr ge6)), if_neg (fun z => z.1 lt10)] at hR; exact hR
    · rw [x_lkq, if_neg n0, if_neg n1, if_neg (fun z => absurd z.2 (Int32.not_lt.mpr ge6)), if_neg (fun z => absurd z.2 (Int32.not_lt.mpr ge26))] at hR; exact hR
    · have h26 := Int32.not_le.mp lt26
      obtain ⟨c, hc1, hc2, rfl⟩ := nI_btw (a := 10) (b := 26) (by decide) (by decide) ge10 h26
      rw [x_lkq, if_neg n0, if_neg n1, if_neg (fun z => absurd z.2 (Int32.not_lt.mpr ge6)), if_pos ⟨ge10, h26⟩] at hR
      have e10 : nI c - 10 = nI (c - 10) := pk_sub (a := c) (b := 10) hc1
      have ed : nI (c - 10) / 4 = nI ((c - 10) / 4) := pk_div (d := 4) (by omega) (by decide) (by decide)
      have em : nI (c - 10) - nI ((c - 10) / 4) * 4 = nI ((c - 10) % 4) := by
        have := pk_rem (a := c - 10) (d := 4) (by omega) (by decide) (by decide)
        rw [show nI 4 = 4 from rfl, ed] at this
        exact this
      rw [e10, nI_clamp (by omega)] at hR
      rw [e10, ed, em, nI_clamp (by omega), fts_e (by omega)]
      simp only [zov, p_fo hf.1 (j := (c - 10) / 4) (by omega), i_ic, i_lc, i_nul, i_il, i_ll, i_al, i_is, i_as, i_ls, i_inc, i_iadd, i_isub, i_imul, i_iand, i_ior, i_ixor, i_idiv, i_irem, i_ishl, i_ishr, i_ladd, i_lsub, i_land, i_lor, i_i2l, i_lushr, i_lshl, i_lshr, i_lcmp, i_dup, i_pop, i_dx1, i_dup2, i_ifeq, i_ifne, i_iflt, i_ifge, i_ifgt, i_ifle, i_iceq, i_icne, i_iclt, i_icge, i_icgt, i_icle, i_ifn, i_gf, i_pf, i_ial, i_bal, i_lal, i_aal, i_ias, i_las, i_bas, i_aas, i_alen, i_newa, i_new, i_anew, i_cast, i_oi, i_call, i_callV, i_callV2, i_callI, i_iret, i_zret, i_lret, i_vret, i_aret, i_mmx, i_mmn, i_gsE, i_aceq, i_no, i_acq, i_sw, zsw, zlg, zls, znl, zfg, zcs, zsp, zrc, zisn, zft, zc1, zto, Value.category, List.set_cons_zero, List.set_cons_succ, List.length_cons, List.length_nil, Option.toList, List.append, List.nil_append, List.cons_append, true_and, and_true, Nat.add_zero, Nat.zero_le, Nat.zero_add, Nat.le_refl, Nat.reduceAdd, Nat.reduceLeDiff, co0, z0, zn_0, zn_1, zn_2, zn_3, zn_4, zn_5, zn_8, zn_12, zn_24, zn_121, zn_144, zn_256, zn_300, zn_600, zn_720, zn_1204, zn_1280, zn_2400, zn_4816, zn_14400, zn_90000]
      exact ⟨by decide, vp_in_nI (by omega) (by decide), by decide, (7, i, (c - 10) / 4), (8, i, (c - 10) / 4), _, _, _, (c - 10) % 4, rfl, by omega, ft_e hf (by omega), hR⟩
    · have h6 := Int32.not_le.mp lt6
      obtain ⟨c, hc1, hc2, rfl⟩ := nI_btw (a := 2) (b := 6) (by decide) (by decide) ge2 h6
      rw [x_lkq, if_neg n0, if_neg n1, if_pos ⟨ge2, h6⟩] at hR
      have e2 : nI c - 2 = nI (c - 2) := pk_sub (a := c) (b := 2) hc1
      rw [e2, nI_clamp (by omega)] at hR
      rw [e2, nI_clamp (by omega), fts_e (by omega)]
      simp only [zov, p_fo hf.1 (j := c - 2) (by omega), i_ic, i_lc, i_nul, i_il, i_ll, i_al, i_is, i_as, i_ls, i_inc, i_iadd, i_isub, i_imul, i_iand, i_ior, i_ixor, i_idiv, i_irem, i_ishl, i_ishr, i_ladd, i_lsub, i_land, i_lor, i_i2l, i_lushr, i_lshl, i_lshr, i_lcmp, i_dup, i_pop, i_dx1, i_dup2, i_ifeq, i_ifne, i_iflt, i_ifge, i_ifgt, i_ifle, i_iceq, i_icne, i_iclt, i_icge, i_icgt, i_icle, i_ifn, i_gf, i_pf, i_ial, i_bal, i_lal, i_aal, i_ias, i_las, i_bas, i_aas, i_alen, i_newa, i_new, i_anew, i_cast, i_oi, i_call, i_callV, i_callV2, i_callI, i_iret, i_zret, i_lret, i_vret, i_aret, i_mmx, i_mmn, i_gsE, i_aceq, i_no, i_acq, i_sw, zsw, zlg, zls, znl, zfg, zcs, zsp, zrc, zisn, zft, zc1, zto, Value.category, List.set_cons_zero, List.set_cons_succ, List.length_cons, List.length_nil, Option.toList, List.append, List.nil_append, List.cons_append, true_and, and_true, Nat.add_zero, Nat.zero_le, Nat.zero_add, Nat.le_refl, Nat.reduceAdd, Nat.reduceLeDiff, co0, z0, zn_0, zn_1, zn_2, zn_3, zn_4, zn_5, zn_8, zn_12, zn_24, zn_121, zn_144, zn_256, zn_300, zn_600, zn_720, zn_1204, zn_1280, zn_2400, zn_4816, zn_14400, zn_90000]
      exact ⟨vp_in_nI (by omega) (by decide), hR⟩
    · rw [x_lkq, if_neg n0, if_pos h1] at hR
      cases ha : x_wa x i with
      | true => rw [ha] at hR; exact ⟨fun h => absurd h (by decide), fun _ => hR⟩
      | false => rw [ha] at hR; exact ⟨fun _ => hR, fun h => absurd rfl h⟩
    · rw [x_lkq, if_pos h0] at hR; exact hR
