/-! the reference: desk, reach, links, link -/
def T_Mo_desk (As : List zAV) (M : zMp) (Rt : Option zAV → zMp → Prop) : Prop := ∃ y, As = [.inr (30, 0, 0)] ∧ M = mp y ∧ Jv y ∧ (y_dk y = 12 → Rt (some (.inl (.int (-8)))) M) ∧ (y_dk y < 12 → Rt (some (.inl (.int (nI (y_dk y))))) (mp (v_dk y (y_dk y + 1))))
abbrev co_Mo_desk := co0
theorem dX7_desk_0 : decode cX7_desk 0 = .ok (.aload_n 0, 1) := by decide +kernel
theorem dX7_desk_1 : decode cX7_desk 1 = .ok (.getfield 91, 3) := by decide +kernel
theorem dX7_desk_4 : decode cX7_desk 4 = .ok (.bipush 12, 2) := by decide +kernel
theorem dX7_desk_6 : decode cX7_desk 6 = .ok (.if_icmp .ne 6, 3) := by decide +kernel
theorem dX7_desk_9 : decode cX7_desk 9 = .ok (.bipush (-8), 2) := by decide +kernel
theorem dX7_desk_11 : decode cX7_desk 11 = .ok (.ireturn, 1) := by decide +kernel
theorem dX7_desk_12 : decode cX7_desk 12 = .ok (.aload_n 0, 1) := by decide +kernel
theorem dX7_desk_13 : decode cX7_desk 13 = .ok (.dup, 1) := by decide +kernel
theorem dX7_desk_14 : decode cX7_desk 14 = .ok (.getfield 91, 3) := by decide +kernel
theorem dX7_desk_17 : decode cX7_desk 17 = .ok (.iconst 1, 1) := by decide +kernel
theorem dX7_desk_18 : decode cX7_desk 18 = .ok (.iadd, 1) := by decide +kernel
theorem dX7_desk_19 : decode cX7_desk 19 = .ok (.putfield 91, 3) := by decide +kernel
theorem dX7_desk_22 : decode cX7_desk 22 = .ok (.aload_n 0, 1) := by decide +kernel
theorem dX7_desk_23 : decode cX7_desk 23 = .ok (.getfield 91, 3) := by decide +kernel
theorem dX7_desk_26 : decode cX7_desk 26 = .ok (.iconst 1, 1) := by decide +kernel
theorem dX7_desk_27 : decode cX7_desk 27 = .ok (.isub, 1) := by decide +kernel
theorem dX7_desk_28 : decode cX7_desk 28 = .ok (.ireturn, 1) := by decide +kernel
def B_Mo_desk_12 (mc ms : Nat) (Rt : Option zAV → zMp → Prop) (g : Nat → zKT) : zKT :=
  (i_al 0 (i_dup (i_gf 8 0 (i_ic 1 (i_iadd (i_pf 8 0 .int (i_al 0 (i_gf 8 0 (i_ic 1 (i_isub (i_iret mc ms Rt)))))))))))
set_option maxRecDepth 20000 in
theorem s_Mo_desk_12 {X : zMa} {mc ms : Nat} {Rt : Option zAV → zMp → Prop} (hC : zCx X RX7 cX7_desk 0 0 mc ms (some .int) false Rt) : zLe (B_Mo_desk_12 mc ms Rt (zG X)) (zG X 12) :=
  (sd_al_n hC rfl dX7_desk_12 ((sd_dup hC dX7_desk_13 ((sd_gf hC (ci := 8) (fk := 0) rfl wi_Mo (by decide) fl_Mo_91 (Or.inl rfl) dX7_desk_14 ((sd_iconst hC (by decide) dX7_desk_17 ((sd_iadd hC dX7_desk_18 ((sd_pf hC (ci := 8) (fk := 0) rfl wi_Mo tyX7 tyX7_ok nmX7 (by decide) fl_Mo_91 (Or.inl rfl) (Or.inl rfl) dX7_desk_19 ((sd_al_n hC rfl dX7_desk_22 ((sd_gf hC (ci := 8) (fk := 0) rfl wi_Mo (by decide) fl_Mo_91 (Or.inl rfl) dX7_desk_23 ((sd_iconst hC (by decide) dX7_desk_26 ((sd_isub hC dX7_desk_27 ((sd_iret hC dX7_desk_28)))))))))))))))))))))
def B_Mo_desk_0 (mc ms : Nat) (Rt : Option zAV → zMp → Prop) (g : Nat → zKT) : zKT :=
  (i_al 0 (i_gf 8 0 (i_ic 12 (i_icne (B_Mo_desk_12 mc ms Rt g) (i_ic (-8) (i_iret mc ms Rt))))))
set_option maxRecDepth 20000 in
theorem s_Mo_desk_0 {X : zMa} {mc ms : Nat} {Rt : Option zAV → zMp → Prop} (hC : zCx X RX7 cX7_desk 0 0 mc ms (some .int) false Rt) : zLe (B_Mo_desk_0 mc ms Rt (zG X)) (zG X 0) :=
  (sd_al_n hC rfl dX7_desk_0 ((sd_gf hC (ci := 8) (fk := 0) rfl wi_Mo (by decide) fl_Mo_91 (Or.inl rfl) dX7_desk_1 ((sd_bipush hC (by decide) dX7_desk_4 ((sd_icne hC (tgt := 12) (by decide) dX7_desk_6 (s_Mo_desk_12 hC) ((sd_bipush hC (by decide) dX7_desk_9 ((sd_iret hC dX7_desk_11)))))))))))
theorem c_Mo_desk (l : Launch) : zCT l yX7_desk cX7_desk 1 (some .int) 0 0 T_Mo_desk co_Mo_desk := by
  intro As M Rt hT
  obtain ⟨y, rfl, rfl, hJ, hR0, hR1⟩ := hT
  have hd := hJ.dk
  refine zMet_of false (by decide +kernel) (fun h => by first | rfl | cases h) (Nat.le_of_ble_eq_true rfl) (fun X hN hC => ?_)
  show zG X 0 [some (.inr (30, 0, 0))] [] (mp y) 0 0
  refine s_Mo_desk_0 hC _ _ _ _ _ ?_
  simp only [B_Mo_desk_0, B_Mo_desk_12, co_Mo_desk, i_ic, i_lc, i_nul, i_il, i_ll, i_al, i_is, i_as, i_ls, i_inc, i_iadd, i_isub, i_imul, i_iand, i_ior, i_ixor, i_idiv, i_irem, i_ishl, i_ishr, i_ladd, i_lsub, i_land, i_lor, i_i2l, i_lushr, i_lshl, i_lshr, i_lcmp, i_dup, i_pop, i_dx1, i_dup2, i_ifeq, i_ifne, i_iflt, i_ifge, i_ifgt, i_ifle, i_iceq, i_icne, i_iclt, i_icge, i_icgt, i_icle, i_ifn, i_gf, i_pf, i_ial, i_bal, i_lal, i_aal, i_ias, i_las, i_bas, i_aas, i_alen, i_newa, i_new, i_anew, i_cast, i_oi, i_call, i_callV, i_callV2, i_callI, i_iret, i_zret, i_lret, i_vret, i_aret, i_mmx, i_mmn, i_gsE, i_aceq, i_no, i_acq, i_sw, zsw, zlg, zls, znl, zfg, zcs, zsp, zrc, zisn, zft, zc1, zto, Value.category, List.set_cons_zero, List.set_cons_succ, List.length_cons, List.length_nil, Option.toList, List.append, List.nil_append, List.cons_append, true_and, and_true, Nat.add_zero, Nat.zero_le, Nat.zero_add, Nat.le_refl, Nat.reduceAdd, Nat.reduceLeDiff, co0, z0, zn_0, zn_1, zn_2, zn_3, zn_4, zn_5, zn_8, zn_12, zn_24, zn_121, zn_144, zn_256, zn_300, zn_600, zn_720, zn_1204, zn_1280, zn_2400, zn_4816, zn_14400, zn_90000, q_main, m_main, zup_s]
  rw [nI_1, nI_pred]
  refine ⟨fun h => ⟨m_k (by decide), by decide, ?_⟩, fun h => hR0 ((zK (K := 12) (by decide) (n := y_dk y) (by omega)).2.2.1.mp h)⟩
  have := hR1 (by have : y_dk y ≠ 12 := fun q => h (by rw [q]; rfl); omega)
  rw [← mu_dk] at this
  exact this
/-! reach -/
/-- the roads that may be gone -/
def rE (y : zMS) (b : Int32) (p q : Nat) : Prop := (p < y_dk y ∧ q < y_dk y) ∧ y_lk y (12 * p + q) = true ∧ nI q ≠ b
noncomputable def re_x (y : zMS) (s : Nat) (b : Int32) : Nat → Bool := fun d => if d < 12 then zd (Cn (rE y b) s d) else y_re y d
def T_Mo_reach (As : List zAV) (M : zMp) (Rt : Option zAV → zMp → Prop) : Prop := ∃ y s b, As = [.inr (30, 0, 0), .inl (.int (nI s)), .inl (.int b)] ∧ M = mp y ∧ Jv y ∧ s < 12 ∧ Rt none (mp (v_re y (re_x y s b)))
abbrev co_Mo_reach := co0
theorem dX7_reach_0 : decode cX7_reach 0 = .ok (.iconst 0, 1) := by decide +kernel
theorem dX7_reach_1 : decode cX7_reach 1 = .ok (.istore_n 3, 1) := by decide +kernel
theorem dX7_reach_2 : decode cX7_reach 2 = .ok (.iload_n 3, 1) := by decide +kernel
theorem dX7_reach_3 : decode cX7_reach 3 = .ok (.bipush 12, 2) := by decide +kernel
theorem dX7_reach_5 : decode cX7_reach 5 = .ok (.if_icmp .ge 25, 3) := by decide +kernel
theorem dX7_reach_8 : decode cX7_reach 8 = .ok (.aload_n 0, 1) := by decide +kernel
theorem dX7_reach_9 : decode cX7_reach 9 = .ok (.getfield 85, 3) := by decide +kernel
theorem dX7_reach_12 : decode cX7_reach 12 = .ok (.iload_n 3, 1) := by decide +kernel
theorem dX7_reach_13 : decode cX7_reach 13 = .ok (.iload_n 3, 1) := by decide +kernel
theorem dX7_reach_14 : decode cX7_reach 14 = .ok (.iload_n 1, 1) := by decide +kernel
theorem dX7_reach_15 : decode cX7_reach 15 = .ok (.if_icmp .ne 7, 3) := by decide +kernel
theorem dX7_reach_18 : decode cX7_reach 18 = .ok (.iconst 1, 1) := by decide +kernel
theorem dX7_reach_19 : decode cX7_reach 19 = .ok (.goto 4, 3) := by decide +kernel
theorem dX7_reach_22 : decode cX7_reach 22 = .ok (.iconst 0, 1) := by decide +kernel
theorem dX7_reach_23 : decode cX7_reach 23 = .ok (.bastore, 1) := by decide +kernel
theorem dX7_reach_24 : decode cX7_reach 24 = .ok (.iinc 3 1, 3) := by decide +kernel
theorem dX7_reach_27 : decode cX7_reach 27 = .ok (.goto (-25), 3) := by decide +kernel
theorem dX7_reach_30 : decode cX7_reach 30 = .ok (.iconst 1, 1) := by decide +kernel
theorem dX7_reach_31 : decode cX7_reach 31 = .ok (.istore_n 3, 1) := by decide +kernel
theorem dX7_reach_32 : decode cX7_reach 32 = .ok (.iload_n 3, 1) := by decide +kernel
theorem dX7_reach_33 : decode cX7_reach 33 = .ok (.ifCond .eq 91, 3) := by decide +kernel
theorem dX7_reach_36 : decode cX7_reach 36 = .ok (.iconst 0, 1) := by decide +kernel
theorem dX7_reach_37 : decode cX7_reach 37 = .ok (.istore_n 3, 1) := by decide +kernel
theorem dX7_reach_38 : decode cX7_reach 38 = .ok (.iconst 0, 1) := by decide +kernel
theorem dX7_reach_39 : decode cX7_reach 39 = .ok (.istore 4, 2) := by decide +kernel
theorem dX7_reach_41 : decode cX7_reach 41 = .ok (.iload 4, 2) := by decide +kernel
theorem dX7_reach_43 : decode cX7_reach 43 = .ok (.aload_n 0, 1) := by decide +kernel
theorem dX7_reach_44 : decode cX7_reach 44 = .ok (.getfield 91, 3) := by decide +kernel
theorem dX7_reach_47 : decode cX7_reach 47 = .ok (.if_icmp .ge 74, 3) := by decide +kernel
theorem dX7_reach_50 : decode cX7_reach 50 = .ok (.iconst 0, 1) := by decide +kernel
theorem dX7_reach_51 : decode cX7_reach 51 = .ok (.istore 5, 2) := by decide +kernel
theorem dX7_reach_53 : decode cX7_reach 53 = .ok (.iload 5, 2) := by decide +kernel
theorem dX7_reach_55 : decode cX7_reach 55 = .ok (.aload_n 0, 1) := by decide +kernel
theorem dX7_reach_56 : decode cX7_reach 56 = .ok (.getfield 91, 3) := by decide +kernel
theorem dX7_reach_59 : decode cX7_reach 59 = .ok (.if_icmp .ge 56, 3) := by decide +kernel
theorem dX7_reach_62 : decode cX7_reach 62 = .ok (.aload_n 0, 1) := by decide +kernel
theorem dX7_reach_63 : decode cX7_reach 63 = .ok (.getfield 85, 3) := by decide +kernel
theorem dX7_reach_66 : decode cX7_reach 66 = .ok (.iload 4, 2) := by decide +kernel
theorem dX7_reach_68 : decode cX7_reach 68 = .ok (.baload, 1) := by decide +kernel
theorem dX7_reach_69 : decode cX7_reach 69 = .ok (.ifCond .eq 40, 3) := by decide +kernel
theorem dX7_reach_72 : decode cX7_reach 72 = .ok (.aload_n 0, 1) := by decide +kernel
theorem dX7_reach_73 : decode cX7_reach 73 = .ok (.getfield 85, 3) := by decide +kernel
theorem dX7_reach_76 : decode cX7_reach 76 = .ok (.iload 5, 2) := by decide +kernel
theorem dX7_reach_78 : decode cX7_reach 78 = .ok (.baload, 1) := by decide +kernel
theorem dX7_reach_79 : decode cX7_reach 79 = .ok (.ifCond .ne 30, 3) := by decide +kernel
theorem dX7_reach_82 : decode cX7_reach 82 = .ok (.iload 5, 2) := by decide +kernel
theorem dX7_reach_84 : decode cX7_reach 84 = .ok (.iload_n 2, 1) := by decide +kernel
theorem dX7_reach_85 : decode cX7_reach 85 = .ok (.if_icmp .eq 24, 3) := by decide +kernel
theorem dX7_reach_88 : decode cX7_reach 88 = .ok (.aload_n 0, 1) := by decide +kernel
theorem dX7_reach_89 : decode cX7_reach 89 = .ok (.iload 4, 2) := by decide +kernel
theorem dX7_reach_91 : decode cX7_reach 91 = .ok (.iload 5, 2) := by decide +kernel
theorem dX7_reach_93 : decode cX7_reach 93 = .ok (.invokevirtual 119, 3) := by decide +kernel
theorem dX7_reach_96 : decode cX7_reach 96 = .ok (.ifCond .eq 13, 3) := by decide +kernel
theorem dX7_reach_99 : decode cX7_reach 99 = .ok (.aload_n 0, 1) := by decide +kernel
theorem dX7_reach_100 : decode cX7_reach 100 = .ok (.getfield 85, 3) := by decide +kernel
theorem dX7_reach_103 : decode cX7_reach 103 = .ok (.iload 5, 2) := by decide +kernel
theorem dX7_reach_105 : decode cX7_reach 105 = .ok (.iconst 1, 1) := by decide +kernel
theorem dX7_reach_106 : decode cX7_reach 106 = .ok (.bastore, 1) := by decide +kernel
theorem dX7_reach_107 : decode cX7_reach 107 = .ok (.iconst 1, 1) := by decide +kernel
theorem dX7_reach_108 : decode cX7_reach 108 = .ok (.istore_n 3, 1) := by decide +kernel
theorem dX7_reach_109 : decode cX7_reach 109 = .ok (.iinc 5 1, 3) := by decide +kernel
theorem dX7_reach_112 : decode cX7_reach 112 = .ok (.goto (-59), 3) := by decide +kernel
theorem dX7_reach_115 : decode cX7_reach 115 = .ok (.iinc 4 1, 3) := by decide +kernel
theorem dX7_reach_118 : decode cX7_reach 118 = .ok (.goto (-77), 3) := by decide +kernel
theorem dX7_reach_121 : decode cX7_reach 121 = .ok (.goto (-89), 3) := by decide +kernel
theorem dX7_reach_124 : decode cX7_reach 124 = .ok (.return_, 1) := by decide +kernel
def B_Mo_reach_124 (mc ms : Nat) (Rt : Option zAV → zMp → Prop) (g : Nat → zKT) : zKT :=
  (i_vret mc ms Rt)
set_option maxRecDepth 20000 in
theorem s_Mo_reach_124 {X : zMa} {mc ms : Nat} {Rt : Option zAV → zMp → Prop} (hC : zCx X RX7 cX7_reach 1 22 mc ms (none) false Rt) (hN : zNL X = 6) : zLe (B_Mo_reach_124 mc ms Rt (zG X)) (zG X 124) :=
  (sd_vret hC dX7_reach_124)
def B_Mo_reach_121 (mc ms : Nat) (Rt : Option zAV → zMp → Prop) (g : Nat → zKT) : zKT :=
  (g 32)
set_option maxRecDepth 20000 in
theorem s_Mo_reach_121 {X : zMa} {mc ms : Nat} {Rt : Option zAV → zMp → Prop} (hC : zCx X RX7 cX7_reach 1 22 mc ms (none) false Rt) (hN : zNL X = 6) : zLe (B_Mo_reach_121 mc ms Rt (zG X)) (zG X 121) :=
  (sd_goto hC (tgt := 32) (by decide) dX7_reach_121 (zLe_rfl))
def B_Mo_reach_115 (mc ms : Nat) (Rt : Option zAV → zMp → Prop) (g : Nat → zKT) : zKT :=
  (i_inc 4 1 (g 41))
set_option maxRecDepth 20000 in
theorem s_Mo_reach_115 {X : zMa} {mc ms : Nat} {Rt : Option zAV → zMp → Prop} (hC : zCx X RX7 cX7_reach 1 22 mc ms (none) false Rt) (hN : zNL X = 6) : zLe (B_Mo_reach_115 mc ms Rt (zG X)) (zG X 115) :=
  (sd_inc hC (by decide) (by rw [hN]; decide) dX7_reach_115 ((sd_goto hC (tgt := 41) (by decide) dX7_reach_118 (zLe_rfl))))
def B_Mo_reach_109 (mc ms : Nat) (Rt : Option zAV → zMp → Prop) (g : Nat → zKT) : zKT :=
  (i_inc 5 1 (g 53))
set_option maxRecDepth 20000 in
theorem s_Mo_reach_109 {X : zMa} {mc ms : Nat} {Rt : Option zAV → zMp → Prop} (hC : zCx X RX7 cX7_reach 1 22 mc ms (none) false Rt) (hN : zNL X = 6) : zLe (B_Mo_reach_109 mc ms Rt (zG X)) (zG X 109) :=
  (sd_inc hC (by decide) (by rw [hN]; decide) dX7_reach_109 ((sd_goto hC (tgt := 53) (by decide) dX7_reach_112 (zLe_rfl))))
def B_Mo_reach_53 (mc ms : Nat) (Rt : Option zAV → zMp → Prop) (g : Nat → zKT) : zKT :=
  (i_il 5 (i_al 0 (i_gf 8 0 (i_icge (B_Mo_reach_115 mc ms Rt g) (i_al 0 (i_gf 8 32 (i_il 4 (i_bal (i_ifeq (B_Mo_reach_109 mc ms Rt g) (i_al 0 (i_gf 8 32 (i_il 5 (i_bal (i_ifne (B_Mo_reach_109 mc ms Rt g) (i_il 5 (i_il 2 (i_iceq (B_Mo_reach_109 mc ms Rt g) (i_al 0 (i_il 4 (i_il 5 (i_callV mc ms 8 3 T_Mo_isLinked co_Mo_isLinked (i_ifeq (B_Mo_reach_109 mc ms Rt g) (i_al 0 (i_gf 8 32 (i_il 5 (i_ic 1 (i_bas (i_ic 1 (i_is 3 (B_Mo_reach_109 mc ms Rt g))))))))))))))))))))))))))))))
set_option maxRecDepth 20000 in
theorem s_Mo_reach_53 {X : zMa} {mc ms : Nat} {Rt : Option zAV → zMp → Prop} (hC : zCx X RX7 cX7_reach 1 22 mc ms (none) false Rt) (hN : zNL X = 6) : zLe (B_Mo_reach_53 mc ms Rt (zG X)) (zG X 53) :=
  (sd_il hC dX7_reach_53 ((sd_al_n hC rfl dX7_reach_55 ((sd_gf hC (ci := 8) (fk := 0) rfl wi_Mo (by decide) fl_Mo_91 (Or.inl rfl) dX7_reach_56 ((sd_icge hC (tgt := 115) (by decide) dX7_reach_59 (s_Mo_reach_115 hC hN) ((sd_al_n hC rfl dX7_reach_62 ((sd_gf hC (ci := 8) (fk := 32) rfl wi_Mo (by decide) fl_Mo_85 (Or.inl rfl) dX7_reach_63 ((sd_il hC dX7_reach_66 ((sd_bal hC dX7_reach_68 ((sd_ifeq hC (tgt := 109) (by decide) dX7_reach_69 (s_Mo_reach_109 hC hN) ((sd_al_n hC rfl dX7_reach_72 ((sd_gf hC (ci := 8) (fk := 32) rfl wi_Mo (by decide) fl_Mo_85 (Or.inl rfl) dX7_reach_73 ((sd_il hC dX7_reach_76 ((sd_bal hC dX7_reach_78 ((sd_ifne hC (tgt := 109) (by decide) dX7_reach_79 (s_Mo_reach_109 hC hN) ((sd_il hC dX7_reach_82 ((sd_il_n hC rfl dX7_reach_84 ((sd_iceq hC (tgt := 109) (by decide) dX7_reach_85 (s_Mo_reach_109 hC hN) ((sd_al_n hC rfl dX7_reach_88 ((sd_il hC dX7_reach_89 ((sd_il hC dX7_reach_91 ((sd_cV hC c_Mo_isLinked yv_Mo_isLinked (ci := 8) rfl rfl ml_Mo_119 (by decide) (by decide) dX7_reach_93 ((sd_ifeq hC (tgt := 109) (by decide) dX7_reach_96 (s_Mo_reach_109 hC hN) ((sd_al_n hC rfl dX7_reach_99 ((sd_gf hC (ci := 8) (fk := 32) rfl wi_Mo (by decide) fl_Mo_85 (Or.inl rfl) dX7_reach_100 ((sd_il hC dX7_reach_103 ((sd_iconst hC (by decide) dX7_reach_105 ((sd_bas hC dX7_reach_106 ((sd_iconst hC (by decide) dX7_reach_107 ((sd_is_n hC rfl (by rw [hN]; decide) dX7_reach_108 (s_Mo_reach_109 hC hN))))))))))))))))))))))))))))))))))))))))))))))))))))))))))
def B_Mo_reach_41 (mc ms : Nat) (Rt : Option zAV → zMp → Prop) (g : Nat → zKT) : zKT :=
  (i_il 4 (i_al 0 (i_gf 8 0 (i_icge (B_Mo_reach_121 mc ms Rt g) (i_ic 0 (i_is 5 (g 53)))))))
set_option maxRecDepth 20000 in
theorem s_Mo_reach_41 {X : zMa} {mc ms : Nat} {Rt : Option zAV → zMp → Prop} (hC : zCx X RX7 cX7_reach 1 22 mc ms (none) false Rt) (hN : zNL X = 6) : zLe (B_Mo_reach_41 mc ms Rt (zG X)) (zG X 41) :=
  (sd_il hC dX7_reach_41 ((sd_al_n hC rfl dX7_reach_43 ((sd_gf hC (ci := 8) (fk := 0) rfl wi_Mo (by decide) fl_Mo_91 (Or.inl rfl) dX7_reach_44 ((sd_icge hC (tgt := 121) (by decide) dX7_reach_47 (s_Mo_reach_121 hC hN) ((sd_iconst hC (by decide) dX7_reach_50 ((sd_is hC (by rw [hN]; decide) dX7_reach_51 (zLe_rfl))))))))))))
def B_Mo_reach_32 (mc ms : Nat) (Rt : Option zAV → zMp → Prop) (g : Nat → zKT) : zKT :=
  (i_il 3 (i_ifeq (B_Mo_reach_124 mc ms Rt g) (i_ic 0 (i_is 3 (i_ic 0 (i_is 4 (g 41)))))))
set_option maxRecDepth 20000 in
theorem s_Mo_reach_32 {X : zMa} {mc ms : Nat} {Rt : Option zAV → zMp → Prop} (hC : zCx X RX7 cX7_reach 1 22 mc ms (none) false Rt) (hN : zNL X = 6) : zLe (B_Mo_reach_32 mc ms Rt (zG X)) (zG X 32) :=
  (sd_il_n hC rfl dX7_reach_32 ((sd_ifeq hC (tgt := 124) (by decide) dX7_reach_33 (s_Mo_reach_124 hC hN) ((sd_iconst hC (by decide) dX7_reach_36 ((sd_is_n hC rfl (by rw [hN]; decide) dX7_reach_37 ((sd_iconst hC (by decide) dX7_reach_38 ((sd_is hC (by rw [hN]; decide) dX7_reach_39 (zLe_rfl))))))))))))
def B_Mo_reach_30 (mc ms : Nat) (Rt : Option zAV → zMp → Prop) (g : Nat → zKT) : zKT :=
  (i_ic 1 (i_is 3 (g 32)))
set_option maxRecDepth 20000 in
theorem s_Mo_reach_30 {X : zMa} {mc ms : Nat} {Rt : Option zAV → zMp → Prop} (hC : zCx X RX7 cX7_reach 1 22 mc ms (none) false Rt) (hN : zNL X = 6) : zLe (B_Mo_reach_30 mc ms Rt (zG X)) (zG X 30) :=
  (sd_iconst hC (by decide) dX7_reach_30 ((sd_is_n hC rfl (by rw [hN]; decide) dX7_reach_31 (zLe_rfl))))
def B_Mo_reach_23 (mc ms : Nat) (Rt : Option zAV → zMp → Prop) (g : Nat → zKT) : zKT :=
  (i_bas (i_inc 3 1 (g 2)))
set_option maxRecDepth 20000 in
theorem s_Mo_reach_23 {X : zMa} {mc ms : Nat} {Rt : Option zAV → zMp → Prop} (hC : zCx X RX7 cX7_reach 1 22 mc ms (none) false Rt) (hN : zNL X = 6) : zLe (B_Mo_reach_23 mc ms Rt (zG X)) (zG X 23) :=
  (sd_bas hC dX7_reach_23 ((sd_inc hC (by decide) (by rw [hN]; decide) dX7_reach_24 ((sd_goto hC (tgt := 2) (by decide) dX7_reach_27 (zLe_rfl))))))
def B_Mo_reach_22 (mc ms : Nat) (Rt : Option zAV → zMp → Prop) (g : Nat → zKT) : zKT :=
  (i_ic 0 (B_Mo_reach_23 mc ms Rt g))
set_option maxRecDepth 20000 in
theorem s_Mo_reach_22 {X : zMa} {mc ms : Nat} {Rt : Option zAV → zMp → Prop} (hC : zCx X RX7 cX7_reach 1 22 mc ms (none) false Rt) (hN : zNL X = 6) : zLe (B_Mo_reach_22 mc ms Rt (zG X)) (zG X 22) :=
  (sd_iconst hC (by decide) dX7_reach_22 (s_Mo_reach_23 hC hN))
def B_Mo_reach_2 (mc ms : Nat) (Rt : Option zAV → zMp → Prop) (g : Nat → zKT) : zKT :=
  (i_il 3 (i_ic 12 (i_icge (B_Mo_reach_30 mc ms Rt g) (i_al 0 (i_gf 8 32 (i_il 3 (i_il 3 (i_il 1 (i_icne (B_Mo_reach_22 mc ms Rt g) (i_ic 1 (B_Mo_reach_23 mc ms Rt g)))))))))))
set_option maxRecDepth 20000 in
theorem s_Mo_reach_2 {X : zMa} {mc ms : Nat} {Rt : Option zAV → zMp → Prop} (hC : zCx X RX7 cX7_reach 1 22 mc ms (none) false Rt) (hN : zNL X = 6) : zLe (B_Mo_reach_2 mc ms Rt (zG X)) (zG X 2) :=
  (sd_il_n hC rfl dX7_reach_2 ((sd_bipush hC (by decide) dX7_reach_3 ((sd_icge hC (tgt := 30) (by decide) dX7_reach_5 (s_Mo_reach_30 hC hN) ((sd_al_n hC rfl dX7_reach_8 ((sd_gf hC (ci := 8) (fk := 32) rfl wi_Mo (by decide) fl_Mo_85 (Or.inl rfl) dX7_reach_9 ((sd_il_n hC rfl dX7_reach_12 ((sd_il_n hC rfl dX7_reach_13 ((sd_il_n hC rfl dX7_reach_14 ((sd_icne hC (tgt := 22) (by decide) dX7_reach_15 (s_Mo_reach_22 hC hN) ((sd_iconst hC (by decide) dX7_reach_18 ((sd_goto hC (tgt := 23) (by decide) dX7_reach_19 (s_Mo_reach_23 hC hN))))))))))))))))))))))
def B_Mo_reach_0 (mc ms : Nat) (Rt : Option zAV → zMp → Prop) (g : Nat → zKT) : zKT :=
  (i_ic 0 (i_is 3 (g 2)))
set_option maxRecDepth 20000 in
theorem s_Mo_reach_0 {X : zMa} {mc ms : Nat} {Rt : Option zAV → zMp → Prop} (hC : zCx X RX7 cX7_reach 1 22 mc ms (none) false Rt) (hN : zNL X = 6) : zLe (B_Mo_reach_0 mc ms Rt (zG X)) (zG X 0) :=
  (sd_iconst hC (by decide) dX7_reach_0 ((sd_is_n hC rfl (by rw [hN]; decide) dX7_reach_1 (zLe_rfl))))
/-- what is marked is reached -/
def rI (y : zMS) (s : Nat) (b : Int32) (re : Nat → Bool) : Prop := re s = true ∧ (∀ d, d < 12 → re d = true → Cn (rE y b) s d) ∧ ∀ d, ¬ d < 12 → re d = y_re y d
def rG (y : zMS) (b : Int32) (re : Nat → Bool) (p q : Nat) : Prop := re p = true ∧ re q = false ∧ nI q ≠ b ∧ y_lk y (12 * p + q) = true
theorem rI_x {y : zMS} {s : Nat} {b : Int32} {re : Nat → Bool} (h : rI y s b re) (hd : y_dk y ≤ 12) (hc : ∀ p q, p < y_dk y → q < y_dk y → ¬ rG y b re p q) : re = re_x y s b := by
  funext d
  unfold re_x
  by_cases hd2 : d < 12
  · rw [if_pos hd2]
    cases hr : re d with
    | true => exact (zd_t (h.2.1 d hd2 hr)).symm
    | false =>
      refine (zd_f (fun q => ?_)).symm
      have : re d = true := Cn_ind (P := fun d => re d = true) h.1 (fun p q _ ih e => by
        cases hq : re q with
        | true => rfl
        | false => exact absurd ⟨ih, hq, e.2.2, e.2.1⟩ (hc p q e.1.1 e.1.2)) q
      rw [hr] at this
      cases this
  · rw [if_neg hd2]; exact h.2.2 d hd2
noncomputable def rN (re : Nat → Bool) : Nat := ct (fun d => re d = true) 12
theorem rN_up {re : Nat → Bool} {v : Nat} (hv : v < 12) (h : re v = false) : rN (va_up re v true) = rN re + 1 := by
  unfold rN
  rw [← ct_add1 hv (p := fun d => re d = true) (by rw [h]; decide)]
  refine ct_cg _ (fun d _ => ?_)
  by_cases e : d = v
  · rw [e, va_ups']; exact ⟨fun _ => Or.inr rfl, fun _ => rfl⟩
  · rw [va_upo' _ _ e]; exact ⟨Or.inl, fun z => z.elim id (fun z => absurd z e)⟩
theorem c_Mo_reach (l : Launch) : zCT l yX7_reach cX7_reach 6 (none) 1 22 T_Mo_reach co_Mo_reach := by
  intro As M Rt hT
  obtain ⟨y, s, b, rfl, rfl, hJ, hs, hR⟩ := hT
  have hd := hJ.dk
  refine zMet_of false (by decide +kernel) (fun h => by first | rfl | cases h) (Nat.le_of_ble_eq_true rfl) (fun X hN hC => ?_)
  show zG X 0 [some (.inr (30, 0, 0)), some (.inl (.int (nI s))), some (.inl (.int b)), none, none, none] [] (mp y) 0 0
  have dn : ∀ re, rI y s b re → (∀ p q, p < y_dk y → q < y_dk y → ¬ rG y b re p q) → ∀ j4 j5 : Option zAV, zG X 32 [some (.inr (30, 0, 0)), some (.inl (.int (nI s))), some (.inl (.int b)), some (.inl (.int 0)), j4, j5] [] (mp (v_re y re)) 0 0 := by
    intro re hI hc j4 j5
    refine s_Mo_reach_32 hC hN _ _ _ _ _ ?_
    simp only [B_Mo_reach_0, B_Mo_reach_2, B_Mo_reach_22, B_Mo_reach_23, B_Mo_reach_30, B_Mo_reach_32, B_Mo_reach_41, B_Mo_reach_53, B_Mo_reach_109, B_Mo_reach_115, B_Mo_reach_121, B_Mo_reach_124, co_Mo_isLinked, co_Mo_reach, i_ic, i_lc, i_nul, i_il, i_ll, i_al, i_is, i_as, i_ls, i_inc, i_iadd, i_isub, i_imul, i_iand, i_ior, i_ixor, i_idiv, i_irem, i_ishl, i_ishr, i_ladd, i_lsub, i_land, i_lor, i_i2l, i_lushr, i_lshl, i_lshr, i_lcmp, i_dup, i_pop, i_dx1, i_dup2, i_ifeq, i_ifne, i_iflt, i_ifge, i_ifgt, i_ifle, i_iceq, i_icne, i_iclt, i_icge, i_icgt, i_icle, i_ifn, i_gf, i_pf, i_ial, i_bal, i_lal, i_aal, i_ias, i_las, i_bas, i_aas, i_alen, i_newa, i_new, i_anew, i_cast, i_oi, i_call, i_callV, i_callV2, i_callI, i_iret, i_zret, i_lret, i_vret, i_aret, i_mmx, i_mmn, i_gsE, i_aceq, i_no, i_acq, i_sw, zsw, zlg, zls, znl, zfg, zcs, zsp, zrc, zisn, zft, zc1, zto, Value.category, List.set_cons_zero, List.set_cons_succ, List.length_cons, List.length_nil, Option.toList, List.append, List.nil_append, List.cons_append, true_and, and_true, Nat.add_zero, Nat.zero_le, Nat.zero_add, Nat.le_refl, Nat.reduceAdd, Nat.reduceLeDiff, co0, z0, zn_0, zn_1, zn_2, zn_3, zn_4, zn_5, zn_8, zn_12, zn_24, zn_121, zn_144, zn_256, zn_300, zn_600, zn_720, zn_1204, zn_1280, zn_2400, zn_4816, zn_14400, zn_90000]
    rw [rI_x hI hd hc]
    exact ⟨fun _ => hR, fun h => absurd trivial h⟩
  have pass : ∀ re, rI y s b re → (∀ re', rI y s b re' → rN re < rN re' → ∀ j4 j5 : Option zAV, zG X 32 [some (.inr (30, 0, 0)), some (.inl (.int (nI s))), some (.inl (.int b)), some (.inl (.int 1)), j4, j5] [] (mp (v_re y re')) 0 0) → ∀ j5 : Option zAV, zG X 41 [some (.inr (30, 0, 0)), some (.inl (.int (nI s))), some (.inl (.int b)), some (.inl (.int 0)), some (.inl (.int (nI 0))), j5] [] (mp (v_re y re)) 0 0 := by
    intro re hI hgo j5
    refine upto (N := y_dk y) (P := fun u => ∀ re' (m : Bool), rI y s b re' → ((m = false ∧ re' = re ∧ ∀ p, p < u → ∀ q, q < y_dk y → ¬ rG y b re p q) ∨ (m = true ∧ rN re < rN re')) → ∀ j5 : Option zAV, zG X 41 [some (.inr (30, 0, 0)), some (.inl (.int (nI s))), some (.inl (.int b)), some (.inl (.int (zb m))), some (.inl (.int (nI u))), j5] [] (mp (v_re y re')) 0 0) (fun u hu ihu re' m hI' hm j5 => ?_) (fun re' m hI' hm j5 => ?_) 0 (Nat.zero_le _) re false hI (Or.inl ⟨rfl, rfl, fun p hp => absurd hp (Nat.not_lt_zero p)⟩) j5
    · have inner := upto (N := y_dk y) (P := fun v => ∀ re' (m : Bool), rI y s b re' → ((m = false ∧ re' = re ∧ (∀ p, p < u → ∀ q, q < y_dk y → ¬ rG y b re p q) ∧ ∀ q, q < v → ¬ rG y b re u q) ∨ (m = true ∧ rN re < rN re')) → zG X 53 [some (.inr (30, 0, 0)), some (.inl (.int (nI s))), some (.inl (.int b)), some (.inl (.int (zb m))), some (.inl (.int (nI u))), some (.inl (.int (nI v)))] [] (mp (v_re y re')) 0 0) (fun v hv ihv re' m hI' hm => by
        refine s_Mo_reach_53 hC hN _ _ _ _ _ ?_
        have e1 : y_dk (v_re y re') = y_dk y := rfl
        have e2 : y_re (v_re y re') = re' := rfl
        simp only [B_Mo_reach_0, B_Mo_reach_2, B_Mo_reach_22, B_Mo_reach_23, B_Mo_reach_30, B_Mo_reach_32, B_Mo_reach_41, B_Mo_reach_53, B_Mo_reach_109, B_Mo_reach_115, B_Mo_reach_121, B_Mo_reach_124, co_Mo_isLinked, co_Mo_reach, i_ic, i_lc, i_nul, i_il, i_ll, i_al, i_is, i_as, i_ls, i_inc, i_iadd, i_isub, i_imul, i_iand, i_ior, i_ixor, i_idiv, i_irem, i_ishl, i_ishr, i_ladd, i_lsub, i_land, i_lor, i_i2l, i_lushr, i_lshl, i_lshr, i_lcmp, i_dup, i_pop, i_dx1, i_dup2, i_ifeq, i_ifne, i_iflt, i_ifge, i_ifgt, i_ifle, i_iceq, i_icne, i_iclt, i_icge, i_icgt, i_icle, i_ifn, i_gf, i_pf, i_ial, i_bal, i_lal, i_aal, i_ias, i_las, i_bas, i_aas, i_alen, i_newa, i_new, i_anew, i_cast, i_oi, i_call, i_callV, i_callV2, i_callI, i_iret, i_zret, i_lret, i_vret, i_aret, i_mmx, i_mmn, i_gsE, i_aceq, i_no, i_acq, i_sw, zsw, zlg, zls, znl, zfg, zcs, zsp, zrc, zisn, zft, zc1, zto, Value.category, List.set_cons_zero, List.set_cons_succ, List.length_cons, List.length_nil, Option.toList, List.append, List.nil_append, List.cons_append, true_and, and_true, Nat.add_zero, Nat.zero_le, Nat.zero_add, Nat.le_refl, Nat.reduceAdd, Nat.reduceLeDiff, co0, z0, zn_0, zn_1, zn_2, zn_3, zn_4, zn_5, zn_8, zn_12, zn_24, zn_121, zn_144, zn_256, zn_300, zn_600, zn_720, zn_1204, zn_1280, zn_2400, zn_4816, zn_14400, zn_90000, q_main, m_main, q_re, e1, e2, ar_4, ar_5, ar_12, ar_300, ar_600, ar_1200, ar_10, nI_add, ar_1, ar_2, ar_3, ar_2m]
        rw [nI_clamp (by omega), nI_clamp (by omega)]
        have skip : ¬ rG y b re' u v → zG X 53 [some (.inr (30, 0, 0)), some (.inl (.int (nI s))), some (.inl (.int b)), some (.inl (.int (zb m))), some (.inl (.int (nI u))), some (.inl (.int (nI (v + 1))))] [] (mp (v_re y re')) 0 0 := fun hn => ihv re' m hI' (by
          rcases hm with ⟨h1, h2, h3, h4⟩ | h
          · refine Or.inl ⟨h1, h2, h3, fun q hq => ?_⟩
            by_cases e : q = v
            · rw [e, ← h2]; exact hn
            · exact h4 q (by omega)
          · exact Or.inr h)
        refine ⟨fun h => absurd ((zK (K := y_dk y) (by omega) (n := v) (by omega)).2.1.mp h) (by omega), fun _ => ⟨vp_in_nI (by omega) (by decide), fun h1 => skip (fun q => by have q1 := q.1; rw [zb_0.mp h1] at q1; cases q1), fun h1 => ⟨vp_in_nI (by omega) (by decide), fun h2 => skip (fun q => by have q1 := q.2.1; rw [zb_n0 h2] at q1; cases q1), fun h2 => ⟨fun h3 => skip (fun q => q.2.2.1 h3), fun h3 => ⟨v_re y re', u, v, rfl, rfl, by omega, by omega, ?_⟩⟩⟩⟩⟩
        simp only [B_Mo_reach_0, B_Mo_reach_2, B_Mo_reach_22, B_Mo_reach_23, B_Mo_reach_30, B_Mo_reach_32, B_Mo_reach_41, B_Mo_reach_53, B_Mo_reach_109, B_Mo_reach_115, B_Mo_reach_121, B_Mo_reach_124, co_Mo_isLinked, co_Mo_reach, i_ic, i_lc, i_nul, i_il, i_ll, i_al, i_is, i_as, i_ls, i_inc, i_iadd, i_isub, i_imul, i_iand, i_ior, i_ixor, i_idiv, i_irem, i_ishl, i_ishr, i_ladd, i_lsub, i_land, i_lor, i_i2l, i_lushr, i_lshl, i_lshr, i_lcmp, i_dup, i_pop, i_dx1, i_dup2, i_ifeq, i_ifne, i_iflt, i_ifge, i_ifgt, i_ifle, i_iceq, i_icne, i_iclt, i_icge, i_icgt, i_icle, i_ifn, i_gf, i_pf, i_ial, i_bal, i_lal, i_aal, i_ias, i_las, i_bas, i_aas, i_alen, i_newa, i_new, i_anew, i_cast, i_oi, i_call, i_callV, i_callV2, i_callI, i_iret, i_zret, i_lret, i_vret, i_aret, i_mmx, i_mmn, i_gsE, i_aceq, i_no, i_acq, i_sw, zsw, zlg, zls, znl, zfg, zcs, zsp, zrc, zisn, zft, zc1, zto, Value.category, List.set_cons_zero, List.set_cons_succ, List.length_cons, List.length_nil, Option.toList, List.append, List.nil_append, List.cons_append, true_and, and_true, Nat.add_zero, Nat.zero_le, Nat.zero_add, Nat.le_refl, Nat.reduceAdd, Nat.reduceLeDiff, co0, z0, zn_0, zn_1, zn_2, zn_3, zn_4, zn_5, zn_8, zn_12, zn_24, zn_121, zn_144, zn_256, zn_300, zn_600, zn_720, zn_1204, zn_1280, zn_2400, zn_4816, zn_14400, zn_90000, q_main, m_main, q_re, e1, e2, ar_4, ar_5, ar_12, ar_300, ar_600, ar_1200, ar_10, nI_add, ar_1, ar_2, ar_3, ar_2m]
        refine ⟨fun h4 => skip (fun q => by rw [show y_lk (v_re y re') = y_lk y from rfl, q.2.2.2] at h4; exact absurd h4 (by decide)), fun h4 => ⟨m_k (by decide), vp_in_nI (by omega) (by decide), ?_⟩⟩
        rw [nI_clamp (by omega), upd_b1, mu_re]
        have r1 : re' u = true := zb_n0 h1
        have r2 : re' v = false := zb_0.mp h2
        have hlk : y_lk y (12 * u + v) = true := zb_n0 h4
        refine ⟨Or.inr trivial, ihv (va_up re' v true) true ⟨?_, fun d hd2 hr => ?_, fun d hd2 => ?_⟩ (Or.inr ⟨rfl, ?_⟩)⟩
        · by_cases e : s = v
          · rw [e, va_ups']
          · rw [va_upo' _ _ e]; exact hI'.1
        · by_cases e : d = v
          · rw [e]; exact Cn_step (hI'.2.1 u (by omega) r1) ⟨⟨hu, hv⟩, hlk, h3⟩
          · rw [va_upo' _ _ e] at hr; exact hI'.2.1 d hd2 hr
        · rw [va_upo' _ _ (show d ≠ v by omega)]; exact hI'.2.2 d hd2
        · rw [rN_up (by omega) r2]
          rcases hm with ⟨_, h2, _⟩ | h
          · rw [h2]; omega
          · have := h.2; omega) (fun re' m hI' hm => by
        refine s_Mo_reach_53 hC hN _ _ _ _ _ ?_
        have e1 : y_dk (v_re y re') = y_dk y := rfl
        simp only [B_Mo_reach_0, B_Mo_reach_2, B_Mo_reach_22, B_Mo_reach_23, B_Mo_reach_30, B_Mo_reach_32, B_Mo_reach_41, B_Mo_reach_53, B_Mo_reach_109, B_Mo_reach_115, B_Mo_reach_121, B_Mo_reach_124, co_Mo_isLinked, co_Mo_reach, i_ic, i_lc, i_nul, i_il, i_ll, i_al, i_is, i_as, i_ls, i_inc, i_iadd, i_isub, i_imul, i_iand, i_ior, i_ixor, i_idiv, i_irem, i_ishl, i_ishr, i_ladd, i_lsub, i_land, i_lor, i_i2l, i_lushr, i_lshl, i_lshr, i_lcmp, i_dup, i_pop, i_dx1, i_dup2, i_ifeq, i_ifne, i_iflt, i_ifge, i_ifgt, i_ifle, i_iceq, i_icne, i_iclt, i_icge, i_icgt, i_icle, i_ifn, i_gf, i_pf, i_ial, i_bal, i_lal, i_aal, i_ias, i_las, i_bas, i_aas, i_alen, i_newa, i_new, i_anew, i_cast, i_oi, i_call, i_callV, i_callV2, i_callI, i_iret, i_zret, i_lret, i_vret, i_aret, i_mmx, i_mmn, i_gsE, i_aceq, i_no, i_acq, i_sw, zsw, zlg, zls, znl, zfg, zcs, zsp, zrc, zisn, zft, zc1, zto, Value.category, List.set_cons_zero, List.set_cons_succ, List.length_cons, List.length_nil, Option.toList, List.append, List.nil_append, List.cons_append, true_and, and_true, Nat.add_zero, Nat.zero_le, Nat.zero_add, Nat.le_refl, Nat.reduceAdd, Nat.reduceLeDiff, co0, z0, zn_0, zn_1, zn_2, zn_3, zn_4, zn_5, zn_8, zn_12, zn_24, zn_121, zn_144, zn_256, zn_300, zn_600, zn_720, zn_1204, zn_1280, zn_2400, zn_4816, zn_14400, zn_90000, q_main, m_main, e1, ar_4, ar_5, ar_12, ar_300, ar_600, ar_1200, ar_10, nI_add, ar_1, ar_2, ar_3, ar_2m]
        refine ⟨fun _ => ihu re' m hI' ?_ _, fun h => absurd ((zK (K := y_dk y) (by omega) (n := y_dk y) (by omega)).2.1.mpr (Nat.le_refl _)) h⟩
        rcases hm with ⟨h1, h2, h3, h4⟩ | h
        · refine Or.inl ⟨h1, h2, fun p hp q hq => ?_⟩
          by_cases e : p = u
          · rw [e]; exact h4 q hq
          · exact h3 p (by omega) q hq
        · exact Or.inr h) 0 (Nat.zero_le _)
      refine s_Mo_reach_41 hC hN _ _ _ _ _ ?_
      have e1 : y_dk (v_re y re') = y_dk y := rfl
      simp only [B_Mo_reach_0, B_Mo_reach_2, B_Mo_reach_22, B_Mo_reach_23, B_Mo_reach_30, B_Mo_reach_32, B_Mo_reach_41, B_Mo_reach_53, B_Mo_reach_109, B_Mo_reach_115, B_Mo_reach_121, B_Mo_reach_124, co_Mo_isLinked, co_Mo_reach, i_ic, i_lc, i_nul, i_il, i_ll, i_al, i_is, i_as, i_ls, i_inc, i_iadd, i_isub, i_imul, i_iand, i_ior, i_ixor, i_idiv, i_irem, i_ishl, i_ishr, i_ladd, i_lsub, i_land, i_lor, i_i2l, i_lushr, i_lshl, i_lshr, i_lcmp, i_dup, i_pop, i_dx1, i_dup2, i_ifeq, i_ifne, i_iflt, i_ifge, i_ifgt, i_ifle, i_iceq, i_icne, i_iclt, i_icge, i_icgt, i_icle, i_ifn, i_gf, i_pf, i_ial, i_bal, i_lal, i_aal, i_ias, i_las, i_bas, i_aas, i_alen, i_newa, i_new, i_anew, i_cast, i_oi, i_call, i_callV, i_callV2, i_callI, i_iret, i_zret, i_lret, i_vret, i_aret, i_mmx, i_mmn, i_gsE, i_aceq, i_no, i_acq, i_sw, zsw, zlg, zls, znl, zfg, zcs, zsp, zrc, zisn, zft, zc1, zto, Value.category, List.set_cons_zero, List.set_cons_succ, List.length_cons, List.length_nil, Option.toList, List.append, List.nil_append, List.cons_append, true_and, and_true, Nat.add_zero, Nat.zero_le, Nat.zero_add, Nat.le_refl, Nat.reduceAdd, Nat.reduceLeDiff, co0, z0, zn_0, zn_1, zn_2, zn_3, zn_4, zn_5, zn_8, zn_12, zn_24, zn_121, zn_144, zn_256, zn_300, zn_600, zn_720, zn_1204, zn_1280, zn_2400, zn_4816, zn_14400, zn_90000, q_main, m_main, e1]
      refine ⟨fun h => absurd ((zK (K := y_dk y) (by omega) (n := u) (by omega)).2.1.mp h) (by omega), fun _ => inner re' m hI' ?_⟩
      rcases hm with ⟨h1, h2, h3⟩ | h
      · exact Or.inl ⟨h1, h2, h3, fun q hq => absurd hq (Nat.not_lt_zero q)⟩
      · exact Or.inr h
    · refine s_Mo_reach_41 hC hN _ _ _ _ _ ?_
      have e1 : y_dk (v_re y re') = y_dk y := rfl
      simp only [B_Mo_reach_0, B_Mo_reach_2, B_Mo_reach_22, B_Mo_reach_23, B_Mo_reach_30, B_Mo_reach_32, B_Mo_reach_41, B_Mo_reach_53, B_Mo_reach_109, B_Mo_reach_115, B_Mo_reach_121, B_Mo_reach_124, co_Mo_isLinked, co_Mo_reach, i_ic, i_lc, i_nul, i_il, i_ll, i_al, i_is, i_as, i_ls, i_inc, i_iadd, i_isub, i_imul, i_iand, i_ior, i_ixor, i_idiv, i_irem, i_ishl, i_ishr, i_ladd, i_lsub, i_land, i_lor, i_i2l, i_lushr, i_lshl, i_lshr, i_lcmp, i_dup, i_pop, i_dx1, i_dup2, i_ifeq, i_ifne, i_iflt, i_ifge, i_ifgt, i_ifle, i_iceq, i_icne, i_iclt, i_icge, i_icgt, i_icle, i_ifn, i_gf, i_pf, i_ial, i_bal, i_lal, i_aal, i_ias, i_las, i_bas, i_aas, i_alen, i_newa, i_new, i_anew, i_cast, i_oi, i_call, i_callV, i_callV2, i_callI, i_iret, i_zret, i_lret, i_vret, i_aret, i_mmx, i_mmn, i_gsE, i_aceq, i_no, i_acq, i_sw, zsw, zlg, zls, znl, zfg, zcs, zsp, zrc, zisn, zft, zc1, zto, Value.category, List.set_cons_zero, List.set_cons_succ, List.length_cons, List.length_nil, Option.toList, List.append, List.nil_append, List.cons_append, true_and, and_true, Nat.add_zero, Nat.zero_le, Nat.zero_add, Nat.le_refl, Nat.reduceAdd, Nat.reduceLeDiff, co0, z0, zn_0, zn_1, zn_2, zn_3, zn_4, zn_5, zn_8, zn_12, zn_24, zn_121, zn_144, zn_256, zn_300, zn_600, zn_720, zn_1204, zn_1280, zn_2400, zn_4816, zn_14400, zn_90000, q_main, m_main, e1]
      refine ⟨fun _ => ?_, fun h => absurd ((zK (K := y_dk y) (by omega) (n := y_dk y) (by omega)).2.1.mpr (Nat.le_refl _)) h⟩
      rcases hm with ⟨h1, h2, h3⟩ | h
      · rw [h1]
        exact dn re' hI' (fun p q hp hq => by rw [h2]; exact h3 p hp q hq) _ _
      · rw [h.1]
        exact hgo re' hI' h.2 _ _
  have out : ∀ c re, 12 - rN re ≤ c → rI y s b re → ∀ j4 j5 : Option zAV, zG X 32 [some (.inr (30, 0, 0)), some (.inl (.int (nI s))), some (.inl (.int b)), some (.inl (.int 1)), j4, j5] [] (mp (v_re y re)) 0 0 := by
    intro c
    induction c with
    | zero =>
      intro re hc hI j4 j5
      refine s_Mo_reach_32 hC hN _ _ _ _ _ ?_
      simp only [B_Mo_reach_0, B_Mo_reach_2, B_Mo_reach_22, B_Mo_reach_23, B_Mo_reach_30, B_Mo_reach_32, B_Mo_reach_41, B_Mo_reach_53, B_Mo_reach_109, B_Mo_reach_115, B_Mo_reach_121, B_Mo_reach_124, co_Mo_isLinked, co_Mo_reach, i_ic, i_lc, i_nul, i_il, i_ll, i_al, i_is, i_as, i_ls, i_inc, i_iadd, i_isub, i_imul, i_iand, i_ior, i_ixor, i_idiv, i_irem, i_ishl, i_ishr, i_ladd, i_lsub, i_land, i_lor, i_i2l, i_lushr, i_lshl, i_lshr, i_lcmp, i_dup, i_pop, i_dx1, i_dup2, i_ifeq, i_ifne, i_iflt, i_ifge, i_ifgt, i_ifle, i_iceq, i_icne, i_iclt, i_icge, i_icgt, i_icle, i_ifn, i_gf, i_pf, i_ial, i_bal, i_lal, i_aal, i_ias, i_las, i_bas, i_aas, i_alen, i_newa, i_new, i_anew, i_cast, i_oi, i_call, i_callV, i_callV2, i_callI, i_iret, i_zret, i_lret, i_vret, i_aret, i_mmx, i_mmn, i_gsE, i_aceq, i_no, i_acq, i_sw, zsw, zlg, zls, znl, zfg, zcs, zsp, zrc, zisn, zft, zc1, zto, Value.category, List.set_cons_zero, List.set_cons_succ, List.length_cons, List.length_nil, Option.toList, List.append, List.nil_append, List.cons_append, true_and, and_true, Nat.add_zero, Nat.zero_le, Nat.zero_add, Nat.le_refl, Nat.reduceAdd, Nat.reduceLeDiff, co0, z0, zn_0, zn_1, zn_2, zn_3, zn_4, zn_5, zn_8, zn_12, zn_24, zn_121, zn_144, zn_256, zn_300, zn_600, zn_720, zn_1204, zn_1280, zn_2400, zn_4816, zn_14400, zn_90000]
      refine ⟨fun h => absurd h (by decide), fun _ => pass re hI (fun re' _ hlt => ?_) _⟩
      have := ct_le (fun d => re' d = true) 12
      unfold rN at hc hlt
      omega
    | succ c ih =>
      intro re hc hI j4 j5
      refine s_Mo_reach_32 hC hN _ _ _ _ _ ?_
      simp only [B_Mo_reach_0, B_Mo_reach_2, B_Mo_reach_22, B_Mo_reach_23, B_Mo_reach_30, B_Mo_reach_32, B_Mo_reach_41, B_Mo_reach_53, B_Mo_reach_109, B_Mo_reach_115, B_Mo_reach_121, B_Mo_reach_124, co_Mo_isLinked, co_Mo_reach, i_ic, i_lc, i_nul, i_il, i_ll, i_al, i_is, i_as, i_ls, i_inc, i_iadd, i_isub, i_imul, i_iand, i_ior, i_ixor, i_idiv, i_irem, i_ishl, i_ishr, i_ladd, i_lsub, i_land, i_lor, i_i2l, i_lushr, i_lshl, i_lshr, i_lcmp, i_dup, i_pop, i_dx1, i_dup2, i_ifeq, i_ifne, i_iflt, i_ifge, i_ifgt, i_ifle, i_iceq, i_icne, i_iclt, i_icge, i_icgt, i_icle, i_ifn, i_gf, i_pf, i_ial, i_bal, i_lal, i_aal, i_ias, i_las, i_bas, i_aas, i_alen, i_newa, i_new, i_anew, i_cast, i_oi, i_call, i_callV, i_callV2, i_callI, i_iret, i_zret, i_lret, i_vret, i_aret, i_mmx, i_mmn, i_gsE, i_aceq, i_no, i_acq, i_sw, zsw, zlg, zls, znl, zfg, zcs, zsp, zrc, zisn, zft, zc1, zto, Value.category, List.set_cons_zero, List.set_cons_succ, List.length_cons, List.length_nil, Option.toList, List.append, List.nil_append, List.cons_append, true_and, and_true, Nat.add_zero, Nat.zero_le, Nat.zero_add, Nat.le_refl, Nat.reduceAdd, Nat.reduceLeDiff, co0, z0, zn_0, zn_1, zn_2, zn_3, zn_4, zn_5, zn_8, zn_12, zn_24, zn_121, zn_144, zn_256, zn_300, zn_600, zn_720, zn_1204, zn_1280, zn_2400, zn_4816, zn_14400, zn_90000]
      refine ⟨fun h => absurd h (by decide), fun _ => pass re hI (fun re' hI' hlt => ih re' (by omega) hI') _⟩
  have init := upto (N := 12) (P := fun i => ∀ j4 j5 : Option zAV, zG X 2 [some (.inr (30, 0, 0)), some (.inl (.int (nI s))), some (.inl (.int b)), some (.inl (.int (nI i))), j4, j5] [] (mp (v_re y (fun d => if d < i then decide (d = s) else y_re y d))) 0 0) (fun i hi ih j4 j5 => by
    refine s_Mo_reach_2 hC hN _ _ _ _ _ ?_
    have e2 : y_re (v_re y (fun d => if d < i then decide (d = s) else y_re y d)) = (fun d => if d < i then decide (d = s) else y_re y d) := rfl
    simp only [B_Mo_reach_0, B_Mo_reach_2, B_Mo_reach_22, B_Mo_reach_23, B_Mo_reach_30, B_Mo_reach_32, B_Mo_reach_41, B_Mo_reach_53, B_Mo_reach_109, B_Mo_reach_115, B_Mo_reach_121, B_Mo_reach_124, co_Mo_isLinked, co_Mo_reach, i_ic, i_lc, i_nul, i_il, i_ll, i_al, i_is, i_as, i_ls, i_inc, i_iadd, i_isub, i_imul, i_iand, i_ior, i_ixor, i_idiv, i_irem, i_ishl, i_ishr, i_ladd, i_lsub, i_land, i_lor, i_i2l, i_lushr, i_lshl, i_lshr, i_lcmp, i_dup, i_pop, i_dx1, i_dup2, i_ifeq, i_ifne, i_iflt, i_ifge, i_ifgt, i_ifle, i_iceq, i_icne, i_iclt, i_icge, i_icgt, i_icle, i_ifn, i_gf, i_pf, i_ial, i_bal, i_lal, i_aal, i_ias, i_las, i_bas, i_aas, i_alen, i_newa, i_new, i_anew, i_cast, i_oi, i_call, i_callV, i_callV2, i_callI, i_iret, i_zret, i_lret, i_vret, i_aret, i_mmx, i_mmn, i_gsE, i_aceq, i_no, i_acq, i_sw, zsw, zlg, zls, znl, zfg, zcs, zsp, zrc, zisn, zft, zc1, zto, Value.category, List.set_cons_zero, List.set_cons_succ, List.length_cons, List.length_nil, Option.toList, List.append, List.nil_append, List.cons_append, true_and, and_true, Nat.add_zero, Nat.zero_le, Nat.zero_add, Nat.le_refl, Nat.reduceAdd, Nat.reduceLeDiff, co0, z0, zn_0, zn_1, zn_2, zn_3, zn_4, zn_5, zn_8, zn_12, zn_24, zn_121, zn_144, zn_256, zn_300, zn_600, zn_720, zn_1204, zn_1280, zn_2400, zn_4816, zn_14400, zn_90000, q_main, m_main, q_re, e2, ar_4, ar_5, ar_12, ar_300, ar_600, ar_1200, ar_10, nI_add, ar_1, ar_2, ar_3, ar_2m]
    have up : va_up (fun d => if d < i then decide (d = s) else y_re y d) i (decide (i = s)) = fun d => if d < i + 1 then decide (d = s) else y_re y d := by
      funext d
      simp only [va_up]
      by_cases e : d = i
      · rw [if_pos e, if_pos (by omega), e]
      · rw [if_neg e]
        by_cases c : d < i
        · rw [if_pos c, if_pos (by omega)]
        · rw [if_neg c, if_neg (by omega)]
    rw [nI_clamp (by omega), upd_b1, upd_b0, mu_re, mu_re]
    refine ⟨fun h => absurd ((zK (K := 12) (by decide) (n := i) (by omega)).2.1.mp h) (by omega), fun _ => ⟨fun h => ⟨m_k (by decide), vp_in_nI (by omega) (by decide), ?_⟩, fun h => ⟨m_k (by decide), vp_in_nI (by omega) (by decide), ?_⟩⟩⟩
    · rw [show decide (i = s) = false from decide_eq_false (fun q => h (by rw [q]))] at up
      rw [up]
      exact ⟨Or.inl trivial, ih _ _⟩
    · rw [show decide (i = s) = true from decide_eq_true ((nI_eq (by omega) (by omega)).mp h)] at up
      rw [up]
      exact ⟨Or.inr trivial, ih _ _⟩) (fun j4 j5 => by
    refine s_Mo_reach_2 hC hN _ _ _ _ _ ?_
    simp only [B_Mo_reach_0, B_Mo_reach_2, B_Mo_reach_22, B_Mo_reach_23, B_Mo_reach_30, B_Mo_reach_32, B_Mo_reach_41, B_Mo_reach_53, B_Mo_reach_109, B_Mo_reach_115, B_Mo_reach_121, B_Mo_reach_124, co_Mo_isLinked, co_Mo_reach, i_ic, i_lc, i_nul, i_il, i_ll, i_al, i_is, i_as, i_ls, i_inc, i_iadd, i_isub, i_imul, i_iand, i_ior, i_ixor, i_idiv, i_irem, i_ishl, i_ishr, i_ladd, i_lsub, i_land, i_lor, i_i2l, i_lushr, i_lshl, i_lshr, i_lcmp, i_dup, i_pop, i_dx1, i_dup2, i_ifeq, i_ifne, i_iflt, i_ifge, i_ifgt, i_ifle, i_iceq, i_icne, i_iclt, i_icge, i_icgt, i_icle, i_ifn, i_gf, i_pf, i_ial, i_bal, i_lal, i_aal, i_ias, i_las, i_bas, i_aas, i_alen, i_newa, i_new, i_anew, i_cast, i_oi, i_call, i_callV, i_callV2, i_callI, i_iret, i_zret, i_lret, i_vret, i_aret, i_mmx, i_mmn, i_gsE, i_aceq, i_no, i_acq, i_sw, zsw, zlg, zls, znl, zfg, zcs, zsp, zrc, zisn, zft, zc1, zto, Value.category, List.set_cons_zero, List.set_cons_succ, List.length_cons, List.length_nil, Option.toList, List.append, List.nil_append, List.cons_append, true_and, and_true, Nat.add_zero, Nat.zero_le, Nat.zero_add, Nat.le_refl, Nat.reduceAdd, Nat.reduceLeDiff, co0, z0, zn_0, zn_1, zn_2, zn_3, zn_4, zn_5, zn_8, zn_12, zn_24, zn_121, zn_144, zn_256, zn_300, zn_600, zn_720, zn_1204, zn_1280, zn_2400, zn_4816, zn_14400, zn_90000]
    refine ⟨fun _ => out _ _ (Nat.le_refl _) ⟨?_, fun d hd2 hr => ?_, fun d hd2 => ?_⟩ _ _, fun h => absurd (by decide) h⟩
    · rw [if_pos hs]; exact decide_eq_true rfl
    · rw [if_pos hd2] at hr
      rw [of_decide_eq_true hr]
      exact Cn_refl _ _
    · rw [if_neg hd2]) 0 (Nat.zero_le _) none none
  refine s_Mo_reach_0 hC hN _ _ _ _ _ ?_
  simp only [B_Mo_reach_0, B_Mo_reach_2, B_Mo_reach_22, B_Mo_reach_23, B_Mo_reach_30, B_Mo_reach_32, B_Mo_reach_41, B_Mo_reach_53, B_Mo_reach_109, B_Mo_reach_115, B_Mo_reach_121, B_Mo_reach_124, co_Mo_isLinked, co_Mo_reach, i_ic, i_lc, i_nul, i_il, i_ll, i_al, i_is, i_as, i_ls, i_inc, i_iadd, i_isub, i_imul, i_iand, i_ior, i_ixor, i_idiv, i_irem, i_ishl, i_ishr, i_ladd, i_lsub, i_land, i_lor, i_i2l, i_lushr, i_lshl, i_lshr, i_lcmp, i_dup, i_pop, i_dx1, i_dup2, i_ifeq, i_ifne, i_iflt, i_ifge, i_ifgt, i_ifle, i_iceq, i_icne, i_iclt, i_icge, i_icgt, i_icle, i_ifn, i_gf, i_pf, i_ial, i_bal, i_lal, i_aal, i_ias, i_las, i_bas, i_aas, i_alen, i_newa, i_new, i_anew, i_cast, i_oi, i_call, i_callV, i_callV2, i_callI, i_iret, i_zret, i_lret, i_vret, i_aret, i_mmx, i_mmn, i_gsE, i_aceq, i_no, i_acq, i_sw, zsw, zlg, zls, znl, zfg, zcs, zsp, zrc, zisn, zft, zc1, zto, Value.category, List.set_cons_zero, List.set_cons_succ, List.length_cons, List.length_nil, Option.toList, List.append, List.nil_append, List.cons_append, true_and, and_true, Nat.add_zero, Nat.zero_le, Nat.zero_add, Nat.le_refl, Nat.reduceAdd, Nat.reduceLeDiff, co0, z0, zn_0, zn_1, zn_2, zn_3, zn_4, zn_5, zn_8, zn_12, zn_24, zn_121, zn_144, zn_256, zn_300, zn_600, zn_720, zn_1204, zn_1280, zn_2400, zn_4816, zn_14400, zn_90000]
  have e0 : (fun d => if d < 0 then decide (d = s) else y_re y d) = y_re y := by funext d; exact if_neg (Nat.not_lt_zero d)
  rw [e0] at init
  exact init
/-! links, link -/
def cl2 (f : Nat → Int64) (a b k : Nat) : Nat → Int64 := fun j => if (a ≤ j ∧ j < a + k) ∨ (b ≤ j ∧ j < b + k) then 0 else f j
theorem cl2_u (f : Nat → Int64) (a b k : Nat) : vp_updL (vp_updL (cl2 f a b k) (a + k) 0) (b + k) 0 = cl2 f a b (k + 1) := by
  funext j
  simp only [vp_updL, cl2]
  by_cases e1 : j = b + k
  · rw [if_pos e1, if_pos (by omega)]
  · rw [if_neg e1]
    by_cases e2 : j = a + k
    · rw [if_pos e2, if_pos (by omega)]
    · rw [if_neg e2]
      by_cases c : (a ≤ j ∧ j < a + k) ∨ (b ≤ j ∧ j < b + k)
      · rw [if_pos c, if_pos (by omega)]
      · rw [if_neg c, if_neg (by omega)]
theorem cl2_0 (f : Nat → Int64) (a b : Nat) : cl2 f a b 0 = f := by
  funext j
  exact if_neg (by omega)
def lk_k (y : zMS) (u v : Nat) (b : Bool) (k : Nat) : zMS := v_to (v_tb (v_lk y (va_up (va_up (y_lk y) (12 * u + v) b) (12 * v + u) b)) (cl2 (y_tb y) (5 * (12 * u + v)) (5 * (12 * v + u)) k)) (cl2 (y_to y) (5 * (12 * u + v)) (5 * (12 * v + u)) k)
def lk_y (y : zMS) (u v : Nat) (b : Bool) : zMS := lk_k y u v b 5
theorem Jv_lk {y : zMS} {u v : Nat} {b : Bool} (h : Jv y) : Jv (lk_y y u v b) := h
theorem Jv_re {y : zMS} {f : Nat → Bool} (h : Jv y) : Jv (v_re y f) := h
def T_Mo_links (As : List zAV) (M : zMp) (Rt : Option zAV → zMp → Prop) : Prop := ∃ y u v b, As = [.inr (30, 0, 0), .inl (.int (nI u)), .inl (.int (nI v)), .inl (.int (zb b))] ∧ M = mp y ∧ u < 12 ∧ v < 12 ∧ Rt none (mp (lk_y y u v b))
abbrev co_Mo_links := co0
theorem dX7_links_0 : decode cX7_links 0 = .ok (.aload_n 0, 1) := by decide +kernel
theorem dX7_links_1 : decode cX7_links 1 = .ok (.getfield 9, 3) := by decide +kernel
theorem dX7_links_4 : decode cX7_links 4 = .ok (.bipush 12, 2) := by decide +kernel
theorem dX7_links_6 : decode cX7_links 6 = .ok (.iload_n 1, 1) := by decide +kernel
theorem dX7_links_7 : decode cX7_links 7 = .ok (.imul, 1) := by decide +kernel
theorem dX7_links_8 : decode cX7_links 8 = .ok (.iload_n 2, 1) := by decide +kernel
theorem dX7_links_9 : decode cX7_links 9 = .ok (.iadd, 1) := by decide +kernel
theorem dX7_links_10 : decode cX7_links 10 = .ok (.iload_n 3, 1) := by decide +kernel
theorem dX7_links_11 : decode cX7_links 11 = .ok (.bastore, 1) := by decide +kernel
theorem dX7_links_12 : decode cX7_links 12 = .ok (.aload_n 0, 1) := by decide +kernel
theorem dX7_links_13 : decode cX7_links 13 = .ok (.getfield 9, 3) := by decide +kernel
theorem dX7_links_16 : decode cX7_links 16 = .ok (.bipush 12, 2) := by decide +kernel
theorem dX7_links_18 : decode cX7_links 18 = .ok (.iload_n 2, 1) := by decide +kernel
theorem dX7_links_19 : decode cX7_links 19 = .ok (.imul, 1) := by decide +kernel
theorem dX7_links_20 : decode cX7_links 20 = .ok (.iload_n 1, 1) := by decide +kernel
theorem dX7_links_21 : decode cX7_links 21 = .ok (.iadd, 1) := by decide +kernel
theorem dX7_links_22 : decode cX7_links 22 = .ok (.iload_n 3, 1) := by decide +kernel
theorem dX7_links_23 : decode cX7_links 23 = .ok (.bastore, 1) := by decide +kernel
theorem dX7_links_24 : decode cX7_links 24 = .ok (.iconst 0, 1) := by decide +kernel
theorem dX7_links_25 : decode cX7_links 25 = .ok (.istore 4, 2) := by decide +kernel
theorem dX7_links_27 : decode cX7_links 27 = .ok (.iload 4, 2) := by decide +kernel
theorem dX7_links_29 : decode cX7_links 29 = .ok (.iconst 5, 1) := by decide +kernel
theorem dX7_links_30 : decode cX7_links 30 = .ok (.if_icmp .ge 65, 3) := by decide +kernel
theorem dX7_links_33 : decode cX7_links 33 = .ok (.aload_n 0, 1) := by decide +kernel
theorem dX7_links_34 : decode cX7_links 34 = .ok (.getfield 50, 3) := by decide +kernel
theorem dX7_links_37 : decode cX7_links 37 = .ok (.iload_n 1, 1) := by decide +kernel
theorem dX7_links_38 : decode cX7_links 38 = .ok (.iload_n 2, 1) := by decide +kernel
theorem dX7_links_39 : decode cX7_links 39 = .ok (.invokestatic 122, 3) := by decide +kernel
theorem dX7_links_42 : decode cX7_links 42 = .ok (.iload 4, 2) := by decide +kernel
theorem dX7_links_44 : decode cX7_links 44 = .ok (.iadd, 1) := by decide +kernel
theorem dX7_links_45 : decode cX7_links 45 = .ok (.lconst 0, 1) := by decide +kernel
theorem dX7_links_46 : decode cX7_links 46 = .ok (.lastore, 1) := by decide +kernel
theorem dX7_links_47 : decode cX7_links 47 = .ok (.aload_n 0, 1) := by decide +kernel
theorem dX7_links_48 : decode cX7_links 48 = .ok (.getfield 50, 3) := by decide +kernel
theorem dX7_links_51 : decode cX7_links 51 = .ok (.iload_n 2, 1) := by decide +kernel
theorem dX7_links_52 : decode cX7_links 52 = .ok (.iload_n 1, 1) := by decide +kernel
theorem dX7_links_53 : decode cX7_links 53 = .ok (.invokestatic 122, 3) := by decide +kernel
theorem dX7_links_56 : decode cX7_links 56 = .ok (.iload 4, 2) := by decide +kernel
theorem dX7_links_58 : decode cX7_links 58 = .ok (.iadd, 1) := by decide +kernel
theorem dX7_links_59 : decode cX7_links 59 = .ok (.lconst 0, 1) := by decide +kernel
theorem dX7_links_60 : decode cX7_links 60 = .ok (.lastore, 1) := by decide +kernel
theorem dX7_links_61 : decode cX7_links 61 = .ok (.aload_n 0, 1) := by decide +kernel
theorem dX7_links_62 : decode cX7_links 62 = .ok (.getfield 54, 3) := by decide +kernel
theorem dX7_links_65 : decode cX7_links 65 = .ok (.iload_n 1, 1) := by decide +kernel
theorem dX7_links_66 : decode cX7_links 66 = .ok (.iload_n 2, 1) := by decide +kernel
theorem dX7_links_67 : decode cX7_links 67 = .ok (.invokestatic 122, 3) := by decide +kernel
theorem dX7_links_70 : decode cX7_links 70 = .ok (.iload 4, 2) := by decide +kernel
theorem dX7_links_72 : decode cX7_links 72 = .ok (.iadd, 1) := by decide +kernel
theorem dX7_links_73 : decode cX7_links 73 = .ok (.lconst 0, 1) := by decide +kernel
theorem dX7_links_74 : decode cX7_links 74 = .ok (.lastore, 1) := by decide +kernel
theorem dX7_links_75 : decode cX7_links 75 = .ok (.aload_n 0, 1) := by decide +kernel
theorem dX7_links_76 : decode cX7_links 76 = .ok (.getfield 54, 3) := by decide +kernel
theorem dX7_links_79 : decode cX7_links 79 = .ok (.iload_n 2, 1) := by decide +kernel
theorem dX7_links_80 : decode cX7_links 80 = .ok (.iload_n 1, 1) := by decide +kernel
theorem dX7_links_81 : decode cX7_links 81 = .ok (.invokestatic 122, 3) := by decide +kernel
theorem dX7_links_84 : decode cX7_links 84 = .ok (.iload 4, 2) := by decide +kernel
theorem dX7_links_86 : decode cX7_links 86 = .ok (.iadd, 1) := by decide +kernel
theorem dX7_links_87 : decode cX7_links 87 = .ok (.lconst 0, 1) := by decide +kernel
theorem dX7_links_88 : decode cX7_links 88 = .ok (.lastore, 1) := by decide +kernel
theorem dX7_links_89 : decode cX7_links 89 = .ok (.iinc 4 1, 3) := by decide +kernel
theorem dX7_links_92 : decode cX7_links 92 = .ok (.goto (-65), 3) := by decide +kernel
theorem dX7_links_95 : decode cX7_links 95 = .ok (.return_, 1) := by decide +kernel
def B_Mo_links_95 (mc ms : Nat) (Rt : Option zAV → zMp → Prop) (g : Nat → zKT) : zKT :=
  (i_vret mc ms Rt)
set_option maxRecDepth 20000 in
theorem s_Mo_links_95 {X : zMa} {mc ms : Nat} {Rt : Option zAV → zMp → Prop} (hC : zCx X RX7 cX7_links 1 21 mc ms (none) false Rt) (hN : zNL X = 5) : zLe (B_Mo_links_95 mc ms Rt (zG X)) (zG X 95) :=
  (sd_vret hC dX7_links_95)
def B_Mo_links_27 (mc ms : Nat) (Rt : Option zAV → zMp → Prop) (g : Nat → zKT) : zKT :=
  (i_il 4 (i_ic 5 (i_icge (B_Mo_links_95 mc ms Rt g) (i_al 0 (i_gf 8 17 (i_il 1 (i_il 2 (i_call mc ms 2 T_Mo_rowOf co_Mo_rowOf (i_il 4 (i_iadd (i_lc 0 (i_las (i_al 0 (i_gf 8 17 (i_il 2 (i_il 1 (i_call mc ms 2 T_Mo_rowOf co_Mo_rowOf (i_il 4 (i_iadd (i_lc 0 (i_las (i_al 0 (i_gf 8 18 (i_il 1 (i_il 2 (i_call mc ms 2 T_Mo_rowOf co_Mo_rowOf (i_il 4 (i_iadd (i_lc 0 (i_las (i_al 0 (i_gf 8 18 (i_il 2 (i_il 1 (i_call mc ms 2 T_Mo_rowOf co_Mo_rowOf (i_il 4 (i_iadd (i_lc 0 (i_las (i_inc 4 1 (g 27)))))))))))))))))))))))))))))))))))))))))
set_option maxRecDepth 20000 in
theorem s_Mo_links_27 {X : zMa} {mc ms : Nat} {Rt : Option zAV → zMp → Prop} (hC : zCx X RX7 cX7_links 1 21 mc ms (none) false Rt) (hN : zNL X = 5) : zLe (B_Mo_links_27 mc ms Rt (zG X)) (zG X 27) :=
  (sd_il hC dX7_links_27 ((sd_iconst hC (by decide) dX7_links_29 ((sd_icge hC (tgt := 95) (by decide) dX7_links_30 (s_Mo_links_95 hC hN) ((sd_al_n hC rfl dX7_links_33 ((sd_gf hC (ci := 8) (fk := 17) rfl wi_Mo (by decide) fl_Mo_50 (Or.inl rfl) dX7_links_34 ((sd_il_n hC rfl dX7_links_37 ((sd_il_n hC rfl dX7_links_38 ((sd_cS hC c_Mo_rowOf ys_Mo_rowOf ml_Mo_122 (by decide) (by decide) dX7_links_39 ((sd_il hC dX7_links_42 ((sd_iadd hC dX7_links_44 ((sd_lconst hC (by decide) dX7_links_45 ((sd_las hC dX7_links_46 ((sd_al_n hC rfl dX7_links_47 ((sd_gf hC (ci := 8) (fk := 17) rfl wi_Mo (by decide) fl_Mo_50 (Or.inl rfl) dX7_links_48 ((sd_il_n hC rfl dX7_links_51 ((sd_il_n hC rfl dX7_links_52 ((sd_cS hC c_Mo_rowOf ys_Mo_rowOf ml_Mo_122 (by decide) (by decide) dX7_links_53 ((sd_il hC dX7_links_56 ((sd_iadd hC dX7_links_58 ((sd_lconst hC (by decide) dX7_links_59 ((sd_las hC dX7_links_60 ((sd_al_n hC rfl dX7_links_61 ((sd_gf hC (ci := 8) (fk := 18) rfl wi_Mo (by decide) fl_Mo_54 (Or.inl rfl) dX7_links_62 ((sd_il_n hC rfl dX7_links_65 ((sd_il_n hC rfl dX7_links_66 ((sd_cS hC c_Mo_rowOf ys_Mo_rowOf ml_Mo_122 (by decide) (by decide) dX7_links_67 ((sd_il hC dX7_links_70 ((sd_iadd hC dX7_links_72 ((sd_lconst hC (by decide) dX7_links_73 ((sd_las hC dX7_links_74 ((sd_al_n hC rfl dX7_links_75 ((sd_gf hC (ci := 8) (fk := 18) rfl wi_Mo (by decide) fl_Mo_54 (Or.inl rfl) dX7_links_76 ((sd_il_n hC rfl dX7_links_79 ((sd_il_n hC rfl dX7_links_80 ((sd_cS hC c_Mo_rowOf ys_Mo_rowOf ml_Mo_122 (by decide) (by decide) dX7_links_81 ((sd_il hC dX7_links_84 ((sd_iadd hC dX7_links_86 ((sd_lconst hC (by decide) dX7_links_87 ((sd_las hC dX7_links_88 ((sd_inc hC (by decide) (by rw [hN]; decide) dX7_links_89 ((sd_goto hC (tgt := 27) (by decide) dX7_links_92 (zLe_rfl))))))))))))))))))))))))))))))))))))))))))))))))))))))))))))))))))))))))))))))))))
def B_Mo_links_0 (mc ms : Nat) (Rt : Option zAV → zMp → Prop) (g : Nat → zKT) : zKT :=
  (i_al 0 (i_gf 8 4 (i_ic 12 (i_il 1 (i_imul (i_il 2 (i_iadd (i_il 3 (i_bas (i_al 0 (i_gf 8 4 (i_ic 12 (i_il 2 (i_imul (i_il 1 (i_iadd (i_il 3 (i_bas (i_ic 0 (i_is 4 (g 27)))))))))))))))))))))
set_option maxRecDepth 20000 in
theorem s_Mo_links_0 {X : zMa} {mc ms : Nat} {Rt : Option zAV → zMp → Prop} (hC : zCx X RX7 cX7_links 1 21 mc ms (none) false Rt) (hN : zNL X = 5) : zLe (B_Mo_links_0 mc ms Rt (zG X)) (zG X 0) :=
  (sd_al_n hC rfl dX7_links_0 ((sd_gf hC (ci := 8) (fk := 4) rfl wi_Mo (by decide) fl_Mo_9 (Or.inl rfl) dX7_links_1 ((sd_bipush hC (by decide) dX7_links_4 ((sd_il_n hC rfl dX7_links_6 ((sd_imul hC dX7_links_7 ((sd_il_n hC rfl dX7_links_8 ((sd_iadd hC dX7_links_9 ((sd_il_n hC rfl dX7_links_10 ((sd_bas hC dX7_links_11 ((sd_al_n hC rfl dX7_links_12 ((sd_gf hC (ci := 8) (fk := 4) rfl wi_Mo (by decide) fl_Mo_9 (Or.inl rfl) dX7_links_13 ((sd_bipush hC (by decide) dX7_links_16 ((sd_il_n hC rfl dX7_links_18 ((sd_imul hC dX7_links_19 ((sd_il_n hC rfl dX7_links_20 ((sd_iadd hC dX7_links_21 ((sd_il_n hC rfl dX7_links_22 ((sd_bas hC dX7_links_23 ((sd_iconst hC (by decide) dX7_links_24 ((sd_is hC (by rw [hN]; decide) dX7_links_25 (zLe_rfl))))))))))))))))))))))))))))))))))))))))
theorem c_Mo_links (l : Launch) : zCT l yX7_links cX7_links 5 (none) 1 21 T_Mo_links co_Mo_links := by
  intro As M Rt hT
  obtain ⟨y, u, v, b, rfl, rfl, hu, hv, hR⟩ := hT
  refine zMet_of false (by decide +kernel) (fun h => by first | rfl | cases h) (Nat.le_of_ble_eq_true rfl) (fun X hN hC => ?_)
  show zG X 0 [some (.inr (30, 0, 0)), some (.inl (.int (nI u))), some (.inl (.int (nI v))), some (.inl (.int (zb b))), none] [] (mp y) 0 0
  have loop := five (P := fun k => zG X 27 [some (.inr (30, 0, 0)), some (.inl (.int (nI u))), some (.inl (.int (nI v))), some (.inl (.int (zb b))), some (.inl (.int (nI k)))] [] (mp (lk_k y u v b k)) 0 0) (fun k hk ih => by
    refine s_Mo_links_27 hC hN _ _ _ _ _ ?_
    simp only [B_Mo_links_0, B_Mo_links_27, B_Mo_links_95, co_Mo_links, co_Mo_rowOf, i_ic, i_lc, i_nul, i_il, i_ll, i_al, i_is, i_as, i_ls, i_inc, i_iadd, i_isub, i_imul, i_iand, i_ior, i_ixor, i_idiv, i_irem, i_ishl, i_ishr, i_ladd, i_lsub, i_land, i_lor, i_i2l, i_lushr, i_lshl, i_lshr, i_lcmp, i_dup, i_pop, i_dx1, i_dup2, i_ifeq, i_ifne, i_iflt, i_ifge, i_ifgt, i_ifle, i_iceq, i_icne, i_iclt, i_icge, i_icgt, i_icle, i_ifn, i_gf, i_pf, i_ial, i_bal, i_lal, i_aal, i_ias, i_las, i_bas, i_aas, i_alen, i_newa, i_new, i_anew, i_cast, i_oi, i_call, i_callV, i_callV2, i_callI, i_iret, i_zret, i_lret, i_vret, i_aret, i_mmx, i_mmn, i_gsE, i_aceq, i_no, i_acq, i_sw, zsw, zlg, zls, znl, zfg, zcs, zsp, zrc, zisn, zft, zc1, zto, Value.category, List.set_cons_zero, List.set_cons_succ, List.length_cons, List.length_nil, Option.toList, List.append, List.nil_append, List.cons_append, true_and, and_true, Nat.add_zero, Nat.zero_le, Nat.zero_add, Nat.le_refl, Nat.reduceAdd, Nat.reduceLeDiff, co0, z0, zn_0, zn_1, zn_2, zn_3, zn_4, zn_5, zn_8, zn_12, zn_24, zn_121, zn_144, zn_256, zn_300, zn_600, zn_720, zn_1204, zn_1280, zn_2400, zn_4816, zn_14400, zn_90000, q_main, m_main, q_tb, ar_4, ar_5, ar_12, ar_300, ar_600, ar_1200, ar_10, nI_add, ar_1, ar_2, ar_3, ar_2m]
    refine ⟨fun h => absurd ((zK (K := 5) (by decide) (n := k) (by omega)).2.1.mp h) (by omega), fun _ => ⟨u, v, rfl, ?_⟩⟩
    have f1 : y_tb (lk_k y u v b k) = cl2 (y_tb y) (5 * (12 * u + v)) (5 * (12 * v + u)) k := rfl
    have f2 : y_to (lk_k y u v b k) = cl2 (y_to y) (5 * (12 * u + v)) (5 * (12 * v + u)) k := rfl
    simp only [B_Mo_links_0, B_Mo_links_27, B_Mo_links_95, co_Mo_links, co_Mo_rowOf, i_ic, i_lc, i_nul, i_il, i_ll, i_al, i_is, i_as, i_ls, i_inc, i_iadd, i_isub, i_imul, i_iand, i_ior, i_ixor, i_idiv, i_irem, i_ishl, i_ishr, i_ladd, i_lsub, i_land, i_lor, i_i2l, i_lushr, i_lshl, i_lshr, i_lcmp, i_dup, i_pop, i_dx1, i_dup2, i_ifeq, i_ifne, i_iflt, i_ifge, i_ifgt, i_ifle, i_iceq, i_icne, i_iclt, i_icge, i_icgt, i_icle, i_ifn, i_gf, i_pf, i_ial, i_bal, i_lal, i_aal, i_ias, i_las, i_bas, i_aas, i_alen, i_newa, i_new, i_anew, i_cast, i_oi, i_call, i_callV, i_callV2, i_callI, i_iret, i_zret, i_lret, i_vret, i_aret, i_mmx, i_mmn, i_gsE, i_aceq, i_no, i_acq, i_sw, zsw, zlg, zls, znl, zfg, zcs, zsp, zrc, zisn, zft, zc1, zto, Value.category, List.set_cons_zero, List.set_cons_succ, List.length_cons, List.length_nil, Option.toList, List.append, List.nil_append, List.cons_append, true_and, and_true, Nat.add_zero, Nat.zero_le, Nat.zero_add, Nat.le_refl, Nat.reduceAdd, Nat.reduceLeDiff, co0, z0, zn_0, zn_1, zn_2, zn_3, zn_4, zn_5, zn_8, zn_12, zn_24, zn_121, zn_144, zn_256, zn_300, zn_600, zn_720, zn_1204, zn_1280, zn_2400, zn_4816, zn_14400, zn_90000, q_main, m_main, q_tb, ar_4, ar_5, ar_12, ar_300, ar_600, ar_1200, ar_10, nI_add, ar_1, ar_2, ar_3, ar_2m]
    rw [nI_clamp (by omega), f1, mu_tb]
    refine ⟨m_k (by decide), vp_in_nI (by omega) (by decide), ?_⟩
    simp only [B_Mo_links_0, B_Mo_links_27, B_Mo_links_95, co_Mo_links, co_Mo_rowOf, i_ic, i_lc, i_nul, i_il, i_ll, i_al, i_is, i_as, i_ls, i_inc, i_iadd, i_isub, i_imul, i_iand, i_ior, i_ixor, i_idiv, i_irem, i_ishl, i_ishr, i_ladd, i_lsub, i_land, i_lor, i_i2l, i_lushr, i_lshl, i_lshr, i_lcmp, i_dup, i_pop, i_dx1, i_dup2, i_ifeq, i_ifne, i_iflt, i_ifge, i_ifgt, i_ifle, i_iceq, i_icne, i_iclt, i_icge, i_icgt, i_icle, i_ifn, i_gf, i_pf, i_ial, i_bal, i_lal, i_aal, i_ias, i_las, i_bas, i_aas, i_alen, i_newa, i_new, i_anew, i_cast, i_oi, i_call, i_callV, i_callV2, i_callI, i_iret, i_zret, i_lret, i_vret, i_aret, i_mmx, i_mmn, i_gsE, i_aceq, i_no, i_acq, i_sw, zsw, zlg, zls, znl, zfg, zcs, zsp, zrc, zisn, zft, zc1, zto, Value.category, List.set_cons_zero, List.set_cons_succ, List.length_cons, List.length_nil, Option.toList, List.append, List.nil_append, List.cons_append, true_and, and_true, Nat.add_zero, Nat.zero_le, Nat.zero_add, Nat.le_refl, Nat.reduceAdd, Nat.reduceLeDiff, co0, z0, zn_0, zn_1, zn_2, zn_3, zn_4, zn_5, zn_8, zn_12, zn_24, zn_121, zn_144, zn_256, zn_300, zn_600, zn_720, zn_1204, zn_1280, zn_2400, zn_4816, zn_14400, zn_90000, q_main, m_main, q_tb, ar_4, ar_5, ar_12, ar_300, ar_600, ar_1200, ar_10, nI_add, ar_1, ar_2, ar_3, ar_2m]
    refine ⟨v, u, rfl, ?_⟩
    have f3 : ∀ g, y_tb (v_tb (lk_k y u v b k) g) = g := fun _ => rfl
    simp only [B_Mo_links_0, B_Mo_links_27, B_Mo_links_95, co_Mo_links, co_Mo_rowOf, i_ic, i_lc, i_nul, i_il, i_ll, i_al, i_is, i_as, i_ls, i_inc, i_iadd, i_isub, i_imul, i_iand, i_ior, i_ixor, i_idiv, i_irem, i_ishl, i_ishr, i_ladd, i_lsub, i_land, i_lor, i_i2l, i_lushr, i_lshl, i_lshr, i_lcmp, i_dup, i_pop, i_dx1, i_dup2, i_ifeq, i_ifne, i_iflt, i_ifge, i_ifgt, i_ifle, i_iceq, i_icne, i_iclt, i_icge, i_icgt, i_icle, i_ifn, i_gf, i_pf, i_ial, i_bal, i_lal, i_aal, i_ias, i_las, i_bas, i_aas, i_alen, i_newa, i_new, i_anew, i_cast, i_oi, i_call, i_callV, i_callV2, i_callI, i_iret, i_zret, i_lret, i_vret, i_aret, i_mmx, i_mmn, i_gsE, i_aceq, i_no, i_acq, i_sw, zsw, zlg, zls, znl, zfg, zcs, zsp, zrc, zisn, zft, zc1, zto, Value.category, List.set_cons_zero, List.set_cons_succ, List.length_cons, List.length_nil, Option.toList, List.append, List.nil_append, List.cons_append, true_and, and_true, Nat.add_zero, Nat.zero_le, Nat.zero_add, Nat.le_refl, Nat.reduceAdd, Nat.reduceLeDiff, co0, z0, zn_0, zn_1, zn_2, zn_3, zn_4, zn_5, zn_8, zn_12, zn_24, zn_121, zn_144, zn_256, zn_300, zn_600, zn_720, zn_1204, zn_1280, zn_2400, zn_4816, zn_14400, zn_90000, q_main, m_main, q_tb, ar_4, ar_5, ar_12, ar_300, ar_600, ar_1200, ar_10, nI_add, ar_1, ar_2, ar_3, ar_2m]
    rw [nI_clamp (by omega), f3, cl2_u, mu_tb]
    refine ⟨m_k (by decide), vp_in_nI (by omega) (by decide), ?_⟩
    simp only [B_Mo_links_0, B_Mo_links_27, B_Mo_links_95, co_Mo_links, co_Mo_rowOf, i_ic, i_lc, i_nul, i_il, i_ll, i_al, i_is, i_as, i_ls, i_inc, i_iadd, i_isub, i_imul, i_iand, i_ior, i_ixor, i_idiv, i_irem, i_ishl, i_ishr, i_ladd, i_lsub, i_land, i_lor, i_i2l, i_lushr, i_lshl, i_lshr, i_lcmp, i_dup, i_pop, i_dx1, i_dup2, i_ifeq, i_ifne, i_iflt, i_ifge, i_ifgt, i_ifle, i_iceq, i_icne, i_iclt, i_icge, i_icgt, i_icle, i_ifn, i_gf, i_pf, i_ial, i_bal, i_lal, i_aal, i_ias, i_las, i_bas, i_aas, i_alen, i_newa, i_new, i_anew, i_cast, i_oi, i_call, i_callV, i_callV2, i_callI, i_iret, i_zret, i_lret, i_vret, i_aret, i_mmx, i_mmn, i_gsE, i_aceq, i_no, i_acq, i_sw, zsw, zlg, zls, znl, zfg, zcs, zsp, zrc, zisn, zft, zc1, zto, Value.category, List.set_cons_zero, List.set_cons_succ, List.length_cons, List.length_nil, Option.toList, List.append, List.nil_append, List.cons_append, true_and, and_true, Nat.add_zero, Nat.zero_le, Nat.zero_add, Nat.le_refl, Nat.reduceAdd, Nat.reduceLeDiff, co0, z0, zn_0, zn_1, zn_2, zn_3, zn_4, zn_5, zn_8, zn_12, zn_24, zn_121, zn_144, zn_256, zn_300, zn_600, zn_720, zn_1204, zn_1280, zn_2400, zn_4816, zn_14400, zn_90000, q_main, m_main, q_to, ar_4, ar_5, ar_12, ar_300, ar_600, ar_1200, ar_10, nI_add, ar_1, ar_2, ar_3, ar_2m]
    refine ⟨u, v, rfl, ?_⟩
    obtain ⟨z, hz⟩ : ∃ z, z = v_tb (v_tb (lk_k y u v b k) (vp_updL (cl2 (y_tb y) (5 * (12 * u + v)) (5 * (12 * v + u)) k) (5 * (12 * u + v) + k) 0)) (cl2 (y_tb y) (5 * (12 * u + v)) (5 * (12 * v + u)) (k + 1)) := ⟨_, rfl⟩
    rw [← hz]
    have f4 : y_to z = cl2 (y_to y) (5 * (12 * u + v)) (5 * (12 * v + u)) k := by rw [hz]; rfl
    simp only [B_Mo_links_0, B_Mo_links_27, B_Mo_links_95, co_Mo_links, co_Mo_rowOf, i_ic, i_lc, i_nul, i_il, i_ll, i_al, i_is, i_as, i_ls, i_inc, i_iadd, i_isub, i_imul, i_iand, i_ior, i_ixor, i_idiv, i_irem, i_ishl, i_ishr, i_ladd, i_lsub, i_land, i_lor, i_i2l, i_lushr, i_lshl, i_lshr, i_lcmp, i_dup, i_pop, i_dx1, i_dup2, i_ifeq, i_ifne, i_iflt, i_ifge, i_ifgt, i_ifle, i_iceq, i_icne, i_iclt, i_icge, i_icgt, i_icle, i_ifn, i_gf, i_pf, i_ial, i_bal, i_lal, i_aal, i_ias, i_las, i_bas, i_aas, i_alen, i_newa, i_new, i_anew, i_cast, i_oi, i_call, i_callV, i_callV2, i_callI, i_iret, i_zret, i_lret, i_vret, i_aret, i_mmx, i_mmn, i_gsE, i_aceq, i_no, i_acq, i_sw, zsw, zlg, zls, znl, zfg, zcs, zsp, zrc, zisn, zft, zc1, zto, Value.category, List.set_cons_zero, List.set_cons_succ, List.length_cons, List.length_nil, Option.toList, List.append, List.nil_append, List.cons_append, true_and, and_true, Nat.add_zero, Nat.zero_le, Nat.zero_add, Nat.le_refl, Nat.reduceAdd, Nat.reduceLeDiff, co0, z0, zn_0, zn_1, zn_2, zn_3, zn_4, zn_5, zn_8, zn_12, zn_24, zn_121, zn_144, zn_256, zn_300, zn_600, zn_720, zn_1204, zn_1280, zn_2400, zn_4816, zn_14400, zn_90000, q_main, m_main, q_to, ar_4, ar_5, ar_12, ar_300, ar_600, ar_1200, ar_10, nI_add, ar_1, ar_2, ar_3, ar_2m]
    rw [nI_clamp (by omega), f4, mu_to]
    refine ⟨m_k (by decide), vp_in_nI (by omega) (by decide), ?_⟩
    simp only [B_Mo_links_0, B_Mo_links_27, B_Mo_links_95, co_Mo_links, co_Mo_rowOf, i_ic, i_lc, i_nul, i_il, i_ll, i_al, i_is, i_as, i_ls, i_inc, i_iadd, i_isub, i_imul, i_iand, i_ior, i_ixor, i_idiv, i_irem, i_ishl, i_ishr, i_ladd, i_lsub, i_land, i_lor, i_i2l, i_lushr, i_lshl, i_lshr, i_lcmp, i_dup, i_pop, i_dx1, i_dup2, i_ifeq, i_ifne, i_iflt, i_ifge, i_ifgt, i_ifle, i_iceq, i_icne, i_iclt, i_icge, i_icgt, i_icle, i_ifn, i_gf, i_pf, i_ial, i_bal, i_lal, i_aal, i_ias, i_las, i_bas, i_aas, i_alen, i_newa, i_new, i_anew, i_cast, i_oi, i_call, i_callV, i_callV2, i_callI, i_iret, i_zret, i_lret, i_vret, i_aret, i_mmx, i_mmn, i_gsE, i_aceq, i_no, i_acq, i_sw, zsw, zlg, zls, znl, zfg, zcs, zsp, zrc, zisn, zft, zc1, zto, Value.category, List.set_cons_zero, List.set_cons_succ, List.length_cons, List.length_nil, Option.toList, List.append, List.nil_append, List.cons_append, true_and, and_true, Nat.add_zero, Nat.zero_le, Nat.zero_add, Nat.le_refl, Nat.reduceAdd, Nat.reduceLeDiff, co0, z0, zn_0, zn_1, zn_2, zn_3, zn_4, zn_5, zn_8, zn_12, zn_24, zn_121, zn_144, zn_256, zn_300, zn_600, zn_720, zn_1204, zn_1280, zn_2400, zn_4816, zn_14400, zn_90000, q_main, m_main, q_to, ar_4, ar_5, ar_12, ar_300, ar_600, ar_1200, ar_10, nI_add, ar_1, ar_2, ar_3, ar_2m]
    refine ⟨v, u, rfl, ?_⟩
    have f5 : ∀ g, y_to (v_to z g) = g := fun _ => rfl
    simp only [B_Mo_links_0, B_Mo_links_27, B_Mo_links_95, co_Mo_links, co_Mo_rowOf, i_ic, i_lc, i_nul, i_il, i_ll, i_al, i_is, i_as, i_ls, i_inc, i_iadd, i_isub, i_imul, i_iand, i_ior, i_ixor, i_idiv, i_irem, i_ishl, i_ishr, i_ladd, i_lsub, i_land, i_lor, i_i2l, i_lushr, i_lshl, i_lshr, i_lcmp, i_dup, i_pop, i_dx1, i_dup2, i_ifeq, i_ifne, i_iflt, i_ifge, i_ifgt, i_ifle, i_iceq, i_icne, i_iclt, i_icge, i_icgt, i_icle, i_ifn, i_gf, i_pf, i_ial, i_bal, i_lal, i_aal, i_ias, i_las, i_bas, i_aas, i_alen, i_newa, i_new, i_anew, i_cast, i_oi, i_call, i_callV, i_callV2, i_callI, i_iret, i_zret, i_lret, i_vret, i_aret, i_mmx, i_mmn, i_gsE, i_aceq, i_no, i_acq, i_sw, zsw, zlg, zls, znl, zfg, zcs, zsp, zrc, zisn, zft, zc1, zto, Value.category, List.set_cons_zero, List.set_cons_succ, List.length_cons, List.length_nil, Option.toList, List.append, List.nil_append, List.cons_append, true_and, and_true, Nat.add_zero, Nat.zero_le, Nat.zero_add, Nat.le_refl, Nat.reduceAdd, Nat.reduceLeDiff, co0, z0, zn_0, zn_1, zn_2, zn_3, zn_4, zn_5, zn_8, zn_12, zn_24, zn_121, zn_144, zn_256, zn_300, zn_600, zn_720, zn_1204, zn_1280, zn_2400, zn_4816, zn_14400, zn_90000, q_main, m_main, q_to, ar_4, ar_5, ar_12, ar_300, ar_600, ar_1200, ar_10, nI_add, ar_1, ar_2, ar_3, ar_2m]
    rw [nI_clamp (by omega), f5, cl2_u, mu_to]
    refine ⟨m_k (by decide), vp_in_nI (by omega) (by decide), ?_⟩
    rw [hz]
    exact ih) (by
    refine s_Mo_links_27 hC hN _ _ _ _ _ ?_
    simp only [B_Mo_links_0, B_Mo_links_27, B_Mo_links_95, co_Mo_links, co_Mo_rowOf, i_ic, i_lc, i_nul, i_il, i_ll, i_al, i_is, i_as, i_ls, i_inc, i_iadd, i_isub, i_imul, i_iand, i_ior, i_ixor, i_idiv, i_irem, i_ishl, i_ishr, i_ladd, i_lsub, i_land, i_lor, i_i2l, i_lushr, i_lshl, i_lshr, i_lcmp, i_dup, i_pop, i_dx1, i_dup2, i_ifeq, i_ifne, i_iflt, i_ifge, i_ifgt, i_ifle, i_iceq, i_icne, i_iclt, i_icge, i_icgt, i_icle, i_ifn, i_gf, i_pf, i_ial, i_bal, i_lal, i_aal, i_ias, i_las, i_bas, i_aas, i_alen, i_newa, i_new, i_anew, i_cast, i_oi, i_call, i_callV, i_callV2, i_callI, i_iret, i_zret, i_lret, i_vret, i_aret, i_mmx, i_mmn, i_gsE, i_aceq, i_no, i_acq, i_sw, zsw, zlg, zls, znl, zfg, zcs, zsp, zrc, zisn, zft, zc1, zto, Value.category, List.set_cons_zero, List.set_cons_succ, List.length_cons, List.length_nil, Option.toList, List.append, List.nil_append, List.cons_append, true_and, and_true, Nat.add_zero, Nat.zero_le, Nat.zero_add, Nat.le_refl, Nat.reduceAdd, Nat.reduceLeDiff, co0, z0, zn_0, zn_1, zn_2, zn_3, zn_4, zn_5, zn_8, zn_12, zn_24, zn_121, zn_144, zn_256, zn_300, zn_600, zn_720, zn_1204, zn_1280, zn_2400, zn_4816, zn_14400, zn_90000]
    exact ⟨fun _ => hR, fun h => absurd (by decide) h⟩)
  have e0 : lk_k y u v b 0 = v_lk y (va_up (va_up (y_lk y) (12 * u + v) b) (12 * v + u) b) := by
    unfold lk_k
    rw [cl2_0, cl2_0]
    rfl
  rw [e0] at loop
  refine s_Mo_links_0 hC hN _ _ _ _ _ ?_
  simp only [B_Mo_links_0, B_Mo_links_27, B_Mo_links_95, co_Mo_links, co_Mo_rowOf, i_ic, i_lc, i_nul, i_il, i_ll, i_al, i_is, i_as, i_ls, i_inc, i_iadd, i_isub, i_imul, i_iand, i_ior, i_ixor, i_idiv, i_irem, i_ishl, i_ishr, i_ladd, i_lsub, i_land, i_lor, i_i2l, i_lushr, i_lshl, i_lshr, i_lcmp, i_dup, i_pop, i_dx1, i_dup2, i_ifeq, i_ifne, i_iflt, i_ifge, i_ifgt, i_ifle, i_iceq, i_icne, i_iclt, i_icge, i_icgt, i_icle, i_ifn, i_gf, i_pf, i_ial, i_bal, i_lal, i_aal, i_ias, i_las, i_bas, i_aas, i_alen, i_newa, i_new, i_anew, i_cast, i_oi, i_call, i_callV, i_callV2, i_callI, i_iret, i_zret, i_lret, i_vret, i_aret, i_mmx, i_mmn, i_gsE, i_aceq, i_no, i_acq, i_sw, zsw, zlg, zls, znl, zfg, zcs, zsp, zrc, zisn, zft, zc1, zto, Value.category, List.set_cons_zero, List.set_cons_succ, List.length_cons, List.length_nil, Option.toList, List.append, List.nil_append, List.cons_append, true_and, and_true, Nat.add_zero, Nat.zero_le, Nat.zero_add, Nat.le_refl, Nat.reduceAdd, Nat.reduceLeDiff, co0, z0, zn_0, zn_1, zn_2, zn_3, zn_4, zn_5, zn_8, zn_12, zn_24, zn_121, zn_144, zn_256, zn_300, zn_600, zn_720, zn_1204, zn_1280, zn_2400, zn_4816, zn_14400, zn_90000, q_main, m_main, q_lk, ar_4, ar_5, ar_12, ar_300, ar_600, ar_1200, ar_10, nI_add, ar_1, ar_2, ar_3, ar_2m]
  rw [nI_clamp (by omega), upd_bo, mu_lk]
  refine ⟨m_k (by decide), vp_in_nI (by omega) (by decide), zb_01 _, ?_⟩
  simp only [i_ic, i_lc, i_nul, i_il, i_ll, i_al, i_is, i_as, i_ls, i_inc, i_iadd, i_isub, i_imul, i_iand, i_ior, i_ixor, i_idiv, i_irem, i_ishl, i_ishr, i_ladd, i_lsub, i_land, i_lor, i_i2l, i_lushr, i_lshl, i_lshr, i_lcmp, i_dup, i_pop, i_dx1, i_dup2, i_ifeq, i_ifne, i_iflt, i_ifge, i_ifgt, i_ifle, i_iceq, i_icne, i_iclt, i_icge, i_icgt, i_icle, i_ifn, i_gf, i_pf, i_ial, i_bal, i_lal, i_aal, i_ias, i_las, i_bas, i_aas, i_alen, i_newa, i_new, i_anew, i_cast, i_oi, i_call, i_callV, i_callV2, i_callI, i_iret, i_zret, i_lret, i_vret, i_aret, i_mmx, i_mmn, i_gsE, i_aceq, i_no, i_acq, i_sw, zsw, zlg, zls, znl, zfg, zcs, zsp, zrc, zisn, zft, zc1, zto, Value.category, List.set_cons_zero, List.set_cons_succ, List.length_cons, List.length_nil, Option.toList, List.append, List.nil_append, List.cons_append, true_and, and_true, Nat.add_zero, Nat.zero_le, Nat.zero_add, Nat.le_refl, Nat.reduceAdd, Nat.reduceLeDiff, co0, z0, zn_0, zn_1, zn_2, zn_3, zn_4, zn_5, zn_8, zn_12, zn_24, zn_121, zn_144, zn_256, zn_300, zn_600, zn_720, zn_1204, zn_1280, zn_2400, zn_4816, zn_14400, zn_90000, q_main, m_main, q_lk]
  rw [nI_clamp (by omega), upd_bo, mu_lk]
  exact ⟨m_k (by decide), vp_in_nI (by omega) (by decide), zb_01 _, loop⟩
/-- tells cost what the lists grow -/
def tl_c (y0 y : zMS) (c1 c2 : Nat) : Prop := y_cp (tl y) - y_cp y0 ≤ c1 ∧ 16 * (y_cp (tl y) - y_cp y0) ≤ c2
def T_Mo_link (As : List zAV) (M : zMp) (Rt : Option zAV → zMp → Prop) (c1 c2 : Nat) : Prop := ∃ y u v, As = [.inr (30, 0, 0), .inl (.int u), .inl (.int v)] ∧ M = mp y ∧ Jv y ∧ (¬ (isn (y_dk y) u = true ∧ isn (y_dk y) v = true) → Rt (some (.inl (.int (-2)))) M) ∧ (∀ a b, a < y_dk y → b < y_dk y → u = nI a → v = nI b → Cn (rE y (-1)) a b → Rt (some (.inl (.int (-4)))) (mp (v_re y (re_x y a (-1))))) ∧ (∀ a b, a < y_dk y → b < y_dk y → u = nI a → v = nI b → ¬ Cn (rE y (-1)) a b → tl_ok (lk_y (v_re y (re_x y a (-1))) a b true) ∧ tl_c y (lk_y (v_re y (re_x y a (-1))) a b true) c1 c2 ∧ Rt (some (.inl (.int 0))) (mp (tl (lk_y (v_re y (re_x y a (-1))) a b true))))
theorem dX7_link_0 : decode cX7_link 0 = .ok (.aload_n 0, 1) := by decide +kernel
theorem dX7_link_1 : decode cX7_link 1 = .ok (.iload_n 1, 1) := by decide +kernel
theorem dX7_link_2 : decode cX7_link 2 = .ok (.invokevirtual 143, 3) := by decide +kernel
theorem dX7_link_5 : decode cX7_link 5 = .ok (.ifCond .eq 11, 3) := by decide +kernel
theorem dX7_link_8 : decode cX7_link 8 = .ok (.aload_n 0, 1) := by decide +kernel
theorem dX7_link_9 : decode cX7_link 9 = .ok (.iload_n 2, 1) := by decide +kernel
theorem dX7_link_10 : decode cX7_link 10 = .ok (.invokevirtual 143, 3) := by decide +kernel
theorem dX7_link_13 : decode cX7_link 13 = .ok (.ifCond .ne 6, 3) := by decide +kernel
theorem dX7_link_16 : decode cX7_link 16 = .ok (.bipush (-2), 2) := by decide +kernel
theorem dX7_link_18 : decode cX7_link 18 = .ok (.ireturn, 1) := by decide +kernel
theorem dX7_link_19 : decode cX7_link 19 = .ok (.aload_n 0, 1) := by decide +kernel
theorem dX7_link_20 : decode cX7_link 20 = .ok (.iload_n 1, 1) := by decide +kernel
theorem dX7_link_21 : decode cX7_link 21 = .ok (.iconst (-1), 1) := by decide +kernel
theorem dX7_link_22 : decode cX7_link 22 = .ok (.invokevirtual 147, 3) := by decide +kernel
theorem dX7_link_25 : decode cX7_link 25 = .ok (.aload_n 0, 1) := by decide +kernel
theorem dX7_link_26 : decode cX7_link 26 = .ok (.getfield 85, 3) := by decide +kernel
theorem dX7_link_29 : decode cX7_link 29 = .ok (.iload_n 2, 1) := by decide +kernel
theorem dX7_link_30 : decode cX7_link 30 = .ok (.baload, 1) := by decide +kernel
theorem dX7_link_31 : decode cX7_link 31 = .ok (.ifCond .eq 6, 3) := by decide +kernel
theorem dX7_link_34 : decode cX7_link 34 = .ok (.bipush (-4), 2) := by decide +kernel
theorem dX7_link_36 : decode cX7_link 36 = .ok (.ireturn, 1) := by decide +kernel
theorem dX7_link_37 : decode cX7_link 37 = .ok (.aload_n 0, 1) := by decide +kernel
theorem dX7_link_38 : decode cX7_link 38 = .ok (.iload_n 1, 1) := by decide +kernel
theorem dX7_link_39 : decode cX7_link 39 = .ok (.iload_n 2, 1) := by decide +kernel
theorem dX7_link_40 : decode cX7_link 40 = .ok (.iconst 1, 1) := by decide +kernel
theorem dX7_link_41 : decode cX7_link 41 = .ok (.invokevirtual 150, 3) := by decide +kernel
theorem dX7_link_44 : decode cX7_link 44 = .ok (.aload_n 0, 1) := by decide +kernel
theorem dX7_link_45 : decode cX7_link 45 = .ok (.invokevirtual 154, 3) := by decide +kernel
theorem dX7_link_48 : decode cX7_link 48 = .ok (.iconst 0, 1) := by decide +kernel
theorem dX7_link_49 : decode cX7_link 49 = .ok (.ireturn, 1) := by decide +kernel
def B_Mo_link_37 (mc ms : Nat) (Rt : Option zAV → zMp → Prop) (g : Nat → zKT) : zKT :=
  (i_al 0 (i_il 1 (i_il 2 (i_ic 1 (i_callV mc ms 8 4 T_Mo_links co_Mo_links (i_al 0 (i_callV2 mc ms 8 1 T_Mo_tells (i_ic 0 (i_iret mc ms Rt)))))))))
set_option maxRecDepth 20000 in
theorem s_Mo_link_37 {X : zMa} {mc ms : Nat} {Rt : Option zAV → zMp → Prop} (hC : zCx X RX7 cX7_link 3 73 mc ms (some .int) false Rt) : zLe (B_Mo_link_37 mc ms Rt (zG X)) (zG X 37) :=
  (sd_al_n hC rfl dX7_link_37 ((sd_il_n hC rfl dX7_link_38 ((sd_il_n hC rfl dX7_link_39 ((sd_iconst hC (by decide) dX7_link_40 ((sd_cV hC c_Mo_links yv_Mo_links (ci := 8) rfl rfl ml_Mo_150 (by decide) (by decide) dX7_link_41 ((sd_al_n hC rfl dX7_link_44 ((sd_cV2 hC c_Mo_tells yv_Mo_tells (ci := 8) rfl rfl ml_Mo_154 (by decide) (by decide) dX7_link_45 ((sd_iconst hC (by decide) dX7_link_48 ((sd_iret hC dX7_link_49)))))))))))))))))
def B_Mo_link_19 (mc ms : Nat) (Rt : Option zAV → zMp → Prop) (g : Nat → zKT) : zKT :=
  (i_al 0 (i_il 1 (i_ic (-1) (i_callV mc ms 8 3 T_Mo_reach co_Mo_reach (i_al 0 (i_gf 8 32 (i_il 2 (i_bal (i_ifeq (B_Mo_link_37 mc ms Rt g) (i_ic (-4) (i_iret mc ms Rt)))))))))))
set_option maxRecDepth 20000 in
theorem s_Mo_link_19 {X : zMa} {mc ms : Nat} {Rt : Option zAV → zMp → Prop} (hC : zCx X RX7 cX7_link 3 73 mc ms (some .int) false Rt) : zLe (B_Mo_link_19 mc ms Rt (zG X)) (zG X 19) :=
  (sd_al_n hC rfl dX7_link_19 ((sd_il_n hC rfl dX7_link_20 ((sd_iconst hC (by decide) dX7_link_21 ((sd_cV hC c_Mo_reach yv_Mo_reach (ci := 8) rfl rfl ml_Mo_147 (by decide) (by decide) dX7_link_22 ((sd_al_n hC rfl dX7_link_25 ((sd_gf hC (ci := 8) (fk := 32) rfl wi_Mo (by decide) fl_Mo_85 (Or.inl rfl) dX7_link_26 ((sd_il_n hC rfl dX7_link_29 ((sd_bal hC dX7_link_30 ((sd_ifeq hC (tgt := 37) (by decide) dX7_link_31 (s_Mo_link_37 hC) ((sd_bipush hC (by decide) dX7_link_34 ((sd_iret hC dX7_link_36)))))))))))))))))))))
def B_Mo_link_16 (mc ms : Nat) (Rt : Option zAV → zMp → Prop) (g : Nat → zKT) : zKT :=
  (i_ic (-2) (i_iret mc ms Rt))
set_option maxRecDepth 20000 in
theorem s_Mo_link_16 {X : zMa} {mc ms : Nat} {Rt : Option zAV → zMp → Prop} (hC : zCx X RX7 cX7_link 3 73 mc ms (some .int) false Rt) : zLe (B_Mo_link_16 mc ms Rt (zG X)) (zG X 16) :=
  (sd_bipush hC (by decide) dX7_link_16 ((sd_iret hC dX7_link_18)))
def B_Mo_link_0 (mc ms : Nat) (Rt : Option zAV → zMp → Prop) (g : Nat → zKT) : zKT :=
  (i_al 0 (i_il 1 (i_callV mc ms 8 2 T_Mo_isDesk co_Mo_isDesk (i_ifeq (B_Mo_link_16 mc ms Rt g) (i_al 0 (i_il 2 (i_callV mc ms 8 2 T_Mo_isDesk co_Mo_isDesk (i_ifne (B_Mo_link_19 mc ms Rt g) (B_Mo_link_16 mc ms Rt g)))))))))
set_option maxRecDepth 20000 in
theorem s_Mo_link_0 {X : zMa} {mc ms : Nat} {Rt : Option zAV → zMp → Prop} (hC : zCx X RX7 cX7_link 3 73 mc ms (some .int) false Rt) : zLe (B_Mo_link_0 mc ms Rt (zG X)) (zG X 0) :=
  (sd_al_n hC rfl dX7_link_0 ((sd_il_n hC rfl dX7_link_1 ((sd_cV hC c_Mo_isDesk yv_Mo_isDesk (ci := 8) rfl rfl ml_Mo_143 (by decide) (by decide) dX7_link_2 ((sd_ifeq hC (tgt := 16) (by decide) dX7_link_5 (s_Mo_link_16 hC) ((sd_al_n hC rfl dX7_link_8 ((sd_il_n hC rfl dX7_link_9 ((sd_cV hC c_Mo_isDesk yv_Mo_isDesk (ci := 8) rfl rfl ml_Mo_143 (by decide) (by decide) dX7_link_10 ((sd_ifne hC (tgt := 19) (by decide) dX7_link_13 (s_Mo_link_19 hC) (s_Mo_link_16 hC))))))))))))))))
theorem c_Mo_link (l : Launch) : zCT2 l yX7_link cX7_link 3 (some .int) 3 73 T_Mo_link := by
  intro As M Rt c1 c2 hT
  obtain ⟨y, u, v, rfl, rfl, hJ, hR0, hR1, hR2⟩ := hT
  have hd := hJ.dk
  refine zMet_of false (by decide +kernel) (fun h => by first | rfl | cases h) (Nat.le_of_ble_eq_true rfl) (fun X hN hC => ?_)
  show zG X 0 [some (.inr (30, 0, 0)), some (.inl (.int u)), some (.inl (.int v))] [] (mp y) 0 0
  refine s_Mo_link_0 hC _ _ _ _ _ ?_
  simp only [B_Mo_link_0, B_Mo_link_16, B_Mo_link_19, B_Mo_link_37, co_Mo_isDesk, co_Mo_links, co_Mo_reach, i_ic, i_lc, i_nul, i_il, i_ll, i_al, i_is, i_as, i_ls, i_inc, i_iadd, i_isub, i_imul, i_iand, i_ior, i_ixor, i_idiv, i_irem, i_ishl, i_ishr, i_ladd, i_lsub, i_land, i_lor, i_i2l, i_lushr, i_lshl, i_lshr, i_lcmp, i_dup, i_pop, i_dx1, i_dup2, i_ifeq, i_ifne, i_iflt, i_ifge, i_ifgt, i_ifle, i_iceq, i_icne, i_iclt, i_icge, i_icgt, i_icle, i_ifn, i_gf, i_pf, i_ial, i_bal, i_lal, i_aal, i_ias, i_las, i_bas, i_aas, i_alen, i_newa, i_new, i_anew, i_cast, i_oi, i_call, i_callV, i_callV2, i_callI, i_iret, i_zret, i_lret, i_vret, i_aret, i_mmx, i_mmn, i_gsE, i_aceq, i_no, i_acq, i_sw, zsw, zlg, zls, znl, zfg, zcs, zsp, zrc, zisn, zft, zc1, zto, Value.category, List.set_cons_zero, List.set_cons_succ, List.length_cons, List.length_nil, Option.toList, List.append, List.nil_append, List.cons_append, true_and, and_true, Nat.add_zero, Nat.zero_le, Nat.zero_add, Nat.le_refl, Nat.reduceAdd, Nat.reduceLeDiff, co0, z0, zn_0, zn_1, zn_2, zn_3, zn_4, zn_5, zn_8, zn_12, zn_24, zn_121, zn_144, zn_256, zn_300, zn_600, zn_720, zn_1204, zn_1280, zn_2400, zn_4816, zn_14400, zn_90000, q_main, m_main]
  refine ⟨y, u, rfl, rfl, ?_⟩
  simp only [B_Mo_link_0, B_Mo_link_16, B_Mo_link_19, B_Mo_link_37, co_Mo_isDesk, co_Mo_links, co_Mo_reach, i_ic, i_lc, i_nul, i_il, i_ll, i_al, i_is, i_as, i_ls, i_inc, i_iadd, i_isub, i_imul, i_iand, i_ior, i_ixor, i_idiv, i_irem, i_ishl, i_ishr, i_ladd, i_lsub, i_land, i_lor, i_i2l, i_lushr, i_lshl, i_lshr, i_lcmp, i_dup, i_pop, i_dx1, i_dup2, i_ifeq, i_ifne, i_iflt, i_ifge, i_ifgt, i_ifle, i_iceq, i_icne, i_iclt, i_icge, i_icgt, i_icle, i_ifn, i_gf, i_pf, i_ial, i_bal, i_lal, i_aal, i_ias, i_las, i_bas, i_aas, i_alen, i_newa, i_new, i_anew, i_cast, i_oi, i_call, i_callV, i_callV2, i_callI, i_iret, i_zret, i_lret, i_vret, i_aret, i_mmx, i_mmn, i_gsE, i_aceq, i_no, i_acq, i_sw, zsw, zlg, zls, znl, zfg, zcs, zsp, zrc, zisn, zft, zc1, zto, Value.category, List.set_cons_zero, List.set_cons_succ, List.length_cons, List.length_nil, Option.toList, List.append, List.nil_append, List.cons_append, true_and, and_true, Nat.add_zero, Nat.zero_le, Nat.zero_add, Nat.le_refl, Nat.reduceAdd, Nat.reduceLeDiff, co0, z0, zn_0, zn_1, zn_2, zn_3, zn_4, zn_5, zn_8, zn_12, zn_24, zn_121, zn_144, zn_256, zn_300, zn_600, zn_720, zn_1204, zn_1280, zn_2400, zn_4816, zn_14400, zn_90000, q_main, m_main]
  refine ⟨fun h => hR0 (fun q => by rw [q.1] at h; exact absurd h (by decide)), fun h => ⟨y, v, rfl, rfl, ?_⟩⟩
  simp only [B_Mo_link_0, B_Mo_link_16, B_Mo_link_19, B_Mo_link_37, co_Mo_isDesk, co_Mo_links, co_Mo_reach, i_ic, i_lc, i_nul, i_il, i_ll, i_al, i_is, i_as, i_ls, i_inc, i_iadd, i_isub, i_imul, i_iand, i_ior, i_ixor, i_idiv, i_irem, i_ishl, i_ishr, i_ladd, i_lsub, i_land, i_lor, i_i2l, i_lushr, i_lshl, i_lshr, i_lcmp, i_dup, i_pop, i_dx1, i_dup2, i_ifeq, i_ifne, i_iflt, i_ifge, i_ifgt, i_ifle, i_iceq, i_icne, i_iclt, i_icge, i_icgt, i_icle, i_ifn, i_gf, i_pf, i_ial, i_bal, i_lal, i_aal, i_ias, i_las, i_bas, i_aas, i_alen, i_newa, i_new, i_anew, i_cast, i_oi, i_call, i_callV, i_callV2, i_callI, i_iret, i_zret, i_lret, i_vret, i_aret, i_mmx, i_mmn, i_gsE, i_aceq, i_no, i_acq, i_sw, zsw, zlg, zls, znl, zfg, zcs, zsp, zrc, zisn, zft, zc1, zto, Value.category, List.set_cons_zero, List.set_cons_succ, List.length_cons, List.length_nil, Option.toList, List.append, List.nil_append, List.cons_append, true_and, and_true, Nat.add_zero, Nat.zero_le, Nat.zero_add, Nat.le_refl, Nat.reduceAdd, Nat.reduceLeDiff, co0, z0, zn_0, zn_1, zn_2, zn_3, zn_4, zn_5, zn_8, zn_12, zn_24, zn_121, zn_144, zn_256, zn_300, zn_600, zn_720, zn_1204, zn_1280, zn_2400, zn_4816, zn_14400, zn_90000, q_main, m_main]
  refine ⟨fun h2 => ?_, fun h2 => hR0 (fun q => by rw [q.2] at h2; exact absurd h2 (by decide))⟩
  obtain ⟨a, ha, rfl⟩ := isn_t (by omega) (zb_n0 h)
  obtain ⟨b, hb, rfl⟩ := isn_t (by omega) (zb_n0 h2)
  refine ⟨y, a, -1, rfl, rfl, hJ, by omega, ?_⟩
  have e1 : y_re (v_re y (re_x y a (-1))) = re_x y a (-1) := rfl
  have e2 : re_x y a (-1) b = zd (Cn (rE y (-1)) a b) := if_pos (by omega)
  simp only [B_Mo_link_0, B_Mo_link_16, B_Mo_link_19, B_Mo_link_37, co_Mo_isDesk, co_Mo_links, co_Mo_reach, i_ic, i_lc, i_nul, i_il, i_ll, i_al, i_is, i_as, i_ls, i_inc, i_iadd, i_isub, i_imul, i_iand, i_ior, i_ixor, i_idiv, i_irem, i_ishl, i_ishr, i_ladd, i_lsub, i_land, i_lor, i_i2l, i_lushr, i_lshl, i_lshr, i_lcmp, i_dup, i_pop, i_dx1, i_dup2, i_ifeq, i_ifne, i_iflt, i_ifge, i_ifgt, i_ifle, i_iceq, i_icne, i_iclt, i_icge, i_icgt, i_icle, i_ifn, i_gf, i_pf, i_ial, i_bal, i_lal, i_aal, i_ias, i_las, i_bas, i_aas, i_alen, i_newa, i_new, i_anew, i_cast, i_oi, i_call, i_callV, i_callV2, i_callI, i_iret, i_zret, i_lret, i_vret, i_aret, i_mmx, i_mmn, i_gsE, i_aceq, i_no, i_acq, i_sw, zsw, zlg, zls, znl, zfg, zcs, zsp, zrc, zisn, zft, zc1, zto, Value.category, List.set_cons_zero, List.set_cons_succ, List.length_cons, List.length_nil, Option.toList, List.append, List.nil_append, List.cons_append, true_and, and_true, Nat.add_zero, Nat.zero_le, Nat.zero_add, Nat.le_refl, Nat.reduceAdd, Nat.reduceLeDiff, co0, z0, zn_0, zn_1, zn_2, zn_3, zn_4, zn_5, zn_8, zn_12, zn_24, zn_121, zn_144, zn_256, zn_300, zn_600, zn_720, zn_1204, zn_1280, zn_2400, zn_4816, zn_14400, zn_90000, q_main, m_main, q_re, e1]
  rw [nI_clamp (by omega), e2]
  refine ⟨vp_in_nI (by omega) (by decide), fun h3 => ?_, fun h3 => hR1 a b ha hb rfl rfl (zd_i.mp (zb_n0 h3))⟩
  obtain ⟨hok, hc, hR⟩ := hR2 a b ha hb rfl rfl (zd_n.mp (zb_0.mp h3))
  refine ⟨v_re y (re_x y a (-1)), a, b, true, rfl, rfl, by omega, by omega, ?_⟩
  simp only [B_Mo_link_0, B_Mo_link_16, B_Mo_link_19, B_Mo_link_37, co_Mo_isDesk, co_Mo_links, co_Mo_reach, i_ic, i_lc, i_nul, i_il, i_ll, i_al, i_is, i_as, i_ls, i_inc, i_iadd, i_isub, i_imul, i_iand, i_ior, i_ixor, i_idiv, i_irem, i_ishl, i_ishr, i_ladd, i_lsub, i_land, i_lor, i_i2l, i_lushr, i_lshl, i_lshr, i_lcmp, i_dup, i_pop, i_dx1, i_dup2, i_ifeq, i_ifne, i_iflt, i_ifge, i_ifgt, i_ifle, i_iceq, i_icne, i_iclt, i_icge, i_icgt, i_icle, i_ifn, i_gf, i_pf, i_ial, i_bal, i_lal, i_aal, i_ias, i_las, i_bas, i_aas, i_alen, i_newa, i_new, i_anew, i_cast, i_oi, i_call, i_callV, i_callV2, i_callI, i_iret, i_zret, i_lret, i_vret, i_aret, i_mmx, i_mmn, i_gsE, i_aceq, i_no, i_acq, i_sw, zsw, zlg, zls, znl, zfg, zcs, zsp, zrc, zisn, zft, zc1, zto, Value.category, List.set_cons_zero, List.set_cons_succ, List.length_cons, List.length_nil, Option.toList, List.append, List.nil_append, List.cons_append, true_and, and_true, Nat.add_zero, Nat.zero_le, Nat.zero_add, Nat.le_refl, Nat.reduceAdd, Nat.reduceLeDiff, co0, z0, zn_0, zn_1, zn_2, zn_3, zn_4, zn_5, zn_8, zn_12, zn_24, zn_121, zn_144, zn_256, zn_300, zn_600, zn_720, zn_1204, zn_1280, zn_2400, zn_4816, zn_14400, zn_90000, q_main, m_main]
  exact ⟨c1, c2, Nat.le_refl _, Nat.le_refl _, lk_y (v_re y (re_x y a (-1))) a b true, rfl, rfl, Jv_lk (Jv_re hJ), hok, hc.1, hc.2, Nat.le_refl _, Nat.le_refl _, hR⟩
