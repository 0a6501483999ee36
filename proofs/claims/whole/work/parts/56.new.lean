/-! WishRoutes: its constructor -/
/-- the state at the start -/
def x_0 : zSt := (((((0, 0), (0, (0, 0))), (((fun _ => 0), ((fun _ => none), 0)), (0, (0, 0)))), (((0, 0), (0, (0, 1))), ((0, ((fun _ => 0), (fun _ => 0))), ((fun _ _ => none), ((fun _ => 0), (fun _ => 0)))))), (((((fun _ => 0), (fun _ _ => 0)), ((fun _ _ => 0), ((fun _ _ => 0), (fun _ _ _ => 0)))), (((fun _ => 0), ((fun _ => 0), (fun _ _ => 0))), ((fun _ => 0), ((fun _ => 0), (fun _ => 0))))), ((((fun _ => 0), ((fun _ _ => 0), (fun _ => 0))), ((fun _ => false), ((fun _ => 0), (fun _ => 0)))), (((fun _ _ => 0), ((fun _ _ => 0), (fun _ _ => 0))), ((fun _ _ => none), (0, (fun _ _ => 0)))))))

/-- the world in which the constructor begins -/
def w_E : zMp := fun n => if n = znE then some (zoa 0 (fun _ => none)) else none
def w_0 : zMp := zup w_E (0, 0, 0) (.inr (7, [.inl .null, .inl .null, .inl .null, .inl .null, .inl .null, .inl .null, .inl .null, .inl .null, .inl .null, .inl (.int 0), .inl (.int 0), .inl (.int 0), .inl (.int 0), .inl (.int 0)]))
theorem zup_ap (M : zMp) (a n : zNm) (e : zAE) : zup M a e n = if n = a then some e else M n := rfl
theorem w_Ek {k i j : Nat} (h : k < 90) : w_E (k, i, j) = none := if_neg (nm_ne (by omega))
theorem w_EE : w_E znE = some (zoa 0 (fun _ => none)) := if_pos rfl
theorem aw_m {M : zMp} {g i : Nat} : aw M g i (0, 0, 0) = M (0, 0, 0) := aw_o (by omega) (by omega) (by omega)
theorem aw_nE {M : zMp} {g i : Nat} : aw M g i znE = M znE := aw_o (by omega) (by omega) (by omega)
theorem rw_0 {i j : Nat} (h0 : ¬ (i = 0 ∧ j = 0)) (h1 : ¬ (i = 0 ∧ j = 1)) : x_rw x_0 i j = none := by
  unfold x_rw
  by_cases i0 : i = 0
  · rw [if_pos i0, if_neg (fun q => h0 ⟨i0, q⟩), if_neg (fun q => h1 ⟨i0, q⟩)]
  · rw [if_neg i0]
    by_cases i1 : i = 1
    · rw [if_pos i1]; exact if_neg (Nat.not_lt_zero _)
    · rw [if_neg i1]
      by_cases i2 : i = 2
      · rw [if_pos i2]; exact if_neg (Nat.not_lt_zero _)
      · rw [if_neg i2]
        by_cases i3 : i = 3
        · rw [if_pos i3]; exact if_neg (Nat.not_lt_zero _)
        · rw [if_neg i3]; exact if_neg (fun q => absurd q.1 (Nat.not_lt_zero _))
def T_WR_init (As : List zAV) (M : zMp) (Rt : Option zAV → zMp → Prop) : Prop := As = [.inr (0, 0, 0)] ∧ M = w_0 ∧ Rt none (pic x_0)
def co_WR_init : List zAV → zMp → Nat × Nat := fun _ _ => (19, 212)
theorem dX6_init_0 : decode cX6_init 0 = .ok (.aload_n 0, 1) := by decide +kernel
theorem dX6_init_1 : decode cX6_init 1 = .ok (.invokespecial 3, 3) := by decide +kernel
theorem dX6_init_4 : decode cX6_init 4 = .ok (.aload_n 0, 1) := by decide +kernel
theorem dX6_init_5 : decode cX6_init 5 = .ok (.new 9, 3) := by decide +kernel
theorem dX6_init_8 : decode cX6_init 8 = .ok (.dup, 1) := by decide +kernel
theorem dX6_init_9 : decode cX6_init 9 = .ok (.invokespecial 11, 3) := by decide +kernel
theorem dX6_init_12 : decode cX6_init 12 = .ok (.putfield 12, 3) := by decide +kernel
theorem dX6_init_15 : decode cX6_init 15 = .ok (.aload_n 0, 1) := by decide +kernel
theorem dX6_init_16 : decode cX6_init 16 = .ok (.new 9, 3) := by decide +kernel
theorem dX6_init_19 : decode cX6_init 19 = .ok (.dup, 1) := by decide +kernel
theorem dX6_init_20 : decode cX6_init 20 = .ok (.invokespecial 11, 3) := by decide +kernel
theorem dX6_init_23 : decode cX6_init 23 = .ok (.putfield 16, 3) := by decide +kernel
theorem dX6_init_26 : decode cX6_init 26 = .ok (.aload_n 0, 1) := by decide +kernel
theorem dX6_init_27 : decode cX6_init 27 = .ok (.new 9, 3) := by decide +kernel
theorem dX6_init_30 : decode cX6_init 30 = .ok (.dup, 1) := by decide +kernel
theorem dX6_init_31 : decode cX6_init 31 = .ok (.invokespecial 11, 3) := by decide +kernel
theorem dX6_init_34 : decode cX6_init 34 = .ok (.putfield 19, 3) := by decide +kernel
theorem dX6_init_37 : decode cX6_init 37 = .ok (.aload_n 0, 1) := by decide +kernel
theorem dX6_init_38 : decode cX6_init 38 = .ok (.bipush 12, 2) := by decide +kernel
theorem dX6_init_40 : decode cX6_init 40 = .ok (.newarray .int, 2) := by decide +kernel
theorem dX6_init_42 : decode cX6_init 42 = .ok (.putfield 22, 3) := by decide +kernel
theorem dX6_init_45 : decode cX6_init 45 = .ok (.aload_n 0, 1) := by decide +kernel
theorem dX6_init_46 : decode cX6_init 46 = .ok (.sipush 144, 3) := by decide +kernel
theorem dX6_init_49 : decode cX6_init 49 = .ok (.anewarray 26, 3) := by decide +kernel
theorem dX6_init_52 : decode cX6_init 52 = .ok (.putfield 28, 3) := by decide +kernel
theorem dX6_init_55 : decode cX6_init 55 = .ok (.aload_n 0, 1) := by decide +kernel
theorem dX6_init_56 : decode cX6_init 56 = .ok (.new 9, 3) := by decide +kernel
theorem dX6_init_59 : decode cX6_init 59 = .ok (.dup, 1) := by decide +kernel
theorem dX6_init_60 : decode cX6_init 60 = .ok (.invokespecial 11, 3) := by decide +kernel
theorem dX6_init_63 : decode cX6_init 63 = .ok (.putfield 32, 3) := by decide +kernel
theorem dX6_init_66 : decode cX6_init 66 = .ok (.aload_n 0, 1) := by decide +kernel
theorem dX6_init_67 : decode cX6_init 67 = .ok (.new 35, 3) := by decide +kernel
theorem dX6_init_70 : decode cX6_init 70 = .ok (.dup, 1) := by decide +kernel
theorem dX6_init_71 : decode cX6_init 71 = .ok (.invokespecial 37, 3) := by decide +kernel
theorem dX6_init_74 : decode cX6_init 74 = .ok (.putfield 38, 3) := by decide +kernel
theorem dX6_init_77 : decode cX6_init 77 = .ok (.aload_n 0, 1) := by decide +kernel
theorem dX6_init_78 : decode cX6_init 78 = .ok (.new 35, 3) := by decide +kernel
theorem dX6_init_81 : decode cX6_init 81 = .ok (.dup, 1) := by decide +kernel
theorem dX6_init_82 : decode cX6_init 82 = .ok (.invokespecial 37, 3) := by decide +kernel
theorem dX6_init_85 : decode cX6_init 85 = .ok (.putfield 42, 3) := by decide +kernel
theorem dX6_init_88 : decode cX6_init 88 = .ok (.aload_n 0, 1) := by decide +kernel
theorem dX6_init_89 : decode cX6_init 89 = .ok (.invokestatic 45, 3) := by decide +kernel
theorem dX6_init_92 : decode cX6_init 92 = .ok (.putfield 49, 3) := by decide +kernel
theorem dX6_init_95 : decode cX6_init 95 = .ok (.aload_n 0, 1) := by decide +kernel
theorem dX6_init_96 : decode cX6_init 96 = .ok (.iconst 0, 1) := by decide +kernel
theorem dX6_init_97 : decode cX6_init 97 = .ok (.putfield 53, 3) := by decide +kernel
theorem dX6_init_100 : decode cX6_init 100 = .ok (.aload_n 0, 1) := by decide +kernel
theorem dX6_init_101 : decode cX6_init 101 = .ok (.iconst 0, 1) := by decide +kernel
theorem dX6_init_102 : decode cX6_init 102 = .ok (.putfield 57, 3) := by decide +kernel
theorem dX6_init_105 : decode cX6_init 105 = .ok (.aload_n 0, 1) := by decide +kernel
theorem dX6_init_106 : decode cX6_init 106 = .ok (.iconst 0, 1) := by decide +kernel
theorem dX6_init_107 : decode cX6_init 107 = .ok (.putfield 60, 3) := by decide +kernel
theorem dX6_init_110 : decode cX6_init 110 = .ok (.aload_n 0, 1) := by decide +kernel
theorem dX6_init_111 : decode cX6_init 111 = .ok (.iconst 0, 1) := by decide +kernel
theorem dX6_init_112 : decode cX6_init 112 = .ok (.putfield 63, 3) := by decide +kernel
theorem dX6_init_115 : decode cX6_init 115 = .ok (.aload_n 0, 1) := by decide +kernel
theorem dX6_init_116 : decode cX6_init 116 = .ok (.iconst 0, 1) := by decide +kernel
theorem dX6_init_117 : decode cX6_init 117 = .ok (.putfield 66, 3) := by decide +kernel
theorem dX6_init_120 : decode cX6_init 120 = .ok (.return_, 1) := by decide +kernel
def B_WR_init_0 (mc ms : Nat) (Rt : Option zAV → zMp → Prop) (g : Nat → zKT) : zKT :=
  (i_al 0 (i_oi (i_al 0 (i_new mc ms 0 3 [.inl (.int 0), .inl .null, .inl (.int 0)] (i_dup (i_callI mc ms 1 T_AL_init co_AL_init (i_pf 7 0 (.object "java/util/ArrayList") (i_al 0 (i_new mc ms 0 3 [.inl (.int 0), .inl .null, .inl (.int 0)] (i_dup (i_callI mc ms 1 T_AL_init co_AL_init (i_pf 7 1 (.object "java/util/ArrayList") (i_al 0 (i_new mc ms 0 3 [.inl (.int 0), .inl .null, .inl (.int 0)] (i_dup (i_callI mc ms 1 T_AL_init co_AL_init (i_pf 7 2 (.object "java/util/ArrayList") (i_al 0 (i_ic 12 (i_newa mc ms .int (i_pf 7 3 (.array .int) (i_al 0 (i_ic 144 (i_anew mc ms "WishRoutes$Lane" (i_pf 7 4 (.array (.object "WishRoutes$Lane")) (i_al 0 (i_new mc ms 0 3 [.inl (.int 0), .inl .null, .inl (.int 0)] (i_dup (i_callI mc ms 1 T_AL_init co_AL_init (i_pf 7 5 (.object "java/util/ArrayList") (i_al 0 (i_new mc ms 5 1 [.inl .null] (i_dup (i_callI mc ms 1 T_Row_init co_Row_init (i_pf 7 6 (.object "WishRoutes$Row") (i_al 0 (i_new mc ms 5 1 [.inl .null] (i_dup (i_callI mc ms 1 T_Row_init co_Row_init (i_pf 7 7 (.object "WishRoutes$Row") (i_al 0 (i_call mc ms 0 T_WR_allAny co_WR_allAny (i_pf 7 8 (.array (.object "WishRoutes$FieldTest")) (i_al 0 (i_ic 0 (i_pf 7 9 .int (i_al 0 (i_ic 0 (i_pf 7 10 .int (i_al 0 (i_ic 0 (i_pf 7 11 .int (i_al 0 (i_ic 0 (i_pf 7 12 .int (i_al 0 (i_ic 0 (i_pf 7 13 .int (i_vret mc ms Rt)))))))))))))))))))))))))))))))))))))))))))))))))))))))))))
set_option maxRecDepth 20000 in
theorem s_WR_init_0 {X : zMa} {mc ms : Nat} {Rt : Option zAV → zMp → Prop} (hC : zCx X RX6 cX6_init 4 80 mc ms (none) true Rt) : zLe (B_WR_init_0 mc ms Rt (zG X)) (zG X 0) :=
  (sd_al_n hC rfl dX6_init_0 ((sd_oi hC ml_WR_3 oi_2 oi_3 (by decide) (by decide) dX6_init_1 ((sd_al_n hC rfl dX6_init_4 ((sd_new hC (ci := 0) rfl wi_AL tyJx4a65c tyJx4a65c_ok cl_WR_9 in_AL iz_AL (by decide) (by intro n h; simp at h) dX6_init_5 ((sd_dup hC dX6_init_8 ((sd_cI hC c_AL_init yi_AL_init ml_WR_11 (by decide) (by decide) dX6_init_9 ((sd_pf hC (ci := 7) (fk := 0) rfl wi_WR tyX6 tyX6_ok nmX6 (by decide) fl_WR_12 (Or.inl rfl) (Or.inr ⟨rfl, rfl⟩) dX6_init_12 ((sd_al_n hC rfl dX6_init_15 ((sd_new hC (ci := 0) rfl wi_AL tyJx4a65c tyJx4a65c_ok cl_WR_9 in_AL iz_AL (by decide) (by intro n h; simp at h) dX6_init_16 ((sd_dup hC dX6_init_19 ((sd_cI hC c_AL_init yi_AL_init ml_WR_11 (by decide) (by decide) dX6_init_20 ((sd_pf hC (ci := 7) (fk := 1) rfl wi_WR tyX6 tyX6_ok nmX6 (by decide) fl_WR_16 (Or.inl rfl) (Or.inr ⟨rfl, rfl⟩) dX6_init_23 ((sd_al_n hC rfl dX6_init_26 ((sd_new hC (ci := 0) rfl wi_AL tyJx4a65c tyJx4a65c_ok cl_WR_9 in_AL iz_AL (by decide) (by intro n h; simp at h) dX6_init_27 ((sd_dup hC dX6_init_30 ((sd_cI hC c_AL_init yi_AL_init ml_WR_11 (by decide) (by decide) dX6_init_31 ((sd_pf hC (ci := 7) (fk := 2) rfl wi_WR tyX6 tyX6_ok nmX6 (by decide) fl_WR_19 (Or.inl rfl) (Or.inr ⟨rfl, rfl⟩) dX6_init_34 ((sd_al_n hC rfl dX6_init_37 ((sd_bipush hC (by decide) dX6_init_38 ((sd_newa hC (at0 := .int) rfl (by decide) ac_int dX6_init_40 ((sd_pf hC (ci := 7) (fk := 3) rfl wi_WR tyX6 tyX6_ok nmX6 (by decide) fl_WR_22 (Or.inl rfl) (Or.inr ⟨rfl, rfl⟩) dX6_init_42 ((sd_al_n hC rfl dX6_init_45 ((sd_sipush hC (by decide) dX6_init_46 ((sd_anew hC cl_WR_26 ao_Lane_0 dX6_init_49 ((sd_pf hC (ci := 7) (fk := 4) rfl wi_WR tyX6 tyX6_ok nmX6 (by decide) fl_WR_28 (Or.inl rfl) (Or.inr ⟨rfl, rfl⟩) dX6_init_52 ((sd_al_n hC rfl dX6_init_55 ((sd_new hC (ci := 0) rfl wi_AL tyJx4a65c tyJx4a65c_ok cl_WR_9 in_AL iz_AL (by decide) (by intro n h; simp at h) dX6_init_56 ((sd_dup hC dX6_init_59 ((sd_cI hC c_AL_init yi_AL_init ml_WR_11 (by decide) (by decide) dX6_init_60 ((sd_pf hC (ci := 7) (fk := 5) rfl wi_WR tyX6 tyX6_ok nmX6 (by decide) fl_WR_32 (Or.inl rfl) (Or.inr ⟨rfl, rfl⟩) dX6_init_63 ((sd_al_n hC rfl dX6_init_66 ((sd_new hC (ci := 5) rfl wi_Row tyX4 tyX4_ok cl_WR_35 in_Row iz_Row (by decide) (by intro n h; simp at h) dX6_init_67 ((sd_dup hC dX6_init_70 ((sd_cIN hC c_Row_init yi_Row_init mn_WR_37 (by decide) (by decide) dX6_init_71 ((sd_pf hC (ci := 7) (fk := 6) rfl wi_WR tyX6 tyX6_ok nmX6 (by decide) fl_WR_38 (Or.inl rfl) (Or.inr ⟨rfl, rfl⟩) dX6_init_74 ((sd_al_n hC rfl dX6_init_77 ((sd_new hC (ci := 5) rfl wi_Row tyX4 tyX4_ok cl_WR_35 in_Row iz_Row (by decide) (by intro n h; simp at h) dX6_init_78 ((sd_dup hC dX6_init_81 ((sd_cIN hC c_Row_init yi_Row_init mn_WR_37 (by decide) (by decide) dX6_init_82 ((sd_pf hC (ci := 7) (fk := 7) rfl wi_WR tyX6 tyX6_ok nmX6 (by decide) fl_WR_42 (Or.inl rfl) (Or.inr ⟨rfl, rfl⟩) dX6_init_85 ((sd_al_n hC rfl dX6_init_88 ((sd_cS hC c_WR_allAny ys_WR_allAny ml_WR_45 (by decide) (by decide) dX6_init_89 ((sd_pf hC (ci := 7) (fk := 8) rfl wi_WR tyX6 tyX6_ok nmX6 (by decide) fl_WR_49 (Or.inl rfl) (Or.inl rfl) dX6_init_92 ((sd_al_n hC rfl dX6_init_95 ((sd_iconst hC (by decide) dX6_init_96 ((sd_pf hC (ci := 7) (fk := 9) rfl wi_WR tyX6 tyX6_ok nmX6 (by decide) fl_WR_53 (Or.inl rfl) (Or.inl rfl) dX6_init_97 ((sd_al_n hC rfl dX6_init_100 ((sd_iconst hC (by decide) dX6_init_101 ((sd_pf hC (ci := 7) (fk := 10) rfl wi_WR tyX6 tyX6_ok nmX6 (by decide) fl_WR_57 (Or.inl rfl) (Or.inl rfl) dX6_init_102 ((sd_al_n hC rfl dX6_init_105 ((sd_iconst hC (by decide) dX6_init_106 ((sd_pf hC (ci := 7) (fk := 11) rfl wi_WR tyX6 tyX6_ok nmX6 (by decide) fl_WR_60 (Or.inl rfl) (Or.inl rfl) dX6_init_107 ((sd_al_n hC rfl dX6_init_110 ((sd_iconst hC (by decide) dX6_init_111 ((sd_pf hC (ci := 7) (fk := 12) rfl wi_WR tyX6 tyX6_ok nmX6 (by decide) fl_WR_63 (Or.inl rfl) (Or.inl rfl) dX6_init_112 ((sd_al_n hC rfl dX6_init_115 ((sd_iconst hC (by decide) dX6_init_116 ((sd_pf hC (ci := 7) (fk := 13) rfl wi_WR tyX6 tyX6_ok nmX6 (by decide) fl_WR_66 (Or.inl rfl) (Or.inl rfl) dX6_init_117 ((sd_vret hC dX6_init_120)))))))))))))))))))))))))))))))))))))))))))))))))))))))))))))))))))))))))))))))))))))))))))))))))))))))))))))))))))))
theorem znE_z {k i j : Nat} (h : k < 90) : znE ≠ ((k, i, j) : zNm) := nm_ne (by omega)
set_option maxRecDepth 20000 in
theorem c_WR_init (l : Launch) : zCT l yX6_init cX6_init 1 (none) 4 80 T_WR_init co_WR_init := by
  intro As M Rt hT
  obtain ⟨rfl, rfl, hR⟩ := hT
  refine zMet_of true (by decide +kernel) (fun h => by first | rfl | cases h) (Nat.le_of_ble_eq_true rfl) (fun X hN hC => ?_)
  show zG X 0 [some (.inr (0, 0, 0))] [] w_0 0 0
  refine s_WR_init_0 hC _ _ _ _ _ ?_
  unfold w_0
  simp only [B_WR_init_0, co_AL_init, co_Row_init, co_WR_allAny, co_WR_init, i_ic, i_lc, i_nul, i_il, i_ll, i_al, i_is, i_as, i_ls, i_inc, i_iadd, i_isub, i_imul, i_iand, i_ior, i_ixor, i_idiv, i_irem, i_ishl, i_ishr, i_ladd, i_lsub, i_land, i_lor, i_i2l, i_lushr, i_lshl, i_lshr, i_lcmp, i_dup, i_pop, i_dx1, i_dup2, i_ifeq, i_ifne, i_iflt, i_ifge, i_ifgt, i_ifle, i_iceq, i_icne, i_iclt, i_icge, i_icgt, i_icle, i_ifn, i_gf, i_pf, i_ial, i_bal, i_lal, i_aal, i_ias, i_las, i_bas, i_aas, i_alen, i_newa, i_new, i_anew, i_cast, i_oi, i_call, i_callV, i_callV2, i_callI, i_iret, i_zret, i_lret, i_vret, i_aret, i_mmx, i_mmn, i_gsE, i_aceq, i_no, i_acq, i_sw, zsw, zlg, zls, znl, zfg, zcs, zsp, zrc, zisn, zft, zc1, zto, Value.category, List.set_cons_zero, List.set_cons_succ, List.length_cons, List.length_nil, Option.toList, List.append, List.nil_append, List.cons_append, true_and, and_true, Nat.add_zero, Nat.zero_le, Nat.zero_add, Nat.le_refl, Nat.reduceAdd, Nat.reduceLeDiff, co0, z0, zn_0, zn_1, zn_2, zn_3, zn_4, zn_5, zn_8, zn_12, zn_24, zn_121, zn_144, zn_256, zn_300, zn_600, zn_720, zn_1204, zn_1280, zn_2400, zn_4816, zn_14400, zn_90000, zup_s]
  refine ⟨(1, 0, 0), (by first | (simp (decide := true) only [zup_ap, if_true, if_false]; done) | (simp (decide := true) only [zup_ap, if_true, if_false]; exact w_Ek (by decide))), m_k (by decide), (1, 0, 0), rfl, m_k (by decide), zup_s, (by simp (decide := true) [zup_ap, w_EE]), ?_⟩
  simp (decide := true) only [zup_ap, zup_zup, zup_s, if_true, if_false, aw_m, i_ic, i_lc, i_nul, i_il, i_ll, i_al, i_is, i_as, i_ls, i_inc, i_iadd, i_isub, i_imul, i_iand, i_ior, i_ixor, i_idiv, i_irem, i_ishl, i_ishr, i_ladd, i_lsub, i_land, i_lor, i_i2l, i_lushr, i_lshl, i_lshr, i_lcmp, i_dup, i_pop, i_dx1, i_dup2, i_ifeq, i_ifne, i_iflt, i_ifge, i_ifgt, i_ifle, i_iceq, i_icne, i_iclt, i_icge, i_icgt, i_icle, i_ifn, i_gf, i_pf, i_ial, i_bal, i_lal, i_aal, i_ias, i_las, i_bas, i_aas, i_alen, i_newa, i_new, i_anew, i_cast, i_oi, i_call, i_callV, i_callV2, i_callI, i_iret, i_zret, i_lret, i_vret, i_aret, i_mmx, i_mmn, i_gsE, i_aceq, i_no, i_acq, i_sw, zsw, zlg, zls, znl, zfg, zcs, zsp, zrc, zisn, zft, zc1, zto, Value.category, List.set_cons_zero, List.set_cons_succ, List.length_cons, List.length_nil, Option.toList, List.append, List.nil_append, List.cons_append, true_and, and_true, Nat.add_zero, Nat.zero_le, Nat.zero_add, Nat.le_refl, Nat.reduceAdd, Nat.reduceLeDiff, co0, z0, zn_0, zn_1, zn_2, zn_3, zn_4, zn_5, zn_8, zn_12, zn_24, zn_121, zn_144, zn_256, zn_300, zn_600, zn_720, zn_1204, zn_1280, zn_2400, zn_4816, zn_14400, zn_90000]
  refine ⟨m_k (by decide), (1, 1, 0), (by first | (simp (decide := true) only [zup_ap, if_true, if_false]; done) | (simp (decide := true) only [zup_ap, if_true, if_false]; exact w_Ek (by decide))), m_k (by decide), (1, 1, 0), rfl, m_k (by decide), zup_s, (by simp (decide := true) [zup_ap, w_EE]), ?_⟩
  simp (decide := true) only [zup_ap, zup_zup, zup_s, if_true, if_false, aw_m, i_ic, i_lc, i_nul, i_il, i_ll, i_al, i_is, i_as, i_ls, i_inc, i_iadd, i_isub, i_imul, i_iand, i_ior, i_ixor, i_idiv, i_irem, i_ishl, i_ishr, i_ladd, i_lsub, i_land, i_lor, i_i2l, i_lushr, i_lshl, i_lshr, i_lcmp, i_dup, i_pop, i_dx1, i_dup2, i_ifeq, i_ifne, i_iflt, i_ifge, i_ifgt, i_ifle, i_iceq, i_icne, i_iclt, i_icge, i_icgt, i_icle, i_ifn, i_gf, i_pf, i_ial, i_bal, i_lal, i_aal, i_ias, i_las, i_bas, i_aas, i_alen, i_newa, i_new, i_anew, i_cast, i_oi, i_call, i_callV, i_callV2, i_callI, i_iret, i_zret, i_lret, i_vret, i_aret, i_mmx, i_mmn, i_gsE, i_aceq, i_no, i_acq, i_sw, zsw, zlg, zls, znl, zfg, zcs, zsp, zrc, zisn, zft, zc1, zto, Value.category, List.set_cons_zero, List.set_cons_succ, List.length_cons, List.length_nil, Option.toList, List.append, List.nil_append, List.cons_append, true_and, and_true, Nat.add_zero, Nat.zero_le, Nat.zero_add, Nat.le_refl, Nat.reduceAdd, Nat.reduceLeDiff, co0, z0, zn_0, zn_1, zn_2, zn_3, zn_4, zn_5, zn_8, zn_12, zn_24, zn_121, zn_144, zn_256, zn_300, zn_600, zn_720, zn_1204, zn_1280, zn_2400, zn_4816, zn_14400, zn_90000]
  refine ⟨m_k (by decide), (1, 2, 0), (by first | (simp (decide := true) only [zup_ap, if_true, if_false]; done) | (simp (decide := true) only [zup_ap, if_true, if_false]; exact w_Ek (by decide))), m_k (by decide), (1, 2, 0), rfl, m_k (by decide), zup_s, (by simp (decide := true) [zup_ap, w_EE]), ?_⟩
  simp (decide := true) only [zup_ap, zup_zup, zup_s, if_true, if_false, aw_m, i_ic, i_lc, i_nul, i_il, i_ll, i_al, i_is, i_as, i_ls, i_inc, i_iadd, i_isub, i_imul, i_iand, i_ior, i_ixor, i_idiv, i_irem, i_ishl, i_ishr, i_ladd, i_lsub, i_land, i_lor, i_i2l, i_lushr, i_lshl, i_lshr, i_lcmp, i_dup, i_pop, i_dx1, i_dup2, i_ifeq, i_ifne, i_iflt, i_ifge, i_ifgt, i_ifle, i_iceq, i_icne, i_iclt, i_icge, i_icgt, i_icle, i_ifn, i_gf, i_pf, i_ial, i_bal, i_lal, i_aal, i_ias, i_las, i_bas, i_aas, i_alen, i_newa, i_new, i_anew, i_cast, i_oi, i_call, i_callV, i_callV2, i_callI, i_iret, i_zret, i_lret, i_vret, i_aret, i_mmx, i_mmn, i_gsE, i_aceq, i_no, i_acq, i_sw, zsw, zlg, zls, znl, zfg, zcs, zsp, zrc, zisn, zft, zc1, zto, Value.category, List.set_cons_zero, List.set_cons_succ, List.length_cons, List.length_nil, Option.toList, List.append, List.nil_append, List.cons_append, true_and, and_true, Nat.add_zero, Nat.zero_le, Nat.zero_add, Nat.le_refl, Nat.reduceAdd, Nat.reduceLeDiff, co0, z0, zn_0, zn_1, zn_2, zn_3, zn_4, zn_5, zn_8, zn_12, zn_24, zn_121, zn_144, zn_256, zn_300, zn_600, zn_720, zn_1204, zn_1280, zn_2400, zn_4816, zn_14400, zn_90000]
  refine ⟨m_k (by decide), (3, 0, 0), (by first | (simp (decide := true) only [zup_ap, if_true, if_false]; done) | (simp (decide := true) only [zup_ap, if_true, if_false]; exact w_Ek (by decide))), m_k (by decide), by decide, ?_⟩
  simp (decide := true) only [zup_ap, zup_zup, zup_s, if_true, if_false, aw_m, i_ic, i_lc, i_nul, i_il, i_ll, i_al, i_is, i_as, i_ls, i_inc, i_iadd, i_isub, i_imul, i_iand, i_ior, i_ixor, i_idiv, i_irem, i_ishl, i_ishr, i_ladd, i_lsub, i_land, i_lor, i_i2l, i_lushr, i_lshl, i_lshr, i_lcmp, i_dup, i_pop, i_dx1, i_dup2, i_ifeq, i_ifne, i_iflt, i_ifge, i_ifgt, i_ifle, i_iceq, i_icne, i_iclt, i_icge, i_icgt, i_icle, i_ifn, i_gf, i_pf, i_ial, i_bal, i_lal, i_aal, i_ias, i_las, i_bas, i_aas, i_alen, i_newa, i_new, i_anew, i_cast, i_oi, i_call, i_callV, i_callV2, i_callI, i_iret, i_zret, i_lret, i_vret, i_aret, i_mmx, i_mmn, i_gsE, i_aceq, i_no, i_acq, i_sw, zsw, zlg, zls, znl, zfg, zcs, zsp, zrc, zisn, zft, zc1, zto, Value.category, List.set_cons_zero, List.set_cons_succ, List.length_cons, List.length_nil, Option.toList, List.append, List.nil_append, List.cons_append, true_and, and_true, Nat.add_zero, Nat.zero_le, Nat.zero_add, Nat.le_refl, Nat.reduceAdd, Nat.reduceLeDiff, co0, z0, zn_0, zn_1, zn_2, zn_3, zn_4, zn_5, zn_8, zn_12, zn_24, zn_121, zn_144, zn_256, zn_300, zn_600, zn_720, zn_1204, zn_1280, zn_2400, zn_4816, zn_14400, zn_90000]
  refine ⟨m_k (by decide), (4, 0, 0), (by first | (simp (decide := true) only [zup_ap, if_true, if_false]; done) | (simp (decide := true) only [zup_ap, if_true, if_false]; exact w_Ek (by decide))), m_k (by decide), by decide, ?_⟩
  simp (decide := true) only [zup_ap, zup_zup, zup_s, if_true, if_false, aw_m, i_ic, i_lc, i_nul, i_il, i_ll, i_al, i_is, i_as, i_ls, i_inc, i_iadd, i_isub, i_imul, i_iand, i_ior, i_ixor, i_idiv, i_irem, i_ishl, i_ishr, i_ladd, i_lsub, i_land, i_lor, i_i2l, i_lushr, i_lshl, i_lshr, i_lcmp, i_dup, i_pop, i_dx1, i_dup2, i_ifeq, i_ifne, i_iflt, i_ifge, i_ifgt, i_ifle, i_iceq, i_icne, i_iclt, i_icge, i_icgt, i_icle, i_ifn, i_gf, i_pf, i_ial, i_bal, i_lal, i_aal, i_ias, i_las, i_bas, i_aas, i_alen, i_newa, i_new, i_anew, i_cast, i_oi, i_call, i_callV, i_callV2, i_callI, i_iret, i_zret, i_lret, i_vret, i_aret, i_mmx, i_mmn, i_gsE, i_aceq, i_no, i_acq, i_sw, zsw, zlg, zls, znl, zfg, zcs, zsp, zrc, zisn, zft, zc1, zto, Value.category, List.set_cons_zero, List.set_cons_succ, List.length_cons, List.length_nil, Option.toList, List.append, List.nil_append, List.cons_append, true_and, and_true, Nat.add_zero, Nat.zero_le, Nat.zero_add, Nat.le_refl, Nat.reduceAdd, Nat.reduceLeDiff, co0, z0, zn_0, zn_1, zn_2, zn_3, zn_4, zn_5, zn_8, zn_12, zn_24, zn_121, zn_144, zn_256, zn_300, zn_600, zn_720, zn_1204, zn_1280, zn_2400, zn_4816, zn_14400, zn_90000]
  refine ⟨m_k (by decide), (1, 3, 0), (by first | (simp (decide := true) only [zup_ap, if_true, if_false]; done) | (simp (decide := true) only [zup_ap, if_true, if_false]; exact w_Ek (by decide))), m_k (by decide), (1, 3, 0), rfl, m_k (by decide), zup_s, (by simp (decide := true) [zup_ap, w_EE]), ?_⟩
  simp (decide := true) only [zup_ap, zup_zup, zup_s, if_true, if_false, aw_m, i_ic, i_lc, i_nul, i_il, i_ll, i_al, i_is, i_as, i_ls, i_inc, i_iadd, i_isub, i_imul, i_iand, i_ior, i_ixor, i_idiv, i_irem, i_ishl, i_ishr, i_ladd, i_lsub, i_land, i_lor, i_i2l, i_lushr, i_lshl, i_lshr, i_lcmp, i_dup, i_pop, i_dx1, i_dup2, i_ifeq, i_ifne, i_iflt, i_ifge, i_ifgt, i_ifle, i_iceq, i_icne, i_iclt, i_icge, i_icgt, i_icle, i_ifn, i_gf, i_pf, i_ial, i_bal, i_lal, i_aal, i_ias, i_las, i_bas, i_aas, i_alen, i_newa, i_new, i_anew, i_cast, i_oi, i_call, i_callV, i_callV2, i_callI, i_iret, i_zret, i_lret, i_vret, i_aret, i_mmx, i_mmn, i_gsE, i_aceq, i_no, i_acq, i_sw, zsw, zlg, zls, znl, zfg, zcs, zsp, zrc, zisn, zft, zc1, zto, Value.category, List.set_cons_zero, List.set_cons_succ, List.length_cons, List.length_nil, Option.toList, List.append, List.nil_append, List.cons_append, true_and, and_true, Nat.add_zero, Nat.zero_le, Nat.zero_add, Nat.le_refl, Nat.reduceAdd, Nat.reduceLeDiff, co0, z0, zn_0, zn_1, zn_2, zn_3, zn_4, zn_5, zn_8, zn_12, zn_24, zn_121, zn_144, zn_256, zn_300, zn_600, zn_720, zn_1204, zn_1280, zn_2400, zn_4816, zn_14400, zn_90000]
  refine ⟨m_k (by decide), (5, 0, 0), (by first | (simp (decide := true) only [zup_ap, if_true, if_false]; done) | (simp (decide := true) only [zup_ap, if_true, if_false]; exact w_Ek (by decide))), m_k (by decide), (5, 0, 0), (6, 0, 0), rfl, zup_s, m_k (by decide), (by first | (simp (decide := true) only [zup_ap, if_true, if_false]; done) | (simp (decide := true) only [zup_ap, if_true, if_false]; exact w_Ek (by decide))), m_k (by decide), ?_⟩
  simp (decide := true) only [zup_ap, zup_zup, zup_s, if_true, if_false, aw_m, i_ic, i_lc, i_nul, i_il, i_ll, i_al, i_is, i_as, i_ls, i_inc, i_iadd, i_isub, i_imul, i_iand, i_ior, i_ixor, i_idiv, i_irem, i_ishl, i_ishr, i_ladd, i_lsub, i_land, i_lor, i_i2l, i_lushr, i_lshl, i_lshr, i_lcmp, i_dup, i_pop, i_dx1, i_dup2, i_ifeq, i_ifne, i_iflt, i_ifge, i_ifgt, i_ifle, i_iceq, i_icne, i_iclt, i_icge, i_icgt, i_icle, i_ifn, i_gf, i_pf, i_ial, i_bal, i_lal, i_aal, i_ias, i_las, i_bas, i_aas, i_alen, i_newa, i_new, i_anew, i_cast, i_oi, i_call, i_callV, i_callV2, i_callI, i_iret, i_zret, i_lret, i_vret, i_aret, i_mmx, i_mmn, i_gsE, i_aceq, i_no, i_acq, i_sw, zsw, zlg, zls, znl, zfg, zcs, zsp, zrc, zisn, zft, zc1, zto, Value.category, List.set_cons_zero, List.set_cons_succ, List.length_cons, List.length_nil, Option.toList, List.append, List.nil_append, List.cons_append, true_and, and_true, Nat.add_zero, Nat.zero_le, Nat.zero_add, Nat.le_refl, Nat.reduceAdd, Nat.reduceLeDiff, co0, z0, zn_0, zn_1, zn_2, zn_3, zn_4, zn_5, zn_8, zn_12, zn_24, zn_121, zn_144, zn_256, zn_300, zn_600, zn_720, zn_1204, zn_1280, zn_2400, zn_4816, zn_14400, zn_90000]
  refine ⟨m_k (by decide), (5, 0, 1), (by first | (simp (decide := true) only [zup_ap, if_true, if_false]; done) | (simp (decide := true) only [zup_ap, if_true, if_false]; exact w_Ek (by decide))), m_k (by decide), (5, 0, 1), (6, 0, 1), rfl, zup_s, m_k (by decide), (by first | (simp (decide := true) only [zup_ap, if_true, if_false]; done) | (simp (decide := true) only [zup_ap, if_true, if_false]; exact w_Ek (by decide))), m_k (by decide), ?_⟩
  simp (decide := true) only [zup_ap, zup_zup, zup_s, if_true, if_false, aw_m, i_ic, i_lc, i_nul, i_il, i_ll, i_al, i_is, i_as, i_ls, i_inc, i_iadd, i_isub, i_imul, i_iand, i_ior, i_ixor, i_idiv, i_irem, i_ishl, i_ishr, i_ladd, i_lsub, i_land, i_lor, i_i2l, i_lushr, i_lshl, i_lshr, i_lcmp, i_dup, i_pop, i_dx1, i_dup2, i_ifeq, i_ifne, i_iflt, i_ifge, i_ifgt, i_ifle, i_iceq, i_icne, i_iclt, i_icge, i_icgt, i_icle, i_ifn, i_gf, i_pf, i_ial, i_bal, i_lal, i_aal, i_ias, i_las, i_bas, i_aas, i_alen, i_newa, i_new, i_anew, i_cast, i_oi, i_call, i_callV, i_callV2, i_callI, i_iret, i_zret, i_lret, i_vret, i_aret, i_mmx, i_mmn, i_gsE, i_aceq, i_no, i_acq, i_sw, zsw, zlg, zls, znl, zfg, zcs, zsp, zrc, zisn, zft, zc1, zto, Value.category, List.set_cons_zero, List.set_cons_succ, List.length_cons, List.length_nil, Option.toList, List.append, List.nil_append, List.cons_append, true_and, and_true, Nat.add_zero, Nat.zero_le, Nat.zero_add, Nat.le_refl, Nat.reduceAdd, Nat.reduceLeDiff, co0, z0, zn_0, zn_1, zn_2, zn_3, zn_4, zn_5, zn_8, zn_12, zn_24, zn_121, zn_144, zn_256, zn_300, zn_600, zn_720, zn_1204, zn_1280, zn_2400, zn_4816, zn_14400, zn_90000]
  refine ⟨m_k (by decide), 0, rfl, (by first | (simp (decide := true) only [zup_ap, if_true, if_false]; done) | (simp (decide := true) only [zup_ap, if_true, if_false]; exact w_Ek (by decide))), fun f hf => ⟨?_, ?_⟩, ?_⟩
  · simp (decide := true) only [zup_ap, Prod.mk.injEq, false_and, if_false]
    exact w_Ek (by decide)
  · simp (decide := true) only [zup_ap, Prod.mk.injEq, false_and, if_false]
    exact w_Ek (by decide)
  simp (decide := true) only [zup_ap, zup_zup, zup_s, if_true, if_false, aw_m, aw_9, i_ic, i_lc, i_nul, i_il, i_ll, i_al, i_is, i_as, i_ls, i_inc, i_iadd, i_isub, i_imul, i_iand, i_ior, i_ixor, i_idiv, i_irem, i_ishl, i_ishr, i_ladd, i_lsub, i_land, i_lor, i_i2l, i_lushr, i_lshl, i_lshr, i_lcmp, i_dup, i_pop, i_dx1, i_dup2, i_ifeq, i_ifne, i_iflt, i_ifge, i_ifgt, i_ifle, i_iceq, i_icne, i_iclt, i_icge, i_icgt, i_icle, i_ifn, i_gf, i_pf, i_ial, i_bal, i_lal, i_aal, i_ias, i_las, i_bas, i_aas, i_alen, i_newa, i_new, i_anew, i_cast, i_oi, i_call, i_callV, i_callV2, i_callI, i_iret, i_zret, i_lret, i_vret, i_aret, i_mmx, i_mmn, i_gsE, i_aceq, i_no, i_acq, i_sw, zsw, zlg, zls, znl, zfg, zcs, zsp, zrc, zisn, zft, zc1, zto, Value.category, List.set_cons_zero, List.set_cons_succ, List.length_cons, List.length_nil, Option.toList, List.append, List.nil_append, List.cons_append, true_and, and_true, Nat.add_zero, Nat.zero_le, Nat.zero_add, Nat.le_refl, Nat.reduceAdd, Nat.reduceLeDiff, co0, z0, zn_0, zn_1, zn_2, zn_3, zn_4, zn_5, zn_8, zn_12, zn_24, zn_121, zn_144, zn_256, zn_300, zn_600, zn_720, zn_1204, zn_1280, zn_2400, zn_4816, zn_14400, zn_90000]
  refine ⟨m_k (by decide), m_k (by decide), m_k (by decide), m_k (by decide), m_k (by decide), m_k (by decide), ?_⟩
  refine zM (P := Rt none) ?_ hR
  funext n
  obtain ⟨k, i, j⟩ := n
  by_cases h0 : (k, i, j) = (0, 0, 0)
  · rw [h0, zup_s]
    rfl
  rw [zup_o h0]
  by_cases h9 : k = 9 ∧ i = 0 ∧ j = 0
  · obtain ⟨rfl, rfl, rfl⟩ := h9
    rw [aw_9]
    rfl
  by_cases h7 : k = 7 ∧ i = 0 ∧ j < 4
  · obtain ⟨rfl, rfl, hj⟩ := h7
    rw [aw_7 hj]
    exact (if_pos ⟨Nat.zero_lt_one, hj⟩).symm
  by_cases h8 : k = 8 ∧ i = 0 ∧ j < 4
  · obtain ⟨rfl, rfl, hj⟩ := h8
    rw [aw_8 hj]
    exact (if_pos ⟨Nat.zero_lt_one, hj⟩).symm
  rw [aw_o h9 h7 h8]
  by_cases h51 : (k, i, j) = (5, 0, 1)
  · rw [h51]
    simp (decide := true) only [zup_ap, if_true, if_false]
    rfl
  by_cases h61 : (k, i, j) = (6, 0, 1)
  · rw [h61]
    simp (decide := true) only [zup_ap, if_true, if_false]
    rfl
  by_cases h50 : (k, i, j) = (5, 0, 0)
  · rw [h50]
    simp (decide := true) only [zup_ap, if_true, if_false]
    rfl
  by_cases h60 : (k, i, j) = (6, 0, 0)
  · rw [h60]
    simp (decide := true) only [zup_ap, if_true, if_false]
    rfl
  by_cases h13 : (k, i, j) = (1, 3, 0)
  · rw [h13]
    simp (decide := true) only [zup_ap, if_true, if_false]
    rfl
  by_cases h4 : (k, i, j) = (4, 0, 0)
  · rw [h4]
    simp (decide := true) only [zup_ap, if_true, if_false]
    rfl
  by_cases h3 : (k, i, j) = (3, 0, 0)
  · rw [h3]
    simp (decide := true) only [zup_ap, if_true, if_false]
    rfl
  by_cases h12 : (k, i, j) = (1, 2, 0)
  · rw [h12]
    simp (decide := true) only [zup_ap, if_true, if_false]
    rfl
  by_cases h11 : (k, i, j) = (1, 1, 0)
  · rw [h11]
    simp (decide := true) only [zup_ap, if_true, if_false]
    rfl
  by_cases h10 : (k, i, j) = (1, 0, 0)
  · rw [h10]
    simp (decide := true) only [zup_ap, if_true, if_false]
    rfl
  simp only [zup_ap, h0, h51, h61, h50, h60, h13, h4, h3, h12, h11, h10, if_false]
  rcases k with _ | _ | _ | _ | _ | _ | _ | _ | _ | _ | _ | _ | _ | _ | _ | _ | _ | _ | _ | k
  · exact (if_neg (fun q => h0 (by rw [q.1, q.2]))).symm
  · refine (w_Ek (by decide)).trans (if_neg (fun q => ?_)).symm
    obtain ⟨q1, rfl⟩ := q
    match i, q1 with
    | 0, _ => exact h10 rfl
    | 1, _ => exact h11 rfl
    | 2, _ => exact h12 rfl
    | 3, _ => exact h13 rfl
  · refine (w_Ek (by decide)).trans (if_neg (fun q => ?_)).symm
    have q3 : j = 0 := q.2.2
    omega
  · exact (w_Ek (by decide)).trans (if_neg (fun q => h3 (by rw [q.1, q.2]))).symm
  · exact (w_Ek (by decide)).trans (if_neg (fun q => h4 (by rw [q.1, q.2]))).symm
  · refine (w_Ek (by decide)).trans ?_
    rw [show pic x_0 (0 + 1 + 1 + 1 + 1 + 1, i, j) = (x_rw x_0 i j).map (fun _ => .inr (5, [.inr (6, i, j)])) from rfl, rw_0 (fun q => h50 (by rw [q.1, q.2])) (fun q => h51 (by rw [q.1, q.2]))]
    rfl
  · refine (w_Ek (by decide)).trans ?_
    rw [show pic x_0 (0 + 1 + 1 + 1 + 1 + 1 + 1, i, j) = (x_rw x_0 i j).map zlo from rfl, rw_0 (fun q => h60 (by rw [q.1, q.2])) (fun q => h61 (by rw [q.1, q.2]))]
    rfl
  · exact (w_Ek (by decide)).trans (if_neg (fun q => h7 ⟨rfl, by have := q.1; have z : i < 1 := this; omega, q.2⟩)).symm
  · exact (w_Ek (by decide)).trans (if_neg (fun q => h8 ⟨rfl, by have := q.1; have z : i < 1 := this; omega, q.2⟩)).symm
  · exact (w_Ek (by decide)).trans (if_neg (fun q => h9 ⟨rfl, by have := q.1; have z : i < 1 := this; omega, q.2⟩)).symm
  · exact (w_Ek (by decide)).trans (if_neg (c := i < 0 ∧ j = 0) (t := some (x_rdr x_0 i)) (fun q => absurd q.1 (Nat.not_lt_zero _))).symm
  · exact (w_Ek (by decide)).trans (if_neg (c := i < 0 ∧ j = 0) (t := some (x_rdr x_0 i)) (fun q => absurd q.1 (Nat.not_lt_zero _))).symm
  · exact (w_Ek (by decide)).trans (if_neg (c := i < 0 ∧ j = 0) (t := some (x_rdr x_0 i)) (fun q => absurd q.1 (Nat.not_lt_zero _))).symm
  · exact (w_Ek (by decide)).trans (if_neg (c := i < 0 ∧ j = 0) (t := some (x_rdr x_0 i)) (fun q => absurd q.1 (Nat.not_lt_zero _))).symm
  · exact (w_Ek (by decide)).trans (if_neg (c := i < 0 ∧ j = 0) (t := some (x_rdr x_0 i)) (fun q => absurd q.1 (Nat.not_lt_zero _))).symm
  · exact (w_Ek (by decide)).trans (if_neg (c := i < 0 ∧ j = 0) (t := some (x_rdr x_0 i)) (fun q => absurd q.1 (Nat.not_lt_zero _))).symm
  · exact (w_Ek (by decide)).trans (if_neg (c := i < 0 ∧ j = 0) (t := some (x_rdr x_0 i)) (fun q => absurd q.1 (Nat.not_lt_zero _))).symm
  · exact (w_Ek (by decide)).trans (if_neg (c := i < 0 ∧ j = 0) (t := some (x_rdr x_0 i)) (fun q => absurd q.1 (Nat.not_lt_zero _))).symm
  · exact (w_Ek (by decide)).trans (if_neg (c := i < 0 ∧ j = 0) (t := some (x_rdr x_0 i)) (fun q => absurd q.1 (Nat.not_lt_zero _))).symm
  · show w_E (k + 19, i, j) = if k = 71 ∧ i = 0 ∧ j = 0 then some (zoa 0 (fun _ => none)) else none
    by_cases hE : k = 71 ∧ i = 0 ∧ j = 0
    · rw [if_pos hE, hE.1, hE.2.1, hE.2.2]
      exact w_EE
    · rw [if_neg hE]
      exact if_neg (nm_ne (by omega))
