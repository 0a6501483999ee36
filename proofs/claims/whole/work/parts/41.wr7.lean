/-! WishRoutes: reach, and whether a notice is asked for -/
noncomputable def rc_near (x : zSt) (fresh : Int32) : Nat → Int32
  | 0 => 0
  | n + 1 => if inm fresh (nI n) = true then rc_near x fresh n ||| x_nb x n else rc_near x fresh n
noncomputable def rc (x : zSt) (shut : Int32) : Nat → Int32 → Int32 → Int32
  | 0, found, _ => found
  | n + 1, found, fresh => if fresh = 0 then found else rc x shut n (found ||| ((rc_near x fresh (x_dk x) &&& (found ^^^ (-1))) &&& (shut ^^^ (-1)))) ((rc_near x fresh (x_dk x) &&& (found ^^^ (-1))) &&& (shut ^^^ (-1)))
noncomputable def x_reach (x : zSt) (s b : Int32) : Int32 := rc x (if b = -1 then 0 else (1 : Int32) <<< (b &&& 31)) 12 ((1 : Int32) <<< (s &&& 31)) ((1 : Int32) <<< (s &&& 31))
def T_WR_reach (As : List zAV) (M : zMp) (Rt : Option zAV → zMp → Prop) : Prop := ∃ x s b, As = [.inr (0, 0, 0), .inl (.int s), .inl (.int b)] ∧ M = pic x ∧ x_dk x ≤ 12 ∧ Rt (some (.inl (.int (x_reach x s b)))) M
abbrev co_WR_reach := co0
theorem dX6_reach_0 : decode cX6_reach 0 = .ok (.iload_n 2, 1) := by decide +kernel
theorem dX6_reach_1 : decode cX6_reach 1 = .ok (.iconst (-1), 1) := by decide +kernel
theorem dX6_reach_2 : decode cX6_reach 2 = .ok (.if_icmp .ne 7, 3) := by decide +kernel
theorem dX6_reach_5 : decode cX6_reach 5 = .ok (.iconst 0, 1) := by decide +kernel
theorem dX6_reach_6 : decode cX6_reach 6 = .ok (.goto 6, 3) := by decide +kernel
theorem dX6_reach_9 : decode cX6_reach 9 = .ok (.iconst 1, 1) := by decide +kernel
theorem dX6_reach_10 : decode cX6_reach 10 = .ok (.iload_n 2, 1) := by decide +kernel
theorem dX6_reach_11 : decode cX6_reach 11 = .ok (.ishl, 1) := by decide +kernel
theorem dX6_reach_12 : decode cX6_reach 12 = .ok (.istore_n 3, 1) := by decide +kernel
theorem dX6_reach_13 : decode cX6_reach 13 = .ok (.iconst 1, 1) := by decide +kernel
theorem dX6_reach_14 : decode cX6_reach 14 = .ok (.iload_n 1, 1) := by decide +kernel
theorem dX6_reach_15 : decode cX6_reach 15 = .ok (.ishl, 1) := by decide +kernel
theorem dX6_reach_16 : decode cX6_reach 16 = .ok (.istore 4, 2) := by decide +kernel
theorem dX6_reach_18 : decode cX6_reach 18 = .ok (.iload 4, 2) := by decide +kernel
theorem dX6_reach_20 : decode cX6_reach 20 = .ok (.istore 5, 2) := by decide +kernel
theorem dX6_reach_22 : decode cX6_reach 22 = .ok (.iconst 0, 1) := by decide +kernel
theorem dX6_reach_23 : decode cX6_reach 23 = .ok (.istore 6, 2) := by decide +kernel
theorem dX6_reach_25 : decode cX6_reach 25 = .ok (.iload 6, 2) := by decide +kernel
theorem dX6_reach_27 : decode cX6_reach 27 = .ok (.bipush 12, 2) := by decide +kernel
theorem dX6_reach_29 : decode cX6_reach 29 = .ok (.if_icmp .ge 77, 3) := by decide +kernel
theorem dX6_reach_32 : decode cX6_reach 32 = .ok (.iload 5, 2) := by decide +kernel
theorem dX6_reach_34 : decode cX6_reach 34 = .ok (.ifCond .eq 72, 3) := by decide +kernel
theorem dX6_reach_37 : decode cX6_reach 37 = .ok (.iconst 0, 1) := by decide +kernel
theorem dX6_reach_38 : decode cX6_reach 38 = .ok (.istore 7, 2) := by decide +kernel
theorem dX6_reach_40 : decode cX6_reach 40 = .ok (.iconst 0, 1) := by decide +kernel
theorem dX6_reach_41 : decode cX6_reach 41 = .ok (.istore 8, 2) := by decide +kernel
theorem dX6_reach_43 : decode cX6_reach 43 = .ok (.iload 8, 2) := by decide +kernel
theorem dX6_reach_45 : decode cX6_reach 45 = .ok (.aload_n 0, 1) := by decide +kernel
theorem dX6_reach_46 : decode cX6_reach 46 = .ok (.getfield 53, 3) := by decide +kernel
theorem dX6_reach_49 : decode cX6_reach 49 = .ok (.if_icmp .ge 31, 3) := by decide +kernel
theorem dX6_reach_52 : decode cX6_reach 52 = .ok (.iload 5, 2) := by decide +kernel
theorem dX6_reach_54 : decode cX6_reach 54 = .ok (.iload 8, 2) := by decide +kernel
theorem dX6_reach_56 : decode cX6_reach 56 = .ok (.invokestatic 77, 3) := by decide +kernel
theorem dX6_reach_59 : decode cX6_reach 59 = .ok (.ifCond .eq 15, 3) := by decide +kernel
theorem dX6_reach_62 : decode cX6_reach 62 = .ok (.iload 7, 2) := by decide +kernel
theorem dX6_reach_64 : decode cX6_reach 64 = .ok (.aload_n 0, 1) := by decide +kernel
theorem dX6_reach_65 : decode cX6_reach 65 = .ok (.getfield 22, 3) := by decide +kernel
theorem dX6_reach_68 : decode cX6_reach 68 = .ok (.iload 8, 2) := by decide +kernel
theorem dX6_reach_70 : decode cX6_reach 70 = .ok (.iaload, 1) := by decide +kernel
theorem dX6_reach_71 : decode cX6_reach 71 = .ok (.ior, 1) := by decide +kernel
theorem dX6_reach_72 : decode cX6_reach 72 = .ok (.istore 7, 2) := by decide +kernel
theorem dX6_reach_74 : decode cX6_reach 74 = .ok (.iinc 8 1, 3) := by decide +kernel
theorem dX6_reach_77 : decode cX6_reach 77 = .ok (.goto (-34), 3) := by decide +kernel
theorem dX6_reach_80 : decode cX6_reach 80 = .ok (.iload 7, 2) := by decide +kernel
theorem dX6_reach_82 : decode cX6_reach 82 = .ok (.iload 4, 2) := by decide +kernel
theorem dX6_reach_84 : decode cX6_reach 84 = .ok (.iconst (-1), 1) := by decide +kernel
theorem dX6_reach_85 : decode cX6_reach 85 = .ok (.ixor, 1) := by decide +kernel
theorem dX6_reach_86 : decode cX6_reach 86 = .ok (.iand, 1) := by decide +kernel
theorem dX6_reach_87 : decode cX6_reach 87 = .ok (.iload_n 3, 1) := by decide +kernel
theorem dX6_reach_88 : decode cX6_reach 88 = .ok (.iconst (-1), 1) := by decide +kernel
theorem dX6_reach_89 : decode cX6_reach 89 = .ok (.ixor, 1) := by decide +kernel
theorem dX6_reach_90 : decode cX6_reach 90 = .ok (.iand, 1) := by decide +kernel
theorem dX6_reach_91 : decode cX6_reach 91 = .ok (.istore 5, 2) := by decide +kernel
theorem dX6_reach_93 : decode cX6_reach 93 = .ok (.iload 4, 2) := by decide +kernel
theorem dX6_reach_95 : decode cX6_reach 95 = .ok (.iload 5, 2) := by decide +kernel
theorem dX6_reach_97 : decode cX6_reach 97 = .ok (.ior, 1) := by decide +kernel
theorem dX6_reach_98 : decode cX6_reach 98 = .ok (.istore 4, 2) := by decide +kernel
theorem dX6_reach_100 : decode cX6_reach 100 = .ok (.iinc 6 1, 3) := by decide +kernel
theorem dX6_reach_103 : decode cX6_reach 103 = .ok (.goto (-78), 3) := by decide +kernel
theorem dX6_reach_106 : decode cX6_reach 106 = .ok (.iload 4, 2) := by decide +kernel
theorem dX6_reach_108 : decode cX6_reach 108 = .ok (.ireturn, 1) := by decide +kernel
def B_WR_reach_106 (mc ms : Nat) (Rt : Option zAV → zMp → Prop) (g : Nat → zKT) : zKT :=
  (i_il 4 (i_iret mc ms Rt))
set_option maxRecDepth 20000 in
theorem s_WR_reach_106 {X : zMa} {mc ms : Nat} {Rt : Option zAV → zMp → Prop} (hC : zCx X RX6 cX6_reach 1 21 mc ms (some .int) false Rt) (hN : zNL X = 9) : zLe (B_WR_reach_106 mc ms Rt (zG X)) (zG X 106) :=
  (sd_il hC dX6_reach_106 ((sd_iret hC dX6_reach_108)))
def B_WR_reach_80 (mc ms : Nat) (Rt : Option zAV → zMp → Prop) (g : Nat → zKT) : zKT :=
  (i_il 7 (i_il 4 (i_ic (-1) (i_ixor (i_iand (i_il 3 (i_ic (-1) (i_ixor (i_iand (i_is 5 (i_il 4 (i_il 5 (i_ior (i_is 4 (i_inc 6 1 (g 25))))))))))))))))
set_option maxRecDepth 20000 in
theorem s_WR_reach_80 {X : zMa} {mc ms : Nat} {Rt : Option zAV → zMp → Prop} (hC : zCx X RX6 cX6_reach 1 21 mc ms (some .int) false Rt) (hN : zNL X = 9) : zLe (B_WR_reach_80 mc ms Rt (zG X)) (zG X 80) :=
  (sd_il hC dX6_reach_80 ((sd_il hC dX6_reach_82 ((sd_iconst hC (by decide) dX6_reach_84 ((sd_ixor hC dX6_reach_85 ((sd_iand hC dX6_reach_86 ((sd_il_n hC rfl dX6_reach_87 ((sd_iconst hC (by decide) dX6_reach_88 ((sd_ixor hC dX6_reach_89 ((sd_iand hC dX6_reach_90 ((sd_is hC (by rw [hN]; decide) dX6_reach_91 ((sd_il hC dX6_reach_93 ((sd_il hC dX6_reach_95 ((sd_ior hC dX6_reach_97 ((sd_is hC (by rw [hN]; decide) dX6_reach_98 ((sd_inc hC (by decide) (by rw [hN]; decide) dX6_reach_100 ((sd_goto hC (tgt := 25) (by decide) dX6_reach_103 (zLe_rfl))))))))))))))))))))))))))))))))
def B_WR_reach_74 (mc ms : Nat) (Rt : Option zAV → zMp → Prop) (g : Nat → zKT) : zKT :=
  (i_inc 8 1 (g 43))
set_option maxRecDepth 20000 in
theorem s_WR_reach_74 {X : zMa} {mc ms : Nat} {Rt : Option zAV → zMp → Prop} (hC : zCx X RX6 cX6_reach 1 21 mc ms (some .int) false Rt) (hN : zNL X = 9) : zLe (B_WR_reach_74 mc ms Rt (zG X)) (zG X 74) :=
  (sd_inc hC (by decide) (by rw [hN]; decide) dX6_reach_74 ((sd_goto hC (tgt := 43) (by decide) dX6_reach_77 (zLe_rfl))))
def B_WR_reach_43 (mc ms : Nat) (Rt : Option zAV → zMp → Prop) (g : Nat → zKT) : zKT :=
  (i_il 8 (i_al 0 (i_gf 7 9 (i_icge (B_WR_reach_80 mc ms Rt g) (i_il 5 (i_il 8 (i_call mc ms 2 T_WR_inMask co_WR_inMask (i_ifeq (B_WR_reach_74 mc ms Rt g) (i_il 7 (i_al 0 (i_gf 7 3 (i_il 8 (i_ial (i_ior (i_is 7 (B_WR_reach_74 mc ms Rt g))))))))))))))))
set_option maxRecDepth 20000 in
theorem s_WR_reach_43 {X : zMa} {mc ms : Nat} {Rt : Option zAV → zMp → Prop} (hC : zCx X RX6 cX6_reach 1 21 mc ms (some .int) false Rt) (hN : zNL X = 9) : zLe (B_WR_reach_43 mc ms Rt (zG X)) (zG X 43) :=
  (sd_il hC dX6_reach_43 ((sd_al_n hC rfl dX6_reach_45 ((sd_gf hC (ci := 7) (fk := 9) rfl wi_WR (by decide) fl_WR_53 (Or.inl rfl) dX6_reach_46 ((sd_icge hC (tgt := 80) (by decide) dX6_reach_49 (s_WR_reach_80 hC hN) ((sd_il hC dX6_reach_52 ((sd_il hC dX6_reach_54 ((sd_cS hC c_WR_inMask ys_WR_inMask ml_WR_77 (by decide) (by decide) dX6_reach_56 ((sd_ifeq hC (tgt := 74) (by decide) dX6_reach_59 (s_WR_reach_74 hC hN) ((sd_il hC dX6_reach_62 ((sd_al_n hC rfl dX6_reach_64 ((sd_gf hC (ci := 7) (fk := 3) rfl wi_WR (by decide) fl_WR_22 (Or.inl rfl) dX6_reach_65 ((sd_il hC dX6_reach_68 ((sd_ial hC dX6_reach_70 ((sd_ior hC dX6_reach_71 ((sd_is hC (by rw [hN]; decide) dX6_reach_72 (s_WR_reach_74 hC hN))))))))))))))))))))))))))))))
def B_WR_reach_25 (mc ms : Nat) (Rt : Option zAV → zMp → Prop) (g : Nat → zKT) : zKT :=
  (i_il 6 (i_ic 12 (i_icge (B_WR_reach_106 mc ms Rt g) (i_il 5 (i_ifeq (B_WR_reach_106 mc ms Rt g) (i_ic 0 (i_is 7 (i_ic 0 (i_is 8 (g 43))))))))))
set_option maxRecDepth 20000 in
theorem s_WR_reach_25 {X : zMa} {mc ms : Nat} {Rt : Option zAV → zMp → Prop} (hC : zCx X RX6 cX6_reach 1 21 mc ms (some .int) false Rt) (hN : zNL X = 9) : zLe (B_WR_reach_25 mc ms Rt (zG X)) (zG X 25) :=
  (sd_il hC dX6_reach_25 ((sd_bipush hC (by decide) dX6_reach_27 ((sd_icge hC (tgt := 106) (by decide) dX6_reach_29 (s_WR_reach_106 hC hN) ((sd_il hC dX6_reach_32 ((sd_ifeq hC (tgt := 106) (by decide) dX6_reach_34 (s_WR_reach_106 hC hN) ((sd_iconst hC (by decide) dX6_reach_37 ((sd_is hC (by rw [hN]; decide) dX6_reach_38 ((sd_iconst hC (by decide) dX6_reach_40 ((sd_is hC (by rw [hN]; decide) dX6_reach_41 (zLe_rfl))))))))))))))))))
def B_WR_reach_12 (mc ms : Nat) (Rt : Option zAV → zMp → Prop) (g : Nat → zKT) : zKT :=
  (i_is 3 (i_ic 1 (i_il 1 (i_ishl (i_is 4 (i_il 4 (i_is 5 (i_ic 0 (i_is 6 (g 25))))))))))
set_option maxRecDepth 20000 in
theorem s_WR_reach_12 {X : zMa} {mc ms : Nat} {Rt : Option zAV → zMp → Prop} (hC : zCx X RX6 cX6_reach 1 21 mc ms (some .int) false Rt) (hN : zNL X = 9) : zLe (B_WR_reach_12 mc ms Rt (zG X)) (zG X 12) :=
  (sd_is_n hC rfl (by rw [hN]; decide) dX6_reach_12 ((sd_iconst hC (by decide) dX6_reach_13 ((sd_il_n hC rfl dX6_reach_14 ((sd_ishl hC dX6_reach_15 ((sd_is hC (by rw [hN]; decide) dX6_reach_16 ((sd_il hC dX6_reach_18 ((sd_is hC (by rw [hN]; decide) dX6_reach_20 ((sd_iconst hC (by decide) dX6_reach_22 ((sd_is hC (by rw [hN]; decide) dX6_reach_23 (zLe_rfl))))))))))))))))))
def B_WR_reach_9 (mc ms : Nat) (Rt : Option zAV → zMp → Prop) (g : Nat → zKT) : zKT :=
  (i_ic 1 (i_il 2 (i_ishl (B_WR_reach_12 mc ms Rt g))))
set_option maxRecDepth 20000 in
theorem s_WR_reach_9 {X : zMa} {mc ms : Nat} {Rt : Option zAV → zMp → Prop} (hC : zCx X RX6 cX6_reach 1 21 mc ms (some .int) false Rt) (hN : zNL X = 9) : zLe (B_WR_reach_9 mc ms Rt (zG X)) (zG X 9) :=
  (sd_iconst hC (by decide) dX6_reach_9 ((sd_il_n hC rfl dX6_reach_10 ((sd_ishl hC dX6_reach_11 (s_WR_reach_12 hC hN))))))
def B_WR_reach_0 (mc ms : Nat) (Rt : Option zAV → zMp → Prop) (g : Nat → zKT) : zKT :=
  (i_il 2 (i_ic (-1) (i_icne (B_WR_reach_9 mc ms Rt g) (i_ic 0 (B_WR_reach_12 mc ms Rt g)))))
set_option maxRecDepth 20000 in
theorem s_WR_reach_0 {X : zMa} {mc ms : Nat} {Rt : Option zAV → zMp → Prop} (hC : zCx X RX6 cX6_reach 1 21 mc ms (some .int) false Rt) (hN : zNL X = 9) : zLe (B_WR_reach_0 mc ms Rt (zG X)) (zG X 0) :=
  (sd_il_n hC rfl dX6_reach_0 ((sd_iconst hC (by decide) dX6_reach_1 ((sd_icne hC (tgt := 9) (by decide) dX6_reach_2 (s_WR_reach_9 hC hN) ((sd_iconst hC (by decide) dX6_reach_5 ((sd_goto hC (tgt := 12) (by decide) dX6_reach_6 (s_WR_reach_12 hC hN))))))))))
theorem c_WR_reach (l : Launch) : zCT l yX6_reach cX6_reach 9 (some .int) 1 21 T_WR_reach co_WR_reach := by
  intro As M Rt hT
  obtain ⟨x, s, b, rfl, rfl, hd, hR⟩ := hT
  refine zMet_of false (by decide +kernel) (fun h => by first | rfl | cases h) (Nat.le_of_ble_eq_true rfl) (fun X hN hC => ?_)
  show zG X 0 [some (.inr (0, 0, 0)), some (.inl (.int s)), some (.inl (.int b)), none, none, none, none, none, none] [] (pic x) 0 0
  unfold x_reach at hR
  have outer : ∀ shut n found fresh r, r + n = 12 → Rt (some (.inl (.int (rc x shut n found fresh)))) (pic x) → ∀ j7 j8 : Option zAV, (∀ z, j7 ≠ some (.inl (.long z))) → (∀ z, j7 ≠ some (.inl (.double z))) → zG X 25 [some (.inr (0, 0, 0)), some (.inl (.int s)), some (.inl (.int b)), some (.inl (.int shut)), some (.inl (.int found)), some (.inl (.int fresh)), some (.inl (.int (nI r))), j7, j8] [] (pic x) 0 0 := by
    intro shut n
    induction n with
    | zero =>
      intro found fresh r hr hq j7 j8 hj1 hj2
      refine s_WR_reach_25 hC hN _ _ _ _ _ ?_
      simp only [B_WR_reach_0, B_WR_reach_9, B_WR_reach_12, B_WR_reach_25, B_WR_reach_43, B_WR_reach_74, B_WR_reach_80, B_WR_reach_106, co_WR_inMask, co_WR_reach, i_ic, i_lc, i_nul, i_il, i_ll, i_al, i_is, i_as, i_ls, i_inc, i_iadd, i_isub, i_imul, i_iand, i_ior, i_ixor, i_idiv, i_irem, i_ishl, i_ishr, i_ladd, i_lsub, i_land, i_lor, i_i2l, i_lushr, i_lshl, i_lshr, i_lcmp, i_dup, i_pop, i_dx1, i_dup2, i_ifeq, i_ifne, i_iflt, i_ifge, i_ifgt, i_ifle, i_iceq, i_icne, i_iclt, i_icge, i_icgt, i_icle, i_ifn, i_gf, i_pf, i_ial, i_bal, i_lal, i_aal, i_ias, i_las, i_bas, i_aas, i_alen, i_newa, i_new, i_anew, i_cast, i_oi, i_call, i_callV, i_callV2, i_callI, i_iret, i_zret, i_lret, i_vret, i_aret, i_mmx, i_mmn, i_gsE, i_aceq, i_no, i_acq, i_sw, zsw, zlg, zls, znl, zfg, zcs, zsp, zrc, zisn, zft, zc1, zto, Value.category, List.set_cons_zero, List.set_cons_succ, List.length_cons, List.length_nil, Option.toList, List.append, List.nil_append, List.cons_append, true_and, and_true, Nat.add_zero, Nat.zero_le, Nat.zero_add, Nat.le_refl, Nat.reduceAdd, Nat.reduceLeDiff, co0, z0, zn_0, zn_1, zn_2, zn_3, zn_4, zn_5, zn_8, zn_12, zn_24, zn_121, zn_144, zn_256, zn_300, zn_600, zn_720, zn_1204, zn_1280, zn_2400, zn_4816, zn_14400, zn_90000, p_main, x_main]
      exact ⟨fun _ => hq, fun h => absurd ((zK (K := 12) (by decide) (n := r) (by omega)).2.1.mpr (by omega)) h⟩
    | succ n ih =>
      intro found fresh r hr hq j7 j8 hj1 hj2
      simp only [rc] at hq
      refine s_WR_reach_25 hC hN _ _ _ _ _ ?_
      simp only [B_WR_reach_0, B_WR_reach_9, B_WR_reach_12, B_WR_reach_25, B_WR_reach_43, B_WR_reach_74, B_WR_reach_80, B_WR_reach_106, co_WR_inMask, co_WR_reach, i_ic, i_lc, i_nul, i_il, i_ll, i_al, i_is, i_as, i_ls, i_inc, i_iadd, i_isub, i_imul, i_iand, i_ior, i_ixor, i_idiv, i_irem, i_ishl, i_ishr, i_ladd, i_lsub, i_land, i_lor, i_i2l, i_lushr, i_lshl, i_lshr, i_lcmp, i_dup, i_pop, i_dx1, i_dup2, i_ifeq, i_ifne, i_iflt, i_ifge, i_ifgt, i_ifle, i_iceq, i_icne, i_iclt, i_icge, i_icgt, i_icle, i_ifn, i_gf, i_pf, i_ial, i_bal, i_lal, i_aal, i_ias, i_las, i_bas, i_aas, i_alen, i_newa, i_new, i_anew, i_cast, i_oi, i_call, i_callV, i_callV2, i_callI, i_iret, i_zret, i_lret, i_vret, i_aret, i_mmx, i_mmn, i_gsE, i_aceq, i_no, i_acq, i_sw, zsw, zlg, zls, znl, zfg, zcs, zsp, zrc, zisn, zft, zc1, zto, Value.category, List.set_cons_zero, List.set_cons_succ, List.length_cons, List.length_nil, Option.toList, List.append, List.nil_append, List.cons_append, true_and, and_true, Nat.add_zero, Nat.zero_le, Nat.zero_add, Nat.le_refl, Nat.reduceAdd, Nat.reduceLeDiff, co0, z0, zn_0, zn_1, zn_2, zn_3, zn_4, zn_5, zn_8, zn_12, zn_24, zn_121, zn_144, zn_256, zn_300, zn_600, zn_720, zn_1204, zn_1280, zn_2400, zn_4816, zn_14400, zn_90000, p_main, x_main]
      refine ⟨fun h => absurd ((zK (K := 12) (by decide) (n := r) (by omega)).2.1.mp h) (by omega), fun _ => ⟨fun h0 => ?_, fun h0 => ?_⟩⟩
      · rw [if_pos h0] at hq; exact hq
      · rw [if_neg h0] at hq
        have inner := upto (N := x_dk x) (P := fun i => zG X 43 [some (.inr (0, 0, 0)), some (.inl (.int s)), some (.inl (.int b)), some (.inl (.int shut)), some (.inl (.int found)), some (.inl (.int fresh)), some (.inl (.int (nI r))), some (.inl (.int (rc_near x fresh i))), some (.inl (.int (nI i)))] [] (pic x) 0 0) (fun i hi ih2 => by
          refine s_WR_reach_43 hC hN _ _ _ _ _ ?_
          simp only [B_WR_reach_0, B_WR_reach_9, B_WR_reach_12, B_WR_reach_25, B_WR_reach_43, B_WR_reach_74, B_WR_reach_80, B_WR_reach_106, co_WR_inMask, co_WR_reach, i_ic, i_lc, i_nul, i_il, i_ll, i_al, i_is, i_as, i_ls, i_inc, i_iadd, i_isub, i_imul, i_iand, i_ior, i_ixor, i_idiv, i_irem, i_ishl, i_ishr, i_ladd, i_lsub, i_land, i_lor, i_i2l, i_lushr, i_lshl, i_lshr, i_lcmp, i_dup, i_pop, i_dx1, i_dup2, i_ifeq, i_ifne, i_iflt, i_ifge, i_ifgt, i_ifle, i_iceq, i_icne, i_iclt, i_icge, i_icgt, i_icle, i_ifn, i_gf, i_pf, i_ial, i_bal, i_lal, i_aal, i_ias, i_las, i_bas, i_aas, i_alen, i_newa, i_new, i_anew, i_cast, i_oi, i_call, i_callV, i_callV2, i_callI, i_iret, i_zret, i_lret, i_vret, i_aret, i_mmx, i_mmn, i_gsE, i_aceq, i_no, i_acq, i_sw, zsw, zlg, zls, znl, zfg, zcs, zsp, zrc, zisn, zft, zc1, zto, Value.category, List.set_cons_zero, List.set_cons_succ, List.length_cons, List.length_nil, Option.toList, List.append, List.nil_append, List.cons_append, true_and, and_true, Nat.add_zero, Nat.zero_le, Nat.zero_add, Nat.le_refl, Nat.reduceAdd, Nat.reduceLeDiff, co0, z0, zn_0, zn_1, zn_2, zn_3, zn_4, zn_5, zn_8, zn_12, zn_24, zn_121, zn_144, zn_256, zn_300, zn_600, zn_720, zn_1204, zn_1280, zn_2400, zn_4816, zn_14400, zn_90000, p_main, x_main, p_nb]
          rw [nI_1 i]
          simp only [rc_near] at ih2
          refine ⟨fun h => absurd ((zK (K := x_dk x) (by omega) (n := i) (by omega)).2.1.mp h) (by omega), fun _ => ⟨fresh, nI i, rfl, ?_⟩⟩
          simp only [p_main, x_main, p_nb, i_ic, i_lc, i_nul, i_il, i_ll, i_al, i_is, i_as, i_ls, i_inc, i_iadd, i_isub, i_imul, i_iand, i_ior, i_ixor, i_idiv, i_irem, i_ishl, i_ishr, i_ladd, i_lsub, i_land, i_lor, i_i2l, i_lushr, i_lshl, i_lshr, i_lcmp, i_dup, i_pop, i_dx1, i_dup2, i_ifeq, i_ifne, i_iflt, i_ifge, i_ifgt, i_ifle, i_iceq, i_icne, i_iclt, i_icge, i_icgt, i_icle, i_ifn, i_gf, i_pf, i_ial, i_bal, i_lal, i_aal, i_ias, i_las, i_bas, i_aas, i_alen, i_newa, i_new, i_anew, i_cast, i_oi, i_call, i_callV, i_callV2, i_callI, i_iret, i_zret, i_lret, i_vret, i_aret, i_mmx, i_mmn, i_gsE, i_aceq, i_no, i_acq, i_sw, zsw, zlg, zls, znl, zfg, zcs, zsp, zrc, zisn, zft, zc1, zto, Value.category, List.set_cons_zero, List.set_cons_succ, List.length_cons, List.length_nil, Option.toList, List.append, List.nil_append, List.cons_append, true_and, and_true, Nat.add_zero, Nat.zero_le, Nat.zero_add, Nat.le_refl, Nat.reduceAdd, Nat.reduceLeDiff, co0, z0, zn_0, zn_1, zn_2, zn_3, zn_4, zn_5, zn_8, zn_12, zn_24, zn_121, zn_144, zn_256, zn_300, zn_600, zn_720, zn_1204, zn_1280, zn_2400, zn_4816, zn_14400, zn_90000]
          rw [nI_clamp (by omega)]
          cases hb : inm fresh (nI i) with
          | false =>
            simp only [hb, Bool.false_eq_true, if_false] at ih2
            exact ⟨fun _ => ih2, fun h => absurd rfl h⟩
          | true =>
            simp only [hb, if_true] at ih2
            exact ⟨fun h => absurd h (by decide), fun _ => ⟨vp_in_nI (by omega) (by decide), ih2⟩⟩) (by
          refine s_WR_reach_43 hC hN _ _ _ _ _ ?_
          simp only [B_WR_reach_0, B_WR_reach_9, B_WR_reach_12, B_WR_reach_25, B_WR_reach_43, B_WR_reach_74, B_WR_reach_80, B_WR_reach_106, co_WR_inMask, co_WR_reach, i_ic, i_lc, i_nul, i_il, i_ll, i_al, i_is, i_as, i_ls, i_inc, i_iadd, i_isub, i_imul, i_iand, i_ior, i_ixor, i_idiv, i_irem, i_ishl, i_ishr, i_ladd, i_lsub, i_land, i_lor, i_i2l, i_lushr, i_lshl, i_lshr, i_lcmp, i_dup, i_pop, i_dx1, i_dup2, i_ifeq, i_ifne, i_iflt, i_ifge, i_ifgt, i_ifle, i_iceq, i_icne, i_iclt, i_icge, i_icgt, i_icle, i_ifn, i_gf, i_pf, i_ial, i_bal, i_lal, i_aal, i_ias, i_las, i_bas, i_aas, i_alen, i_newa, i_new, i_anew, i_cast, i_oi, i_call, i_callV, i_callV2, i_callI, i_iret, i_zret, i_lret, i_vret, i_aret, i_mmx, i_mmn, i_gsE, i_aceq, i_no, i_acq, i_sw, zsw, zlg, zls, znl, zfg, zcs, zsp, zrc, zisn, zft, zc1, zto, Value.category, List.set_cons_zero, List.set_cons_succ, List.length_cons, List.length_nil, Option.toList, List.append, List.nil_append, List.cons_append, true_and, and_true, Nat.add_zero, Nat.zero_le, Nat.zero_add, Nat.le_refl, Nat.reduceAdd, Nat.reduceLeDiff, co0, z0, zn_0, zn_1, zn_2, zn_3, zn_4, zn_5, zn_8, zn_12, zn_24, zn_121, zn_144, zn_256, zn_300, zn_600, zn_720, zn_1204, zn_1280, zn_2400, zn_4816, zn_14400, zn_90000, p_main, x_main, p_nb]
          rw [nI_1 r]
          refine ⟨fun _ => ?_, fun h => absurd ((zK (K := x_dk x) (by omega) (n := x_dk x) (by omega)).2.1.mpr (Nat.le_refl _)) h⟩
          exact ih _ _ (r + 1) (by omega) hq _ _ (by intro z hz; cases hz) (by intro z hz; cases hz)) 0 (Nat.zero_le _)
        first
          | exact inner
          | (refine ⟨?_, inner⟩; (first | trivial | (split <;> first | trivial | (next hz => exact absurd hz (hj1 _)) | (next hz => exact absurd hz (hj2 _)))))
  refine s_WR_reach_0 hC hN _ _ _ _ _ ?_
  simp only [B_WR_reach_0, B_WR_reach_9, B_WR_reach_12, B_WR_reach_25, B_WR_reach_43, B_WR_reach_74, B_WR_reach_80, B_WR_reach_106, co_WR_inMask, co_WR_reach, i_ic, i_lc, i_nul, i_il, i_ll, i_al, i_is, i_as, i_ls, i_inc, i_iadd, i_isub, i_imul, i_iand, i_ior, i_ixor, i_idiv, i_irem, i_ishl, i_ishr, i_ladd, i_lsub, i_land, i_lor, i_i2l, i_lushr, i_lshl, i_lshr, i_lcmp, i_dup, i_pop, i_dx1, i_dup2, i_ifeq, i_ifne, i_iflt, i_ifge, i_ifgt, i_ifle, i_iceq, i_icne, i_iclt, i_icge, i_icgt, i_icle, i_ifn, i_gf, i_pf, i_ial, i_bal, i_lal, i_aal, i_ias, i_las, i_bas, i_aas, i_alen, i_newa, i_new, i_anew, i_cast, i_oi, i_call, i_callV, i_callV2, i_callI, i_iret, i_zret, i_lret, i_vret, i_aret, i_mmx, i_mmn, i_gsE, i_aceq, i_no, i_acq, i_sw, zsw, zlg, zls, znl, zfg, zcs, zsp, zrc, zisn, zft, zc1, zto, Value.category, List.set_cons_zero, List.set_cons_succ, List.length_cons, List.length_nil, Option.toList, List.append, List.nil_append, List.cons_append, true_and, and_true, Nat.add_zero, Nat.zero_le, Nat.zero_add, Nat.le_refl, Nat.reduceAdd, Nat.reduceLeDiff, co0, z0, zn_0, zn_1, zn_2, zn_3, zn_4, zn_5, zn_8, zn_12, zn_24, zn_121, zn_144, zn_256, zn_300, zn_600, zn_720, zn_1204, zn_1280, zn_2400, zn_4816, zn_14400, zn_90000]
  refine ⟨fun h => ?_, fun h => ?_⟩
  · rw [if_neg h] at hR
    exact outer _ 12 _ _ 0 rfl hR none none (by intro z hz; cases hz) (by intro z hz; cases hz)
  · rw [if_pos h] at hR
    exact outer _ 12 _ _ 0 rfl hR none none (by intro z hz; cases hz) (by intro z hz; cases hz)
/-- is the notice (fields g) asked for by a row of wishes f? -/
noncomputable def it_in (x : zSt) (g : Nat → Int32) (f : Nat → Int64) : Bool := zd (∃ w, w < x_nw x ∧ zbit f w = true ∧ ws_met x w g = true)
def T_WR_isInTable (As : List zAV) (M : zMp) (Rt : Option zAV → zMp → Prop) : Prop := ∃ x k i j f, As = [.inr (0, 0, 0), .inr (12, k, 0), .inr (5, i, j)] ∧ M = pic x ∧ Iv x ∧ k < x_on x ∧ x_rw x i j = some f ∧ Rt (some (.inl (.int (zb (it_in x (x_nf x k) f))))) M
abbrev co_WR_isInTable := co0
theorem dX6_isInTable_0 : decode cX6_isInTable 0 = .ok (.iconst 0, 1) := by decide +kernel
theorem dX6_isInTable_1 : decode cX6_isInTable 1 = .ok (.istore_n 3, 1) := by decide +kernel
theorem dX6_isInTable_2 : decode cX6_isInTable 2 = .ok (.iload_n 3, 1) := by decide +kernel
theorem dX6_isInTable_3 : decode cX6_isInTable 3 = .ok (.aload_n 0, 1) := by decide +kernel
theorem dX6_isInTable_4 : decode cX6_isInTable 4 = .ok (.getfield 16, 3) := by decide +kernel
theorem dX6_isInTable_7 : decode cX6_isInTable 7 = .ok (.invokevirtual 96, 3) := by decide +kernel
theorem dX6_isInTable_10 : decode cX6_isInTable 10 = .ok (.if_icmp .ge 40, 3) := by decide +kernel
theorem dX6_isInTable_13 : decode cX6_isInTable 13 = .ok (.aload_n 2, 1) := by decide +kernel
theorem dX6_isInTable_14 : decode cX6_isInTable 14 = .ok (.iload_n 3, 1) := by decide +kernel
theorem dX6_isInTable_15 : decode cX6_isInTable 15 = .ok (.invokevirtual 258, 3) := by decide +kernel
theorem dX6_isInTable_18 : decode cX6_isInTable 18 = .ok (.ifCond .eq 26, 3) := by decide +kernel
theorem dX6_isInTable_21 : decode cX6_isInTable 21 = .ok (.aload_n 0, 1) := by decide +kernel
theorem dX6_isInTable_22 : decode cX6_isInTable 22 = .ok (.getfield 16, 3) := by decide +kernel
theorem dX6_isInTable_25 : decode cX6_isInTable 25 = .ok (.iload_n 3, 1) := by decide +kernel
theorem dX6_isInTable_26 : decode cX6_isInTable 26 = .ok (.invokevirtual 227, 3) := by decide +kernel
theorem dX6_isInTable_29 : decode cX6_isInTable 29 = .ok (.checkcast 127, 3) := by decide +kernel
theorem dX6_isInTable_32 : decode cX6_isInTable 32 = .ok (.aload_n 1, 1) := by decide +kernel
theorem dX6_isInTable_33 : decode cX6_isInTable 33 = .ok (.getfield 201, 3) := by decide +kernel
theorem dX6_isInTable_36 : decode cX6_isInTable 36 = .ok (.invokevirtual 177, 3) := by decide +kernel
theorem dX6_isInTable_39 : decode cX6_isInTable 39 = .ok (.ifCond .eq 5, 3) := by decide +kernel
theorem dX6_isInTable_42 : decode cX6_isInTable 42 = .ok (.iconst 1, 1) := by decide +kernel
theorem dX6_isInTable_43 : decode cX6_isInTable 43 = .ok (.ireturn, 1) := by decide +kernel
theorem dX6_isInTable_44 : decode cX6_isInTable 44 = .ok (.iinc 3 1, 3) := by decide +kernel
theorem dX6_isInTable_47 : decode cX6_isInTable 47 = .ok (.goto (-45), 3) := by decide +kernel
theorem dX6_isInTable_50 : decode cX6_isInTable 50 = .ok (.iconst 0, 1) := by decide +kernel
theorem dX6_isInTable_51 : decode cX6_isInTable 51 = .ok (.ireturn, 1) := by decide +kernel
def B_WR_isInTable_50 (mc ms : Nat) (Rt : Option zAV → zMp → Prop) (g : Nat → zKT) : zKT :=
  (i_ic 0 (i_zret mc ms Rt))
set_option maxRecDepth 20000 in
theorem s_WR_isInTable_50 {X : zMa} {mc ms : Nat} {Rt : Option zAV → zMp → Prop} (hC : zCx X RX6 cX6_isInTable 3 65 mc ms (some .boolean) false Rt) (hN : zNL X = 4) : zLe (B_WR_isInTable_50 mc ms Rt (zG X)) (zG X 50) :=
  (sd_iconst hC (by decide) dX6_isInTable_50 ((sd_zret hC dX6_isInTable_51)))
def B_WR_isInTable_44 (mc ms : Nat) (Rt : Option zAV → zMp → Prop) (g : Nat → zKT) : zKT :=
  (i_inc 3 1 (g 2))
set_option maxRecDepth 20000 in
theorem s_WR_isInTable_44 {X : zMa} {mc ms : Nat} {Rt : Option zAV → zMp → Prop} (hC : zCx X RX6 cX6_isInTable 3 65 mc ms (some .boolean) false Rt) (hN : zNL X = 4) : zLe (B_WR_isInTable_44 mc ms Rt (zG X)) (zG X 44) :=
  (sd_inc hC (by decide) (by rw [hN]; decide) dX6_isInTable_44 ((sd_goto hC (tgt := 2) (by decide) dX6_isInTable_47 (zLe_rfl))))
def B_WR_isInTable_2 (mc ms : Nat) (Rt : Option zAV → zMp → Prop) (g : Nat → zKT) : zKT :=
  (i_il 3 (i_al 0 (i_gf 7 1 (i_callV mc ms 0 1 T_AL_size co_AL_size (i_icge (B_WR_isInTable_50 mc ms Rt g) (i_al 2 (i_il 3 (i_callV mc ms 5 2 T_Row_has co_Row_has (i_ifeq (B_WR_isInTable_44 mc ms Rt g) (i_al 0 (i_gf 7 1 (i_il 3 (i_callV mc ms 0 2 T_AL_get co_AL_get (i_cast "WishRoutes$Wish" (i_al 1 (i_gf 3 2 (i_callV mc ms 6 2 T_Wsh_isMetBy co_Wsh_isMetBy (i_ifeq (B_WR_isInTable_44 mc ms Rt g) (i_ic 1 (i_zret mc ms Rt))))))))))))))))))))
set_option maxRecDepth 20000 in
theorem s_WR_isInTable_2 {X : zMa} {mc ms : Nat} {Rt : Option zAV → zMp → Prop} (hC : zCx X RX6 cX6_isInTable 3 65 mc ms (some .boolean) false Rt) (hN : zNL X = 4) : zLe (B_WR_isInTable_2 mc ms Rt (zG X)) (zG X 2) :=
  (sd_il_n hC rfl dX6_isInTable_2 ((sd_al_n hC rfl dX6_isInTable_3 ((sd_gf hC (ci := 7) (fk := 1) rfl wi_WR (by decide) fl_WR_16 (Or.inl rfl) dX6_isInTable_4 ((sd_cV hC c_AL_size yv_AL_size (ci := 0) rfl rfl ml_WR_96 (by decide) (by decide) dX6_isInTable_7 ((sd_icge hC (tgt := 50) (by decide) dX6_isInTable_10 (s_WR_isInTable_50 hC hN) ((sd_al_n hC rfl dX6_isInTable_13 ((sd_il_n hC rfl dX6_isInTable_14 ((sd_cV hC c_Row_has yv_Row_has (ci := 5) rfl rfl ml_WR_258 (by decide) (by decide) dX6_isInTable_15 ((sd_ifeq hC (tgt := 44) (by decide) dX6_isInTable_18 (s_WR_isInTable_44 hC hN) ((sd_al_n hC rfl dX6_isInTable_21 ((sd_gf hC (ci := 7) (fk := 1) rfl wi_WR (by decide) fl_WR_16 (Or.inl rfl) dX6_isInTable_22 ((sd_il_n hC rfl dX6_isInTable_25 ((sd_cV hC c_AL_get yv_AL_get (ci := 0) rfl rfl ml_WR_227 (by decide) (by decide) dX6_isInTable_26 ((sd_cast hC cl_WR_127 dX6_isInTable_29 ((sd_al_n hC rfl dX6_isInTable_32 ((sd_gf hC (ci := 3) (fk := 2) rfl wi_Not (by decide) fl_WR_201 (Or.inl rfl) dX6_isInTable_33 ((sd_cV hC c_Wsh_isMetBy yv_Wsh_isMetBy (ci := 6) rfl rfl ml_WR_177 (by decide) (by decide) dX6_isInTable_36 ((sd_ifeq hC (tgt := 44) (by decide) dX6_isInTable_39 (s_WR_isInTable_44 hC hN) ((sd_iconst hC (by decide) dX6_isInTable_42 ((sd_zret hC dX6_isInTable_43)))))))))))))))))))))))))))))))))))))))
def B_WR_isInTable_0 (mc ms : Nat) (Rt : Option zAV → zMp → Prop) (g : Nat → zKT) : zKT :=
  (i_ic 0 (i_is 3 (g 2)))
set_option maxRecDepth 20000 in
theorem s_WR_isInTable_0 {X : zMa} {mc ms : Nat} {Rt : Option zAV → zMp → Prop} (hC : zCx X RX6 cX6_isInTable 3 65 mc ms (some .boolean) false Rt) (hN : zNL X = 4) : zLe (B_WR_isInTable_0 mc ms Rt (zG X)) (zG X 0) :=
  (sd_iconst hC (by decide) dX6_isInTable_0 ((sd_is_n hC rfl (by rw [hN]; decide) dX6_isInTable_1 (zLe_rfl))))
theorem c_WR_isInTable (l : Launch) : zCT l yX6_isInTable cX6_isInTable 4 (some .boolean) 3 65 T_WR_isInTable co_WR_isInTable := by
  intro As M Rt hT
  obtain ⟨x, k, i, j, f, rfl, rfl, hI, hk, hf, hR⟩ := hT
  have hlim := hI.lim
  have hcap := hI.cap 1 (by decide)
  have hsz : x_sz x 1 = x_nw x := rfl
  rw [hsz] at hcap
  refine zMet_of false (by decide +kernel) (fun h => by first | rfl | cases h) (Nat.le_of_ble_eq_true rfl) (fun X hN hC => ?_)
  show zG X 0 [some (.inr (0, 0, 0)), some (.inr (12, k, 0)), some (.inr (5, i, j)), none] [] (pic x) 0 0
  have loop := upto (N := x_nw x) (P := fun w => (∀ v, v < w → ¬ (zbit f v = true ∧ ws_met x v (x_nf x k) = true)) → zG X 2 [some (.inr (0, 0, 0)), some (.inr (12, k, 0)), some (.inr (5, i, j)), some (.inl (.int (nI w)))] [] (pic x) 0 0) (fun w hw ih hp => by
    refine s_WR_isInTable_2 hC hN _ _ _ _ _ ?_
    simp only [B_WR_isInTable_0, B_WR_isInTable_2, B_WR_isInTable_44, B_WR_isInTable_50, co_AL_get, co_AL_size, co_Row_has, co_WR_isInTable, co_Wsh_isMetBy, i_ic, i_lc, i_nul, i_il, i_ll, i_al, i_is, i_as, i_ls, i_inc, i_iadd, i_isub, i_imul, i_iand, i_ior, i_ixor, i_idiv, i_irem, i_ishl, i_ishr, i_ladd, i_lsub, i_land, i_lor, i_i2l, i_lushr, i_lshl, i_lshr, i_lcmp, i_dup, i_pop, i_dx1, i_dup2, i_ifeq, i_ifne, i_iflt, i_ifge, i_ifgt, i_ifle, i_iceq, i_icne, i_iclt, i_icge, i_icgt, i_icle, i_ifn, i_gf, i_pf, i_ial, i_bal, i_lal, i_aal, i_ias, i_las, i_bas, i_aas, i_alen, i_newa, i_new, i_anew, i_cast, i_oi, i_call, i_callV, i_callV2, i_callI, i_iret, i_zret, i_lret, i_vret, i_aret, i_mmx, i_mmn, i_gsE, i_aceq, i_no, i_acq, i_sw, zsw, zlg, zls, znl, zfg, zcs, zsp, zrc, zisn, zft, zc1, zto, Value.category, List.set_cons_zero, List.set_cons_succ, List.length_cons, List.length_nil, Option.toList, List.append, List.nil_append, List.cons_append, true_and, and_true, Nat.add_zero, Nat.zero_le, Nat.zero_add, Nat.le_refl, Nat.reduceAdd, Nat.reduceLeDiff, co0, z0, zn_0, zn_1, zn_2, zn_3, zn_4, zn_5, zn_8, zn_12, zn_24, zn_121, zn_144, zn_256, zn_300, zn_600, zn_720, zn_1204, zn_1280, zn_2400, zn_4816, zn_14400, zn_90000, p_main, x_main, p_list (i := 1) (by decide)]
    refine ⟨(1, 1, 0), _, _, _, rfl, p_list (by decide), ?_⟩
    rw [hsz]
    simp only [p_main, x_main, p_rowO hf, i_ic, i_lc, i_nul, i_il, i_ll, i_al, i_is, i_as, i_ls, i_inc, i_iadd, i_isub, i_imul, i_iand, i_ior, i_ixor, i_idiv, i_irem, i_ishl, i_ishr, i_ladd, i_lsub, i_land, i_lor, i_i2l, i_lushr, i_lshl, i_lshr, i_lcmp, i_dup, i_pop, i_dx1, i_dup2, i_ifeq, i_ifne, i_iflt, i_ifge, i_ifgt, i_ifle, i_iceq, i_icne, i_iclt, i_icge, i_icgt, i_icle, i_ifn, i_gf, i_pf, i_ial, i_bal, i_lal, i_aal, i_ias, i_las, i_bas, i_aas, i_alen, i_newa, i_new, i_anew, i_cast, i_oi, i_call, i_callV, i_callV2, i_callI, i_iret, i_zret, i_lret, i_vret, i_aret, i_mmx, i_mmn, i_gsE, i_aceq, i_no, i_acq, i_sw, zsw, zlg, zls, znl, zfg, zcs, zsp, zrc, zisn, zft, zc1, zto, Value.category, List.set_cons_zero, List.set_cons_succ, List.length_cons, List.length_nil, Option.toList, List.append, List.nil_append, List.cons_append, true_and, and_true, Nat.add_zero, Nat.zero_le, Nat.zero_add, Nat.le_refl, Nat.reduceAdd, Nat.reduceLeDiff, co0, z0, zn_0, zn_1, zn_2, zn_3, zn_4, zn_5, zn_8, zn_12, zn_24, zn_121, zn_144, zn_256, zn_300, zn_600, zn_720, zn_1204, zn_1280, zn_2400, zn_4816, zn_14400, zn_90000]
    refine ⟨fun h => absurd ((zK (K := x_nw x) (by omega) (n := w) (by omega)).2.1.mp h) (by omega), fun _ => ⟨(5, i, j), (6, i, j), f, w, rfl, by omega, p_row hf, ?_⟩⟩
    simp only [p_main, x_main, p_list (i := 1) (by decide), i_ic, i_lc, i_nul, i_il, i_ll, i_al, i_is, i_as, i_ls, i_inc, i_iadd, i_isub, i_imul, i_iand, i_ior, i_ixor, i_idiv, i_irem, i_ishl, i_ishr, i_ladd, i_lsub, i_land, i_lor, i_i2l, i_lushr, i_lshl, i_lshr, i_lcmp, i_dup, i_pop, i_dx1, i_dup2, i_ifeq, i_ifne, i_iflt, i_ifge, i_ifgt, i_ifle, i_iceq, i_icne, i_iclt, i_icge, i_icgt, i_icle, i_ifn, i_gf, i_pf, i_ial, i_bal, i_lal, i_aal, i_ias, i_las, i_bas, i_aas, i_alen, i_newa, i_new, i_anew, i_cast, i_oi, i_call, i_callV, i_callV2, i_callI, i_iret, i_zret, i_lret, i_vret, i_aret, i_mmx, i_mmn, i_gsE, i_aceq, i_no, i_acq, i_sw, zsw, zlg, zls, znl, zfg, zcs, zsp, zrc, zisn, zft, zc1, zto, Value.category, List.set_cons_zero, List.set_cons_succ, List.length_cons, List.length_nil, Option.toList, List.append, List.nil_append, List.cons_append, true_and, and_true, Nat.add_zero, Nat.zero_le, Nat.zero_add, Nat.le_refl, Nat.reduceAdd, Nat.reduceLeDiff, co0, z0, zn_0, zn_1, zn_2, zn_3, zn_4, zn_5, zn_8, zn_12, zn_24, zn_121, zn_144, zn_256, zn_300, zn_600, zn_720, zn_1204, zn_1280, zn_2400, zn_4816, zn_14400, zn_90000]
    rw [nI_1]
    refine ⟨fun hb => ih (lt_s hp (fun z => by rw [z.1] at hb; exact absurd hb (by decide))), fun hb => ?_⟩
    have hb' : zbit f w = true := by
      cases h : zbit f w with
      | true => rfl
      | false => exact absurd (zb_0.mpr h) hb
    refine ⟨(1, 1, 0), _, _, _, _, _, w, rfl, p_list (by decide), p_dat (by decide) (by omega), by rw [hsz]; exact hw, by rw [hsz]; exact hcap.1, by omega, ?_⟩
    have ek : x_el x 1 w = some (15, w, 0) := if_pos hw
    have hkk : w < x_ow x := Nat.lt_of_lt_of_le hw hI.cnt.2.1
    rw [ek]
    simp only [zov, zok, p_wsh hkk, x_wsh, p_ntc hk, x_ntc, i_ic, i_lc, i_nul, i_il, i_ll, i_al, i_is, i_as, i_ls, i_inc, i_iadd, i_isub, i_imul, i_iand, i_ior, i_ixor, i_idiv, i_irem, i_ishl, i_ishr, i_ladd, i_lsub, i_land, i_lor, i_i2l, i_lushr, i_lshl, i_lshr, i_lcmp, i_dup, i_pop, i_dx1, i_dup2, i_ifeq, i_ifne, i_iflt, i_ifge, i_ifgt, i_ifle, i_iceq, i_icne, i_iclt, i_icge, i_icgt, i_icle, i_ifn, i_gf, i_pf, i_ial, i_bal, i_lal, i_aal, i_ias, i_las, i_bas, i_aas, i_alen, i_newa, i_new, i_anew, i_cast, i_oi, i_call, i_callV, i_callV2, i_callI, i_iret, i_zret, i_lret, i_vret, i_aret, i_mmx, i_mmn, i_gsE, i_aceq, i_no, i_acq, i_sw, zsw, zlg, zls, znl, zfg, zcs, zsp, zrc, zisn, zft, zc1, zto, Value.category, List.set_cons_zero, List.set_cons_succ, List.length_cons, List.length_nil, Option.toList, List.append, List.nil_append, List.cons_append, true_and, and_true, Nat.add_zero, Nat.zero_le, Nat.zero_add, Nat.le_refl, Nat.reduceAdd, Nat.reduceLeDiff, co0, z0, zn_0, zn_1, zn_2, zn_3, zn_4, zn_5, zn_8, zn_12, zn_24, zn_121, zn_144, zn_256, zn_300, zn_600, zn_720, zn_1204, zn_1280, zn_2400, zn_4816, zn_14400, zn_90000]
    refine ⟨zk_Wsh_Wsh, x, w, (13, k, 0), x_nf x k, rfl, rfl, ⟨hkk, (hI.wsh w hkk).2.2⟩, p_nf hk, ?_⟩
    refine ⟨fun hm => ih (lt_s hp (fun z => by rw [z.2] at hm; exact absurd hm (by decide))), fun hm => ⟨by decide, ?_⟩⟩
    have : it_in x (x_nf x k) f = true := zd_t ⟨w, hw, hb', by
      cases h : ws_met x w (x_nf x k) with
      | true => rfl
      | false => exact absurd (zb_0.mpr h) hm⟩
    rw [this] at hR
    exact hR) (fun hp => by
    refine s_WR_isInTable_2 hC hN _ _ _ _ _ ?_
    simp only [B_WR_isInTable_0, B_WR_isInTable_2, B_WR_isInTable_44, B_WR_isInTable_50, co_AL_get, co_AL_size, co_Row_has, co_WR_isInTable, co_Wsh_isMetBy, i_ic, i_lc, i_nul, i_il, i_ll, i_al, i_is, i_as, i_ls, i_inc, i_iadd, i_isub, i_imul, i_iand, i_ior, i_ixor, i_idiv, i_irem, i_ishl, i_ishr, i_ladd, i_lsub, i_land, i_lor, i_i2l, i_lushr, i_lshl, i_lshr, i_lcmp, i_dup, i_pop, i_dx1, i_dup2, i_ifeq, i_ifne, i_iflt, i_ifge, i_ifgt, i_ifle, i_iceq, i_icne, i_iclt, i_icge, i_icgt, i_icle, i_ifn, i_gf, i_pf, i_ial, i_bal, i_lal, i_aal, i_ias, i_las, i_bas, i_aas, i_alen, i_newa, i_new, i_anew, i_cast, i_oi, i_call, i_callV, i_callV2, i_callI, i_iret, i_zret, i_lret, i_vret, i_aret, i_mmx, i_mmn, i_gsE, i_aceq, i_no, i_acq, i_sw, zsw, zlg, zls, znl, zfg, zcs, zsp, zrc, zisn, zft, zc1, zto, Value.category, List.set_cons_zero, List.set_cons_succ, List.length_cons, List.length_nil, Option.toList, List.append, List.nil_append, List.cons_append, true_and, and_true, Nat.add_zero, Nat.zero_le, Nat.zero_add, Nat.le_refl, Nat.reduceAdd, Nat.reduceLeDiff, co0, z0, zn_0, zn_1, zn_2, zn_3, zn_4, zn_5, zn_8, zn_12, zn_24, zn_121, zn_144, zn_256, zn_300, zn_600, zn_720, zn_1204, zn_1280, zn_2400, zn_4816, zn_14400, zn_90000, p_main, x_main, p_list (i := 1) (by decide)]
    refine ⟨(1, 1, 0), _, _, _, rfl, p_list (by decide), ?_⟩
    rw [hsz]
    refine ⟨fun _ => ⟨by decide, ?_⟩, fun h => absurd ((zK (K := x_nw x) (by omega) (n := x_nw x) (by omega)).2.1.mpr (Nat.le_refl _)) h⟩
    have : it_in x (x_nf x k) f = false := zd_f (fun ⟨w, hw, h1, h2⟩ => hp w hw ⟨h1, h2⟩)
    rw [this] at hR
    exact hR) 0 (Nat.zero_le _)
  refine s_WR_isInTable_0 hC hN _ _ _ _ _ ?_
  simp only [B_WR_isInTable_0, B_WR_isInTable_2, B_WR_isInTable_44, B_WR_isInTable_50, co_AL_get, co_AL_size, co_Row_has, co_WR_isInTable, co_Wsh_isMetBy, i_ic, i_lc, i_nul, i_il, i_ll, i_al, i_is, i_as, i_ls, i_inc, i_iadd, i_isub, i_imul, i_iand, i_ior, i_ixor, i_idiv, i_irem, i_ishl, i_ishr, i_ladd, i_lsub, i_land, i_lor, i_i2l, i_lushr, i_lshl, i_lshr, i_lcmp, i_dup, i_pop, i_dx1, i_dup2, i_ifeq, i_ifne, i_iflt, i_ifge, i_ifgt, i_ifle, i_iceq, i_icne, i_iclt, i_icge, i_icgt, i_icle, i_ifn, i_gf, i_pf, i_ial, i_bal, i_lal, i_aal, i_ias, i_las, i_bas, i_aas, i_alen, i_newa, i_new, i_anew, i_cast, i_oi, i_call, i_callV, i_callV2, i_callI, i_iret, i_zret, i_lret, i_vret, i_aret, i_mmx, i_mmn, i_gsE, i_aceq, i_no, i_acq, i_sw, zsw, zlg, zls, znl, zfg, zcs, zsp, zrc, zisn, zft, zc1, zto, Value.category, List.set_cons_zero, List.set_cons_succ, List.length_cons, List.length_nil, Option.toList, List.append, List.nil_append, List.cons_append, true_and, and_true, Nat.add_zero, Nat.zero_le, Nat.zero_add, Nat.le_refl, Nat.reduceAdd, Nat.reduceLeDiff, co0, z0, zn_0, zn_1, zn_2, zn_3, zn_4, zn_5, zn_8, zn_12, zn_24, zn_121, zn_144, zn_256, zn_300, zn_600, zn_720, zn_1204, zn_1280, zn_2400, zn_4816, zn_14400, zn_90000]
  exact loop (fun j hj => absurd hj (Nat.not_lt_zero j))
