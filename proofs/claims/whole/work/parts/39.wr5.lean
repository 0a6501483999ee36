/-! WishRoutes: what is known, what is meant, what is told -/
theorem Iv_kn {x : zSt} {f : Nat → Int64} (h : Iv x) : Iv (u_kn x f) := h
theorem Iv_me {x : zSt} {f : Nat → Int64} (h : Iv x) : Iv (u_me x f) := h
/-- the wishes of readers at u among the first n, added to the cleared row -/
noncomputable def kn_A (x : zSt) (u : Int32) : Nat → Nat → Int64
  | 0 => rw_clr (x_kn x)
  | n + 1 => if x_wa x n = true ∧ x_rd x (x_wr x n) = u then rw_add (kn_A x u n) n else kn_A x u n
/-- and the tables of the first n desks but v -/
noncomputable def kn_B (x : zSt) (u v : Int32) : Nat → Nat → Int64
  | 0 => kn_A x u (x_nw x)
  | n + 1 => match lnF x (nI n) u with
    | some l => if nI n = v then kn_B x u v n else rw_or (kn_B x u v n) (x_lb x l)
    | none => kn_B x u v n
def T_WR_findKnown (As : List zAV) (M : zMp) (Rt : Option zAV → zMp → Prop) : Prop := ∃ x u v, As = [.inr (0, 0, 0), .inl (.int u), .inl (.int v)] ∧ M = pic x ∧ Iv x ∧ Rt none (pic (u_kn x (kn_B x u v (x_dk x))))
abbrev co_WR_findKnown := co0
theorem dX6_findKnown_0 : decode cX6_findKnown 0 = .ok (.aload_n 0, 1) := by decide +kernel
theorem dX6_findKnown_1 : decode cX6_findKnown 1 = .ok (.getfield 38, 3) := by decide +kernel
theorem dX6_findKnown_4 : decode cX6_findKnown 4 = .ok (.invokevirtual 257, 3) := by decide +kernel
theorem dX6_findKnown_7 : decode cX6_findKnown 7 = .ok (.iconst 0, 1) := by decide +kernel
theorem dX6_findKnown_8 : decode cX6_findKnown 8 = .ok (.istore_n 3, 1) := by decide +kernel
theorem dX6_findKnown_9 : decode cX6_findKnown 9 = .ok (.iload_n 3, 1) := by decide +kernel
theorem dX6_findKnown_10 : decode cX6_findKnown 10 = .ok (.aload_n 0, 1) := by decide +kernel
theorem dX6_findKnown_11 : decode cX6_findKnown 11 = .ok (.getfield 16, 3) := by decide +kernel
theorem dX6_findKnown_14 : decode cX6_findKnown 14 = .ok (.invokevirtual 96, 3) := by decide +kernel
theorem dX6_findKnown_17 : decode cX6_findKnown 17 = .ok (.if_icmp .ge 50, 3) := by decide +kernel
theorem dX6_findKnown_20 : decode cX6_findKnown 20 = .ok (.aload_n 0, 1) := by decide +kernel
theorem dX6_findKnown_21 : decode cX6_findKnown 21 = .ok (.getfield 16, 3) := by decide +kernel
theorem dX6_findKnown_24 : decode cX6_findKnown 24 = .ok (.iload_n 3, 1) := by decide +kernel
theorem dX6_findKnown_25 : decode cX6_findKnown 25 = .ok (.invokevirtual 227, 3) := by decide +kernel
theorem dX6_findKnown_28 : decode cX6_findKnown 28 = .ok (.checkcast 127, 3) := by decide +kernel
theorem dX6_findKnown_31 : decode cX6_findKnown 31 = .ok (.astore 4, 2) := by decide +kernel
theorem dX6_findKnown_33 : decode cX6_findKnown 33 = .ok (.aload 4, 2) := by decide +kernel
theorem dX6_findKnown_35 : decode cX6_findKnown 35 = .ok (.getfield 140, 3) := by decide +kernel
theorem dX6_findKnown_38 : decode cX6_findKnown 38 = .ok (.ifCond .eq 23, 3) := by decide +kernel
theorem dX6_findKnown_41 : decode cX6_findKnown 41 = .ok (.aload 4, 2) := by decide +kernel
theorem dX6_findKnown_43 : decode cX6_findKnown 43 = .ok (.getfield 144, 3) := by decide +kernel
theorem dX6_findKnown_46 : decode cX6_findKnown 46 = .ok (.getfield 112, 3) := by decide +kernel
theorem dX6_findKnown_49 : decode cX6_findKnown 49 = .ok (.iload_n 1, 1) := by decide +kernel
theorem dX6_findKnown_50 : decode cX6_findKnown 50 = .ok (.if_icmp .ne 11, 3) := by decide +kernel
theorem dX6_findKnown_53 : decode cX6_findKnown 53 = .ok (.aload_n 0, 1) := by decide +kernel
theorem dX6_findKnown_54 : decode cX6_findKnown 54 = .ok (.getfield 38, 3) := by decide +kernel
theorem dX6_findKnown_57 : decode cX6_findKnown 57 = .ok (.iload_n 3, 1) := by decide +kernel
theorem dX6_findKnown_58 : decode cX6_findKnown 58 = .ok (.invokevirtual 241, 3) := by decide +kernel
theorem dX6_findKnown_61 : decode cX6_findKnown 61 = .ok (.iinc 3 1, 3) := by decide +kernel
theorem dX6_findKnown_64 : decode cX6_findKnown 64 = .ok (.goto (-55), 3) := by decide +kernel
theorem dX6_findKnown_67 : decode cX6_findKnown 67 = .ok (.iconst 0, 1) := by decide +kernel
theorem dX6_findKnown_68 : decode cX6_findKnown 68 = .ok (.istore_n 3, 1) := by decide +kernel
theorem dX6_findKnown_69 : decode cX6_findKnown 69 = .ok (.iload_n 3, 1) := by decide +kernel
theorem dX6_findKnown_70 : decode cX6_findKnown 70 = .ok (.aload_n 0, 1) := by decide +kernel
theorem dX6_findKnown_71 : decode cX6_findKnown 71 = .ok (.getfield 53, 3) := by decide +kernel
theorem dX6_findKnown_74 : decode cX6_findKnown 74 = .ok (.if_icmp .ge 39, 3) := by decide +kernel
theorem dX6_findKnown_77 : decode cX6_findKnown 77 = .ok (.aload_n 0, 1) := by decide +kernel
theorem dX6_findKnown_78 : decode cX6_findKnown 78 = .ok (.iload_n 3, 1) := by decide +kernel
theorem dX6_findKnown_79 : decode cX6_findKnown 79 = .ok (.iload_n 1, 1) := by decide +kernel
theorem dX6_findKnown_80 : decode cX6_findKnown 80 = .ok (.invokevirtual 89, 3) := by decide +kernel
theorem dX6_findKnown_83 : decode cX6_findKnown 83 = .ok (.astore 4, 2) := by decide +kernel
theorem dX6_findKnown_85 : decode cX6_findKnown 85 = .ok (.aload 4, 2) := by decide +kernel
theorem dX6_findKnown_87 : decode cX6_findKnown 87 = .ok (.ifnull 20, 3) := by decide +kernel
theorem dX6_findKnown_90 : decode cX6_findKnown 90 = .ok (.iload_n 3, 1) := by decide +kernel
theorem dX6_findKnown_91 : decode cX6_findKnown 91 = .ok (.iload_n 2, 1) := by decide +kernel
theorem dX6_findKnown_92 : decode cX6_findKnown 92 = .ok (.if_icmp .eq 15, 3) := by decide +kernel
theorem dX6_findKnown_95 : decode cX6_findKnown 95 = .ok (.aload_n 0, 1) := by decide +kernel
theorem dX6_findKnown_96 : decode cX6_findKnown 96 = .ok (.getfield 38, 3) := by decide +kernel
theorem dX6_findKnown_99 : decode cX6_findKnown 99 = .ok (.aload 4, 2) := by decide +kernel
theorem dX6_findKnown_101 : decode cX6_findKnown 101 = .ok (.getfield 181, 3) := by decide +kernel
theorem dX6_findKnown_104 : decode cX6_findKnown 104 = .ok (.invokevirtual 264, 3) := by decide +kernel
theorem dX6_findKnown_107 : decode cX6_findKnown 107 = .ok (.iinc 3 1, 3) := by decide +kernel
theorem dX6_findKnown_110 : decode cX6_findKnown 110 = .ok (.goto (-41), 3) := by decide +kernel
theorem dX6_findKnown_113 : decode cX6_findKnown 113 = .ok (.return_, 1) := by decide +kernel
def B_WR_findKnown_113 (mc ms : Nat) (Rt : Option zAV → zMp → Prop) (g : Nat → zKT) : zKT :=
  (i_vret mc ms Rt)
set_option maxRecDepth 20000 in
theorem s_WR_findKnown_113 {X : zMa} {mc ms : Nat} {Rt : Option zAV → zMp → Prop} (hC : zCx X RX6 cX6_findKnown 3 64 mc ms (none) false Rt) (hN : zNL X = 5) : zLe (B_WR_findKnown_113 mc ms Rt (zG X)) (zG X 113) :=
  (sd_vret hC dX6_findKnown_113)
def B_WR_findKnown_107 (mc ms : Nat) (Rt : Option zAV → zMp → Prop) (g : Nat → zKT) : zKT :=
  (i_inc 3 1 (g 69))
set_option maxRecDepth 20000 in
theorem s_WR_findKnown_107 {X : zMa} {mc ms : Nat} {Rt : Option zAV → zMp → Prop} (hC : zCx X RX6 cX6_findKnown 3 64 mc ms (none) false Rt) (hN : zNL X = 5) : zLe (B_WR_findKnown_107 mc ms Rt (zG X)) (zG X 107) :=
  (sd_inc hC (by decide) (by rw [hN]; decide) dX6_findKnown_107 ((sd_goto hC (tgt := 69) (by decide) dX6_findKnown_110 (zLe_rfl))))
def B_WR_findKnown_69 (mc ms : Nat) (Rt : Option zAV → zMp → Prop) (g : Nat → zKT) : zKT :=
  (i_il 3 (i_al 0 (i_gf 7 9 (i_icge (B_WR_findKnown_113 mc ms Rt g) (i_al 0 (i_il 3 (i_il 1 (i_callV mc ms 7 3 T_WR_laneFrom co_WR_laneFrom (i_as 4 (i_al 4 (i_ifn (B_WR_findKnown_107 mc ms Rt g) (i_il 3 (i_il 2 (i_iceq (B_WR_findKnown_107 mc ms Rt g) (i_al 0 (i_gf 7 6 (i_al 4 (i_gf 2 1 (i_callV mc ms 5 2 T_Row_addAll co_Row_addAll (B_WR_findKnown_107 mc ms Rt g))))))))))))))))))))
set_option maxRecDepth 20000 in
theorem s_WR_findKnown_69 {X : zMa} {mc ms : Nat} {Rt : Option zAV → zMp → Prop} (hC : zCx X RX6 cX6_findKnown 3 64 mc ms (none) false Rt) (hN : zNL X = 5) : zLe (B_WR_findKnown_69 mc ms Rt (zG X)) (zG X 69) :=
  (sd_il_n hC rfl dX6_findKnown_69 ((sd_al_n hC rfl dX6_findKnown_70 ((sd_gf hC (ci := 7) (fk := 9) rfl wi_WR (by decide) fl_WR_53 (Or.inl rfl) dX6_findKnown_71 ((sd_icge hC (tgt := 113) (by decide) dX6_findKnown_74 (s_WR_findKnown_113 hC hN) ((sd_al_n hC rfl dX6_findKnown_77 ((sd_il_n hC rfl dX6_findKnown_78 ((sd_il_n hC rfl dX6_findKnown_79 ((sd_cV hC c_WR_laneFrom yv_WR_laneFrom (ci := 7) rfl rfl ml_WR_89 (by decide) (by decide) dX6_findKnown_80 ((sd_as hC (by rw [hN]; decide) dX6_findKnown_83 ((sd_al hC dX6_findKnown_85 ((sd_ifnull hC (tgt := 107) (by decide) dX6_findKnown_87 (s_WR_findKnown_107 hC hN) ((sd_il_n hC rfl dX6_findKnown_90 ((sd_il_n hC rfl dX6_findKnown_91 ((sd_iceq hC (tgt := 107) (by decide) dX6_findKnown_92 (s_WR_findKnown_107 hC hN) ((sd_al_n hC rfl dX6_findKnown_95 ((sd_gf hC (ci := 7) (fk := 6) rfl wi_WR (by decide) fl_WR_38 (Or.inl rfl) dX6_findKnown_96 ((sd_al hC dX6_findKnown_99 ((sd_gf hC (ci := 2) (fk := 1) rfl wi_Lane (by decide) fl_WR_181 (Or.inl rfl) dX6_findKnown_101 ((sd_cV hC c_Row_addAll yv_Row_addAll (ci := 5) rfl rfl ml_WR_264 (by decide) (by decide) dX6_findKnown_104 (s_WR_findKnown_107 hC hN))))))))))))))))))))))))))))))))))))))
def B_WR_findKnown_67 (mc ms : Nat) (Rt : Option zAV → zMp → Prop) (g : Nat → zKT) : zKT :=
  (i_ic 0 (i_is 3 (g 69)))
set_option maxRecDepth 20000 in
theorem s_WR_findKnown_67 {X : zMa} {mc ms : Nat} {Rt : Option zAV → zMp → Prop} (hC : zCx X RX6 cX6_findKnown 3 64 mc ms (none) false Rt) (hN : zNL X = 5) : zLe (B_WR_findKnown_67 mc ms Rt (zG X)) (zG X 67) :=
  (sd_iconst hC (by decide) dX6_findKnown_67 ((sd_is_n hC rfl (by rw [hN]; decide) dX6_findKnown_68 (zLe_rfl))))
def B_WR_findKnown_61 (mc ms : Nat) (Rt : Option zAV → zMp → Prop) (g : Nat → zKT) : zKT :=
  (i_inc 3 1 (g 9))
set_option maxRecDepth 20000 in
theorem s_WR_findKnown_61 {X : zMa} {mc ms : Nat} {Rt : Option zAV → zMp → Prop} (hC : zCx X RX6 cX6_findKnown 3 64 mc ms (none) false Rt) (hN : zNL X = 5) : zLe (B_WR_findKnown_61 mc ms Rt (zG X)) (zG X 61) :=
  (sd_inc hC (by decide) (by rw [hN]; decide) dX6_findKnown_61 ((sd_goto hC (tgt := 9) (by decide) dX6_findKnown_64 (zLe_rfl))))
def B_WR_findKnown_9 (mc ms : Nat) (Rt : Option zAV → zMp → Prop) (g : Nat → zKT) : zKT :=
  (i_il 3 (i_al 0 (i_gf 7 1 (i_callV mc ms 0 1 T_AL_size co_AL_size (i_icge (B_WR_findKnown_67 mc ms Rt g) (i_al 0 (i_gf 7 1 (i_il 3 (i_callV mc ms 0 2 T_AL_get co_AL_get (i_cast "WishRoutes$Wish" (i_as 4 (i_al 4 (i_gf 6 4 (i_ifeq (B_WR_findKnown_61 mc ms Rt g) (i_al 4 (i_gf 6 1 (i_gf 4 0 (i_il 1 (i_icne (B_WR_findKnown_61 mc ms Rt g) (i_al 0 (i_gf 7 6 (i_il 3 (i_callV mc ms 5 2 T_Row_add co_Row_add (B_WR_findKnown_61 mc ms Rt g))))))))))))))))))))))))
set_option maxRecDepth 20000 in
theorem s_WR_findKnown_9 {X : zMa} {mc ms : Nat} {Rt : Option zAV → zMp → Prop} (hC : zCx X RX6 cX6_findKnown 3 64 mc ms (none) false Rt) (hN : zNL X = 5) : zLe (B_WR_findKnown_9 mc ms Rt (zG X)) (zG X 9) :=
  (sd_il_n hC rfl dX6_findKnown_9 ((sd_al_n hC rfl dX6_findKnown_10 ((sd_gf hC (ci := 7) (fk := 1) rfl wi_WR (by decide) fl_WR_16 (Or.inl rfl) dX6_findKnown_11 ((sd_cV hC c_AL_size yv_AL_size (ci := 0) rfl rfl ml_WR_96 (by decide) (by decide) dX6_findKnown_14 ((sd_icge hC (tgt := 67) (by decide) dX6_findKnown_17 (s_WR_findKnown_67 hC hN) ((sd_al_n hC rfl dX6_findKnown_20 ((sd_gf hC (ci := 7) (fk := 1) rfl wi_WR (by decide) fl_WR_16 (Or.inl rfl) dX6_findKnown_21 ((sd_il_n hC rfl dX6_findKnown_24 ((sd_cV hC c_AL_get yv_AL_get (ci := 0) rfl rfl ml_WR_227 (by decide) (by decide) dX6_findKnown_25 ((sd_cast hC cl_WR_127 dX6_findKnown_28 ((sd_as hC (by rw [hN]; decide) dX6_findKnown_31 ((sd_al hC dX6_findKnown_33 ((sd_gf hC (ci := 6) (fk := 4) rfl wi_Wsh (by decide) fl_WR_140 (Or.inl rfl) dX6_findKnown_35 ((sd_ifeq hC (tgt := 61) (by decide) dX6_findKnown_38 (s_WR_findKnown_61 hC hN) ((sd_al hC dX6_findKnown_41 ((sd_gf hC (ci := 6) (fk := 1) rfl wi_Wsh (by decide) fl_WR_144 (Or.inl rfl) dX6_findKnown_43 ((sd_gf hC (ci := 4) (fk := 0) rfl wi_Rdr (by decide) fl_WR_112 (Or.inl rfl) dX6_findKnown_46 ((sd_il_n hC rfl dX6_findKnown_49 ((sd_icne hC (tgt := 61) (by decide) dX6_findKnown_50 (s_WR_findKnown_61 hC hN) ((sd_al_n hC rfl dX6_findKnown_53 ((sd_gf hC (ci := 7) (fk := 6) rfl wi_WR (by decide) fl_WR_38 (Or.inl rfl) dX6_findKnown_54 ((sd_il_n hC rfl dX6_findKnown_57 ((sd_cV hC c_Row_add yv_Row_add (ci := 5) rfl rfl ml_WR_241 (by decide) (by decide) dX6_findKnown_58 (s_WR_findKnown_61 hC hN))))))))))))))))))))))))))))))))))))))))))))))
def B_WR_findKnown_0 (mc ms : Nat) (Rt : Option zAV → zMp → Prop) (g : Nat → zKT) : zKT :=
  (i_al 0 (i_gf 7 6 (i_callV mc ms 5 1 T_Row_clear co_Row_clear (i_ic 0 (i_is 3 (g 9))))))
set_option maxRecDepth 20000 in
theorem s_WR_findKnown_0 {X : zMa} {mc ms : Nat} {Rt : Option zAV → zMp → Prop} (hC : zCx X RX6 cX6_findKnown 3 64 mc ms (none) false Rt) (hN : zNL X = 5) : zLe (B_WR_findKnown_0 mc ms Rt (zG X)) (zG X 0) :=
  (sd_al_n hC rfl dX6_findKnown_0 ((sd_gf hC (ci := 7) (fk := 6) rfl wi_WR (by decide) fl_WR_38 (Or.inl rfl) dX6_findKnown_1 ((sd_cV hC c_Row_clear yv_Row_clear (ci := 5) rfl rfl ml_WR_257 (by decide) (by decide) dX6_findKnown_4 ((sd_iconst hC (by decide) dX6_findKnown_7 ((sd_is_n hC rfl (by rw [hN]; decide) dX6_findKnown_8 (zLe_rfl))))))))))
theorem u_kn_kn (x : zSt) (f g : Nat → Int64) : u_kn (u_kn x f) g = u_kn x g := rfl
theorem c_WR_findKnown (l : Launch) : zCT l yX6_findKnown cX6_findKnown 5 (none) 3 64 T_WR_findKnown co_WR_findKnown := by
  intro As M Rt hT
  obtain ⟨x, u, v, rfl, rfl, hI, hR⟩ := hT
  have hlim := hI.lim
  have hd := hI.dk
  have hcap := hI.cap 1 (by decide)
  have hsz : x_sz x 1 = x_nw x := rfl
  rw [hsz] at hcap
  refine zMet_of false (by decide +kernel) (fun h => by first | rfl | cases h) (Nat.le_of_ble_eq_true rfl) (fun X hN hC => ?_)
  show zG X 0 [some (.inr (0, 0, 0)), some (.inl (.int u)), some (.inl (.int v)), none, none] [] (pic x) 0 0
  -- the second loop
  have loop2 := upto (N := x_dk x) (P := fun i => ∀ j4 : Option zAV, zG X 69 [some (.inr (0, 0, 0)), some (.inl (.int u)), some (.inl (.int v)), some (.inl (.int (nI i))), j4] [] (pic (u_kn x (kn_B x u v i))) 0 0) (fun i hi ih j4 => by
    refine s_WR_findKnown_69 hC hN _ _ _ _ _ ?_
    simp only [B_WR_findKnown_0, B_WR_findKnown_9, B_WR_findKnown_61, B_WR_findKnown_67, B_WR_findKnown_69, B_WR_findKnown_107, B_WR_findKnown_113, co_AL_get, co_AL_size, co_Row_add, co_Row_addAll, co_Row_clear, co_WR_findKnown, co_WR_laneFrom, i_ic, i_lc, i_nul, i_il, i_ll, i_al, i_is, i_as, i_ls, i_inc, i_iadd, i_isub, i_imul, i_iand, i_ior, i_ixor, i_idiv, i_irem, i_ishl, i_ishr, i_ladd, i_lsub, i_land, i_lor, i_i2l, i_lushr, i_lshl, i_lshr, i_lcmp, i_dup, i_pop, i_dx1, i_dup2, i_ifeq, i_ifne, i_iflt, i_ifge, i_ifgt, i_ifle, i_iceq, i_icne, i_iclt, i_icge, i_icgt, i_icle, i_ifn, i_gf, i_pf, i_ial, i_bal, i_lal, i_aal, i_ias, i_las, i_bas, i_aas, i_alen, i_newa, i_new, i_anew, i_cast, i_oi, i_call, i_callV, i_callV2, i_callI, i_iret, i_zret, i_lret, i_vret, i_aret, i_mmx, i_mmn, i_gsE, i_aceq, i_no, i_acq, i_sw, zsw, zlg, zls, znl, zfg, zcs, zsp, zrc, zisn, zft, zc1, zto, Value.category, List.set_cons_zero, List.set_cons_succ, List.length_cons, List.length_nil, Option.toList, List.append, List.nil_append, List.cons_append, true_and, and_true, Nat.add_zero, Nat.zero_le, Nat.zero_add, Nat.le_refl, Nat.reduceAdd, Nat.reduceLeDiff, co0, z0, zn_0, zn_1, zn_2, zn_3, zn_4, zn_5, zn_8, zn_12, zn_24, zn_121, zn_144, zn_256, zn_300, zn_600, zn_720, zn_1204, zn_1280, zn_2400, zn_4816, zn_14400, zn_90000, p_main, x_main, g_dk_kn, g_lk_kn, g_po_kn, g_ne_kn, g_td_kn, g_nb_kn, g_ln_kn, g_nr_kn, g_nw_kn, g_nn_kn, g_ns_kn, g_or_kn, g_ow_kn, g_on_kn, g_nl_kn, g_ng_kn, g_rg_kn, g_lc_kn, g_cp_kn, g_gb_kn, g_sp_kn, g_kn_kn, g_me_kn, g_ob_kn, g_fk_kn, g_fz_kn, g_fg_kn, g_rd_kn, g_rz_kn, g_rh_kn, g_nd_kn, g_nm_kn, g_nv_kn, g_nh_kn, g_nf_kn, g_wr_kn, g_wa_kn, g_lz_kn, g_lf_kn, g_li_kn, g_lt_kn, g_lb_kn, g_lr_kn, g_tn_kn, g_tf_kn]
    refine ⟨fun h => absurd ((zK (K := x_dk x) (by omega) (n := i) (by omega)).2.1.mp h) (by omega), fun _ => ⟨u_kn x (kn_B x u v i), nI i, u, rfl, rfl, hd, ?_⟩⟩
    have el : lnF (u_kn x (kn_B x u v i)) (nI i) u = lnF x (nI i) u := rfl
    rw [el]
    simp only [kn_B] at ih
    rcases lnF_c hI (nI i) u with e | ⟨y, e, hok⟩
    · rw [e] at ih ⊢
      simp only [zln, Option.map_none, zov, i_ic, i_lc, i_nul, i_il, i_ll, i_al, i_is, i_as, i_ls, i_inc, i_iadd, i_isub, i_imul, i_iand, i_ior, i_ixor, i_idiv, i_irem, i_ishl, i_ishr, i_ladd, i_lsub, i_land, i_lor, i_i2l, i_lushr, i_lshl, i_lshr, i_lcmp, i_dup, i_pop, i_dx1, i_dup2, i_ifeq, i_ifne, i_iflt, i_ifge, i_ifgt, i_ifle, i_iceq, i_icne, i_iclt, i_icge, i_icgt, i_icle, i_ifn, i_gf, i_pf, i_ial, i_bal, i_lal, i_aal, i_ias, i_las, i_bas, i_aas, i_alen, i_newa, i_new, i_anew, i_cast, i_oi, i_call, i_callV, i_callV2, i_callI, i_iret, i_zret, i_lret, i_vret, i_aret, i_mmx, i_mmn, i_gsE, i_aceq, i_no, i_acq, i_sw, zsw, zlg, zls, znl, zfg, zcs, zsp, zrc, zisn, zft, zc1, zto, Value.category, List.set_cons_zero, List.set_cons_succ, List.length_cons, List.length_nil, Option.toList, List.append, List.nil_append, List.cons_append, true_and, and_true, Nat.add_zero, Nat.zero_le, Nat.zero_add, Nat.le_refl, Nat.reduceAdd, Nat.reduceLeDiff, co0, z0, zn_0, zn_1, zn_2, zn_3, zn_4, zn_5, zn_8, zn_12, zn_24, zn_121, zn_144, zn_256, zn_300, zn_600, zn_720, zn_1204, zn_1280, zn_2400, zn_4816, zn_14400, zn_90000]
      rw [nI_1]
      exact ih _
    · rw [e] at ih ⊢
      have hy : y < x_nl (u_kn x (kn_B x u v i)) := hok.1
      simp only [zln, Option.map_some, zov, p_main, x_main, p_lane hy, x_lane, p_rowO (r_kn _), i_ic, i_lc, i_nul, i_il, i_ll, i_al, i_is, i_as, i_ls, i_inc, i_iadd, i_isub, i_imul, i_iand, i_ior, i_ixor, i_idiv, i_irem, i_ishl, i_ishr, i_ladd, i_lsub, i_land, i_lor, i_i2l, i_lushr, i_lshl, i_lshr, i_lcmp, i_dup, i_pop, i_dx1, i_dup2, i_ifeq, i_ifne, i_iflt, i_ifge, i_ifgt, i_ifle, i_iceq, i_icne, i_iclt, i_icge, i_icgt, i_icle, i_ifn, i_gf, i_pf, i_ial, i_bal, i_lal, i_aal, i_ias, i_las, i_bas, i_aas, i_alen, i_newa, i_new, i_anew, i_cast, i_oi, i_call, i_callV, i_callV2, i_callI, i_iret, i_zret, i_lret, i_vret, i_aret, i_mmx, i_mmn, i_gsE, i_aceq, i_no, i_acq, i_sw, zsw, zlg, zls, znl, zfg, zcs, zsp, zrc, zisn, zft, zc1, zto, Value.category, List.set_cons_zero, List.set_cons_succ, List.length_cons, List.length_nil, Option.toList, List.append, List.nil_append, List.cons_append, true_and, and_true, Nat.add_zero, Nat.zero_le, Nat.zero_add, Nat.le_refl, Nat.reduceAdd, Nat.reduceLeDiff, co0, z0, zn_0, zn_1, zn_2, zn_3, zn_4, zn_5, zn_8, zn_12, zn_24, zn_121, zn_144, zn_256, zn_300, zn_600, zn_720, zn_1204, zn_1280, zn_2400, zn_4816, zn_14400, zn_90000]
      rw [nI_1]
      refine ⟨fun hv => ?_, fun hv => ⟨(5, 0, 0), (6, 0, 0), _, (5, 3, y), (6, 3, y), _, rfl, m_k (by decide), by simp, p_row (r_kn _), p_row (r_lb hy), ?_⟩⟩
      · simp only [hv, if_true] at ih
        exact ih _
      · simp only [hv, if_false] at ih
        rw [pu_kn, u_kn_kn]
        exact ih _) (fun j4 => by
    refine s_WR_findKnown_69 hC hN _ _ _ _ _ ?_
    simp only [B_WR_findKnown_0, B_WR_findKnown_9, B_WR_findKnown_61, B_WR_findKnown_67, B_WR_findKnown_69, B_WR_findKnown_107, B_WR_findKnown_113, co_AL_get, co_AL_size, co_Row_add, co_Row_addAll, co_Row_clear, co_WR_findKnown, co_WR_laneFrom, i_ic, i_lc, i_nul, i_il, i_ll, i_al, i_is, i_as, i_ls, i_inc, i_iadd, i_isub, i_imul, i_iand, i_ior, i_ixor, i_idiv, i_irem, i_ishl, i_ishr, i_ladd, i_lsub, i_land, i_lor, i_i2l, i_lushr, i_lshl, i_lshr, i_lcmp, i_dup, i_pop, i_dx1, i_dup2, i_ifeq, i_ifne, i_iflt, i_ifge, i_ifgt, i_ifle, i_iceq, i_icne, i_iclt, i_icge, i_icgt, i_icle, i_ifn, i_gf, i_pf, i_ial, i_bal, i_lal, i_aal, i_ias, i_las, i_bas, i_aas, i_alen, i_newa, i_new, i_anew, i_cast, i_oi, i_call, i_callV, i_callV2, i_callI, i_iret, i_zret, i_lret, i_vret, i_aret, i_mmx, i_mmn, i_gsE, i_aceq, i_no, i_acq, i_sw, zsw, zlg, zls, znl, zfg, zcs, zsp, zrc, zisn, zft, zc1, zto, Value.category, List.set_cons_zero, List.set_cons_succ, List.length_cons, List.length_nil, Option.toList, List.append, List.nil_append, List.cons_append, true_and, and_true, Nat.add_zero, Nat.zero_le, Nat.zero_add, Nat.le_refl, Nat.reduceAdd, Nat.reduceLeDiff, co0, z0, zn_0, zn_1, zn_2, zn_3, zn_4, zn_5, zn_8, zn_12, zn_24, zn_121, zn_144, zn_256, zn_300, zn_600, zn_720, zn_1204, zn_1280, zn_2400, zn_4816, zn_14400, zn_90000, p_main, x_main, g_dk_kn, g_lk_kn, g_po_kn, g_ne_kn, g_td_kn, g_nb_kn, g_ln_kn, g_nr_kn, g_nw_kn, g_nn_kn, g_ns_kn, g_or_kn, g_ow_kn, g_on_kn, g_nl_kn, g_ng_kn, g_rg_kn, g_lc_kn, g_cp_kn, g_gb_kn, g_sp_kn, g_kn_kn, g_me_kn, g_ob_kn, g_fk_kn, g_fz_kn, g_fg_kn, g_rd_kn, g_rz_kn, g_rh_kn, g_nd_kn, g_nm_kn, g_nv_kn, g_nh_kn, g_nf_kn, g_wr_kn, g_wa_kn, g_lz_kn, g_lf_kn, g_li_kn, g_lt_kn, g_lb_kn, g_lr_kn, g_tn_kn, g_tf_kn]
    exact ⟨fun _ => hR, fun h => absurd ((zK (K := x_dk x) (by omega) (n := x_dk x) (by omega)).2.1.mpr (Nat.le_refl _)) h⟩) 0 (Nat.zero_le _)
  have loop1 := upto (N := x_nw x) (P := fun i => ∀ j4 : Option zAV, zG X 9 [some (.inr (0, 0, 0)), some (.inl (.int u)), some (.inl (.int v)), some (.inl (.int (nI i))), j4] [] (pic (u_kn x (kn_A x u i))) 0 0) (fun i hi ih j4 => by
    refine s_WR_findKnown_9 hC hN _ _ _ _ _ ?_
    simp only [B_WR_findKnown_0, B_WR_findKnown_9, B_WR_findKnown_61, B_WR_findKnown_67, B_WR_findKnown_69, B_WR_findKnown_107, B_WR_findKnown_113, co_AL_get, co_AL_size, co_Row_add, co_Row_addAll, co_Row_clear, co_WR_findKnown, co_WR_laneFrom, i_ic, i_lc, i_nul, i_il, i_ll, i_al, i_is, i_as, i_ls, i_inc, i_iadd, i_isub, i_imul, i_iand, i_ior, i_ixor, i_idiv, i_irem, i_ishl, i_ishr, i_ladd, i_lsub, i_land, i_lor, i_i2l, i_lushr, i_lshl, i_lshr, i_lcmp, i_dup, i_pop, i_dx1, i_dup2, i_ifeq, i_ifne, i_iflt, i_ifge, i_ifgt, i_ifle, i_iceq, i_icne, i_iclt, i_icge, i_icgt, i_icle, i_ifn, i_gf, i_pf, i_ial, i_bal, i_lal, i_aal, i_ias, i_las, i_bas, i_aas, i_alen, i_newa, i_new, i_anew, i_cast, i_oi, i_call, i_callV, i_callV2, i_callI, i_iret, i_zret, i_lret, i_vret, i_aret, i_mmx, i_mmn, i_gsE, i_aceq, i_no, i_acq, i_sw, zsw, zlg, zls, znl, zfg, zcs, zsp, zrc, zisn, zft, zc1, zto, Value.category, List.set_cons_zero, List.set_cons_succ, List.length_cons, List.length_nil, Option.toList, List.append, List.nil_append, List.cons_append, true_and, and_true, Nat.add_zero, Nat.zero_le, Nat.zero_add, Nat.le_refl, Nat.reduceAdd, Nat.reduceLeDiff, co0, z0, zn_0, zn_1, zn_2, zn_3, zn_4, zn_5, zn_8, zn_12, zn_24, zn_121, zn_144, zn_256, zn_300, zn_600, zn_720, zn_1204, zn_1280, zn_2400, zn_4816, zn_14400, zn_90000, p_main, x_main, p_list (i := 1) (by decide)]
    refine ⟨(1, 1, 0), _, _, _, rfl, p_list (by decide), ?_⟩
    have hsz2 : x_sz (u_kn x (kn_A x u i)) 1 = x_nw x := rfl
    rw [hsz2]
    simp only [p_main, x_main, p_list (i := 1) (by decide), i_ic, i_lc, i_nul, i_il, i_ll, i_al, i_is, i_as, i_ls, i_inc, i_iadd, i_isub, i_imul, i_iand, i_ior, i_ixor, i_idiv, i_irem, i_ishl, i_ishr, i_ladd, i_lsub, i_land, i_lor, i_i2l, i_lushr, i_lshl, i_lshr, i_lcmp, i_dup, i_pop, i_dx1, i_dup2, i_ifeq, i_ifne, i_iflt, i_ifge, i_ifgt, i_ifle, i_iceq, i_icne, i_iclt, i_icge, i_icgt, i_icle, i_ifn, i_gf, i_pf, i_ial, i_bal, i_lal, i_aal, i_ias, i_las, i_bas, i_aas, i_alen, i_newa, i_new, i_anew, i_cast, i_oi, i_call, i_callV, i_callV2, i_callI, i_iret, i_zret, i_lret, i_vret, i_aret, i_mmx, i_mmn, i_gsE, i_aceq, i_no, i_acq, i_sw, zsw, zlg, zls, znl, zfg, zcs, zsp, zrc, zisn, zft, zc1, zto, Value.category, List.set_cons_zero, List.set_cons_succ, List.length_cons, List.length_nil, Option.toList, List.append, List.nil_append, List.cons_append, true_and, and_true, Nat.add_zero, Nat.zero_le, Nat.zero_add, Nat.le_refl, Nat.reduceAdd, Nat.reduceLeDiff, co0, z0, zn_0, zn_1, zn_2, zn_3, zn_4, zn_5, zn_8, zn_12, zn_24, zn_121, zn_144, zn_256, zn_300, zn_600, zn_720, zn_1204, zn_1280, zn_2400, zn_4816, zn_14400, zn_90000]
    have hcp : x_cp (u_kn x (kn_A x u i)) 1 = x_cp x 1 := rfl
    refine ⟨fun h => absurd ((zK (K := x_nw x) (by omega) (n := i) (by omega)).2.1.mp h) (by omega), fun _ => ⟨(1, 1, 0), _, _, _, _, _, i, rfl, p_list (by decide), p_dat (by decide) (by rw [hcp]; omega), by rw [hsz2]; exact hi, by rw [hsz2, hcp]; exact hcap.1, by rw [hcp]; omega, ?_⟩⟩
    have ek : x_el (u_kn x (kn_A x u i)) 1 i = some (15, i, 0) := if_pos hi
    have hkk : i < x_ow (u_kn x (kn_A x u i)) := Nat.lt_of_lt_of_le hi hI.cnt.2.1
    have hww := hI.wsh i hkk
    have hrr : x_wr x i < x_or (u_kn x (kn_A x u i)) := hww.1
    rw [ek]
    simp only [zov, zok, p_wsh hkk, x_wsh, p_rdr hrr, x_rdr, g_dk_kn, g_lk_kn, g_po_kn, g_ne_kn, g_td_kn, g_nb_kn, g_ln_kn, g_nr_kn, g_nw_kn, g_nn_kn, g_ns_kn, g_or_kn, g_ow_kn, g_on_kn, g_nl_kn, g_ng_kn, g_rg_kn, g_lc_kn, g_cp_kn, g_gb_kn, g_sp_kn, g_kn_kn, g_me_kn, g_ob_kn, g_fk_kn, g_fz_kn, g_fg_kn, g_rd_kn, g_rz_kn, g_rh_kn, g_nd_kn, g_nm_kn, g_nv_kn, g_nh_kn, g_nf_kn, g_wr_kn, g_wa_kn, g_lz_kn, g_lf_kn, g_li_kn, g_lt_kn, g_lb_kn, g_lr_kn, g_tn_kn, g_tf_kn, i_ic, i_lc, i_nul, i_il, i_ll, i_al, i_is, i_as, i_ls, i_inc, i_iadd, i_isub, i_imul, i_iand, i_ior, i_ixor, i_idiv, i_irem, i_ishl, i_ishr, i_ladd, i_lsub, i_land, i_lor, i_i2l, i_lushr, i_lshl, i_lshr, i_lcmp, i_dup, i_pop, i_dx1, i_dup2, i_ifeq, i_ifne, i_iflt, i_ifge, i_ifgt, i_ifle, i_iceq, i_icne, i_iclt, i_icge, i_icgt, i_icle, i_ifn, i_gf, i_pf, i_ial, i_bal, i_lal, i_aal, i_ias, i_las, i_bas, i_aas, i_alen, i_newa, i_new, i_anew, i_cast, i_oi, i_call, i_callV, i_callV2, i_callI, i_iret, i_zret, i_lret, i_vret, i_aret, i_mmx, i_mmn, i_gsE, i_aceq, i_no, i_acq, i_sw, zsw, zlg, zls, znl, zfg, zcs, zsp, zrc, zisn, zft, zc1, zto, Value.category, List.set_cons_zero, List.set_cons_succ, List.length_cons, List.length_nil, Option.toList, List.append, List.nil_append, List.cons_append, true_and, and_true, Nat.add_zero, Nat.zero_le, Nat.zero_add, Nat.le_refl, Nat.reduceAdd, Nat.reduceLeDiff, co0, z0, zn_0, zn_1, zn_2, zn_3, zn_4, zn_5, zn_8, zn_12, zn_24, zn_121, zn_144, zn_256, zn_300, zn_600, zn_720, zn_1204, zn_1280, zn_2400, zn_4816, zn_14400, zn_90000]
    rw [nI_1]
    simp only [kn_A] at ih
    refine ⟨zk_Wsh_Wsh, fun ha => ?_, fun ha => ⟨fun hne => ?_, fun heq => ?_⟩⟩
    · rw [if_neg (fun z => by rw [z.1] at ha; exact absurd ha (by decide))] at ih
      exact ih _
    · rw [if_neg (fun z => hne z.2)] at ih
      exact ih _
    · have ha' : x_wa x i = true := by
        cases hb : x_wa x i with
        | true => rfl
        | false => exact absurd (zb_0.mpr hb) ha
      rw [if_pos ⟨ha', heq⟩] at ih
      simp only [p_main, x_main, p_rowO (r_kn _), i_ic, i_lc, i_nul, i_il, i_ll, i_al, i_is, i_as, i_ls, i_inc, i_iadd, i_isub, i_imul, i_iand, i_ior, i_ixor, i_idiv, i_irem, i_ishl, i_ishr, i_ladd, i_lsub, i_land, i_lor, i_i2l, i_lushr, i_lshl, i_lshr, i_lcmp, i_dup, i_pop, i_dx1, i_dup2, i_ifeq, i_ifne, i_iflt, i_ifge, i_ifgt, i_ifle, i_iceq, i_icne, i_iclt, i_icge, i_icgt, i_icle, i_ifn, i_gf, i_pf, i_ial, i_bal, i_lal, i_aal, i_ias, i_las, i_bas, i_aas, i_alen, i_newa, i_new, i_anew, i_cast, i_oi, i_call, i_callV, i_callV2, i_callI, i_iret, i_zret, i_lret, i_vret, i_aret, i_mmx, i_mmn, i_gsE, i_aceq, i_no, i_acq, i_sw, zsw, zlg, zls, znl, zfg, zcs, zsp, zrc, zisn, zft, zc1, zto, Value.category, List.set_cons_zero, List.set_cons_succ, List.length_cons, List.length_nil, Option.toList, List.append, List.nil_append, List.cons_append, true_and, and_true, Nat.add_zero, Nat.zero_le, Nat.zero_add, Nat.le_refl, Nat.reduceAdd, Nat.reduceLeDiff, co0, z0, zn_0, zn_1, zn_2, zn_3, zn_4, zn_5, zn_8, zn_12, zn_24, zn_121, zn_144, zn_256, zn_300, zn_600, zn_720, zn_1204, zn_1280, zn_2400, zn_4816, zn_14400, zn_90000]
      refine ⟨(5, 0, 0), (6, 0, 0), _, i, rfl, by omega, m_k (by decide), p_row (r_kn _), ?_⟩
      rw [pu_kn, u_kn_kn]
      exact ih _) (fun j4 => by
    refine s_WR_findKnown_9 hC hN _ _ _ _ _ ?_
    simp only [B_WR_findKnown_0, B_WR_findKnown_9, B_WR_findKnown_61, B_WR_findKnown_67, B_WR_findKnown_69, B_WR_findKnown_107, B_WR_findKnown_113, co_AL_get, co_AL_size, co_Row_add, co_Row_addAll, co_Row_clear, co_WR_findKnown, co_WR_laneFrom, i_ic, i_lc, i_nul, i_il, i_ll, i_al, i_is, i_as, i_ls, i_inc, i_iadd, i_isub, i_imul, i_iand, i_ior, i_ixor, i_idiv, i_irem, i_ishl, i_ishr, i_ladd, i_lsub, i_land, i_lor, i_i2l, i_lushr, i_lshl, i_lshr, i_lcmp, i_dup, i_pop, i_dx1, i_dup2, i_ifeq, i_ifne, i_iflt, i_ifge, i_ifgt, i_ifle, i_iceq, i_icne, i_iclt, i_icge, i_icgt, i_icle, i_ifn, i_gf, i_pf, i_ial, i_bal, i_lal, i_aal, i_ias, i_las, i_bas, i_aas, i_alen, i_newa, i_new, i_anew, i_cast, i_oi, i_call, i_callV, i_callV2, i_callI, i_iret, i_zret, i_lret, i_vret, i_aret, i_mmx, i_mmn, i_gsE, i_aceq, i_no, i_acq, i_sw, zsw, zlg, zls, znl, zfg, zcs, zsp, zrc, zisn, zft, zc1, zto, Value.category, List.set_cons_zero, List.set_cons_succ, List.length_cons, List.length_nil, Option.toList, List.append, List.nil_append, List.cons_append, true_and, and_true, Nat.add_zero, Nat.zero_le, Nat.zero_add, Nat.le_refl, Nat.reduceAdd, Nat.reduceLeDiff, co0, z0, zn_0, zn_1, zn_2, zn_3, zn_4, zn_5, zn_8, zn_12, zn_24, zn_121, zn_144, zn_256, zn_300, zn_600, zn_720, zn_1204, zn_1280, zn_2400, zn_4816, zn_14400, zn_90000, p_main, x_main, p_list (i := 1) (by decide)]
    refine ⟨(1, 1, 0), _, _, _, rfl, p_list (by decide), ?_⟩
    have hsz2 : x_sz (u_kn x (kn_A x u (x_nw x))) 1 = x_nw x := rfl
    rw [hsz2]
    exact ⟨fun _ => loop2 _, fun h => absurd ((zK (K := x_nw x) (by omega) (n := x_nw x) (by omega)).2.1.mpr (Nat.le_refl _)) h⟩) 0 (Nat.zero_le _)
  refine s_WR_findKnown_0 hC hN _ _ _ _ _ ?_
  simp only [B_WR_findKnown_0, B_WR_findKnown_9, B_WR_findKnown_61, B_WR_findKnown_67, B_WR_findKnown_69, B_WR_findKnown_107, B_WR_findKnown_113, co_AL_get, co_AL_size, co_Row_add, co_Row_addAll, co_Row_clear, co_WR_findKnown, co_WR_laneFrom, i_ic, i_lc, i_nul, i_il, i_ll, i_al, i_is, i_as, i_ls, i_inc, i_iadd, i_isub, i_imul, i_iand, i_ior, i_ixor, i_idiv, i_irem, i_ishl, i_ishr, i_ladd, i_lsub, i_land, i_lor, i_i2l, i_lushr, i_lshl, i_lshr, i_lcmp, i_dup, i_pop, i_dx1, i_dup2, i_ifeq, i_ifne, i_iflt, i_ifge, i_ifgt, i_ifle, i_iceq, i_icne, i_iclt, i_icge, i_icgt, i_icle, i_ifn, i_gf, i_pf, i_ial, i_bal, i_lal, i_aal, i_ias, i_las, i_bas, i_aas, i_alen, i_newa, i_new, i_anew, i_cast, i_oi, i_call, i_callV, i_callV2, i_callI, i_iret, i_zret, i_lret, i_vret, i_aret, i_mmx, i_mmn, i_gsE, i_aceq, i_no, i_acq, i_sw, zsw, zlg, zls, znl, zfg, zcs, zsp, zrc, zisn, zft, zc1, zto, Value.category, List.set_cons_zero, List.set_cons_succ, List.length_cons, List.length_nil, Option.toList, List.append, List.nil_append, List.cons_append, true_and, and_true, Nat.add_zero, Nat.zero_le, Nat.zero_add, Nat.le_refl, Nat.reduceAdd, Nat.reduceLeDiff, co0, z0, zn_0, zn_1, zn_2, zn_3, zn_4, zn_5, zn_8, zn_12, zn_24, zn_121, zn_144, zn_256, zn_300, zn_600, zn_720, zn_1204, zn_1280, zn_2400, zn_4816, zn_14400, zn_90000, p_main, x_main, p_rowO (r_kn x)]
  refine ⟨(5, 0, 0), (6, 0, 0), _, rfl, m_k (by decide), p_row (r_kn _), ?_⟩
  rw [pu_kn]
  exact loop1 _
/-- of the known (words k) those among the first n that no known one outdoes, added to the cleared row -/
noncomputable def me_A (x : zSt) (k : Nat → Int64) : Nat → Nat → Int64
  | 0 => rw_clr (x_me x)
  | n + 1 => if zbit k n = true ∧ rw_meets k (x_ob x n) = false then rw_add (me_A x k n) n else me_A x k n
noncomputable def fmn (x : zSt) (u v : Int32) : zSt := u_me (u_kn x (kn_B x u v (x_dk x))) (me_A x (kn_B x u v (x_dk x)) (x_nw x))
def T_WR_findMeant (As : List zAV) (M : zMp) (Rt : Option zAV → zMp → Prop) : Prop := ∃ x u v, As = [.inr (0, 0, 0), .inl (.int u), .inl (.int v)] ∧ M = pic x ∧ Iv x ∧ Rt none (pic (fmn x u v))
abbrev co_WR_findMeant := co0
theorem dX6_findMeant_0 : decode cX6_findMeant 0 = .ok (.aload_n 0, 1) := by decide +kernel
theorem dX6_findMeant_1 : decode cX6_findMeant 1 = .ok (.iload_n 1, 1) := by decide +kernel
theorem dX6_findMeant_2 : decode cX6_findMeant 2 = .ok (.iload_n 2, 1) := by decide +kernel
theorem dX6_findMeant_3 : decode cX6_findMeant 3 = .ok (.invokevirtual 254, 3) := by decide +kernel
theorem dX6_findMeant_6 : decode cX6_findMeant 6 = .ok (.aload_n 0, 1) := by decide +kernel
theorem dX6_findMeant_7 : decode cX6_findMeant 7 = .ok (.getfield 42, 3) := by decide +kernel
theorem dX6_findMeant_10 : decode cX6_findMeant 10 = .ok (.invokevirtual 257, 3) := by decide +kernel
theorem dX6_findMeant_13 : decode cX6_findMeant 13 = .ok (.iconst 0, 1) := by decide +kernel
theorem dX6_findMeant_14 : decode cX6_findMeant 14 = .ok (.istore_n 3, 1) := by decide +kernel
theorem dX6_findMeant_15 : decode cX6_findMeant 15 = .ok (.iload_n 3, 1) := by decide +kernel
theorem dX6_findMeant_16 : decode cX6_findMeant 16 = .ok (.aload_n 0, 1) := by decide +kernel
theorem dX6_findMeant_17 : decode cX6_findMeant 17 = .ok (.getfield 16, 3) := by decide +kernel
theorem dX6_findMeant_20 : decode cX6_findMeant 20 = .ok (.invokevirtual 96, 3) := by decide +kernel
theorem dX6_findMeant_23 : decode cX6_findMeant 23 = .ok (.if_icmp .ge 52, 3) := by decide +kernel
theorem dX6_findMeant_26 : decode cX6_findMeant 26 = .ok (.aload_n 0, 1) := by decide +kernel
theorem dX6_findMeant_27 : decode cX6_findMeant 27 = .ok (.getfield 38, 3) := by decide +kernel
theorem dX6_findMeant_30 : decode cX6_findMeant 30 = .ok (.iload_n 3, 1) := by decide +kernel
theorem dX6_findMeant_31 : decode cX6_findMeant 31 = .ok (.invokevirtual 258, 3) := by decide +kernel
theorem dX6_findMeant_34 : decode cX6_findMeant 34 = .ok (.ifCond .eq 35, 3) := by decide +kernel
theorem dX6_findMeant_37 : decode cX6_findMeant 37 = .ok (.aload_n 0, 1) := by decide +kernel
theorem dX6_findMeant_38 : decode cX6_findMeant 38 = .ok (.getfield 38, 3) := by decide +kernel
theorem dX6_findMeant_41 : decode cX6_findMeant 41 = .ok (.aload_n 0, 1) := by decide +kernel
theorem dX6_findMeant_42 : decode cX6_findMeant 42 = .ok (.getfield 16, 3) := by decide +kernel
theorem dX6_findMeant_45 : decode cX6_findMeant 45 = .ok (.iload_n 3, 1) := by decide +kernel
theorem dX6_findMeant_46 : decode cX6_findMeant 46 = .ok (.invokevirtual 227, 3) := by decide +kernel
theorem dX6_findMeant_49 : decode cX6_findMeant 49 = .ok (.checkcast 127, 3) := by decide +kernel
theorem dX6_findMeant_52 : decode cX6_findMeant 52 = .ok (.getfield 238, 3) := by decide +kernel
theorem dX6_findMeant_55 : decode cX6_findMeant 55 = .ok (.invokevirtual 261, 3) := by decide +kernel
theorem dX6_findMeant_58 : decode cX6_findMeant 58 = .ok (.ifCond .ne 11, 3) := by decide +kernel
theorem dX6_findMeant_61 : decode cX6_findMeant 61 = .ok (.aload_n 0, 1) := by decide +kernel
theorem dX6_findMeant_62 : decode cX6_findMeant 62 = .ok (.getfield 42, 3) := by decide +kernel
theorem dX6_findMeant_65 : decode cX6_findMeant 65 = .ok (.iload_n 3, 1) := by decide +kernel
theorem dX6_findMeant_66 : decode cX6_findMeant 66 = .ok (.invokevirtual 241, 3) := by decide +kernel
theorem dX6_findMeant_69 : decode cX6_findMeant 69 = .ok (.iinc 3 1, 3) := by decide +kernel
theorem dX6_findMeant_72 : decode cX6_findMeant 72 = .ok (.goto (-57), 3) := by decide +kernel
theorem dX6_findMeant_75 : decode cX6_findMeant 75 = .ok (.return_, 1) := by decide +kernel
def B_WR_findMeant_75 (mc ms : Nat) (Rt : Option zAV → zMp → Prop) (g : Nat → zKT) : zKT :=
  (i_vret mc ms Rt)
set_option maxRecDepth 20000 in
theorem s_WR_findMeant_75 {X : zMa} {mc ms : Nat} {Rt : Option zAV → zMp → Prop} (hC : zCx X RX6 cX6_findMeant 4 88 mc ms (none) false Rt) (hN : zNL X = 4) : zLe (B_WR_findMeant_75 mc ms Rt (zG X)) (zG X 75) :=
  (sd_vret hC dX6_findMeant_75)
def B_WR_findMeant_69 (mc ms : Nat) (Rt : Option zAV → zMp → Prop) (g : Nat → zKT) : zKT :=
  (i_inc 3 1 (g 15))
set_option maxRecDepth 20000 in
theorem s_WR_findMeant_69 {X : zMa} {mc ms : Nat} {Rt : Option zAV → zMp → Prop} (hC : zCx X RX6 cX6_findMeant 4 88 mc ms (none) false Rt) (hN : zNL X = 4) : zLe (B_WR_findMeant_69 mc ms Rt (zG X)) (zG X 69) :=
  (sd_inc hC (by decide) (by rw [hN]; decide) dX6_findMeant_69 ((sd_goto hC (tgt := 15) (by decide) dX6_findMeant_72 (zLe_rfl))))
def B_WR_findMeant_15 (mc ms : Nat) (Rt : Option zAV → zMp → Prop) (g : Nat → zKT) : zKT :=
  (i_il 3 (i_al 0 (i_gf 7 1 (i_callV mc ms 0 1 T_AL_size co_AL_size (i_icge (B_WR_findMeant_75 mc ms Rt g) (i_al 0 (i_gf 7 6 (i_il 3 (i_callV mc ms 5 2 T_Row_has co_Row_has (i_ifeq (B_WR_findMeant_69 mc ms Rt g) (i_al 0 (i_gf 7 6 (i_al 0 (i_gf 7 1 (i_il 3 (i_callV mc ms 0 2 T_AL_get co_AL_get (i_cast "WishRoutes$Wish" (i_gf 6 3 (i_callV mc ms 5 2 T_Row_meets co_Row_meets (i_ifne (B_WR_findMeant_69 mc ms Rt g) (i_al 0 (i_gf 7 7 (i_il 3 (i_callV mc ms 5 2 T_Row_add co_Row_add (B_WR_findMeant_69 mc ms Rt g)))))))))))))))))))))))))
set_option maxRecDepth 20000 in
theorem s_WR_findMeant_15 {X : zMa} {mc ms : Nat} {Rt : Option zAV → zMp → Prop} (hC : zCx X RX6 cX6_findMeant 4 88 mc ms (none) false Rt) (hN : zNL X = 4) : zLe (B_WR_findMeant_15 mc ms Rt (zG X)) (zG X 15) :=
  (sd_il_n hC rfl dX6_findMeant_15 ((sd_al_n hC rfl dX6_findMeant_16 ((sd_gf hC (ci := 7) (fk := 1) rfl wi_WR (by decide) fl_WR_16 (Or.inl rfl) dX6_findMeant_17 ((sd_cV hC c_AL_size yv_AL_size (ci := 0) rfl rfl ml_WR_96 (by decide) (by decide) dX6_findMeant_20 ((sd_icge hC (tgt := 75) (by decide) dX6_findMeant_23 (s_WR_findMeant_75 hC hN) ((sd_al_n hC rfl dX6_findMeant_26 ((sd_gf hC (ci := 7) (fk := 6) rfl wi_WR (by decide) fl_WR_38 (Or.inl rfl) dX6_findMeant_27 ((sd_il_n hC rfl dX6_findMeant_30 ((sd_cV hC c_Row_has yv_Row_has (ci := 5) rfl rfl ml_WR_258 (by decide) (by decide) dX6_findMeant_31 ((sd_ifeq hC (tgt := 69) (by decide) dX6_findMeant_34 (s_WR_findMeant_69 hC hN) ((sd_al_n hC rfl dX6_findMeant_37 ((sd_gf hC (ci := 7) (fk := 6) rfl wi_WR (by decide) fl_WR_38 (Or.inl rfl) dX6_findMeant_38 ((sd_al_n hC rfl dX6_findMeant_41 ((sd_gf hC (ci := 7) (fk := 1) rfl wi_WR (by decide) fl_WR_16 (Or.inl rfl) dX6_findMeant_42 ((sd_il_n hC rfl dX6_findMeant_45 ((sd_cV hC c_AL_get yv_AL_get (ci := 0) rfl rfl ml_WR_227 (by decide) (by decide) dX6_findMeant_46 ((sd_cast hC cl_WR_127 dX6_findMeant_49 ((sd_gf hC (ci := 6) (fk := 3) rfl wi_Wsh (by decide) fl_WR_238 (Or.inl rfl) dX6_findMeant_52 ((sd_cV hC c_Row_meets yv_Row_meets (ci := 5) rfl rfl ml_WR_261 (by decide) (by decide) dX6_findMeant_55 ((sd_ifne hC (tgt := 69) (by decide) dX6_findMeant_58 (s_WR_findMeant_69 hC hN) ((sd_al_n hC rfl dX6_findMeant_61 ((sd_gf hC (ci := 7) (fk := 7) rfl wi_WR (by decide) fl_WR_42 (Or.inl rfl) dX6_findMeant_62 ((sd_il_n hC rfl dX6_findMeant_65 ((sd_cV hC c_Row_add yv_Row_add (ci := 5) rfl rfl ml_WR_241 (by decide) (by decide) dX6_findMeant_66 (s_WR_findMeant_69 hC hN))))))))))))))))))))))))))))))))))))))))))))))))
def B_WR_findMeant_0 (mc ms : Nat) (Rt : Option zAV → zMp → Prop) (g : Nat → zKT) : zKT :=
  (i_al 0 (i_il 1 (i_il 2 (i_callV mc ms 7 3 T_WR_findKnown co_WR_findKnown (i_al 0 (i_gf 7 7 (i_callV mc ms 5 1 T_Row_clear co_Row_clear (i_ic 0 (i_is 3 (g 15))))))))))
set_option maxRecDepth 20000 in
theorem s_WR_findMeant_0 {X : zMa} {mc ms : Nat} {Rt : Option zAV → zMp → Prop} (hC : zCx X RX6 cX6_findMeant 4 88 mc ms (none) false Rt) (hN : zNL X = 4) : zLe (B_WR_findMeant_0 mc ms Rt (zG X)) (zG X 0) :=
  (sd_al_n hC rfl dX6_findMeant_0 ((sd_il_n hC rfl dX6_findMeant_1 ((sd_il_n hC rfl dX6_findMeant_2 ((sd_cV hC c_WR_findKnown yv_WR_findKnown (ci := 7) rfl rfl ml_WR_254 (by decide) (by decide) dX6_findMeant_3 ((sd_al_n hC rfl dX6_findMeant_6 ((sd_gf hC (ci := 7) (fk := 7) rfl wi_WR (by decide) fl_WR_42 (Or.inl rfl) dX6_findMeant_7 ((sd_cV hC c_Row_clear yv_Row_clear (ci := 5) rfl rfl ml_WR_257 (by decide) (by decide) dX6_findMeant_10 ((sd_iconst hC (by decide) dX6_findMeant_13 ((sd_is_n hC rfl (by rw [hN]; decide) dX6_findMeant_14 (zLe_rfl))))))))))))))))))
theorem u_me_me (x : zSt) (f g : Nat → Int64) : u_me (u_me x f) g = u_me x g := rfl
theorem c_WR_findMeant (l : Launch) : zCT l yX6_findMeant cX6_findMeant 4 (none) 4 88 T_WR_findMeant co_WR_findMeant := by
  intro As M Rt hT
  obtain ⟨x, u, v, rfl, rfl, hI, hR⟩ := hT
  have hlim := hI.lim
  have hcap := hI.cap 1 (by decide)
  have hsz : x_sz x 1 = x_nw x := rfl
  rw [hsz] at hcap
  refine zMet_of false (by decide +kernel) (fun h => by first | rfl | cases h) (Nat.le_of_ble_eq_true rfl) (fun X hN hC => ?_)
  show zG X 0 [some (.inr (0, 0, 0)), some (.inl (.int u)), some (.inl (.int v)), none] [] (pic x) 0 0
  unfold fmn at hR
  generalize hK : kn_B x u v (x_dk x) = K at hR
  have loop := upto (N := x_nw x) (P := fun i => zG X 15 [some (.inr (0, 0, 0)), some (.inl (.int u)), some (.inl (.int v)), some (.inl (.int (nI i)))] [] (pic (u_me (u_kn x K) (me_A x K i))) 0 0) (fun i hi ih => by
    refine s_WR_findMeant_15 hC hN _ _ _ _ _ ?_
    simp only [B_WR_findMeant_0, B_WR_findMeant_15, B_WR_findMeant_69, B_WR_findMeant_75, co_AL_get, co_AL_size, co_Row_add, co_Row_clear, co_Row_has, co_Row_meets, co_WR_findKnown, co_WR_findMeant, i_ic, i_lc, i_nul, i_il, i_ll, i_al, i_is, i_as, i_ls, i_inc, i_iadd, i_isub, i_imul, i_iand, i_ior, i_ixor, i_idiv, i_irem, i_ishl, i_ishr, i_ladd, i_lsub, i_land, i_lor, i_i2l, i_lushr, i_lshl, i_lshr, i_lcmp, i_dup, i_pop, i_dx1, i_dup2, i_ifeq, i_ifne, i_iflt, i_ifge, i_ifgt, i_ifle, i_iceq, i_icne, i_iclt, i_icge, i_icgt, i_icle, i_ifn, i_gf, i_pf, i_ial, i_bal, i_lal, i_aal, i_ias, i_las, i_bas, i_aas, i_alen, i_newa, i_new, i_anew, i_cast, i_oi, i_call, i_callV, i_callV2, i_callI, i_iret, i_zret, i_lret, i_vret, i_aret, i_mmx, i_mmn, i_gsE, i_aceq, i_no, i_acq, i_sw, zsw, zlg, zls, znl, zfg, zcs, zsp, zrc, zisn, zft, zc1, zto, Value.category, List.set_cons_zero, List.set_cons_succ, List.length_cons, List.length_nil, Option.toList, List.append, List.nil_append, List.cons_append, true_and, and_true, Nat.add_zero, Nat.zero_le, Nat.zero_add, Nat.le_refl, Nat.reduceAdd, Nat.reduceLeDiff, co0, z0, zn_0, zn_1, zn_2, zn_3, zn_4, zn_5, zn_8, zn_12, zn_24, zn_121, zn_144, zn_256, zn_300, zn_600, zn_720, zn_1204, zn_1280, zn_2400, zn_4816, zn_14400, zn_90000, p_main, x_main, p_list (i := 1) (by decide)]
    refine ⟨(1, 1, 0), _, _, _, rfl, p_list (by decide), ?_⟩
    have hsz2 : x_sz (u_me (u_kn x K) (me_A x K i)) 1 = x_nw x := rfl
    have hcp : x_cp (u_me (u_kn x K) (me_A x K i)) 1 = x_cp x 1 := rfl
    rw [hsz2]
    simp only [p_main, x_main, p_rowO (r_kn _), i_ic, i_lc, i_nul, i_il, i_ll, i_al, i_is, i_as, i_ls, i_inc, i_iadd, i_isub, i_imul, i_iand, i_ior, i_ixor, i_idiv, i_irem, i_ishl, i_ishr, i_ladd, i_lsub, i_land, i_lor, i_i2l, i_lushr, i_lshl, i_lshr, i_lcmp, i_dup, i_pop, i_dx1, i_dup2, i_ifeq, i_ifne, i_iflt, i_ifge, i_ifgt, i_ifle, i_iceq, i_icne, i_iclt, i_icge, i_icgt, i_icle, i_ifn, i_gf, i_pf, i_ial, i_bal, i_lal, i_aal, i_ias, i_las, i_bas, i_aas, i_alen, i_newa, i_new, i_anew, i_cast, i_oi, i_call, i_callV, i_callV2, i_callI, i_iret, i_zret, i_lret, i_vret, i_aret, i_mmx, i_mmn, i_gsE, i_aceq, i_no, i_acq, i_sw, zsw, zlg, zls, znl, zfg, zcs, zsp, zrc, zisn, zft, zc1, zto, Value.category, List.set_cons_zero, List.set_cons_succ, List.length_cons, List.length_nil, Option.toList, List.append, List.nil_append, List.cons_append, true_and, and_true, Nat.add_zero, Nat.zero_le, Nat.zero_add, Nat.le_refl, Nat.reduceAdd, Nat.reduceLeDiff, co0, z0, zn_0, zn_1, zn_2, zn_3, zn_4, zn_5, zn_8, zn_12, zn_24, zn_121, zn_144, zn_256, zn_300, zn_600, zn_720, zn_1204, zn_1280, zn_2400, zn_4816, zn_14400, zn_90000]
    refine ⟨fun h => absurd ((zK (K := x_nw x) (by omega) (n := i) (by omega)).2.1.mp h) (by omega), fun _ => ⟨(5, 0, 0), (6, 0, 0), _, i, rfl, by omega, p_row (r_kn _), ?_⟩⟩
    simp only [p_main, x_main, p_list (i := 1) (by decide), g_dk_me, g_lk_me, g_po_me, g_ne_me, g_td_me, g_nb_me, g_ln_me, g_nr_me, g_nw_me, g_nn_me, g_ns_me, g_or_me, g_ow_me, g_on_me, g_nl_me, g_ng_me, g_rg_me, g_lc_me, g_cp_me, g_gb_me, g_sp_me, g_kn_me, g_me_me, g_ob_me, g_fk_me, g_fz_me, g_fg_me, g_rd_me, g_rz_me, g_rh_me, g_nd_me, g_nm_me, g_nv_me, g_nh_me, g_nf_me, g_wr_me, g_wa_me, g_lz_me, g_lf_me, g_li_me, g_lt_me, g_lb_me, g_lr_me, g_tn_me, g_tf_me, g_dk_kn, g_lk_kn, g_po_kn, g_ne_kn, g_td_kn, g_nb_kn, g_ln_kn, g_nr_kn, g_nw_kn, g_nn_kn, g_ns_kn, g_or_kn, g_ow_kn, g_on_kn, g_nl_kn, g_ng_kn, g_rg_kn, g_lc_kn, g_cp_kn, g_gb_kn, g_sp_kn, g_kn_kn, g_me_kn, g_ob_kn, g_fk_kn, g_fz_kn, g_fg_kn, g_rd_kn, g_rz_kn, g_rh_kn, g_nd_kn, g_nm_kn, g_nv_kn, g_nh_kn, g_nf_kn, g_wr_kn, g_wa_kn, g_lz_kn, g_lf_kn, g_li_kn, g_lt_kn, g_lb_kn, g_lr_kn, g_tn_kn, g_tf_kn, i_ic, i_lc, i_nul, i_il, i_ll, i_al, i_is, i_as, i_ls, i_inc, i_iadd, i_isub, i_imul, i_iand, i_ior, i_ixor, i_idiv, i_irem, i_ishl, i_ishr, i_ladd, i_lsub, i_land, i_lor, i_i2l, i_lushr, i_lshl, i_lshr, i_lcmp, i_dup, i_pop, i_dx1, i_dup2, i_ifeq, i_ifne, i_iflt, i_ifge, i_ifgt, i_ifle, i_iceq, i_icne, i_iclt, i_icge, i_icgt, i_icle, i_ifn, i_gf, i_pf, i_ial, i_bal, i_lal, i_aal, i_ias, i_las, i_bas, i_aas, i_alen, i_newa, i_new, i_anew, i_cast, i_oi, i_call, i_callV, i_callV2, i_callI, i_iret, i_zret, i_lret, i_vret, i_aret, i_mmx, i_mmn, i_gsE, i_aceq, i_no, i_acq, i_sw, zsw, zlg, zls, znl, zfg, zcs, zsp, zrc, zisn, zft, zc1, zto, Value.category, List.set_cons_zero, List.set_cons_succ, List.length_cons, List.length_nil, Option.toList, List.append, List.nil_append, List.cons_append, true_and, and_true, Nat.add_zero, Nat.zero_le, Nat.zero_add, Nat.le_refl, Nat.reduceAdd, Nat.reduceLeDiff, co0, z0, zn_0, zn_1, zn_2, zn_3, zn_4, zn_5, zn_8, zn_12, zn_24, zn_121, zn_144, zn_256, zn_300, zn_600, zn_720, zn_1204, zn_1280, zn_2400, zn_4816, zn_14400, zn_90000]
    rw [nI_1]
    simp only [me_A] at ih
    refine ⟨fun hb => ?_, fun hb => ?_⟩
    · rw [if_neg (fun z => by rw [z.1] at hb; exact absurd hb (by decide))] at ih
      exact ih
    · have hb' : zbit K i = true := by
        cases h : zbit K i with
        | true => rfl
        | false => exact absurd (zb_0.mpr h) hb
      refine ⟨(1, 1, 0), _, _, _, _, _, i, rfl, p_list (by decide), p_dat (by decide) (by rw [hcp]; omega), by rw [hsz2]; exact hi, by rw [hsz2, hcp]; exact hcap.1, by rw [hcp]; omega, ?_⟩
      have ek : x_el (u_me (u_kn x K) (me_A x K i)) 1 i = some (15, i, 0) := if_pos hi
      have hkk : i < x_ow (u_me (u_kn x K) (me_A x K i)) := Nat.lt_of_lt_of_le hi hI.cnt.2.1
      rw [ek]
      simp only [zov, zok, p_wsh hkk, x_wsh, p_rowO (r_kn _), i_ic, i_lc, i_nul, i_il, i_ll, i_al, i_is, i_as, i_ls, i_inc, i_iadd, i_isub, i_imul, i_iand, i_ior, i_ixor, i_idiv, i_irem, i_ishl, i_ishr, i_ladd, i_lsub, i_land, i_lor, i_i2l, i_lushr, i_lshl, i_lshr, i_lcmp, i_dup, i_pop, i_dx1, i_dup2, i_ifeq, i_ifne, i_iflt, i_ifge, i_ifgt, i_ifle, i_iceq, i_icne, i_iclt, i_icge, i_icgt, i_icle, i_ifn, i_gf, i_pf, i_ial, i_bal, i_lal, i_aal, i_ias, i_las, i_bas, i_aas, i_alen, i_newa, i_new, i_anew, i_cast, i_oi, i_call, i_callV, i_callV2, i_callI, i_iret, i_zret, i_lret, i_vret, i_aret, i_mmx, i_mmn, i_gsE, i_aceq, i_no, i_acq, i_sw, zsw, zlg, zls, znl, zfg, zcs, zsp, zrc, zisn, zft, zc1, zto, Value.category, List.set_cons_zero, List.set_cons_succ, List.length_cons, List.length_nil, Option.toList, List.append, List.nil_append, List.cons_append, true_and, and_true, Nat.add_zero, Nat.zero_le, Nat.zero_add, Nat.le_refl, Nat.reduceAdd, Nat.reduceLeDiff, co0, z0, zn_0, zn_1, zn_2, zn_3, zn_4, zn_5, zn_8, zn_12, zn_24, zn_121, zn_144, zn_256, zn_300, zn_600, zn_720, zn_1204, zn_1280, zn_2400, zn_4816, zn_14400, zn_90000]
      refine ⟨zk_Wsh_Wsh, (5, 0, 0), (6, 0, 0), _, (5, 1, i), (6, 1, i), _, rfl, p_row (r_kn _), p_row (r_ob hkk), ?_⟩
      simp only [p_main, x_main, p_rowO (r_me _), g_dk_me, g_lk_me, g_po_me, g_ne_me, g_td_me, g_nb_me, g_ln_me, g_nr_me, g_nw_me, g_nn_me, g_ns_me, g_or_me, g_ow_me, g_on_me, g_nl_me, g_ng_me, g_rg_me, g_lc_me, g_cp_me, g_gb_me, g_sp_me, g_kn_me, g_me_me, g_ob_me, g_fk_me, g_fz_me, g_fg_me, g_rd_me, g_rz_me, g_rh_me, g_nd_me, g_nm_me, g_nv_me, g_nh_me, g_nf_me, g_wr_me, g_wa_me, g_lz_me, g_lf_me, g_li_me, g_lt_me, g_lb_me, g_lr_me, g_tn_me, g_tf_me, g_dk_kn, g_lk_kn, g_po_kn, g_ne_kn, g_td_kn, g_nb_kn, g_ln_kn, g_nr_kn, g_nw_kn, g_nn_kn, g_ns_kn, g_or_kn, g_ow_kn, g_on_kn, g_nl_kn, g_ng_kn, g_rg_kn, g_lc_kn, g_cp_kn, g_gb_kn, g_sp_kn, g_kn_kn, g_me_kn, g_ob_kn, g_fk_kn, g_fz_kn, g_fg_kn, g_rd_kn, g_rz_kn, g_rh_kn, g_nd_kn, g_nm_kn, g_nv_kn, g_nh_kn, g_nf_kn, g_wr_kn, g_wa_kn, g_lz_kn, g_lf_kn, g_li_kn, g_lt_kn, g_lb_kn, g_lr_kn, g_tn_kn, g_tf_kn, i_ic, i_lc, i_nul, i_il, i_ll, i_al, i_is, i_as, i_ls, i_inc, i_iadd, i_isub, i_imul, i_iand, i_ior, i_ixor, i_idiv, i_irem, i_ishl, i_ishr, i_ladd, i_lsub, i_land, i_lor, i_i2l, i_lushr, i_lshl, i_lshr, i_lcmp, i_dup, i_pop, i_dx1, i_dup2, i_ifeq, i_ifne, i_iflt, i_ifge, i_ifgt, i_ifle, i_iceq, i_icne, i_iclt, i_icge, i_icgt, i_icle, i_ifn, i_gf, i_pf, i_ial, i_bal, i_lal, i_aal, i_ias, i_las, i_bas, i_aas, i_alen, i_newa, i_new, i_anew, i_cast, i_oi, i_call, i_callV, i_callV2, i_callI, i_iret, i_zret, i_lret, i_vret, i_aret, i_mmx, i_mmn, i_gsE, i_aceq, i_no, i_acq, i_sw, zsw, zlg, zls, znl, zfg, zcs, zsp, zrc, zisn, zft, zc1, zto, Value.category, List.set_cons_zero, List.set_cons_succ, List.length_cons, List.length_nil, Option.toList, List.append, List.nil_append, List.cons_append, true_and, and_true, Nat.add_zero, Nat.zero_le, Nat.zero_add, Nat.le_refl, Nat.reduceAdd, Nat.reduceLeDiff, co0, z0, zn_0, zn_1, zn_2, zn_3, zn_4, zn_5, zn_8, zn_12, zn_24, zn_121, zn_144, zn_256, zn_300, zn_600, zn_720, zn_1204, zn_1280, zn_2400, zn_4816, zn_14400, zn_90000]
      refine ⟨fun hm => ?_, fun hm => ⟨(5, 0, 1), (6, 0, 1), _, i, rfl, by omega, m_k (by decide), p_row (r_me _), ?_⟩⟩
      · rw [if_neg (fun z => hm (zb_0.mpr z.2))] at ih
        exact ih
      · rw [if_pos ⟨hb', zb_0.mp hm⟩] at ih
        rw [pu_me, u_me_me]
        exact ih) (by
    refine s_WR_findMeant_15 hC hN _ _ _ _ _ ?_
    simp only [B_WR_findMeant_0, B_WR_findMeant_15, B_WR_findMeant_69, B_WR_findMeant_75, co_AL_get, co_AL_size, co_Row_add, co_Row_clear, co_Row_has, co_Row_meets, co_WR_findKnown, co_WR_findMeant, i_ic, i_lc, i_nul, i_il, i_ll, i_al, i_is, i_as, i_ls, i_inc, i_iadd, i_isub, i_imul, i_iand, i_ior, i_ixor, i_idiv, i_irem, i_ishl, i_ishr, i_ladd, i_lsub, i_land, i_lor, i_i2l, i_lushr, i_lshl, i_lshr, i_lcmp, i_dup, i_pop, i_dx1, i_dup2, i_ifeq, i_ifne, i_iflt, i_ifge, i_ifgt, i_ifle, i_iceq, i_icne, i_iclt, i_icge, i_icgt, i_icle, i_ifn, i_gf, i_pf, i_ial, i_bal, i_lal, i_aal, i_ias, i_las, i_bas, i_aas, i_alen, i_newa, i_new, i_anew, i_cast, i_oi, i_call, i_callV, i_callV2, i_callI, i_iret, i_zret, i_lret, i_vret, i_aret, i_mmx, i_mmn, i_gsE, i_aceq, i_no, i_acq, i_sw, zsw, zlg, zls, znl, zfg, zcs, zsp, zrc, zisn, zft, zc1, zto, Value.category, List.set_cons_zero, List.set_cons_succ, List.length_cons, List.length_nil, Option.toList, List.append, List.nil_append, List.cons_append, true_and, and_true, Nat.add_zero, Nat.zero_le, Nat.zero_add, Nat.le_refl, Nat.reduceAdd, Nat.reduceLeDiff, co0, z0, zn_0, zn_1, zn_2, zn_3, zn_4, zn_5, zn_8, zn_12, zn_24, zn_121, zn_144, zn_256, zn_300, zn_600, zn_720, zn_1204, zn_1280, zn_2400, zn_4816, zn_14400, zn_90000, p_main, x_main, p_list (i := 1) (by decide)]
    refine ⟨(1, 1, 0), _, _, _, rfl, p_list (by decide), ?_⟩
    have hsz2 : x_sz (u_me (u_kn x K) (me_A x K (x_nw x))) 1 = x_nw x := rfl
    rw [hsz2]
    exact ⟨fun _ => hR, fun h => absurd ((zK (K := x_nw x) (by omega) (n := x_nw x) (by omega)).2.1.mpr (Nat.le_refl _)) h⟩) 0 (Nat.zero_le _)
  refine s_WR_findMeant_0 hC hN _ _ _ _ _ ?_
  simp only [B_WR_findMeant_0, B_WR_findMeant_15, B_WR_findMeant_69, B_WR_findMeant_75, co_AL_get, co_AL_size, co_Row_add, co_Row_clear, co_Row_has, co_Row_meets, co_WR_findKnown, co_WR_findMeant, i_ic, i_lc, i_nul, i_il, i_ll, i_al, i_is, i_as, i_ls, i_inc, i_iadd, i_isub, i_imul, i_iand, i_ior, i_ixor, i_idiv, i_irem, i_ishl, i_ishr, i_ladd, i_lsub, i_land, i_lor, i_i2l, i_lushr, i_lshl, i_lshr, i_lcmp, i_dup, i_pop, i_dx1, i_dup2, i_ifeq, i_ifne, i_iflt, i_ifge, i_ifgt, i_ifle, i_iceq, i_icne, i_iclt, i_icge, i_icgt, i_icle, i_ifn, i_gf, i_pf, i_ial, i_bal, i_lal, i_aal, i_ias, i_las, i_bas, i_aas, i_alen, i_newa, i_new, i_anew, i_cast, i_oi, i_call, i_callV, i_callV2, i_callI, i_iret, i_zret, i_lret, i_vret, i_aret, i_mmx, i_mmn, i_gsE, i_aceq, i_no, i_acq, i_sw, zsw, zlg, zls, znl, zfg, zcs, zsp, zrc, zisn, zft, zc1, zto, Value.category, List.set_cons_zero, List.set_cons_succ, List.length_cons, List.length_nil, Option.toList, List.append, List.nil_append, List.cons_append, true_and, and_true, Nat.add_zero, Nat.zero_le, Nat.zero_add, Nat.le_refl, Nat.reduceAdd, Nat.reduceLeDiff, co0, z0, zn_0, zn_1, zn_2, zn_3, zn_4, zn_5, zn_8, zn_12, zn_24, zn_121, zn_144, zn_256, zn_300, zn_600, zn_720, zn_1204, zn_1280, zn_2400, zn_4816, zn_14400, zn_90000, p_main, x_main]
  refine ⟨x, u, v, rfl, rfl, hI, ?_⟩
  rw [hK]
  simp only [p_main, x_main, p_rowO (r_me _), i_ic, i_lc, i_nul, i_il, i_ll, i_al, i_is, i_as, i_ls, i_inc, i_iadd, i_isub, i_imul, i_iand, i_ior, i_ixor, i_idiv, i_irem, i_ishl, i_ishr, i_ladd, i_lsub, i_land, i_lor, i_i2l, i_lushr, i_lshl, i_lshr, i_lcmp, i_dup, i_pop, i_dx1, i_dup2, i_ifeq, i_ifne, i_iflt, i_ifge, i_ifgt, i_ifle, i_iceq, i_icne, i_iclt, i_icge, i_icgt, i_icle, i_ifn, i_gf, i_pf, i_ial, i_bal, i_lal, i_aal, i_ias, i_las, i_bas, i_aas, i_alen, i_newa, i_new, i_anew, i_cast, i_oi, i_call, i_callV, i_callV2, i_callI, i_iret, i_zret, i_lret, i_vret, i_aret, i_mmx, i_mmn, i_gsE, i_aceq, i_no, i_acq, i_sw, zsw, zlg, zls, znl, zfg, zcs, zsp, zrc, zisn, zft, zc1, zto, Value.category, List.set_cons_zero, List.set_cons_succ, List.length_cons, List.length_nil, Option.toList, List.append, List.nil_append, List.cons_append, true_and, and_true, Nat.add_zero, Nat.zero_le, Nat.zero_add, Nat.le_refl, Nat.reduceAdd, Nat.reduceLeDiff, co0, z0, zn_0, zn_1, zn_2, zn_3, zn_4, zn_5, zn_8, zn_12, zn_24, zn_121, zn_144, zn_256, zn_300, zn_600, zn_720, zn_1204, zn_1280, zn_2400, zn_4816, zn_14400, zn_90000]
  refine ⟨(5, 0, 1), (6, 0, 1), _, rfl, m_k (by decide), p_row (r_me _), ?_⟩
  rw [pu_me]
  exact loop
