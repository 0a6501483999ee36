/-! WishRoutes: the wish that is being read -/
theorem Iv_ft {x : zSt} {g b n : Nat} {kd : Int32} (h : Iv x) (hn : n ≤ 4) : Iv (u_fk (u_fz x (va_u2 (x_fz x) g b n)) (va_u2 (x_fk x) g b kd)) := by
  have hk : ∀ w, ft_ok x w → ft_ok (u_fk (u_fz x (va_u2 (x_fz x) g b n)) (va_u2 (x_fk x) g b kd)) w := fun w hw => ⟨hw.1, fun f hf => by
    rw [g_fz_fk, g_fz_fz]
    simp only [va_u2]
    split
    · exact hn
    · exact hw.2 f hf⟩
  obtain ⟨h1, h2, h3, h4, h5, h6, h7, h8, h9, h10, h11⟩ := h
  exact ⟨h1, h2, h3, h4, h5, h6, fun w hw => ⟨(h7 w hw).1, (h7 w hw).2.1, hk w (h7 w hw).2.2⟩, hk _ h8, h9, h10, h11⟩
theorem Iv_fg {x : zSt} {f : Nat → Nat → Nat → Int32} (h : Iv x) : Iv (u_fg x f) := h
noncomputable def ts_ok (f kd a b : Int32) : Bool := zd (isn 4 f = true ∧ ¬ kd < 0 ∧ kd ≤ 2 ∧ (kd = 0 ∨ a ≤ b))
def ts_1 (x : zSt) (g i : Nat) (kd : Int32) (n : Nat) : zSt := u_fk (u_fz x (va_u2 (x_fz x) g i n)) (va_u2 (x_fk x) g i kd)
def ts (x : zSt) (i : Nat) (kd a b : Int32) : zSt := u_fg (ts_1 x (x_rg x) i kd (if kd = 0 then 0 else 2)) (va_u2 (x_fg x) (x_rg x) i (upd (upd (x_fg x (x_rg x) i) 0 a) 1 b))
theorem Iv_ts {x : zSt} {i : Nat} {kd a b : Int32} (h : Iv x) : Iv (ts x i kd a b) := Iv_fg (Iv_ft h (by split <;> decide))
def T_WR_test (As : List zAV) (M : zMp) (Rt : Option zAV → zMp → Prop) : Prop := ∃ x f kd a b, As = [.inr (0, 0, 0), .inl (.int f), .inl (.int kd), .inl (.int a), .inl (.int b)] ∧ M = pic x ∧ Iv x ∧ (ts_ok f kd a b = false → Rt (some (.inl (.int 0))) M) ∧ (∀ i, i < 4 → f = nI i → ts_ok f kd a b = true → Rt (some (.inl (.int 1))) (pic (ts x i kd a b)))
abbrev co_WR_test := co0
theorem dX6_test_0 : decode cX6_test 0 = .ok (.iload_n 1, 1) := by decide +kernel
theorem dX6_test_1 : decode cX6_test 1 = .ok (.invokestatic 115, 3) := by decide +kernel
theorem dX6_test_4 : decode cX6_test 4 = .ok (.ifCond .eq 12, 3) := by decide +kernel
theorem dX6_test_7 : decode cX6_test 7 = .ok (.iload_n 2, 1) := by decide +kernel
theorem dX6_test_8 : decode cX6_test 8 = .ok (.ifCond .lt 8, 3) := by decide +kernel
theorem dX6_test_11 : decode cX6_test 11 = .ok (.iload_n 2, 1) := by decide +kernel
theorem dX6_test_12 : decode cX6_test 12 = .ok (.iconst 2, 1) := by decide +kernel
theorem dX6_test_13 : decode cX6_test 13 = .ok (.if_icmp .le 5, 3) := by decide +kernel
theorem dX6_test_16 : decode cX6_test 16 = .ok (.iconst 0, 1) := by decide +kernel
theorem dX6_test_17 : decode cX6_test 17 = .ok (.ireturn, 1) := by decide +kernel
theorem dX6_test_18 : decode cX6_test 18 = .ok (.iload_n 2, 1) := by decide +kernel
theorem dX6_test_19 : decode cX6_test 19 = .ok (.ifCond .eq 11, 3) := by decide +kernel
theorem dX6_test_22 : decode cX6_test 22 = .ok (.iload_n 3, 1) := by decide +kernel
theorem dX6_test_23 : decode cX6_test 23 = .ok (.iload 4, 2) := by decide +kernel
theorem dX6_test_25 : decode cX6_test 25 = .ok (.if_icmp .le 5, 3) := by decide +kernel
theorem dX6_test_28 : decode cX6_test 28 = .ok (.iconst 0, 1) := by decide +kernel
theorem dX6_test_29 : decode cX6_test 29 = .ok (.ireturn, 1) := by decide +kernel
theorem dX6_test_30 : decode cX6_test 30 = .ok (.aload_n 0, 1) := by decide +kernel
theorem dX6_test_31 : decode cX6_test 31 = .ok (.getfield 49, 3) := by decide +kernel
theorem dX6_test_34 : decode cX6_test 34 = .ok (.iload_n 1, 1) := by decide +kernel
theorem dX6_test_35 : decode cX6_test 35 = .ok (.aaload, 1) := by decide +kernel
theorem dX6_test_36 : decode cX6_test 36 = .ok (.iload_n 2, 1) := by decide +kernel
theorem dX6_test_37 : decode cX6_test 37 = .ok (.iload_n 3, 1) := by decide +kernel
theorem dX6_test_38 : decode cX6_test 38 = .ok (.iload 4, 2) := by decide +kernel
theorem dX6_test_40 : decode cX6_test 40 = .ok (.invokevirtual 118, 3) := by decide +kernel
theorem dX6_test_43 : decode cX6_test 43 = .ok (.iconst 1, 1) := by decide +kernel
theorem dX6_test_44 : decode cX6_test 44 = .ok (.ireturn, 1) := by decide +kernel
def B_WR_test_30 (mc ms : Nat) (Rt : Option zAV → zMp → Prop) (g : Nat → zKT) : zKT :=
  (i_al 0 (i_gf 7 8 (i_il 1 (i_aal "WishRoutes$FieldTest" (i_il 2 (i_il 3 (i_il 4 (i_callV mc ms 1 4 T_FT_setKind co_FT_setKind (i_ic 1 (i_zret mc ms Rt))))))))))
set_option maxRecDepth 20000 in
theorem s_WR_test_30 {X : zMa} {mc ms : Nat} {Rt : Option zAV → zMp → Prop} (hC : zCx X RX6 cX6_test 1 23 mc ms (some .boolean) false Rt) : zLe (B_WR_test_30 mc ms Rt (zG X)) (zG X 30) :=
  (sd_al_n hC rfl dX6_test_30 ((sd_gf hC (ci := 7) (fk := 8) rfl wi_WR (by decide) fl_WR_49 (Or.inl rfl) dX6_test_31 ((sd_il_n hC rfl dX6_test_34 ((sd_aal hC dX6_test_35 ((sd_il_n hC rfl dX6_test_36 ((sd_il_n hC rfl dX6_test_37 ((sd_il hC dX6_test_38 ((sd_cV hC c_FT_setKind yv_FT_setKind (ci := 1) rfl rfl ml_WR_118 (by decide) (by decide) dX6_test_40 ((sd_iconst hC (by decide) dX6_test_43 ((sd_zret hC dX6_test_44)))))))))))))))))))
def B_WR_test_18 (mc ms : Nat) (Rt : Option zAV → zMp → Prop) (g : Nat → zKT) : zKT :=
  (i_il 2 (i_ifeq (B_WR_test_30 mc ms Rt g) (i_il 3 (i_il 4 (i_icle (B_WR_test_30 mc ms Rt g) (i_ic 0 (i_zret mc ms Rt)))))))
set_option maxRecDepth 20000 in
theorem s_WR_test_18 {X : zMa} {mc ms : Nat} {Rt : Option zAV → zMp → Prop} (hC : zCx X RX6 cX6_test 1 23 mc ms (some .boolean) false Rt) : zLe (B_WR_test_18 mc ms Rt (zG X)) (zG X 18) :=
  (sd_il_n hC rfl dX6_test_18 ((sd_ifeq hC (tgt := 30) (by decide) dX6_test_19 (s_WR_test_30 hC) ((sd_il_n hC rfl dX6_test_22 ((sd_il hC dX6_test_23 ((sd_icle hC (tgt := 30) (by decide) dX6_test_25 (s_WR_test_30 hC) ((sd_iconst hC (by decide) dX6_test_28 ((sd_zret hC dX6_test_29)))))))))))))
def B_WR_test_16 (mc ms : Nat) (Rt : Option zAV → zMp → Prop) (g : Nat → zKT) : zKT :=
  (i_ic 0 (i_zret mc ms Rt))
set_option maxRecDepth 20000 in
theorem s_WR_test_16 {X : zMa} {mc ms : Nat} {Rt : Option zAV → zMp → Prop} (hC : zCx X RX6 cX6_test 1 23 mc ms (some .boolean) false Rt) : zLe (B_WR_test_16 mc ms Rt (zG X)) (zG X 16) :=
  (sd_iconst hC (by decide) dX6_test_16 ((sd_zret hC dX6_test_17)))
def B_WR_test_0 (mc ms : Nat) (Rt : Option zAV → zMp → Prop) (g : Nat → zKT) : zKT :=
  (i_il 1 (i_call mc ms 1 T_WR_isField co_WR_isField (i_ifeq (B_WR_test_16 mc ms Rt g) (i_il 2 (i_iflt (B_WR_test_16 mc ms Rt g) (i_il 2 (i_ic 2 (i_icle (B_WR_test_18 mc ms Rt g) (B_WR_test_16 mc ms Rt g)))))))))
set_option maxRecDepth 20000 in
theorem s_WR_test_0 {X : zMa} {mc ms : Nat} {Rt : Option zAV → zMp → Prop} (hC : zCx X RX6 cX6_test 1 23 mc ms (some .boolean) false Rt) : zLe (B_WR_test_0 mc ms Rt (zG X)) (zG X 0) :=
  (sd_il_n hC rfl dX6_test_0 ((sd_cS hC c_WR_isField ys_WR_isField ml_WR_115 (by decide) (by decide) dX6_test_1 ((sd_ifeq hC (tgt := 16) (by decide) dX6_test_4 (s_WR_test_16 hC) ((sd_il_n hC rfl dX6_test_7 ((sd_iflt hC (tgt := 16) (by decide) dX6_test_8 (s_WR_test_16 hC) ((sd_il_n hC rfl dX6_test_11 ((sd_iconst hC (by decide) dX6_test_12 ((sd_icle hC (tgt := 18) (by decide) dX6_test_13 (s_WR_test_18 hC) (s_WR_test_16 hC))))))))))))))))
theorem c_WR_test (l : Launch) : zCT l yX6_test cX6_test 5 (some .boolean) 1 23 T_WR_test co_WR_test := by
  intro As M Rt hT
  obtain ⟨x, f, kd, a, b, rfl, rfl, hI, hR0, hR1⟩ := hT
  have hg := hI.rg
  refine zMet_of false (by decide +kernel) (fun h => by first | rfl | cases h) (Nat.le_of_ble_eq_true rfl) (fun X hN hC => ?_)
  show zG X 0 [some (.inr (0, 0, 0)), some (.inl (.int f)), some (.inl (.int kd)), some (.inl (.int a)), some (.inl (.int b))] [] (pic x) 0 0
  have fin : isn 4 f = true → ¬ kd < 0 → kd ≤ 2 → (kd = 0 ∨ a ≤ b) → B_WR_test_30 (co_WR_test [.inr (0, 0, 0), .inl (.int f), .inl (.int kd), .inl (.int a), .inl (.int b)] (pic x)).1 (co_WR_test [.inr (0, 0, 0), .inl (.int f), .inl (.int kd), .inl (.int a), .inl (.int b)] (pic x)).2 Rt (zG X) [some (.inr (0, 0, 0)), some (.inl (.int f)), some (.inl (.int kd)), some (.inl (.int a)), some (.inl (.int b))] [] (pic x) 0 0 := by
    intro h1 h2 h3 h4
    obtain ⟨i, hi, rfl⟩ := isn_t (by decide) h1
    have hR := hR1 i hi rfl (zd_t ⟨h1, h2, h3, h4⟩)
    simp only [B_WR_test_0, B_WR_test_16, B_WR_test_18, B_WR_test_30, co_FT_setKind, co_WR_isField, co_WR_test, i_ic, i_lc, i_nul, i_il, i_ll, i_al, i_is, i_as, i_ls, i_inc, i_iadd, i_isub, i_imul, i_iand, i_ior, i_ixor, i_idiv, i_irem, i_ishl, i_ishr, i_ladd, i_lsub, i_land, i_lor, i_i2l, i_lushr, i_lshl, i_lshr, i_lcmp, i_dup, i_pop, i_dx1, i_dup2, i_ifeq, i_ifne, i_iflt, i_ifge, i_ifgt, i_ifle, i_iceq, i_icne, i_iclt, i_icge, i_icgt, i_icle, i_ifn, i_gf, i_pf, i_ial, i_bal, i_lal, i_aal, i_ias, i_las, i_bas, i_aas, i_alen, i_newa, i_new, i_anew, i_cast, i_oi, i_call, i_callV, i_callV2, i_callI, i_iret, i_zret, i_lret, i_vret, i_aret, i_mmx, i_mmn, i_gsE, i_aceq, i_no, i_acq, i_sw, zsw, zlg, zls, znl, zfg, zcs, zsp, zrc, zisn, zft, zc1, zto, Value.category, List.set_cons_zero, List.set_cons_succ, List.length_cons, List.length_nil, Option.toList, List.append, List.nil_append, List.cons_append, true_and, and_true, Nat.add_zero, Nat.zero_le, Nat.zero_add, Nat.le_refl, Nat.reduceAdd, Nat.reduceLeDiff, co0, z0, zn_0, zn_1, zn_2, zn_3, zn_4, zn_5, zn_8, zn_12, zn_24, zn_121, zn_144, zn_256, zn_300, zn_600, zn_720, zn_1204, zn_1280, zn_2400, zn_4816, zn_14400, zn_90000, p_main, x_main, p_fs hg.1]
    rw [nI_clamp (by omega), fts_e hi]
    refine ⟨vp_in_nI hi (by decide), ?_⟩
    simp only [zov, p_fo hg.1 hi, i_ic, i_lc, i_nul, i_il, i_ll, i_al, i_is, i_as, i_ls, i_inc, i_iadd, i_isub, i_imul, i_iand, i_ior, i_ixor, i_idiv, i_irem, i_ishl, i_ishr, i_ladd, i_lsub, i_land, i_lor, i_i2l, i_lushr, i_lshl, i_lshr, i_lcmp, i_dup, i_pop, i_dx1, i_dup2, i_ifeq, i_ifne, i_iflt, i_ifge, i_ifgt, i_ifle, i_iceq, i_icne, i_iclt, i_icge, i_icgt, i_icle, i_ifn, i_gf, i_pf, i_ial, i_bal, i_lal, i_aal, i_ias, i_las, i_bas, i_aas, i_alen, i_newa, i_new, i_anew, i_cast, i_oi, i_call, i_callV, i_callV2, i_callI, i_iret, i_zret, i_lret, i_vret, i_aret, i_mmx, i_mmn, i_gsE, i_aceq, i_no, i_acq, i_sw, zsw, zlg, zls, znl, zfg, zcs, zsp, zrc, zisn, zft, zc1, zto, Value.category, List.set_cons_zero, List.set_cons_succ, List.length_cons, List.length_nil, Option.toList, List.append, List.nil_append, List.cons_append, true_and, and_true, Nat.add_zero, Nat.zero_le, Nat.zero_add, Nat.le_refl, Nat.reduceAdd, Nat.reduceLeDiff, co0, z0, zn_0, zn_1, zn_2, zn_3, zn_4, zn_5, zn_8, zn_12, zn_24, zn_121, zn_144, zn_256, zn_300, zn_600, zn_720, zn_1204, zn_1280, zn_2400, zn_4816, zn_14400, zn_90000]
    refine ⟨(7, x_rg x, i), (8, x_rg x, i), _, _, _, kd, a, b, rfl, m_k (by decide), m_k (by decide), ft_e hg hi, by decide, ?_⟩
    rw [pu_ft x _ _ _ _ hg.1 hi, pu_fg _ _ _ _ (by exact hg.1) hi]
    exact hR
  refine s_WR_test_0 hC _ _ _ _ _ ?_
  simp only [B_WR_test_0, B_WR_test_16, B_WR_test_18, co_FT_setKind, co_WR_isField, co_WR_test, i_ic, i_lc, i_nul, i_il, i_ll, i_al, i_is, i_as, i_ls, i_inc, i_iadd, i_isub, i_imul, i_iand, i_ior, i_ixor, i_idiv, i_irem, i_ishl, i_ishr, i_ladd, i_lsub, i_land, i_lor, i_i2l, i_lushr, i_lshl, i_lshr, i_lcmp, i_dup, i_pop, i_dx1, i_dup2, i_ifeq, i_ifne, i_iflt, i_ifge, i_ifgt, i_ifle, i_iceq, i_icne, i_iclt, i_icge, i_icgt, i_icle, i_ifn, i_gf, i_pf, i_ial, i_bal, i_lal, i_aal, i_ias, i_las, i_bas, i_aas, i_alen, i_newa, i_new, i_anew, i_cast, i_oi, i_call, i_callV, i_callV2, i_callI, i_iret, i_zret, i_lret, i_vret, i_aret, i_mmx, i_mmn, i_gsE, i_aceq, i_no, i_acq, i_sw, zsw, zlg, zls, znl, zfg, zcs, zsp, zrc, zisn, zft, zc1, zto, Value.category, List.set_cons_zero, List.set_cons_succ, List.length_cons, List.length_nil, Option.toList, List.append, List.nil_append, List.cons_append, true_and, and_true, Nat.add_zero, Nat.zero_le, Nat.zero_add, Nat.le_refl, Nat.reduceAdd, Nat.reduceLeDiff, co0, z0, zn_0, zn_1, zn_2, zn_3, zn_4, zn_5, zn_8, zn_12, zn_24, zn_121, zn_144, zn_256, zn_300, zn_600, zn_720, zn_1204, zn_1280, zn_2400, zn_4816, zn_14400, zn_90000, p_main, x_main]
  refine ⟨f, rfl, fun h => ⟨by decide, hR0 (zd_f (fun q => by rw [q.1] at h; exact absurd h (by decide)))⟩, fun h => ?_⟩
  have h1 := zb_n0 h
  refine ⟨fun h2 => ⟨by decide, hR0 (zd_f (fun q => q.2.1 h2))⟩, fun h2 => ⟨fun h3 => ⟨fun h4 => fin h1 h2 h3 (Or.inl h4), fun h4 => ⟨fun h5 => fin h1 h2 h3 (Or.inr h5), fun h5 => ⟨by decide, hR0 (zd_f (fun q => q.2.2.2.elim h4 h5))⟩⟩⟩, fun h3 => ⟨by decide, hR0 (zd_f (fun q => h3 q.2.2.1))⟩⟩⟩
/-! among -/
noncomputable def am_ok (x : zSt) (i : Nat) (v : Int32) : Bool := ft_can (x_fk x (x_rg x) i) (x_fz x (x_rg x) i) (x_fg x (x_rg x) i) v
def am_n (x : zSt) (i : Nat) : Nat := if x_fk x (x_rg x) i = 3 then x_fz x (x_rg x) i else 0
noncomputable def am (x : zSt) (i : Nat) (v : Int32) : zSt := ts_1 (u_fg x (va_u2 (x_fg x) (x_rg x) i (ft_ins v (am_n x i) (x_fg x (x_rg x) i)))) (x_rg x) i 3 (am_n x i + 1)
def T_WR_among (As : List zAV) (M : zMp) (Rt : Option zAV → zMp → Prop) : Prop := ∃ x f v, As = [.inr (0, 0, 0), .inl (.int f), .inl (.int v)] ∧ M = pic x ∧ Iv x ∧ (isn 4 f = false → Rt (some (.inl (.int 0))) M) ∧ (∀ i, i < 4 → f = nI i → am_ok x i v = false → Rt (some (.inl (.int 0))) M) ∧ (∀ i, i < 4 → f = nI i → am_ok x i v = true → Rt (some (.inl (.int 1))) (pic (am x i v)))
abbrev co_WR_among := co0
theorem dX6_among_0 : decode cX6_among 0 = .ok (.iload_n 1, 1) := by decide +kernel
theorem dX6_among_1 : decode cX6_among 1 = .ok (.invokestatic 115, 3) := by decide +kernel
theorem dX6_among_4 : decode cX6_among 4 = .ok (.ifCond .eq 20, 3) := by decide +kernel
theorem dX6_among_7 : decode cX6_among 7 = .ok (.aload_n 0, 1) := by decide +kernel
theorem dX6_among_8 : decode cX6_among 8 = .ok (.getfield 49, 3) := by decide +kernel
theorem dX6_among_11 : decode cX6_among 11 = .ok (.iload_n 1, 1) := by decide +kernel
theorem dX6_among_12 : decode cX6_among 12 = .ok (.aaload, 1) := by decide +kernel
theorem dX6_among_13 : decode cX6_among 13 = .ok (.iload_n 2, 1) := by decide +kernel
theorem dX6_among_14 : decode cX6_among 14 = .ok (.invokevirtual 124, 3) := by decide +kernel
theorem dX6_among_17 : decode cX6_among 17 = .ok (.ifCond .eq 7, 3) := by decide +kernel
theorem dX6_among_20 : decode cX6_among 20 = .ok (.iconst 1, 1) := by decide +kernel
theorem dX6_among_21 : decode cX6_among 21 = .ok (.goto 4, 3) := by decide +kernel
theorem dX6_among_24 : decode cX6_among 24 = .ok (.iconst 0, 1) := by decide +kernel
theorem dX6_among_25 : decode cX6_among 25 = .ok (.ireturn, 1) := by decide +kernel
def B_WR_among_25 (mc ms : Nat) (Rt : Option zAV → zMp → Prop) (g : Nat → zKT) : zKT :=
  (i_zret mc ms Rt)
set_option maxRecDepth 20000 in
theorem s_WR_among_25 {X : zMa} {mc ms : Nat} {Rt : Option zAV → zMp → Prop} (hC : zCx X RX6 cX6_among 2 44 mc ms (some .boolean) false Rt) : zLe (B_WR_among_25 mc ms Rt (zG X)) (zG X 25) :=
  (sd_zret hC dX6_among_25)
def B_WR_among_24 (mc ms : Nat) (Rt : Option zAV → zMp → Prop) (g : Nat → zKT) : zKT :=
  (i_ic 0 (B_WR_among_25 mc ms Rt g))
set_option maxRecDepth 20000 in
theorem s_WR_among_24 {X : zMa} {mc ms : Nat} {Rt : Option zAV → zMp → Prop} (hC : zCx X RX6 cX6_among 2 44 mc ms (some .boolean) false Rt) : zLe (B_WR_among_24 mc ms Rt (zG X)) (zG X 24) :=
  (sd_iconst hC (by decide) dX6_among_24 (s_WR_among_25 hC))
def B_WR_among_0 (mc ms : Nat) (Rt : Option zAV → zMp → Prop) (g : Nat → zKT) : zKT :=
  (i_il 1 (i_call mc ms 1 T_WR_isField co_WR_isField (i_ifeq (B_WR_among_24 mc ms Rt g) (i_al 0 (i_gf 7 8 (i_il 1 (i_aal "WishRoutes$FieldTest" (i_il 2 (i_callV mc ms 1 2 T_FT_addNumber co_FT_addNumber (i_ifeq (B_WR_among_24 mc ms Rt g) (i_ic 1 (B_WR_among_25 mc ms Rt g))))))))))))
set_option maxRecDepth 20000 in
theorem s_WR_among_0 {X : zMa} {mc ms : Nat} {Rt : Option zAV → zMp → Prop} (hC : zCx X RX6 cX6_among 2 44 mc ms (some .boolean) false Rt) : zLe (B_WR_among_0 mc ms Rt (zG X)) (zG X 0) :=
  (sd_il_n hC rfl dX6_among_0 ((sd_cS hC c_WR_isField ys_WR_isField ml_WR_115 (by decide) (by decide) dX6_among_1 ((sd_ifeq hC (tgt := 24) (by decide) dX6_among_4 (s_WR_among_24 hC) ((sd_al_n hC rfl dX6_among_7 ((sd_gf hC (ci := 7) (fk := 8) rfl wi_WR (by decide) fl_WR_49 (Or.inl rfl) dX6_among_8 ((sd_il_n hC rfl dX6_among_11 ((sd_aal hC dX6_among_12 ((sd_il_n hC rfl dX6_among_13 ((sd_cV hC c_FT_addNumber yv_FT_addNumber (ci := 1) rfl rfl ml_WR_124 (by decide) (by decide) dX6_among_14 ((sd_ifeq hC (tgt := 24) (by decide) dX6_among_17 (s_WR_among_24 hC) ((sd_iconst hC (by decide) dX6_among_20 ((sd_goto hC (tgt := 25) (by decide) dX6_among_21 (s_WR_among_25 hC))))))))))))))))))))))))
theorem c_WR_among (l : Launch) : zCT l yX6_among cX6_among 3 (some .boolean) 2 44 T_WR_among co_WR_among := by
  intro As M Rt hT
  obtain ⟨x, f, v, rfl, rfl, hI, hR0, hR1, hR2⟩ := hT
  have hg := hI.rg
  refine zMet_of false (by decide +kernel) (fun h => by first | rfl | cases h) (Nat.le_of_ble_eq_true rfl) (fun X hN hC => ?_)
  show zG X 0 [some (.inr (0, 0, 0)), some (.inl (.int f)), some (.inl (.int v))] [] (pic x) 0 0
  refine s_WR_among_0 hC _ _ _ _ _ ?_
  simp only [B_WR_among_0, B_WR_among_24, B_WR_among_25, co_FT_addNumber, co_WR_among, co_WR_isField, i_ic, i_lc, i_nul, i_il, i_ll, i_al, i_is, i_as, i_ls, i_inc, i_iadd, i_isub, i_imul, i_iand, i_ior, i_ixor, i_idiv, i_irem, i_ishl, i_ishr, i_ladd, i_lsub, i_land, i_lor, i_i2l, i_lushr, i_lshl, i_lshr, i_lcmp, i_dup, i_pop, i_dx1, i_dup2, i_ifeq, i_ifne, i_iflt, i_ifge, i_ifgt, i_ifle, i_iceq, i_icne, i_iclt, i_icge, i_icgt, i_icle, i_ifn, i_gf, i_pf, i_ial, i_bal, i_lal, i_aal, i_ias, i_las, i_bas, i_aas, i_alen, i_newa, i_new, i_anew, i_cast, i_oi, i_call, i_callV, i_callV2, i_callI, i_iret, i_zret, i_lret, i_vret, i_aret, i_mmx, i_mmn, i_gsE, i_aceq, i_no, i_acq, i_sw, zsw, zlg, zls, znl, zfg, zcs, zsp, zrc, zisn, zft, zc1, zto, Value.category, List.set_cons_zero, List.set_cons_succ, List.length_cons, List.length_nil, Option.toList, List.append, List.nil_append, List.cons_append, true_and, and_true, Nat.add_zero, Nat.zero_le, Nat.zero_add, Nat.le_refl, Nat.reduceAdd, Nat.reduceLeDiff, co0, z0, zn_0, zn_1, zn_2, zn_3, zn_4, zn_5, zn_8, zn_12, zn_24, zn_121, zn_144, zn_256, zn_300, zn_600, zn_720, zn_1204, zn_1280, zn_2400, zn_4816, zn_14400, zn_90000, p_main, x_main, p_fs hg.1]
  refine ⟨f, rfl, fun h => ⟨by decide, hR0 (zb_0.mp h)⟩, fun h => ?_⟩
  obtain ⟨i, hi, rfl⟩ := isn_t (by decide) (zb_n0 h)
  simp only [p_main, x_main, p_fs hg.1, i_ic, i_lc, i_nul, i_il, i_ll, i_al, i_is, i_as, i_ls, i_inc, i_iadd, i_isub, i_imul, i_iand, i_ior, i_ixor, i_idiv, i_irem, i_ishl, i_ishr, i_ladd, i_lsub, i_land, i_lor, i_i2l, i_lushr, i_lshl, i_lshr, i_lcmp, i_dup, i_pop, i_dx1, i_dup2, i_ifeq, i_ifne, i_iflt, i_ifge, i_ifgt, i_ifle, i_iceq, i_icne, i_iclt, i_icge, i_icgt, i_icle, i_ifn, i_gf, i_pf, i_ial, i_bal, i_lal, i_aal, i_ias, i_las, i_bas, i_aas, i_alen, i_newa, i_new, i_anew, i_cast, i_oi, i_call, i_callV, i_callV2, i_callI, i_iret, i_zret, i_lret, i_vret, i_aret, i_mmx, i_mmn, i_gsE, i_aceq, i_no, i_acq, i_sw, zsw, zlg, zls, znl, zfg, zcs, zsp, zrc, zisn, zft, zc1, zto, Value.category, List.set_cons_zero, List.set_cons_succ, List.length_cons, List.length_nil, Option.toList, List.append, List.nil_append, List.cons_append, true_and, and_true, Nat.add_zero, Nat.zero_le, Nat.zero_add, Nat.le_refl, Nat.reduceAdd, Nat.reduceLeDiff, co0, z0, zn_0, zn_1, zn_2, zn_3, zn_4, zn_5, zn_8, zn_12, zn_24, zn_121, zn_144, zn_256, zn_300, zn_600, zn_720, zn_1204, zn_1280, zn_2400, zn_4816, zn_14400, zn_90000]
  rw [nI_clamp (by omega), fts_e hi]
  refine ⟨vp_in_nI hi (by decide), ?_⟩
  simp only [zov, p_fo hg.1 hi, i_ic, i_lc, i_nul, i_il, i_ll, i_al, i_is, i_as, i_ls, i_inc, i_iadd, i_isub, i_imul, i_iand, i_ior, i_ixor, i_idiv, i_irem, i_ishl, i_ishr, i_ladd, i_lsub, i_land, i_lor, i_i2l, i_lushr, i_lshl, i_lshr, i_lcmp, i_dup, i_pop, i_dx1, i_dup2, i_ifeq, i_ifne, i_iflt, i_ifge, i_ifgt, i_ifle, i_iceq, i_icne, i_iclt, i_icge, i_icgt, i_icle, i_ifn, i_gf, i_pf, i_ial, i_bal, i_lal, i_aal, i_ias, i_las, i_bas, i_aas, i_alen, i_newa, i_new, i_anew, i_cast, i_oi, i_call, i_callV, i_callV2, i_callI, i_iret, i_zret, i_lret, i_vret, i_aret, i_mmx, i_mmn, i_gsE, i_aceq, i_no, i_acq, i_sw, zsw, zlg, zls, znl, zfg, zcs, zsp, zrc, zisn, zft, zc1, zto, Value.category, List.set_cons_zero, List.set_cons_succ, List.length_cons, List.length_nil, Option.toList, List.append, List.nil_append, List.cons_append, true_and, and_true, Nat.add_zero, Nat.zero_le, Nat.zero_add, Nat.le_refl, Nat.reduceAdd, Nat.reduceLeDiff, co0, z0, zn_0, zn_1, zn_2, zn_3, zn_4, zn_5, zn_8, zn_12, zn_24, zn_121, zn_144, zn_256, zn_300, zn_600, zn_720, zn_1204, zn_1280, zn_2400, zn_4816, zn_14400, zn_90000]
  refine ⟨(7, x_rg x, i), (8, x_rg x, i), _, _, _, v, rfl, m_k (by decide), m_k (by decide), ft_e hg hi, fun hf => ⟨fun _ => ⟨by decide, hR1 i hi rfl hf⟩, fun h => absurd rfl h⟩, fun ht => ⟨fun h => absurd h (by decide), fun _ => ⟨by decide, ?_⟩⟩⟩
  have hR := hR2 i hi rfl ht
  rw [pu_fg x _ _ _ hg.1 hi, pu_ft _ _ _ _ _ (by exact hg.1) hi]
  exact hR
/-! fits -/
def ft_x (x : zSt) (g : Nat → Int32) : zSt := u_tf (u_tn x (x_tn x + 1)) (va_up (x_tf x) (x_tn x) g)
def zf4 (a b c d : Int32) : Nat → Int32 := upd (upd (upd (upd (fun _ => 0) 0 a) 1 b) 2 c) 3 d
theorem Iv_ftx {x : zSt} {g : Nat → Int32} (h : Iv x) : Iv (ft_x x g) := h
theorem pu_tf (x : zSt) (g : Nat → Int32) : zup (pic x) (14, x_tn x, 0) (zin 4 g) = pic (ft_x x g) := by
  refine pic_up ?_ (fun n hn => ?_)
  · have h : x_tn x < x_tn (ft_x x g) := by show x_tn x < x_tn x + 1; omega
    refine (if_pos ⟨h, rfl⟩).trans ?_
    simp only [ft_x, g_tf_tf, va_up, if_true]
  · obtain ⟨k, i, j⟩ := n
    rcases k with _ | _ | _ | _ | _ | _ | _ | _ | _ | _ | _ | _ | _ | _ | _ | _ | _ | _ | _ | k
    all_goals first | rfl | skip
    show (if i < x_tn x ∧ j = 0 then some (zin 4 (x_tf x i)) else none) = (if i < x_tn (ft_x x g) ∧ j = 0 then some (zin 4 (x_tf (ft_x x g) i)) else none)
    have e1 : x_tn (ft_x x g) = x_tn x + 1 := rfl
    have e2 : x_tf (ft_x x g) = va_up (x_tf x) (x_tn x) g := rfl
    rw [e1, e2]
    by_cases hj : j = 0
    · subst hj
      have hi : i ≠ x_tn x := fun q => hn (by rw [q])
      have e3 : va_up (x_tf x) (x_tn x) g i = x_tf x i := if_neg hi
      rw [e3]
      by_cases hlt : i < x_tn x
      · rw [if_pos ⟨hlt, rfl⟩, if_pos ⟨by omega, rfl⟩]
      · rw [if_neg (fun q => hlt q.1), if_neg (fun q => absurd q.1 (by omega))]
    · rw [if_neg (fun q => hj q.2), if_neg (fun q => hj q.2)]
theorem tf_free (x : zSt) : pic x (14, x_tn x, 0) = none := if_neg (fun q => absurd q.1 (Nat.lt_irrefl _))
def T_WR_fits (As : List zAV) (M : zMp) (Rt : Option zAV → zMp → Prop) : Prop := ∃ x k a b c d, As = [.inr (0, 0, 0), .inl (.int k), .inl (.int a), .inl (.int b), .inl (.int c), .inl (.int d)] ∧ M = pic x ∧ Iv x ∧ (isn (x_nw x) k = false → Rt (some (.inl (.int (-1)))) M) ∧ (∀ w, w < x_nw x → k = nI w → Rt (some (.inl (.int (zb (ws_met x w (zf4 a b c d)))))) (pic (ft_x x (zf4 a b c d))))
def co_WR_fits : List zAV → zMp → Nat × Nat := fun _ _ => (1, 4)
theorem dX6_fits_0 : decode cX6_fits 0 = .ok (.aload_n 0, 1) := by decide +kernel
theorem dX6_fits_1 : decode cX6_fits 1 = .ok (.iload_n 1, 1) := by decide +kernel
theorem dX6_fits_2 : decode cX6_fits 2 = .ok (.invokevirtual 136, 3) := by decide +kernel
theorem dX6_fits_5 : decode cX6_fits 5 = .ok (.astore 6, 2) := by decide +kernel
theorem dX6_fits_7 : decode cX6_fits 7 = .ok (.aload 6, 2) := by decide +kernel
theorem dX6_fits_9 : decode cX6_fits 9 = .ok (.ifnonnull 5, 3) := by decide +kernel
theorem dX6_fits_12 : decode cX6_fits 12 = .ok (.iconst (-1), 1) := by decide +kernel
theorem dX6_fits_13 : decode cX6_fits 13 = .ok (.ireturn, 1) := by decide +kernel
theorem dX6_fits_14 : decode cX6_fits 14 = .ok (.aload 6, 2) := by decide +kernel
theorem dX6_fits_16 : decode cX6_fits 16 = .ok (.iconst 4, 1) := by decide +kernel
theorem dX6_fits_17 : decode cX6_fits 17 = .ok (.newarray .int, 2) := by decide +kernel
theorem dX6_fits_19 : decode cX6_fits 19 = .ok (.dup, 1) := by decide +kernel
theorem dX6_fits_20 : decode cX6_fits 20 = .ok (.iconst 0, 1) := by decide +kernel
theorem dX6_fits_21 : decode cX6_fits 21 = .ok (.iload_n 2, 1) := by decide +kernel
theorem dX6_fits_22 : decode cX6_fits 22 = .ok (.iastore, 1) := by decide +kernel
theorem dX6_fits_23 : decode cX6_fits 23 = .ok (.dup, 1) := by decide +kernel
theorem dX6_fits_24 : decode cX6_fits 24 = .ok (.iconst 1, 1) := by decide +kernel
theorem dX6_fits_25 : decode cX6_fits 25 = .ok (.iload_n 3, 1) := by decide +kernel
theorem dX6_fits_26 : decode cX6_fits 26 = .ok (.iastore, 1) := by decide +kernel
theorem dX6_fits_27 : decode cX6_fits 27 = .ok (.dup, 1) := by decide +kernel
theorem dX6_fits_28 : decode cX6_fits 28 = .ok (.iconst 2, 1) := by decide +kernel
theorem dX6_fits_29 : decode cX6_fits 29 = .ok (.iload 4, 2) := by decide +kernel
theorem dX6_fits_31 : decode cX6_fits 31 = .ok (.iastore, 1) := by decide +kernel
theorem dX6_fits_32 : decode cX6_fits 32 = .ok (.dup, 1) := by decide +kernel
theorem dX6_fits_33 : decode cX6_fits 33 = .ok (.iconst 3, 1) := by decide +kernel
theorem dX6_fits_34 : decode cX6_fits 34 = .ok (.iload 5, 2) := by decide +kernel
theorem dX6_fits_36 : decode cX6_fits 36 = .ok (.iastore, 1) := by decide +kernel
theorem dX6_fits_37 : decode cX6_fits 37 = .ok (.invokevirtual 177, 3) := by decide +kernel
theorem dX6_fits_40 : decode cX6_fits 40 = .ok (.ifCond .eq 7, 3) := by decide +kernel
theorem dX6_fits_43 : decode cX6_fits 43 = .ok (.iconst 1, 1) := by decide +kernel
theorem dX6_fits_44 : decode cX6_fits 44 = .ok (.goto 4, 3) := by decide +kernel
theorem dX6_fits_47 : decode cX6_fits 47 = .ok (.iconst 0, 1) := by decide +kernel
theorem dX6_fits_48 : decode cX6_fits 48 = .ok (.ireturn, 1) := by decide +kernel
def B_WR_fits_48 (mc ms : Nat) (Rt : Option zAV → zMp → Prop) (g : Nat → zKT) : zKT :=
  (i_iret mc ms Rt)
set_option maxRecDepth 20000 in
theorem s_WR_fits_48 {X : zMa} {mc ms : Nat} {Rt : Option zAV → zMp → Prop} (hC : zCx X RX6 cX6_fits 4 85 mc ms (some .int) false Rt) (hN : zNL X = 7) : zLe (B_WR_fits_48 mc ms Rt (zG X)) (zG X 48) :=
  (sd_iret hC dX6_fits_48)
def B_WR_fits_47 (mc ms : Nat) (Rt : Option zAV → zMp → Prop) (g : Nat → zKT) : zKT :=
  (i_ic 0 (B_WR_fits_48 mc ms Rt g))
set_option maxRecDepth 20000 in
theorem s_WR_fits_47 {X : zMa} {mc ms : Nat} {Rt : Option zAV → zMp → Prop} (hC : zCx X RX6 cX6_fits 4 85 mc ms (some .int) false Rt) (hN : zNL X = 7) : zLe (B_WR_fits_47 mc ms Rt (zG X)) (zG X 47) :=
  (sd_iconst hC (by decide) dX6_fits_47 (s_WR_fits_48 hC hN))
def B_WR_fits_14 (mc ms : Nat) (Rt : Option zAV → zMp → Prop) (g : Nat → zKT) : zKT :=
  (i_al 6 (i_ic 4 (i_newa mc ms .int (i_dup (i_ic 0 (i_il 2 (i_ias (i_dup (i_ic 1 (i_il 3 (i_ias (i_dup (i_ic 2 (i_il 4 (i_ias (i_dup (i_ic 3 (i_il 5 (i_ias (i_callV mc ms 6 2 T_Wsh_isMetBy co_Wsh_isMetBy (i_ifeq (B_WR_fits_47 mc ms Rt g) (i_ic 1 (B_WR_fits_48 mc ms Rt g)))))))))))))))))))))))
set_option maxRecDepth 20000 in
theorem s_WR_fits_14 {X : zMa} {mc ms : Nat} {Rt : Option zAV → zMp → Prop} (hC : zCx X RX6 cX6_fits 4 85 mc ms (some .int) false Rt) (hN : zNL X = 7) : zLe (B_WR_fits_14 mc ms Rt (zG X)) (zG X 14) :=
  (sd_al hC dX6_fits_14 ((sd_iconst hC (by decide) dX6_fits_16 ((sd_newa hC (at0 := .int) rfl (by decide) ac_int dX6_fits_17 ((sd_dup hC dX6_fits_19 ((sd_iconst hC (by decide) dX6_fits_20 ((sd_il_n hC rfl dX6_fits_21 ((sd_ias hC dX6_fits_22 ((sd_dup hC dX6_fits_23 ((sd_iconst hC (by decide) dX6_fits_24 ((sd_il_n hC rfl dX6_fits_25 ((sd_ias hC dX6_fits_26 ((sd_dup hC dX6_fits_27 ((sd_iconst hC (by decide) dX6_fits_28 ((sd_il hC dX6_fits_29 ((sd_ias hC dX6_fits_31 ((sd_dup hC dX6_fits_32 ((sd_iconst hC (by decide) dX6_fits_33 ((sd_il hC dX6_fits_34 ((sd_ias hC dX6_fits_36 ((sd_cV hC c_Wsh_isMetBy yv_Wsh_isMetBy (ci := 6) rfl rfl ml_WR_177 (by decide) (by decide) dX6_fits_37 ((sd_ifeq hC (tgt := 47) (by decide) dX6_fits_40 (s_WR_fits_47 hC hN) ((sd_iconst hC (by decide) dX6_fits_43 ((sd_goto hC (tgt := 48) (by decide) dX6_fits_44 (s_WR_fits_48 hC hN))))))))))))))))))))))))))))))))))))))))))))))
def B_WR_fits_0 (mc ms : Nat) (Rt : Option zAV → zMp → Prop) (g : Nat → zKT) : zKT :=
  (i_al 0 (i_il 1 (i_callV mc ms 7 2 T_WR_findWish co_WR_findWish (i_as 6 (i_al 6 (i_ifn (i_ic (-1) (i_iret mc ms Rt)) (B_WR_fits_14 mc ms Rt g)))))))
set_option maxRecDepth 20000 in
theorem s_WR_fits_0 {X : zMa} {mc ms : Nat} {Rt : Option zAV → zMp → Prop} (hC : zCx X RX6 cX6_fits 4 85 mc ms (some .int) false Rt) (hN : zNL X = 7) : zLe (B_WR_fits_0 mc ms Rt (zG X)) (zG X 0) :=
  (sd_al_n hC rfl dX6_fits_0 ((sd_il_n hC rfl dX6_fits_1 ((sd_cV hC c_WR_findWish yv_WR_findWish (ci := 7) rfl rfl ml_WR_136 (by decide) (by decide) dX6_fits_2 ((sd_as hC (by rw [hN]; decide) dX6_fits_5 ((sd_al hC dX6_fits_7 ((sd_ifnonnull hC (tgt := 14) (by decide) dX6_fits_9 (s_WR_fits_14 hC hN) ((sd_iconst hC (by decide) dX6_fits_12 ((sd_iret hC dX6_fits_13)))))))))))))))
theorem c_WR_fits (l : Launch) : zCT l yX6_fits cX6_fits 7 (some .int) 4 85 T_WR_fits co_WR_fits := by
  intro As M Rt hT
  obtain ⟨x, k, a, b, c, d, rfl, rfl, hI, hR0, hR1⟩ := hT
  refine zMet_of false (by decide +kernel) (fun h => by first | rfl | cases h) (Nat.le_of_ble_eq_true rfl) (fun X hN hC => ?_)
  show zG X 0 [some (.inr (0, 0, 0)), some (.inl (.int k)), some (.inl (.int a)), some (.inl (.int b)), some (.inl (.int c)), some (.inl (.int d)), none] [] (pic x) 0 0
  refine s_WR_fits_0 hC hN _ _ _ _ _ ?_
  simp only [B_WR_fits_0, B_WR_fits_14, B_WR_fits_47, B_WR_fits_48, co_WR_findWish, co_WR_fits, co_Wsh_isMetBy, i_ic, i_lc, i_nul, i_il, i_ll, i_al, i_is, i_as, i_ls, i_inc, i_iadd, i_isub, i_imul, i_iand, i_ior, i_ixor, i_idiv, i_irem, i_ishl, i_ishr, i_ladd, i_lsub, i_land, i_lor, i_i2l, i_lushr, i_lshl, i_lshr, i_lcmp, i_dup, i_pop, i_dx1, i_dup2, i_ifeq, i_ifne, i_iflt, i_ifge, i_ifgt, i_ifle, i_iceq, i_icne, i_iclt, i_icge, i_icgt, i_icle, i_ifn, i_gf, i_pf, i_ial, i_bal, i_lal, i_aal, i_ias, i_las, i_bas, i_aas, i_alen, i_newa, i_new, i_anew, i_cast, i_oi, i_call, i_callV, i_callV2, i_callI, i_iret, i_zret, i_lret, i_vret, i_aret, i_mmx, i_mmn, i_gsE, i_aceq, i_no, i_acq, i_sw, zsw, zlg, zls, znl, zfg, zcs, zsp, zrc, zisn, zft, zc1, zto, Value.category, List.set_cons_zero, List.set_cons_succ, List.length_cons, List.length_nil, Option.toList, List.append, List.nil_append, List.cons_append, true_and, and_true, Nat.add_zero, Nat.zero_le, Nat.zero_add, Nat.le_refl, Nat.reduceAdd, Nat.reduceLeDiff, co0, z0, zn_0, zn_1, zn_2, zn_3, zn_4, zn_5, zn_8, zn_12, zn_24, zn_121, zn_144, zn_256, zn_300, zn_600, zn_720, zn_1204, zn_1280, zn_2400, zn_4816, zn_14400, zn_90000, p_main, x_main]
  refine ⟨x, k, rfl, rfl, hI, ?_⟩
  rcases fnd_c (K := 15) (n := x_nw x) (by have := hI.lim; omega) k with ⟨e, e2⟩ | ⟨w, hw, rfl, e, -⟩
  · rw [e]
    simp only [zov, i_ic, i_lc, i_nul, i_il, i_ll, i_al, i_is, i_as, i_ls, i_inc, i_iadd, i_isub, i_imul, i_iand, i_ior, i_ixor, i_idiv, i_irem, i_ishl, i_ishr, i_ladd, i_lsub, i_land, i_lor, i_i2l, i_lushr, i_lshl, i_lshr, i_lcmp, i_dup, i_pop, i_dx1, i_dup2, i_ifeq, i_ifne, i_iflt, i_ifge, i_ifgt, i_ifle, i_iceq, i_icne, i_iclt, i_icge, i_icgt, i_icle, i_ifn, i_gf, i_pf, i_ial, i_bal, i_lal, i_aal, i_ias, i_las, i_bas, i_aas, i_alen, i_newa, i_new, i_anew, i_cast, i_oi, i_call, i_callV, i_callV2, i_callI, i_iret, i_zret, i_lret, i_vret, i_aret, i_mmx, i_mmn, i_gsE, i_aceq, i_no, i_acq, i_sw, zsw, zlg, zls, znl, zfg, zcs, zsp, zrc, zisn, zft, zc1, zto, Value.category, List.set_cons_zero, List.set_cons_succ, List.length_cons, List.length_nil, Option.toList, List.append, List.nil_append, List.cons_append, true_and, and_true, Nat.add_zero, Nat.zero_le, Nat.zero_add, Nat.le_refl, Nat.reduceAdd, Nat.reduceLeDiff, co0, z0, zn_0, zn_1, zn_2, zn_3, zn_4, zn_5, zn_8, zn_12, zn_24, zn_121, zn_144, zn_256, zn_300, zn_600, zn_720, zn_1204, zn_1280, zn_2400, zn_4816, zn_14400, zn_90000]
    exact hR0 e2
  · rw [e]
    have hR := hR1 w hw rfl
    have hw' : w < x_ow x := Nat.lt_of_lt_of_le hw hI.cnt.2.1
    have hww := hI.wsh w hw'
    simp only [zov, i_ic, i_lc, i_nul, i_il, i_ll, i_al, i_is, i_as, i_ls, i_inc, i_iadd, i_isub, i_imul, i_iand, i_ior, i_ixor, i_idiv, i_irem, i_ishl, i_ishr, i_ladd, i_lsub, i_land, i_lor, i_i2l, i_lushr, i_lshl, i_lshr, i_lcmp, i_dup, i_pop, i_dx1, i_dup2, i_ifeq, i_ifne, i_iflt, i_ifge, i_ifgt, i_ifle, i_iceq, i_icne, i_iclt, i_icge, i_icgt, i_icle, i_ifn, i_gf, i_pf, i_ial, i_bal, i_lal, i_aal, i_ias, i_las, i_bas, i_aas, i_alen, i_newa, i_new, i_anew, i_cast, i_oi, i_call, i_callV, i_callV2, i_callI, i_iret, i_zret, i_lret, i_vret, i_aret, i_mmx, i_mmn, i_gsE, i_aceq, i_no, i_acq, i_sw, zsw, zlg, zls, znl, zfg, zcs, zsp, zrc, zisn, zft, zc1, zto, Value.category, List.set_cons_zero, List.set_cons_succ, List.length_cons, List.length_nil, Option.toList, List.append, List.nil_append, List.cons_append, true_and, and_true, Nat.add_zero, Nat.zero_le, Nat.zero_add, Nat.le_refl, Nat.reduceAdd, Nat.reduceLeDiff, co0, z0, zn_0, zn_1, zn_2, zn_3, zn_4, zn_5, zn_8, zn_12, zn_24, zn_121, zn_144, zn_256, zn_300, zn_600, zn_720, zn_1204, zn_1280, zn_2400, zn_4816, zn_14400, zn_90000]
    refine ⟨(14, x_tn x, 0), tf_free x, m_k (by decide), by decide, ?_⟩
    have i0 : vp_in 0 4 := by unfold vp_in; decide
    have i1 : vp_in 1 4 := by unfold vp_in; decide
    have i2 : vp_in 2 4 := by unfold vp_in; decide
    have i3 : vp_in 3 4 := by unfold vp_in; decide
    simp only [zup_s, zup_zup, i_ic, i_lc, i_nul, i_il, i_ll, i_al, i_is, i_as, i_ls, i_inc, i_iadd, i_isub, i_imul, i_iand, i_ior, i_ixor, i_idiv, i_irem, i_ishl, i_ishr, i_ladd, i_lsub, i_land, i_lor, i_i2l, i_lushr, i_lshl, i_lshr, i_lcmp, i_dup, i_pop, i_dx1, i_dup2, i_ifeq, i_ifne, i_iflt, i_ifge, i_ifgt, i_ifle, i_iceq, i_icne, i_iclt, i_icge, i_icgt, i_icle, i_ifn, i_gf, i_pf, i_ial, i_bal, i_lal, i_aal, i_ias, i_las, i_bas, i_aas, i_alen, i_newa, i_new, i_anew, i_cast, i_oi, i_call, i_callV, i_callV2, i_callI, i_iret, i_zret, i_lret, i_vret, i_aret, i_mmx, i_mmn, i_gsE, i_aceq, i_no, i_acq, i_sw, zsw, zlg, zls, znl, zfg, zcs, zsp, zrc, zisn, zft, zc1, zto, Value.category, List.set_cons_zero, List.set_cons_succ, List.length_cons, List.length_nil, Option.toList, List.append, List.nil_append, List.cons_append, true_and, and_true, Nat.add_zero, Nat.zero_le, Nat.zero_add, Nat.le_refl, Nat.reduceAdd, Nat.reduceLeDiff, co0, z0, zn_0, zn_1, zn_2, zn_3, zn_4, zn_5, zn_8, zn_12, zn_24, zn_121, zn_144, zn_256, zn_300, zn_600, zn_720, zn_1204, zn_1280, zn_2400, zn_4816, zn_14400, zn_90000]
    refine ⟨m_k (by decide), i0, m_k (by decide), i1, m_k (by decide), i2, m_k (by decide), i3, ?_⟩
    have e3 := pu_tf x (zf4 a b c d)
    unfold zf4 at e3
    have hw2 : w < x_ow (ft_x x (zf4 a b c d)) := hw'
    unfold zf4 at hw2
    rw [e3]
    simp only [zov, p_wsh hw2, x_wsh, i_ic, i_lc, i_nul, i_il, i_ll, i_al, i_is, i_as, i_ls, i_inc, i_iadd, i_isub, i_imul, i_iand, i_ior, i_ixor, i_idiv, i_irem, i_ishl, i_ishr, i_ladd, i_lsub, i_land, i_lor, i_i2l, i_lushr, i_lshl, i_lshr, i_lcmp, i_dup, i_pop, i_dx1, i_dup2, i_ifeq, i_ifne, i_iflt, i_ifge, i_ifgt, i_ifle, i_iceq, i_icne, i_iclt, i_icge, i_icgt, i_icle, i_ifn, i_gf, i_pf, i_ial, i_bal, i_lal, i_aal, i_ias, i_las, i_bas, i_aas, i_alen, i_newa, i_new, i_anew, i_cast, i_oi, i_call, i_callV, i_callV2, i_callI, i_iret, i_zret, i_lret, i_vret, i_aret, i_mmx, i_mmn, i_gsE, i_aceq, i_no, i_acq, i_sw, zsw, zlg, zls, znl, zfg, zcs, zsp, zrc, zisn, zft, zc1, zto, Value.category, List.set_cons_zero, List.set_cons_succ, List.length_cons, List.length_nil, Option.toList, List.append, List.nil_append, List.cons_append, true_and, and_true, Nat.add_zero, Nat.zero_le, Nat.zero_add, Nat.le_refl, Nat.reduceAdd, Nat.reduceLeDiff, co0, z0, zn_0, zn_1, zn_2, zn_3, zn_4, zn_5, zn_8, zn_12, zn_24, zn_121, zn_144, zn_256, zn_300, zn_600, zn_720, zn_1204, zn_1280, zn_2400, zn_4816, zn_14400, zn_90000]
    refine ⟨ft_x x (zf4 a b c d), w, (14, x_tn x, 0), zf4 a b c d, rfl, rfl, ⟨hw', hww.2.2⟩, ?_, ?_⟩
    · rw [← pu_tf, zup_s]
    · have em : ws_met (ft_x x (zf4 a b c d)) w (zf4 a b c d) = ws_met x w (zf4 a b c d) := rfl
      rw [em]
      cases hm : ws_met x w (zf4 a b c d) with
      | true =>
        rw [hm] at hR
        exact ⟨fun h => absurd h (by decide), fun _ => hR⟩
      | false =>
        rw [hm] at hR
        exact ⟨fun _ => hR, fun h => absurd rfl h⟩
/-! weigh -/
noncomputable def wg_s (y : zSt) (m n w : Nat) : zSt := if ws_takes y w m = true then u_ob y (va_up (x_ob y) m (rw_add (x_ob y m) w)) else if ws_takes y m w = true then u_ob y (va_up (x_ob y) w (rw_add (x_ob y w) n)) else y
noncomputable def wg (x : zSt) (m n : Nat) : Nat → zSt
  | 0 => x
  | w + 1 => wg_s (wg x m n w) m n w
theorem Iv_ob {x : zSt} {f : Nat → Nat → Int64} (h : Iv x) : Iv (u_ob x f) := h
theorem Iv_wgs {y : zSt} {m n w : Nat} (h : Iv y) : Iv (wg_s y m n w) := by
  unfold wg_s
  split
  · exact Iv_ob h
  · split
    · exact Iv_ob h
    · exact h
theorem Iv_wg {x : zSt} {m n : Nat} (h : Iv x) : ∀ w, Iv (wg x m n w)
  | 0 => h
  | w + 1 => Iv_wgs (Iv_wg h w)
theorem wg_k (x : zSt) (m n : Nat) : ∀ w, ∃ f, wg x m n w = u_ob x f
  | 0 => ⟨x_ob x, rfl⟩
  | w + 1 => by
    obtain ⟨f, e⟩ := wg_k x m n w
    simp only [wg, wg_s]
    rw [e]
    split
    · exact ⟨_, rfl⟩
    · split
      · exact ⟨_, rfl⟩
      · exact ⟨f, rfl⟩
def T_WR_weigh (As : List zAV) (M : zMp) (Rt : Option zAV → zMp → Prop) : Prop := ∃ x m n, As = [.inr (0, 0, 0), .inr (15, m, 0), .inl (.int (nI n))] ∧ M = pic x ∧ Iv x ∧ m < x_ow x ∧ n < 300 ∧ Rt none (pic (wg x m n (x_nw x)))
abbrev co_WR_weigh := co0
theorem dX6_weigh_0 : decode cX6_weigh 0 = .ok (.iconst 0, 1) := by decide +kernel
theorem dX6_weigh_1 : decode cX6_weigh 1 = .ok (.istore_n 3, 1) := by decide +kernel
theorem dX6_weigh_2 : decode cX6_weigh 2 = .ok (.iload_n 3, 1) := by decide +kernel
theorem dX6_weigh_3 : decode cX6_weigh 3 = .ok (.aload_n 0, 1) := by decide +kernel
theorem dX6_weigh_4 : decode cX6_weigh 4 = .ok (.getfield 16, 3) := by decide +kernel
theorem dX6_weigh_7 : decode cX6_weigh 7 = .ok (.invokevirtual 96, 3) := by decide +kernel
theorem dX6_weigh_10 : decode cX6_weigh 10 = .ok (.if_icmp .ge 60, 3) := by decide +kernel
theorem dX6_weigh_13 : decode cX6_weigh 13 = .ok (.aload_n 0, 1) := by decide +kernel
theorem dX6_weigh_14 : decode cX6_weigh 14 = .ok (.getfield 16, 3) := by decide +kernel
theorem dX6_weigh_17 : decode cX6_weigh 17 = .ok (.iload_n 3, 1) := by decide +kernel
theorem dX6_weigh_18 : decode cX6_weigh 18 = .ok (.invokevirtual 227, 3) := by decide +kernel
theorem dX6_weigh_21 : decode cX6_weigh 21 = .ok (.checkcast 127, 3) := by decide +kernel
theorem dX6_weigh_24 : decode cX6_weigh 24 = .ok (.astore 4, 2) := by decide +kernel
theorem dX6_weigh_26 : decode cX6_weigh 26 = .ok (.aload 4, 2) := by decide +kernel
theorem dX6_weigh_28 : decode cX6_weigh 28 = .ok (.aload_n 1, 1) := by decide +kernel
theorem dX6_weigh_29 : decode cX6_weigh 29 = .ok (.invokevirtual 173, 3) := by decide +kernel
theorem dX6_weigh_32 : decode cX6_weigh 32 = .ok (.ifCond .eq 14, 3) := by decide +kernel
theorem dX6_weigh_35 : decode cX6_weigh 35 = .ok (.aload_n 1, 1) := by decide +kernel
theorem dX6_weigh_36 : decode cX6_weigh 36 = .ok (.getfield 238, 3) := by decide +kernel
theorem dX6_weigh_39 : decode cX6_weigh 39 = .ok (.iload_n 3, 1) := by decide +kernel
theorem dX6_weigh_40 : decode cX6_weigh 40 = .ok (.invokevirtual 241, 3) := by decide +kernel
theorem dX6_weigh_43 : decode cX6_weigh 43 = .ok (.goto 21, 3) := by decide +kernel
theorem dX6_weigh_46 : decode cX6_weigh 46 = .ok (.aload_n 1, 1) := by decide +kernel
theorem dX6_weigh_47 : decode cX6_weigh 47 = .ok (.aload 4, 2) := by decide +kernel
theorem dX6_weigh_49 : decode cX6_weigh 49 = .ok (.invokevirtual 173, 3) := by decide +kernel
theorem dX6_weigh_52 : decode cX6_weigh 52 = .ok (.ifCond .eq 12, 3) := by decide +kernel
theorem dX6_weigh_55 : decode cX6_weigh 55 = .ok (.aload 4, 2) := by decide +kernel
theorem dX6_weigh_57 : decode cX6_weigh 57 = .ok (.getfield 238, 3) := by decide +kernel
theorem dX6_weigh_60 : decode cX6_weigh 60 = .ok (.iload_n 2, 1) := by decide +kernel
theorem dX6_weigh_61 : decode cX6_weigh 61 = .ok (.invokevirtual 241, 3) := by decide +kernel
theorem dX6_weigh_64 : decode cX6_weigh 64 = .ok (.iinc 3 1, 3) := by decide +kernel
theorem dX6_weigh_67 : decode cX6_weigh 67 = .ok (.goto (-65), 3) := by decide +kernel
theorem dX6_weigh_70 : decode cX6_weigh 70 = .ok (.return_, 1) := by decide +kernel
def B_WR_weigh_70 (mc ms : Nat) (Rt : Option zAV → zMp → Prop) (g : Nat → zKT) : zKT :=
  (i_vret mc ms Rt)
set_option maxRecDepth 20000 in
theorem s_WR_weigh_70 {X : zMa} {mc ms : Nat} {Rt : Option zAV → zMp → Prop} (hC : zCx X RX6 cX6_weigh 5 113 mc ms (none) false Rt) (hN : zNL X = 5) : zLe (B_WR_weigh_70 mc ms Rt (zG X)) (zG X 70) :=
  (sd_vret hC dX6_weigh_70)
def B_WR_weigh_64 (mc ms : Nat) (Rt : Option zAV → zMp → Prop) (g : Nat → zKT) : zKT :=
  (i_inc 3 1 (g 2))
set_option maxRecDepth 20000 in
theorem s_WR_weigh_64 {X : zMa} {mc ms : Nat} {Rt : Option zAV → zMp → Prop} (hC : zCx X RX6 cX6_weigh 5 113 mc ms (none) false Rt) (hN : zNL X = 5) : zLe (B_WR_weigh_64 mc ms Rt (zG X)) (zG X 64) :=
  (sd_inc hC (by decide) (by rw [hN]; decide) dX6_weigh_64 ((sd_goto hC (tgt := 2) (by decide) dX6_weigh_67 (zLe_rfl))))
def B_WR_weigh_46 (mc ms : Nat) (Rt : Option zAV → zMp → Prop) (g : Nat → zKT) : zKT :=
  (i_al 1 (i_al 4 (i_callV mc ms 6 2 T_Wsh_takesIn co_Wsh_takesIn (i_ifeq (B_WR_weigh_64 mc ms Rt g) (i_al 4 (i_gf 6 3 (i_il 2 (i_callV mc ms 5 2 T_Row_add co_Row_add (B_WR_weigh_64 mc ms Rt g)))))))))
set_option maxRecDepth 20000 in
theorem s_WR_weigh_46 {X : zMa} {mc ms : Nat} {Rt : Option zAV → zMp → Prop} (hC : zCx X RX6 cX6_weigh 5 113 mc ms (none) false Rt) (hN : zNL X = 5) : zLe (B_WR_weigh_46 mc ms Rt (zG X)) (zG X 46) :=
  (sd_al_n hC rfl dX6_weigh_46 ((sd_al hC dX6_weigh_47 ((sd_cV hC c_Wsh_takesIn yv_Wsh_takesIn (ci := 6) rfl rfl ml_WR_173 (by decide) (by decide) dX6_weigh_49 ((sd_ifeq hC (tgt := 64) (by decide) dX6_weigh_52 (s_WR_weigh_64 hC hN) ((sd_al hC dX6_weigh_55 ((sd_gf hC (ci := 6) (fk := 3) rfl wi_Wsh (by decide) fl_WR_238 (Or.inl rfl) dX6_weigh_57 ((sd_il_n hC rfl dX6_weigh_60 ((sd_cV hC c_Row_add yv_Row_add (ci := 5) rfl rfl ml_WR_241 (by decide) (by decide) dX6_weigh_61 (s_WR_weigh_64 hC hN))))))))))))))))
def B_WR_weigh_2 (mc ms : Nat) (Rt : Option zAV → zMp → Prop) (g : Nat → zKT) : zKT :=
  (i_il 3 (i_al 0 (i_gf 7 1 (i_callV mc ms 0 1 T_AL_size co_AL_size (i_icge (B_WR_weigh_70 mc ms Rt g) (i_al 0 (i_gf 7 1 (i_il 3 (i_callV mc ms 0 2 T_AL_get co_AL_get (i_cast "WishRoutes$Wish" (i_as 4 (i_al 4 (i_al 1 (i_callV mc ms 6 2 T_Wsh_takesIn co_Wsh_takesIn (i_ifeq (B_WR_weigh_46 mc ms Rt g) (i_al 1 (i_gf 6 3 (i_il 3 (i_callV mc ms 5 2 T_Row_add co_Row_add (B_WR_weigh_64 mc ms Rt g))))))))))))))))))))
set_option maxRecDepth 20000 in
theorem s_WR_weigh_2 {X : zMa} {mc ms : Nat} {Rt : Option zAV → zMp → Prop} (hC : zCx X RX6 cX6_weigh 5 113 mc ms (none) false Rt) (hN : zNL X = 5) : zLe (B_WR_weigh_2 mc ms Rt (zG X)) (zG X 2) :=
  (sd_il_n hC rfl dX6_weigh_2 ((sd_al_n hC rfl dX6_weigh_3 ((sd_gf hC (ci := 7) (fk := 1) rfl wi_WR (by decide) fl_WR_16 (Or.inl rfl) dX6_weigh_4 ((sd_cV hC c_AL_size yv_AL_size (ci := 0) rfl rfl ml_WR_96 (by decide) (by decide) dX6_weigh_7 ((sd_icge hC (tgt := 70) (by decide) dX6_weigh_10 (s_WR_weigh_70 hC hN) ((sd_al_n hC rfl dX6_weigh_13 ((sd_gf hC (ci := 7) (fk := 1) rfl wi_WR (by decide) fl_WR_16 (Or.inl rfl) dX6_weigh_14 ((sd_il_n hC rfl dX6_weigh_17 ((sd_cV hC c_AL_get yv_AL_get (ci := 0) rfl rfl ml_WR_227 (by decide) (by decide) dX6_weigh_18 ((sd_cast hC cl_WR_127 dX6_weigh_21 ((sd_as hC (by rw [hN]; decide) dX6_weigh_24 ((sd_al hC dX6_weigh_26 ((sd_al_n hC rfl dX6_weigh_28 ((sd_cV hC c_Wsh_takesIn yv_Wsh_takesIn (ci := 6) rfl rfl ml_WR_173 (by decide) (by decide) dX6_weigh_29 ((sd_ifeq hC (tgt := 46) (by decide) dX6_weigh_32 (s_WR_weigh_46 hC hN) ((sd_al_n hC rfl dX6_weigh_35 ((sd_gf hC (ci := 6) (fk := 3) rfl wi_Wsh (by decide) fl_WR_238 (Or.inl rfl) dX6_weigh_36 ((sd_il_n hC rfl dX6_weigh_39 ((sd_cV hC c_Row_add yv_Row_add (ci := 5) rfl rfl ml_WR_241 (by decide) (by decide) dX6_weigh_40 ((sd_goto hC (tgt := 64) (by decide) dX6_weigh_43 (s_WR_weigh_64 hC hN))))))))))))))))))))))))))))))))))))))))
def B_WR_weigh_0 (mc ms : Nat) (Rt : Option zAV → zMp → Prop) (g : Nat → zKT) : zKT :=
  (i_ic 0 (i_is 3 (g 2)))
set_option maxRecDepth 20000 in
theorem s_WR_weigh_0 {X : zMa} {mc ms : Nat} {Rt : Option zAV → zMp → Prop} (hC : zCx X RX6 cX6_weigh 5 113 mc ms (none) false Rt) (hN : zNL X = 5) : zLe (B_WR_weigh_0 mc ms Rt (zG X)) (zG X 0) :=
  (sd_iconst hC (by decide) dX6_weigh_0 ((sd_is_n hC rfl (by rw [hN]; decide) dX6_weigh_1 (zLe_rfl))))
theorem c_WR_weigh (l : Launch) : zCT l yX6_weigh cX6_weigh 5 (none) 5 113 T_WR_weigh co_WR_weigh := by
  intro As M Rt hT
  obtain ⟨x, m, n, rfl, rfl, hI, hm, hn, hR⟩ := hT
  have hlim := hI.lim
  refine zMet_of false (by decide +kernel) (fun h => by first | rfl | cases h) (Nat.le_of_ble_eq_true rfl) (fun X hN hC => ?_)
  show zG X 0 [some (.inr (0, 0, 0)), some (.inr (15, m, 0)), some (.inl (.int (nI n))), none, none] [] (pic x) 0 0
  have loop := upto (N := x_nw x) (P := fun w => ∀ j4 : Option zAV, zG X 2 [some (.inr (0, 0, 0)), some (.inr (15, m, 0)), some (.inl (.int (nI n))), some (.inl (.int (nI w))), j4] [] (pic (wg x m n w)) 0 0) (fun w hw ih j4 => by
    have hIy := Iv_wg (m := m) (n := n) hI w
    obtain ⟨fo, hfo⟩ := wg_k x m n w
    simp only [wg] at ih
    have hnw : x_nw (wg x m n w) = x_nw x := by rw [hfo]; rfl
    have how : x_ow (wg x m n w) = x_ow x := by rw [hfo]; rfl
    clear hfo
    generalize wg x m n w = y at ih hIy hnw how
    have hmy : m < x_ow y := by rw [how]; exact hm
    have hcap := hIy.cap 1 (by decide)
    have hsz : x_sz y 1 = x_nw x := hnw
    rw [hsz] at hcap
    refine s_WR_weigh_2 hC hN _ _ _ _ _ ?_
    simp only [B_WR_weigh_0, B_WR_weigh_2, B_WR_weigh_46, B_WR_weigh_64, B_WR_weigh_70, co_AL_get, co_AL_size, co_Row_add, co_WR_weigh, co_Wsh_takesIn, i_ic, i_lc, i_nul, i_il, i_ll, i_al, i_is, i_as, i_ls, i_inc, i_iadd, i_isub, i_imul, i_iand, i_ior, i_ixor, i_idiv, i_irem, i_ishl, i_ishr, i_ladd, i_lsub, i_land, i_lor, i_i2l, i_lushr, i_lshl, i_lshr, i_lcmp, i_dup, i_pop, i_dx1, i_dup2, i_ifeq, i_ifne, i_iflt, i_ifge, i_ifgt, i_ifle, i_iceq, i_icne, i_iclt, i_icge, i_icgt, i_icle, i_ifn, i_gf, i_pf, i_ial, i_bal, i_lal, i_aal, i_ias, i_las, i_bas, i_aas, i_alen, i_newa, i_new, i_anew, i_cast, i_oi, i_call, i_callV, i_callV2, i_callI, i_iret, i_zret, i_lret, i_vret, i_aret, i_mmx, i_mmn, i_gsE, i_aceq, i_no, i_acq, i_sw, zsw, zlg, zls, znl, zfg, zcs, zsp, zrc, zisn, zft, zc1, zto, Value.category, List.set_cons_zero, List.set_cons_succ, List.length_cons, List.length_nil, Option.toList, List.append, List.nil_append, List.cons_append, true_and, and_true, Nat.add_zero, Nat.zero_le, Nat.zero_add, Nat.le_refl, Nat.reduceAdd, Nat.reduceLeDiff, co0, z0, zn_0, zn_1, zn_2, zn_3, zn_4, zn_5, zn_8, zn_12, zn_24, zn_121, zn_144, zn_256, zn_300, zn_600, zn_720, zn_1204, zn_1280, zn_2400, zn_4816, zn_14400, zn_90000, p_main, x_main, p_list (i := 1) (by decide)]
    refine ⟨(1, 1, 0), _, _, _, rfl, p_list (by decide), ?_⟩
    rw [hsz]
    simp only [p_main, x_main, p_list (i := 1) (by decide), i_ic, i_lc, i_nul, i_il, i_ll, i_al, i_is, i_as, i_ls, i_inc, i_iadd, i_isub, i_imul, i_iand, i_ior, i_ixor, i_idiv, i_irem, i_ishl, i_ishr, i_ladd, i_lsub, i_land, i_lor, i_i2l, i_lushr, i_lshl, i_lshr, i_lcmp, i_dup, i_pop, i_dx1, i_dup2, i_ifeq, i_ifne, i_iflt, i_ifge, i_ifgt, i_ifle, i_iceq, i_icne, i_iclt, i_icge, i_icgt, i_icle, i_ifn, i_gf, i_pf, i_ial, i_bal, i_lal, i_aal, i_ias, i_las, i_bas, i_aas, i_alen, i_newa, i_new, i_anew, i_cast, i_oi, i_call, i_callV, i_callV2, i_callI, i_iret, i_zret, i_lret, i_vret, i_aret, i_mmx, i_mmn, i_gsE, i_aceq, i_no, i_acq, i_sw, zsw, zlg, zls, znl, zfg, zcs, zsp, zrc, zisn, zft, zc1, zto, Value.category, List.set_cons_zero, List.set_cons_succ, List.length_cons, List.length_nil, Option.toList, List.append, List.nil_append, List.cons_append, true_and, and_true, Nat.add_zero, Nat.zero_le, Nat.zero_add, Nat.le_refl, Nat.reduceAdd, Nat.reduceLeDiff, co0, z0, zn_0, zn_1, zn_2, zn_3, zn_4, zn_5, zn_8, zn_12, zn_24, zn_121, zn_144, zn_256, zn_300, zn_600, zn_720, zn_1204, zn_1280, zn_2400, zn_4816, zn_14400, zn_90000]
    refine ⟨fun h => absurd ((zK (K := x_nw x) (by omega) (n := w) (by omega)).2.1.mp h) (by omega), fun _ => ⟨(1, 1, 0), _, _, _, _, _, w, rfl, p_list (by decide), p_dat (by decide) (by omega), by rw [hsz]; exact hw, by rw [hsz]; exact hcap.1, by omega, ?_⟩⟩
    have ek : x_el y 1 w = some (15, w, 0) := if_pos (show w < x_nw y by rw [hnw]; exact hw)
    have hkk : w < x_ow y := Nat.lt_of_lt_of_le (show w < x_nw y by rw [hnw]; exact hw) hIy.cnt.2.1
    have hww := hIy.wsh w hkk
    have hmm := hIy.wsh m hmy
    rw [ek]
    simp only [zov, zok, p_wsh hkk, x_wsh, i_ic, i_lc, i_nul, i_il, i_ll, i_al, i_is, i_as, i_ls, i_inc, i_iadd, i_isub, i_imul, i_iand, i_ior, i_ixor, i_idiv, i_irem, i_ishl, i_ishr, i_ladd, i_lsub, i_land, i_lor, i_i2l, i_lushr, i_lshl, i_lshr, i_lcmp, i_dup, i_pop, i_dx1, i_dup2, i_ifeq, i_ifne, i_iflt, i_ifge, i_ifgt, i_ifle, i_iceq, i_icne, i_iclt, i_icge, i_icgt, i_icle, i_ifn, i_gf, i_pf, i_ial, i_bal, i_lal, i_aal, i_ias, i_las, i_bas, i_aas, i_alen, i_newa, i_new, i_anew, i_cast, i_oi, i_call, i_callV, i_callV2, i_callI, i_iret, i_zret, i_lret, i_vret, i_aret, i_mmx, i_mmn, i_gsE, i_aceq, i_no, i_acq, i_sw, zsw, zlg, zls, znl, zfg, zcs, zsp, zrc, zisn, zft, zc1, zto, Value.category, List.set_cons_zero, List.set_cons_succ, List.length_cons, List.length_nil, Option.toList, List.append, List.nil_append, List.cons_append, true_and, and_true, Nat.add_zero, Nat.zero_le, Nat.zero_add, Nat.le_refl, Nat.reduceAdd, Nat.reduceLeDiff, co0, z0, zn_0, zn_1, zn_2, zn_3, zn_4, zn_5, zn_8, zn_12, zn_24, zn_121, zn_144, zn_256, zn_300, zn_600, zn_720, zn_1204, zn_1280, zn_2400, zn_4816, zn_14400, zn_90000]
    rw [nI_1 w]
    unfold wg_s at ih
    refine ⟨zk_Wsh_Wsh, y, w, m, rfl, rfl, ⟨hkk, hww.2.2⟩, ⟨hmy, hmm.2.2⟩, ?_⟩
    simp only [zov, p_wsh hkk, p_wsh hmy, x_wsh, p_rowO (r_ob hmy), i_ic, i_lc, i_nul, i_il, i_ll, i_al, i_is, i_as, i_ls, i_inc, i_iadd, i_isub, i_imul, i_iand, i_ior, i_ixor, i_idiv, i_irem, i_ishl, i_ishr, i_ladd, i_lsub, i_land, i_lor, i_i2l, i_lushr, i_lshl, i_lshr, i_lcmp, i_dup, i_pop, i_dx1, i_dup2, i_ifeq, i_ifne, i_iflt, i_ifge, i_ifgt, i_ifle, i_iceq, i_icne, i_iclt, i_icge, i_icgt, i_icle, i_ifn, i_gf, i_pf, i_ial, i_bal, i_lal, i_aal, i_ias, i_las, i_bas, i_aas, i_alen, i_newa, i_new, i_anew, i_cast, i_oi, i_call, i_callV, i_callV2, i_callI, i_iret, i_zret, i_lret, i_vret, i_aret, i_mmx, i_mmn, i_gsE, i_aceq, i_no, i_acq, i_sw, zsw, zlg, zls, znl, zfg, zcs, zsp, zrc, zisn, zft, zc1, zto, Value.category, List.set_cons_zero, List.set_cons_succ, List.length_cons, List.length_nil, Option.toList, List.append, List.nil_append, List.cons_append, true_and, and_true, Nat.add_zero, Nat.zero_le, Nat.zero_add, Nat.le_refl, Nat.reduceAdd, Nat.reduceLeDiff, co0, z0, zn_0, zn_1, zn_2, zn_3, zn_4, zn_5, zn_8, zn_12, zn_24, zn_121, zn_144, zn_256, zn_300, zn_600, zn_720, zn_1204, zn_1280, zn_2400, zn_4816, zn_14400, zn_90000]
    refine ⟨fun h1 => ?_, fun h1 => ?_⟩
    · rw [if_neg (by rw [zb_0.mp h1]; decide)] at ih
      refine ⟨y, m, w, rfl, rfl, ⟨hmy, hmm.2.2⟩, ⟨hkk, hww.2.2⟩, ?_⟩
      simp only [zov, p_wsh hkk, p_wsh hmy, x_wsh, p_rowO (r_ob hkk), i_ic, i_lc, i_nul, i_il, i_ll, i_al, i_is, i_as, i_ls, i_inc, i_iadd, i_isub, i_imul, i_iand, i_ior, i_ixor, i_idiv, i_irem, i_ishl, i_ishr, i_ladd, i_lsub, i_land, i_lor, i_i2l, i_lushr, i_lshl, i_lshr, i_lcmp, i_dup, i_pop, i_dx1, i_dup2, i_ifeq, i_ifne, i_iflt, i_ifge, i_ifgt, i_ifle, i_iceq, i_icne, i_iclt, i_icge, i_icgt, i_icle, i_ifn, i_gf, i_pf, i_ial, i_bal, i_lal, i_aal, i_ias, i_las, i_bas, i_aas, i_alen, i_newa, i_new, i_anew, i_cast, i_oi, i_call, i_callV, i_callV2, i_callI, i_iret, i_zret, i_lret, i_vret, i_aret, i_mmx, i_mmn, i_gsE, i_aceq, i_no, i_acq, i_sw, zsw, zlg, zls, znl, zfg, zcs, zsp, zrc, zisn, zft, zc1, zto, Value.category, List.set_cons_zero, List.set_cons_succ, List.length_cons, List.length_nil, Option.toList, List.append, List.nil_append, List.cons_append, true_and, and_true, Nat.add_zero, Nat.zero_le, Nat.zero_add, Nat.le_refl, Nat.reduceAdd, Nat.reduceLeDiff, co0, z0, zn_0, zn_1, zn_2, zn_3, zn_4, zn_5, zn_8, zn_12, zn_24, zn_121, zn_144, zn_256, zn_300, zn_600, zn_720, zn_1204, zn_1280, zn_2400, zn_4816, zn_14400, zn_90000]
      refine ⟨fun h2 => ?_, fun h2 => ?_⟩
      · rw [if_neg (by rw [zb_0.mp h2]; decide)] at ih
        exact ih _
      · rw [if_pos (zb_n0 h2)] at ih
        refine ⟨(5, 1, w), (6, 1, w), _, n, rfl, hn, m_k (by decide), p_row (r_ob hkk), ?_⟩
        rw [pu_ob y w _ hkk]
        exact ih _
    · rw [if_pos (zb_n0 h1)] at ih
      refine ⟨(5, 1, m), (6, 1, m), _, w, rfl, by omega, m_k (by decide), p_row (r_ob hmy), ?_⟩
      rw [pu_ob y m _ hmy]
      exact ih _) (fun j4 => by
    obtain ⟨fo, hfo⟩ := wg_k x m n (x_nw x)
    have hnw : x_nw (wg x m n (x_nw x)) = x_nw x := by rw [hfo]; rfl
    clear hfo
    generalize wg x m n (x_nw x) = y at hR hnw
    have hsz : x_sz y 1 = x_nw x := hnw
    refine s_WR_weigh_2 hC hN _ _ _ _ _ ?_
    simp only [B_WR_weigh_0, B_WR_weigh_2, B_WR_weigh_46, B_WR_weigh_64, B_WR_weigh_70, co_AL_get, co_AL_size, co_Row_add, co_WR_weigh, co_Wsh_takesIn, i_ic, i_lc, i_nul, i_il, i_ll, i_al, i_is, i_as, i_ls, i_inc, i_iadd, i_isub, i_imul, i_iand, i_ior, i_ixor, i_idiv, i_irem, i_ishl, i_ishr, i_ladd, i_lsub, i_land, i_lor, i_i2l, i_lushr, i_lshl, i_lshr, i_lcmp, i_dup, i_pop, i_dx1, i_dup2, i_ifeq, i_ifne, i_iflt, i_ifge, i_ifgt, i_ifle, i_iceq, i_icne, i_iclt, i_icge, i_icgt, i_icle, i_ifn, i_gf, i_pf, i_ial, i_bal, i_lal, i_aal, i_ias, i_las, i_bas, i_aas, i_alen, i_newa, i_new, i_anew, i_cast, i_oi, i_call, i_callV, i_callV2, i_callI, i_iret, i_zret, i_lret, i_vret, i_aret, i_mmx, i_mmn, i_gsE, i_aceq, i_no, i_acq, i_sw, zsw, zlg, zls, znl, zfg, zcs, zsp, zrc, zisn, zft, zc1, zto, Value.category, List.set_cons_zero, List.set_cons_succ, List.length_cons, List.length_nil, Option.toList, List.append, List.nil_append, List.cons_append, true_and, and_true, Nat.add_zero, Nat.zero_le, Nat.zero_add, Nat.le_refl, Nat.reduceAdd, Nat.reduceLeDiff, co0, z0, zn_0, zn_1, zn_2, zn_3, zn_4, zn_5, zn_8, zn_12, zn_24, zn_121, zn_144, zn_256, zn_300, zn_600, zn_720, zn_1204, zn_1280, zn_2400, zn_4816, zn_14400, zn_90000, p_main, x_main, p_list (i := 1) (by decide)]
    refine ⟨(1, 1, 0), _, _, _, rfl, p_list (by decide), ?_⟩
    rw [hsz]
    exact ⟨fun _ => hR, fun h => absurd ((zK (K := x_nw x) (by omega) (n := x_nw x) (by omega)).2.1.mpr (Nat.le_refl _)) h⟩) 0 (Nat.zero_le _)
  refine s_WR_weigh_0 hC hN _ _ _ _ _ ?_
  simp only [B_WR_weigh_0, B_WR_weigh_2, B_WR_weigh_46, B_WR_weigh_64, B_WR_weigh_70, co_AL_get, co_AL_size, co_Row_add, co_WR_weigh, co_Wsh_takesIn, i_ic, i_lc, i_nul, i_il, i_ll, i_al, i_is, i_as, i_ls, i_inc, i_iadd, i_isub, i_imul, i_iand, i_ior, i_ixor, i_idiv, i_irem, i_ishl, i_ishr, i_ladd, i_lsub, i_land, i_lor, i_i2l, i_lushr, i_lshl, i_lshr, i_lcmp, i_dup, i_pop, i_dx1, i_dup2, i_ifeq, i_ifne, i_iflt, i_ifge, i_ifgt, i_ifle, i_iceq, i_icne, i_iclt, i_icge, i_icgt, i_icle, i_ifn, i_gf, i_pf, i_ial, i_bal, i_lal, i_aal, i_ias, i_las, i_bas, i_aas, i_alen, i_newa, i_new, i_anew, i_cast, i_oi, i_call, i_callV, i_callV2, i_callI, i_iret, i_zret, i_lret, i_vret, i_aret, i_mmx, i_mmn, i_gsE, i_aceq, i_no, i_acq, i_sw, zsw, zlg, zls, znl, zfg, zcs, zsp, zrc, zisn, zft, zc1, zto, Value.category, List.set_cons_zero, List.set_cons_succ, List.length_cons, List.length_nil, Option.toList, List.append, List.nil_append, List.cons_append, true_and, and_true, Nat.add_zero, Nat.zero_le, Nat.zero_add, Nat.le_refl, Nat.reduceAdd, Nat.reduceLeDiff, co0, z0, zn_0, zn_1, zn_2, zn_3, zn_4, zn_5, zn_8, zn_12, zn_24, zn_121, zn_144, zn_256, zn_300, zn_600, zn_720, zn_1204, zn_1280, zn_2400, zn_4816, zn_14400, zn_90000]
  exact loop _
