/-! the reference: wants, messagesOf, underWay, isNeeded -/
noncomputable def y_wants (y : zMS) (r k : Nat) : Bool := zd (∃ w, w < y_nw y ∧ y_al y w = true ∧ y_ro y w = r ∧ y_fit y w (y_f y k) = true)
def T_Mo_wants (As : List zAV) (M : zMp) (Rt : Option zAV → zMp → Prop) : Prop := ∃ y r k, As = [.inr (30, 0, 0), .inl (.int (nI r)), .inl (.int (nI k))] ∧ M = mp y ∧ Jv y ∧ r < 24 ∧ k < 600 ∧ Rt (some (.inl (.int (zb (y_wants y r k))))) M
abbrev co_Mo_wants := co0
theorem dX7_wants_0 : decode cX7_wants 0 = .ok (.iconst 0, 1) := by decide +kernel
theorem dX7_wants_1 : decode cX7_wants 1 = .ok (.istore_n 3, 1) := by decide +kernel
theorem dX7_wants_2 : decode cX7_wants 2 = .ok (.iload_n 3, 1) := by decide +kernel
theorem dX7_wants_3 : decode cX7_wants 3 = .ok (.aload_n 0, 1) := by decide +kernel
theorem dX7_wants_4 : decode cX7_wants 4 = .ok (.getfield 95, 3) := by decide +kernel
theorem dX7_wants_7 : decode cX7_wants 7 = .ok (.if_icmp .ge 39, 3) := by decide +kernel
theorem dX7_wants_10 : decode cX7_wants 10 = .ok (.aload_n 0, 1) := by decide +kernel
theorem dX7_wants_11 : decode cX7_wants 11 = .ok (.getfield 20, 3) := by decide +kernel
theorem dX7_wants_14 : decode cX7_wants 14 = .ok (.iload_n 3, 1) := by decide +kernel
theorem dX7_wants_15 : decode cX7_wants 15 = .ok (.baload, 1) := by decide +kernel
theorem dX7_wants_16 : decode cX7_wants 16 = .ok (.ifCond .eq 24, 3) := by decide +kernel
theorem dX7_wants_19 : decode cX7_wants 19 = .ok (.aload_n 0, 1) := by decide +kernel
theorem dX7_wants_20 : decode cX7_wants 20 = .ok (.getfield 17, 3) := by decide +kernel
theorem dX7_wants_23 : decode cX7_wants 23 = .ok (.iload_n 3, 1) := by decide +kernel
theorem dX7_wants_24 : decode cX7_wants 24 = .ok (.iaload, 1) := by decide +kernel
theorem dX7_wants_25 : decode cX7_wants 25 = .ok (.iload_n 1, 1) := by decide +kernel
theorem dX7_wants_26 : decode cX7_wants 26 = .ok (.if_icmp .ne 14, 3) := by decide +kernel
theorem dX7_wants_29 : decode cX7_wants 29 = .ok (.aload_n 0, 1) := by decide +kernel
theorem dX7_wants_30 : decode cX7_wants 30 = .ok (.iload_n 3, 1) := by decide +kernel
theorem dX7_wants_31 : decode cX7_wants 31 = .ok (.iload_n 2, 1) := by decide +kernel
theorem dX7_wants_32 : decode cX7_wants 32 = .ok (.invokevirtual 176, 3) := by decide +kernel
theorem dX7_wants_35 : decode cX7_wants 35 = .ok (.ifCond .eq 5, 3) := by decide +kernel
theorem dX7_wants_38 : decode cX7_wants 38 = .ok (.iconst 1, 1) := by decide +kernel
theorem dX7_wants_39 : decode cX7_wants 39 = .ok (.ireturn, 1) := by decide +kernel
theorem dX7_wants_40 : decode cX7_wants 40 = .ok (.iinc 3 1, 3) := by decide +kernel
theorem dX7_wants_43 : decode cX7_wants 43 = .ok (.goto (-41), 3) := by decide +kernel
theorem dX7_wants_46 : decode cX7_wants 46 = .ok (.iconst 0, 1) := by decide +kernel
theorem dX7_wants_47 : decode cX7_wants 47 = .ok (.ireturn, 1) := by decide +kernel
def B_Mo_wants_46 (mc ms : Nat) (Rt : Option zAV → zMp → Prop) (g : Nat → zKT) : zKT :=
  (i_ic 0 (i_zret mc ms Rt))
set_option maxRecDepth 20000 in
theorem s_Mo_wants_46 {X : zMa} {mc ms : Nat} {Rt : Option zAV → zMp → Prop} (hC : zCx X RX7 cX7_wants 3 72 mc ms (some .boolean) false Rt) (hN : zNL X = 4) : zLe (B_Mo_wants_46 mc ms Rt (zG X)) (zG X 46) :=
  (sd_iconst hC (by decide) dX7_wants_46 ((sd_zret hC dX7_wants_47)))
def B_Mo_wants_40 (mc ms : Nat) (Rt : Option zAV → zMp → Prop) (g : Nat → zKT) : zKT :=
  (i_inc 3 1 (g 2))
set_option maxRecDepth 20000 in
theorem s_Mo_wants_40 {X : zMa} {mc ms : Nat} {Rt : Option zAV → zMp → Prop} (hC : zCx X RX7 cX7_wants 3 72 mc ms (some .boolean) false Rt) (hN : zNL X = 4) : zLe (B_Mo_wants_40 mc ms Rt (zG X)) (zG X 40) :=
  (sd_inc hC (by decide) (by rw [hN]; decide) dX7_wants_40 ((sd_goto hC (tgt := 2) (by decide) dX7_wants_43 (zLe_rfl))))
def B_Mo_wants_2 (mc ms : Nat) (Rt : Option zAV → zMp → Prop) (g : Nat → zKT) : zKT :=
  (i_il 3 (i_al 0 (i_gf 8 2 (i_icge (B_Mo_wants_46 mc ms Rt g) (i_al 0 (i_gf 8 7 (i_il 3 (i_bal (i_ifeq (B_Mo_wants_40 mc ms Rt g) (i_al 0 (i_gf 8 6 (i_il 3 (i_ial (i_il 1 (i_icne (B_Mo_wants_40 mc ms Rt g) (i_al 0 (i_il 3 (i_il 2 (i_callV mc ms 8 3 T_Mo_isFit2 co_Mo_isFit2 (i_ifeq (B_Mo_wants_40 mc ms Rt g) (i_ic 1 (i_zret mc ms Rt))))))))))))))))))))))
set_option maxRecDepth 20000 in
theorem s_Mo_wants_2 {X : zMa} {mc ms : Nat} {Rt : Option zAV → zMp → Prop} (hC : zCx X RX7 cX7_wants 3 72 mc ms (some .boolean) false Rt) (hN : zNL X = 4) : zLe (B_Mo_wants_2 mc ms Rt (zG X)) (zG X 2) :=
  (sd_il_n hC rfl dX7_wants_2 ((sd_al_n hC rfl dX7_wants_3 ((sd_gf hC (ci := 8) (fk := 2) rfl wi_Mo (by decide) fl_Mo_95 (Or.inl rfl) dX7_wants_4 ((sd_icge hC (tgt := 46) (by decide) dX7_wants_7 (s_Mo_wants_46 hC hN) ((sd_al_n hC rfl dX7_wants_10 ((sd_gf hC (ci := 8) (fk := 7) rfl wi_Mo (by decide) fl_Mo_20 (Or.inl rfl) dX7_wants_11 ((sd_il_n hC rfl dX7_wants_14 ((sd_bal hC dX7_wants_15 ((sd_ifeq hC (tgt := 40) (by decide) dX7_wants_16 (s_Mo_wants_40 hC hN) ((sd_al_n hC rfl dX7_wants_19 ((sd_gf hC (ci := 8) (fk := 6) rfl wi_Mo (by decide) fl_Mo_17 (Or.inl rfl) dX7_wants_20 ((sd_il_n hC rfl dX7_wants_23 ((sd_ial hC dX7_wants_24 ((sd_il_n hC rfl dX7_wants_25 ((sd_icne hC (tgt := 40) (by decide) dX7_wants_26 (s_Mo_wants_40 hC hN) ((sd_al_n hC rfl dX7_wants_29 ((sd_il_n hC rfl dX7_wants_30 ((sd_il_n hC rfl dX7_wants_31 ((sd_cV hC c_Mo_isFit2 yv_Mo_isFit2 (ci := 8) rfl rfl ml_Mo_176 (by decide) (by decide) dX7_wants_32 ((sd_ifeq hC (tgt := 40) (by decide) dX7_wants_35 (s_Mo_wants_40 hC hN) ((sd_iconst hC (by decide) dX7_wants_38 ((sd_zret hC dX7_wants_39)))))))))))))))))))))))))))))))))))))))))))
def B_Mo_wants_0 (mc ms : Nat) (Rt : Option zAV → zMp → Prop) (g : Nat → zKT) : zKT :=
  (i_ic 0 (i_is 3 (g 2)))
set_option maxRecDepth 20000 in
theorem s_Mo_wants_0 {X : zMa} {mc ms : Nat} {Rt : Option zAV → zMp → Prop} (hC : zCx X RX7 cX7_wants 3 72 mc ms (some .boolean) false Rt) (hN : zNL X = 4) : zLe (B_Mo_wants_0 mc ms Rt (zG X)) (zG X 0) :=
  (sd_iconst hC (by decide) dX7_wants_0 ((sd_is_n hC rfl (by rw [hN]; decide) dX7_wants_1 (zLe_rfl))))
theorem c_Mo_wants (l : Launch) : zCT l yX7_wants cX7_wants 4 (some .boolean) 3 72 T_Mo_wants co_Mo_wants := by
  intro As M Rt hT
  obtain ⟨y, r, k, rfl, rfl, hJ, hr, hk, hR⟩ := hT
  have hlim := hJ.lim
  refine zMet_of false (by decide +kernel) (fun h => by first | rfl | cases h) (Nat.le_of_ble_eq_true rfl) (fun X hN hC => ?_)
  show zG X 0 [some (.inr (30, 0, 0)), some (.inl (.int (nI r))), some (.inl (.int (nI k))), none] [] (mp y) 0 0
  unfold y_wants at hR
  have loop := upto (N := y_nw y) (P := fun w => (∀ j, j < w → ¬ (y_al y j = true ∧ y_ro y j = r ∧ y_fit y j (y_f y k) = true)) → zG X 2 [some (.inr (30, 0, 0)), some (.inl (.int (nI r))), some (.inl (.int (nI k))), some (.inl (.int (nI w)))] [] (mp y) 0 0) (fun w hw ih hp => by
    have hro := hJ.ro w hw
    have next : ¬ (y_al y w = true ∧ y_ro y w = r ∧ y_fit y w (y_f y k) = true) → zG X 2 [some (.inr (30, 0, 0)), some (.inl (.int (nI r))), some (.inl (.int (nI k))), some (.inl (.int (nI (w + 1))))] [] (mp y) 0 0 := fun hn => ih (fun j hj => by
      by_cases e : j = w
      · rw [e]; exact hn
      · exact hp j (by omega))
    refine s_Mo_wants_2 hC hN _ _ _ _ _ ?_
    simp only [B_Mo_wants_0, B_Mo_wants_2, B_Mo_wants_40, B_Mo_wants_46, co_Mo_isFit2, co_Mo_wants, i_ic, i_lc, i_nul, i_il, i_ll, i_al, i_is, i_as, i_ls, i_inc, i_iadd, i_isub, i_imul, i_iand, i_ior, i_ixor, i_idiv, i_irem, i_ishl, i_ishr, i_ladd, i_lsub, i_land, i_lor, i_i2l, i_lushr, i_lshl, i_lshr, i_lcmp, i_dup, i_pop, i_dx1, i_dup2, i_ifeq, i_ifne, i_iflt, i_ifge, i_ifgt, i_ifle, i_iceq, i_icne, i_iclt, i_icge, i_icgt, i_icle, i_ifn, i_gf, i_pf, i_ial, i_bal, i_lal, i_aal, i_ias, i_las, i_bas, i_aas, i_alen, i_newa, i_new, i_anew, i_cast, i_oi, i_call, i_callV, i_callV2, i_callI, i_iret, i_zret, i_lret, i_vret, i_aret, i_mmx, i_mmn, i_gsE, i_aceq, i_no, i_acq, i_sw, zsw, zlg, zls, znl, zfg, zcs, zsp, zrc, zisn, zft, zc1, zto, Value.category, List.set_cons_zero, List.set_cons_succ, List.length_cons, List.length_nil, Option.toList, List.append, List.nil_append, List.cons_append, true_and, and_true, Nat.add_zero, Nat.zero_le, Nat.zero_add, Nat.le_refl, Nat.reduceAdd, Nat.reduceLeDiff, co0, z0, zn_0, zn_1, zn_2, zn_3, zn_4, zn_5, zn_8, zn_12, zn_24, zn_121, zn_144, zn_256, zn_300, zn_600, zn_720, zn_1204, zn_1280, zn_2400, zn_4816, zn_14400, zn_90000, q_main, m_main, q_al, q_ro, ar_4, ar_5, ar_12, ar_300, ar_600, ar_1200, ar_10, nI_add, ar_1, ar_2, ar_3, ar_2m]
    rw [nI_clamp (by omega)]
    refine ⟨fun h => absurd ((zK (K := y_nw y) (by omega) (n := w) (by omega)).2.1.mp h) (by omega), fun _ => ⟨vp_in_nI (by omega) (by decide), fun h1 => next (fun q => by rw [zb_0.mp h1] at q; cases q.1), fun h1 => ⟨vp_in_nI (by omega) (by decide), fun h2 => next (fun q => h2 (by rw [q.2.1])), fun h2 => ⟨y, w, k, rfl, rfl, by omega, hk, hJ, ?_⟩⟩⟩⟩
    simp only [B_Mo_wants_0, B_Mo_wants_2, B_Mo_wants_40, B_Mo_wants_46, co_Mo_isFit2, co_Mo_wants, i_ic, i_lc, i_nul, i_il, i_ll, i_al, i_is, i_as, i_ls, i_inc, i_iadd, i_isub, i_imul, i_iand, i_ior, i_ixor, i_idiv, i_irem, i_ishl, i_ishr, i_ladd, i_lsub, i_land, i_lor, i_i2l, i_lushr, i_lshl, i_lshr, i_lcmp, i_dup, i_pop, i_dx1, i_dup2, i_ifeq, i_ifne, i_iflt, i_ifge, i_ifgt, i_ifle, i_iceq, i_icne, i_iclt, i_icge, i_icgt, i_icle, i_ifn, i_gf, i_pf, i_ial, i_bal, i_lal, i_aal, i_ias, i_las, i_bas, i_aas, i_alen, i_newa, i_new, i_anew, i_cast, i_oi, i_call, i_callV, i_callV2, i_callI, i_iret, i_zret, i_lret, i_vret, i_aret, i_mmx, i_mmn, i_gsE, i_aceq, i_no, i_acq, i_sw, zsw, zlg, zls, znl, zfg, zcs, zsp, zrc, zisn, zft, zc1, zto, Value.category, List.set_cons_zero, List.set_cons_succ, List.length_cons, List.length_nil, Option.toList, List.append, List.nil_append, List.cons_append, true_and, and_true, Nat.add_zero, Nat.zero_le, Nat.zero_add, Nat.le_refl, Nat.reduceAdd, Nat.reduceLeDiff, co0, z0, zn_0, zn_1, zn_2, zn_3, zn_4, zn_5, zn_8, zn_12, zn_24, zn_121, zn_144, zn_256, zn_300, zn_600, zn_720, zn_1204, zn_1280, zn_2400, zn_4816, zn_14400, zn_90000, q_main, m_main, ar_4, ar_5, ar_12, ar_300, ar_600, ar_1200, ar_10, nI_add, ar_1, ar_2, ar_3, ar_2m]
    refine ⟨fun h3 => next (fun q => by rw [zb_0.mp h3] at q; cases q.2.2), fun h3 => ⟨by decide, ?_⟩⟩
    rw [zd_t ⟨w, hw, zb_n0 h1, (nI_eq (by omega) (by omega)).mp h2, zb_n0 h3⟩] at hR
    exact hR) (fun hp => by
    refine s_Mo_wants_2 hC hN _ _ _ _ _ ?_
    simp only [B_Mo_wants_0, B_Mo_wants_2, B_Mo_wants_40, B_Mo_wants_46, co_Mo_isFit2, co_Mo_wants, i_ic, i_lc, i_nul, i_il, i_ll, i_al, i_is, i_as, i_ls, i_inc, i_iadd, i_isub, i_imul, i_iand, i_ior, i_ixor, i_idiv, i_irem, i_ishl, i_ishr, i_ladd, i_lsub, i_land, i_lor, i_i2l, i_lushr, i_lshl, i_lshr, i_lcmp, i_dup, i_pop, i_dx1, i_dup2, i_ifeq, i_ifne, i_iflt, i_ifge, i_ifgt, i_ifle, i_iceq, i_icne, i_iclt, i_icge, i_icgt, i_icle, i_ifn, i_gf, i_pf, i_ial, i_bal, i_lal, i_aal, i_ias, i_las, i_bas, i_aas, i_alen, i_newa, i_new, i_anew, i_cast, i_oi, i_call, i_callV, i_callV2, i_callI, i_iret, i_zret, i_lret, i_vret, i_aret, i_mmx, i_mmn, i_gsE, i_aceq, i_no, i_acq, i_sw, zsw, zlg, zls, znl, zfg, zcs, zsp, zrc, zisn, zft, zc1, zto, Value.category, List.set_cons_zero, List.set_cons_succ, List.length_cons, List.length_nil, Option.toList, List.append, List.nil_append, List.cons_append, true_and, and_true, Nat.add_zero, Nat.zero_le, Nat.zero_add, Nat.le_refl, Nat.reduceAdd, Nat.reduceLeDiff, co0, z0, zn_0, zn_1, zn_2, zn_3, zn_4, zn_5, zn_8, zn_12, zn_24, zn_121, zn_144, zn_256, zn_300, zn_600, zn_720, zn_1204, zn_1280, zn_2400, zn_4816, zn_14400, zn_90000, q_main, m_main]
    rw [zd_f (fun ⟨w, hw, q⟩ => hp w hw q)] at hR
    exact ⟨fun _ => ⟨by decide, hR⟩, fun h => absurd ((zK (K := y_nw y) (by omega) (n := y_nw y) (by omega)).2.1.mpr (Nat.le_refl _)) h⟩) 0 (Nat.zero_le _)
  refine s_Mo_wants_0 hC hN _ _ _ _ _ ?_
  simp only [B_Mo_wants_0, B_Mo_wants_2, B_Mo_wants_40, B_Mo_wants_46, co_Mo_isFit2, co_Mo_wants, i_ic, i_lc, i_nul, i_il, i_ll, i_al, i_is, i_as, i_ls, i_inc, i_iadd, i_isub, i_imul, i_iand, i_ior, i_ixor, i_idiv, i_irem, i_ishl, i_ishr, i_ladd, i_lsub, i_land, i_lor, i_i2l, i_lushr, i_lshl, i_lshr, i_lcmp, i_dup, i_pop, i_dx1, i_dup2, i_ifeq, i_ifne, i_iflt, i_ifge, i_ifgt, i_ifle, i_iceq, i_icne, i_iclt, i_icge, i_icgt, i_icle, i_ifn, i_gf, i_pf, i_ial, i_bal, i_lal, i_aal, i_ias, i_las, i_bas, i_aas, i_alen, i_newa, i_new, i_anew, i_cast, i_oi, i_call, i_callV, i_callV2, i_callI, i_iret, i_zret, i_lret, i_vret, i_aret, i_mmx, i_mmn, i_gsE, i_aceq, i_no, i_acq, i_sw, zsw, zlg, zls, znl, zfg, zcs, zsp, zrc, zisn, zft, zc1, zto, Value.category, List.set_cons_zero, List.set_cons_succ, List.length_cons, List.length_nil, Option.toList, List.append, List.nil_append, List.cons_append, true_and, and_true, Nat.add_zero, Nat.zero_le, Nat.zero_add, Nat.le_refl, Nat.reduceAdd, Nat.reduceLeDiff, co0, z0, zn_0, zn_1, zn_2, zn_3, zn_4, zn_5, zn_8, zn_12, zn_24, zn_121, zn_144, zn_256, zn_300, zn_600, zn_720, zn_1204, zn_1280, zn_2400, zn_4816, zn_14400, zn_90000]
  exact loop (fun j hj => absurd hj (Nat.not_lt_zero j))
/-- how many of the first n messages are notice k -/
def y_mo (y : zMS) (k : Int32) : Nat → Nat
  | 0 => 0
  | n + 1 => y_mo y k n + (if y_wh y n = k then 1 else 0)
theorem y_mo_le (y : zMS) (k : Int32) : ∀ n, y_mo y k n ≤ n
  | 0 => Nat.le_refl _
  | n + 1 => by
    have := y_mo_le y k n
    simp only [y_mo]
    split <;> omega
def T_Mo_messagesOf (As : List zAV) (M : zMp) (Rt : Option zAV → zMp → Prop) : Prop := ∃ y k, As = [.inr (30, 0, 0), .inl (.int k)] ∧ M = mp y ∧ Jv y ∧ Rt (some (.inl (.int (nI (y_mo y k (y_ms y)))))) M
abbrev co_Mo_messagesOf := co0
theorem dX7_messagesOf_0 : decode cX7_messagesOf 0 = .ok (.iconst 0, 1) := by decide +kernel
theorem dX7_messagesOf_1 : decode cX7_messagesOf 1 = .ok (.istore_n 2, 1) := by decide +kernel
theorem dX7_messagesOf_2 : decode cX7_messagesOf 2 = .ok (.iconst 0, 1) := by decide +kernel
theorem dX7_messagesOf_3 : decode cX7_messagesOf 3 = .ok (.istore_n 3, 1) := by decide +kernel
theorem dX7_messagesOf_4 : decode cX7_messagesOf 4 = .ok (.iload_n 3, 1) := by decide +kernel
theorem dX7_messagesOf_5 : decode cX7_messagesOf 5 = .ok (.aload_n 0, 1) := by decide +kernel
theorem dX7_messagesOf_6 : decode cX7_messagesOf 6 = .ok (.getfield 129, 3) := by decide +kernel
theorem dX7_messagesOf_9 : decode cX7_messagesOf 9 = .ok (.if_icmp .ge 27, 3) := by decide +kernel
theorem dX7_messagesOf_12 : decode cX7_messagesOf 12 = .ok (.iload_n 2, 1) := by decide +kernel
theorem dX7_messagesOf_13 : decode cX7_messagesOf 13 = .ok (.aload_n 0, 1) := by decide +kernel
theorem dX7_messagesOf_14 : decode cX7_messagesOf 14 = .ok (.getfield 63, 3) := by decide +kernel
theorem dX7_messagesOf_17 : decode cX7_messagesOf 17 = .ok (.iload_n 3, 1) := by decide +kernel
theorem dX7_messagesOf_18 : decode cX7_messagesOf 18 = .ok (.iaload, 1) := by decide +kernel
theorem dX7_messagesOf_19 : decode cX7_messagesOf 19 = .ok (.iload_n 1, 1) := by decide +kernel
theorem dX7_messagesOf_20 : decode cX7_messagesOf 20 = .ok (.if_icmp .ne 7, 3) := by decide +kernel
theorem dX7_messagesOf_23 : decode cX7_messagesOf 23 = .ok (.iconst 1, 1) := by decide +kernel
theorem dX7_messagesOf_24 : decode cX7_messagesOf 24 = .ok (.goto 4, 3) := by decide +kernel
theorem dX7_messagesOf_27 : decode cX7_messagesOf 27 = .ok (.iconst 0, 1) := by decide +kernel
theorem dX7_messagesOf_28 : decode cX7_messagesOf 28 = .ok (.iadd, 1) := by decide +kernel
theorem dX7_messagesOf_29 : decode cX7_messagesOf 29 = .ok (.istore_n 2, 1) := by decide +kernel
theorem dX7_messagesOf_30 : decode cX7_messagesOf 30 = .ok (.iinc 3 1, 3) := by decide +kernel
theorem dX7_messagesOf_33 : decode cX7_messagesOf 33 = .ok (.goto (-29), 3) := by decide +kernel
theorem dX7_messagesOf_36 : decode cX7_messagesOf 36 = .ok (.iload_n 2, 1) := by decide +kernel
theorem dX7_messagesOf_37 : decode cX7_messagesOf 37 = .ok (.ireturn, 1) := by decide +kernel
def B_Mo_messagesOf_36 (mc ms : Nat) (Rt : Option zAV → zMp → Prop) (g : Nat → zKT) : zKT :=
  (i_il 2 (i_iret mc ms Rt))
set_option maxRecDepth 20000 in
theorem s_Mo_messagesOf_36 {X : zMa} {mc ms : Nat} {Rt : Option zAV → zMp → Prop} (hC : zCx X RX7 cX7_messagesOf 0 0 mc ms (some .int) false Rt) (hN : zNL X = 4) : zLe (B_Mo_messagesOf_36 mc ms Rt (zG X)) (zG X 36) :=
  (sd_il_n hC rfl dX7_messagesOf_36 ((sd_iret hC dX7_messagesOf_37)))
def B_Mo_messagesOf_28 (mc ms : Nat) (Rt : Option zAV → zMp → Prop) (g : Nat → zKT) : zKT :=
  (i_iadd (i_is 2 (i_inc 3 1 (g 4))))
set_option maxRecDepth 20000 in
theorem s_Mo_messagesOf_28 {X : zMa} {mc ms : Nat} {Rt : Option zAV → zMp → Prop} (hC : zCx X RX7 cX7_messagesOf 0 0 mc ms (some .int) false Rt) (hN : zNL X = 4) : zLe (B_Mo_messagesOf_28 mc ms Rt (zG X)) (zG X 28) :=
  (sd_iadd hC dX7_messagesOf_28 ((sd_is_n hC rfl (by rw [hN]; decide) dX7_messagesOf_29 ((sd_inc hC (by decide) (by rw [hN]; decide) dX7_messagesOf_30 ((sd_goto hC (tgt := 4) (by decide) dX7_messagesOf_33 (zLe_rfl))))))))
def B_Mo_messagesOf_27 (mc ms : Nat) (Rt : Option zAV → zMp → Prop) (g : Nat → zKT) : zKT :=
  (i_ic 0 (B_Mo_messagesOf_28 mc ms Rt g))
set_option maxRecDepth 20000 in
theorem s_Mo_messagesOf_27 {X : zMa} {mc ms : Nat} {Rt : Option zAV → zMp → Prop} (hC : zCx X RX7 cX7_messagesOf 0 0 mc ms (some .int) false Rt) (hN : zNL X = 4) : zLe (B_Mo_messagesOf_27 mc ms Rt (zG X)) (zG X 27) :=
  (sd_iconst hC (by decide) dX7_messagesOf_27 (s_Mo_messagesOf_28 hC hN))
def B_Mo_messagesOf_4 (mc ms : Nat) (Rt : Option zAV → zMp → Prop) (g : Nat → zKT) : zKT :=
  (i_il 3 (i_al 0 (i_gf 8 19 (i_icge (B_Mo_messagesOf_36 mc ms Rt g) (i_il 2 (i_al 0 (i_gf 8 22 (i_il 3 (i_ial (i_il 1 (i_icne (B_Mo_messagesOf_27 mc ms Rt g) (i_ic 1 (B_Mo_messagesOf_28 mc ms Rt g)))))))))))))
set_option maxRecDepth 20000 in
theorem s_Mo_messagesOf_4 {X : zMa} {mc ms : Nat} {Rt : Option zAV → zMp → Prop} (hC : zCx X RX7 cX7_messagesOf 0 0 mc ms (some .int) false Rt) (hN : zNL X = 4) : zLe (B_Mo_messagesOf_4 mc ms Rt (zG X)) (zG X 4) :=
  (sd_il_n hC rfl dX7_messagesOf_4 ((sd_al_n hC rfl dX7_messagesOf_5 ((sd_gf hC (ci := 8) (fk := 19) rfl wi_Mo (by decide) fl_Mo_129 (Or.inl rfl) dX7_messagesOf_6 ((sd_icge hC (tgt := 36) (by decide) dX7_messagesOf_9 (s_Mo_messagesOf_36 hC hN) ((sd_il_n hC rfl dX7_messagesOf_12 ((sd_al_n hC rfl dX7_messagesOf_13 ((sd_gf hC (ci := 8) (fk := 22) rfl wi_Mo (by decide) fl_Mo_63 (Or.inl rfl) dX7_messagesOf_14 ((sd_il_n hC rfl dX7_messagesOf_17 ((sd_ial hC dX7_messagesOf_18 ((sd_il_n hC rfl dX7_messagesOf_19 ((sd_icne hC (tgt := 27) (by decide) dX7_messagesOf_20 (s_Mo_messagesOf_27 hC hN) ((sd_iconst hC (by decide) dX7_messagesOf_23 ((sd_goto hC (tgt := 28) (by decide) dX7_messagesOf_24 (s_Mo_messagesOf_28 hC hN))))))))))))))))))))))))))
def B_Mo_messagesOf_0 (mc ms : Nat) (Rt : Option zAV → zMp → Prop) (g : Nat → zKT) : zKT :=
  (i_ic 0 (i_is 2 (i_ic 0 (i_is 3 (g 4)))))
set_option maxRecDepth 20000 in
theorem s_Mo_messagesOf_0 {X : zMa} {mc ms : Nat} {Rt : Option zAV → zMp → Prop} (hC : zCx X RX7 cX7_messagesOf 0 0 mc ms (some .int) false Rt) (hN : zNL X = 4) : zLe (B_Mo_messagesOf_0 mc ms Rt (zG X)) (zG X 0) :=
  (sd_iconst hC (by decide) dX7_messagesOf_0 ((sd_is_n hC rfl (by rw [hN]; decide) dX7_messagesOf_1 ((sd_iconst hC (by decide) dX7_messagesOf_2 ((sd_is_n hC rfl (by rw [hN]; decide) dX7_messagesOf_3 (zLe_rfl))))))))
theorem c_Mo_messagesOf (l : Launch) : zCT l yX7_messagesOf cX7_messagesOf 4 (some .int) 0 0 T_Mo_messagesOf co_Mo_messagesOf := by
  intro As M Rt hT
  obtain ⟨y, k, rfl, rfl, hJ, hR⟩ := hT
  have hcp := hJ.cp
  refine zMet_of false (by decide +kernel) (fun h => by first | rfl | cases h) (Nat.le_of_ble_eq_true rfl) (fun X hN hC => ?_)
  show zG X 0 [some (.inr (30, 0, 0)), some (.inl (.int k)), none, none] [] (mp y) 0 0
  have loop := upto (N := y_ms y) (P := fun n => zG X 4 [some (.inr (30, 0, 0)), some (.inl (.int k)), some (.inl (.int (nI (y_mo y k n)))), some (.inl (.int (nI n)))] [] (mp y) 0 0) (fun n hn ih => by
    refine s_Mo_messagesOf_4 hC hN _ _ _ _ _ ?_
    simp only [B_Mo_messagesOf_0, B_Mo_messagesOf_4, B_Mo_messagesOf_27, B_Mo_messagesOf_28, B_Mo_messagesOf_36, co_Mo_messagesOf, i_ic, i_lc, i_nul, i_il, i_ll, i_al, i_is, i_as, i_ls, i_inc, i_iadd, i_isub, i_imul, i_iand, i_ior, i_ixor, i_idiv, i_irem, i_ishl, i_ishr, i_ladd, i_lsub, i_land, i_lor, i_i2l, i_lushr, i_lshl, i_lshr, i_lcmp, i_dup, i_pop, i_dx1, i_dup2, i_ifeq, i_ifne, i_iflt, i_ifge, i_ifgt, i_ifle, i_iceq, i_icne, i_iclt, i_icge, i_icgt, i_icle, i_ifn, i_gf, i_pf, i_ial, i_bal, i_lal, i_aal, i_ias, i_las, i_bas, i_aas, i_alen, i_newa, i_new, i_anew, i_cast, i_oi, i_call, i_callV, i_callV2, i_callI, i_iret, i_zret, i_lret, i_vret, i_aret, i_mmx, i_mmn, i_gsE, i_aceq, i_no, i_acq, i_sw, zsw, zlg, zls, znl, zfg, zcs, zsp, zrc, zisn, zft, zc1, zto, Value.category, List.set_cons_zero, List.set_cons_succ, List.length_cons, List.length_nil, Option.toList, List.append, List.nil_append, List.cons_append, true_and, and_true, Nat.add_zero, Nat.zero_le, Nat.zero_add, Nat.le_refl, Nat.reduceAdd, Nat.reduceLeDiff, co0, z0, zn_0, zn_1, zn_2, zn_3, zn_4, zn_5, zn_8, zn_12, zn_24, zn_121, zn_144, zn_256, zn_300, zn_600, zn_720, zn_1204, zn_1280, zn_2400, zn_4816, zn_14400, zn_90000, q_main, m_main, q_wh, ar_4, ar_5, ar_12, ar_300, ar_600, ar_1200, ar_10, nI_add, ar_1, ar_2, ar_3, ar_2m]
    rw [nI_clamp (by omega)]
    simp only [y_mo] at ih
    refine ⟨fun h => absurd ((zK (K := y_ms y) (by omega) (n := n) (by omega)).2.1.mp h) (by omega), fun _ => ⟨vp_in_nI (by omega) (by omega), fun h => ?_, fun h => ?_⟩⟩
    · rw [if_neg h] at ih
      rw [Int32.add_zero]
      exact ih
    · rw [if_pos h] at ih
      exact ih) (by
    refine s_Mo_messagesOf_4 hC hN _ _ _ _ _ ?_
    simp only [B_Mo_messagesOf_0, B_Mo_messagesOf_4, B_Mo_messagesOf_27, B_Mo_messagesOf_28, B_Mo_messagesOf_36, co_Mo_messagesOf, i_ic, i_lc, i_nul, i_il, i_ll, i_al, i_is, i_as, i_ls, i_inc, i_iadd, i_isub, i_imul, i_iand, i_ior, i_ixor, i_idiv, i_irem, i_ishl, i_ishr, i_ladd, i_lsub, i_land, i_lor, i_i2l, i_lushr, i_lshl, i_lshr, i_lcmp, i_dup, i_pop, i_dx1, i_dup2, i_ifeq, i_ifne, i_iflt, i_ifge, i_ifgt, i_ifle, i_iceq, i_icne, i_iclt, i_icge, i_icgt, i_icle, i_ifn, i_gf, i_pf, i_ial, i_bal, i_lal, i_aal, i_ias, i_las, i_bas, i_aas, i_alen, i_newa, i_new, i_anew, i_cast, i_oi, i_call, i_callV, i_callV2, i_callI, i_iret, i_zret, i_lret, i_vret, i_aret, i_mmx, i_mmn, i_gsE, i_aceq, i_no, i_acq, i_sw, zsw, zlg, zls, znl, zfg, zcs, zsp, zrc, zisn, zft, zc1, zto, Value.category, List.set_cons_zero, List.set_cons_succ, List.length_cons, List.length_nil, Option.toList, List.append, List.nil_append, List.cons_append, true_and, and_true, Nat.add_zero, Nat.zero_le, Nat.zero_add, Nat.le_refl, Nat.reduceAdd, Nat.reduceLeDiff, co0, z0, zn_0, zn_1, zn_2, zn_3, zn_4, zn_5, zn_8, zn_12, zn_24, zn_121, zn_144, zn_256, zn_300, zn_600, zn_720, zn_1204, zn_1280, zn_2400, zn_4816, zn_14400, zn_90000, q_main, m_main]
    exact ⟨fun _ => hR, fun h => absurd ((zK (K := y_ms y) (by omega) (n := y_ms y) (by omega)).2.1.mpr (Nat.le_refl _)) h⟩) 0 (Nat.zero_le _)
  refine s_Mo_messagesOf_0 hC hN _ _ _ _ _ ?_
  simp only [B_Mo_messagesOf_0, B_Mo_messagesOf_4, B_Mo_messagesOf_27, B_Mo_messagesOf_28, B_Mo_messagesOf_36, co_Mo_messagesOf, i_ic, i_lc, i_nul, i_il, i_ll, i_al, i_is, i_as, i_ls, i_inc, i_iadd, i_isub, i_imul, i_iand, i_ior, i_ixor, i_idiv, i_irem, i_ishl, i_ishr, i_ladd, i_lsub, i_land, i_lor, i_i2l, i_lushr, i_lshl, i_lshr, i_lcmp, i_dup, i_pop, i_dx1, i_dup2, i_ifeq, i_ifne, i_iflt, i_ifge, i_ifgt, i_ifle, i_iceq, i_icne, i_iclt, i_icge, i_icgt, i_icle, i_ifn, i_gf, i_pf, i_ial, i_bal, i_lal, i_aal, i_ias, i_las, i_bas, i_aas, i_alen, i_newa, i_new, i_anew, i_cast, i_oi, i_call, i_callV, i_callV2, i_callI, i_iret, i_zret, i_lret, i_vret, i_aret, i_mmx, i_mmn, i_gsE, i_aceq, i_no, i_acq, i_sw, zsw, zlg, zls, znl, zfg, zcs, zsp, zrc, zisn, zft, zc1, zto, Value.category, List.set_cons_zero, List.set_cons_succ, List.length_cons, List.length_nil, Option.toList, List.append, List.nil_append, List.cons_append, true_and, and_true, Nat.add_zero, Nat.zero_le, Nat.zero_add, Nat.le_refl, Nat.reduceAdd, Nat.reduceLeDiff, co0, z0, zn_0, zn_1, zn_2, zn_3, zn_4, zn_5, zn_8, zn_12, zn_24, zn_121, zn_144, zn_256, zn_300, zn_600, zn_720, zn_1204, zn_1280, zn_2400, zn_4816, zn_14400, zn_90000]
  exact loop
def y_uw (y : zMS) : Nat → Nat
  | 0 => 0
  | n + 1 => y_uw y n + (if 0 < y_mo y (nI n) (y_ms y) then 1 else 0)
theorem y_uw_le (y : zMS) : ∀ n, y_uw y n ≤ n
  | 0 => Nat.le_refl _
  | n + 1 => by
    have := y_uw_le y n
    simp only [y_uw]
    split <;> omega
def T_Mo_underWay (As : List zAV) (M : zMp) (Rt : Option zAV → zMp → Prop) : Prop := ∃ y, As = [.inr (30, 0, 0)] ∧ M = mp y ∧ Jv y ∧ Rt (some (.inl (.int (nI (y_uw y (y_nn y)))))) M
abbrev co_Mo_underWay := co0
theorem dX7_underWay_0 : decode cX7_underWay 0 = .ok (.iconst 0, 1) := by decide +kernel
theorem dX7_underWay_1 : decode cX7_underWay 1 = .ok (.istore_n 1, 1) := by decide +kernel
theorem dX7_underWay_2 : decode cX7_underWay 2 = .ok (.iconst 0, 1) := by decide +kernel
theorem dX7_underWay_3 : decode cX7_underWay 3 = .ok (.istore_n 2, 1) := by decide +kernel
theorem dX7_underWay_4 : decode cX7_underWay 4 = .ok (.iload_n 2, 1) := by decide +kernel
theorem dX7_underWay_5 : decode cX7_underWay 5 = .ok (.aload_n 0, 1) := by decide +kernel
theorem dX7_underWay_6 : decode cX7_underWay 6 = .ok (.getfield 191, 3) := by decide +kernel
theorem dX7_underWay_9 : decode cX7_underWay 9 = .ok (.if_icmp .ge 25, 3) := by decide +kernel
theorem dX7_underWay_12 : decode cX7_underWay 12 = .ok (.iload_n 1, 1) := by decide +kernel
theorem dX7_underWay_13 : decode cX7_underWay 13 = .ok (.aload_n 0, 1) := by decide +kernel
theorem dX7_underWay_14 : decode cX7_underWay 14 = .ok (.iload_n 2, 1) := by decide +kernel
theorem dX7_underWay_15 : decode cX7_underWay 15 = .ok (.invokevirtual 194, 3) := by decide +kernel
theorem dX7_underWay_18 : decode cX7_underWay 18 = .ok (.ifCond .le 7, 3) := by decide +kernel
theorem dX7_underWay_21 : decode cX7_underWay 21 = .ok (.iconst 1, 1) := by decide +kernel
theorem dX7_underWay_22 : decode cX7_underWay 22 = .ok (.goto 4, 3) := by decide +kernel
theorem dX7_underWay_25 : decode cX7_underWay 25 = .ok (.iconst 0, 1) := by decide +kernel
theorem dX7_underWay_26 : decode cX7_underWay 26 = .ok (.iadd, 1) := by decide +kernel
theorem dX7_underWay_27 : decode cX7_underWay 27 = .ok (.istore_n 1, 1) := by decide +kernel
theorem dX7_underWay_28 : decode cX7_underWay 28 = .ok (.iinc 2 1, 3) := by decide +kernel
theorem dX7_underWay_31 : decode cX7_underWay 31 = .ok (.goto (-27), 3) := by decide +kernel
theorem dX7_underWay_34 : decode cX7_underWay 34 = .ok (.iload_n 1, 1) := by decide +kernel
theorem dX7_underWay_35 : decode cX7_underWay 35 = .ok (.ireturn, 1) := by decide +kernel
def B_Mo_underWay_34 (mc ms : Nat) (Rt : Option zAV → zMp → Prop) (g : Nat → zKT) : zKT :=
  (i_il 1 (i_iret mc ms Rt))
set_option maxRecDepth 20000 in
theorem s_Mo_underWay_34 {X : zMa} {mc ms : Nat} {Rt : Option zAV → zMp → Prop} (hC : zCx X RX7 cX7_underWay 1 23 mc ms (some .int) false Rt) (hN : zNL X = 3) : zLe (B_Mo_underWay_34 mc ms Rt (zG X)) (zG X 34) :=
  (sd_il_n hC rfl dX7_underWay_34 ((sd_iret hC dX7_underWay_35)))
def B_Mo_underWay_26 (mc ms : Nat) (Rt : Option zAV → zMp → Prop) (g : Nat → zKT) : zKT :=
  (i_iadd (i_is 1 (i_inc 2 1 (g 4))))
set_option maxRecDepth 20000 in
theorem s_Mo_underWay_26 {X : zMa} {mc ms : Nat} {Rt : Option zAV → zMp → Prop} (hC : zCx X RX7 cX7_underWay 1 23 mc ms (some .int) false Rt) (hN : zNL X = 3) : zLe (B_Mo_underWay_26 mc ms Rt (zG X)) (zG X 26) :=
  (sd_iadd hC dX7_underWay_26 ((sd_is_n hC rfl (by rw [hN]; decide) dX7_underWay_27 ((sd_inc hC (by decide) (by rw [hN]; decide) dX7_underWay_28 ((sd_goto hC (tgt := 4) (by decide) dX7_underWay_31 (zLe_rfl))))))))
def B_Mo_underWay_25 (mc ms : Nat) (Rt : Option zAV → zMp → Prop) (g : Nat → zKT) : zKT :=
  (i_ic 0 (B_Mo_underWay_26 mc ms Rt g))
set_option maxRecDepth 20000 in
theorem s_Mo_underWay_25 {X : zMa} {mc ms : Nat} {Rt : Option zAV → zMp → Prop} (hC : zCx X RX7 cX7_underWay 1 23 mc ms (some .int) false Rt) (hN : zNL X = 3) : zLe (B_Mo_underWay_25 mc ms Rt (zG X)) (zG X 25) :=
  (sd_iconst hC (by decide) dX7_underWay_25 (s_Mo_underWay_26 hC hN))
def B_Mo_underWay_4 (mc ms : Nat) (Rt : Option zAV → zMp → Prop) (g : Nat → zKT) : zKT :=
  (i_il 2 (i_al 0 (i_gf 8 3 (i_icge (B_Mo_underWay_34 mc ms Rt g) (i_il 1 (i_al 0 (i_il 2 (i_callV mc ms 8 2 T_Mo_messagesOf co_Mo_messagesOf (i_ifle (B_Mo_underWay_25 mc ms Rt g) (i_ic 1 (B_Mo_underWay_26 mc ms Rt g)))))))))))
set_option maxRecDepth 20000 in
theorem s_Mo_underWay_4 {X : zMa} {mc ms : Nat} {Rt : Option zAV → zMp → Prop} (hC : zCx X RX7 cX7_underWay 1 23 mc ms (some .int) false Rt) (hN : zNL X = 3) : zLe (B_Mo_underWay_4 mc ms Rt (zG X)) (zG X 4) :=
  (sd_il_n hC rfl dX7_underWay_4 ((sd_al_n hC rfl dX7_underWay_5 ((sd_gf hC (ci := 8) (fk := 3) rfl wi_Mo (by decide) fl_Mo_191 (Or.inl rfl) dX7_underWay_6 ((sd_icge hC (tgt := 34) (by decide) dX7_underWay_9 (s_Mo_underWay_34 hC hN) ((sd_il_n hC rfl dX7_underWay_12 ((sd_al_n hC rfl dX7_underWay_13 ((sd_il_n hC rfl dX7_underWay_14 ((sd_cV hC c_Mo_messagesOf yv_Mo_messagesOf (ci := 8) rfl rfl ml_Mo_194 (by decide) (by decide) dX7_underWay_15 ((sd_ifle hC (tgt := 25) (by decide) dX7_underWay_18 (s_Mo_underWay_25 hC hN) ((sd_iconst hC (by decide) dX7_underWay_21 ((sd_goto hC (tgt := 26) (by decide) dX7_underWay_22 (s_Mo_underWay_26 hC hN))))))))))))))))))))))
def B_Mo_underWay_0 (mc ms : Nat) (Rt : Option zAV → zMp → Prop) (g : Nat → zKT) : zKT :=
  (i_ic 0 (i_is 1 (i_ic 0 (i_is 2 (g 4)))))
set_option maxRecDepth 20000 in
theorem s_Mo_underWay_0 {X : zMa} {mc ms : Nat} {Rt : Option zAV → zMp → Prop} (hC : zCx X RX7 cX7_underWay 1 23 mc ms (some .int) false Rt) (hN : zNL X = 3) : zLe (B_Mo_underWay_0 mc ms Rt (zG X)) (zG X 0) :=
  (sd_iconst hC (by decide) dX7_underWay_0 ((sd_is_n hC rfl (by rw [hN]; decide) dX7_underWay_1 ((sd_iconst hC (by decide) dX7_underWay_2 ((sd_is_n hC rfl (by rw [hN]; decide) dX7_underWay_3 (zLe_rfl))))))))
theorem c_Mo_underWay (l : Launch) : zCT l yX7_underWay cX7_underWay 3 (some .int) 1 23 T_Mo_underWay co_Mo_underWay := by
  intro As M Rt hT
  obtain ⟨y, rfl, rfl, hJ, hR⟩ := hT
  have hcp := hJ.cp
  have hlim := hJ.lim
  refine zMet_of false (by decide +kernel) (fun h => by first | rfl | cases h) (Nat.le_of_ble_eq_true rfl) (fun X hN hC => ?_)
  show zG X 0 [some (.inr (30, 0, 0)), none, none] [] (mp y) 0 0
  have loop := upto (N := y_nn y) (P := fun n => zG X 4 [some (.inr (30, 0, 0)), some (.inl (.int (nI (y_uw y n)))), some (.inl (.int (nI n)))] [] (mp y) 0 0) (fun n hn ih => by
    refine s_Mo_underWay_4 hC hN _ _ _ _ _ ?_
    simp only [B_Mo_underWay_0, B_Mo_underWay_4, B_Mo_underWay_25, B_Mo_underWay_26, B_Mo_underWay_34, co_Mo_messagesOf, co_Mo_underWay, i_ic, i_lc, i_nul, i_il, i_ll, i_al, i_is, i_as, i_ls, i_inc, i_iadd, i_isub, i_imul, i_iand, i_ior, i_ixor, i_idiv, i_irem, i_ishl, i_ishr, i_ladd, i_lsub, i_land, i_lor, i_i2l, i_lushr, i_lshl, i_lshr, i_lcmp, i_dup, i_pop, i_dx1, i_dup2, i_ifeq, i_ifne, i_iflt, i_ifge, i_ifgt, i_ifle, i_iceq, i_icne, i_iclt, i_icge, i_icgt, i_icle, i_ifn, i_gf, i_pf, i_ial, i_bal, i_lal, i_aal, i_ias, i_las, i_bas, i_aas, i_alen, i_newa, i_new, i_anew, i_cast, i_oi, i_call, i_callV, i_callV2, i_callI, i_iret, i_zret, i_lret, i_vret, i_aret, i_mmx, i_mmn, i_gsE, i_aceq, i_no, i_acq, i_sw, zsw, zlg, zls, znl, zfg, zcs, zsp, zrc, zisn, zft, zc1, zto, Value.category, List.set_cons_zero, List.set_cons_succ, List.length_cons, List.length_nil, Option.toList, List.append, List.nil_append, List.cons_append, true_and, and_true, Nat.add_zero, Nat.zero_le, Nat.zero_add, Nat.le_refl, Nat.reduceAdd, Nat.reduceLeDiff, co0, z0, zn_0, zn_1, zn_2, zn_3, zn_4, zn_5, zn_8, zn_12, zn_24, zn_121, zn_144, zn_256, zn_300, zn_600, zn_720, zn_1204, zn_1280, zn_2400, zn_4816, zn_14400, zn_90000, q_main, m_main, ar_4, ar_5, ar_12, ar_300, ar_600, ar_1200, ar_10, nI_add, ar_1, ar_2, ar_3, ar_2m]
    refine ⟨fun h => absurd ((zK (K := y_nn y) (by omega) (n := n) (by omega)).2.1.mp h) (by omega), fun _ => ⟨y, nI n, rfl, rfl, hJ, ?_⟩⟩
    simp only [B_Mo_underWay_0, B_Mo_underWay_4, B_Mo_underWay_25, B_Mo_underWay_26, B_Mo_underWay_34, co_Mo_messagesOf, co_Mo_underWay, i_ic, i_lc, i_nul, i_il, i_ll, i_al, i_is, i_as, i_ls, i_inc, i_iadd, i_isub, i_imul, i_iand, i_ior, i_ixor, i_idiv, i_irem, i_ishl, i_ishr, i_ladd, i_lsub, i_land, i_lor, i_i2l, i_lushr, i_lshl, i_lshr, i_lcmp, i_dup, i_pop, i_dx1, i_dup2, i_ifeq, i_ifne, i_iflt, i_ifge, i_ifgt, i_ifle, i_iceq, i_icne, i_iclt, i_icge, i_icgt, i_icle, i_ifn, i_gf, i_pf, i_ial, i_bal, i_lal, i_aal, i_ias, i_las, i_bas, i_aas, i_alen, i_newa, i_new, i_anew, i_cast, i_oi, i_call, i_callV, i_callV2, i_callI, i_iret, i_zret, i_lret, i_vret, i_aret, i_mmx, i_mmn, i_gsE, i_aceq, i_no, i_acq, i_sw, zsw, zlg, zls, znl, zfg, zcs, zsp, zrc, zisn, zft, zc1, zto, Value.category, List.set_cons_zero, List.set_cons_succ, List.length_cons, List.length_nil, Option.toList, List.append, List.nil_append, List.cons_append, true_and, and_true, Nat.add_zero, Nat.zero_le, Nat.zero_add, Nat.le_refl, Nat.reduceAdd, Nat.reduceLeDiff, co0, z0, zn_0, zn_1, zn_2, zn_3, zn_4, zn_5, zn_8, zn_12, zn_24, zn_121, zn_144, zn_256, zn_300, zn_600, zn_720, zn_1204, zn_1280, zn_2400, zn_4816, zn_14400, zn_90000, q_main, m_main, ar_4, ar_5, ar_12, ar_300, ar_600, ar_1200, ar_10, nI_add, ar_1, ar_2, ar_3, ar_2m]
    simp only [y_uw] at ih
    have hle := y_mo_le y (nI n) (y_ms y)
    refine ⟨fun h => ?_, fun h => ?_⟩
    · rw [if_neg (by have := (nI_leI (b := 0) (by omega) (by decide)).mp h; omega)] at ih
      rw [Int32.add_zero]
      exact ih
    · rw [if_pos (Nat.pos_of_ne_zero (fun q => h (by rw [q]; decide)))] at ih
      exact ih) (by
    refine s_Mo_underWay_4 hC hN _ _ _ _ _ ?_
    simp only [B_Mo_underWay_0, B_Mo_underWay_4, B_Mo_underWay_25, B_Mo_underWay_26, B_Mo_underWay_34, co_Mo_messagesOf, co_Mo_underWay, i_ic, i_lc, i_nul, i_il, i_ll, i_al, i_is, i_as, i_ls, i_inc, i_iadd, i_isub, i_imul, i_iand, i_ior, i_ixor, i_idiv, i_irem, i_ishl, i_ishr, i_ladd, i_lsub, i_land, i_lor, i_i2l, i_lushr, i_lshl, i_lshr, i_lcmp, i_dup, i_pop, i_dx1, i_dup2, i_ifeq, i_ifne, i_iflt, i_ifge, i_ifgt, i_ifle, i_iceq, i_icne, i_iclt, i_icge, i_icgt, i_icle, i_ifn, i_gf, i_pf, i_ial, i_bal, i_lal, i_aal, i_ias, i_las, i_bas, i_aas, i_alen, i_newa, i_new, i_anew, i_cast, i_oi, i_call, i_callV, i_callV2, i_callI, i_iret, i_zret, i_lret, i_vret, i_aret, i_mmx, i_mmn, i_gsE, i_aceq, i_no, i_acq, i_sw, zsw, zlg, zls, znl, zfg, zcs, zsp, zrc, zisn, zft, zc1, zto, Value.category, List.set_cons_zero, List.set_cons_succ, List.length_cons, List.length_nil, Option.toList, List.append, List.nil_append, List.cons_append, true_and, and_true, Nat.add_zero, Nat.zero_le, Nat.zero_add, Nat.le_refl, Nat.reduceAdd, Nat.reduceLeDiff, co0, z0, zn_0, zn_1, zn_2, zn_3, zn_4, zn_5, zn_8, zn_12, zn_24, zn_121, zn_144, zn_256, zn_300, zn_600, zn_720, zn_1204, zn_1280, zn_2400, zn_4816, zn_14400, zn_90000, q_main, m_main]
    exact ⟨fun _ => hR, fun h => absurd ((zK (K := y_nn y) (by omega) (n := y_nn y) (by omega)).2.1.mpr (Nat.le_refl _)) h⟩) 0 (Nat.zero_le _)
  refine s_Mo_underWay_0 hC hN _ _ _ _ _ ?_
  simp only [B_Mo_underWay_0, B_Mo_underWay_4, B_Mo_underWay_25, B_Mo_underWay_26, B_Mo_underWay_34, co_Mo_messagesOf, co_Mo_underWay, i_ic, i_lc, i_nul, i_il, i_ll, i_al, i_is, i_as, i_ls, i_inc, i_iadd, i_isub, i_imul, i_iand, i_ior, i_ixor, i_idiv, i_irem, i_ishl, i_ishr, i_ladd, i_lsub, i_land, i_lor, i_i2l, i_lushr, i_lshl, i_lshr, i_lcmp, i_dup, i_pop, i_dx1, i_dup2, i_ifeq, i_ifne, i_iflt, i_ifge, i_ifgt, i_ifle, i_iceq, i_icne, i_iclt, i_icge, i_icgt, i_icle, i_ifn, i_gf, i_pf, i_ial, i_bal, i_lal, i_aal, i_ias, i_las, i_bas, i_aas, i_alen, i_newa, i_new, i_anew, i_cast, i_oi, i_call, i_callV, i_callV2, i_callI, i_iret, i_zret, i_lret, i_vret, i_aret, i_mmx, i_mmn, i_gsE, i_aceq, i_no, i_acq, i_sw, zsw, zlg, zls, znl, zfg, zcs, zsp, zrc, zisn, zft, zc1, zto, Value.category, List.set_cons_zero, List.set_cons_succ, List.length_cons, List.length_nil, Option.toList, List.append, List.nil_append, List.cons_append, true_and, and_true, Nat.add_zero, Nat.zero_le, Nat.zero_add, Nat.le_refl, Nat.reduceAdd, Nat.reduceLeDiff, co0, z0, zn_0, zn_1, zn_2, zn_3, zn_4, zn_5, zn_8, zn_12, zn_24, zn_121, zn_144, zn_256, zn_300, zn_600, zn_720, zn_1204, zn_1280, zn_2400, zn_4816, zn_14400, zn_90000]
  exact loop
noncomputable def y_need (y : zMS) (k u v : Nat) : Bool := zd (∃ r, r < y_nr y ∧ re_x y v (nI u) (y_do y r).toNatClampNeg = true ∧ y_wants y r k = true)
def T_Mo_isNeeded (As : List zAV) (M : zMp) (Rt : Option zAV → zMp → Prop) : Prop := ∃ y k u v, As = [.inr (30, 0, 0), .inl (.int (nI k)), .inl (.int (nI u)), .inl (.int (nI v))] ∧ M = mp y ∧ Jv y ∧ k < 600 ∧ v < 12 ∧ Rt (some (.inl (.int (zb (y_need y k u v))))) (mp (v_re y (re_x y v (nI u))))
abbrev co_Mo_isNeeded := co0
theorem dX7_isNeeded_0 : decode cX7_isNeeded 0 = .ok (.aload_n 0, 1) := by decide +kernel
theorem dX7_isNeeded_1 : decode cX7_isNeeded 1 = .ok (.iload_n 3, 1) := by decide +kernel
theorem dX7_isNeeded_2 : decode cX7_isNeeded 2 = .ok (.iload_n 2, 1) := by decide +kernel
theorem dX7_isNeeded_3 : decode cX7_isNeeded 3 = .ok (.invokevirtual 147, 3) := by decide +kernel
theorem dX7_isNeeded_6 : decode cX7_isNeeded 6 = .ok (.iconst 0, 1) := by decide +kernel
theorem dX7_isNeeded_7 : decode cX7_isNeeded 7 = .ok (.istore 4, 2) := by decide +kernel
theorem dX7_isNeeded_9 : decode cX7_isNeeded 9 = .ok (.iload 4, 2) := by decide +kernel
theorem dX7_isNeeded_11 : decode cX7_isNeeded 11 = .ok (.aload_n 0, 1) := by decide +kernel
theorem dX7_isNeeded_12 : decode cX7_isNeeded 12 = .ok (.getfield 161, 3) := by decide +kernel
theorem dX7_isNeeded_15 : decode cX7_isNeeded 15 = .ok (.if_icmp .ge 36, 3) := by decide +kernel
theorem dX7_isNeeded_18 : decode cX7_isNeeded 18 = .ok (.aload_n 0, 1) := by decide +kernel
theorem dX7_isNeeded_19 : decode cX7_isNeeded 19 = .ok (.getfield 85, 3) := by decide +kernel
theorem dX7_isNeeded_22 : decode cX7_isNeeded 22 = .ok (.aload_n 0, 1) := by decide +kernel
theorem dX7_isNeeded_23 : decode cX7_isNeeded 23 = .ok (.getfield 13, 3) := by decide +kernel
theorem dX7_isNeeded_26 : decode cX7_isNeeded 26 = .ok (.iload 4, 2) := by decide +kernel
theorem dX7_isNeeded_28 : decode cX7_isNeeded 28 = .ok (.iaload, 1) := by decide +kernel
theorem dX7_isNeeded_29 : decode cX7_isNeeded 29 = .ok (.baload, 1) := by decide +kernel
theorem dX7_isNeeded_30 : decode cX7_isNeeded 30 = .ok (.ifCond .eq 15, 3) := by decide +kernel
theorem dX7_isNeeded_33 : decode cX7_isNeeded 33 = .ok (.aload_n 0, 1) := by decide +kernel
theorem dX7_isNeeded_34 : decode cX7_isNeeded 34 = .ok (.iload 4, 2) := by decide +kernel
theorem dX7_isNeeded_36 : decode cX7_isNeeded 36 = .ok (.iload_n 1, 1) := by decide +kernel
theorem dX7_isNeeded_37 : decode cX7_isNeeded 37 = .ok (.invokevirtual 178, 3) := by decide +kernel
theorem dX7_isNeeded_40 : decode cX7_isNeeded 40 = .ok (.ifCond .eq 5, 3) := by decide +kernel
theorem dX7_isNeeded_43 : decode cX7_isNeeded 43 = .ok (.iconst 1, 1) := by decide +kernel
theorem dX7_isNeeded_44 : decode cX7_isNeeded 44 = .ok (.ireturn, 1) := by decide +kernel
theorem dX7_isNeeded_45 : decode cX7_isNeeded 45 = .ok (.iinc 4 1, 3) := by decide +kernel
theorem dX7_isNeeded_48 : decode cX7_isNeeded 48 = .ok (.goto (-39), 3) := by decide +kernel
theorem dX7_isNeeded_51 : decode cX7_isNeeded 51 = .ok (.iconst 0, 1) := by decide +kernel
theorem dX7_isNeeded_52 : decode cX7_isNeeded 52 = .ok (.ireturn, 1) := by decide +kernel
def B_Mo_isNeeded_51 (mc ms : Nat) (Rt : Option zAV → zMp → Prop) (g : Nat → zKT) : zKT :=
  (i_ic 0 (i_zret mc ms Rt))
set_option maxRecDepth 20000 in
theorem s_Mo_isNeeded_51 {X : zMa} {mc ms : Nat} {Rt : Option zAV → zMp → Prop} (hC : zCx X RX7 cX7_isNeeded 4 95 mc ms (some .boolean) false Rt) (hN : zNL X = 5) : zLe (B_Mo_isNeeded_51 mc ms Rt (zG X)) (zG X 51) :=
  (sd_iconst hC (by decide) dX7_isNeeded_51 ((sd_zret hC dX7_isNeeded_52)))
def B_Mo_isNeeded_45 (mc ms : Nat) (Rt : Option zAV → zMp → Prop) (g : Nat → zKT) : zKT :=
  (i_inc 4 1 (g 9))
set_option maxRecDepth 20000 in
theorem s_Mo_isNeeded_45 {X : zMa} {mc ms : Nat} {Rt : Option zAV → zMp → Prop} (hC : zCx X RX7 cX7_isNeeded 4 95 mc ms (some .boolean) false Rt) (hN : zNL X = 5) : zLe (B_Mo_isNeeded_45 mc ms Rt (zG X)) (zG X 45) :=
  (sd_inc hC (by decide) (by rw [hN]; decide) dX7_isNeeded_45 ((sd_goto hC (tgt := 9) (by decide) dX7_isNeeded_48 (zLe_rfl))))
def B_Mo_isNeeded_9 (mc ms : Nat) (Rt : Option zAV → zMp → Prop) (g : Nat → zKT) : zKT :=
  (i_il 4 (i_al 0 (i_gf 8 1 (i_icge (B_Mo_isNeeded_51 mc ms Rt g) (i_al 0 (i_gf 8 32 (i_al 0 (i_gf 8 5 (i_il 4 (i_ial (i_bal (i_ifeq (B_Mo_isNeeded_45 mc ms Rt g) (i_al 0 (i_il 4 (i_il 1 (i_callV mc ms 8 3 T_Mo_wants co_Mo_wants (i_ifeq (B_Mo_isNeeded_45 mc ms Rt g) (i_ic 1 (i_zret mc ms Rt)))))))))))))))))))
set_option maxRecDepth 20000 in
theorem s_Mo_isNeeded_9 {X : zMa} {mc ms : Nat} {Rt : Option zAV → zMp → Prop} (hC : zCx X RX7 cX7_isNeeded 4 95 mc ms (some .boolean) false Rt) (hN : zNL X = 5) : zLe (B_Mo_isNeeded_9 mc ms Rt (zG X)) (zG X 9) :=
  (sd_il hC dX7_isNeeded_9 ((sd_al_n hC rfl dX7_isNeeded_11 ((sd_gf hC (ci := 8) (fk := 1) rfl wi_Mo (by decide) fl_Mo_161 (Or.inl rfl) dX7_isNeeded_12 ((sd_icge hC (tgt := 51) (by decide) dX7_isNeeded_15 (s_Mo_isNeeded_51 hC hN) ((sd_al_n hC rfl dX7_isNeeded_18 ((sd_gf hC (ci := 8) (fk := 32) rfl wi_Mo (by decide) fl_Mo_85 (Or.inl rfl) dX7_isNeeded_19 ((sd_al_n hC rfl dX7_isNeeded_22 ((sd_gf hC (ci := 8) (fk := 5) rfl wi_Mo (by decide) fl_Mo_13 (Or.inl rfl) dX7_isNeeded_23 ((sd_il hC dX7_isNeeded_26 ((sd_ial hC dX7_isNeeded_28 ((sd_bal hC dX7_isNeeded_29 ((sd_ifeq hC (tgt := 45) (by decide) dX7_isNeeded_30 (s_Mo_isNeeded_45 hC hN) ((sd_al_n hC rfl dX7_isNeeded_33 ((sd_il hC dX7_isNeeded_34 ((sd_il_n hC rfl dX7_isNeeded_36 ((sd_cV hC c_Mo_wants yv_Mo_wants (ci := 8) rfl rfl ml_Mo_178 (by decide) (by decide) dX7_isNeeded_37 ((sd_ifeq hC (tgt := 45) (by decide) dX7_isNeeded_40 (s_Mo_isNeeded_45 hC hN) ((sd_iconst hC (by decide) dX7_isNeeded_43 ((sd_zret hC dX7_isNeeded_44)))))))))))))))))))))))))))))))))))))
def B_Mo_isNeeded_0 (mc ms : Nat) (Rt : Option zAV → zMp → Prop) (g : Nat → zKT) : zKT :=
  (i_al 0 (i_il 3 (i_il 2 (i_callV mc ms 8 3 T_Mo_reach co_Mo_reach (i_ic 0 (i_is 4 (g 9)))))))
set_option maxRecDepth 20000 in
theorem s_Mo_isNeeded_0 {X : zMa} {mc ms : Nat} {Rt : Option zAV → zMp → Prop} (hC : zCx X RX7 cX7_isNeeded 4 95 mc ms (some .boolean) false Rt) (hN : zNL X = 5) : zLe (B_Mo_isNeeded_0 mc ms Rt (zG X)) (zG X 0) :=
  (sd_al_n hC rfl dX7_isNeeded_0 ((sd_il_n hC rfl dX7_isNeeded_1 ((sd_il_n hC rfl dX7_isNeeded_2 ((sd_cV hC c_Mo_reach yv_Mo_reach (ci := 8) rfl rfl ml_Mo_147 (by decide) (by decide) dX7_isNeeded_3 ((sd_iconst hC (by decide) dX7_isNeeded_6 ((sd_is hC (by rw [hN]; decide) dX7_isNeeded_7 (zLe_rfl))))))))))))
theorem c_Mo_isNeeded (l : Launch) : zCT l yX7_isNeeded cX7_isNeeded 5 (some .boolean) 4 95 T_Mo_isNeeded co_Mo_isNeeded := by
  intro As M Rt hT
  obtain ⟨y, k, u, v, rfl, rfl, hJ, hk, hv, hR⟩ := hT
  have hlim := hJ.lim
  have hdk := hJ.dk
  refine zMet_of false (by decide +kernel) (fun h => by first | rfl | cases h) (Nat.le_of_ble_eq_true rfl) (fun X hN hC => ?_)
  show zG X 0 [some (.inr (30, 0, 0)), some (.inl (.int (nI k))), some (.inl (.int (nI u))), some (.inl (.int (nI v))), none] [] (mp y) 0 0
  unfold y_need at hR
  have loop := upto (N := y_nr y) (P := fun r => (∀ j, j < r → ¬ (re_x y v (nI u) (y_do y j).toNatClampNeg = true ∧ y_wants y j k = true)) → zG X 9 [some (.inr (30, 0, 0)), some (.inl (.int (nI k))), some (.inl (.int (nI u))), some (.inl (.int (nI v))), some (.inl (.int (nI r)))] [] (mp (v_re y (re_x y v (nI u)))) 0 0) (fun r hr ih hp => by
    obtain ⟨d, hd, ed⟩ := hJ.rdr r hr
    have next : ¬ (re_x y v (nI u) (y_do y r).toNatClampNeg = true ∧ y_wants y r k = true) → zG X 9 [some (.inr (30, 0, 0)), some (.inl (.int (nI k))), some (.inl (.int (nI u))), some (.inl (.int (nI v))), some (.inl (.int (nI (r + 1))))] [] (mp (v_re y (re_x y v (nI u)))) 0 0 := fun hn => ih (fun j hj => by
      by_cases e : j = r
      · rw [e]; exact hn
      · exact hp j (by omega))
    refine s_Mo_isNeeded_9 hC hN _ _ _ _ _ ?_
    have e1 : y_nr (v_re y (re_x y v (nI u))) = y_nr y := rfl
    have e2 : y_do (v_re y (re_x y v (nI u))) = y_do y := rfl
    have e3 : y_re (v_re y (re_x y v (nI u))) = re_x y v (nI u) := rfl
    simp only [B_Mo_isNeeded_0, B_Mo_isNeeded_9, B_Mo_isNeeded_45, B_Mo_isNeeded_51, co_Mo_isNeeded, co_Mo_reach, co_Mo_wants, i_ic, i_lc, i_nul, i_il, i_ll, i_al, i_is, i_as, i_ls, i_inc, i_iadd, i_isub, i_imul, i_iand, i_ior, i_ixor, i_idiv, i_irem, i_ishl, i_ishr, i_ladd, i_lsub, i_land, i_lor, i_i2l, i_lushr, i_lshl, i_lshr, i_lcmp, i_dup, i_pop, i_dx1, i_dup2, i_ifeq, i_ifne, i_iflt, i_ifge, i_ifgt, i_ifle, i_iceq, i_icne, i_iclt, i_icge, i_icgt, i_icle, i_ifn, i_gf, i_pf, i_ial, i_bal, i_lal, i_aal, i_ias, i_las, i_bas, i_aas, i_alen, i_newa, i_new, i_anew, i_cast, i_oi, i_call, i_callV, i_callV2, i_callI, i_iret, i_zret, i_lret, i_vret, i_aret, i_mmx, i_mmn, i_gsE, i_aceq, i_no, i_acq, i_sw, zsw, zlg, zls, znl, zfg, zcs, zsp, zrc, zisn, zft, zc1, zto, Value.category, List.set_cons_zero, List.set_cons_succ, List.length_cons, List.length_nil, Option.toList, List.append, List.nil_append, List.cons_append, true_and, and_true, Nat.add_zero, Nat.zero_le, Nat.zero_add, Nat.le_refl, Nat.reduceAdd, Nat.reduceLeDiff, co0, z0, zn_0, zn_1, zn_2, zn_3, zn_4, zn_5, zn_8, zn_12, zn_24, zn_121, zn_144, zn_256, zn_300, zn_600, zn_720, zn_1204, zn_1280, zn_2400, zn_4816, zn_14400, zn_90000, q_main, m_main, q_do, q_re, e1, e2, e3, ar_4, ar_5, ar_12, ar_300, ar_600, ar_1200, ar_10, nI_add, ar_1, ar_2, ar_3, ar_2m]
    rw [nI_clamp (show r < 2 ^ 31 by omega)]
    refine ⟨fun h => absurd ((zK (K := y_nr y) (by omega) (n := r) (by omega)).2.1.mp h) (by omega), fun _ => ⟨vp_in_nI (by omega) (by decide), by rw [ed]; exact vp_in_nI (by omega) (by decide), fun h1 => next (fun q => by rw [zb_0.mp h1] at q; cases q.1), fun h1 => ⟨v_re y (re_x y v (nI u)), r, k, rfl, rfl, Jv_re hJ, by omega, hk, ?_⟩⟩⟩
    have e4 : y_wants (v_re y (re_x y v (nI u))) r k = y_wants y r k := rfl
    rw [e4]
    simp only [B_Mo_isNeeded_0, B_Mo_isNeeded_9, B_Mo_isNeeded_45, B_Mo_isNeeded_51, co_Mo_isNeeded, co_Mo_reach, co_Mo_wants, i_ic, i_lc, i_nul, i_il, i_ll, i_al, i_is, i_as, i_ls, i_inc, i_iadd, i_isub, i_imul, i_iand, i_ior, i_ixor, i_idiv, i_irem, i_ishl, i_ishr, i_ladd, i_lsub, i_land, i_lor, i_i2l, i_lushr, i_lshl, i_lshr, i_lcmp, i_dup, i_pop, i_dx1, i_dup2, i_ifeq, i_ifne, i_iflt, i_ifge, i_ifgt, i_ifle, i_iceq, i_icne, i_iclt, i_icge, i_icgt, i_icle, i_ifn, i_gf, i_pf, i_ial, i_bal, i_lal, i_aal, i_ias, i_las, i_bas, i_aas, i_alen, i_newa, i_new, i_anew, i_cast, i_oi, i_call, i_callV, i_callV2, i_callI, i_iret, i_zret, i_lret, i_vret, i_aret, i_mmx, i_mmn, i_gsE, i_aceq, i_no, i_acq, i_sw, zsw, zlg, zls, znl, zfg, zcs, zsp, zrc, zisn, zft, zc1, zto, Value.category, List.set_cons_zero, List.set_cons_succ, List.length_cons, List.length_nil, Option.toList, List.append, List.nil_append, List.cons_append, true_and, and_true, Nat.add_zero, Nat.zero_le, Nat.zero_add, Nat.le_refl, Nat.reduceAdd, Nat.reduceLeDiff, co0, z0, zn_0, zn_1, zn_2, zn_3, zn_4, zn_5, zn_8, zn_12, zn_24, zn_121, zn_144, zn_256, zn_300, zn_600, zn_720, zn_1204, zn_1280, zn_2400, zn_4816, zn_14400, zn_90000, q_main, m_main, ar_4, ar_5, ar_12, ar_300, ar_600, ar_1200, ar_10, nI_add, ar_1, ar_2, ar_3, ar_2m]
    refine ⟨fun h3 => next (fun q => by rw [zb_0.mp h3] at q; cases q.2), fun h3 => ⟨by decide, ?_⟩⟩
    rw [zd_t ⟨r, hr, zb_n0 h1, zb_n0 h3⟩] at hR
    exact hR) (fun hp => by
    refine s_Mo_isNeeded_9 hC hN _ _ _ _ _ ?_
    have e1 : y_nr (v_re y (re_x y v (nI u))) = y_nr y := rfl
    simp only [B_Mo_isNeeded_0, B_Mo_isNeeded_9, B_Mo_isNeeded_45, B_Mo_isNeeded_51, co_Mo_isNeeded, co_Mo_reach, co_Mo_wants, i_ic, i_lc, i_nul, i_il, i_ll, i_al, i_is, i_as, i_ls, i_inc, i_iadd, i_isub, i_imul, i_iand, i_ior, i_ixor, i_idiv, i_irem, i_ishl, i_ishr, i_ladd, i_lsub, i_land, i_lor, i_i2l, i_lushr, i_lshl, i_lshr, i_lcmp, i_dup, i_pop, i_dx1, i_dup2, i_ifeq, i_ifne, i_iflt, i_ifge, i_ifgt, i_ifle, i_iceq, i_icne, i_iclt, i_icge, i_icgt, i_icle, i_ifn, i_gf, i_pf, i_ial, i_bal, i_lal, i_aal, i_ias, i_las, i_bas, i_aas, i_alen, i_newa, i_new, i_anew, i_cast, i_oi, i_call, i_callV, i_callV2, i_callI, i_iret, i_zret, i_lret, i_vret, i_aret, i_mmx, i_mmn, i_gsE, i_aceq, i_no, i_acq, i_sw, zsw, zlg, zls, znl, zfg, zcs, zsp, zrc, zisn, zft, zc1, zto, Value.category, List.set_cons_zero, List.set_cons_succ, List.length_cons, List.length_nil, Option.toList, List.append, List.nil_append, List.cons_append, true_and, and_true, Nat.add_zero, Nat.zero_le, Nat.zero_add, Nat.le_refl, Nat.reduceAdd, Nat.reduceLeDiff, co0, z0, zn_0, zn_1, zn_2, zn_3, zn_4, zn_5, zn_8, zn_12, zn_24, zn_121, zn_144, zn_256, zn_300, zn_600, zn_720, zn_1204, zn_1280, zn_2400, zn_4816, zn_14400, zn_90000, q_main, m_main, e1]
    rw [zd_f (fun ⟨w, hw, q⟩ => hp w hw q)] at hR
    exact ⟨fun _ => ⟨by decide, hR⟩, fun h => absurd ((zK (K := y_nr y) (by omega) (n := y_nr y) (by omega)).2.1.mpr (Nat.le_refl _)) h⟩) 0 (Nat.zero_le _)
  refine s_Mo_isNeeded_0 hC hN _ _ _ _ _ ?_
  simp only [B_Mo_isNeeded_0, B_Mo_isNeeded_9, B_Mo_isNeeded_45, B_Mo_isNeeded_51, co_Mo_isNeeded, co_Mo_reach, co_Mo_wants, i_ic, i_lc, i_nul, i_il, i_ll, i_al, i_is, i_as, i_ls, i_inc, i_iadd, i_isub, i_imul, i_iand, i_ior, i_ixor, i_idiv, i_irem, i_ishl, i_ishr, i_ladd, i_lsub, i_land, i_lor, i_i2l, i_lushr, i_lshl, i_lshr, i_lcmp, i_dup, i_pop, i_dx1, i_dup2, i_ifeq, i_ifne, i_iflt, i_ifge, i_ifgt, i_ifle, i_iceq, i_icne, i_iclt, i_icge, i_icgt, i_icle, i_ifn, i_gf, i_pf, i_ial, i_bal, i_lal, i_aal, i_ias, i_las, i_bas, i_aas, i_alen, i_newa, i_new, i_anew, i_cast, i_oi, i_call, i_callV, i_callV2, i_callI, i_iret, i_zret, i_lret, i_vret, i_aret, i_mmx, i_mmn, i_gsE, i_aceq, i_no, i_acq, i_sw, zsw, zlg, zls, znl, zfg, zcs, zsp, zrc, zisn, zft, zc1, zto, Value.category, List.set_cons_zero, List.set_cons_succ, List.length_cons, List.length_nil, Option.toList, List.append, List.nil_append, List.cons_append, true_and, and_true, Nat.add_zero, Nat.zero_le, Nat.zero_add, Nat.le_refl, Nat.reduceAdd, Nat.reduceLeDiff, co0, z0, zn_0, zn_1, zn_2, zn_3, zn_4, zn_5, zn_8, zn_12, zn_24, zn_121, zn_144, zn_256, zn_300, zn_600, zn_720, zn_1204, zn_1280, zn_2400, zn_4816, zn_14400, zn_90000, q_main, m_main]
  refine ⟨y, v, nI u, rfl, rfl, hJ, hv, ?_⟩
  simp only [B_Mo_isNeeded_0, B_Mo_isNeeded_9, B_Mo_isNeeded_45, B_Mo_isNeeded_51, co_Mo_isNeeded, co_Mo_reach, co_Mo_wants, i_ic, i_lc, i_nul, i_il, i_ll, i_al, i_is, i_as, i_ls, i_inc, i_iadd, i_isub, i_imul, i_iand, i_ior, i_ixor, i_idiv, i_irem, i_ishl, i_ishr, i_ladd, i_lsub, i_land, i_lor, i_i2l, i_lushr, i_lshl, i_lshr, i_lcmp, i_dup, i_pop, i_dx1, i_dup2, i_ifeq, i_ifne, i_iflt, i_ifge, i_ifgt, i_ifle, i_iceq, i_icne, i_iclt, i_icge, i_icgt, i_icle, i_ifn, i_gf, i_pf, i_ial, i_bal, i_lal, i_aal, i_ias, i_las, i_bas, i_aas, i_alen, i_newa, i_new, i_anew, i_cast, i_oi, i_call, i_callV, i_callV2, i_callI, i_iret, i_zret, i_lret, i_vret, i_aret, i_mmx, i_mmn, i_gsE, i_aceq, i_no, i_acq, i_sw, zsw, zlg, zls, znl, zfg, zcs, zsp, zrc, zisn, zft, zc1, zto, Value.category, List.set_cons_zero, List.set_cons_succ, List.length_cons, List.length_nil, Option.toList, List.append, List.nil_append, List.cons_append, true_and, and_true, Nat.add_zero, Nat.zero_le, Nat.zero_add, Nat.le_refl, Nat.reduceAdd, Nat.reduceLeDiff, co0, z0, zn_0, zn_1, zn_2, zn_3, zn_4, zn_5, zn_8, zn_12, zn_24, zn_121, zn_144, zn_256, zn_300, zn_600, zn_720, zn_1204, zn_1280, zn_2400, zn_4816, zn_14400, zn_90000, q_main, m_main]
  exact loop (fun j hj => absurd hj (Nat.not_lt_zero j))
