/-! what the picture holds -/
theorem p_main (x : zSt) : pic x (0, 0, 0) = some (x_main x) := rfl
theorem p_lane {x : zSt} {l : Nat} (h : l < x_nl x) : pic x (16, l, 0) = some (x_lane x l) := if_pos ⟨h, rfl⟩
theorem p_item {x : zSt} {l : Nat} (h : l < x_nl x) : pic x (17, l, 0) = some (zin 121 (x_li x l)) := if_pos ⟨h, rfl⟩
theorem p_lrs {x : zSt} {l : Nat} (h : l < x_nl x) : pic x (18, l, 0) = some (zra "WishRoutes$Row" 121 (x_lrs x l)) := if_pos ⟨h, rfl⟩
theorem p_rowO {x : zSt} {i j : Nat} {f : Nat → Int64} (h : x_rw x i j = some f) : pic x (5, i, j) = some (.inr (5, [.inr (6, i, j)])) := by
  show (x_rw x i j).map _ = _
  rw [h]; rfl
theorem p_rowW {x : zSt} {i j : Nat} {f : Nat → Int64} (h : x_rw x i j = some f) : pic x (6, i, j) = some (zlo f) := by
  show (x_rw x i j).map _ = _
  rw [h]; rfl
theorem p_row {x : zSt} {i j : Nat} {f : Nat → Int64} (h : x_rw x i j = some f) : zrow (pic x) (5, i, j) (6, i, j) f := ⟨p_rowO h, p_rowW h⟩
theorem r_kn (x : zSt) : x_rw x 0 0 = some (x_kn x) := rfl
theorem r_me (x : zSt) : x_rw x 0 1 = some (x_me x) := rfl
theorem r_lt {x : zSt} {l : Nat} (h : l < x_nl x) : x_rw x 2 l = some (x_lt x l) := if_pos h
theorem r_lb {x : zSt} {l : Nat} (h : l < x_nl x) : x_rw x 3 l = some (x_lb x l) := if_pos h
theorem r_ob {x : zSt} {w : Nat} (h : w < x_ow x) : x_rw x 1 w = some (x_ob x w) := if_pos h
theorem r_lr {x : zSt} {l s : Nat} (h : l < x_nl x) (hs : s < 121) : x_rw x (4 + l) s = x_lr x l s := by
  have : 4 + l - 4 = l := by omega
  have h0 : ¬ 4 + l = 0 := by omega
  have h1 : ¬ 4 + l = 1 := by omega
  have h2 : ¬ 4 + l = 2 := by omega
  have h3 : ¬ 4 + l = 3 := by omega
  simp only [x_rw, h0, h1, h2, h3, if_false, this, h, hs, and_self, if_true]
theorem m_k {k i j : Nat} (h : k < 90) : zmo (k, i, j) := h
/-! lanes -/
def ln_ok (x : zSt) (l : Nat) : Prop := l < x_nl x ∧ x_lz x l ≤ 121 ∧ x_lf x l < 121
def T_Lane_slot (As : List zAV) (M : zMp) (Rt : Option zAV → zMp → Prop) : Prop := ∃ x l i, As = [.inr (16, l, 0), .inl (.int (nI i))] ∧ M = pic x ∧ ln_ok x l ∧ i < 1000 ∧ Rt (some (.inl (.int (nI ((x_lf x l + i) % 121))))) M
abbrev co_Lane_slot := co0
theorem dX1_slot_0 : decode cX1_slot 0 = .ok (.aload_n 0, 1) := by decide +kernel
theorem dX1_slot_1 : decode cX1_slot 1 = .ok (.getfield 33, 3) := by decide +kernel
theorem dX1_slot_4 : decode cX1_slot 4 = .ok (.iload_n 1, 1) := by decide +kernel
theorem dX1_slot_5 : decode cX1_slot 5 = .ok (.iadd, 1) := by decide +kernel
theorem dX1_slot_6 : decode cX1_slot 6 = .ok (.bipush 121, 2) := by decide +kernel
theorem dX1_slot_8 : decode cX1_slot 8 = .ok (.irem, 1) := by decide +kernel
theorem dX1_slot_9 : decode cX1_slot 9 = .ok (.ireturn, 1) := by decide +kernel
def B_Lane_slot_0 (mc ms : Nat) (Rt : Option zAV → zMp → Prop) (g : Nat → zKT) : zKT :=
  (i_al 0 (i_gf 2 5 (i_il 1 (i_iadd (i_ic 121 (i_irem (i_iret mc ms Rt)))))))
set_option maxRecDepth 20000 in
theorem s_Lane_slot_0 {X : zMa} {mc ms : Nat} {Rt : Option zAV → zMp → Prop} (hC : zCx X RX1 cX1_slot 0 0 mc ms (some .int) false Rt) : zLe (B_Lane_slot_0 mc ms Rt (zG X)) (zG X 0) :=
  (sd_al_n hC rfl dX1_slot_0 ((sd_gf hC (ci := 2) (fk := 5) rfl wi_Lane (by decide) fl_Lane_33 (Or.inl rfl) dX1_slot_1 ((sd_il_n hC rfl dX1_slot_4 ((sd_iadd hC dX1_slot_5 ((sd_bipush hC (by decide) dX1_slot_6 ((sd_irem hC dX1_slot_8 ((sd_iret hC dX1_slot_9)))))))))))))
theorem c_Lane_slot (l : Launch) : zCT l yX1_slot cX1_slot 2 (some .int) 0 0 T_Lane_slot co_Lane_slot := by
  intro As M Rt hT
  obtain ⟨x, j, i, rfl, rfl, ⟨h1, h2, h3⟩, h4, hR⟩ := hT
  refine zMet_of false (by decide +kernel) (fun h => by first | rfl | cases h) (Nat.le_of_ble_eq_true rfl) (fun X hN hC => ?_)
  show zG X 0 [some (.inr (16, j, 0)), some (.inl (.int (nI i)))] [] (pic x) 0 0
  refine s_Lane_slot_0 hC _ _ _ _ _ ?_
  simp only [B_Lane_slot_0, co_Lane_slot, i_ic, i_lc, i_nul, i_il, i_ll, i_al, i_is, i_as, i_ls, i_inc, i_iadd, i_isub, i_imul, i_iand, i_ior, i_ixor, i_idiv, i_irem, i_ishl, i_ishr, i_ladd, i_lsub, i_land, i_lor, i_i2l, i_lushr, i_lshl, i_lshr, i_lcmp, i_dup, i_pop, i_dx1, i_dup2, i_ifeq, i_ifne, i_iflt, i_ifge, i_ifgt, i_ifle, i_iceq, i_icne, i_iclt, i_icge, i_icgt, i_icle, i_ifn, i_gf, i_pf, i_ial, i_bal, i_lal, i_aal, i_ias, i_las, i_bas, i_aas, i_alen, i_newa, i_new, i_anew, i_cast, i_oi, i_call, i_callV, i_callV2, i_callI, i_iret, i_zret, i_lret, i_vret, i_aret, i_mmx, i_mmn, i_gsE, i_aceq, i_no, i_acq, i_sw, zsw, zlg, zls, znl, zfg, zcs, zsp, zrc, zisn, zft, zc1, zto, Value.category, List.set_cons_zero, List.set_cons_succ, List.length_cons, List.length_nil, Option.toList, List.append, List.nil_append, List.cons_append, true_and, and_true, Nat.add_zero, Nat.zero_le, Nat.zero_add, Nat.le_refl, Nat.reduceAdd, Nat.reduceLeDiff, co0, z0, zn_0, zn_1, zn_2, zn_3, zn_4, zn_5, zn_8, zn_12, zn_24, zn_121, zn_144, zn_256, zn_300, zn_600, zn_720, zn_1204, zn_1280, zn_2400, zn_4816, zn_14400, zn_90000, p_lane h1, x_lane]
  rw [nI_add]
  refine ⟨by decide, ?_⟩
  have := pk_rem (a := x_lf x j + i) (d := 121) (by omega) (by decide) (by decide)
  rw [show nI 121 = 121 from rfl] at this
  rw [this]
  exact hR
def la_at (x : zSt) (l : Nat) (i : Nat) : Int32 := x_li x l ((x_lf x l + i) % 121)
def la_item (x : zSt) (l : Nat) (i : Int32) : Int32 := if ¬ i < 0 ∧ i < nI (x_lz x l) then la_at x l i.toNatClampNeg else -1
def T_Lane_itemAt (As : List zAV) (M : zMp) (Rt : Option zAV → zMp → Prop) : Prop := ∃ x l i, As = [.inr (16, l, 0), .inl (.int i)] ∧ M = pic x ∧ ln_ok x l ∧ Rt (some (.inl (.int (la_item x l i)))) M
abbrev co_Lane_itemAt := co0
theorem dX1_itemAt_0 : decode cX1_itemAt 0 = .ok (.iload_n 1, 1) := by decide +kernel
theorem dX1_itemAt_1 : decode cX1_itemAt 1 = .ok (.ifCond .lt 24, 3) := by decide +kernel
theorem dX1_itemAt_4 : decode cX1_itemAt 4 = .ok (.iload_n 1, 1) := by decide +kernel
theorem dX1_itemAt_5 : decode cX1_itemAt 5 = .ok (.aload_n 0, 1) := by decide +kernel
theorem dX1_itemAt_6 : decode cX1_itemAt 6 = .ok (.getfield 21, 3) := by decide +kernel
theorem dX1_itemAt_9 : decode cX1_itemAt 9 = .ok (.if_icmp .ge 16, 3) := by decide +kernel
theorem dX1_itemAt_12 : decode cX1_itemAt 12 = .ok (.aload_n 0, 1) := by decide +kernel
theorem dX1_itemAt_13 : decode cX1_itemAt 13 = .ok (.getfield 25, 3) := by decide +kernel
theorem dX1_itemAt_16 : decode cX1_itemAt 16 = .ok (.aload_n 0, 1) := by decide +kernel
theorem dX1_itemAt_17 : decode cX1_itemAt 17 = .ok (.iload_n 1, 1) := by decide +kernel
theorem dX1_itemAt_18 : decode cX1_itemAt 18 = .ok (.invokevirtual 36, 3) := by decide +kernel
theorem dX1_itemAt_21 : decode cX1_itemAt 21 = .ok (.iaload, 1) := by decide +kernel
theorem dX1_itemAt_22 : decode cX1_itemAt 22 = .ok (.goto 4, 3) := by decide +kernel
theorem dX1_itemAt_25 : decode cX1_itemAt 25 = .ok (.iconst (-1), 1) := by decide +kernel
theorem dX1_itemAt_26 : decode cX1_itemAt 26 = .ok (.ireturn, 1) := by decide +kernel
def B_Lane_itemAt_26 (mc ms : Nat) (Rt : Option zAV → zMp → Prop) (g : Nat → zKT) : zKT :=
  (i_iret mc ms Rt)
set_option maxRecDepth 20000 in
theorem s_Lane_itemAt_26 {X : zMa} {mc ms : Nat} {Rt : Option zAV → zMp → Prop} (hC : zCx X RX1 cX1_itemAt 1 21 mc ms (some .int) false Rt) : zLe (B_Lane_itemAt_26 mc ms Rt (zG X)) (zG X 26) :=
  (sd_iret hC dX1_itemAt_26)
def B_Lane_itemAt_25 (mc ms : Nat) (Rt : Option zAV → zMp → Prop) (g : Nat → zKT) : zKT :=
  (i_ic (-1) (B_Lane_itemAt_26 mc ms Rt g))
set_option maxRecDepth 20000 in
theorem s_Lane_itemAt_25 {X : zMa} {mc ms : Nat} {Rt : Option zAV → zMp → Prop} (hC : zCx X RX1 cX1_itemAt 1 21 mc ms (some .int) false Rt) : zLe (B_Lane_itemAt_25 mc ms Rt (zG X)) (zG X 25) :=
  (sd_iconst hC (by decide) dX1_itemAt_25 (s_Lane_itemAt_26 hC))
def B_Lane_itemAt_0 (mc ms : Nat) (Rt : Option zAV → zMp → Prop) (g : Nat → zKT) : zKT :=
  (i_il 1 (i_iflt (B_Lane_itemAt_25 mc ms Rt g) (i_il 1 (i_al 0 (i_gf 2 2 (i_icge (B_Lane_itemAt_25 mc ms Rt g) (i_al 0 (i_gf 2 3 (i_al 0 (i_il 1 (i_callV mc ms 2 2 T_Lane_slot co_Lane_slot (i_ial (B_Lane_itemAt_26 mc ms Rt g)))))))))))))
set_option maxRecDepth 20000 in
theorem s_Lane_itemAt_0 {X : zMa} {mc ms : Nat} {Rt : Option zAV → zMp → Prop} (hC : zCx X RX1 cX1_itemAt 1 21 mc ms (some .int) false Rt) : zLe (B_Lane_itemAt_0 mc ms Rt (zG X)) (zG X 0) :=
  (sd_il_n hC rfl dX1_itemAt_0 ((sd_iflt hC (tgt := 25) (by decide) dX1_itemAt_1 (s_Lane_itemAt_25 hC) ((sd_il_n hC rfl dX1_itemAt_4 ((sd_al_n hC rfl dX1_itemAt_5 ((sd_gf hC (ci := 2) (fk := 2) rfl wi_Lane (by decide) fl_Lane_21 (Or.inl rfl) dX1_itemAt_6 ((sd_icge hC (tgt := 25) (by decide) dX1_itemAt_9 (s_Lane_itemAt_25 hC) ((sd_al_n hC rfl dX1_itemAt_12 ((sd_gf hC (ci := 2) (fk := 3) rfl wi_Lane (by decide) fl_Lane_25 (Or.inl rfl) dX1_itemAt_13 ((sd_al_n hC rfl dX1_itemAt_16 ((sd_il_n hC rfl dX1_itemAt_17 ((sd_cV hC c_Lane_slot yv_Lane_slot (ci := 2) rfl rfl ml_Lane_36 (by decide) (by decide) dX1_itemAt_18 ((sd_ial hC dX1_itemAt_21 ((sd_goto hC (tgt := 26) (by decide) dX1_itemAt_22 (s_Lane_itemAt_26 hC))))))))))))))))))))))))))
theorem c_Lane_itemAt (l : Launch) : zCT l yX1_itemAt cX1_itemAt 2 (some .int) 1 21 T_Lane_itemAt co_Lane_itemAt := by
  intro As M Rt hT
  obtain ⟨x, j, i, rfl, rfl, ⟨h1, h2, h3⟩, hR⟩ := hT
  refine zMet_of false (by decide +kernel) (fun h => by first | rfl | cases h) (Nat.le_of_ble_eq_true rfl) (fun X hN hC => ?_)
  show zG X 0 [some (.inr (16, j, 0)), some (.inl (.int i))] [] (pic x) 0 0
  refine s_Lane_itemAt_0 hC _ _ _ _ _ ?_
  simp only [B_Lane_itemAt_0, B_Lane_itemAt_25, B_Lane_itemAt_26, co_Lane_itemAt, co_Lane_slot, i_ic, i_lc, i_nul, i_il, i_ll, i_al, i_is, i_as, i_ls, i_inc, i_iadd, i_isub, i_imul, i_iand, i_ior, i_ixor, i_idiv, i_irem, i_ishl, i_ishr, i_ladd, i_lsub, i_land, i_lor, i_i2l, i_lushr, i_lshl, i_lshr, i_lcmp, i_dup, i_pop, i_dx1, i_dup2, i_ifeq, i_ifne, i_iflt, i_ifge, i_ifgt, i_ifle, i_iceq, i_icne, i_iclt, i_icge, i_icgt, i_icle, i_ifn, i_gf, i_pf, i_ial, i_bal, i_lal, i_aal, i_ias, i_las, i_bas, i_aas, i_alen, i_newa, i_new, i_anew, i_cast, i_oi, i_call, i_callV, i_callV2, i_callI, i_iret, i_zret, i_lret, i_vret, i_aret, i_mmx, i_mmn, i_gsE, i_aceq, i_no, i_acq, i_sw, zsw, zlg, zls, znl, zfg, zcs, zsp, zrc, zisn, zft, zc1, zto, Value.category, List.set_cons_zero, List.set_cons_succ, List.length_cons, List.length_nil, Option.toList, List.append, List.nil_append, List.cons_append, true_and, and_true, Nat.add_zero, Nat.zero_le, Nat.zero_add, Nat.le_refl, Nat.reduceAdd, Nat.reduceLeDiff, co0, z0, zn_0, zn_1, zn_2, zn_3, zn_4, zn_5, zn_8, zn_12, zn_24, zn_121, zn_144, zn_256, zn_300, zn_600, zn_720, zn_1204, zn_1280, zn_2400, zn_4816, zn_14400, zn_90000, p_lane h1, x_lane]
  unfold la_item at hR
  refine ⟨fun h => ?_, fun h => ⟨fun h' => ?_, fun h' => ?_⟩⟩
  · rw [if_neg (fun q => q.1 h)] at hR; exact hR
  · rw [if_neg (fun q => absurd q.2 (Int32.not_lt.mpr h'))] at hR; exact hR
  · rw [if_pos ⟨h, Int32.not_le.mp h'⟩] at hR
    obtain ⟨a, ha, rfl⟩ : ∃ a : Nat, a < 121 ∧ i = nI a := by
      obtain ⟨a, ha, rfl⟩ := nI_of h
      refine ⟨a, ?_, rfl⟩
      have := (nI_ltI ha (by omega)).mp (Int32.not_le.mp h')
      omega
    refine ⟨x, j, a, rfl, rfl, ⟨h1, h2, h3⟩, by omega, ?_⟩
    simp only [p_item h1, i_ic, i_lc, i_nul, i_il, i_ll, i_al, i_is, i_as, i_ls, i_inc, i_iadd, i_isub, i_imul, i_iand, i_ior, i_ixor, i_idiv, i_irem, i_ishl, i_ishr, i_ladd, i_lsub, i_land, i_lor, i_i2l, i_lushr, i_lshl, i_lshr, i_lcmp, i_dup, i_pop, i_dx1, i_dup2, i_ifeq, i_ifne, i_iflt, i_ifge, i_ifgt, i_ifle, i_iceq, i_icne, i_iclt, i_icge, i_icgt, i_icle, i_ifn, i_gf, i_pf, i_ial, i_bal, i_lal, i_aal, i_ias, i_las, i_bas, i_aas, i_alen, i_newa, i_new, i_anew, i_cast, i_oi, i_call, i_callV, i_callV2, i_callI, i_iret, i_zret, i_lret, i_vret, i_aret, i_mmx, i_mmn, i_gsE, i_aceq, i_no, i_acq, i_sw, zsw, zlg, zls, znl, zfg, zcs, zsp, zrc, zisn, zft, zc1, zto, Value.category, List.set_cons_zero, List.set_cons_succ, List.length_cons, List.length_nil, Option.toList, List.append, List.nil_append, List.cons_append, true_and, and_true, Nat.add_zero, Nat.zero_le, Nat.zero_add, Nat.le_refl, Nat.reduceAdd, Nat.reduceLeDiff, co0, z0, zn_0, zn_1, zn_2, zn_3, zn_4, zn_5, zn_8, zn_12, zn_24, zn_121, zn_144, zn_256, zn_300, zn_600, zn_720, zn_1204, zn_1280, zn_2400, zn_4816, zn_14400, zn_90000]
    rw [nI_clamp (by omega)] at hR
    rw [nI_clamp (Nat.lt_trans (Nat.mod_lt _ (by decide)) (by decide))]
    exact ⟨vp_in_nI (Nat.mod_lt _ (by decide)) (by decide), hR⟩
/-- one item more -/
def la_push (x : zSt) (l : Nat) (v : Int32) : zSt := u_lz (u_li x (va_up (x_li x) l (upd (x_li x l) ((x_lf x l + x_lz x l) % 121) v))) (va_up (x_lz x) l (x_lz x l + 1))
def T_Lane_putNotice (As : List zAV) (M : zMp) (Rt : Option zAV → zMp → Prop) : Prop := ∃ x l v, As = [.inr (16, l, 0), .inl (.int v)] ∧ M = pic x ∧ ln_ok x l ∧ Rt none (pic (if x_lz x l < 121 then la_push x l v else x))
abbrev co_Lane_putNotice := co0
theorem dX1_putNotice_0 : decode cX1_putNotice 0 = .ok (.aload_n 0, 1) := by decide +kernel
theorem dX1_putNotice_1 : decode cX1_putNotice 1 = .ok (.getfield 21, 3) := by decide +kernel
theorem dX1_putNotice_4 : decode cX1_putNotice 4 = .ok (.bipush 121, 2) := by decide +kernel
theorem dX1_putNotice_6 : decode cX1_putNotice 6 = .ok (.if_icmp .ge 27, 3) := by decide +kernel
theorem dX1_putNotice_9 : decode cX1_putNotice 9 = .ok (.aload_n 0, 1) := by decide +kernel
theorem dX1_putNotice_10 : decode cX1_putNotice 10 = .ok (.getfield 25, 3) := by decide +kernel
theorem dX1_putNotice_13 : decode cX1_putNotice 13 = .ok (.aload_n 0, 1) := by decide +kernel
theorem dX1_putNotice_14 : decode cX1_putNotice 14 = .ok (.aload_n 0, 1) := by decide +kernel
theorem dX1_putNotice_15 : decode cX1_putNotice 15 = .ok (.getfield 21, 3) := by decide +kernel
theorem dX1_putNotice_18 : decode cX1_putNotice 18 = .ok (.invokevirtual 36, 3) := by decide +kernel
theorem dX1_putNotice_21 : decode cX1_putNotice 21 = .ok (.iload_n 1, 1) := by decide +kernel
theorem dX1_putNotice_22 : decode cX1_putNotice 22 = .ok (.iastore, 1) := by decide +kernel
theorem dX1_putNotice_23 : decode cX1_putNotice 23 = .ok (.aload_n 0, 1) := by decide +kernel
theorem dX1_putNotice_24 : decode cX1_putNotice 24 = .ok (.dup, 1) := by decide +kernel
theorem dX1_putNotice_25 : decode cX1_putNotice 25 = .ok (.getfield 21, 3) := by decide +kernel
theorem dX1_putNotice_28 : decode cX1_putNotice 28 = .ok (.iconst 1, 1) := by decide +kernel
theorem dX1_putNotice_29 : decode cX1_putNotice 29 = .ok (.iadd, 1) := by decide +kernel
theorem dX1_putNotice_30 : decode cX1_putNotice 30 = .ok (.putfield 21, 3) := by decide +kernel
theorem dX1_putNotice_33 : decode cX1_putNotice 33 = .ok (.return_, 1) := by decide +kernel
def B_Lane_putNotice_33 (mc ms : Nat) (Rt : Option zAV → zMp → Prop) (g : Nat → zKT) : zKT :=
  (i_vret mc ms Rt)
set_option maxRecDepth 20000 in
theorem s_Lane_putNotice_33 {X : zMa} {mc ms : Nat} {Rt : Option zAV → zMp → Prop} (hC : zCx X RX1 cX1_putNotice 1 21 mc ms (none) false Rt) : zLe (B_Lane_putNotice_33 mc ms Rt (zG X)) (zG X 33) :=
  (sd_vret hC dX1_putNotice_33)
def B_Lane_putNotice_0 (mc ms : Nat) (Rt : Option zAV → zMp → Prop) (g : Nat → zKT) : zKT :=
  (i_al 0 (i_gf 2 2 (i_ic 121 (i_icge (B_Lane_putNotice_33 mc ms Rt g) (i_al 0 (i_gf 2 3 (i_al 0 (i_al 0 (i_gf 2 2 (i_callV mc ms 2 2 T_Lane_slot co_Lane_slot (i_il 1 (i_ias (i_al 0 (i_dup (i_gf 2 2 (i_ic 1 (i_iadd (i_pf 2 2 .int (B_Lane_putNotice_33 mc ms Rt g)))))))))))))))))))
set_option maxRecDepth 20000 in
theorem s_Lane_putNotice_0 {X : zMa} {mc ms : Nat} {Rt : Option zAV → zMp → Prop} (hC : zCx X RX1 cX1_putNotice 1 21 mc ms (none) false Rt) : zLe (B_Lane_putNotice_0 mc ms Rt (zG X)) (zG X 0) :=
  (sd_al_n hC rfl dX1_putNotice_0 ((sd_gf hC (ci := 2) (fk := 2) rfl wi_Lane (by decide) fl_Lane_21 (Or.inl rfl) dX1_putNotice_1 ((sd_bipush hC (by decide) dX1_putNotice_4 ((sd_icge hC (tgt := 33) (by decide) dX1_putNotice_6 (s_Lane_putNotice_33 hC) ((sd_al_n hC rfl dX1_putNotice_9 ((sd_gf hC (ci := 2) (fk := 3) rfl wi_Lane (by decide) fl_Lane_25 (Or.inl rfl) dX1_putNotice_10 ((sd_al_n hC rfl dX1_putNotice_13 ((sd_al_n hC rfl dX1_putNotice_14 ((sd_gf hC (ci := 2) (fk := 2) rfl wi_Lane (by decide) fl_Lane_21 (Or.inl rfl) dX1_putNotice_15 ((sd_cV hC c_Lane_slot yv_Lane_slot (ci := 2) rfl rfl ml_Lane_36 (by decide) (by decide) dX1_putNotice_18 ((sd_il_n hC rfl dX1_putNotice_21 ((sd_ias hC dX1_putNotice_22 ((sd_al_n hC rfl dX1_putNotice_23 ((sd_dup hC dX1_putNotice_24 ((sd_gf hC (ci := 2) (fk := 2) rfl wi_Lane (by decide) fl_Lane_21 (Or.inl rfl) dX1_putNotice_25 ((sd_iconst hC (by decide) dX1_putNotice_28 ((sd_iadd hC dX1_putNotice_29 ((sd_pf hC (ci := 2) (fk := 2) rfl wi_Lane tyX1 tyX1_ok nmX1 (by decide) fl_Lane_21 (Or.inl rfl) (Or.inl rfl) dX1_putNotice_30 (s_Lane_putNotice_33 hC))))))))))))))))))))))))))))))))))))
theorem c_Lane_putNotice (l : Launch) : zCT l yX1_putNotice cX1_putNotice 2 (none) 1 21 T_Lane_putNotice co_Lane_putNotice := by
  intro As M Rt hT
  obtain ⟨x, j, v, rfl, rfl, ⟨h1, h2, h3⟩, hR⟩ := hT
  refine zMet_of false (by decide +kernel) (fun h => by first | rfl | cases h) (Nat.le_of_ble_eq_true rfl) (fun X hN hC => ?_)
  show zG X 0 [some (.inr (16, j, 0)), some (.inl (.int v))] [] (pic x) 0 0
  refine s_Lane_putNotice_0 hC _ _ _ _ _ ?_
  simp only [B_Lane_putNotice_0, B_Lane_putNotice_33, co_Lane_putNotice, co_Lane_slot, i_ic, i_lc, i_nul, i_il, i_ll, i_al, i_is, i_as, i_ls, i_inc, i_iadd, i_isub, i_imul, i_iand, i_ior, i_ixor, i_idiv, i_irem, i_ishl, i_ishr, i_ladd, i_lsub, i_land, i_lor, i_i2l, i_lushr, i_lshl, i_lshr, i_lcmp, i_dup, i_pop, i_dx1, i_dup2, i_ifeq, i_ifne, i_iflt, i_ifge, i_ifgt, i_ifle, i_iceq, i_icne, i_iclt, i_icge, i_icgt, i_icle, i_ifn, i_gf, i_pf, i_ial, i_bal, i_lal, i_aal, i_ias, i_las, i_bas, i_aas, i_alen, i_newa, i_new, i_anew, i_cast, i_oi, i_call, i_callV, i_callV2, i_callI, i_iret, i_zret, i_lret, i_vret, i_aret, i_mmx, i_mmn, i_gsE, i_aceq, i_no, i_acq, i_sw, zsw, zlg, zls, znl, zfg, zcs, zsp, zrc, zisn, zft, zc1, zto, Value.category, List.set_cons_zero, List.set_cons_succ, List.length_cons, List.length_nil, Option.toList, List.append, List.nil_append, List.cons_append, true_and, and_true, Nat.add_zero, Nat.zero_le, Nat.zero_add, Nat.le_refl, Nat.reduceAdd, Nat.reduceLeDiff, co0, z0, zn_0, zn_1, zn_2, zn_3, zn_4, zn_5, zn_8, zn_12, zn_24, zn_121, zn_144, zn_256, zn_300, zn_600, zn_720, zn_1204, zn_1280, zn_2400, zn_4816, zn_14400, zn_90000, p_lane h1, p_item h1, x_lane]
  have hK := (zK (K := 121) (by decide) (n := x_lz x j) (by omega)).2.1
  refine ⟨fun h => ?_, fun h => ⟨x, j, x_lz x j, rfl, rfl, ⟨h1, h2, h3⟩, by omega, ?_⟩⟩
  · rw [if_neg (by have := hK.mp h; omega)] at hR
    exact hR
  · have hlt : x_lz x j < 121 := by
      have : ¬ 121 ≤ x_lz x j := fun z => h (hK.mpr z)
      omega
    rw [if_pos hlt] at hR
    simp only [p_item h1, i_ic, i_lc, i_nul, i_il, i_ll, i_al, i_is, i_as, i_ls, i_inc, i_iadd, i_isub, i_imul, i_iand, i_ior, i_ixor, i_idiv, i_irem, i_ishl, i_ishr, i_ladd, i_lsub, i_land, i_lor, i_i2l, i_lushr, i_lshl, i_lshr, i_lcmp, i_dup, i_pop, i_dx1, i_dup2, i_ifeq, i_ifne, i_iflt, i_ifge, i_ifgt, i_ifle, i_iceq, i_icne, i_iclt, i_icge, i_icgt, i_icle, i_ifn, i_gf, i_pf, i_ial, i_bal, i_lal, i_aal, i_ias, i_las, i_bas, i_aas, i_alen, i_newa, i_new, i_anew, i_cast, i_oi, i_call, i_callV, i_callV2, i_callI, i_iret, i_zret, i_lret, i_vret, i_aret, i_mmx, i_mmn, i_gsE, i_aceq, i_no, i_acq, i_sw, zsw, zlg, zls, znl, zfg, zcs, zsp, zrc, zisn, zft, zc1, zto, Value.category, List.set_cons_zero, List.set_cons_succ, List.length_cons, List.length_nil, Option.toList, List.append, List.nil_append, List.cons_append, true_and, and_true, Nat.add_zero, Nat.zero_le, Nat.zero_add, Nat.le_refl, Nat.reduceAdd, Nat.reduceLeDiff, co0, z0, zn_0, zn_1, zn_2, zn_3, zn_4, zn_5, zn_8, zn_12, zn_24, zn_121, zn_144, zn_256, zn_300, zn_600, zn_720, zn_1204, zn_1280, zn_2400, zn_4816, zn_14400, zn_90000]
    refine ⟨m_k (by decide), vp_in_nI (Nat.mod_lt _ (by decide)) (by decide), ?_⟩
    rw [nI_clamp (Nat.lt_trans (Nat.mod_lt _ (by decide)) (by decide)), pu_li x j _ h1]
    have h1' : j < x_nl (u_li x (va_up (x_li x) j (upd (x_li x j) ((x_lf x j + x_lz x j) % 121) v))) := h1
    simp only [p_lane h1', x_lane, g_dk_li, g_lk_li, g_po_li, g_ne_li, g_td_li, g_nb_li, g_ln_li, g_nr_li, g_nw_li, g_nn_li, g_ns_li, g_or_li, g_ow_li, g_on_li, g_nl_li, g_ng_li, g_rg_li, g_lc_li, g_cp_li, g_gb_li, g_sp_li, g_kn_li, g_me_li, g_ob_li, g_fk_li, g_fz_li, g_fg_li, g_rd_li, g_rz_li, g_rh_li, g_nd_li, g_nm_li, g_nv_li, g_nh_li, g_nf_li, g_wr_li, g_wa_li, g_lz_li, g_lf_li, g_li_li, g_lt_li, g_lb_li, g_lr_li, g_tn_li, g_tf_li, i_ic, i_lc, i_nul, i_il, i_ll, i_al, i_is, i_as, i_ls, i_inc, i_iadd, i_isub, i_imul, i_iand, i_ior, i_ixor, i_idiv, i_irem, i_ishl, i_ishr, i_ladd, i_lsub, i_land, i_lor, i_i2l, i_lushr, i_lshl, i_lshr, i_lcmp, i_dup, i_pop, i_dx1, i_dup2, i_ifeq, i_ifne, i_iflt, i_ifge, i_ifgt, i_ifle, i_iceq, i_icne, i_iclt, i_icge, i_icgt, i_icle, i_ifn, i_gf, i_pf, i_ial, i_bal, i_lal, i_aal, i_ias, i_las, i_bas, i_aas, i_alen, i_newa, i_new, i_anew, i_cast, i_oi, i_call, i_callV, i_callV2, i_callI, i_iret, i_zret, i_lret, i_vret, i_aret, i_mmx, i_mmn, i_gsE, i_aceq, i_no, i_acq, i_sw, zsw, zlg, zls, znl, zfg, zcs, zsp, zrc, zisn, zft, zc1, zto, Value.category, List.set_cons_zero, List.set_cons_succ, List.length_cons, List.length_nil, Option.toList, List.append, List.nil_append, List.cons_append, true_and, and_true, Nat.add_zero, Nat.zero_le, Nat.zero_add, Nat.le_refl, Nat.reduceAdd, Nat.reduceLeDiff, co0, z0, zn_0, zn_1, zn_2, zn_3, zn_4, zn_5, zn_8, zn_12, zn_24, zn_121, zn_144, zn_256, zn_300, zn_600, zn_720, zn_1204, zn_1280, zn_2400, zn_4816, zn_14400, zn_90000]
    rw [nI_1]
    refine ⟨m_k (by decide), by decide, ?_⟩
    refine zM (P := Rt none) ?_ hR
    refine Eq.trans ?_ (pu_lz (u_li x (va_up (x_li x) j (upd (x_li x j) ((x_lf x j + x_lz x j) % 121) v))) j (x_lz x j + 1) h1')
    simp only [x_lane, g_dk_li, g_lk_li, g_po_li, g_ne_li, g_td_li, g_nb_li, g_ln_li, g_nr_li, g_nw_li, g_nn_li, g_ns_li, g_or_li, g_ow_li, g_on_li, g_nl_li, g_ng_li, g_rg_li, g_lc_li, g_cp_li, g_gb_li, g_sp_li, g_kn_li, g_me_li, g_ob_li, g_fk_li, g_fz_li, g_fg_li, g_rd_li, g_rz_li, g_rh_li, g_nd_li, g_nm_li, g_nv_li, g_nh_li, g_nf_li, g_wr_li, g_wa_li, g_lz_li, g_lf_li, g_li_li, g_lt_li, g_lb_li, g_lr_li, g_tn_li, g_tf_li, g_dk_lz, g_lk_lz, g_po_lz, g_ne_lz, g_td_lz, g_nb_lz, g_ln_lz, g_nr_lz, g_nw_lz, g_nn_lz, g_ns_lz, g_or_lz, g_ow_lz, g_on_lz, g_nl_lz, g_ng_lz, g_rg_lz, g_lc_lz, g_cp_lz, g_gb_lz, g_sp_lz, g_kn_lz, g_me_lz, g_ob_lz, g_fk_lz, g_fz_lz, g_fg_lz, g_rd_lz, g_rz_lz, g_rh_lz, g_nd_lz, g_nm_lz, g_nv_lz, g_nh_lz, g_nf_lz, g_wr_lz, g_wa_lz, g_lz_lz, g_lf_lz, g_li_lz, g_lt_lz, g_lb_lz, g_lr_lz, g_tn_lz, g_tf_lz, va_up, if_true]
/-- the row at a slot: made if there is none -/
def la_mk (x : zSt) (l s : Nat) : zSt := if x_lr x l s = none then u_lr x (va_u2 (x_lr x) l s (some (fun _ => 0))) else x
theorem la_mk_some (x : zSt) (l s : Nat) : ∃ f, x_lr (la_mk x l s) l s = some f := by
  unfold la_mk
  split
  · exact ⟨fun _ => 0, by rw [g_lr_lr]; simp [va_u2]⟩
  · next h => exact Option.ne_none_iff_exists'.mp h
theorem pu_mk (x : zSt) (l s : Nat) (hl : l < x_nl x) (hs : s < 121) (hm : x_lr x l s = none) (e0 : zAE) : zup (zup (zup (zup (pic x) (5, 4 + l, s) e0) (6, 4 + l, s) (zlo (fun _ => 0))) (5, 4 + l, s) (.inr (5, [.inr (6, 4 + l, s)]))) (18, l, 0) (zra "WishRoutes$Row" 121 (va_up (x_lrs x l) s (some (5, 4 + l, s)))) = pic (u_lr x (va_u2 (x_lr x) l s (some (fun _ => 0)))) := by
  have e : ∀ a b, x_lr (u_lr x (va_u2 (x_lr x) l s (some (fun _ => 0)))) a b = if a = l ∧ b = s then some (fun _ => 0) else x_lr x a b := fun a b => by rw [g_lr_lr]; rfl
  have h1 : l < x_nl (u_lr x (va_u2 (x_lr x) l s (some (fun _ => 0)))) := hl
  have er := r_lr h1 hs
  rw [e, if_pos ⟨rfl, rfl⟩] at er
  funext n
  by_cases h18 : n = (18, l, 0)
  · subst h18
    rw [zup_s, p_lrs h1]
    congr 5
    funext t
    simp only [x_lrs, va_up, e, true_and]
    by_cases ht : t = s
    · subst ht; simp [hs]
    · simp [ht]
  rw [zup_o h18]
  by_cases h5 : n = (5, 4 + l, s)
  · subst h5
    rw [zup_s, p_rowO er]
  rw [zup_o h5]
  by_cases h6 : n = (6, 4 + l, s)
  · subst h6
    rw [zup_s, p_rowW er]
  rw [zup_o h6, zup_o h5]
  obtain ⟨k, i, j⟩ := n
  have hrw : ¬ (i = 4 + l ∧ j = s) → x_rw x i j = x_rw (u_lr x (va_u2 (x_lr x) l s (some (fun _ => 0)))) i j := by
    intro hn
    simp only [x_rw, e, g_dk_lr, g_lk_lr, g_po_lr, g_ne_lr, g_td_lr, g_nb_lr, g_ln_lr, g_nr_lr, g_nw_lr, g_nn_lr, g_ns_lr, g_or_lr, g_ow_lr, g_on_lr, g_nl_lr, g_ng_lr, g_rg_lr, g_lc_lr, g_cp_lr, g_gb_lr, g_sp_lr, g_kn_lr, g_me_lr, g_ob_lr, g_fk_lr, g_fz_lr, g_fg_lr, g_rd_lr, g_rz_lr, g_rh_lr, g_nd_lr, g_nm_lr, g_nv_lr, g_nh_lr, g_nf_lr, g_wr_lr, g_wa_lr, g_lz_lr, g_lf_lr, g_li_lr, g_lt_lr, g_lb_lr, g_lr_lr, g_tn_lr, g_tf_lr]
    by_cases h4 : i - 4 = l ∧ j = s
    · by_cases h0 : i = 0
      · subst h0; rfl
      by_cases h1 : i = 1
      · subst h1; rfl
      by_cases h2 : i = 2
      · subst h2; rfl
      by_cases h3 : i = 3
      · subst h3; rfl
      exact absurd ⟨by omega, h4.2⟩ hn
    · simp only [h4, if_false]
      rfl
  rcases k with _ | _ | _ | _ | _ | _ | _ | _ | _ | _ | _ | _ | _ | _ | _ | _ | _ | _ | _ | k
  all_goals first | rfl | skip
  · show (x_rw x i j).map _ = (x_rw _ i j).map _
    rw [hrw (fun h => h5 (by rw [h.1, h.2]))]
  · show (x_rw x i j).map _ = (x_rw _ i j).map _
    rw [hrw (fun h => h6 (by rw [h.1, h.2]))]
  · by_cases hi : i < x_nl x ∧ j = 0
    · have hil : i ≠ l := fun q => h18 (by rw [q, hi.2])
      have el : x_lrs x i = x_lrs (u_lr x (va_u2 (x_lr x) l s (some (fun _ => 0)))) i := by
        funext t
        simp only [x_lrs, e, hil, false_and, if_false]
      refine (if_pos hi).trans (Eq.trans ?_ (if_pos hi).symm)
      rw [el]
    · exact (if_neg hi).trans (if_neg hi).symm
/-- a row costs two cells, six slots -/
def T_Lane_rowAt (As : List zAV) (M : zMp) (Rt : Option zAV → zMp → Prop) (c1 c2 : Nat) : Prop := ∃ x l s, As = [.inr (16, l, 0), .inl (.int (nI s))] ∧ M = pic x ∧ l < x_nl x ∧ s < 121 ∧ (x_lr x l s = none → 2 ≤ c1 ∧ 6 ≤ c2) ∧ Rt (some (.inr (5, 4 + l, s))) (pic (la_mk x l s))
theorem dX1_rowAt_0 : decode cX1_rowAt 0 = .ok (.aload_n 0, 1) := by decide +kernel
theorem dX1_rowAt_1 : decode cX1_rowAt 1 = .ok (.getfield 29, 3) := by decide +kernel
theorem dX1_rowAt_4 : decode cX1_rowAt 4 = .ok (.iload_n 1, 1) := by decide +kernel
theorem dX1_rowAt_5 : decode cX1_rowAt 5 = .ok (.aaload, 1) := by decide +kernel
theorem dX1_rowAt_6 : decode cX1_rowAt 6 = .ok (.ifnonnull 16, 3) := by decide +kernel
theorem dX1_rowAt_9 : decode cX1_rowAt 9 = .ok (.aload_n 0, 1) := by decide +kernel
theorem dX1_rowAt_10 : decode cX1_rowAt 10 = .ok (.getfield 29, 3) := by decide +kernel
theorem dX1_rowAt_13 : decode cX1_rowAt 13 = .ok (.iload_n 1, 1) := by decide +kernel
theorem dX1_rowAt_14 : decode cX1_rowAt 14 = .ok (.new 9, 3) := by decide +kernel
theorem dX1_rowAt_17 : decode cX1_rowAt 17 = .ok (.dup, 1) := by decide +kernel
theorem dX1_rowAt_18 : decode cX1_rowAt 18 = .ok (.invokespecial 11, 3) := by decide +kernel
theorem dX1_rowAt_21 : decode cX1_rowAt 21 = .ok (.aastore, 1) := by decide +kernel
theorem dX1_rowAt_22 : decode cX1_rowAt 22 = .ok (.aload_n 0, 1) := by decide +kernel
theorem dX1_rowAt_23 : decode cX1_rowAt 23 = .ok (.getfield 29, 3) := by decide +kernel
theorem dX1_rowAt_26 : decode cX1_rowAt 26 = .ok (.iload_n 1, 1) := by decide +kernel
theorem dX1_rowAt_27 : decode cX1_rowAt 27 = .ok (.aaload, 1) := by decide +kernel
theorem dX1_rowAt_28 : decode cX1_rowAt 28 = .ok (.areturn, 1) := by decide +kernel
def B_Lane_rowAt_22 (mc ms : Nat) (Rt : Option zAV → zMp → Prop) (g : Nat → zKT) : zKT :=
  (i_al 0 (i_gf 2 4 (i_il 1 (i_aal "WishRoutes$Row" (i_aret mc ms Rt)))))
set_option maxRecDepth 20000 in
theorem s_Lane_rowAt_22 {X : zMa} {mc ms : Nat} {Rt : Option zAV → zMp → Prop} (hC : zCx X RX1 cX1_rowAt 2 40 mc ms (some (.object "WishRoutes$Row")) false Rt) : zLe (B_Lane_rowAt_22 mc ms Rt (zG X)) (zG X 22) :=
  (sd_al_n hC rfl dX1_rowAt_22 ((sd_gf hC (ci := 2) (fk := 4) rfl wi_Lane (by decide) fl_Lane_29 (Or.inl rfl) dX1_rowAt_23 ((sd_il_n hC rfl dX1_rowAt_26 ((sd_aal hC dX1_rowAt_27 ((sd_aret hC (Or.inl ⟨_, rfl⟩) dX1_rowAt_28)))))))))
def B_Lane_rowAt_0 (mc ms : Nat) (Rt : Option zAV → zMp → Prop) (g : Nat → zKT) : zKT :=
  (i_al 0 (i_gf 2 4 (i_il 1 (i_aal "WishRoutes$Row" (i_ifn (i_al 0 (i_gf 2 4 (i_il 1 (i_new mc ms 5 1 [.inl .null] (i_dup (i_callI mc ms 1 T_Row_init co_Row_init (i_aas "WishRoutes$Row" (B_Lane_rowAt_22 mc ms Rt g)))))))) (B_Lane_rowAt_22 mc ms Rt g))))))
set_option maxRecDepth 20000 in
theorem s_Lane_rowAt_0 {X : zMa} {mc ms : Nat} {Rt : Option zAV → zMp → Prop} (hC : zCx X RX1 cX1_rowAt 2 40 mc ms (some (.object "WishRoutes$Row")) false Rt) : zLe (B_Lane_rowAt_0 mc ms Rt (zG X)) (zG X 0) :=
  (sd_al_n hC rfl dX1_rowAt_0 ((sd_gf hC (ci := 2) (fk := 4) rfl wi_Lane (by decide) fl_Lane_29 (Or.inl rfl) dX1_rowAt_1 ((sd_il_n hC rfl dX1_rowAt_4 ((sd_aal hC dX1_rowAt_5 ((sd_ifnonnull hC (tgt := 22) (by decide) dX1_rowAt_6 (s_Lane_rowAt_22 hC) ((sd_al_n hC rfl dX1_rowAt_9 ((sd_gf hC (ci := 2) (fk := 4) rfl wi_Lane (by decide) fl_Lane_29 (Or.inl rfl) dX1_rowAt_10 ((sd_il_n hC rfl dX1_rowAt_13 ((sd_new hC (ci := 5) rfl wi_Row tyX4 tyX4_ok cl_Lane_9 in_Row iz_Row (by decide) (by intro n h; simp at h) dX1_rowAt_14 ((sd_dup hC dX1_rowAt_17 ((sd_cIN hC c_Row_init yi_Row_init mn_Lane_11 (by decide) (by decide) dX1_rowAt_18 ((sd_aas hC dX1_rowAt_21 (s_Lane_rowAt_22 hC))))))))))))))))))))))))
theorem c_Lane_rowAt (l : Launch) : zCT2 l yX1_rowAt cX1_rowAt 2 (some (.object "WishRoutes$Row")) 2 40 T_Lane_rowAt := by
  intro As M Rt c1 c2 hT
  obtain ⟨x, j, s, rfl, rfl, h1, h2, h3, hR⟩ := hT
  refine zMet_of false (by decide +kernel) (fun h => by first | rfl | cases h) (Nat.le_of_ble_eq_true rfl) (fun X hN hC => ?_)
  show zG X 0 [some (.inr (16, j, 0)), some (.inl (.int (nI s)))] [] (pic x) 0 0
  refine s_Lane_rowAt_0 hC _ _ _ _ _ ?_
  simp only [B_Lane_rowAt_0, B_Lane_rowAt_22, co_Row_init, i_ic, i_lc, i_nul, i_il, i_ll, i_al, i_is, i_as, i_ls, i_inc, i_iadd, i_isub, i_imul, i_iand, i_ior, i_ixor, i_idiv, i_irem, i_ishl, i_ishr, i_ladd, i_lsub, i_land, i_lor, i_i2l, i_lushr, i_lshl, i_lshr, i_lcmp, i_dup, i_pop, i_dx1, i_dup2, i_ifeq, i_ifne, i_iflt, i_ifge, i_ifgt, i_ifle, i_iceq, i_icne, i_iclt, i_icge, i_icgt, i_icle, i_ifn, i_gf, i_pf, i_ial, i_bal, i_lal, i_aal, i_ias, i_las, i_bas, i_aas, i_alen, i_newa, i_new, i_anew, i_cast, i_oi, i_call, i_callV, i_callV2, i_callI, i_iret, i_zret, i_lret, i_vret, i_aret, i_mmx, i_mmn, i_gsE, i_aceq, i_no, i_acq, i_sw, zsw, zlg, zls, znl, zfg, zcs, zsp, zrc, zisn, zft, zc1, zto, Value.category, List.set_cons_zero, List.set_cons_succ, List.length_cons, List.length_nil, Option.toList, List.append, List.nil_append, List.cons_append, true_and, and_true, Nat.add_zero, Nat.zero_le, Nat.zero_add, Nat.le_refl, Nat.reduceAdd, Nat.reduceLeDiff, co0, z0, zn_0, zn_1, zn_2, zn_3, zn_4, zn_5, zn_8, zn_12, zn_24, zn_121, zn_144, zn_256, zn_300, zn_600, zn_720, zn_1204, zn_1280, zn_2400, zn_4816, zn_14400, zn_90000, p_lane h1, p_lrs h1, x_lane]
  have hin : vp_in (nI s) 121 := vp_in_nI h2 (by decide)
  rw [nI_clamp (by omega)]
  refine ⟨hin, ?_⟩
  unfold la_mk at hR
  cases hm : x_lr x j s with
  | some f =>
    rw [if_neg (by rw [hm]; simp)] at hR
    simp only [x_lrs, hm, h2, if_true, Option.map_some, zov, p_lane h1, p_lrs h1, x_lane, i_ic, i_lc, i_nul, i_il, i_ll, i_al, i_is, i_as, i_ls, i_inc, i_iadd, i_isub, i_imul, i_iand, i_ior, i_ixor, i_idiv, i_irem, i_ishl, i_ishr, i_ladd, i_lsub, i_land, i_lor, i_i2l, i_lushr, i_lshl, i_lshr, i_lcmp, i_dup, i_pop, i_dx1, i_dup2, i_ifeq, i_ifne, i_iflt, i_ifge, i_ifgt, i_ifle, i_iceq, i_icne, i_iclt, i_icge, i_icgt, i_icle, i_ifn, i_gf, i_pf, i_ial, i_bal, i_lal, i_aal, i_ias, i_las, i_bas, i_aas, i_alen, i_newa, i_new, i_anew, i_cast, i_oi, i_call, i_callV, i_callV2, i_callI, i_iret, i_zret, i_lret, i_vret, i_aret, i_mmx, i_mmn, i_gsE, i_aceq, i_no, i_acq, i_sw, zsw, zlg, zls, znl, zfg, zcs, zsp, zrc, zisn, zft, zc1, zto, Value.category, List.set_cons_zero, List.set_cons_succ, List.length_cons, List.length_nil, Option.toList, List.append, List.nil_append, List.cons_append, true_and, and_true, Nat.add_zero, Nat.zero_le, Nat.zero_add, Nat.le_refl, Nat.reduceAdd, Nat.reduceLeDiff, co0, z0, zn_0, zn_1, zn_2, zn_3, zn_4, zn_5, zn_8, zn_12, zn_24, zn_121, zn_144, zn_256, zn_300, zn_600, zn_720, zn_1204, zn_1280, zn_2400, zn_4816, zn_14400, zn_90000]
    exact ⟨hin, hR⟩
  | none =>
    rw [if_pos hm] at hR
    obtain ⟨hc1, hc2⟩ := h3 hm
    have e0 : x_lrs x j s = none := by simp [x_lrs, hm]
    have er := r_lr h1 h2
    rw [hm] at er
    have p5 : pic x (5, 4 + j, s) = none := by show (x_rw x (4 + j) s).map _ = _; rw [er]; rfl
    have p6 : pic x (6, 4 + j, s) = none := by show (x_rw x (4 + j) s).map _ = _; rw [er]; rfl
    rw [e0]
    simp only [zov, p_lane h1, p_lrs h1, x_lane, i_ic, i_lc, i_nul, i_il, i_ll, i_al, i_is, i_as, i_ls, i_inc, i_iadd, i_isub, i_imul, i_iand, i_ior, i_ixor, i_idiv, i_irem, i_ishl, i_ishr, i_ladd, i_lsub, i_land, i_lor, i_i2l, i_lushr, i_lshl, i_lshr, i_lcmp, i_dup, i_pop, i_dx1, i_dup2, i_ifeq, i_ifne, i_iflt, i_ifge, i_ifgt, i_ifle, i_iceq, i_icne, i_iclt, i_icge, i_icgt, i_icle, i_ifn, i_gf, i_pf, i_ial, i_bal, i_lal, i_aal, i_ias, i_las, i_bas, i_aas, i_alen, i_newa, i_new, i_anew, i_cast, i_oi, i_call, i_callV, i_callV2, i_callI, i_iret, i_zret, i_lret, i_vret, i_aret, i_mmx, i_mmn, i_gsE, i_aceq, i_no, i_acq, i_sw, zsw, zlg, zls, znl, zfg, zcs, zsp, zrc, zisn, zft, zc1, zto, Value.category, List.set_cons_zero, List.set_cons_succ, List.length_cons, List.length_nil, Option.toList, List.append, List.nil_append, List.cons_append, true_and, and_true, Nat.add_zero, Nat.zero_le, Nat.zero_add, Nat.le_refl, Nat.reduceAdd, Nat.reduceLeDiff, co0, z0, zn_0, zn_1, zn_2, zn_3, zn_4, zn_5, zn_8, zn_12, zn_24, zn_121, zn_144, zn_256, zn_300, zn_600, zn_720, zn_1204, zn_1280, zn_2400, zn_4816, zn_14400, zn_90000]
    refine ⟨(5, 4 + j, s), p5, m_k (by decide), by omega, by omega, hc1, hc2, (5, 4 + j, s), (6, 4 + j, s), rfl, zup_s, m_k (by decide), ?_, m_k (by decide), ?_⟩
    · rw [zup_o (by simp)]; exact p6
    have n18 : ((18, j, 0) : zNm) ≠ (5, 4 + j, s) := by simp
    have n18' : ((18, j, 0) : zNm) ≠ (6, 4 + j, s) := by simp
    have n16 : ((16, j, 0) : zNm) ≠ (5, 4 + j, s) := by simp
    have n16' : ((16, j, 0) : zNm) ≠ (6, 4 + j, s) := by simp
    have n16'' : ((16, j, 0) : zNm) ≠ (18, j, 0) := by simp
    simp only [zup_o n18, zup_o n18', zup_o n16, zup_o n16', zup_o n16'', p_lane h1, p_lrs h1, x_lane, zok, zup_s, i_ic, i_lc, i_nul, i_il, i_ll, i_al, i_is, i_as, i_ls, i_inc, i_iadd, i_isub, i_imul, i_iand, i_ior, i_ixor, i_idiv, i_irem, i_ishl, i_ishr, i_ladd, i_lsub, i_land, i_lor, i_i2l, i_lushr, i_lshl, i_lshr, i_lcmp, i_dup, i_pop, i_dx1, i_dup2, i_ifeq, i_ifne, i_iflt, i_ifge, i_ifgt, i_ifle, i_iceq, i_icne, i_iclt, i_icge, i_icgt, i_icle, i_ifn, i_gf, i_pf, i_ial, i_bal, i_lal, i_aal, i_ias, i_las, i_bas, i_aas, i_alen, i_newa, i_new, i_anew, i_cast, i_oi, i_call, i_callV, i_callV2, i_callI, i_iret, i_zret, i_lret, i_vret, i_aret, i_mmx, i_mmn, i_gsE, i_aceq, i_no, i_acq, i_sw, zsw, zlg, zls, znl, zfg, zcs, zsp, zrc, zisn, zft, zc1, zto, Value.category, List.set_cons_zero, List.set_cons_succ, List.length_cons, List.length_nil, Option.toList, List.append, List.nil_append, List.cons_append, true_and, and_true, Nat.add_zero, Nat.zero_le, Nat.zero_add, Nat.le_refl, Nat.reduceAdd, Nat.reduceLeDiff, co0, z0, zn_0, zn_1, zn_2, zn_3, zn_4, zn_5, zn_8, zn_12, zn_24, zn_121, zn_144, zn_256, zn_300, zn_600, zn_720, zn_1204, zn_1280, zn_2400, zn_4816, zn_14400, zn_90000]
    rw [nI_clamp (by omega)]
    refine ⟨m_k (by decide), hin, zk_Row_Row, hin, ?_⟩
    simp only [va_up, if_true, zov, i_ic, i_lc, i_nul, i_il, i_ll, i_al, i_is, i_as, i_ls, i_inc, i_iadd, i_isub, i_imul, i_iand, i_ior, i_ixor, i_idiv, i_irem, i_ishl, i_ishr, i_ladd, i_lsub, i_land, i_lor, i_i2l, i_lushr, i_lshl, i_lshr, i_lcmp, i_dup, i_pop, i_dx1, i_dup2, i_ifeq, i_ifne, i_iflt, i_ifge, i_ifgt, i_ifle, i_iceq, i_icne, i_iclt, i_icge, i_icgt, i_icle, i_ifn, i_gf, i_pf, i_ial, i_bal, i_lal, i_aal, i_ias, i_las, i_bas, i_aas, i_alen, i_newa, i_new, i_anew, i_cast, i_oi, i_call, i_callV, i_callV2, i_callI, i_iret, i_zret, i_lret, i_vret, i_aret, i_mmx, i_mmn, i_gsE, i_aceq, i_no, i_acq, i_sw, zsw, zlg, zls, znl, zfg, zcs, zsp, zrc, zisn, zft, zc1, zto, Value.category, List.set_cons_zero, List.set_cons_succ, List.length_cons, List.length_nil, Option.toList, List.append, List.nil_append, List.cons_append, true_and, and_true, Nat.add_zero, Nat.zero_le, Nat.zero_add, Nat.le_refl, Nat.reduceAdd, Nat.reduceLeDiff, co0, z0, zn_0, zn_1, zn_2, zn_3, zn_4, zn_5, zn_8, zn_12, zn_24, zn_121, zn_144, zn_256, zn_300, zn_600, zn_720, zn_1204, zn_1280, zn_2400, zn_4816, zn_14400, zn_90000]
    refine ⟨by omega, by omega, ?_⟩
    refine zM (P := Rt _) (pu_mk x j s h1 h2 hm _) hR
