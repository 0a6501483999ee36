/-! WishRoutes.Row: sets of wish numbers in five words -/
def zrow (M : zMp) (r q : zNm) (f : Nat → Int64) : Prop := M r = some (.inr (5, [.inr q])) ∧ M q = some (.inl (.long, 5, .inr (.inl f)))
abbrev zlo (f : Nat → Int64) : zAE := .inl (.long, 5, .inr (.inl f))
theorem zrow_ne {M : zMp} {r q : zNm} {f : Nat → Int64} (h : zrow M r q f) : r ≠ q := zdf h.1 h.2 (by simp)
def T_Row_has (As : List zAV) (M : zMp) (Rt : Option zAV → zMp → Prop) : Prop := ∃ r q f k, As = [.inr r, .inl (.int (nI k))] ∧ k < 300 ∧ zrow M r q f ∧ Rt (some (.inl (.int (zb (zbit f k))))) M
abbrev co_Row_has := co0
theorem dX4_has_0 : decode cX4_has 0 = .ok (.iload_n 1, 1) := by decide +kernel
theorem dX4_has_1 : decode cX4_has 1 = .ok (.ifCond .lt 35, 3) := by decide +kernel
theorem dX4_has_4 : decode cX4_has 4 = .ok (.iload_n 1, 1) := by decide +kernel
theorem dX4_has_5 : decode cX4_has 5 = .ok (.sipush 300, 3) := by decide +kernel
theorem dX4_has_8 : decode cX4_has 8 = .ok (.if_icmp .ge 28, 3) := by decide +kernel
theorem dX4_has_11 : decode cX4_has 11 = .ok (.aload_n 0, 1) := by decide +kernel
theorem dX4_has_12 : decode cX4_has 12 = .ok (.getfield 9, 3) := by decide +kernel
theorem dX4_has_15 : decode cX4_has 15 = .ok (.iload_n 1, 1) := by decide +kernel
theorem dX4_has_16 : decode cX4_has 16 = .ok (.bipush 64, 2) := by decide +kernel
theorem dX4_has_18 : decode cX4_has 18 = .ok (.idiv, 1) := by decide +kernel
theorem dX4_has_19 : decode cX4_has 19 = .ok (.laload, 1) := by decide +kernel
theorem dX4_has_20 : decode cX4_has 20 = .ok (.iload_n 1, 1) := by decide +kernel
theorem dX4_has_21 : decode cX4_has 21 = .ok (.bipush 64, 2) := by decide +kernel
theorem dX4_has_23 : decode cX4_has 23 = .ok (.irem, 1) := by decide +kernel
theorem dX4_has_24 : decode cX4_has 24 = .ok (.lushr, 1) := by decide +kernel
theorem dX4_has_25 : decode cX4_has 25 = .ok (.lconst 1, 1) := by decide +kernel
theorem dX4_has_26 : decode cX4_has 26 = .ok (.land, 1) := by decide +kernel
theorem dX4_has_27 : decode cX4_has 27 = .ok (.lconst 0, 1) := by decide +kernel
theorem dX4_has_28 : decode cX4_has 28 = .ok (.lcmp, 1) := by decide +kernel
theorem dX4_has_29 : decode cX4_has 29 = .ok (.ifCond .eq 7, 3) := by decide +kernel
theorem dX4_has_32 : decode cX4_has 32 = .ok (.iconst 1, 1) := by decide +kernel
theorem dX4_has_33 : decode cX4_has 33 = .ok (.goto 4, 3) := by decide +kernel
theorem dX4_has_36 : decode cX4_has 36 = .ok (.iconst 0, 1) := by decide +kernel
theorem dX4_has_37 : decode cX4_has 37 = .ok (.ireturn, 1) := by decide +kernel
def B_Row_has_37 (mc ms : Nat) (Rt : Option zAV → zMp → Prop) (g : Nat → zKT) : zKT :=
  (i_zret mc ms Rt)
set_option maxRecDepth 20000 in
theorem s_Row_has_37 {X : zMa} {mc ms : Nat} {Rt : Option zAV → zMp → Prop} (hC : zCx X RX4 cX4_has 0 0 mc ms (some .boolean) false Rt) : zLe (B_Row_has_37 mc ms Rt (zG X)) (zG X 37) :=
  (sd_zret hC dX4_has_37)
def B_Row_has_36 (mc ms : Nat) (Rt : Option zAV → zMp → Prop) (g : Nat → zKT) : zKT :=
  (i_ic 0 (B_Row_has_37 mc ms Rt g))
set_option maxRecDepth 20000 in
theorem s_Row_has_36 {X : zMa} {mc ms : Nat} {Rt : Option zAV → zMp → Prop} (hC : zCx X RX4 cX4_has 0 0 mc ms (some .boolean) false Rt) : zLe (B_Row_has_36 mc ms Rt (zG X)) (zG X 36) :=
  (sd_iconst hC (by decide) dX4_has_36 (s_Row_has_37 hC))
def B_Row_has_0 (mc ms : Nat) (Rt : Option zAV → zMp → Prop) (g : Nat → zKT) : zKT :=
  (i_il 1 (i_iflt (B_Row_has_36 mc ms Rt g) (i_il 1 (i_ic 300 (i_icge (B_Row_has_36 mc ms Rt g) (i_al 0 (i_gf 5 0 (i_il 1 (i_ic 64 (i_idiv (i_lal (i_il 1 (i_ic 64 (i_irem (i_lushr (i_lc 1 (i_land (i_lc 0 (i_lcmp (i_ifeq (B_Row_has_36 mc ms Rt g) (i_ic 1 (B_Row_has_37 mc ms Rt g))))))))))))))))))))))
set_option maxRecDepth 20000 in
theorem s_Row_has_0 {X : zMa} {mc ms : Nat} {Rt : Option zAV → zMp → Prop} (hC : zCx X RX4 cX4_has 0 0 mc ms (some .boolean) false Rt) : zLe (B_Row_has_0 mc ms Rt (zG X)) (zG X 0) :=
  (sd_il_n hC rfl dX4_has_0 ((sd_iflt hC (tgt := 36) (by decide) dX4_has_1 (s_Row_has_36 hC) ((sd_il_n hC rfl dX4_has_4 ((sd_sipush hC (by decide) dX4_has_5 ((sd_icge hC (tgt := 36) (by decide) dX4_has_8 (s_Row_has_36 hC) ((sd_al_n hC rfl dX4_has_11 ((sd_gf hC (ci := 5) (fk := 0) rfl wi_Row (by decide) fl_Row_9 (Or.inl rfl) dX4_has_12 ((sd_il_n hC rfl dX4_has_15 ((sd_bipush hC (by decide) dX4_has_16 ((sd_idiv hC dX4_has_18 ((sd_lal hC dX4_has_19 ((sd_il_n hC rfl dX4_has_20 ((sd_bipush hC (by decide) dX4_has_21 ((sd_irem hC dX4_has_23 ((sd_lushr hC dX4_has_24 ((sd_lconst hC (by decide) dX4_has_25 ((sd_land hC dX4_has_26 ((sd_lconst hC (by decide) dX4_has_27 ((sd_lcmp hC dX4_has_28 ((sd_ifeq hC (tgt := 36) (by decide) dX4_has_29 (s_Row_has_36 hC) ((sd_iconst hC (by decide) dX4_has_32 ((sd_goto hC (tgt := 37) (by decide) dX4_has_33 (s_Row_has_37 hC))))))))))))))))))))))))))))))))))))))))))))
theorem c_Row_has (l : Launch) : zCT l yX4_has cX4_has 2 (some .boolean) 0 0 T_Row_has co_Row_has := by
  intro As M Rt hT
  obtain ⟨r, q, f, k, rfl, hk, ⟨h1, h2⟩, hR⟩ := hT
  refine zMet_of false (by decide +kernel) (fun h => by first | rfl | cases h) (Nat.le_of_ble_eq_true rfl) (fun X hN hC => ?_)
  show zG X 0 [some (.inr r), some (.inl (.int (nI k)))] [] M 0 0
  refine s_Row_has_0 hC _ _ _ _ _ ?_
  simp only [B_Row_has_0, B_Row_has_36, B_Row_has_37, co_Row_has, i_ic, i_lc, i_nul, i_il, i_ll, i_al, i_is, i_as, i_ls, i_inc, i_iadd, i_isub, i_imul, i_iand, i_ior, i_ixor, i_idiv, i_irem, i_ishl, i_ishr, i_ladd, i_lsub, i_land, i_lor, i_i2l, i_lushr, i_lshl, i_lshr, i_lcmp, i_dup, i_pop, i_dx1, i_dup2, i_ifeq, i_ifne, i_iflt, i_ifge, i_ifgt, i_ifle, i_iceq, i_icne, i_iclt, i_icge, i_icgt, i_icle, i_ifn, i_gf, i_pf, i_ial, i_bal, i_lal, i_aal, i_ias, i_las, i_bas, i_aas, i_alen, i_newa, i_new, i_anew, i_cast, i_oi, i_call, i_callV, i_callV2, i_callI, i_iret, i_zret, i_lret, i_vret, i_aret, i_mmx, i_mmn, i_gsE, i_aceq, i_no, i_acq, i_sw, zsw, zlg, zls, znl, zfg, zcs, zsp, zrc, zisn, zft, zc1, zto, Value.category, List.set_cons_zero, List.set_cons_succ, List.length_cons, List.length_nil, Option.toList, List.append, List.nil_append, List.cons_append, true_and, and_true, Nat.add_zero, Nat.zero_le, Nat.zero_add, Nat.le_refl, Nat.reduceAdd, Nat.reduceLeDiff, co0, z0, zn_0, zn_1, zn_2, zn_3, zn_4, zn_5, zn_8, zn_12, zn_24, zn_121, zn_144, zn_256, zn_300, zn_600, zn_720, zn_1204, zn_1280, zn_2400, zn_4816, zn_14400, zn_90000, h1, h2]
  refine ⟨fun h => absurd h (nI_pos (by omega)), fun _ => ⟨fun h => absurd ((zK (K := 300) (by decide) (n := k) (by omega)).2.1.mp h) (by omega), fun _ => ⟨by decide, ?_, by decide, ?_⟩⟩⟩
  · rw [nI_d64 (by omega)]
    exact vp_in_nI (by omega) (by decide)
  · rw [nI_d64 (by omega), nI_r64 (by omega), nI_clamp (by omega), lg_cmp_eq, zbit_t _ (Nat.mod_lt _ (by decide))]
    cases hb : zbit f k with
    | true =>
      rw [hb] at hR
      exact ⟨fun h => absurd (hb.symm.trans h) (by decide), fun _ => ⟨Or.inr trivial, hR⟩⟩
    | false =>
      rw [hb] at hR
      exact ⟨fun _ => ⟨Or.inl trivial, hR⟩, fun h => absurd hb h⟩
/-- one number more -/
def rw_add (f : Nat → Int64) (k : Nat) : Nat → Int64 := vp_updL f (k / 64) (f (k / 64) ||| ((1 : Int64) <<< ((nI (k % 64)).toInt64 &&& 63)))
def T_Row_add (As : List zAV) (M : zMp) (Rt : Option zAV → zMp → Prop) : Prop := ∃ r q f k, As = [.inr r, .inl (.int (nI k))] ∧ k < 300 ∧ zmo q ∧ zrow M r q f ∧ Rt none (zup M q (zlo (rw_add f k)))
abbrev co_Row_add := co0
theorem dX4_add_0 : decode cX4_add 0 = .ok (.iload_n 1, 1) := by decide +kernel
theorem dX4_add_1 : decode cX4_add 1 = .ok (.ifCond .lt 28, 3) := by decide +kernel
theorem dX4_add_4 : decode cX4_add 4 = .ok (.iload_n 1, 1) := by decide +kernel
theorem dX4_add_5 : decode cX4_add 5 = .ok (.sipush 300, 3) := by decide +kernel
theorem dX4_add_8 : decode cX4_add 8 = .ok (.if_icmp .ge 21, 3) := by decide +kernel
theorem dX4_add_11 : decode cX4_add 11 = .ok (.aload_n 0, 1) := by decide +kernel
theorem dX4_add_12 : decode cX4_add 12 = .ok (.getfield 9, 3) := by decide +kernel
theorem dX4_add_15 : decode cX4_add 15 = .ok (.iload_n 1, 1) := by decide +kernel
theorem dX4_add_16 : decode cX4_add 16 = .ok (.bipush 64, 2) := by decide +kernel
theorem dX4_add_18 : decode cX4_add 18 = .ok (.idiv, 1) := by decide +kernel
theorem dX4_add_19 : decode cX4_add 19 = .ok (.dup2, 1) := by decide +kernel
theorem dX4_add_20 : decode cX4_add 20 = .ok (.laload, 1) := by decide +kernel
theorem dX4_add_21 : decode cX4_add 21 = .ok (.lconst 1, 1) := by decide +kernel
theorem dX4_add_22 : decode cX4_add 22 = .ok (.iload_n 1, 1) := by decide +kernel
theorem dX4_add_23 : decode cX4_add 23 = .ok (.bipush 64, 2) := by decide +kernel
theorem dX4_add_25 : decode cX4_add 25 = .ok (.irem, 1) := by decide +kernel
theorem dX4_add_26 : decode cX4_add 26 = .ok (.lshl, 1) := by decide +kernel
theorem dX4_add_27 : decode cX4_add 27 = .ok (.lor, 1) := by decide +kernel
theorem dX4_add_28 : decode cX4_add 28 = .ok (.lastore, 1) := by decide +kernel
theorem dX4_add_29 : decode cX4_add 29 = .ok (.return_, 1) := by decide +kernel
def B_Row_add_29 (mc ms : Nat) (Rt : Option zAV → zMp → Prop) (g : Nat → zKT) : zKT :=
  (i_vret mc ms Rt)
set_option maxRecDepth 20000 in
theorem s_Row_add_29 {X : zMa} {mc ms : Nat} {Rt : Option zAV → zMp → Prop} (hC : zCx X RX4 cX4_add 0 0 mc ms (none) false Rt) : zLe (B_Row_add_29 mc ms Rt (zG X)) (zG X 29) :=
  (sd_vret hC dX4_add_29)
def B_Row_add_0 (mc ms : Nat) (Rt : Option zAV → zMp → Prop) (g : Nat → zKT) : zKT :=
  (i_il 1 (i_iflt (B_Row_add_29 mc ms Rt g) (i_il 1 (i_ic 300 (i_icge (B_Row_add_29 mc ms Rt g) (i_al 0 (i_gf 5 0 (i_il 1 (i_ic 64 (i_idiv (i_dup2 (i_lal (i_lc 1 (i_il 1 (i_ic 64 (i_irem (i_lshl (i_lor (i_las (B_Row_add_29 mc ms Rt g))))))))))))))))))))
set_option maxRecDepth 20000 in
theorem s_Row_add_0 {X : zMa} {mc ms : Nat} {Rt : Option zAV → zMp → Prop} (hC : zCx X RX4 cX4_add 0 0 mc ms (none) false Rt) : zLe (B_Row_add_0 mc ms Rt (zG X)) (zG X 0) :=
  (sd_il_n hC rfl dX4_add_0 ((sd_iflt hC (tgt := 29) (by decide) dX4_add_1 (s_Row_add_29 hC) ((sd_il_n hC rfl dX4_add_4 ((sd_sipush hC (by decide) dX4_add_5 ((sd_icge hC (tgt := 29) (by decide) dX4_add_8 (s_Row_add_29 hC) ((sd_al_n hC rfl dX4_add_11 ((sd_gf hC (ci := 5) (fk := 0) rfl wi_Row (by decide) fl_Row_9 (Or.inl rfl) dX4_add_12 ((sd_il_n hC rfl dX4_add_15 ((sd_bipush hC (by decide) dX4_add_16 ((sd_idiv hC dX4_add_18 ((sd_dup2 hC dX4_add_19 ((sd_lal hC dX4_add_20 ((sd_lconst hC (by decide) dX4_add_21 ((sd_il_n hC rfl dX4_add_22 ((sd_bipush hC (by decide) dX4_add_23 ((sd_irem hC dX4_add_25 ((sd_lshl hC dX4_add_26 ((sd_lor hC dX4_add_27 ((sd_las hC dX4_add_28 (s_Row_add_29 hC))))))))))))))))))))))))))))))))))))))
theorem c_Row_add (l : Launch) : zCT l yX4_add cX4_add 2 (none) 0 0 T_Row_add co_Row_add := by
  intro As M Rt hT
  obtain ⟨r, q, f, k, rfl, hk, hm, ⟨h1, h2⟩, hR⟩ := hT
  refine zMet_of false (by decide +kernel) (fun h => by first | rfl | cases h) (Nat.le_of_ble_eq_true rfl) (fun X hN hC => ?_)
  show zG X 0 [some (.inr r), some (.inl (.int (nI k)))] [] M 0 0
  refine s_Row_add_0 hC _ _ _ _ _ ?_
  simp only [B_Row_add_0, B_Row_add_29, co_Row_add, i_ic, i_lc, i_nul, i_il, i_ll, i_al, i_is, i_as, i_ls, i_inc, i_iadd, i_isub, i_imul, i_iand, i_ior, i_ixor, i_idiv, i_irem, i_ishl, i_ishr, i_ladd, i_lsub, i_land, i_lor, i_i2l, i_lushr, i_lshl, i_lshr, i_lcmp, i_dup, i_pop, i_dx1, i_dup2, i_ifeq, i_ifne, i_iflt, i_ifge, i_ifgt, i_ifle, i_iceq, i_icne, i_iclt, i_icge, i_icgt, i_icle, i_ifn, i_gf, i_pf, i_ial, i_bal, i_lal, i_aal, i_ias, i_las, i_bas, i_aas, i_alen, i_newa, i_new, i_anew, i_cast, i_oi, i_call, i_callV, i_callV2, i_callI, i_iret, i_zret, i_lret, i_vret, i_aret, i_mmx, i_mmn, i_gsE, i_aceq, i_no, i_acq, i_sw, zsw, zlg, zls, znl, zfg, zcs, zsp, zrc, zisn, zft, zc1, zto, Value.category, List.set_cons_zero, List.set_cons_succ, List.length_cons, List.length_nil, Option.toList, List.append, List.nil_append, List.cons_append, true_and, and_true, Nat.add_zero, Nat.zero_le, Nat.zero_add, Nat.le_refl, Nat.reduceAdd, Nat.reduceLeDiff, co0, z0, zn_0, zn_1, zn_2, zn_3, zn_4, zn_5, zn_8, zn_12, zn_24, zn_121, zn_144, zn_256, zn_300, zn_600, zn_720, zn_1204, zn_1280, zn_2400, zn_4816, zn_14400, zn_90000, h1, h2]
  have e1 := nI_d64 (k := k) (by omega)
  have e2 := nI_r64 (k := k) (by omega)
  have hin : vp_in (nI k / 64) 5 := by
    rw [e1]
    exact vp_in_nI (by omega) (by decide)
  refine ⟨fun h => absurd h (nI_pos (by omega)), fun _ => ⟨fun h => absurd ((zK (K := 300) (by decide) (n := k) (by omega)).2.1.mp h) (by omega), fun _ => ⟨by decide, hin, by decide, hm, hin, ?_⟩⟩⟩
  rw [e1, e2, nI_clamp (by omega)]
  exact hR
/-! loops over the five words -/
def T_Row_clear (As : List zAV) (M : zMp) (Rt : Option zAV → zMp → Prop) : Prop := ∃ r q f, As = [.inr r] ∧ zmo q ∧ zrow M r q f ∧ Rt none (zup M q (zlo (fun j => if j < 5 then 0 else f j)))
abbrev co_Row_clear := co0
theorem dX4_clear_0 : decode cX4_clear 0 = .ok (.iconst 0, 1) := by decide +kernel
theorem dX4_clear_1 : decode cX4_clear 1 = .ok (.istore_n 1, 1) := by decide +kernel
theorem dX4_clear_2 : decode cX4_clear 2 = .ok (.iload_n 1, 1) := by decide +kernel
theorem dX4_clear_3 : decode cX4_clear 3 = .ok (.iconst 5, 1) := by decide +kernel
theorem dX4_clear_4 : decode cX4_clear 4 = .ok (.if_icmp .ge 16, 3) := by decide +kernel
theorem dX4_clear_7 : decode cX4_clear 7 = .ok (.aload_n 0, 1) := by decide +kernel
theorem dX4_clear_8 : decode cX4_clear 8 = .ok (.getfield 9, 3) := by decide +kernel
theorem dX4_clear_11 : decode cX4_clear 11 = .ok (.iload_n 1, 1) := by decide +kernel
theorem dX4_clear_12 : decode cX4_clear 12 = .ok (.lconst 0, 1) := by decide +kernel
theorem dX4_clear_13 : decode cX4_clear 13 = .ok (.lastore, 1) := by decide +kernel
theorem dX4_clear_14 : decode cX4_clear 14 = .ok (.iinc 1 1, 3) := by decide +kernel
theorem dX4_clear_17 : decode cX4_clear 17 = .ok (.goto (-15), 3) := by decide +kernel
theorem dX4_clear_20 : decode cX4_clear 20 = .ok (.return_, 1) := by decide +kernel
def B_Row_clear_20 (mc ms : Nat) (Rt : Option zAV → zMp → Prop) (g : Nat → zKT) : zKT :=
  (i_vret mc ms Rt)
set_option maxRecDepth 20000 in
theorem s_Row_clear_20 {X : zMa} {mc ms : Nat} {Rt : Option zAV → zMp → Prop} (hC : zCx X RX4 cX4_clear 0 0 mc ms (none) false Rt) (hN : zNL X = 2) : zLe (B_Row_clear_20 mc ms Rt (zG X)) (zG X 20) :=
  (sd_vret hC dX4_clear_20)
def B_Row_clear_2 (mc ms : Nat) (Rt : Option zAV → zMp → Prop) (g : Nat → zKT) : zKT :=
  (i_il 1 (i_ic 5 (i_icge (B_Row_clear_20 mc ms Rt g) (i_al 0 (i_gf 5 0 (i_il 1 (i_lc 0 (i_las (i_inc 1 1 (g 2))))))))))
set_option maxRecDepth 20000 in
theorem s_Row_clear_2 {X : zMa} {mc ms : Nat} {Rt : Option zAV → zMp → Prop} (hC : zCx X RX4 cX4_clear 0 0 mc ms (none) false Rt) (hN : zNL X = 2) : zLe (B_Row_clear_2 mc ms Rt (zG X)) (zG X 2) :=
  (sd_il_n hC rfl dX4_clear_2 ((sd_iconst hC (by decide) dX4_clear_3 ((sd_icge hC (tgt := 20) (by decide) dX4_clear_4 (s_Row_clear_20 hC hN) ((sd_al_n hC rfl dX4_clear_7 ((sd_gf hC (ci := 5) (fk := 0) rfl wi_Row (by decide) fl_Row_9 (Or.inl rfl) dX4_clear_8 ((sd_il_n hC rfl dX4_clear_11 ((sd_lconst hC (by decide) dX4_clear_12 ((sd_las hC dX4_clear_13 ((sd_inc hC (by decide) (by rw [hN]; decide) dX4_clear_14 ((sd_goto hC (tgt := 2) (by decide) dX4_clear_17 (zLe_rfl))))))))))))))))))))
def B_Row_clear_0 (mc ms : Nat) (Rt : Option zAV → zMp → Prop) (g : Nat → zKT) : zKT :=
  (i_ic 0 (i_is 1 (g 2)))
set_option maxRecDepth 20000 in
theorem s_Row_clear_0 {X : zMa} {mc ms : Nat} {Rt : Option zAV → zMp → Prop} (hC : zCx X RX4 cX4_clear 0 0 mc ms (none) false Rt) (hN : zNL X = 2) : zLe (B_Row_clear_0 mc ms Rt (zG X)) (zG X 0) :=
  (sd_iconst hC (by decide) dX4_clear_0 ((sd_is_n hC rfl (by rw [hN]; decide) dX4_clear_1 (zLe_rfl))))
theorem c_Row_clear (l : Launch) : zCT l yX4_clear cX4_clear 2 (none) 0 0 T_Row_clear co_Row_clear := by
  intro As M Rt hT
  obtain ⟨r, q, f, rfl, hm, ⟨h1, h2⟩, hR⟩ := hT
  have hne : r ≠ q := zrow_ne ⟨h1, h2⟩
  refine zMet_of false (by decide +kernel) (fun h => by first | rfl | cases h) (Nat.le_of_ble_eq_true rfl) (fun X hN hC => ?_)
  show zG X 0 [some (.inr r), none] [] M 0 0
  have loop : zG X 2 [some (.inr r), some (.inl (.int (nI 0)))] [] (zup M q (zlo (fun j => if j < 0 then 0 else f j))) 0 0 := by
    refine five (P := fun i => zG X 2 [some (.inr r), some (.inl (.int (nI i)))] [] (zup M q (zlo (fun j => if j < i then 0 else f j))) 0 0) (fun i hi ih => ?_) ?_
    · refine s_Row_clear_2 hC hN _ _ _ _ _ ?_
      simp only [B_Row_clear_0, B_Row_clear_2, B_Row_clear_20, co_Row_clear, i_ic, i_lc, i_nul, i_il, i_ll, i_al, i_is, i_as, i_ls, i_inc, i_iadd, i_isub, i_imul, i_iand, i_ior, i_ixor, i_idiv, i_irem, i_ishl, i_ishr, i_ladd, i_lsub, i_land, i_lor, i_i2l, i_lushr, i_lshl, i_lshr, i_lcmp, i_dup, i_pop, i_dx1, i_dup2, i_ifeq, i_ifne, i_iflt, i_ifge, i_ifgt, i_ifle, i_iceq, i_icne, i_iclt, i_icge, i_icgt, i_icle, i_ifn, i_gf, i_pf, i_ial, i_bal, i_lal, i_aal, i_ias, i_las, i_bas, i_aas, i_alen, i_newa, i_new, i_anew, i_cast, i_oi, i_call, i_callV, i_callV2, i_callI, i_iret, i_zret, i_lret, i_vret, i_aret, i_mmx, i_mmn, i_gsE, i_aceq, i_no, i_acq, i_sw, zsw, zlg, zls, znl, zfg, zcs, zsp, zrc, zisn, zft, zc1, zto, Value.category, List.set_cons_zero, List.set_cons_succ, List.length_cons, List.length_nil, Option.toList, List.append, List.nil_append, List.cons_append, true_and, and_true, Nat.add_zero, Nat.zero_le, Nat.zero_add, Nat.le_refl, Nat.reduceAdd, Nat.reduceLeDiff, co0, z0, zn_0, zn_1, zn_2, zn_3, zn_4, zn_5, zn_8, zn_12, zn_24, zn_121, zn_144, zn_256, zn_300, zn_600, zn_720, zn_1204, zn_1280, zn_2400, zn_4816, zn_14400, zn_90000, h1, zup_s, zup_o hne, zup_zup]
      refine ⟨fun h => absurd ((zK (K := 5) (by decide) (n := i) (by omega)).2.1.mp h) (by omega), fun _ => ⟨hm, vp_in_nI hi (by decide), ?_⟩⟩
      rw [nI_clamp (by omega), nI_1, zul (g := fun _ => 0) rfl]
      exact ih
    · refine s_Row_clear_2 hC hN _ _ _ _ _ ?_
      simp only [B_Row_clear_0, B_Row_clear_2, B_Row_clear_20, co_Row_clear, i_ic, i_lc, i_nul, i_il, i_ll, i_al, i_is, i_as, i_ls, i_inc, i_iadd, i_isub, i_imul, i_iand, i_ior, i_ixor, i_idiv, i_irem, i_ishl, i_ishr, i_ladd, i_lsub, i_land, i_lor, i_i2l, i_lushr, i_lshl, i_lshr, i_lcmp, i_dup, i_pop, i_dx1, i_dup2, i_ifeq, i_ifne, i_iflt, i_ifge, i_ifgt, i_ifle, i_iceq, i_icne, i_iclt, i_icge, i_icgt, i_icle, i_ifn, i_gf, i_pf, i_ial, i_bal, i_lal, i_aal, i_ias, i_las, i_bas, i_aas, i_alen, i_newa, i_new, i_anew, i_cast, i_oi, i_call, i_callV, i_callV2, i_callI, i_iret, i_zret, i_lret, i_vret, i_aret, i_mmx, i_mmn, i_gsE, i_aceq, i_no, i_acq, i_sw, zsw, zlg, zls, znl, zfg, zcs, zsp, zrc, zisn, zft, zc1, zto, Value.category, List.set_cons_zero, List.set_cons_succ, List.length_cons, List.length_nil, Option.toList, List.append, List.nil_append, List.cons_append, true_and, and_true, Nat.add_zero, Nat.zero_le, Nat.zero_add, Nat.le_refl, Nat.reduceAdd, Nat.reduceLeDiff, co0, z0, zn_0, zn_1, zn_2, zn_3, zn_4, zn_5, zn_8, zn_12, zn_24, zn_121, zn_144, zn_256, zn_300, zn_600, zn_720, zn_1204, zn_1280, zn_2400, zn_4816, zn_14400, zn_90000, h1, zup_s, zup_o hne, zup_zup]
      exact ⟨fun _ => hR, fun h => absurd (by decide) h⟩
  refine s_Row_clear_0 hC hN _ _ _ _ _ ?_
  simp only [B_Row_clear_0, B_Row_clear_2, B_Row_clear_20, co_Row_clear, i_ic, i_lc, i_nul, i_il, i_ll, i_al, i_is, i_as, i_ls, i_inc, i_iadd, i_isub, i_imul, i_iand, i_ior, i_ixor, i_idiv, i_irem, i_ishl, i_ishr, i_ladd, i_lsub, i_land, i_lor, i_i2l, i_lushr, i_lshl, i_lshr, i_lcmp, i_dup, i_pop, i_dx1, i_dup2, i_ifeq, i_ifne, i_iflt, i_ifge, i_ifgt, i_ifle, i_iceq, i_icne, i_iclt, i_icge, i_icgt, i_icle, i_ifn, i_gf, i_pf, i_ial, i_bal, i_lal, i_aal, i_ias, i_las, i_bas, i_aas, i_alen, i_newa, i_new, i_anew, i_cast, i_oi, i_call, i_callV, i_callV2, i_callI, i_iret, i_zret, i_lret, i_vret, i_aret, i_mmx, i_mmn, i_gsE, i_aceq, i_no, i_acq, i_sw, zsw, zlg, zls, znl, zfg, zcs, zsp, zrc, zisn, zft, zc1, zto, Value.category, List.set_cons_zero, List.set_cons_succ, List.length_cons, List.length_nil, Option.toList, List.append, List.nil_append, List.cons_append, true_and, and_true, Nat.add_zero, Nat.zero_le, Nat.zero_add, Nat.le_refl, Nat.reduceAdd, Nat.reduceLeDiff, co0, z0, zn_0, zn_1, zn_2, zn_3, zn_4, zn_5, zn_8, zn_12, zn_24, zn_121, zn_144, zn_256, zn_300, zn_600, zn_720, zn_1204, zn_1280, zn_2400, zn_4816, zn_14400, zn_90000]
  rw [zlt0, zup_self h2] at loop
  exact loop
def rw_or (f g : Nat → Int64) : Nat → Int64 := fun j => if j < 5 then f j ||| g j else f j
def T_Row_addAll (As : List zAV) (M : zMp) (Rt : Option zAV → zMp → Prop) : Prop := ∃ r q f o p g, As = [.inr r, .inr o] ∧ zmo q ∧ q ≠ p ∧ zrow M r q f ∧ zrow M o p g ∧ Rt none (zup M q (zlo (rw_or f g)))
abbrev co_Row_addAll := co0
theorem dX4_addAll_0 : decode cX4_addAll 0 = .ok (.iconst 0, 1) := by decide +kernel
theorem dX4_addAll_1 : decode cX4_addAll 1 = .ok (.istore_n 2, 1) := by decide +kernel
theorem dX4_addAll_2 : decode cX4_addAll 2 = .ok (.iload_n 2, 1) := by decide +kernel
theorem dX4_addAll_3 : decode cX4_addAll 3 = .ok (.iconst 5, 1) := by decide +kernel
theorem dX4_addAll_4 : decode cX4_addAll 4 = .ok (.if_icmp .ge 24, 3) := by decide +kernel
theorem dX4_addAll_7 : decode cX4_addAll 7 = .ok (.aload_n 0, 1) := by decide +kernel
theorem dX4_addAll_8 : decode cX4_addAll 8 = .ok (.getfield 9, 3) := by decide +kernel
theorem dX4_addAll_11 : decode cX4_addAll 11 = .ok (.iload_n 2, 1) := by decide +kernel
theorem dX4_addAll_12 : decode cX4_addAll 12 = .ok (.dup2, 1) := by decide +kernel
theorem dX4_addAll_13 : decode cX4_addAll 13 = .ok (.laload, 1) := by decide +kernel
theorem dX4_addAll_14 : decode cX4_addAll 14 = .ok (.aload_n 1, 1) := by decide +kernel
theorem dX4_addAll_15 : decode cX4_addAll 15 = .ok (.getfield 9, 3) := by decide +kernel
theorem dX4_addAll_18 : decode cX4_addAll 18 = .ok (.iload_n 2, 1) := by decide +kernel
theorem dX4_addAll_19 : decode cX4_addAll 19 = .ok (.laload, 1) := by decide +kernel
theorem dX4_addAll_20 : decode cX4_addAll 20 = .ok (.lor, 1) := by decide +kernel
theorem dX4_addAll_21 : decode cX4_addAll 21 = .ok (.lastore, 1) := by decide +kernel
theorem dX4_addAll_22 : decode cX4_addAll 22 = .ok (.iinc 2 1, 3) := by decide +kernel
theorem dX4_addAll_25 : decode cX4_addAll 25 = .ok (.goto (-23), 3) := by decide +kernel
theorem dX4_addAll_28 : decode cX4_addAll 28 = .ok (.return_, 1) := by decide +kernel
def B_Row_addAll_28 (mc ms : Nat) (Rt : Option zAV → zMp → Prop) (g : Nat → zKT) : zKT :=
  (i_vret mc ms Rt)
set_option maxRecDepth 20000 in
theorem s_Row_addAll_28 {X : zMa} {mc ms : Nat} {Rt : Option zAV → zMp → Prop} (hC : zCx X RX4 cX4_addAll 0 0 mc ms (none) false Rt) (hN : zNL X = 3) : zLe (B_Row_addAll_28 mc ms Rt (zG X)) (zG X 28) :=
  (sd_vret hC dX4_addAll_28)
def B_Row_addAll_2 (mc ms : Nat) (Rt : Option zAV → zMp → Prop) (g : Nat → zKT) : zKT :=
  (i_il 2 (i_ic 5 (i_icge (B_Row_addAll_28 mc ms Rt g) (i_al 0 (i_gf 5 0 (i_il 2 (i_dup2 (i_lal (i_al 1 (i_gf 5 0 (i_il 2 (i_lal (i_lor (i_las (i_inc 2 1 (g 2))))))))))))))))
set_option maxRecDepth 20000 in
theorem s_Row_addAll_2 {X : zMa} {mc ms : Nat} {Rt : Option zAV → zMp → Prop} (hC : zCx X RX4 cX4_addAll 0 0 mc ms (none) false Rt) (hN : zNL X = 3) : zLe (B_Row_addAll_2 mc ms Rt (zG X)) (zG X 2) :=
  (sd_il_n hC rfl dX4_addAll_2 ((sd_iconst hC (by decide) dX4_addAll_3 ((sd_icge hC (tgt := 28) (by decide) dX4_addAll_4 (s_Row_addAll_28 hC hN) ((sd_al_n hC rfl dX4_addAll_7 ((sd_gf hC (ci := 5) (fk := 0) rfl wi_Row (by decide) fl_Row_9 (Or.inl rfl) dX4_addAll_8 ((sd_il_n hC rfl dX4_addAll_11 ((sd_dup2 hC dX4_addAll_12 ((sd_lal hC dX4_addAll_13 ((sd_al_n hC rfl dX4_addAll_14 ((sd_gf hC (ci := 5) (fk := 0) rfl wi_Row (by decide) fl_Row_9 (Or.inl rfl) dX4_addAll_15 ((sd_il_n hC rfl dX4_addAll_18 ((sd_lal hC dX4_addAll_19 ((sd_lor hC dX4_addAll_20 ((sd_las hC dX4_addAll_21 ((sd_inc hC (by decide) (by rw [hN]; decide) dX4_addAll_22 ((sd_goto hC (tgt := 2) (by decide) dX4_addAll_25 (zLe_rfl))))))))))))))))))))))))))))))))
def B_Row_addAll_0 (mc ms : Nat) (Rt : Option zAV → zMp → Prop) (g : Nat → zKT) : zKT :=
  (i_ic 0 (i_is 2 (g 2)))
set_option maxRecDepth 20000 in
theorem s_Row_addAll_0 {X : zMa} {mc ms : Nat} {Rt : Option zAV → zMp → Prop} (hC : zCx X RX4 cX4_addAll 0 0 mc ms (none) false Rt) (hN : zNL X = 3) : zLe (B_Row_addAll_0 mc ms Rt (zG X)) (zG X 0) :=
  (sd_iconst hC (by decide) dX4_addAll_0 ((sd_is_n hC rfl (by rw [hN]; decide) dX4_addAll_1 (zLe_rfl))))
theorem c_Row_addAll (l : Launch) : zCT l yX4_addAll cX4_addAll 3 (none) 0 0 T_Row_addAll co_Row_addAll := by
  intro As M Rt hT
  obtain ⟨r, q, f, o, p, g, rfl, hm, hqp, ⟨h1, h2⟩, ⟨h3, h4⟩, hR⟩ := hT
  have hne : r ≠ q := zrow_ne ⟨h1, h2⟩
  have hne2 : o ≠ q := zdf h3 h2 (by simp)
  refine zMet_of false (by decide +kernel) (fun h => by first | rfl | cases h) (Nat.le_of_ble_eq_true rfl) (fun X hN hC => ?_)
  show zG X 0 [some (.inr r), some (.inr o), none] [] M 0 0
  have loop : zG X 2 [some (.inr r), some (.inr o), some (.inl (.int (nI 0)))] [] (zup M q (zlo (fun j => if j < 0 then f j ||| g j else f j))) 0 0 := by
    refine five (P := fun i => zG X 2 [some (.inr r), some (.inr o), some (.inl (.int (nI i)))] [] (zup M q (zlo (fun j => if j < i then f j ||| g j else f j))) 0 0) (fun i hi ih => ?_) ?_
    · refine s_Row_addAll_2 hC hN _ _ _ _ _ ?_
      simp only [B_Row_addAll_0, B_Row_addAll_2, B_Row_addAll_28, co_Row_addAll, i_ic, i_lc, i_nul, i_il, i_ll, i_al, i_is, i_as, i_ls, i_inc, i_iadd, i_isub, i_imul, i_iand, i_ior, i_ixor, i_idiv, i_irem, i_ishl, i_ishr, i_ladd, i_lsub, i_land, i_lor, i_i2l, i_lushr, i_lshl, i_lshr, i_lcmp, i_dup, i_pop, i_dx1, i_dup2, i_ifeq, i_ifne, i_iflt, i_ifge, i_ifgt, i_ifle, i_iceq, i_icne, i_iclt, i_icge, i_icgt, i_icle, i_ifn, i_gf, i_pf, i_ial, i_bal, i_lal, i_aal, i_ias, i_las, i_bas, i_aas, i_alen, i_newa, i_new, i_anew, i_cast, i_oi, i_call, i_callV, i_callV2, i_callI, i_iret, i_zret, i_lret, i_vret, i_aret, i_mmx, i_mmn, i_gsE, i_aceq, i_no, i_acq, i_sw, zsw, zlg, zls, znl, zfg, zcs, zsp, zrc, zisn, zft, zc1, zto, Value.category, List.set_cons_zero, List.set_cons_succ, List.length_cons, List.length_nil, Option.toList, List.append, List.nil_append, List.cons_append, true_and, and_true, Nat.add_zero, Nat.zero_le, Nat.zero_add, Nat.le_refl, Nat.reduceAdd, Nat.reduceLeDiff, co0, z0, zn_0, zn_1, zn_2, zn_3, zn_4, zn_5, zn_8, zn_12, zn_24, zn_121, zn_144, zn_256, zn_300, zn_600, zn_720, zn_1204, zn_1280, zn_2400, zn_4816, zn_14400, zn_90000, h1, h3, h4, zup_s, zup_o hne, zup_o hne2, zup_o (Ne.symm hqp), zup_zup]
      have hin : vp_in (nI i) 5 := vp_in_nI hi (by decide)
      refine ⟨fun h => absurd ((zK (K := 5) (by decide) (n := i) (by omega)).2.1.mp h) (by omega), fun _ => ⟨hin, hin, hm, hin, ?_⟩⟩
      rw [nI_clamp (by omega), nI_1, if_neg (Nat.lt_irrefl i), zul (g := fun j => f j ||| g j) rfl]
      exact ih
    · refine s_Row_addAll_2 hC hN _ _ _ _ _ ?_
      simp only [B_Row_addAll_0, B_Row_addAll_2, B_Row_addAll_28, co_Row_addAll, i_ic, i_lc, i_nul, i_il, i_ll, i_al, i_is, i_as, i_ls, i_inc, i_iadd, i_isub, i_imul, i_iand, i_ior, i_ixor, i_idiv, i_irem, i_ishl, i_ishr, i_ladd, i_lsub, i_land, i_lor, i_i2l, i_lushr, i_lshl, i_lshr, i_lcmp, i_dup, i_pop, i_dx1, i_dup2, i_ifeq, i_ifne, i_iflt, i_ifge, i_ifgt, i_ifle, i_iceq, i_icne, i_iclt, i_icge, i_icgt, i_icle, i_ifn, i_gf, i_pf, i_ial, i_bal, i_lal, i_aal, i_ias, i_las, i_bas, i_aas, i_alen, i_newa, i_new, i_anew, i_cast, i_oi, i_call, i_callV, i_callV2, i_callI, i_iret, i_zret, i_lret, i_vret, i_aret, i_mmx, i_mmn, i_gsE, i_aceq, i_no, i_acq, i_sw, zsw, zlg, zls, znl, zfg, zcs, zsp, zrc, zisn, zft, zc1, zto, Value.category, List.set_cons_zero, List.set_cons_succ, List.length_cons, List.length_nil, Option.toList, List.append, List.nil_append, List.cons_append, true_and, and_true, Nat.add_zero, Nat.zero_le, Nat.zero_add, Nat.le_refl, Nat.reduceAdd, Nat.reduceLeDiff, co0, z0, zn_0, zn_1, zn_2, zn_3, zn_4, zn_5, zn_8, zn_12, zn_24, zn_121, zn_144, zn_256, zn_300, zn_600, zn_720, zn_1204, zn_1280, zn_2400, zn_4816, zn_14400, zn_90000, h1, zup_s, zup_o hne, zup_zup]
      exact ⟨fun _ => hR, fun h => absurd (by decide) h⟩
  refine s_Row_addAll_0 hC hN _ _ _ _ _ ?_
  simp only [B_Row_addAll_0, B_Row_addAll_2, B_Row_addAll_28, co_Row_addAll, i_ic, i_lc, i_nul, i_il, i_ll, i_al, i_is, i_as, i_ls, i_inc, i_iadd, i_isub, i_imul, i_iand, i_ior, i_ixor, i_idiv, i_irem, i_ishl, i_ishr, i_ladd, i_lsub, i_land, i_lor, i_i2l, i_lushr, i_lshl, i_lshr, i_lcmp, i_dup, i_pop, i_dx1, i_dup2, i_ifeq, i_ifne, i_iflt, i_ifge, i_ifgt, i_ifle, i_iceq, i_icne, i_iclt, i_icge, i_icgt, i_icle, i_ifn, i_gf, i_pf, i_ial, i_bal, i_lal, i_aal, i_ias, i_las, i_bas, i_aas, i_alen, i_newa, i_new, i_anew, i_cast, i_oi, i_call, i_callV, i_callV2, i_callI, i_iret, i_zret, i_lret, i_vret, i_aret, i_mmx, i_mmn, i_gsE, i_aceq, i_no, i_acq, i_sw, zsw, zlg, zls, znl, zfg, zcs, zsp, zrc, zisn, zft, zc1, zto, Value.category, List.set_cons_zero, List.set_cons_succ, List.length_cons, List.length_nil, Option.toList, List.append, List.nil_append, List.cons_append, true_and, and_true, Nat.add_zero, Nat.zero_le, Nat.zero_add, Nat.le_refl, Nat.reduceAdd, Nat.reduceLeDiff, co0, z0, zn_0, zn_1, zn_2, zn_3, zn_4, zn_5, zn_8, zn_12, zn_24, zn_121, zn_144, zn_256, zn_300, zn_600, zn_720, zn_1204, zn_1280, zn_2400, zn_4816, zn_14400, zn_90000]
  rw [zlt0, zup_self h2] at loop
  exact loop
def rw_set (f g : Nat → Int64) : Nat → Int64 := fun j => if j < 5 then g j else f j
def T_Row_set (As : List zAV) (M : zMp) (Rt : Option zAV → zMp → Prop) : Prop := ∃ r q f o p g, As = [.inr r, .inr o] ∧ zmo q ∧ q ≠ p ∧ zrow M r q f ∧ zrow M o p g ∧ Rt none (zup M q (zlo (rw_set f g)))
abbrev co_Row_set := co0
theorem dX4_set_0 : decode cX4_set 0 = .ok (.iconst 0, 1) := by decide +kernel
theorem dX4_set_1 : decode cX4_set 1 = .ok (.istore_n 2, 1) := by decide +kernel
theorem dX4_set_2 : decode cX4_set 2 = .ok (.iload_n 2, 1) := by decide +kernel
theorem dX4_set_3 : decode cX4_set 3 = .ok (.iconst 5, 1) := by decide +kernel
theorem dX4_set_4 : decode cX4_set 4 = .ok (.if_icmp .ge 21, 3) := by decide +kernel
theorem dX4_set_7 : decode cX4_set 7 = .ok (.aload_n 0, 1) := by decide +kernel
theorem dX4_set_8 : decode cX4_set 8 = .ok (.getfield 9, 3) := by decide +kernel
theorem dX4_set_11 : decode cX4_set 11 = .ok (.iload_n 2, 1) := by decide +kernel
theorem dX4_set_12 : decode cX4_set 12 = .ok (.aload_n 1, 1) := by decide +kernel
theorem dX4_set_13 : decode cX4_set 13 = .ok (.getfield 9, 3) := by decide +kernel
theorem dX4_set_16 : decode cX4_set 16 = .ok (.iload_n 2, 1) := by decide +kernel
theorem dX4_set_17 : decode cX4_set 17 = .ok (.laload, 1) := by decide +kernel
theorem dX4_set_18 : decode cX4_set 18 = .ok (.lastore, 1) := by decide +kernel
theorem dX4_set_19 : decode cX4_set 19 = .ok (.iinc 2 1, 3) := by decide +kernel
theorem dX4_set_22 : decode cX4_set 22 = .ok (.goto (-20), 3) := by decide +kernel
theorem dX4_set_25 : decode cX4_set 25 = .ok (.return_, 1) := by decide +kernel
def B_Row_set_25 (mc ms : Nat) (Rt : Option zAV → zMp → Prop) (g : Nat → zKT) : zKT :=
  (i_vret mc ms Rt)
set_option maxRecDepth 20000 in
theorem s_Row_set_25 {X : zMa} {mc ms : Nat} {Rt : Option zAV → zMp → Prop} (hC : zCx X RX4 cX4_set 0 0 mc ms (none) false Rt) (hN : zNL X = 3) : zLe (B_Row_set_25 mc ms Rt (zG X)) (zG X 25) :=
  (sd_vret hC dX4_set_25)
def B_Row_set_2 (mc ms : Nat) (Rt : Option zAV → zMp → Prop) (g : Nat → zKT) : zKT :=
  (i_il 2 (i_ic 5 (i_icge (B_Row_set_25 mc ms Rt g) (i_al 0 (i_gf 5 0 (i_il 2 (i_al 1 (i_gf 5 0 (i_il 2 (i_lal (i_las (i_inc 2 1 (g 2)))))))))))))
set_option maxRecDepth 20000 in
theorem s_Row_set_2 {X : zMa} {mc ms : Nat} {Rt : Option zAV → zMp → Prop} (hC : zCx X RX4 cX4_set 0 0 mc ms (none) false Rt) (hN : zNL X = 3) : zLe (B_Row_set_2 mc ms Rt (zG X)) (zG X 2) :=
  (sd_il_n hC rfl dX4_set_2 ((sd_iconst hC (by decide) dX4_set_3 ((sd_icge hC (tgt := 25) (by decide) dX4_set_4 (s_Row_set_25 hC hN) ((sd_al_n hC rfl dX4_set_7 ((sd_gf hC (ci := 5) (fk := 0) rfl wi_Row (by decide) fl_Row_9 (Or.inl rfl) dX4_set_8 ((sd_il_n hC rfl dX4_set_11 ((sd_al_n hC rfl dX4_set_12 ((sd_gf hC (ci := 5) (fk := 0) rfl wi_Row (by decide) fl_Row_9 (Or.inl rfl) dX4_set_13 ((sd_il_n hC rfl dX4_set_16 ((sd_lal hC dX4_set_17 ((sd_las hC dX4_set_18 ((sd_inc hC (by decide) (by rw [hN]; decide) dX4_set_19 ((sd_goto hC (tgt := 2) (by decide) dX4_set_22 (zLe_rfl))))))))))))))))))))))))))
def B_Row_set_0 (mc ms : Nat) (Rt : Option zAV → zMp → Prop) (g : Nat → zKT) : zKT :=
  (i_ic 0 (i_is 2 (g 2)))
set_option maxRecDepth 20000 in
theorem s_Row_set_0 {X : zMa} {mc ms : Nat} {Rt : Option zAV → zMp → Prop} (hC : zCx X RX4 cX4_set 0 0 mc ms (none) false Rt) (hN : zNL X = 3) : zLe (B_Row_set_0 mc ms Rt (zG X)) (zG X 0) :=
  (sd_iconst hC (by decide) dX4_set_0 ((sd_is_n hC rfl (by rw [hN]; decide) dX4_set_1 (zLe_rfl))))
theorem c_Row_set (l : Launch) : zCT l yX4_set cX4_set 3 (none) 0 0 T_Row_set co_Row_set := by
  intro As M Rt hT
  obtain ⟨r, q, f, o, p, g, rfl, hm, hqp, ⟨h1, h2⟩, ⟨h3, h4⟩, hR⟩ := hT
  have hne : r ≠ q := zrow_ne ⟨h1, h2⟩
  have hne2 : o ≠ q := zdf h3 h2 (by simp)
  refine zMet_of false (by decide +kernel) (fun h => by first | rfl | cases h) (Nat.le_of_ble_eq_true rfl) (fun X hN hC => ?_)
  show zG X 0 [some (.inr r), some (.inr o), none] [] M 0 0
  have loop : zG X 2 [some (.inr r), some (.inr o), some (.inl (.int (nI 0)))] [] (zup M q (zlo (fun j => if j < 0 then g j else f j))) 0 0 := by
    refine five (P := fun i => zG X 2 [some (.inr r), some (.inr o), some (.inl (.int (nI i)))] [] (zup M q (zlo (fun j => if j < i then g j else f j))) 0 0) (fun i hi ih => ?_) ?_
    · refine s_Row_set_2 hC hN _ _ _ _ _ ?_
      simp only [B_Row_set_0, B_Row_set_2, B_Row_set_25, co_Row_set, i_ic, i_lc, i_nul, i_il, i_ll, i_al, i_is, i_as, i_ls, i_inc, i_iadd, i_isub, i_imul, i_iand, i_ior, i_ixor, i_idiv, i_irem, i_ishl, i_ishr, i_ladd, i_lsub, i_land, i_lor, i_i2l, i_lushr, i_lshl, i_lshr, i_lcmp, i_dup, i_pop, i_dx1, i_dup2, i_ifeq, i_ifne, i_iflt, i_ifge, i_ifgt, i_ifle, i_iceq, i_icne, i_iclt, i_icge, i_icgt, i_icle, i_ifn, i_gf, i_pf, i_ial, i_bal, i_lal, i_aal, i_ias, i_las, i_bas, i_aas, i_alen, i_newa, i_new, i_anew, i_cast, i_oi, i_call, i_callV, i_callV2, i_callI, i_iret, i_zret, i_lret, i_vret, i_aret, i_mmx, i_mmn, i_gsE, i_aceq, i_no, i_acq, i_sw, zsw, zlg, zls, znl, zfg, zcs, zsp, zrc, zisn, zft, zc1, zto, Value.category, List.set_cons_zero, List.set_cons_succ, List.length_cons, List.length_nil, Option.toList, List.append, List.nil_append, List.cons_append, true_and, and_true, Nat.add_zero, Nat.zero_le, Nat.zero_add, Nat.le_refl, Nat.reduceAdd, Nat.reduceLeDiff, co0, z0, zn_0, zn_1, zn_2, zn_3, zn_4, zn_5, zn_8, zn_12, zn_24, zn_121, zn_144, zn_256, zn_300, zn_600, zn_720, zn_1204, zn_1280, zn_2400, zn_4816, zn_14400, zn_90000, h1, h3, h4, zup_s, zup_o hne, zup_o hne2, zup_o (Ne.symm hqp), zup_zup]
      have hin : vp_in (nI i) 5 := vp_in_nI hi (by decide)
      refine ⟨fun h => absurd ((zK (K := 5) (by decide) (n := i) (by omega)).2.1.mp h) (by omega), fun _ => ⟨hin, hm, hin, ?_⟩⟩
      rw [nI_clamp (by omega), nI_1, zul (g := g) rfl]
      exact ih
    · refine s_Row_set_2 hC hN _ _ _ _ _ ?_
      simp only [B_Row_set_0, B_Row_set_2, B_Row_set_25, co_Row_set, i_ic, i_lc, i_nul, i_il, i_ll, i_al, i_is, i_as, i_ls, i_inc, i_iadd, i_isub, i_imul, i_iand, i_ior, i_ixor, i_idiv, i_irem, i_ishl, i_ishr, i_ladd, i_lsub, i_land, i_lor, i_i2l, i_lushr, i_lshl, i_lshr, i_lcmp, i_dup, i_pop, i_dx1, i_dup2, i_ifeq, i_ifne, i_iflt, i_ifge, i_ifgt, i_ifle, i_iceq, i_icne, i_iclt, i_icge, i_icgt, i_icle, i_ifn, i_gf, i_pf, i_ial, i_bal, i_lal, i_aal, i_ias, i_las, i_bas, i_aas, i_alen, i_newa, i_new, i_anew, i_cast, i_oi, i_call, i_callV, i_callV2, i_callI, i_iret, i_zret, i_lret, i_vret, i_aret, i_mmx, i_mmn, i_gsE, i_aceq, i_no, i_acq, i_sw, zsw, zlg, zls, znl, zfg, zcs, zsp, zrc, zisn, zft, zc1, zto, Value.category, List.set_cons_zero, List.set_cons_succ, List.length_cons, List.length_nil, Option.toList, List.append, List.nil_append, List.cons_append, true_and, and_true, Nat.add_zero, Nat.zero_le, Nat.zero_add, Nat.le_refl, Nat.reduceAdd, Nat.reduceLeDiff, co0, z0, zn_0, zn_1, zn_2, zn_3, zn_4, zn_5, zn_8, zn_12, zn_24, zn_121, zn_144, zn_256, zn_300, zn_600, zn_720, zn_1204, zn_1280, zn_2400, zn_4816, zn_14400, zn_90000, h1, zup_s, zup_o hne, zup_zup]
      exact ⟨fun _ => hR, fun h => absurd (by decide) h⟩
  refine s_Row_set_0 hC hN _ _ _ _ _ ?_
  simp only [B_Row_set_0, B_Row_set_2, B_Row_set_25, co_Row_set, i_ic, i_lc, i_nul, i_il, i_ll, i_al, i_is, i_as, i_ls, i_inc, i_iadd, i_isub, i_imul, i_iand, i_ior, i_ixor, i_idiv, i_irem, i_ishl, i_ishr, i_ladd, i_lsub, i_land, i_lor, i_i2l, i_lushr, i_lshl, i_lshr, i_lcmp, i_dup, i_pop, i_dx1, i_dup2, i_ifeq, i_ifne, i_iflt, i_ifge, i_ifgt, i_ifle, i_iceq, i_icne, i_iclt, i_icge, i_icgt, i_icle, i_ifn, i_gf, i_pf, i_ial, i_bal, i_lal, i_aal, i_ias, i_las, i_bas, i_aas, i_alen, i_newa, i_new, i_anew, i_cast, i_oi, i_call, i_callV, i_callV2, i_callI, i_iret, i_zret, i_lret, i_vret, i_aret, i_mmx, i_mmn, i_gsE, i_aceq, i_no, i_acq, i_sw, zsw, zlg, zls, znl, zfg, zcs, zsp, zrc, zisn, zft, zc1, zto, Value.category, List.set_cons_zero, List.set_cons_succ, List.length_cons, List.length_nil, Option.toList, List.append, List.nil_append, List.cons_append, true_and, and_true, Nat.add_zero, Nat.zero_le, Nat.zero_add, Nat.le_refl, Nat.reduceAdd, Nat.reduceLeDiff, co0, z0, zn_0, zn_1, zn_2, zn_3, zn_4, zn_5, zn_8, zn_12, zn_24, zn_121, zn_144, zn_256, zn_300, zn_600, zn_720, zn_1204, zn_1280, zn_2400, zn_4816, zn_14400, zn_90000]
  rw [zlt0, zup_self h2] at loop
  exact loop
noncomputable def rw_meets (f g : Nat → Int64) : Bool := zd (∃ i, i < 5 ∧ ¬ (f i &&& g i) = 0)
def T_Row_meets (As : List zAV) (M : zMp) (Rt : Option zAV → zMp → Prop) : Prop := ∃ r q f o p g, As = [.inr r, .inr o] ∧ zrow M r q f ∧ zrow M o p g ∧ Rt (some (.inl (.int (zb (rw_meets f g))))) M
abbrev co_Row_meets := co0
theorem dX4_meets_0 : decode cX4_meets 0 = .ok (.iconst 0, 1) := by decide +kernel
theorem dX4_meets_1 : decode cX4_meets 1 = .ok (.istore_n 2, 1) := by decide +kernel
theorem dX4_meets_2 : decode cX4_meets 2 = .ok (.iload_n 2, 1) := by decide +kernel
theorem dX4_meets_3 : decode cX4_meets 3 = .ok (.iconst 5, 1) := by decide +kernel
theorem dX4_meets_4 : decode cX4_meets 4 = .ok (.if_icmp .ge 29, 3) := by decide +kernel
theorem dX4_meets_7 : decode cX4_meets 7 = .ok (.aload_n 0, 1) := by decide +kernel
theorem dX4_meets_8 : decode cX4_meets 8 = .ok (.getfield 9, 3) := by decide +kernel
theorem dX4_meets_11 : decode cX4_meets 11 = .ok (.iload_n 2, 1) := by decide +kernel
theorem dX4_meets_12 : decode cX4_meets 12 = .ok (.laload, 1) := by decide +kernel
theorem dX4_meets_13 : decode cX4_meets 13 = .ok (.aload_n 1, 1) := by decide +kernel
theorem dX4_meets_14 : decode cX4_meets 14 = .ok (.getfield 9, 3) := by decide +kernel
theorem dX4_meets_17 : decode cX4_meets 17 = .ok (.iload_n 2, 1) := by decide +kernel
theorem dX4_meets_18 : decode cX4_meets 18 = .ok (.laload, 1) := by decide +kernel
theorem dX4_meets_19 : decode cX4_meets 19 = .ok (.land, 1) := by decide +kernel
theorem dX4_meets_20 : decode cX4_meets 20 = .ok (.lconst 0, 1) := by decide +kernel
theorem dX4_meets_21 : decode cX4_meets 21 = .ok (.lcmp, 1) := by decide +kernel
theorem dX4_meets_22 : decode cX4_meets 22 = .ok (.ifCond .eq 5, 3) := by decide +kernel
theorem dX4_meets_25 : decode cX4_meets 25 = .ok (.iconst 1, 1) := by decide +kernel
theorem dX4_meets_26 : decode cX4_meets 26 = .ok (.ireturn, 1) := by decide +kernel
theorem dX4_meets_27 : decode cX4_meets 27 = .ok (.iinc 2 1, 3) := by decide +kernel
theorem dX4_meets_30 : decode cX4_meets 30 = .ok (.goto (-28), 3) := by decide +kernel
theorem dX4_meets_33 : decode cX4_meets 33 = .ok (.iconst 0, 1) := by decide +kernel
theorem dX4_meets_34 : decode cX4_meets 34 = .ok (.ireturn, 1) := by decide +kernel
def B_Row_meets_33 (mc ms : Nat) (Rt : Option zAV → zMp → Prop) (g : Nat → zKT) : zKT :=
  (i_ic 0 (i_zret mc ms Rt))
set_option maxRecDepth 20000 in
theorem s_Row_meets_33 {X : zMa} {mc ms : Nat} {Rt : Option zAV → zMp → Prop} (hC : zCx X RX4 cX4_meets 0 0 mc ms (some .boolean) false Rt) (hN : zNL X = 3) : zLe (B_Row_meets_33 mc ms Rt (zG X)) (zG X 33) :=
  (sd_iconst hC (by decide) dX4_meets_33 ((sd_zret hC dX4_meets_34)))
def B_Row_meets_27 (mc ms : Nat) (Rt : Option zAV → zMp → Prop) (g : Nat → zKT) : zKT :=
  (i_inc 2 1 (g 2))
set_option maxRecDepth 20000 in
theorem s_Row_meets_27 {X : zMa} {mc ms : Nat} {Rt : Option zAV → zMp → Prop} (hC : zCx X RX4 cX4_meets 0 0 mc ms (some .boolean) false Rt) (hN : zNL X = 3) : zLe (B_Row_meets_27 mc ms Rt (zG X)) (zG X 27) :=
  (sd_inc hC (by decide) (by rw [hN]; decide) dX4_meets_27 ((sd_goto hC (tgt := 2) (by decide) dX4_meets_30 (zLe_rfl))))
def B_Row_meets_2 (mc ms : Nat) (Rt : Option zAV → zMp → Prop) (g : Nat → zKT) : zKT :=
  (i_il 2 (i_ic 5 (i_icge (B_Row_meets_33 mc ms Rt g) (i_al 0 (i_gf 5 0 (i_il 2 (i_lal (i_al 1 (i_gf 5 0 (i_il 2 (i_lal (i_land (i_lc 0 (i_lcmp (i_ifeq (B_Row_meets_27 mc ms Rt g) (i_ic 1 (i_zret mc ms Rt)))))))))))))))))
set_option maxRecDepth 20000 in
theorem s_Row_meets_2 {X : zMa} {mc ms : Nat} {Rt : Option zAV → zMp → Prop} (hC : zCx X RX4 cX4_meets 0 0 mc ms (some .boolean) false Rt) (hN : zNL X = 3) : zLe (B_Row_meets_2 mc ms Rt (zG X)) (zG X 2) :=
  (sd_il_n hC rfl dX4_meets_2 ((sd_iconst hC (by decide) dX4_meets_3 ((sd_icge hC (tgt := 33) (by decide) dX4_meets_4 (s_Row_meets_33 hC hN) ((sd_al_n hC rfl dX4_meets_7 ((sd_gf hC (ci := 5) (fk := 0) rfl wi_Row (by decide) fl_Row_9 (Or.inl rfl) dX4_meets_8 ((sd_il_n hC rfl dX4_meets_11 ((sd_lal hC dX4_meets_12 ((sd_al_n hC rfl dX4_meets_13 ((sd_gf hC (ci := 5) (fk := 0) rfl wi_Row (by decide) fl_Row_9 (Or.inl rfl) dX4_meets_14 ((sd_il_n hC rfl dX4_meets_17 ((sd_lal hC dX4_meets_18 ((sd_land hC dX4_meets_19 ((sd_lconst hC (by decide) dX4_meets_20 ((sd_lcmp hC dX4_meets_21 ((sd_ifeq hC (tgt := 27) (by decide) dX4_meets_22 (s_Row_meets_27 hC hN) ((sd_iconst hC (by decide) dX4_meets_25 ((sd_zret hC dX4_meets_26)))))))))))))))))))))))))))))))))
def B_Row_meets_0 (mc ms : Nat) (Rt : Option zAV → zMp → Prop) (g : Nat → zKT) : zKT :=
  (i_ic 0 (i_is 2 (g 2)))
set_option maxRecDepth 20000 in
theorem s_Row_meets_0 {X : zMa} {mc ms : Nat} {Rt : Option zAV → zMp → Prop} (hC : zCx X RX4 cX4_meets 0 0 mc ms (some .boolean) false Rt) (hN : zNL X = 3) : zLe (B_Row_meets_0 mc ms Rt (zG X)) (zG X 0) :=
  (sd_iconst hC (by decide) dX4_meets_0 ((sd_is_n hC rfl (by rw [hN]; decide) dX4_meets_1 (zLe_rfl))))
theorem c_Row_meets (l : Launch) : zCT l yX4_meets cX4_meets 3 (some .boolean) 0 0 T_Row_meets co_Row_meets := by
  intro As M Rt hT
  obtain ⟨r, q, f, o, p, g, rfl, ⟨h1, h2⟩, ⟨h3, h4⟩, hR⟩ := hT
  refine zMet_of false (by decide +kernel) (fun h => by first | rfl | cases h) (Nat.le_of_ble_eq_true rfl) (fun X hN hC => ?_)
  show zG X 0 [some (.inr r), some (.inr o), none] [] M 0 0
  have loop : (∀ j, j < 0 → (f j &&& g j) = 0) → zG X 2 [some (.inr r), some (.inr o), some (.inl (.int (nI 0)))] [] M 0 0 := by
    refine five (P := fun i => (∀ j, j < i → (f j &&& g j) = 0) → zG X 2 [some (.inr r), some (.inr o), some (.inl (.int (nI i)))] [] M 0 0) (fun i hi ih hp => ?_) (fun hp => ?_)
    · refine s_Row_meets_2 hC hN _ _ _ _ _ ?_
      simp only [B_Row_meets_0, B_Row_meets_2, B_Row_meets_27, B_Row_meets_33, co_Row_meets, i_ic, i_lc, i_nul, i_il, i_ll, i_al, i_is, i_as, i_ls, i_inc, i_iadd, i_isub, i_imul, i_iand, i_ior, i_ixor, i_idiv, i_irem, i_ishl, i_ishr, i_ladd, i_lsub, i_land, i_lor, i_i2l, i_lushr, i_lshl, i_lshr, i_lcmp, i_dup, i_pop, i_dx1, i_dup2, i_ifeq, i_ifne, i_iflt, i_ifge, i_ifgt, i_ifle, i_iceq, i_icne, i_iclt, i_icge, i_icgt, i_icle, i_ifn, i_gf, i_pf, i_ial, i_bal, i_lal, i_aal, i_ias, i_las, i_bas, i_aas, i_alen, i_newa, i_new, i_anew, i_cast, i_oi, i_call, i_callV, i_callV2, i_callI, i_iret, i_zret, i_lret, i_vret, i_aret, i_mmx, i_mmn, i_gsE, i_aceq, i_no, i_acq, i_sw, zsw, zlg, zls, znl, zfg, zcs, zsp, zrc, zisn, zft, zc1, zto, Value.category, List.set_cons_zero, List.set_cons_succ, List.length_cons, List.length_nil, Option.toList, List.append, List.nil_append, List.cons_append, true_and, and_true, Nat.add_zero, Nat.zero_le, Nat.zero_add, Nat.le_refl, Nat.reduceAdd, Nat.reduceLeDiff, co0, z0, zn_0, zn_1, zn_2, zn_3, zn_4, zn_5, zn_8, zn_12, zn_24, zn_121, zn_144, zn_256, zn_300, zn_600, zn_720, zn_1204, zn_1280, zn_2400, zn_4816, zn_14400, zn_90000, h1, h2, h3, h4]
      have hin : vp_in (nI i) 5 := vp_in_nI hi (by decide)
      rw [nI_clamp (by omega), nI_1, lg_cmp_eq]
      refine ⟨fun h => absurd ((zK (K := 5) (by decide) (n := i) (by omega)).2.1.mp h) (by omega), fun _ => ⟨hin, hin, fun hz => ih (lt_s hp hz), fun hz => ⟨Or.inr trivial, ?_⟩⟩⟩
      have : rw_meets f g = true := zd_t ⟨i, hi, hz⟩
      rw [this] at hR
      exact hR
    · refine s_Row_meets_2 hC hN _ _ _ _ _ ?_
      simp only [B_Row_meets_0, B_Row_meets_2, B_Row_meets_27, B_Row_meets_33, co_Row_meets, i_ic, i_lc, i_nul, i_il, i_ll, i_al, i_is, i_as, i_ls, i_inc, i_iadd, i_isub, i_imul, i_iand, i_ior, i_ixor, i_idiv, i_irem, i_ishl, i_ishr, i_ladd, i_lsub, i_land, i_lor, i_i2l, i_lushr, i_lshl, i_lshr, i_lcmp, i_dup, i_pop, i_dx1, i_dup2, i_ifeq, i_ifne, i_iflt, i_ifge, i_ifgt, i_ifle, i_iceq, i_icne, i_iclt, i_icge, i_icgt, i_icle, i_ifn, i_gf, i_pf, i_ial, i_bal, i_lal, i_aal, i_ias, i_las, i_bas, i_aas, i_alen, i_newa, i_new, i_anew, i_cast, i_oi, i_call, i_callV, i_callV2, i_callI, i_iret, i_zret, i_lret, i_vret, i_aret, i_mmx, i_mmn, i_gsE, i_aceq, i_no, i_acq, i_sw, zsw, zlg, zls, znl, zfg, zcs, zsp, zrc, zisn, zft, zc1, zto, Value.category, List.set_cons_zero, List.set_cons_succ, List.length_cons, List.length_nil, Option.toList, List.append, List.nil_append, List.cons_append, true_and, and_true, Nat.add_zero, Nat.zero_le, Nat.zero_add, Nat.le_refl, Nat.reduceAdd, Nat.reduceLeDiff, co0, z0, zn_0, zn_1, zn_2, zn_3, zn_4, zn_5, zn_8, zn_12, zn_24, zn_121, zn_144, zn_256, zn_300, zn_600, zn_720, zn_1204, zn_1280, zn_2400, zn_4816, zn_14400, zn_90000, h1, h2, h3, h4]
      refine ⟨fun _ => ⟨Or.inl trivial, ?_⟩, fun h => absurd (by decide) h⟩
      have : rw_meets f g = false := zd_f (fun ⟨i, hi, hz⟩ => hz (hp i hi))
      rw [this] at hR
      exact hR
  refine s_Row_meets_0 hC hN _ _ _ _ _ ?_
  simp only [B_Row_meets_0, B_Row_meets_2, B_Row_meets_27, B_Row_meets_33, co_Row_meets, i_ic, i_lc, i_nul, i_il, i_ll, i_al, i_is, i_as, i_ls, i_inc, i_iadd, i_isub, i_imul, i_iand, i_ior, i_ixor, i_idiv, i_irem, i_ishl, i_ishr, i_ladd, i_lsub, i_land, i_lor, i_i2l, i_lushr, i_lshl, i_lshr, i_lcmp, i_dup, i_pop, i_dx1, i_dup2, i_ifeq, i_ifne, i_iflt, i_ifge, i_ifgt, i_ifle, i_iceq, i_icne, i_iclt, i_icge, i_icgt, i_icle, i_ifn, i_gf, i_pf, i_ial, i_bal, i_lal, i_aal, i_ias, i_las, i_bas, i_aas, i_alen, i_newa, i_new, i_anew, i_cast, i_oi, i_call, i_callV, i_callV2, i_callI, i_iret, i_zret, i_lret, i_vret, i_aret, i_mmx, i_mmn, i_gsE, i_aceq, i_no, i_acq, i_sw, zsw, zlg, zls, znl, zfg, zcs, zsp, zrc, zisn, zft, zc1, zto, Value.category, List.set_cons_zero, List.set_cons_succ, List.length_cons, List.length_nil, Option.toList, List.append, List.nil_append, List.cons_append, true_and, and_true, Nat.add_zero, Nat.zero_le, Nat.zero_add, Nat.le_refl, Nat.reduceAdd, Nat.reduceLeDiff, co0, z0, zn_0, zn_1, zn_2, zn_3, zn_4, zn_5, zn_8, zn_12, zn_24, zn_121, zn_144, zn_256, zn_300, zn_600, zn_720, zn_1204, zn_1280, zn_2400, zn_4816, zn_14400, zn_90000]
  exact loop (fun j hj => absurd hj (Nat.not_lt_zero j))
noncomputable def rw_same (f g : Nat → Int64) : Bool := zd (∀ i, i < 5 → f i = g i)
def T_Row_sameAs (As : List zAV) (M : zMp) (Rt : Option zAV → zMp → Prop) : Prop := ∃ r q f o p g, As = [.inr r, .inr o] ∧ zrow M r q f ∧ zrow M o p g ∧ Rt (some (.inl (.int (zb (rw_same f g))))) M
abbrev co_Row_sameAs := co0
theorem dX4_sameAs_0 : decode cX4_sameAs 0 = .ok (.iconst 0, 1) := by decide +kernel
theorem dX4_sameAs_1 : decode cX4_sameAs 1 = .ok (.istore_n 2, 1) := by decide +kernel
theorem dX4_sameAs_2 : decode cX4_sameAs 2 = .ok (.iload_n 2, 1) := by decide +kernel
theorem dX4_sameAs_3 : decode cX4_sameAs 3 = .ok (.iconst 5, 1) := by decide +kernel
theorem dX4_sameAs_4 : decode cX4_sameAs 4 = .ok (.if_icmp .ge 27, 3) := by decide +kernel
theorem dX4_sameAs_7 : decode cX4_sameAs 7 = .ok (.aload_n 0, 1) := by decide +kernel
theorem dX4_sameAs_8 : decode cX4_sameAs 8 = .ok (.getfield 9, 3) := by decide +kernel
theorem dX4_sameAs_11 : decode cX4_sameAs 11 = .ok (.iload_n 2, 1) := by decide +kernel
theorem dX4_sameAs_12 : decode cX4_sameAs 12 = .ok (.laload, 1) := by decide +kernel
theorem dX4_sameAs_13 : decode cX4_sameAs 13 = .ok (.aload_n 1, 1) := by decide +kernel
theorem dX4_sameAs_14 : decode cX4_sameAs 14 = .ok (.getfield 9, 3) := by decide +kernel
theorem dX4_sameAs_17 : decode cX4_sameAs 17 = .ok (.iload_n 2, 1) := by decide +kernel
theorem dX4_sameAs_18 : decode cX4_sameAs 18 = .ok (.laload, 1) := by decide +kernel
theorem dX4_sameAs_19 : decode cX4_sameAs 19 = .ok (.lcmp, 1) := by decide +kernel
theorem dX4_sameAs_20 : decode cX4_sameAs 20 = .ok (.ifCond .eq 5, 3) := by decide +kernel
theorem dX4_sameAs_23 : decode cX4_sameAs 23 = .ok (.iconst 0, 1) := by decide +kernel
theorem dX4_sameAs_24 : decode cX4_sameAs 24 = .ok (.ireturn, 1) := by decide +kernel
theorem dX4_sameAs_25 : decode cX4_sameAs 25 = .ok (.iinc 2 1, 3) := by decide +kernel
theorem dX4_sameAs_28 : decode cX4_sameAs 28 = .ok (.goto (-26), 3) := by decide +kernel
theorem dX4_sameAs_31 : decode cX4_sameAs 31 = .ok (.iconst 1, 1) := by decide +kernel
theorem dX4_sameAs_32 : decode cX4_sameAs 32 = .ok (.ireturn, 1) := by decide +kernel
def B_Row_sameAs_31 (mc ms : Nat) (Rt : Option zAV → zMp → Prop) (g : Nat → zKT) : zKT :=
  (i_ic 1 (i_zret mc ms Rt))
set_option maxRecDepth 20000 in
theorem s_Row_sameAs_31 {X : zMa} {mc ms : Nat} {Rt : Option zAV → zMp → Prop} (hC : zCx X RX4 cX4_sameAs 0 0 mc ms (some .boolean) false Rt) (hN : zNL X = 3) : zLe (B_Row_sameAs_31 mc ms Rt (zG X)) (zG X 31) :=
  (sd_iconst hC (by decide) dX4_sameAs_31 ((sd_zret hC dX4_sameAs_32)))
def B_Row_sameAs_25 (mc ms : Nat) (Rt : Option zAV → zMp → Prop) (g : Nat → zKT) : zKT :=
  (i_inc 2 1 (g 2))
set_option maxRecDepth 20000 in
theorem s_Row_sameAs_25 {X : zMa} {mc ms : Nat} {Rt : Option zAV → zMp → Prop} (hC : zCx X RX4 cX4_sameAs 0 0 mc ms (some .boolean) false Rt) (hN : zNL X = 3) : zLe (B_Row_sameAs_25 mc ms Rt (zG X)) (zG X 25) :=
  (sd_inc hC (by decide) (by rw [hN]; decide) dX4_sameAs_25 ((sd_goto hC (tgt := 2) (by decide) dX4_sameAs_28 (zLe_rfl))))
def B_Row_sameAs_2 (mc ms : Nat) (Rt : Option zAV → zMp → Prop) (g : Nat → zKT) : zKT :=
  (i_il 2 (i_ic 5 (i_icge (B_Row_sameAs_31 mc ms Rt g) (i_al 0 (i_gf 5 0 (i_il 2 (i_lal (i_al 1 (i_gf 5 0 (i_il 2 (i_lal (i_lcmp (i_ifeq (B_Row_sameAs_25 mc ms Rt g) (i_ic 0 (i_zret mc ms Rt)))))))))))))))
set_option maxRecDepth 20000 in
theorem s_Row_sameAs_2 {X : zMa} {mc ms : Nat} {Rt : Option zAV → zMp → Prop} (hC : zCx X RX4 cX4_sameAs 0 0 mc ms (some .boolean) false Rt) (hN : zNL X = 3) : zLe (B_Row_sameAs_2 mc ms Rt (zG X)) (zG X 2) :=
  (sd_il_n hC rfl dX4_sameAs_2 ((sd_iconst hC (by decide) dX4_sameAs_3 ((sd_icge hC (tgt := 31) (by decide) dX4_sameAs_4 (s_Row_sameAs_31 hC hN) ((sd_al_n hC rfl dX4_sameAs_7 ((sd_gf hC (ci := 5) (fk := 0) rfl wi_Row (by decide) fl_Row_9 (Or.inl rfl) dX4_sameAs_8 ((sd_il_n hC rfl dX4_sameAs_11 ((sd_lal hC dX4_sameAs_12 ((sd_al_n hC rfl dX4_sameAs_13 ((sd_gf hC (ci := 5) (fk := 0) rfl wi_Row (by decide) fl_Row_9 (Or.inl rfl) dX4_sameAs_14 ((sd_il_n hC rfl dX4_sameAs_17 ((sd_lal hC dX4_sameAs_18 ((sd_lcmp hC dX4_sameAs_19 ((sd_ifeq hC (tgt := 25) (by decide) dX4_sameAs_20 (s_Row_sameAs_25 hC hN) ((sd_iconst hC (by decide) dX4_sameAs_23 ((sd_zret hC dX4_sameAs_24)))))))))))))))))))))))))))))
def B_Row_sameAs_0 (mc ms : Nat) (Rt : Option zAV → zMp → Prop) (g : Nat → zKT) : zKT :=
  (i_ic 0 (i_is 2 (g 2)))
set_option maxRecDepth 20000 in
theorem s_Row_sameAs_0 {X : zMa} {mc ms : Nat} {Rt : Option zAV → zMp → Prop} (hC : zCx X RX4 cX4_sameAs 0 0 mc ms (some .boolean) false Rt) (hN : zNL X = 3) : zLe (B_Row_sameAs_0 mc ms Rt (zG X)) (zG X 0) :=
  (sd_iconst hC (by decide) dX4_sameAs_0 ((sd_is_n hC rfl (by rw [hN]; decide) dX4_sameAs_1 (zLe_rfl))))
theorem c_Row_sameAs (l : Launch) : zCT l yX4_sameAs cX4_sameAs 3 (some .boolean) 0 0 T_Row_sameAs co_Row_sameAs := by
  intro As M Rt hT
  obtain ⟨r, q, f, o, p, g, rfl, ⟨h1, h2⟩, ⟨h3, h4⟩, hR⟩ := hT
  refine zMet_of false (by decide +kernel) (fun h => by first | rfl | cases h) (Nat.le_of_ble_eq_true rfl) (fun X hN hC => ?_)
  show zG X 0 [some (.inr r), some (.inr o), none] [] M 0 0
  have loop : (∀ j, j < 0 → f j = g j) → zG X 2 [some (.inr r), some (.inr o), some (.inl (.int (nI 0)))] [] M 0 0 := by
    refine five (P := fun i => (∀ j, j < i → f j = g j) → zG X 2 [some (.inr r), some (.inr o), some (.inl (.int (nI i)))] [] M 0 0) (fun i hi ih hp => ?_) (fun hp => ?_)
    · refine s_Row_sameAs_2 hC hN _ _ _ _ _ ?_
      simp only [B_Row_sameAs_0, B_Row_sameAs_2, B_Row_sameAs_25, B_Row_sameAs_31, co_Row_sameAs, i_ic, i_lc, i_nul, i_il, i_ll, i_al, i_is, i_as, i_ls, i_inc, i_iadd, i_isub, i_imul, i_iand, i_ior, i_ixor, i_idiv, i_irem, i_ishl, i_ishr, i_ladd, i_lsub, i_land, i_lor, i_i2l, i_lushr, i_lshl, i_lshr, i_lcmp, i_dup, i_pop, i_dx1, i_dup2, i_ifeq, i_ifne, i_iflt, i_ifge, i_ifgt, i_ifle, i_iceq, i_icne, i_iclt, i_icge, i_icgt, i_icle, i_ifn, i_gf, i_pf, i_ial, i_bal, i_lal, i_aal, i_ias, i_las, i_bas, i_aas, i_alen, i_newa, i_new, i_anew, i_cast, i_oi, i_call, i_callV, i_callV2, i_callI, i_iret, i_zret, i_lret, i_vret, i_aret, i_mmx, i_mmn, i_gsE, i_aceq, i_no, i_acq, i_sw, zsw, zlg, zls, znl, zfg, zcs, zsp, zrc, zisn, zft, zc1, zto, Value.category, List.set_cons_zero, List.set_cons_succ, List.length_cons, List.length_nil, Option.toList, List.append, List.nil_append, List.cons_append, true_and, and_true, Nat.add_zero, Nat.zero_le, Nat.zero_add, Nat.le_refl, Nat.reduceAdd, Nat.reduceLeDiff, co0, z0, zn_0, zn_1, zn_2, zn_3, zn_4, zn_5, zn_8, zn_12, zn_24, zn_121, zn_144, zn_256, zn_300, zn_600, zn_720, zn_1204, zn_1280, zn_2400, zn_4816, zn_14400, zn_90000, h1, h2, h3, h4]
      have hin : vp_in (nI i) 5 := vp_in_nI hi (by decide)
      rw [nI_clamp (by omega), nI_1, lg_cmp_eq]
      refine ⟨fun h => absurd ((zK (K := 5) (by decide) (n := i) (by omega)).2.1.mp h) (by omega), fun _ => ⟨hin, hin, fun hz => ih (lt_s hp hz), fun hz => ⟨Or.inl trivial, ?_⟩⟩⟩
      have : rw_same f g = false := zd_f (fun h => hz (h i hi))
      rw [this] at hR
      exact hR
    · refine s_Row_sameAs_2 hC hN _ _ _ _ _ ?_
      simp only [B_Row_sameAs_0, B_Row_sameAs_2, B_Row_sameAs_25, B_Row_sameAs_31, co_Row_sameAs, i_ic, i_lc, i_nul, i_il, i_ll, i_al, i_is, i_as, i_ls, i_inc, i_iadd, i_isub, i_imul, i_iand, i_ior, i_ixor, i_idiv, i_irem, i_ishl, i_ishr, i_ladd, i_lsub, i_land, i_lor, i_i2l, i_lushr, i_lshl, i_lshr, i_lcmp, i_dup, i_pop, i_dx1, i_dup2, i_ifeq, i_ifne, i_iflt, i_ifge, i_ifgt, i_ifle, i_iceq, i_icne, i_iclt, i_icge, i_icgt, i_icle, i_ifn, i_gf, i_pf, i_ial, i_bal, i_lal, i_aal, i_ias, i_las, i_bas, i_aas, i_alen, i_newa, i_new, i_anew, i_cast, i_oi, i_call, i_callV, i_callV2, i_callI, i_iret, i_zret, i_lret, i_vret, i_aret, i_mmx, i_mmn, i_gsE, i_aceq, i_no, i_acq, i_sw, zsw, zlg, zls, znl, zfg, zcs, zsp, zrc, zisn, zft, zc1, zto, Value.category, List.set_cons_zero, List.set_cons_succ, List.length_cons, List.length_nil, Option.toList, List.append, List.nil_append, List.cons_append, true_and, and_true, Nat.add_zero, Nat.zero_le, Nat.zero_add, Nat.le_refl, Nat.reduceAdd, Nat.reduceLeDiff, co0, z0, zn_0, zn_1, zn_2, zn_3, zn_4, zn_5, zn_8, zn_12, zn_24, zn_121, zn_144, zn_256, zn_300, zn_600, zn_720, zn_1204, zn_1280, zn_2400, zn_4816, zn_14400, zn_90000, h1, h2, h3, h4]
      refine ⟨fun _ => ⟨Or.inr trivial, ?_⟩, fun h => absurd (by decide) h⟩
      have : rw_same f g = true := zd_t hp
      rw [this] at hR
      exact hR
  refine s_Row_sameAs_0 hC hN _ _ _ _ _ ?_
  simp only [B_Row_sameAs_0, B_Row_sameAs_2, B_Row_sameAs_25, B_Row_sameAs_31, co_Row_sameAs, i_ic, i_lc, i_nul, i_il, i_ll, i_al, i_is, i_as, i_ls, i_inc, i_iadd, i_isub, i_imul, i_iand, i_ior, i_ixor, i_idiv, i_irem, i_ishl, i_ishr, i_ladd, i_lsub, i_land, i_lor, i_i2l, i_lushr, i_lshl, i_lshr, i_lcmp, i_dup, i_pop, i_dx1, i_dup2, i_ifeq, i_ifne, i_iflt, i_ifge, i_ifgt, i_ifle, i_iceq, i_icne, i_iclt, i_icge, i_icgt, i_icle, i_ifn, i_gf, i_pf, i_ial, i_bal, i_lal, i_aal, i_ias, i_las, i_bas, i_aas, i_alen, i_newa, i_new, i_anew, i_cast, i_oi, i_call, i_callV, i_callV2, i_callI, i_iret, i_zret, i_lret, i_vret, i_aret, i_mmx, i_mmn, i_gsE, i_aceq, i_no, i_acq, i_sw, zsw, zlg, zls, znl, zfg, zcs, zsp, zrc, zisn, zft, zc1, zto, Value.category, List.set_cons_zero, List.set_cons_succ, List.length_cons, List.length_nil, Option.toList, List.append, List.nil_append, List.cons_append, true_and, and_true, Nat.add_zero, Nat.zero_le, Nat.zero_add, Nat.le_refl, Nat.reduceAdd, Nat.reduceLeDiff, co0, z0, zn_0, zn_1, zn_2, zn_3, zn_4, zn_5, zn_8, zn_12, zn_24, zn_121, zn_144, zn_256, zn_300, zn_600, zn_720, zn_1204, zn_1280, zn_2400, zn_4816, zn_14400, zn_90000]
  exact loop (fun j hj => absurd hj (Nat.not_lt_zero j))
/-- the i-th number of a row, looked for from w on, b numbers seen -/
def rw_nthA (f : Nat → Int64) (i : Int32) : Nat → Nat → Int32 → Int32
  | 0, _, _ => -1
  | n + 1, w, b => if zbit f w = true then (if b = i then nI w else rw_nthA f i n (w + 1) (b + 1)) else rw_nthA f i n (w + 1) b
def T_Row_nth (As : List zAV) (M : zMp) (Rt : Option zAV → zMp → Prop) : Prop := ∃ r q f i, As = [.inr r, .inl (.int i)] ∧ zrow M r q f ∧ Rt (some (.inl (.int (rw_nthA f i 300 0 0)))) M
abbrev co_Row_nth := co0
theorem dX4_nth_0 : decode cX4_nth 0 = .ok (.iconst 0, 1) := by decide +kernel
theorem dX4_nth_1 : decode cX4_nth 1 = .ok (.istore_n 2, 1) := by decide +kernel
theorem dX4_nth_2 : decode cX4_nth 2 = .ok (.iconst 0, 1) := by decide +kernel
theorem dX4_nth_3 : decode cX4_nth 3 = .ok (.istore_n 3, 1) := by decide +kernel
theorem dX4_nth_4 : decode cX4_nth 4 = .ok (.iload_n 3, 1) := by decide +kernel
theorem dX4_nth_5 : decode cX4_nth 5 = .ok (.sipush 300, 3) := by decide +kernel
theorem dX4_nth_8 : decode cX4_nth 8 = .ok (.if_icmp .ge 27, 3) := by decide +kernel
theorem dX4_nth_11 : decode cX4_nth 11 = .ok (.aload_n 0, 1) := by decide +kernel
theorem dX4_nth_12 : decode cX4_nth 12 = .ok (.iload_n 3, 1) := by decide +kernel
theorem dX4_nth_13 : decode cX4_nth 13 = .ok (.invokevirtual 15, 3) := by decide +kernel
theorem dX4_nth_16 : decode cX4_nth 16 = .ok (.ifCond .eq 13, 3) := by decide +kernel
theorem dX4_nth_19 : decode cX4_nth 19 = .ok (.iload_n 2, 1) := by decide +kernel
theorem dX4_nth_20 : decode cX4_nth 20 = .ok (.iload_n 1, 1) := by decide +kernel
theorem dX4_nth_21 : decode cX4_nth 21 = .ok (.if_icmp .ne 5, 3) := by decide +kernel
theorem dX4_nth_24 : decode cX4_nth 24 = .ok (.iload_n 3, 1) := by decide +kernel
theorem dX4_nth_25 : decode cX4_nth 25 = .ok (.ireturn, 1) := by decide +kernel
theorem dX4_nth_26 : decode cX4_nth 26 = .ok (.iinc 2 1, 3) := by decide +kernel
theorem dX4_nth_29 : decode cX4_nth 29 = .ok (.iinc 3 1, 3) := by decide +kernel
theorem dX4_nth_32 : decode cX4_nth 32 = .ok (.goto (-28), 3) := by decide +kernel
theorem dX4_nth_35 : decode cX4_nth 35 = .ok (.iconst (-1), 1) := by decide +kernel
theorem dX4_nth_36 : decode cX4_nth 36 = .ok (.ireturn, 1) := by decide +kernel
def B_Row_nth_35 (mc ms : Nat) (Rt : Option zAV → zMp → Prop) (g : Nat → zKT) : zKT :=
  (i_ic (-1) (i_iret mc ms Rt))
set_option maxRecDepth 20000 in
theorem s_Row_nth_35 {X : zMa} {mc ms : Nat} {Rt : Option zAV → zMp → Prop} (hC : zCx X RX4 cX4_nth 1 21 mc ms (some .int) false Rt) (hN : zNL X = 4) : zLe (B_Row_nth_35 mc ms Rt (zG X)) (zG X 35) :=
  (sd_iconst hC (by decide) dX4_nth_35 ((sd_iret hC dX4_nth_36)))
def B_Row_nth_29 (mc ms : Nat) (Rt : Option zAV → zMp → Prop) (g : Nat → zKT) : zKT :=
  (i_inc 3 1 (g 4))
set_option maxRecDepth 20000 in
theorem s_Row_nth_29 {X : zMa} {mc ms : Nat} {Rt : Option zAV → zMp → Prop} (hC : zCx X RX4 cX4_nth 1 21 mc ms (some .int) false Rt) (hN : zNL X = 4) : zLe (B_Row_nth_29 mc ms Rt (zG X)) (zG X 29) :=
  (sd_inc hC (by decide) (by rw [hN]; decide) dX4_nth_29 ((sd_goto hC (tgt := 4) (by decide) dX4_nth_32 (zLe_rfl))))
def B_Row_nth_26 (mc ms : Nat) (Rt : Option zAV → zMp → Prop) (g : Nat → zKT) : zKT :=
  (i_inc 2 1 (B_Row_nth_29 mc ms Rt g))
set_option maxRecDepth 20000 in
theorem s_Row_nth_26 {X : zMa} {mc ms : Nat} {Rt : Option zAV → zMp → Prop} (hC : zCx X RX4 cX4_nth 1 21 mc ms (some .int) false Rt) (hN : zNL X = 4) : zLe (B_Row_nth_26 mc ms Rt (zG X)) (zG X 26) :=
  (sd_inc hC (by decide) (by rw [hN]; decide) dX4_nth_26 (s_Row_nth_29 hC hN))
def B_Row_nth_4 (mc ms : Nat) (Rt : Option zAV → zMp → Prop) (g : Nat → zKT) : zKT :=
  (i_il 3 (i_ic 300 (i_icge (B_Row_nth_35 mc ms Rt g) (i_al 0 (i_il 3 (i_callV mc ms 5 2 T_Row_has co_Row_has (i_ifeq (B_Row_nth_29 mc ms Rt g) (i_il 2 (i_il 1 (i_icne (B_Row_nth_26 mc ms Rt g) (i_il 3 (i_iret mc ms Rt))))))))))))
set_option maxRecDepth 20000 in
theorem s_Row_nth_4 {X : zMa} {mc ms : Nat} {Rt : Option zAV → zMp → Prop} (hC : zCx X RX4 cX4_nth 1 21 mc ms (some .int) false Rt) (hN : zNL X = 4) : zLe (B_Row_nth_4 mc ms Rt (zG X)) (zG X 4) :=
  (sd_il_n hC rfl dX4_nth_4 ((sd_sipush hC (by decide) dX4_nth_5 ((sd_icge hC (tgt := 35) (by decide) dX4_nth_8 (s_Row_nth_35 hC hN) ((sd_al_n hC rfl dX4_nth_11 ((sd_il_n hC rfl dX4_nth_12 ((sd_cV hC c_Row_has yv_Row_has (ci := 5) rfl rfl ml_Row_15 (by decide) (by decide) dX4_nth_13 ((sd_ifeq hC (tgt := 29) (by decide) dX4_nth_16 (s_Row_nth_29 hC hN) ((sd_il_n hC rfl dX4_nth_19 ((sd_il_n hC rfl dX4_nth_20 ((sd_icne hC (tgt := 26) (by decide) dX4_nth_21 (s_Row_nth_26 hC hN) ((sd_il_n hC rfl dX4_nth_24 ((sd_iret hC dX4_nth_25)))))))))))))))))))))))
def B_Row_nth_0 (mc ms : Nat) (Rt : Option zAV → zMp → Prop) (g : Nat → zKT) : zKT :=
  (i_ic 0 (i_is 2 (i_ic 0 (i_is 3 (g 4)))))
set_option maxRecDepth 20000 in
theorem s_Row_nth_0 {X : zMa} {mc ms : Nat} {Rt : Option zAV → zMp → Prop} (hC : zCx X RX4 cX4_nth 1 21 mc ms (some .int) false Rt) (hN : zNL X = 4) : zLe (B_Row_nth_0 mc ms Rt (zG X)) (zG X 0) :=
  (sd_iconst hC (by decide) dX4_nth_0 ((sd_is_n hC rfl (by rw [hN]; decide) dX4_nth_1 ((sd_iconst hC (by decide) dX4_nth_2 ((sd_is_n hC rfl (by rw [hN]; decide) dX4_nth_3 (zLe_rfl))))))))
theorem c_Row_nth (l : Launch) : zCT l yX4_nth cX4_nth 4 (some .int) 1 21 T_Row_nth co_Row_nth := by
  intro As M Rt hT
  obtain ⟨r, q, f, i, rfl, ⟨h1, h2⟩, hR⟩ := hT
  refine zMet_of false (by decide +kernel) (fun h => by first | rfl | cases h) (Nat.le_of_ble_eq_true rfl) (fun X hN hC => ?_)
  show zG X 0 [some (.inr r), some (.inl (.int i)), none, none] [] M 0 0
  have loop : ∀ n w b, w + n = 300 → Rt (some (.inl (.int (rw_nthA f i n w b)))) M → zG X 4 [some (.inr r), some (.inl (.int i)), some (.inl (.int b)), some (.inl (.int (nI w)))] [] M 0 0 := by
    intro n
    induction n with
    | zero =>
      intro w b hw hr
      refine s_Row_nth_4 hC hN _ _ _ _ _ ?_
      simp only [B_Row_nth_0, B_Row_nth_4, B_Row_nth_26, B_Row_nth_29, B_Row_nth_35, co_Row_has, co_Row_nth, i_ic, i_lc, i_nul, i_il, i_ll, i_al, i_is, i_as, i_ls, i_inc, i_iadd, i_isub, i_imul, i_iand, i_ior, i_ixor, i_idiv, i_irem, i_ishl, i_ishr, i_ladd, i_lsub, i_land, i_lor, i_i2l, i_lushr, i_lshl, i_lshr, i_lcmp, i_dup, i_pop, i_dx1, i_dup2, i_ifeq, i_ifne, i_iflt, i_ifge, i_ifgt, i_ifle, i_iceq, i_icne, i_iclt, i_icge, i_icgt, i_icle, i_ifn, i_gf, i_pf, i_ial, i_bal, i_lal, i_aal, i_ias, i_las, i_bas, i_aas, i_alen, i_newa, i_new, i_anew, i_cast, i_oi, i_call, i_callV, i_callV2, i_callI, i_iret, i_zret, i_lret, i_vret, i_aret, i_mmx, i_mmn, i_gsE, i_aceq, i_no, i_acq, i_sw, zsw, zlg, zls, znl, zfg, zcs, zsp, zrc, zisn, zft, zc1, zto, Value.category, List.set_cons_zero, List.set_cons_succ, List.length_cons, List.length_nil, Option.toList, List.append, List.nil_append, List.cons_append, true_and, and_true, Nat.add_zero, Nat.zero_le, Nat.zero_add, Nat.le_refl, Nat.reduceAdd, Nat.reduceLeDiff, co0, z0, zn_0, zn_1, zn_2, zn_3, zn_4, zn_5, zn_8, zn_12, zn_24, zn_121, zn_144, zn_256, zn_300, zn_600, zn_720, zn_1204, zn_1280, zn_2400, zn_4816, zn_14400, zn_90000, h1]
      exact ⟨fun _ => hr, fun h => absurd ((zK (K := 300) (by decide) (n := w) (by omega)).2.1.mpr (by omega)) h⟩
    | succ n ih =>
      intro w b hw hr
      refine s_Row_nth_4 hC hN _ _ _ _ _ ?_
      simp only [B_Row_nth_0, B_Row_nth_4, B_Row_nth_26, B_Row_nth_29, B_Row_nth_35, co_Row_has, co_Row_nth, i_ic, i_lc, i_nul, i_il, i_ll, i_al, i_is, i_as, i_ls, i_inc, i_iadd, i_isub, i_imul, i_iand, i_ior, i_ixor, i_idiv, i_irem, i_ishl, i_ishr, i_ladd, i_lsub, i_land, i_lor, i_i2l, i_lushr, i_lshl, i_lshr, i_lcmp, i_dup, i_pop, i_dx1, i_dup2, i_ifeq, i_ifne, i_iflt, i_ifge, i_ifgt, i_ifle, i_iceq, i_icne, i_iclt, i_icge, i_icgt, i_icle, i_ifn, i_gf, i_pf, i_ial, i_bal, i_lal, i_aal, i_ias, i_las, i_bas, i_aas, i_alen, i_newa, i_new, i_anew, i_cast, i_oi, i_call, i_callV, i_callV2, i_callI, i_iret, i_zret, i_lret, i_vret, i_aret, i_mmx, i_mmn, i_gsE, i_aceq, i_no, i_acq, i_sw, zsw, zlg, zls, znl, zfg, zcs, zsp, zrc, zisn, zft, zc1, zto, Value.category, List.set_cons_zero, List.set_cons_succ, List.length_cons, List.length_nil, Option.toList, List.append, List.nil_append, List.cons_append, true_and, and_true, Nat.add_zero, Nat.zero_le, Nat.zero_add, Nat.le_refl, Nat.reduceAdd, Nat.reduceLeDiff, co0, z0, zn_0, zn_1, zn_2, zn_3, zn_4, zn_5, zn_8, zn_12, zn_24, zn_121, zn_144, zn_256, zn_300, zn_600, zn_720, zn_1204, zn_1280, zn_2400, zn_4816, zn_14400, zn_90000, h1]
      refine ⟨fun h => absurd ((zK (K := 300) (by decide) (n := w) (by omega)).2.1.mp h) (by omega), fun _ => ⟨r, q, f, w, rfl, by omega, ⟨h1, h2⟩, ?_⟩⟩
      rw [nI_1]
      cases hb : zbit f w with
      | false =>
        simp only [rw_nthA, hb, if_false, Bool.false_eq_true] at hr
        exact ⟨fun _ => ih (w + 1) b (by omega) hr, fun h => absurd rfl h⟩
      | true =>
        simp only [rw_nthA, hb, if_true] at hr
        refine ⟨fun h => absurd h (by decide), fun _ => ⟨fun hne => ?_, fun he => ?_⟩⟩
        · rw [if_neg hne] at hr
          exact ih (w + 1) (b + 1) (by omega) hr
        · rw [if_pos he] at hr
          exact hr
  refine s_Row_nth_0 hC hN _ _ _ _ _ ?_
  simp only [B_Row_nth_0, B_Row_nth_4, B_Row_nth_26, B_Row_nth_29, B_Row_nth_35, co_Row_has, co_Row_nth, i_ic, i_lc, i_nul, i_il, i_ll, i_al, i_is, i_as, i_ls, i_inc, i_iadd, i_isub, i_imul, i_iand, i_ior, i_ixor, i_idiv, i_irem, i_ishl, i_ishr, i_ladd, i_lsub, i_land, i_lor, i_i2l, i_lushr, i_lshl, i_lshr, i_lcmp, i_dup, i_pop, i_dx1, i_dup2, i_ifeq, i_ifne, i_iflt, i_ifge, i_ifgt, i_ifle, i_iceq, i_icne, i_iclt, i_icge, i_icgt, i_icle, i_ifn, i_gf, i_pf, i_ial, i_bal, i_lal, i_aal, i_ias, i_las, i_bas, i_aas, i_alen, i_newa, i_new, i_anew, i_cast, i_oi, i_call, i_callV, i_callV2, i_callI, i_iret, i_zret, i_lret, i_vret, i_aret, i_mmx, i_mmn, i_gsE, i_aceq, i_no, i_acq, i_sw, zsw, zlg, zls, znl, zfg, zcs, zsp, zrc, zisn, zft, zc1, zto, Value.category, List.set_cons_zero, List.set_cons_succ, List.length_cons, List.length_nil, Option.toList, List.append, List.nil_append, List.cons_append, true_and, and_true, Nat.add_zero, Nat.zero_le, Nat.zero_add, Nat.le_refl, Nat.reduceAdd, Nat.reduceLeDiff, co0, z0, zn_0, zn_1, zn_2, zn_3, zn_4, zn_5, zn_8, zn_12, zn_24, zn_121, zn_144, zn_256, zn_300, zn_600, zn_720, zn_1204, zn_1280, zn_2400, zn_4816, zn_14400, zn_90000]
  exact loop 300 0 0 rfl hR
